theorem d_17_7_0 : decode prog_17_method_7_code 0 = .ok (.iconst 0, 1) := by decide +kernel
theorem d_17_7_1 : decode prog_17_method_7_code 1 = .ok (.istore 4, 2) := by decide +kernel
theorem d_17_7_3 : decode prog_17_method_7_code 3 = .ok (.iload 4, 2) := by decide +kernel
theorem d_17_7_5 : decode prog_17_method_7_code 5 = .ok (.sipush 156, 3) := by decide +kernel
theorem d_17_7_8 : decode prog_17_method_7_code 8 = .ok (.if_icmp .ge 17, 3) := by decide +kernel
theorem d_17_7_25 : decode prog_17_method_7_code 25 = .ok (.lload_n 2, 1) := by decide +kernel
theorem d_17_7_26 : decode prog_17_method_7_code 26 = .ok (.lstore 4, 2) := by decide +kernel
theorem d_17_7_28 : decode prog_17_method_7_code 28 = .ok (.iconst 0, 1) := by decide +kernel
theorem d_17_7_29 : decode prog_17_method_7_code 29 = .ok (.istore 6, 2) := by decide +kernel
theorem d_17_7_31 : decode prog_17_method_7_code 31 = .ok (.lload 4, 2) := by decide +kernel
theorem d_17_7_33 : decode prog_17_method_7_code 33 = .ok (.lconst 0, 1) := by decide +kernel
theorem d_17_7_34 : decode prog_17_method_7_code 34 = .ok (.lcmp, 1) := by decide +kernel
theorem d_17_7_35 : decode prog_17_method_7_code 35 = .ok (.ifCond .le 96, 3) := by decide +kernel
theorem d_17_7_131 : decode prog_17_method_7_code 131 = .ok (.iconst 0, 1) := by decide +kernel
theorem d_17_7_132 : decode prog_17_method_7_code 132 = .ok (.istore 6, 2) := by decide +kernel
theorem d_17_7_134 : decode prog_17_method_7_code 134 = .ok (.iload 6, 2) := by decide +kernel
theorem d_17_7_136 : decode prog_17_method_7_code 136 = .ok (.sipush 156, 3) := by decide +kernel
theorem d_17_7_139 : decode prog_17_method_7_code 139 = .ok (.if_icmp .ge 60, 3) := by decide +kernel
theorem d_17_7_199 : decode prog_17_method_7_code 199 = .ok (.return_, 1) := by decide +kernel
theorem d_17_7_142 : decode prog_17_method_7_code 142 = .ok (.aload_n 0, 1) := by decide +kernel
theorem d_17_7_143 : decode prog_17_method_7_code 143 = .ok (.getfield 13, 3) := by decide +kernel
theorem d_17_7_146 : decode prog_17_method_7_code 146 = .ok (.iload 6, 2) := by decide +kernel
theorem d_17_7_148 : decode prog_17_method_7_code 148 = .ok (.iaload, 1) := by decide +kernel
theorem d_17_7_149 : decode prog_17_method_7_code 149 = .ok (.istore 7, 2) := by decide +kernel
theorem d_17_7_151 : decode prog_17_method_7_code 151 = .ok (.bipush 9, 2) := by decide +kernel
theorem d_17_7_153 : decode prog_17_method_7_code 153 = .ok (.iload 6, 2) := by decide +kernel
theorem d_17_7_155 : decode prog_17_method_7_code 155 = .ok (.imul, 1) := by decide +kernel
theorem d_17_7_156 : decode prog_17_method_7_code 156 = .ok (.istore 8, 2) := by decide +kernel
theorem d_17_7_158 : decode prog_17_method_7_code 158 = .ok (.iload 8, 2) := by decide +kernel
theorem d_17_7_160 : decode prog_17_method_7_code 160 = .ok (.bipush 9, 2) := by decide +kernel
theorem d_17_7_162 : decode prog_17_method_7_code 162 = .ok (.iload 6, 2) := by decide +kernel
theorem d_17_7_164 : decode prog_17_method_7_code 164 = .ok (.imul, 1) := by decide +kernel
theorem d_17_7_165 : decode prog_17_method_7_code 165 = .ok (.bipush 9, 2) := by decide +kernel
theorem d_17_7_167 : decode prog_17_method_7_code 167 = .ok (.iadd, 1) := by decide +kernel
theorem d_17_7_168 : decode prog_17_method_7_code 168 = .ok (.if_icmp .ge 25, 3) := by decide +kernel
theorem d_17_7_193 : decode prog_17_method_7_code 193 = .ok (.iinc 6 1, 3) := by decide +kernel
theorem d_17_7_196 : decode prog_17_method_7_code 196 = .ok (.goto (-62), 3) := by decide +kernel
theorem d_17_7_171 : decode prog_17_method_7_code 171 = .ok (.aload_n 1, 1) := by decide +kernel
theorem d_17_7_172 : decode prog_17_method_7_code 172 = .ok (.iload 8, 2) := by decide +kernel
theorem d_17_7_174 : decode prog_17_method_7_code 174 = .ok (.iload 7, 2) := by decide +kernel
theorem d_17_7_176 : decode prog_17_method_7_code 176 = .ok (.bipush 10, 2) := by decide +kernel
theorem d_17_7_178 : decode prog_17_method_7_code 178 = .ok (.irem, 1) := by decide +kernel
theorem d_17_7_179 : decode prog_17_method_7_code 179 = .ok (.iastore, 1) := by decide +kernel
theorem d_17_7_180 : decode prog_17_method_7_code 180 = .ok (.iload 7, 2) := by decide +kernel
theorem d_17_7_182 : decode prog_17_method_7_code 182 = .ok (.bipush 10, 2) := by decide +kernel
theorem d_17_7_184 : decode prog_17_method_7_code 184 = .ok (.idiv, 1) := by decide +kernel
theorem d_17_7_185 : decode prog_17_method_7_code 185 = .ok (.istore 7, 2) := by decide +kernel
theorem d_17_7_187 : decode prog_17_method_7_code 187 = .ok (.iinc 8 1, 3) := by decide +kernel
theorem d_17_7_190 : decode prog_17_method_7_code 190 = .ok (.goto (-32), 3) := by decide +kernel
theorem d_17_7_38 : decode prog_17_method_7_code 38 = .ok (.lload 4, 2) := by decide +kernel
theorem d_17_7_40 : decode prog_17_method_7_code 40 = .ok (.ldc2_w 59, 3) := by decide +kernel
set_option maxRecDepth 100000 in
theorem w_2614 : (Cond.constantLong "NumberHouseModel$FloatRows" (59 : Nat) (1000000000 : Int64)) ∈ q_tbl := q_of11 214 rfl (by decide +kernel)
theorem d_17_7_43 : decode prog_17_method_7_code 43 = .ok (.lrem, 1) := by decide +kernel
theorem d_17_7_44 : decode prog_17_method_7_code 44 = .ok (.lstore 7, 2) := by decide +kernel
theorem d_17_7_46 : decode prog_17_method_7_code 46 = .ok (.lload 4, 2) := by decide +kernel
theorem d_17_7_48 : decode prog_17_method_7_code 48 = .ok (.ldc2_w 59, 3) := by decide +kernel
theorem d_17_7_51 : decode prog_17_method_7_code 51 = .ok (.ldiv, 1) := by decide +kernel
theorem d_17_7_52 : decode prog_17_method_7_code 52 = .ok (.lstore 4, 2) := by decide +kernel
theorem d_17_7_54 : decode prog_17_method_7_code 54 = .ok (.lconst 0, 1) := by decide +kernel
theorem d_17_7_55 : decode prog_17_method_7_code 55 = .ok (.lstore 9, 2) := by decide +kernel
theorem d_17_7_57 : decode prog_17_method_7_code 57 = .ok (.iload 6, 2) := by decide +kernel
theorem d_17_7_59 : decode prog_17_method_7_code 59 = .ok (.istore 11, 2) := by decide +kernel
theorem d_17_7_61 : decode prog_17_method_7_code 61 = .ok (.iload 11, 2) := by decide +kernel
theorem d_17_7_63 : decode prog_17_method_7_code 63 = .ok (.sipush 156, 3) := by decide +kernel
theorem d_17_7_66 : decode prog_17_method_7_code 66 = .ok (.if_icmp .ge 59, 3) := by decide +kernel
theorem d_17_7_125 : decode prog_17_method_7_code 125 = .ok (.iinc 6 1, 3) := by decide +kernel
theorem d_17_7_128 : decode prog_17_method_7_code 128 = .ok (.goto (-97), 3) := by decide +kernel
theorem d_17_7_69 : decode prog_17_method_7_code 69 = .ok (.lload 9, 2) := by decide +kernel
theorem d_17_7_71 : decode prog_17_method_7_code 71 = .ok (.lload 7, 2) := by decide +kernel
theorem d_17_7_73 : decode prog_17_method_7_code 73 = .ok (.aload_n 0, 1) := by decide +kernel
theorem d_17_7_74 : decode prog_17_method_7_code 74 = .ok (.getfield 7, 3) := by decide +kernel
theorem d_17_7_77 : decode prog_17_method_7_code 77 = .ok (.iload 11, 2) := by decide +kernel
theorem d_17_7_79 : decode prog_17_method_7_code 79 = .ok (.iload 6, 2) := by decide +kernel
theorem d_17_7_81 : decode prog_17_method_7_code 81 = .ok (.isub, 1) := by decide +kernel
theorem d_17_7_82 : decode prog_17_method_7_code 82 = .ok (.iaload, 1) := by decide +kernel
theorem d_17_7_83 : decode prog_17_method_7_code 83 = .ok (.i2l, 1) := by decide +kernel
theorem d_17_7_84 : decode prog_17_method_7_code 84 = .ok (.lmul, 1) := by decide +kernel
theorem d_17_7_85 : decode prog_17_method_7_code 85 = .ok (.ladd, 1) := by decide +kernel
theorem d_17_7_86 : decode prog_17_method_7_code 86 = .ok (.aload_n 0, 1) := by decide +kernel
theorem d_17_7_87 : decode prog_17_method_7_code 87 = .ok (.getfield 13, 3) := by decide +kernel
theorem d_17_7_90 : decode prog_17_method_7_code 90 = .ok (.iload 11, 2) := by decide +kernel
theorem d_17_7_92 : decode prog_17_method_7_code 92 = .ok (.iaload, 1) := by decide +kernel
theorem d_17_7_93 : decode prog_17_method_7_code 93 = .ok (.i2l, 1) := by decide +kernel
theorem d_17_7_94 : decode prog_17_method_7_code 94 = .ok (.ladd, 1) := by decide +kernel
theorem d_17_7_95 : decode prog_17_method_7_code 95 = .ok (.lstore 9, 2) := by decide +kernel
theorem d_17_7_97 : decode prog_17_method_7_code 97 = .ok (.aload_n 0, 1) := by decide +kernel
theorem d_17_7_98 : decode prog_17_method_7_code 98 = .ok (.getfield 13, 3) := by decide +kernel
theorem d_17_7_101 : decode prog_17_method_7_code 101 = .ok (.iload 11, 2) := by decide +kernel
theorem d_17_7_103 : decode prog_17_method_7_code 103 = .ok (.lload 9, 2) := by decide +kernel
theorem d_17_7_105 : decode prog_17_method_7_code 105 = .ok (.ldc2_w 59, 3) := by decide +kernel
theorem d_17_7_108 : decode prog_17_method_7_code 108 = .ok (.lrem, 1) := by decide +kernel
theorem d_17_7_109 : decode prog_17_method_7_code 109 = .ok (.l2i, 1) := by decide +kernel
theorem d_17_7_110 : decode prog_17_method_7_code 110 = .ok (.iastore, 1) := by decide +kernel
theorem d_17_7_111 : decode prog_17_method_7_code 111 = .ok (.lload 9, 2) := by decide +kernel
theorem d_17_7_113 : decode prog_17_method_7_code 113 = .ok (.ldc2_w 59, 3) := by decide +kernel
theorem d_17_7_116 : decode prog_17_method_7_code 116 = .ok (.ldiv, 1) := by decide +kernel
theorem d_17_7_117 : decode prog_17_method_7_code 117 = .ok (.lstore 9, 2) := by decide +kernel
theorem d_17_7_119 : decode prog_17_method_7_code 119 = .ok (.iinc 11 1, 3) := by decide +kernel
theorem d_17_7_122 : decode prog_17_method_7_code 122 = .ok (.goto (-61), 3) := by decide +kernel
theorem d_17_7_11 : decode prog_17_method_7_code 11 = .ok (.aload_n 0, 1) := by decide +kernel
theorem d_17_7_12 : decode prog_17_method_7_code 12 = .ok (.getfield 13, 3) := by decide +kernel
theorem d_17_7_15 : decode prog_17_method_7_code 15 = .ok (.iload 4, 2) := by decide +kernel
theorem d_17_7_17 : decode prog_17_method_7_code 17 = .ok (.iconst 0, 1) := by decide +kernel
theorem d_17_7_18 : decode prog_17_method_7_code 18 = .ok (.iastore, 1) := by decide +kernel
theorem d_17_7_19 : decode prog_17_method_7_code 19 = .ok (.iinc 4 1, 3) := by decide +kernel
theorem d_17_7_22 : decode prog_17_method_7_code 22 = .ok (.goto (-19), 3) := by decide +kernel
def y_FR_set : MethodName := ⟨"NumberHouseModel$FloatRows", "set", "([IJ)V"⟩
def F_FR_set_L158 (K_F_FR_set_L3 : Int32 → (Nat → Int32) → ((Nat → Int32) × (Nat → Int32))) (K_F_FR_set_L31 : Int32 → Int64 → (Nat → Int32) → ((Nat → Int32) × (Nat → Int32))) (K_F_FR_set_L134 : Int32 → (Nat → Int32) → ((Nat → Int32) × (Nat → Int32))) (N2 : Int32) (x3 : Int64) (t0_0 : Int32) (t0_1 : Int32) (t0_2 : Int32) (t0_3 : Int32) (t0_4 : Int64) (t0_5 : Int32) (t0_6 : Int32) (t0_7 : Int64) (t0_8 : Int32) (t0_9 : Int64) (t0_10 : Int32) (t1_0 : (Nat → Int32)) (t2_0 : (Nat → Int32)) (t3_0 : (Nat → Int32)) (lx24 : Int32) (lx25 : (Nat → Int32)) (lx43 : Int32) (lx44 : Int64) (lx45 : (Nat → Int32)) (lx63 : Int32) (lx64 : (Nat → Int32)) : Nat → Int32 → Int32 → (Nat → Int32) → ((Nat → Int32) × (Nat → Int32))
  | 0, _, _, _ => default
  | fm + 1, lx88, lx89, lx90 => if ((9 * lx63 : Int32) + 9 : Int32) ≤ lx88 then (K_F_FR_set_L134 (lx63 + 1 : Int32) lx90) else (F_FR_set_L158 K_F_FR_set_L3 K_F_FR_set_L31 K_F_FR_set_L134 N2 x3 t0_0 t0_1 t0_2 t0_3 t0_4 t0_5 t0_6 t0_7 t0_8 t0_9 t0_10 t1_0 t2_0 t3_0 lx24 lx25 lx43 lx44 lx45 lx63 lx64 fm (lx88 + 1 : Int32) (lx89 / 10 : Int32) (upd lx90 lx88.toNatClampNeg (lx89 - lx89 / 10 * 10 : Int32) : (Nat → Int32)))
def F_FR_set_L134 (K_F_FR_set_L3 : Int32 → (Nat → Int32) → ((Nat → Int32) × (Nat → Int32))) (K_F_FR_set_L31 : Int32 → Int64 → (Nat → Int32) → ((Nat → Int32) × (Nat → Int32))) (N2 : Int32) (x3 : Int64) (t0_0 : Int32) (t0_1 : Int32) (t0_2 : Int32) (t0_3 : Int32) (t0_4 : Int64) (t0_5 : Int32) (t0_6 : Int32) (t0_7 : Int64) (t0_8 : Int32) (t0_9 : Int64) (t0_10 : Int32) (t1_0 : (Nat → Int32)) (t2_0 : (Nat → Int32)) (t3_0 : (Nat → Int32)) (lx24 : Int32) (lx25 : (Nat → Int32)) (lx43 : Int32) (lx44 : Int64) (lx45 : (Nat → Int32)) : Nat → Int32 → (Nat → Int32) → ((Nat → Int32) × (Nat → Int32))
  | 0, _, _ => default
  | fm + 1, lx63, lx64 => if (156 : Int32) ≤ lx63 then ((lx45, lx64)) else (F_FR_set_L158 K_F_FR_set_L3 K_F_FR_set_L31 (F_FR_set_L134 K_F_FR_set_L3 K_F_FR_set_L31 N2 x3 t0_0 t0_1 t0_2 t0_3 t0_4 t0_5 t0_6 t0_7 t0_8 t0_9 t0_10 t1_0 t2_0 t3_0 lx24 lx25 lx43 lx44 lx45 fm) N2 x3 t0_0 t0_1 t0_2 t0_3 t0_4 t0_5 t0_6 t0_7 t0_8 t0_9 t0_10 t1_0 t2_0 t3_0 lx24 lx25 lx43 lx44 lx45 lx63 lx64 ((20200 - (9 * lx63 : Int32).toInt).toNat + 1) (9 * lx63 : Int32) (lx45 lx63.toNatClampNeg : Int32) lx64)
def F_FR_set_L61 (K_F_FR_set_L3 : Int32 → (Nat → Int32) → ((Nat → Int32) × (Nat → Int32))) (K_F_FR_set_L31 : Int32 → Int64 → (Nat → Int32) → ((Nat → Int32) × (Nat → Int32))) (N2 : Int32) (x3 : Int64) (t0_0 : Int32) (t0_1 : Int32) (t0_2 : Int32) (t0_3 : Int32) (t0_4 : Int64) (t0_5 : Int32) (t0_6 : Int32) (t0_7 : Int64) (t0_8 : Int32) (t0_9 : Int64) (t0_10 : Int32) (t1_0 : (Nat → Int32)) (t2_0 : (Nat → Int32)) (t3_0 : (Nat → Int32)) (lx24 : Int32) (lx25 : (Nat → Int32)) (lx43 : Int32) (lx44 : Int64) (lx45 : (Nat → Int32)) (j134 : Int64) (j132 : Int64) : Nat → Int32 → Int64 → (Nat → Int32) → ((Nat → Int32) × (Nat → Int32))
  | 0, _, _, _ => default
  | fm + 1, lx138, lx139, lx140 => if (156 : Int32) ≤ lx138 then (K_F_FR_set_L31 (lx43 + 1 : Int32) j134 lx140) else (F_FR_set_L61 K_F_FR_set_L3 K_F_FR_set_L31 N2 x3 t0_0 t0_1 t0_2 t0_3 t0_4 t0_5 t0_6 t0_7 t0_8 t0_9 t0_10 t1_0 t2_0 t3_0 lx24 lx25 lx43 lx44 lx45 j134 j132 fm (lx138 + 1 : Int32) (((lx139 + (j132 * ((t1_0 (lx138 - lx43 : Int32).toNatClampNeg : Int32).toInt64 : Int64) : Int64) : Int64) + ((lx140 lx138.toNatClampNeg : Int32).toInt64 : Int64) : Int64) / 1000000000 : Int64) (upd lx140 lx138.toNatClampNeg ((((lx139 + (j132 * ((t1_0 (lx138 - lx43 : Int32).toNatClampNeg : Int32).toInt64 : Int64) : Int64) : Int64) + ((lx140 lx138.toNatClampNeg : Int32).toInt64 : Int64) : Int64) - ((lx139 + (j132 * ((t1_0 (lx138 - lx43 : Int32).toNatClampNeg : Int32).toInt64 : Int64) : Int64) : Int64) + ((lx140 lx138.toNatClampNeg : Int32).toInt64 : Int64) : Int64) / 1000000000 * 1000000000 : Int64).toInt32 : Int32) : (Nat → Int32)))
def F_FR_set_L31 (K_F_FR_set_L3 : Int32 → (Nat → Int32) → ((Nat → Int32) × (Nat → Int32))) (N2 : Int32) (x3 : Int64) (t0_0 : Int32) (t0_1 : Int32) (t0_2 : Int32) (t0_3 : Int32) (t0_4 : Int64) (t0_5 : Int32) (t0_6 : Int32) (t0_7 : Int64) (t0_8 : Int32) (t0_9 : Int64) (t0_10 : Int32) (t1_0 : (Nat → Int32)) (t2_0 : (Nat → Int32)) (t3_0 : (Nat → Int32)) (lx24 : Int32) (lx25 : (Nat → Int32)) : Nat → Int32 → Int64 → (Nat → Int32) → ((Nat → Int32) × (Nat → Int32))
  | 0, _, _, _ => default
  | fm + 1, lx43, lx44, lx45 => if (lg_cmp lx44 0 : Int32) ≤ (0 : Int32) then (F_FR_set_L134 K_F_FR_set_L3 (F_FR_set_L31 K_F_FR_set_L3 N2 x3 t0_0 t0_1 t0_2 t0_3 t0_4 t0_5 t0_6 t0_7 t0_8 t0_9 t0_10 t1_0 t2_0 t3_0 lx24 lx25 fm) N2 x3 t0_0 t0_1 t0_2 t0_3 t0_4 t0_5 t0_6 t0_7 t0_8 t0_9 t0_10 t1_0 t2_0 t3_0 lx24 lx25 lx43 lx44 lx45 ((156 - (0 : Int32).toInt).toNat + 1) 0 t3_0) else (F_FR_set_L61 K_F_FR_set_L3 (F_FR_set_L31 K_F_FR_set_L3 N2 x3 t0_0 t0_1 t0_2 t0_3 t0_4 t0_5 t0_6 t0_7 t0_8 t0_9 t0_10 t1_0 t2_0 t3_0 lx24 lx25 fm) N2 x3 t0_0 t0_1 t0_2 t0_3 t0_4 t0_5 t0_6 t0_7 t0_8 t0_9 t0_10 t1_0 t2_0 t3_0 lx24 lx25 lx43 lx44 lx45 (lx44 / 1000000000 : Int64) (lx44 - lx44 / 1000000000 * 1000000000 : Int64) ((156 - lx43.toInt).toNat + 1) lx43 0 lx45)
def F_FR_set_L3 (N2 : Int32) (x3 : Int64) (t0_0 : Int32) (t0_1 : Int32) (t0_2 : Int32) (t0_3 : Int32) (t0_4 : Int64) (t0_5 : Int32) (t0_6 : Int32) (t0_7 : Int64) (t0_8 : Int32) (t0_9 : Int64) (t0_10 : Int32) (t1_0 : (Nat → Int32)) (t2_0 : (Nat → Int32)) (t3_0 : (Nat → Int32)) : Nat → Int32 → (Nat → Int32) → ((Nat → Int32) × (Nat → Int32))
  | 0, _, _ => default
  | fm + 1, lx24, lx25 => if (156 : Int32) ≤ lx24 then (F_FR_set_L31 (F_FR_set_L3 N2 x3 t0_0 t0_1 t0_2 t0_3 t0_4 t0_5 t0_6 t0_7 t0_8 t0_9 t0_10 t1_0 t2_0 t3_0 fm) N2 x3 t0_0 t0_1 t0_2 t0_3 t0_4 t0_5 t0_6 t0_7 t0_8 t0_9 t0_10 t1_0 t2_0 t3_0 lx24 lx25 1000000 0 x3 lx25) else (F_FR_set_L3 N2 x3 t0_0 t0_1 t0_2 t0_3 t0_4 t0_5 t0_6 t0_7 t0_8 t0_9 t0_10 t1_0 t2_0 t3_0 fm (lx24 + 1 : Int32) (upd lx25 lx24.toNatClampNeg 0 : (Nat → Int32)))
def F_FR_set (N2 : Int32) (x3 : Int64) (t0_0 : Int32) (t0_1 : Int32) (t0_2 : Int32) (t0_3 : Int32) (t0_4 : Int64) (t0_5 : Int32) (t0_6 : Int32) (t0_7 : Int64) (t0_8 : Int32) (t0_9 : Int64) (t0_10 : Int32) (t1_0 : (Nat → Int32)) (t2_0 : (Nat → Int32)) (t3_0 : (Nat → Int32)) : (Nat → Int32) × (Nat → Int32) := F_FR_set_L3 N2 x3 t0_0 t0_1 t0_2 t0_3 t0_4 t0_5 t0_6 t0_7 t0_8 t0_9 t0_10 t1_0 t2_0 t3_0 ((156 - (0 : Int32).toInt).toNat + 1) 0 t2_0
def S_FR_set_L158 (K_S_FR_set_L3 : Int32 → (Nat → Int32) → Prop) (K_S_FR_set_L31 : Int32 → Int64 → (Nat → Int32) → Prop) (K_S_FR_set_L134 : Int32 → (Nat → Int32) → Prop) (N2 : Int32) (x3 : Int64) (t0_0 : Int32) (t0_1 : Int32) (t0_2 : Int32) (t0_3 : Int32) (t0_4 : Int64) (t0_5 : Int32) (t0_6 : Int32) (t0_7 : Int64) (t0_8 : Int32) (t0_9 : Int64) (t0_10 : Int32) (t1_0 : (Nat → Int32)) (t2_0 : (Nat → Int32)) (t3_0 : (Nat → Int32)) (lx24 : Int32) (lx25 : (Nat → Int32)) (lx43 : Int32) (lx44 : Int64) (lx45 : (Nat → Int32)) (lx63 : Int32) (lx64 : (Nat → Int32)) : Nat → Int32 → Int32 → (Nat → Int32) → Prop
  | 0, _, _, _ => False
  | fm + 1, lx88, lx89, lx90 => if ((9 * lx63 : Int32) + 9 : Int32) ≤ lx88 then (K_S_FR_set_L134 (lx63 + 1 : Int32) lx90) else ((lx88.toInt + 1 ≤ N2.toInt) ∧ (S_FR_set_L158 K_S_FR_set_L3 K_S_FR_set_L31 K_S_FR_set_L134 N2 x3 t0_0 t0_1 t0_2 t0_3 t0_4 t0_5 t0_6 t0_7 t0_8 t0_9 t0_10 t1_0 t2_0 t3_0 lx24 lx25 lx43 lx44 lx45 lx63 lx64 fm (lx88 + 1 : Int32) (lx89 / 10 : Int32) (upd lx90 lx88.toNatClampNeg (lx89 - lx89 / 10 * 10 : Int32) : (Nat → Int32))))
def S_FR_set_L134 (K_S_FR_set_L3 : Int32 → (Nat → Int32) → Prop) (K_S_FR_set_L31 : Int32 → Int64 → (Nat → Int32) → Prop) (N2 : Int32) (x3 : Int64) (t0_0 : Int32) (t0_1 : Int32) (t0_2 : Int32) (t0_3 : Int32) (t0_4 : Int64) (t0_5 : Int32) (t0_6 : Int32) (t0_7 : Int64) (t0_8 : Int32) (t0_9 : Int64) (t0_10 : Int32) (t1_0 : (Nat → Int32)) (t2_0 : (Nat → Int32)) (t3_0 : (Nat → Int32)) (lx24 : Int32) (lx25 : (Nat → Int32)) (lx43 : Int32) (lx44 : Int64) (lx45 : (Nat → Int32)) : Nat → Int32 → (Nat → Int32) → Prop
  | 0, _, _ => False
  | fm + 1, lx63, lx64 => if (156 : Int32) ≤ lx63 then (True) else (S_FR_set_L158 K_S_FR_set_L3 K_S_FR_set_L31 (S_FR_set_L134 K_S_FR_set_L3 K_S_FR_set_L31 N2 x3 t0_0 t0_1 t0_2 t0_3 t0_4 t0_5 t0_6 t0_7 t0_8 t0_9 t0_10 t1_0 t2_0 t3_0 lx24 lx25 lx43 lx44 lx45 fm) N2 x3 t0_0 t0_1 t0_2 t0_3 t0_4 t0_5 t0_6 t0_7 t0_8 t0_9 t0_10 t1_0 t2_0 t3_0 lx24 lx25 lx43 lx44 lx45 lx63 lx64 ((20200 - (9 * lx63 : Int32).toInt).toNat + 1) (9 * lx63 : Int32) (lx45 lx63.toNatClampNeg : Int32) lx64)
def S_FR_set_L61 (K_S_FR_set_L3 : Int32 → (Nat → Int32) → Prop) (K_S_FR_set_L31 : Int32 → Int64 → (Nat → Int32) → Prop) (N2 : Int32) (x3 : Int64) (t0_0 : Int32) (t0_1 : Int32) (t0_2 : Int32) (t0_3 : Int32) (t0_4 : Int64) (t0_5 : Int32) (t0_6 : Int32) (t0_7 : Int64) (t0_8 : Int32) (t0_9 : Int64) (t0_10 : Int32) (t1_0 : (Nat → Int32)) (t2_0 : (Nat → Int32)) (t3_0 : (Nat → Int32)) (lx24 : Int32) (lx25 : (Nat → Int32)) (lx43 : Int32) (lx44 : Int64) (lx45 : (Nat → Int32)) (j134 : Int64) (j132 : Int64) : Nat → Int32 → Int64 → (Nat → Int32) → Prop
  | 0, _, _, _ => False
  | fm + 1, lx138, lx139, lx140 => if (156 : Int32) ≤ lx138 then (K_S_FR_set_L31 (lx43 + 1 : Int32) j134 lx140) else ((0 ≤ (lx138 - lx43 : Int32).toInt) ∧ (((lx138 - lx43 : Int32).toInt ≤ 155) ∧ ((0 ≤ lx138.toInt) ∧ (S_FR_set_L61 K_S_FR_set_L3 K_S_FR_set_L31 N2 x3 t0_0 t0_1 t0_2 t0_3 t0_4 t0_5 t0_6 t0_7 t0_8 t0_9 t0_10 t1_0 t2_0 t3_0 lx24 lx25 lx43 lx44 lx45 j134 j132 fm (lx138 + 1 : Int32) (((lx139 + (j132 * ((t1_0 (lx138 - lx43 : Int32).toNatClampNeg : Int32).toInt64 : Int64) : Int64) : Int64) + ((lx140 lx138.toNatClampNeg : Int32).toInt64 : Int64) : Int64) / 1000000000 : Int64) (upd lx140 lx138.toNatClampNeg ((((lx139 + (j132 * ((t1_0 (lx138 - lx43 : Int32).toNatClampNeg : Int32).toInt64 : Int64) : Int64) : Int64) + ((lx140 lx138.toNatClampNeg : Int32).toInt64 : Int64) : Int64) - ((lx139 + (j132 * ((t1_0 (lx138 - lx43 : Int32).toNatClampNeg : Int32).toInt64 : Int64) : Int64) : Int64) + ((lx140 lx138.toNatClampNeg : Int32).toInt64 : Int64) : Int64) / 1000000000 * 1000000000 : Int64).toInt32 : Int32) : (Nat → Int32))))))
def S_FR_set_L31 (K_S_FR_set_L3 : Int32 → (Nat → Int32) → Prop) (N2 : Int32) (x3 : Int64) (t0_0 : Int32) (t0_1 : Int32) (t0_2 : Int32) (t0_3 : Int32) (t0_4 : Int64) (t0_5 : Int32) (t0_6 : Int32) (t0_7 : Int64) (t0_8 : Int32) (t0_9 : Int64) (t0_10 : Int32) (t1_0 : (Nat → Int32)) (t2_0 : (Nat → Int32)) (t3_0 : (Nat → Int32)) (lx24 : Int32) (lx25 : (Nat → Int32)) : Nat → Int32 → Int64 → (Nat → Int32) → Prop
  | 0, _, _, _ => False
  | fm + 1, lx43, lx44, lx45 => if (lg_cmp lx44 0 : Int32) ≤ (0 : Int32) then (S_FR_set_L134 K_S_FR_set_L3 (S_FR_set_L31 K_S_FR_set_L3 N2 x3 t0_0 t0_1 t0_2 t0_3 t0_4 t0_5 t0_6 t0_7 t0_8 t0_9 t0_10 t1_0 t2_0 t3_0 lx24 lx25 fm) N2 x3 t0_0 t0_1 t0_2 t0_3 t0_4 t0_5 t0_6 t0_7 t0_8 t0_9 t0_10 t1_0 t2_0 t3_0 lx24 lx25 lx43 lx44 lx45 ((156 - (0 : Int32).toInt).toNat + 1) 0 t3_0) else (S_FR_set_L61 K_S_FR_set_L3 (S_FR_set_L31 K_S_FR_set_L3 N2 x3 t0_0 t0_1 t0_2 t0_3 t0_4 t0_5 t0_6 t0_7 t0_8 t0_9 t0_10 t1_0 t2_0 t3_0 lx24 lx25 fm) N2 x3 t0_0 t0_1 t0_2 t0_3 t0_4 t0_5 t0_6 t0_7 t0_8 t0_9 t0_10 t1_0 t2_0 t3_0 lx24 lx25 lx43 lx44 lx45 (lx44 / 1000000000 : Int64) (lx44 - lx44 / 1000000000 * 1000000000 : Int64) ((156 - lx43.toInt).toNat + 1) lx43 0 lx45)
def S_FR_set_L3 (N2 : Int32) (x3 : Int64) (t0_0 : Int32) (t0_1 : Int32) (t0_2 : Int32) (t0_3 : Int32) (t0_4 : Int64) (t0_5 : Int32) (t0_6 : Int32) (t0_7 : Int64) (t0_8 : Int32) (t0_9 : Int64) (t0_10 : Int32) (t1_0 : (Nat → Int32)) (t2_0 : (Nat → Int32)) (t3_0 : (Nat → Int32)) : Nat → Int32 → (Nat → Int32) → Prop
  | 0, _, _ => False
  | fm + 1, lx24, lx25 => if (156 : Int32) ≤ lx24 then (S_FR_set_L31 (S_FR_set_L3 N2 x3 t0_0 t0_1 t0_2 t0_3 t0_4 t0_5 t0_6 t0_7 t0_8 t0_9 t0_10 t1_0 t2_0 t3_0 fm) N2 x3 t0_0 t0_1 t0_2 t0_3 t0_4 t0_5 t0_6 t0_7 t0_8 t0_9 t0_10 t1_0 t2_0 t3_0 lx24 lx25 1000000 0 x3 lx25) else (S_FR_set_L3 N2 x3 t0_0 t0_1 t0_2 t0_3 t0_4 t0_5 t0_6 t0_7 t0_8 t0_9 t0_10 t1_0 t2_0 t3_0 fm (lx24 + 1 : Int32) (upd lx25 lx24.toNatClampNeg 0 : (Nat → Int32)))
def S_FR_set (N2 : Int32) (x3 : Int64) (t0_0 : Int32) (t0_1 : Int32) (t0_2 : Int32) (t0_3 : Int32) (t0_4 : Int64) (t0_5 : Int32) (t0_6 : Int32) (t0_7 : Int64) (t0_8 : Int32) (t0_9 : Int64) (t0_10 : Int32) (t1_0 : (Nat → Int32)) (t2_0 : (Nat → Int32)) (t3_0 : (Nat → Int32)) : Prop := S_FR_set_L3 N2 x3 t0_0 t0_1 t0_2 t0_3 t0_4 t0_5 t0_6 t0_7 t0_8 t0_9 t0_10 t1_0 t2_0 t3_0 ((156 - (0 : Int32).toInt).toNat + 1) 0 t2_0
set_option maxRecDepth 100000 in
set_option maxHeartbeats 4000000 in
theorem X_FR_set (l : Launch) (D : va_G) (g : Nat → ClassId) (q : Nat → Nat) (ws : va_W) (k2 : Nat) (N2 : Int32) (hB2 : q_isRow (msh g q) g k2 N2) (x3 : Int64) (ne_k2_146 : k2 ≠ 146) (ne_k2_147 : k2 ≠ 147) (hI : q_I (msh g q) q ws) (t0_0 : Int32) (t0_1 : Int32) (t0_2 : Int32) (t0_3 : Int32) (t0_4 : Int64) (t0_5 : Int32) (t0_6 : Int32) (t0_7 : Int64) (t0_8 : Int32) (t0_9 : Int64) (t0_10 : Int32) (hT0 : ws[145]? = (some (q 145, .inr (15, [.int t0_0, .ref (q 146), .ref (q 147), .ref (q 148), .ref (q 149), .ref (q 150), .ref (q 151), .ref (q 152), .int t0_1, .int t0_2, .int t0_3, .long t0_4, .int t0_5, .int t0_6, .long t0_7, .int t0_8, .long t0_9, .int t0_10])) : Option (Nat × va_E))) (t1_0 : (Nat → Int32)) (hT1 : ws[146]? = (some (q 146, .inl (g 0, (156 : Int32).toNatClampNeg, .inl t1_0)) : Option (Nat × va_E))) (t2_0 : (Nat → Int32)) (hT2 : ws[147]? = (some (q 147, .inl (g 0, (156 : Int32).toNatClampNeg, .inl t2_0)) : Option (Nat × va_E))) (t3_0 : (Nat → Int32)) (hT3 : ws[k2]? = (some (q k2, .inl (g 0, N2.toNatClampNeg, .inl t3_0)) : Option (Nat × va_E))) (hS : True ∧ S_FR_set N2 x3 t0_0 t0_1 t0_2 t0_3 t0_4 t0_5 t0_6 t0_7 t0_8 t0_9 t0_10 t1_0 t2_0 t3_0) : q_mV l y_FR_set prog_17_method_7_code 12 1 0 0 D g [.ref (q 145), .ref (q k2), .long x3] ws (fun u => q_I (msh g q) q u ∧ q_un ws u [147, k2] ∧ ∃ (u2_0 : (Nat → Int32)) (u3_0 : (Nat → Int32)), u[147]? = (some (q 147, .inl (g 0, (156 : Int32).toNatClampNeg, .inl u2_0)) : Option (Nat × va_E)) ∧ u[k2]? = (some (q k2, .inl (g 0, N2.toNatClampNeg, .inl u3_0)) : Option (Nat × va_E)) ∧ (u2_0, u3_0) = (F_FR_set N2 x3 t0_0 t0_1 t0_2 t0_3 t0_4 t0_5 t0_6 t0_7 t0_8 t0_9 t0_10 t1_0 t2_0 t3_0)) := by
  intro sz
  refine q_into (by decide) (Nat.le_of_ble_eq_true rfl) ?_
  intro p e s m below meth c ls hsz C0 V hl
  have hx := C0.1
  have hb := C0.2.1
  have hfk20 : q_F (0 ≤ N2.toInt ∧ N2.toInt ≤ 20200) := hB2.2
  have btt0_2 := n_w145 hI hT0
  clear btt0_2
  have hF : q_un ws ws [147, k2] := q_u0
  have hl : lv_has ls 12 [(0, .ref (q 145)), (1, .ref (q k2)), (2, .long x3)] := hl
  refine lv_iconst (v := 0) hx hb d_17_7_0 (by decide) ?_
  refine lv_istore (lv' := [(4, .int 0), (0, .ref (q 145)), (1, .ref (q k2)), (2, .long x3)]) hx hb d_17_7_1 hl (by decide) rfl (fun ls hl => ?_)
  refine q_loop (X := Int32 × (Nat → Int32)) (fun z H locs ls w29 => q_F (0 ≤ z.1.toInt) ∧ q_F (z.1.toInt ≤ 156) ∧ q_Wd D g (va_A ws sz) s w29 H locs ∧ lv_has ls 12 [(4, .int z.1), (0, .ref (q 145)), (1, .ref (q k2)), (2, .long x3)] ∧ q_I (msh g q) q w29 ∧ q_un ws w29 [147, k2] ∧ w29[145]? = (some (q 145, .inr (15, [.int t0_0, .ref (q 146), .ref (q 147), .ref (q 148), .ref (q 149), .ref (q 150), .ref (q 151), .ref (q 152), .int t0_1, .int t0_2, .int t0_3, .long t0_4, .int t0_5, .int t0_6, .long t0_7, .int t0_8, .long t0_9, .int t0_10])) : Option (Nat × va_E)) ∧ w29[146]? = (some (q 146, .inl (g 0, (156 : Int32).toNatClampNeg, .inl t1_0)) : Option (Nat × va_E)) ∧ w29[147]? = (some (q 147, .inl (g 0, (156 : Int32).toNatClampNeg, .inl z.2)) : Option (Nat × va_E)) ∧ w29[k2]? = (some (q k2, .inl (g 0, N2.toNatClampNeg, .inl t3_0)) : Option (Nat × va_E)) ∧ (∃ n, (156 - z.1.toInt).toNat < n ∧ F_FR_set_L3 N2 x3 t0_0 t0_1 t0_2 t0_3 t0_4 t0_5 t0_6 t0_7 t0_8 t0_9 t0_10 t1_0 t2_0 t3_0 n z.1 z.2 = (F_FR_set N2 x3 t0_0 t0_1 t0_2 t0_3 t0_4 t0_5 t0_6 t0_7 t0_8 t0_9 t0_10 t1_0 t2_0 t3_0) ∧ True ∧ S_FR_set_L3 N2 x3 t0_0 t0_1 t0_2 t0_3 t0_4 t0_5 t0_6 t0_7 t0_8 t0_9 t0_10 t1_0 t2_0 t3_0 n z.1 z.2)) (fun z => (156 - z.1.toInt).toNat) ?_ ((0 : Int32), (t2_0 : (Nat → Int32))) _ _ _ ws ⟨(show q_F (0 ≤ 0) from (show 0 ≤ 0 from by omega)), (show q_F (0 ≤ 156) from (show 0 ≤ 156 from by omega)), V, q_lw hl (q_lw1 0 rfl (q_lw1 1 rfl (q_lw1 2 rfl (q_lw1 3 rfl q_lw0)))), hI, hF, hT0, hT1, hT2, hT3, ⟨((156 - (0 : Int32).toInt).toNat + 1), Nat.lt_succ_self _, (show F_FR_set_L3 N2 x3 t0_0 t0_1 t0_2 t0_3 t0_4 t0_5 t0_6 t0_7 t0_8 t0_9 t0_10 t1_0 t2_0 t3_0 ((156 - (0 : Int32).toInt).toNat + 1) 0 t2_0 = (F_FR_set N2 x3 t0_0 t0_1 t0_2 t0_3 t0_4 t0_5 t0_6 t0_7 t0_8 t0_9 t0_10 t1_0 t2_0 t3_0) from (by rw [F_FR_set.eq_1])), (show True ∧ S_FR_set_L3 N2 x3 t0_0 t0_1 t0_2 t0_3 t0_4 t0_5 t0_6 t0_7 t0_8 t0_9 t0_10 t1_0 t2_0 t3_0 ((156 - (0 : Int32).toInt).toNat + 1) 0 t2_0 from (by have h := hS; rw [S_FR_set.eq_1] at h; with_reducible exact h))⟩⟩
  rintro ⟨lx24, lx25⟩ H locs ls w29 ⟨i26, i27, V, hl, hI, hF, hO30, hO31, hO32, hO33, ⟨fu36, hf37, hR34, hS35⟩⟩ ih28
  obtain ⟨fm38, rfl⟩ : ∃ m, fu36 = m + 1 := ⟨fu36 - 1, by omega⟩
  replace i26 : q_F (0 ≤ lx24.toInt) := i26
  replace i27 : q_F (lx24.toInt ≤ 156) := i27
  replace hl : lv_has ls 12 [(4, .int lx24), (0, .ref (q 145)), (1, .ref (q k2)), (2, .long x3)] := hl
  replace hO30 : w29[145]? = (some (q 145, .inr (15, [.int t0_0, .ref (q 146), .ref (q 147), .ref (q 148), .ref (q 149), .ref (q 150), .ref (q 151), .ref (q 152), .int t0_1, .int t0_2, .int t0_3, .long t0_4, .int t0_5, .int t0_6, .long t0_7, .int t0_8, .long t0_9, .int t0_10])) : Option (Nat × va_E)) := hO30
  replace hO31 : w29[146]? = (some (q 146, .inl (g 0, (156 : Int32).toNatClampNeg, .inl t1_0)) : Option (Nat × va_E)) := hO31
  replace hO32 : w29[147]? = (some (q 147, .inl (g 0, (156 : Int32).toNatClampNeg, .inl lx25)) : Option (Nat × va_E)) := hO32
  replace hO33 : w29[k2]? = (some (q k2, .inl (g 0, N2.toNatClampNeg, .inl t3_0)) : Option (Nat × va_E)) := hO33
  refine lv_iload hx hb d_17_7_3 (lv_at hl 0 rfl) ?_
  refine lv_sipush (v := 156) hx hb d_17_7_5 (by decide) ?_
  refine lv_icmp_ge (tgt := 25) hx hb d_17_7_8 (by decide) (fun c39 => ?_) (fun c39 => ?_)
  ·
    refine lv_lload_n hx hb d_17_7_25 rfl (lv_at hl 3 rfl) ?_
    refine lv_lstore (lv' := [(4, .long x3), (0, .ref (q 145)), (1, .ref (q k2)), (2, .long x3)]) hx hb d_17_7_26 hl (by decide) rfl (fun ls hl => ?_)
    refine lv_iconst (v := 0) hx hb d_17_7_28 (by decide) ?_
    refine lv_istore (lv' := [(6, .int 0), (4, .long x3), (0, .ref (q 145)), (1, .ref (q k2)), (2, .long x3)]) hx hb d_17_7_29 hl (by decide) rfl (fun ls hl => ?_)
    refine q_loop (X := Nat × Int32 × Int64 × (Nat → Int32)) (fun z H locs ls w47 => q_Wd D g (va_A ws sz) s w47 H locs ∧ lv_has ls 12 [(6, .int z.2.1), (4, .long z.2.2.1), (0, .ref (q 145)), (1, .ref (q k2))] ∧ q_I (msh g q) q w47 ∧ q_un ws w47 [147, k2] ∧ w47[145]? = (some (q 145, .inr (15, [.int t0_0, .ref (q 146), .ref (q 147), .ref (q 148), .ref (q 149), .ref (q 150), .ref (q 151), .ref (q 152), .int t0_1, .int t0_2, .int t0_3, .long t0_4, .int t0_5, .int t0_6, .long t0_7, .int t0_8, .long t0_9, .int t0_10])) : Option (Nat × va_E)) ∧ w47[146]? = (some (q 146, .inl (g 0, (156 : Int32).toNatClampNeg, .inl t1_0)) : Option (Nat × va_E)) ∧ w47[147]? = (some (q 147, .inl (g 0, (156 : Int32).toNatClampNeg, .inl z.2.2.2)) : Option (Nat × va_E)) ∧ w47[k2]? = (some (q k2, .inl (g 0, N2.toNatClampNeg, .inl t3_0)) : Option (Nat × va_E)) ∧ F_FR_set_L31 (F_FR_set_L3 N2 x3 t0_0 t0_1 t0_2 t0_3 t0_4 t0_5 t0_6 t0_7 t0_8 t0_9 t0_10 t1_0 t2_0 t3_0 fm38) N2 x3 t0_0 t0_1 t0_2 t0_3 t0_4 t0_5 t0_6 t0_7 t0_8 t0_9 t0_10 t1_0 t2_0 t3_0 lx24 lx25 z.1 z.2.1 z.2.2.1 z.2.2.2 = (F_FR_set N2 x3 t0_0 t0_1 t0_2 t0_3 t0_4 t0_5 t0_6 t0_7 t0_8 t0_9 t0_10 t1_0 t2_0 t3_0) ∧ True ∧ S_FR_set_L31 (S_FR_set_L3 N2 x3 t0_0 t0_1 t0_2 t0_3 t0_4 t0_5 t0_6 t0_7 t0_8 t0_9 t0_10 t1_0 t2_0 t3_0 fm38) N2 x3 t0_0 t0_1 t0_2 t0_3 t0_4 t0_5 t0_6 t0_7 t0_8 t0_9 t0_10 t1_0 t2_0 t3_0 lx24 lx25 z.1 z.2.1 z.2.2.1 z.2.2.2) (fun z => z.1) ?_ ((1000000 : Nat), (0 : Int32), (x3 : Int64), (lx25 : (Nat → Int32))) _ _ _ w29 ⟨V, q_lw hl (q_lw1 0 rfl (q_lw1 1 rfl (q_lw1 2 rfl (q_lw1 3 rfl q_lw0)))), hI, hF, hO30, hO31, hO32, hO33, (show F_FR_set_L31 (F_FR_set_L3 N2 x3 t0_0 t0_1 t0_2 t0_3 t0_4 t0_5 t0_6 t0_7 t0_8 t0_9 t0_10 t1_0 t2_0 t3_0 fm38) N2 x3 t0_0 t0_1 t0_2 t0_3 t0_4 t0_5 t0_6 t0_7 t0_8 t0_9 t0_10 t1_0 t2_0 t3_0 lx24 lx25 1000000 0 x3 lx25 = (F_FR_set N2 x3 t0_0 t0_1 t0_2 t0_3 t0_4 t0_5 t0_6 t0_7 t0_8 t0_9 t0_10 t1_0 t2_0 t3_0) from Eq.trans (by rw [F_FR_set_L3.eq_2, if_pos c39]) hR34), (show True ∧ S_FR_set_L31 (S_FR_set_L3 N2 x3 t0_0 t0_1 t0_2 t0_3 t0_4 t0_5 t0_6 t0_7 t0_8 t0_9 t0_10 t1_0 t2_0 t3_0 fm38) N2 x3 t0_0 t0_1 t0_2 t0_3 t0_4 t0_5 t0_6 t0_7 t0_8 t0_9 t0_10 t1_0 t2_0 t3_0 lx24 lx25 1000000 0 x3 lx25 from (by have h := hS35; rw [S_FR_set_L3.eq_2] at h; rw [if_pos c39] at h; with_reducible exact h))⟩
    rintro ⟨fu54, lx43, lx44, lx45⟩ H locs ls w47 ⟨V, hl, hI, hF, hO48, hO49, hO50, hO51, hR52, hS53⟩ ih46
    obtain ⟨fm56, rfl⟩ : ∃ m, fu54 = m + 1 := Nat.exists_eq_succ_of_ne_zero (fun e => by subst e; rw [S_FR_set_L31.eq_1] at hS53; exact hS53.2)
    replace hl : lv_has ls 12 [(6, .int lx43), (4, .long lx44), (0, .ref (q 145)), (1, .ref (q k2))] := hl
    replace hO48 : w47[145]? = (some (q 145, .inr (15, [.int t0_0, .ref (q 146), .ref (q 147), .ref (q 148), .ref (q 149), .ref (q 150), .ref (q 151), .ref (q 152), .int t0_1, .int t0_2, .int t0_3, .long t0_4, .int t0_5, .int t0_6, .long t0_7, .int t0_8, .long t0_9, .int t0_10])) : Option (Nat × va_E)) := hO48
    replace hO49 : w47[146]? = (some (q 146, .inl (g 0, (156 : Int32).toNatClampNeg, .inl t1_0)) : Option (Nat × va_E)) := hO49
    replace hO50 : w47[147]? = (some (q 147, .inl (g 0, (156 : Int32).toNatClampNeg, .inl lx45)) : Option (Nat × va_E)) := hO50
    replace hO51 : w47[k2]? = (some (q k2, .inl (g 0, N2.toNatClampNeg, .inl t3_0)) : Option (Nat × va_E)) := hO51
    refine lv_lload hx hb d_17_7_31 (lv_at hl 1 rfl) ?_
    refine lv_lconst (v := 0) hx hb d_17_7_33 (by decide) ?_
    refine W.lcmp hx hb d_17_7_34 ?_
    obtain ⟨a57, e58⟩ := q_nm (lg_cmp lx44 0 : Int32)
    refine q_ti (v := a57) e58 ?_
    refine lv_if_le (tgt := 131) hx hb d_17_7_35 (by decide) (fun c60 => ?_) (fun c60 => ?_)
    ·
      refine lv_iconst (v := 0) hx hb d_17_7_131 (by decide) ?_
      refine lv_istore (lv' := [(6, .int 0), (4, .long lx44), (0, .ref (q 145)), (1, .ref (q k2))]) hx hb d_17_7_132 hl (by decide) rfl (fun ls hl => ?_)
      refine q_loop (X := Int32 × (Nat → Int32)) (fun z H locs ls w68 => q_F (0 ≤ z.1.toInt) ∧ q_F (z.1.toInt ≤ 156) ∧ q_Wd D g (va_A ws sz) s w68 H locs ∧ lv_has ls 12 [(6, .int z.1), (0, .ref (q 145)), (1, .ref (q k2))] ∧ q_I (msh g q) q w68 ∧ q_un ws w68 [147, k2] ∧ w68[145]? = (some (q 145, .inr (15, [.int t0_0, .ref (q 146), .ref (q 147), .ref (q 148), .ref (q 149), .ref (q 150), .ref (q 151), .ref (q 152), .int t0_1, .int t0_2, .int t0_3, .long t0_4, .int t0_5, .int t0_6, .long t0_7, .int t0_8, .long t0_9, .int t0_10])) : Option (Nat × va_E)) ∧ w68[146]? = (some (q 146, .inl (g 0, (156 : Int32).toNatClampNeg, .inl t1_0)) : Option (Nat × va_E)) ∧ w68[147]? = (some (q 147, .inl (g 0, (156 : Int32).toNatClampNeg, .inl lx45)) : Option (Nat × va_E)) ∧ w68[k2]? = (some (q k2, .inl (g 0, N2.toNatClampNeg, .inl z.2)) : Option (Nat × va_E)) ∧ (∃ n, (156 - z.1.toInt).toNat < n ∧ F_FR_set_L134 (F_FR_set_L3 N2 x3 t0_0 t0_1 t0_2 t0_3 t0_4 t0_5 t0_6 t0_7 t0_8 t0_9 t0_10 t1_0 t2_0 t3_0 fm38) (F_FR_set_L31 (F_FR_set_L3 N2 x3 t0_0 t0_1 t0_2 t0_3 t0_4 t0_5 t0_6 t0_7 t0_8 t0_9 t0_10 t1_0 t2_0 t3_0 fm38) N2 x3 t0_0 t0_1 t0_2 t0_3 t0_4 t0_5 t0_6 t0_7 t0_8 t0_9 t0_10 t1_0 t2_0 t3_0 lx24 lx25 fm56) N2 x3 t0_0 t0_1 t0_2 t0_3 t0_4 t0_5 t0_6 t0_7 t0_8 t0_9 t0_10 t1_0 t2_0 t3_0 lx24 lx25 lx43 lx44 lx45 n z.1 z.2 = (F_FR_set N2 x3 t0_0 t0_1 t0_2 t0_3 t0_4 t0_5 t0_6 t0_7 t0_8 t0_9 t0_10 t1_0 t2_0 t3_0) ∧ True ∧ S_FR_set_L134 (S_FR_set_L3 N2 x3 t0_0 t0_1 t0_2 t0_3 t0_4 t0_5 t0_6 t0_7 t0_8 t0_9 t0_10 t1_0 t2_0 t3_0 fm38) (S_FR_set_L31 (S_FR_set_L3 N2 x3 t0_0 t0_1 t0_2 t0_3 t0_4 t0_5 t0_6 t0_7 t0_8 t0_9 t0_10 t1_0 t2_0 t3_0 fm38) N2 x3 t0_0 t0_1 t0_2 t0_3 t0_4 t0_5 t0_6 t0_7 t0_8 t0_9 t0_10 t1_0 t2_0 t3_0 lx24 lx25 fm56) N2 x3 t0_0 t0_1 t0_2 t0_3 t0_4 t0_5 t0_6 t0_7 t0_8 t0_9 t0_10 t1_0 t2_0 t3_0 lx24 lx25 lx43 lx44 lx45 n z.1 z.2)) (fun z => (156 - z.1.toInt).toNat) ?_ ((0 : Int32), (t3_0 : (Nat → Int32))) _ _ _ w47 ⟨(show q_F (0 ≤ 0) from (show 0 ≤ 0 from by omega)), (show q_F (0 ≤ 156) from (show 0 ≤ 156 from by omega)), V, q_lw hl (q_lw1 0 rfl (q_lw1 2 rfl (q_lw1 3 rfl q_lw0))), hI, hF, hO48, hO49, hO50, hO51, ⟨((156 - (0 : Int32).toInt).toNat + 1), Nat.lt_succ_self _, (show F_FR_set_L134 (F_FR_set_L3 N2 x3 t0_0 t0_1 t0_2 t0_3 t0_4 t0_5 t0_6 t0_7 t0_8 t0_9 t0_10 t1_0 t2_0 t3_0 fm38) (F_FR_set_L31 (F_FR_set_L3 N2 x3 t0_0 t0_1 t0_2 t0_3 t0_4 t0_5 t0_6 t0_7 t0_8 t0_9 t0_10 t1_0 t2_0 t3_0 fm38) N2 x3 t0_0 t0_1 t0_2 t0_3 t0_4 t0_5 t0_6 t0_7 t0_8 t0_9 t0_10 t1_0 t2_0 t3_0 lx24 lx25 fm56) N2 x3 t0_0 t0_1 t0_2 t0_3 t0_4 t0_5 t0_6 t0_7 t0_8 t0_9 t0_10 t1_0 t2_0 t3_0 lx24 lx25 lx43 lx44 lx45 ((156 - (0 : Int32).toInt).toNat + 1) 0 t3_0 = (F_FR_set N2 x3 t0_0 t0_1 t0_2 t0_3 t0_4 t0_5 t0_6 t0_7 t0_8 t0_9 t0_10 t1_0 t2_0 t3_0) from Eq.trans (by have c60x := c60; rw [← e58] at c60x; rw [F_FR_set_L31.eq_2, if_pos c60x]) hR52), (show True ∧ S_FR_set_L134 (S_FR_set_L3 N2 x3 t0_0 t0_1 t0_2 t0_3 t0_4 t0_5 t0_6 t0_7 t0_8 t0_9 t0_10 t1_0 t2_0 t3_0 fm38) (S_FR_set_L31 (S_FR_set_L3 N2 x3 t0_0 t0_1 t0_2 t0_3 t0_4 t0_5 t0_6 t0_7 t0_8 t0_9 t0_10 t1_0 t2_0 t3_0 fm38) N2 x3 t0_0 t0_1 t0_2 t0_3 t0_4 t0_5 t0_6 t0_7 t0_8 t0_9 t0_10 t1_0 t2_0 t3_0 lx24 lx25 fm56) N2 x3 t0_0 t0_1 t0_2 t0_3 t0_4 t0_5 t0_6 t0_7 t0_8 t0_9 t0_10 t1_0 t2_0 t3_0 lx24 lx25 lx43 lx44 lx45 ((156 - (0 : Int32).toInt).toNat + 1) 0 t3_0 from (by have h := hS53; rw [S_FR_set_L31.eq_2] at h; have c60x := c60; rw [← e58] at c60x; rw [if_pos c60x] at h; with_reducible exact h))⟩⟩
      rintro ⟨lx63, lx64⟩ H locs ls w68 ⟨i65, i66, V, hl, hI, hF, hO69, hO70, hO71, hO72, ⟨fu75, hf76, hR73, hS74⟩⟩ ih67
      obtain ⟨fm77, rfl⟩ : ∃ m, fu75 = m + 1 := ⟨fu75 - 1, by omega⟩
      replace i65 : q_F (0 ≤ lx63.toInt) := i65
      replace i66 : q_F (lx63.toInt ≤ 156) := i66
      replace hl : lv_has ls 12 [(6, .int lx63), (0, .ref (q 145)), (1, .ref (q k2))] := hl
      replace hO69 : w68[145]? = (some (q 145, .inr (15, [.int t0_0, .ref (q 146), .ref (q 147), .ref (q 148), .ref (q 149), .ref (q 150), .ref (q 151), .ref (q 152), .int t0_1, .int t0_2, .int t0_3, .long t0_4, .int t0_5, .int t0_6, .long t0_7, .int t0_8, .long t0_9, .int t0_10])) : Option (Nat × va_E)) := hO69
      replace hO70 : w68[146]? = (some (q 146, .inl (g 0, (156 : Int32).toNatClampNeg, .inl t1_0)) : Option (Nat × va_E)) := hO70
      replace hO71 : w68[147]? = (some (q 147, .inl (g 0, (156 : Int32).toNatClampNeg, .inl lx45)) : Option (Nat × va_E)) := hO71
      replace hO72 : w68[k2]? = (some (q k2, .inl (g 0, N2.toNatClampNeg, .inl lx64)) : Option (Nat × va_E)) := hO72
      refine lv_iload hx hb d_17_7_134 (lv_at hl 0 rfl) ?_
      refine lv_sipush (v := 156) hx hb d_17_7_136 (by decide) ?_
      refine lv_icmp_ge (tgt := 199) hx hb d_17_7_139 (by decide) (fun c78 => ?_) (fun c78 => ?_)
      ·
        exact q_retv C0 V (⟨hI, hF, lx45, lx64, hO71, hO72, (show (lx45, lx64) = (F_FR_set N2 x3 t0_0 t0_1 t0_2 t0_3 t0_4 t0_5 t0_6 t0_7 t0_8 t0_9 t0_10 t1_0 t2_0 t3_0) from Eq.trans (by rw [F_FR_set_L134.eq_2, if_pos c78]) hR73)⟩) d_17_7_199
      ·
        have b80 : q_F (lx63.toInt < 156) := (q_nleI c78)
        refine lv_aload_n hx hb d_17_7_142 rfl (lv_at hl 1 rfl) ?_
        refine q_get (ci := 15) (j := 2) (v := .ref (q 147)) C0 V i_FR rfl rfl hO69 (by decide) w_2077 rfl d_17_7_143 ?_
        refine lv_iload hx hb d_17_7_146 (lv_at hl 0 rfl) ?_
        refine q_iald C0 V hO71 (q_ix (x := lx63.toInt) rfl (by first | with_reducible exact q_fe i65 | (have t1 : 0 ≤ lx63.toInt := i65; omega)) (by have t1 : 0 ≤ lx63.toInt := i65; have t2 : lx63.toInt < 156 := b80; have e9 : (((156 : Int32).toNatClampNeg : Nat) : Int) = 156 := (by decide); omega)) d_17_7_148 ?_
        obtain ⟨a81, e82⟩ := q_nm (lx45 lx63.toNatClampNeg : Int32)
        refine q_ti (v := a81) e82 ?_
        refine lv_istore (lv' := [(7, .int a81), (6, .int lx63), (0, .ref (q 145)), (1, .ref (q k2))]) hx hb d_17_7_149 hl (by decide) rfl (fun ls hl => ?_)
        refine lv_bipush (v := 9) hx hb d_17_7_151 (by decide) ?_
        refine lv_iload hx hb d_17_7_153 (lv_at hl 1 rfl) ?_
        refine lv_imul hx hb d_17_7_155 ?_
        obtain ⟨a83, e84⟩ := q_nm (9 * lx63 : Int32)
        refine q_ti (v := a83) e84 ?_
        have b85 : q_F (a83.toInt = 9 * lx63.toInt) := (by rw [← e84]; show (9 * lx63 : Int32).toInt = 9 * lx63.toInt; exact q_mulI (x := 9) (y := lx63.toInt) (by decide) rfl (by have t1 : 0 ≤ lx63.toInt := i65; have t2 : lx63.toInt ≤ 156 := i66; omega) (by have t1 : 0 ≤ lx63.toInt := i65; have t2 : lx63.toInt ≤ 156 := i66; omega))
        refine lv_istore (lv' := [(8, .int a83), (7, .int a81), (6, .int lx63), (0, .ref (q 145)), (1, .ref (q k2))]) hx hb d_17_7_156 hl (by decide) rfl (fun ls hl => ?_)
        refine q_loop (X := Int32 × Int32 × (Nat → Int32)) (fun z H locs ls w95 => q_F (z.1.toInt ≤ 20200) ∧ q_F (a83.toInt ≤ z.1.toInt) ∧ q_F (z.1.toInt ≤ N2.toInt + 1395) ∧ q_Wd D g (va_A ws sz) s w95 H locs ∧ lv_has ls 12 [(8, .int z.1), (7, .int z.2.1), (6, .int lx63), (0, .ref (q 145)), (1, .ref (q k2))] ∧ q_I (msh g q) q w95 ∧ q_un ws w95 [147, k2] ∧ w95[145]? = (some (q 145, .inr (15, [.int t0_0, .ref (q 146), .ref (q 147), .ref (q 148), .ref (q 149), .ref (q 150), .ref (q 151), .ref (q 152), .int t0_1, .int t0_2, .int t0_3, .long t0_4, .int t0_5, .int t0_6, .long t0_7, .int t0_8, .long t0_9, .int t0_10])) : Option (Nat × va_E)) ∧ w95[146]? = (some (q 146, .inl (g 0, (156 : Int32).toNatClampNeg, .inl t1_0)) : Option (Nat × va_E)) ∧ w95[147]? = (some (q 147, .inl (g 0, (156 : Int32).toNatClampNeg, .inl lx45)) : Option (Nat × va_E)) ∧ w95[k2]? = (some (q k2, .inl (g 0, N2.toNatClampNeg, .inl z.2.2)) : Option (Nat × va_E)) ∧ (∃ n, (20200 - z.1.toInt).toNat < n ∧ F_FR_set_L158 (F_FR_set_L3 N2 x3 t0_0 t0_1 t0_2 t0_3 t0_4 t0_5 t0_6 t0_7 t0_8 t0_9 t0_10 t1_0 t2_0 t3_0 fm38) (F_FR_set_L31 (F_FR_set_L3 N2 x3 t0_0 t0_1 t0_2 t0_3 t0_4 t0_5 t0_6 t0_7 t0_8 t0_9 t0_10 t1_0 t2_0 t3_0 fm38) N2 x3 t0_0 t0_1 t0_2 t0_3 t0_4 t0_5 t0_6 t0_7 t0_8 t0_9 t0_10 t1_0 t2_0 t3_0 lx24 lx25 fm56) (F_FR_set_L134 (F_FR_set_L3 N2 x3 t0_0 t0_1 t0_2 t0_3 t0_4 t0_5 t0_6 t0_7 t0_8 t0_9 t0_10 t1_0 t2_0 t3_0 fm38) (F_FR_set_L31 (F_FR_set_L3 N2 x3 t0_0 t0_1 t0_2 t0_3 t0_4 t0_5 t0_6 t0_7 t0_8 t0_9 t0_10 t1_0 t2_0 t3_0 fm38) N2 x3 t0_0 t0_1 t0_2 t0_3 t0_4 t0_5 t0_6 t0_7 t0_8 t0_9 t0_10 t1_0 t2_0 t3_0 lx24 lx25 fm56) N2 x3 t0_0 t0_1 t0_2 t0_3 t0_4 t0_5 t0_6 t0_7 t0_8 t0_9 t0_10 t1_0 t2_0 t3_0 lx24 lx25 lx43 lx44 lx45 fm77) N2 x3 t0_0 t0_1 t0_2 t0_3 t0_4 t0_5 t0_6 t0_7 t0_8 t0_9 t0_10 t1_0 t2_0 t3_0 lx24 lx25 lx43 lx44 lx45 lx63 lx64 n z.1 z.2.1 z.2.2 = (F_FR_set N2 x3 t0_0 t0_1 t0_2 t0_3 t0_4 t0_5 t0_6 t0_7 t0_8 t0_9 t0_10 t1_0 t2_0 t3_0) ∧ True ∧ S_FR_set_L158 (S_FR_set_L3 N2 x3 t0_0 t0_1 t0_2 t0_3 t0_4 t0_5 t0_6 t0_7 t0_8 t0_9 t0_10 t1_0 t2_0 t3_0 fm38) (S_FR_set_L31 (S_FR_set_L3 N2 x3 t0_0 t0_1 t0_2 t0_3 t0_4 t0_5 t0_6 t0_7 t0_8 t0_9 t0_10 t1_0 t2_0 t3_0 fm38) N2 x3 t0_0 t0_1 t0_2 t0_3 t0_4 t0_5 t0_6 t0_7 t0_8 t0_9 t0_10 t1_0 t2_0 t3_0 lx24 lx25 fm56) (S_FR_set_L134 (S_FR_set_L3 N2 x3 t0_0 t0_1 t0_2 t0_3 t0_4 t0_5 t0_6 t0_7 t0_8 t0_9 t0_10 t1_0 t2_0 t3_0 fm38) (S_FR_set_L31 (S_FR_set_L3 N2 x3 t0_0 t0_1 t0_2 t0_3 t0_4 t0_5 t0_6 t0_7 t0_8 t0_9 t0_10 t1_0 t2_0 t3_0 fm38) N2 x3 t0_0 t0_1 t0_2 t0_3 t0_4 t0_5 t0_6 t0_7 t0_8 t0_9 t0_10 t1_0 t2_0 t3_0 lx24 lx25 fm56) N2 x3 t0_0 t0_1 t0_2 t0_3 t0_4 t0_5 t0_6 t0_7 t0_8 t0_9 t0_10 t1_0 t2_0 t3_0 lx24 lx25 lx43 lx44 lx45 fm77) N2 x3 t0_0 t0_1 t0_2 t0_3 t0_4 t0_5 t0_6 t0_7 t0_8 t0_9 t0_10 t1_0 t2_0 t3_0 lx24 lx25 lx43 lx44 lx45 lx63 lx64 n z.1 z.2.1 z.2.2)) (fun z => (20200 - z.1.toInt).toNat) ?_ ((a83 : Int32), (a81 : Int32), (lx64 : (Nat → Int32))) _ _ _ w68 ⟨(show q_F (a83.toInt ≤ 20200) from (show a83.toInt ≤ 20200 from by have t1 : lx63.toInt ≤ 156 := i66; have t2 : a83.toInt = 9 * lx63.toInt := b85; omega)), (show q_F (a83.toInt ≤ a83.toInt) from (show a83.toInt ≤ a83.toInt from by omega)), (show q_F (a83.toInt ≤ N2.toInt + 1395) from (show a83.toInt ≤ N2.toInt + 1395 from by have t1 : 0 ≤ N2.toInt ∧ N2.toInt ≤ 20200 := hfk20; have t2 : lx63.toInt < 156 := b80; have t3 : a83.toInt = 9 * lx63.toInt := b85; omega)), V, q_lw hl (q_lw1 0 rfl (q_lw1 1 rfl (q_lw1 2 rfl (q_lw1 3 rfl (q_lw1 4 rfl q_lw0))))), hI, hF, hO69, hO70, hO71, hO72, ⟨((20200 - a83.toInt).toNat + 1), Nat.lt_succ_self _, (show F_FR_set_L158 (F_FR_set_L3 N2 x3 t0_0 t0_1 t0_2 t0_3 t0_4 t0_5 t0_6 t0_7 t0_8 t0_9 t0_10 t1_0 t2_0 t3_0 fm38) (F_FR_set_L31 (F_FR_set_L3 N2 x3 t0_0 t0_1 t0_2 t0_3 t0_4 t0_5 t0_6 t0_7 t0_8 t0_9 t0_10 t1_0 t2_0 t3_0 fm38) N2 x3 t0_0 t0_1 t0_2 t0_3 t0_4 t0_5 t0_6 t0_7 t0_8 t0_9 t0_10 t1_0 t2_0 t3_0 lx24 lx25 fm56) (F_FR_set_L134 (F_FR_set_L3 N2 x3 t0_0 t0_1 t0_2 t0_3 t0_4 t0_5 t0_6 t0_7 t0_8 t0_9 t0_10 t1_0 t2_0 t3_0 fm38) (F_FR_set_L31 (F_FR_set_L3 N2 x3 t0_0 t0_1 t0_2 t0_3 t0_4 t0_5 t0_6 t0_7 t0_8 t0_9 t0_10 t1_0 t2_0 t3_0 fm38) N2 x3 t0_0 t0_1 t0_2 t0_3 t0_4 t0_5 t0_6 t0_7 t0_8 t0_9 t0_10 t1_0 t2_0 t3_0 lx24 lx25 fm56) N2 x3 t0_0 t0_1 t0_2 t0_3 t0_4 t0_5 t0_6 t0_7 t0_8 t0_9 t0_10 t1_0 t2_0 t3_0 lx24 lx25 lx43 lx44 lx45 fm77) N2 x3 t0_0 t0_1 t0_2 t0_3 t0_4 t0_5 t0_6 t0_7 t0_8 t0_9 t0_10 t1_0 t2_0 t3_0 lx24 lx25 lx43 lx44 lx45 lx63 lx64 ((20200 - a83.toInt).toNat + 1) a83 a81 lx64 = (F_FR_set N2 x3 t0_0 t0_1 t0_2 t0_3 t0_4 t0_5 t0_6 t0_7 t0_8 t0_9 t0_10 t1_0 t2_0 t3_0) from Eq.trans (by rw [← e84, ← e82, F_FR_set_L134.eq_2, if_neg c78]) hR73), (show True ∧ S_FR_set_L158 (S_FR_set_L3 N2 x3 t0_0 t0_1 t0_2 t0_3 t0_4 t0_5 t0_6 t0_7 t0_8 t0_9 t0_10 t1_0 t2_0 t3_0 fm38) (S_FR_set_L31 (S_FR_set_L3 N2 x3 t0_0 t0_1 t0_2 t0_3 t0_4 t0_5 t0_6 t0_7 t0_8 t0_9 t0_10 t1_0 t2_0 t3_0 fm38) N2 x3 t0_0 t0_1 t0_2 t0_3 t0_4 t0_5 t0_6 t0_7 t0_8 t0_9 t0_10 t1_0 t2_0 t3_0 lx24 lx25 fm56) (S_FR_set_L134 (S_FR_set_L3 N2 x3 t0_0 t0_1 t0_2 t0_3 t0_4 t0_5 t0_6 t0_7 t0_8 t0_9 t0_10 t1_0 t2_0 t3_0 fm38) (S_FR_set_L31 (S_FR_set_L3 N2 x3 t0_0 t0_1 t0_2 t0_3 t0_4 t0_5 t0_6 t0_7 t0_8 t0_9 t0_10 t1_0 t2_0 t3_0 fm38) N2 x3 t0_0 t0_1 t0_2 t0_3 t0_4 t0_5 t0_6 t0_7 t0_8 t0_9 t0_10 t1_0 t2_0 t3_0 lx24 lx25 fm56) N2 x3 t0_0 t0_1 t0_2 t0_3 t0_4 t0_5 t0_6 t0_7 t0_8 t0_9 t0_10 t1_0 t2_0 t3_0 lx24 lx25 lx43 lx44 lx45 fm77) N2 x3 t0_0 t0_1 t0_2 t0_3 t0_4 t0_5 t0_6 t0_7 t0_8 t0_9 t0_10 t1_0 t2_0 t3_0 lx24 lx25 lx43 lx44 lx45 lx63 lx64 ((20200 - a83.toInt).toNat + 1) a83 a81 lx64 from (by rw [← e84, ← e82]; have h := hS74; rw [S_FR_set_L134.eq_2] at h; rw [if_neg c78] at h; with_reducible exact h))⟩⟩
        rintro ⟨lx88, lx89, lx90⟩ H locs ls w95 ⟨i91, i92, i93, V, hl, hI, hF, hO96, hO97, hO98, hO99, ⟨fu102, hf103, hR100, hS101⟩⟩ ih94
        obtain ⟨fm104, rfl⟩ : ∃ m, fu102 = m + 1 := ⟨fu102 - 1, by omega⟩
        replace i91 : q_F (lx88.toInt ≤ 20200) := i91
        replace i92 : q_F (a83.toInt ≤ lx88.toInt) := i92
        clear i93
        replace hl : lv_has ls 12 [(8, .int lx88), (7, .int lx89), (6, .int lx63), (0, .ref (q 145)), (1, .ref (q k2))] := hl
        replace hO96 : w95[145]? = (some (q 145, .inr (15, [.int t0_0, .ref (q 146), .ref (q 147), .ref (q 148), .ref (q 149), .ref (q 150), .ref (q 151), .ref (q 152), .int t0_1, .int t0_2, .int t0_3, .long t0_4, .int t0_5, .int t0_6, .long t0_7, .int t0_8, .long t0_9, .int t0_10])) : Option (Nat × va_E)) := hO96
        replace hO97 : w95[146]? = (some (q 146, .inl (g 0, (156 : Int32).toNatClampNeg, .inl t1_0)) : Option (Nat × va_E)) := hO97
        replace hO98 : w95[147]? = (some (q 147, .inl (g 0, (156 : Int32).toNatClampNeg, .inl lx45)) : Option (Nat × va_E)) := hO98
        replace hO99 : w95[k2]? = (some (q k2, .inl (g 0, N2.toNatClampNeg, .inl lx90)) : Option (Nat × va_E)) := hO99
        refine lv_iload hx hb d_17_7_158 (lv_at hl 0 rfl) ?_
        refine lv_bipush (v := 9) hx hb d_17_7_160 (by decide) ?_
        refine lv_iload hx hb d_17_7_162 (lv_at hl 2 rfl) ?_
        refine lv_imul hx hb d_17_7_164 ?_
        obtain ⟨a105, e106⟩ := q_nm (9 * lx63 : Int32)
        refine q_ti (v := a105) e106 ?_
        refine lv_bipush (v := 9) hx hb d_17_7_165 (by decide) ?_
        refine lv_iadd hx hb d_17_7_167 ?_
        obtain ⟨a108, e109⟩ := q_nm (a105 + 9 : Int32)
        refine q_ti (v := a108) e109 ?_
        refine lv_icmp_ge (tgt := 193) hx hb d_17_7_168 (by decide) (fun c111 => ?_) (fun c111 => ?_)
        ·
          obtain ⟨a113, e114⟩ := q_nm (lx63 + 1 : Int32)
          have b115 : q_F (a113.toInt = lx63.toInt + 1) := (by rw [← e114]; exact q_addI (y := 1) rfl (by decide) (by have t1 : 0 ≤ lx63.toInt := i65; have t2 : lx63.toInt ≤ 156 := i66; omega) (by have t1 : 0 ≤ lx63.toInt := i65; have t2 : lx63.toInt ≤ 156 := i66; omega))
          refine lv_iinc (v := a113) (lv' := [(6, .int a113), (8, .int lx88), (7, .int lx89), (0, .ref (q 145)), (1, .ref (q k2))]) hx hb d_17_7_193 hl (k := 2) rfl (e114) (by decide) rfl (fun ls hl => ?_)
          refine lv_goto (tgt := 134) hx hb d_17_7_196 (by decide) ?_
          exact ih67 ((a113 : Int32), (lx90 : (Nat → Int32))) _ _ _ _ (show (156 - a113.toInt).toNat < (156 - lx63.toInt).toNat from by have t1 : a113.toInt = lx63.toInt + 1 := b115; have t2 : lx63.toInt ≤ 156 := i66; have t3 : lx63.toInt < 156 := b80; omega) ⟨(show q_F (0 ≤ a113.toInt) from (show 0 ≤ a113.toInt from by have t1 : 0 ≤ lx63.toInt := i65; have t2 : a113.toInt = lx63.toInt + 1 := b115; omega)), (show q_F (a113.toInt ≤ 156) from (show a113.toInt ≤ 156 from by have t1 : lx63.toInt < 156 := b80; have t2 : a113.toInt = lx63.toInt + 1 := b115; omega)), V, q_lw hl (q_lw1 0 rfl (q_lw1 3 rfl (q_lw1 4 rfl q_lw0))), hI, hF, hO96, hO97, hO98, hO99, ⟨fm77, Nat.lt_of_lt_of_le (show (156 - a113.toInt).toNat < (156 - lx63.toInt).toNat from by have t1 : a113.toInt = lx63.toInt + 1 := b115; have t2 : lx63.toInt ≤ 156 := i66; have t3 : lx63.toInt < 156 := b80; omega) (Nat.le_of_lt_succ hf76), (show F_FR_set_L134 (F_FR_set_L3 N2 x3 t0_0 t0_1 t0_2 t0_3 t0_4 t0_5 t0_6 t0_7 t0_8 t0_9 t0_10 t1_0 t2_0 t3_0 fm38) (F_FR_set_L31 (F_FR_set_L3 N2 x3 t0_0 t0_1 t0_2 t0_3 t0_4 t0_5 t0_6 t0_7 t0_8 t0_9 t0_10 t1_0 t2_0 t3_0 fm38) N2 x3 t0_0 t0_1 t0_2 t0_3 t0_4 t0_5 t0_6 t0_7 t0_8 t0_9 t0_10 t1_0 t2_0 t3_0 lx24 lx25 fm56) N2 x3 t0_0 t0_1 t0_2 t0_3 t0_4 t0_5 t0_6 t0_7 t0_8 t0_9 t0_10 t1_0 t2_0 t3_0 lx24 lx25 lx43 lx44 lx45 fm77 a113 lx90 = (F_FR_set N2 x3 t0_0 t0_1 t0_2 t0_3 t0_4 t0_5 t0_6 t0_7 t0_8 t0_9 t0_10 t1_0 t2_0 t3_0) from Eq.trans (by have c111x := c111; rw [← e109, ← e106] at c111x; rw [← e114, F_FR_set_L158.eq_2, if_pos c111x]) hR100), (show True ∧ S_FR_set_L134 (S_FR_set_L3 N2 x3 t0_0 t0_1 t0_2 t0_3 t0_4 t0_5 t0_6 t0_7 t0_8 t0_9 t0_10 t1_0 t2_0 t3_0 fm38) (S_FR_set_L31 (S_FR_set_L3 N2 x3 t0_0 t0_1 t0_2 t0_3 t0_4 t0_5 t0_6 t0_7 t0_8 t0_9 t0_10 t1_0 t2_0 t3_0 fm38) N2 x3 t0_0 t0_1 t0_2 t0_3 t0_4 t0_5 t0_6 t0_7 t0_8 t0_9 t0_10 t1_0 t2_0 t3_0 lx24 lx25 fm56) N2 x3 t0_0 t0_1 t0_2 t0_3 t0_4 t0_5 t0_6 t0_7 t0_8 t0_9 t0_10 t1_0 t2_0 t3_0 lx24 lx25 lx43 lx44 lx45 fm77 a113 lx90 from (by rw [← e114]; have h := hS101; rw [S_FR_set_L158.eq_2] at h; have c111x := c111; rw [← e109, ← e106] at c111x; rw [if_pos c111x] at h; with_reducible exact h))⟩⟩
        ·
          refine lv_aload_n hx hb d_17_7_171 rfl (lv_at hl 4 rfl) ?_
          refine lv_iload hx hb d_17_7_172 (lv_at hl 0 rfl) ?_
          refine lv_iload hx hb d_17_7_174 (lv_at hl 1 rfl) ?_
          refine lv_bipush (v := 10) hx hb d_17_7_176 (by decide) ?_
          refine lv_irem hx hb d_17_7_178 (by decide) ?_
          obtain ⟨a117, e118⟩ := q_nm (lx89 - lx89 / 10 * 10 : Int32)
          refine q_ti (v := a117) e118 ?_
          have ob119 : q_F (lx88.toInt + 1 ≤ N2.toInt) := (by have h := hS101; rw [S_FR_set_L158.eq_2] at h; have c111x := c111; rw [← e109, ← e106] at c111x; rw [if_neg c111x] at h; exact h.2.1)
          have ne122 := q_df hO99 hO96
          refine q_iast C0 V hO99 (q_ix (x := lx88.toInt) rfl (by have t1 : 0 ≤ lx63.toInt := i65; have t2 : a83.toInt = 9 * lx63.toInt := b85; have t3 : a83.toInt ≤ lx88.toInt := i92; omega) (by have t1 : 0 ≤ lx63.toInt := i65; have t2 : a83.toInt = 9 * lx63.toInt := b85; have t3 : a83.toInt ≤ lx88.toInt := i92; have t4 : lx88.toInt + 1 ≤ N2.toInt := ob119; have e9 := q_clI (i := N2) rfl (by first | with_reducible exact (q_fe hfk20).2 | with_reducible exact (q_fe hfk20).1 | (have t1 : 0 ≤ N2.toInt ∧ N2.toInt ≤ 20200 := hfk20; omega)); omega)) d_17_7_179 (fun H locs w120 hu121 hO99 V => ?_)
          replace hI := n_ai' hI hB2.1 hu121 hO99 (q_updB (fun _ => s_bnd) s_bnd)
          replace hO96 := (hu121 _ (Ne.symm ne122)).trans hO96
          replace hO97 := (hu121 _ (by have z := ne_k2_146; omega)).trans hO97
          replace hO98 := (hu121 _ (by have z := ne_k2_147; omega)).trans hO98
          replace hF := q_us hF hu121 (by simp)
          obtain ⟨f123, e124⟩ := q_nm (upd lx90 lx88.toNatClampNeg a117 : (Nat → Int32))
          rw [e124] at hO99
          refine lv_iload hx hb d_17_7_180 (lv_at hl 1 rfl) ?_
          refine lv_bipush (v := 10) hx hb d_17_7_182 (by decide) ?_
          refine lv_idiv hx hb d_17_7_184 (by decide) ?_
          obtain ⟨a125, e126⟩ := q_nm (lx89 / 10 : Int32)
          refine q_ti (v := a125) e126 ?_
          refine lv_istore (lv' := [(7, .int a125), (8, .int lx88), (6, .int lx63), (0, .ref (q 145)), (1, .ref (q k2))]) hx hb d_17_7_185 hl (by decide) rfl (fun ls hl => ?_)
          obtain ⟨a128, e129⟩ := q_nm (lx88 + 1 : Int32)
          have b130 : q_F (a128.toInt = lx88.toInt + 1) := (by rw [← e129]; exact q_addI (y := 1) rfl (by decide) (by have t1 : a83.toInt ≤ lx88.toInt := i92; have _ := q_lo32 (x := a83); have _ := q_hi32 (x := a83); have t2 : lx88.toInt ≤ 20200 := i91; omega) (by have t1 : a83.toInt ≤ lx88.toInt := i92; have _ := q_lo32 (x := a83); have _ := q_hi32 (x := a83); have t2 : lx88.toInt ≤ 20200 := i91; omega))
          refine lv_iinc (v := a128) (lv' := [(8, .int a128), (7, .int a125), (6, .int lx63), (0, .ref (q 145)), (1, .ref (q k2))]) hx hb d_17_7_187 hl (k := 1) rfl (e129) (by decide) rfl (fun ls hl => ?_)
          refine lv_goto (tgt := 158) hx hb d_17_7_190 (by decide) ?_
          exact ih94 ((a128 : Int32), (a125 : Int32), (f123 : (Nat → Int32))) _ _ _ _ (show (20200 - a128.toInt).toNat < (20200 - lx88.toInt).toNat from by have t1 : a128.toInt = lx88.toInt + 1 := b130; have t2 : lx88.toInt ≤ 20200 := i91; have t3 : 0 ≤ N2.toInt ∧ N2.toInt ≤ 20200 := hfk20; have t4 : lx88.toInt + 1 ≤ N2.toInt := ob119; omega) ⟨(show q_F (a128.toInt ≤ 20200) from (show a128.toInt ≤ 20200 from by have t1 : 0 ≤ N2.toInt ∧ N2.toInt ≤ 20200 := hfk20; have t2 : lx88.toInt + 1 ≤ N2.toInt := ob119; have t3 : a128.toInt = lx88.toInt + 1 := b130; omega)), (show q_F (a83.toInt ≤ a128.toInt) from (show a83.toInt ≤ a128.toInt from by have t1 : a83.toInt ≤ lx88.toInt := i92; have t2 : a128.toInt = lx88.toInt + 1 := b130; omega)), (show q_F (a128.toInt ≤ N2.toInt + 1395) from (show a128.toInt ≤ N2.toInt + 1395 from by have t1 : lx88.toInt + 1 ≤ N2.toInt := ob119; have t2 : a128.toInt = lx88.toInt + 1 := b130; omega)), V, q_lw hl (q_lw1 0 rfl (q_lw1 1 rfl (q_lw1 2 rfl (q_lw1 3 rfl (q_lw1 4 rfl q_lw0))))), hI, hF, hO96, hO97, hO98, hO99, ⟨fm104, Nat.lt_of_lt_of_le (show (20200 - a128.toInt).toNat < (20200 - lx88.toInt).toNat from by have t1 : a128.toInt = lx88.toInt + 1 := b130; have t2 : lx88.toInt ≤ 20200 := i91; have t3 : 0 ≤ N2.toInt ∧ N2.toInt ≤ 20200 := hfk20; have t4 : lx88.toInt + 1 ≤ N2.toInt := ob119; omega) (Nat.le_of_lt_succ hf103), (show F_FR_set_L158 (F_FR_set_L3 N2 x3 t0_0 t0_1 t0_2 t0_3 t0_4 t0_5 t0_6 t0_7 t0_8 t0_9 t0_10 t1_0 t2_0 t3_0 fm38) (F_FR_set_L31 (F_FR_set_L3 N2 x3 t0_0 t0_1 t0_2 t0_3 t0_4 t0_5 t0_6 t0_7 t0_8 t0_9 t0_10 t1_0 t2_0 t3_0 fm38) N2 x3 t0_0 t0_1 t0_2 t0_3 t0_4 t0_5 t0_6 t0_7 t0_8 t0_9 t0_10 t1_0 t2_0 t3_0 lx24 lx25 fm56) (F_FR_set_L134 (F_FR_set_L3 N2 x3 t0_0 t0_1 t0_2 t0_3 t0_4 t0_5 t0_6 t0_7 t0_8 t0_9 t0_10 t1_0 t2_0 t3_0 fm38) (F_FR_set_L31 (F_FR_set_L3 N2 x3 t0_0 t0_1 t0_2 t0_3 t0_4 t0_5 t0_6 t0_7 t0_8 t0_9 t0_10 t1_0 t2_0 t3_0 fm38) N2 x3 t0_0 t0_1 t0_2 t0_3 t0_4 t0_5 t0_6 t0_7 t0_8 t0_9 t0_10 t1_0 t2_0 t3_0 lx24 lx25 fm56) N2 x3 t0_0 t0_1 t0_2 t0_3 t0_4 t0_5 t0_6 t0_7 t0_8 t0_9 t0_10 t1_0 t2_0 t3_0 lx24 lx25 lx43 lx44 lx45 fm77) N2 x3 t0_0 t0_1 t0_2 t0_3 t0_4 t0_5 t0_6 t0_7 t0_8 t0_9 t0_10 t1_0 t2_0 t3_0 lx24 lx25 lx43 lx44 lx45 lx63 lx64 fm104 a128 a125 f123 = (F_FR_set N2 x3 t0_0 t0_1 t0_2 t0_3 t0_4 t0_5 t0_6 t0_7 t0_8 t0_9 t0_10 t1_0 t2_0 t3_0) from Eq.trans (by have c111x := c111; rw [← e109, ← e106] at c111x; rw [← e129, ← e126, ← e124, ← e118, F_FR_set_L158.eq_2, if_neg c111x]) hR100), (show True ∧ S_FR_set_L158 (S_FR_set_L3 N2 x3 t0_0 t0_1 t0_2 t0_3 t0_4 t0_5 t0_6 t0_7 t0_8 t0_9 t0_10 t1_0 t2_0 t3_0 fm38) (S_FR_set_L31 (S_FR_set_L3 N2 x3 t0_0 t0_1 t0_2 t0_3 t0_4 t0_5 t0_6 t0_7 t0_8 t0_9 t0_10 t1_0 t2_0 t3_0 fm38) N2 x3 t0_0 t0_1 t0_2 t0_3 t0_4 t0_5 t0_6 t0_7 t0_8 t0_9 t0_10 t1_0 t2_0 t3_0 lx24 lx25 fm56) (S_FR_set_L134 (S_FR_set_L3 N2 x3 t0_0 t0_1 t0_2 t0_3 t0_4 t0_5 t0_6 t0_7 t0_8 t0_9 t0_10 t1_0 t2_0 t3_0 fm38) (S_FR_set_L31 (S_FR_set_L3 N2 x3 t0_0 t0_1 t0_2 t0_3 t0_4 t0_5 t0_6 t0_7 t0_8 t0_9 t0_10 t1_0 t2_0 t3_0 fm38) N2 x3 t0_0 t0_1 t0_2 t0_3 t0_4 t0_5 t0_6 t0_7 t0_8 t0_9 t0_10 t1_0 t2_0 t3_0 lx24 lx25 fm56) N2 x3 t0_0 t0_1 t0_2 t0_3 t0_4 t0_5 t0_6 t0_7 t0_8 t0_9 t0_10 t1_0 t2_0 t3_0 lx24 lx25 lx43 lx44 lx45 fm77) N2 x3 t0_0 t0_1 t0_2 t0_3 t0_4 t0_5 t0_6 t0_7 t0_8 t0_9 t0_10 t1_0 t2_0 t3_0 lx24 lx25 lx43 lx44 lx45 lx63 lx64 fm104 a128 a125 f123 from (by rw [← e129, ← e126, ← e124, ← e118]; have h := hS101; rw [S_FR_set_L158.eq_2] at h; have c111x := c111; rw [← e109, ← e106] at c111x; rw [if_neg c111x] at h; replace h := q_s2 h; with_reducible exact h))⟩⟩
    ·
      refine lv_lload hx hb d_17_7_38 (lv_at hl 1 rfl) ?_
      refine q_ldc2 C0 rfl w_2614 d_17_7_40 ?_
      refine lv_lrem hx hb d_17_7_43 (by decide) ?_
      obtain ⟨j132, e133⟩ := q_nm (lx44 - lx44 / 1000000000 * 1000000000 : Int64)
      refine q_tl (v := j132) e133 ?_
      refine lv_lstore (lv' := [(7, .long j132), (6, .int lx43), (4, .long lx44), (0, .ref (q 145)), (1, .ref (q k2))]) hx hb d_17_7_44 hl (by decide) rfl (fun ls hl => ?_)
      refine lv_lload hx hb d_17_7_46 (lv_at hl 2 rfl) ?_
      refine q_ldc2 C0 rfl w_2614 d_17_7_48 ?_
      refine lv_ldiv hx hb d_17_7_51 (by decide) ?_
      obtain ⟨j134, e135⟩ := q_nm (lx44 / 1000000000 : Int64)
      refine q_tl (v := j134) e135 ?_
      refine lv_lstore (lv' := [(4, .long j134), (7, .long j132), (6, .int lx43), (0, .ref (q 145)), (1, .ref (q k2))]) hx hb d_17_7_52 hl (by decide) rfl (fun ls hl => ?_)
      refine lv_lconst (v := 0) hx hb d_17_7_54 (by decide) ?_
      refine lv_lstore (lv' := [(9, .long 0), (4, .long j134), (7, .long j132), (6, .int lx43), (0, .ref (q 145)), (1, .ref (q k2))]) hx hb d_17_7_55 hl (by decide) rfl (fun ls hl => ?_)
      refine lv_iload hx hb d_17_7_57 (lv_at hl 3 rfl) ?_
      refine lv_istore (lv' := [(11, .int lx43), (9, .long 0), (4, .long j134), (7, .long j132), (6, .int lx43), (0, .ref (q 145)), (1, .ref (q k2))]) hx hb d_17_7_59 hl (by decide) rfl (fun ls hl => ?_)
      refine q_loop (X := Int32 × Int64 × (Nat → Int32)) (fun z H locs ls w143 => q_F (lx43.toInt ≤ z.1.toInt) ∧ q_Wd D g (va_A ws sz) s w143 H locs ∧ lv_has ls 12 [(11, .int z.1), (9, .long z.2.1), (4, .long j134), (7, .long j132), (6, .int lx43), (0, .ref (q 145)), (1, .ref (q k2))] ∧ q_I (msh g q) q w143 ∧ q_un ws w143 [147, k2] ∧ w143[145]? = (some (q 145, .inr (15, [.int t0_0, .ref (q 146), .ref (q 147), .ref (q 148), .ref (q 149), .ref (q 150), .ref (q 151), .ref (q 152), .int t0_1, .int t0_2, .int t0_3, .long t0_4, .int t0_5, .int t0_6, .long t0_7, .int t0_8, .long t0_9, .int t0_10])) : Option (Nat × va_E)) ∧ w143[146]? = (some (q 146, .inl (g 0, (156 : Int32).toNatClampNeg, .inl t1_0)) : Option (Nat × va_E)) ∧ w143[147]? = (some (q 147, .inl (g 0, (156 : Int32).toNatClampNeg, .inl z.2.2)) : Option (Nat × va_E)) ∧ w143[k2]? = (some (q k2, .inl (g 0, N2.toNatClampNeg, .inl t3_0)) : Option (Nat × va_E)) ∧ (∃ n, (156 - z.1.toInt).toNat < n ∧ F_FR_set_L61 (F_FR_set_L3 N2 x3 t0_0 t0_1 t0_2 t0_3 t0_4 t0_5 t0_6 t0_7 t0_8 t0_9 t0_10 t1_0 t2_0 t3_0 fm38) (F_FR_set_L31 (F_FR_set_L3 N2 x3 t0_0 t0_1 t0_2 t0_3 t0_4 t0_5 t0_6 t0_7 t0_8 t0_9 t0_10 t1_0 t2_0 t3_0 fm38) N2 x3 t0_0 t0_1 t0_2 t0_3 t0_4 t0_5 t0_6 t0_7 t0_8 t0_9 t0_10 t1_0 t2_0 t3_0 lx24 lx25 fm56) N2 x3 t0_0 t0_1 t0_2 t0_3 t0_4 t0_5 t0_6 t0_7 t0_8 t0_9 t0_10 t1_0 t2_0 t3_0 lx24 lx25 lx43 lx44 lx45 j134 j132 n z.1 z.2.1 z.2.2 = (F_FR_set N2 x3 t0_0 t0_1 t0_2 t0_3 t0_4 t0_5 t0_6 t0_7 t0_8 t0_9 t0_10 t1_0 t2_0 t3_0) ∧ True ∧ S_FR_set_L61 (S_FR_set_L3 N2 x3 t0_0 t0_1 t0_2 t0_3 t0_4 t0_5 t0_6 t0_7 t0_8 t0_9 t0_10 t1_0 t2_0 t3_0 fm38) (S_FR_set_L31 (S_FR_set_L3 N2 x3 t0_0 t0_1 t0_2 t0_3 t0_4 t0_5 t0_6 t0_7 t0_8 t0_9 t0_10 t1_0 t2_0 t3_0 fm38) N2 x3 t0_0 t0_1 t0_2 t0_3 t0_4 t0_5 t0_6 t0_7 t0_8 t0_9 t0_10 t1_0 t2_0 t3_0 lx24 lx25 fm56) N2 x3 t0_0 t0_1 t0_2 t0_3 t0_4 t0_5 t0_6 t0_7 t0_8 t0_9 t0_10 t1_0 t2_0 t3_0 lx24 lx25 lx43 lx44 lx45 j134 j132 n z.1 z.2.1 z.2.2)) (fun z => (156 - z.1.toInt).toNat) ?_ ((lx43 : Int32), (0 : Int64), (lx45 : (Nat → Int32))) _ _ _ w47 ⟨(show q_F (lx43.toInt ≤ lx43.toInt) from (show lx43.toInt ≤ lx43.toInt from by omega)), V, q_lw hl (q_lw1 0 rfl (q_lw1 1 rfl (q_lw1 2 rfl (q_lw1 3 rfl (q_lw1 4 rfl (q_lw1 5 rfl (q_lw1 6 rfl q_lw0))))))), hI, hF, hO48, hO49, hO50, hO51, ⟨((156 - lx43.toInt).toNat + 1), Nat.lt_succ_self _, (show F_FR_set_L61 (F_FR_set_L3 N2 x3 t0_0 t0_1 t0_2 t0_3 t0_4 t0_5 t0_6 t0_7 t0_8 t0_9 t0_10 t1_0 t2_0 t3_0 fm38) (F_FR_set_L31 (F_FR_set_L3 N2 x3 t0_0 t0_1 t0_2 t0_3 t0_4 t0_5 t0_6 t0_7 t0_8 t0_9 t0_10 t1_0 t2_0 t3_0 fm38) N2 x3 t0_0 t0_1 t0_2 t0_3 t0_4 t0_5 t0_6 t0_7 t0_8 t0_9 t0_10 t1_0 t2_0 t3_0 lx24 lx25 fm56) N2 x3 t0_0 t0_1 t0_2 t0_3 t0_4 t0_5 t0_6 t0_7 t0_8 t0_9 t0_10 t1_0 t2_0 t3_0 lx24 lx25 lx43 lx44 lx45 j134 j132 ((156 - lx43.toInt).toNat + 1) lx43 0 lx45 = (F_FR_set N2 x3 t0_0 t0_1 t0_2 t0_3 t0_4 t0_5 t0_6 t0_7 t0_8 t0_9 t0_10 t1_0 t2_0 t3_0) from Eq.trans (by have c60x := c60; rw [← e58] at c60x; rw [← e135, ← e133, F_FR_set_L31.eq_2, if_neg c60x]) hR52), (show True ∧ S_FR_set_L61 (S_FR_set_L3 N2 x3 t0_0 t0_1 t0_2 t0_3 t0_4 t0_5 t0_6 t0_7 t0_8 t0_9 t0_10 t1_0 t2_0 t3_0 fm38) (S_FR_set_L31 (S_FR_set_L3 N2 x3 t0_0 t0_1 t0_2 t0_3 t0_4 t0_5 t0_6 t0_7 t0_8 t0_9 t0_10 t1_0 t2_0 t3_0 fm38) N2 x3 t0_0 t0_1 t0_2 t0_3 t0_4 t0_5 t0_6 t0_7 t0_8 t0_9 t0_10 t1_0 t2_0 t3_0 lx24 lx25 fm56) N2 x3 t0_0 t0_1 t0_2 t0_3 t0_4 t0_5 t0_6 t0_7 t0_8 t0_9 t0_10 t1_0 t2_0 t3_0 lx24 lx25 lx43 lx44 lx45 j134 j132 ((156 - lx43.toInt).toNat + 1) lx43 0 lx45 from (by rw [← e135, ← e133]; have h := hS53; rw [S_FR_set_L31.eq_2] at h; have c60x := c60; rw [← e58] at c60x; rw [if_neg c60x] at h; with_reducible exact h))⟩⟩
      rintro ⟨lx138, lx139, lx140⟩ H locs ls w143 ⟨i141, V, hl, hI, hF, hO144, hO145, hO146, hO147, ⟨fu150, hf151, hR148, hS149⟩⟩ ih142
      obtain ⟨fm152, rfl⟩ : ∃ m, fu150 = m + 1 := ⟨fu150 - 1, by omega⟩
      replace i141 : q_F (lx43.toInt ≤ lx138.toInt) := i141
      replace hl : lv_has ls 12 [(11, .int lx138), (9, .long lx139), (4, .long j134), (7, .long j132), (6, .int lx43), (0, .ref (q 145)), (1, .ref (q k2))] := hl
      replace hO144 : w143[145]? = (some (q 145, .inr (15, [.int t0_0, .ref (q 146), .ref (q 147), .ref (q 148), .ref (q 149), .ref (q 150), .ref (q 151), .ref (q 152), .int t0_1, .int t0_2, .int t0_3, .long t0_4, .int t0_5, .int t0_6, .long t0_7, .int t0_8, .long t0_9, .int t0_10])) : Option (Nat × va_E)) := hO144
      replace hO145 : w143[146]? = (some (q 146, .inl (g 0, (156 : Int32).toNatClampNeg, .inl t1_0)) : Option (Nat × va_E)) := hO145
      replace hO146 : w143[147]? = (some (q 147, .inl (g 0, (156 : Int32).toNatClampNeg, .inl lx140)) : Option (Nat × va_E)) := hO146
      replace hO147 : w143[k2]? = (some (q k2, .inl (g 0, N2.toNatClampNeg, .inl t3_0)) : Option (Nat × va_E)) := hO147
      refine lv_iload hx hb d_17_7_61 (lv_at hl 0 rfl) ?_
      refine lv_sipush (v := 156) hx hb d_17_7_63 (by decide) ?_
      refine lv_icmp_ge (tgt := 125) hx hb d_17_7_66 (by decide) (fun c153 => ?_) (fun c153 => ?_)
      ·
        obtain ⟨a155, e156⟩ := q_nm (lx43 + 1 : Int32)
        refine lv_iinc (v := a155) (lv' := [(6, .int a155), (11, .int lx138), (9, .long lx139), (4, .long j134), (7, .long j132), (0, .ref (q 145)), (1, .ref (q k2))]) hx hb d_17_7_125 hl (k := 4) rfl (e156) (by decide) rfl (fun ls hl => ?_)
        refine lv_goto (tgt := 31) hx hb d_17_7_128 (by decide) ?_
        exact ih46 ((fm56 : Nat), (a155 : Int32), (j134 : Int64), (lx140 : (Nat → Int32))) _ _ _ _ (Nat.lt_succ_self _) ⟨V, q_lw hl (q_lw1 0 rfl (q_lw1 3 rfl (q_lw1 5 rfl (q_lw1 6 rfl q_lw0)))), hI, hF, hO144, hO145, hO146, hO147, (show F_FR_set_L31 (F_FR_set_L3 N2 x3 t0_0 t0_1 t0_2 t0_3 t0_4 t0_5 t0_6 t0_7 t0_8 t0_9 t0_10 t1_0 t2_0 t3_0 fm38) N2 x3 t0_0 t0_1 t0_2 t0_3 t0_4 t0_5 t0_6 t0_7 t0_8 t0_9 t0_10 t1_0 t2_0 t3_0 lx24 lx25 fm56 a155 j134 lx140 = (F_FR_set N2 x3 t0_0 t0_1 t0_2 t0_3 t0_4 t0_5 t0_6 t0_7 t0_8 t0_9 t0_10 t1_0 t2_0 t3_0) from Eq.trans (by rw [← e156, F_FR_set_L61.eq_2, if_pos c153]) hR148), (show True ∧ S_FR_set_L31 (S_FR_set_L3 N2 x3 t0_0 t0_1 t0_2 t0_3 t0_4 t0_5 t0_6 t0_7 t0_8 t0_9 t0_10 t1_0 t2_0 t3_0 fm38) N2 x3 t0_0 t0_1 t0_2 t0_3 t0_4 t0_5 t0_6 t0_7 t0_8 t0_9 t0_10 t1_0 t2_0 t3_0 lx24 lx25 fm56 a155 j134 lx140 from (by rw [← e156]; have h := hS149; rw [S_FR_set_L61.eq_2] at h; rw [if_pos c153] at h; with_reducible exact h))⟩
      ·
        have b157 : q_F (lx138.toInt < 156) := (q_nleI c153)
        refine lv_lload hx hb d_17_7_69 (lv_at hl 1 rfl) ?_
        refine lv_lload hx hb d_17_7_71 (lv_at hl 3 rfl) ?_
        refine lv_aload_n hx hb d_17_7_73 rfl (lv_at hl 5 rfl) ?_
        refine q_get (ci := 15) (j := 1) (v := .ref (q 146)) C0 V i_FR rfl rfl hO144 (by decide) w_2076 rfl d_17_7_74 ?_
        refine lv_iload hx hb d_17_7_77 (lv_at hl 0 rfl) ?_
        refine lv_iload hx hb d_17_7_79 (lv_at hl 4 rfl) ?_
        refine lv_isub hx hb d_17_7_81 ?_
        obtain ⟨a158, e159⟩ := q_nm (lx138 - lx43 : Int32)
        refine q_ti (v := a158) e159 ?_
        have ob160 : q_F (0 ≤ a158.toInt) := (by rw [← e159]; have h := hS149; rw [S_FR_set_L61.eq_2] at h; rw [if_neg c153] at h; exact h.2.1)
        have ob161 : q_F (a158.toInt ≤ 155) := (by rw [← e159]; have h := hS149; rw [S_FR_set_L61.eq_2] at h; rw [if_neg c153] at h; replace h := q_s2 h; exact h.2.1)
        refine q_iald C0 V hO145 (q_ix (x := a158.toInt) rfl (by first | with_reducible exact q_fe ob160 | (have t1 : 0 ≤ a158.toInt := ob160; omega)) (by have t1 : 0 ≤ a158.toInt := ob160; have t2 : a158.toInt ≤ 155 := ob161; have e9 : (((156 : Int32).toNatClampNeg : Nat) : Int) = 156 := (by decide); omega)) d_17_7_82 ?_
        obtain ⟨a162, e163⟩ := q_nm (t1_0 a158.toNatClampNeg : Int32)
        refine q_ti (v := a162) e163 ?_
        refine lv_i2l hx hb d_17_7_83 rfl ?_
        obtain ⟨j164, e165⟩ := q_nm (a162.toInt64 : Int64)
        refine q_tl (v := j164) e165 ?_
        refine lv_lmul hx hb d_17_7_84 ?_
        obtain ⟨j167, e168⟩ := q_nm (j132 * j164 : Int64)
        refine q_tl (v := j167) e168 ?_
        refine lv_ladd hx hb d_17_7_85 ?_
        obtain ⟨j169, e170⟩ := q_nm (lx139 + j167 : Int64)
        refine q_tl (v := j169) e170 ?_
        refine lv_aload_n hx hb d_17_7_86 rfl (lv_at hl 5 rfl) ?_
        refine q_get (ci := 15) (j := 2) (v := .ref (q 147)) C0 V i_FR rfl rfl hO144 (by decide) w_2077 rfl d_17_7_87 ?_
        refine lv_iload hx hb d_17_7_90 (lv_at hl 0 rfl) ?_
        have ob171 : q_F (0 ≤ lx138.toInt) := (by have h := hS149; rw [S_FR_set_L61.eq_2] at h; rw [if_neg c153] at h; replace h := q_s2 h; replace h := q_s2 h; exact h.2.1)
        refine q_iald C0 V hO146 (q_ix (x := lx138.toInt) rfl (by first | with_reducible exact q_fe ob171 | (have t1 : 0 ≤ lx138.toInt := ob171; omega)) (by have t1 : 0 ≤ lx138.toInt := ob171; have t2 : lx138.toInt < 156 := b157; have e9 : (((156 : Int32).toNatClampNeg : Nat) : Int) = 156 := (by decide); omega)) d_17_7_92 ?_
        obtain ⟨a172, e173⟩ := q_nm (lx140 lx138.toNatClampNeg : Int32)
        refine q_ti (v := a172) e173 ?_
        refine lv_i2l hx hb d_17_7_93 rfl ?_
        obtain ⟨j174, e175⟩ := q_nm (a172.toInt64 : Int64)
        refine q_tl (v := j174) e175 ?_
        refine lv_ladd hx hb d_17_7_94 ?_
        obtain ⟨j177, e178⟩ := q_nm (j169 + j174 : Int64)
        refine q_tl (v := j177) e178 ?_
        refine lv_lstore (lv' := [(9, .long j177), (11, .int lx138), (4, .long j134), (7, .long j132), (6, .int lx43), (0, .ref (q 145)), (1, .ref (q k2))]) hx hb d_17_7_95 hl (by decide) rfl (fun ls hl => ?_)
        refine lv_aload_n hx hb d_17_7_97 rfl (lv_at hl 5 rfl) ?_
        refine q_get (ci := 15) (j := 2) (v := .ref (q 147)) C0 V i_FR rfl rfl hO144 (by decide) w_2077 rfl d_17_7_98 ?_
        refine lv_iload hx hb d_17_7_101 (lv_at hl 1 rfl) ?_
        refine lv_lload hx hb d_17_7_103 (lv_at hl 0 rfl) ?_
        refine q_ldc2 C0 rfl w_2614 d_17_7_105 ?_
        refine lv_lrem hx hb d_17_7_108 (by decide) ?_
        obtain ⟨j179, e180⟩ := q_nm (j177 - j177 / 1000000000 * 1000000000 : Int64)
        refine q_tl (v := j179) e180 ?_
        refine lv_l2i hx hb d_17_7_109 rfl ?_
        obtain ⟨a181, e182⟩ := q_nm (j179.toInt32 : Int32)
        refine q_ti (v := a181) e182 ?_
        refine q_iast C0 V hO146 (q_ix (x := lx138.toInt) rfl (by first | with_reducible exact q_fe ob171 | (have t1 : 0 ≤ lx138.toInt := ob171; omega)) (by have t1 : 0 ≤ lx138.toInt := ob171; have t2 : lx138.toInt < 156 := b157; have e9 : (((156 : Int32).toNatClampNeg : Nat) : Int) = 156 := (by decide); omega)) d_17_7_110 (fun H locs w183 hu184 hO146 V => ?_)
        replace hI := n_ai' hI (n_r147 g q).1 hu184 hO146 (q_updB (fun _ => s_bnd) s_bnd)
        replace hO144 := (hu184 _ (by decide)).trans hO144
        replace hO145 := (hu184 _ (by decide)).trans hO145
        replace hO147 := (hu184 _ (by have z := ne_k2_147; omega)).trans hO147
        replace hF := q_us hF hu184 (by simp)
        obtain ⟨f185, e186⟩ := q_nm (upd lx140 lx138.toNatClampNeg a181 : (Nat → Int32))
        rw [e186] at hO146
        refine lv_lload hx hb d_17_7_111 (lv_at hl 0 rfl) ?_
        refine q_ldc2 C0 rfl w_2614 d_17_7_113 ?_
        refine lv_ldiv hx hb d_17_7_116 (by decide) ?_
        obtain ⟨j187, e188⟩ := q_nm (j177 / 1000000000 : Int64)
        refine q_tl (v := j187) e188 ?_
        refine lv_lstore (lv' := [(9, .long j187), (11, .int lx138), (4, .long j134), (7, .long j132), (6, .int lx43), (0, .ref (q 145)), (1, .ref (q k2))]) hx hb d_17_7_117 hl (by decide) rfl (fun ls hl => ?_)
        obtain ⟨a189, e190⟩ := q_nm (lx138 + 1 : Int32)
        have b191 : q_F (a189.toInt = lx138.toInt + 1) := (by rw [← e190]; exact q_addI (y := 1) rfl (by decide) (by have t1 : 0 ≤ lx138.toInt := ob171; have t2 : lx138.toInt < 156 := b157; omega) (by have t1 : 0 ≤ lx138.toInt := ob171; have t2 : lx138.toInt < 156 := b157; omega))
        refine lv_iinc (v := a189) (lv' := [(11, .int a189), (9, .long j187), (4, .long j134), (7, .long j132), (6, .int lx43), (0, .ref (q 145)), (1, .ref (q k2))]) hx hb d_17_7_119 hl (k := 1) rfl (e190) (by decide) rfl (fun ls hl => ?_)
        refine lv_goto (tgt := 61) hx hb d_17_7_122 (by decide) ?_
        exact ih142 ((a189 : Int32), (j187 : Int64), (f185 : (Nat → Int32))) _ _ _ _ (show (156 - a189.toInt).toNat < (156 - lx138.toInt).toNat from by have t1 : a189.toInt = lx138.toInt + 1 := b191; have t2 : lx138.toInt < 156 := b157; omega) ⟨(show q_F (lx43.toInt ≤ a189.toInt) from (show lx43.toInt ≤ a189.toInt from by have t1 : lx43.toInt ≤ lx138.toInt := i141; have t2 : a189.toInt = lx138.toInt + 1 := b191; omega)), V, q_lw hl (q_lw1 0 rfl (q_lw1 1 rfl (q_lw1 2 rfl (q_lw1 3 rfl (q_lw1 4 rfl (q_lw1 5 rfl (q_lw1 6 rfl q_lw0))))))), hI, hF, hO144, hO145, hO146, hO147, ⟨fm152, Nat.lt_of_lt_of_le (show (156 - a189.toInt).toNat < (156 - lx138.toInt).toNat from by have t1 : a189.toInt = lx138.toInt + 1 := b191; have t2 : lx138.toInt < 156 := b157; omega) (Nat.le_of_lt_succ hf151), (show F_FR_set_L61 (F_FR_set_L3 N2 x3 t0_0 t0_1 t0_2 t0_3 t0_4 t0_5 t0_6 t0_7 t0_8 t0_9 t0_10 t1_0 t2_0 t3_0 fm38) (F_FR_set_L31 (F_FR_set_L3 N2 x3 t0_0 t0_1 t0_2 t0_3 t0_4 t0_5 t0_6 t0_7 t0_8 t0_9 t0_10 t1_0 t2_0 t3_0 fm38) N2 x3 t0_0 t0_1 t0_2 t0_3 t0_4 t0_5 t0_6 t0_7 t0_8 t0_9 t0_10 t1_0 t2_0 t3_0 lx24 lx25 fm56) N2 x3 t0_0 t0_1 t0_2 t0_3 t0_4 t0_5 t0_6 t0_7 t0_8 t0_9 t0_10 t1_0 t2_0 t3_0 lx24 lx25 lx43 lx44 lx45 j134 j132 fm152 a189 j187 f185 = (F_FR_set N2 x3 t0_0 t0_1 t0_2 t0_3 t0_4 t0_5 t0_6 t0_7 t0_8 t0_9 t0_10 t1_0 t2_0 t3_0) from Eq.trans (by rw [← e190, ← e188, ← e186, ← e182, ← e180, ← e178, ← e175, ← e173, ← e170, ← e168, ← e165, ← e163, ← e159, F_FR_set_L61.eq_2, if_neg c153]) hR148), (show True ∧ S_FR_set_L61 (S_FR_set_L3 N2 x3 t0_0 t0_1 t0_2 t0_3 t0_4 t0_5 t0_6 t0_7 t0_8 t0_9 t0_10 t1_0 t2_0 t3_0 fm38) (S_FR_set_L31 (S_FR_set_L3 N2 x3 t0_0 t0_1 t0_2 t0_3 t0_4 t0_5 t0_6 t0_7 t0_8 t0_9 t0_10 t1_0 t2_0 t3_0 fm38) N2 x3 t0_0 t0_1 t0_2 t0_3 t0_4 t0_5 t0_6 t0_7 t0_8 t0_9 t0_10 t1_0 t2_0 t3_0 lx24 lx25 fm56) N2 x3 t0_0 t0_1 t0_2 t0_3 t0_4 t0_5 t0_6 t0_7 t0_8 t0_9 t0_10 t1_0 t2_0 t3_0 lx24 lx25 lx43 lx44 lx45 j134 j132 fm152 a189 j187 f185 from (by rw [← e190, ← e188, ← e186, ← e182, ← e180, ← e178, ← e175, ← e173, ← e170, ← e168, ← e165, ← e163, ← e159]; have h := hS149; rw [S_FR_set_L61.eq_2] at h; rw [if_neg c153] at h; replace h := q_s2 h; replace h := q_s2 h; replace h := q_s2 h; with_reducible exact h))⟩⟩
  ·
    have b192 : q_F (lx24.toInt < 156) := (q_nleI c39)
    refine lv_aload_n hx hb d_17_7_11 rfl (lv_at hl 1 rfl) ?_
    refine q_get (ci := 15) (j := 2) (v := .ref (q 147)) C0 V i_FR rfl rfl hO30 (by decide) w_2077 rfl d_17_7_12 ?_
    refine lv_iload hx hb d_17_7_15 (lv_at hl 0 rfl) ?_
    refine lv_iconst (v := 0) hx hb d_17_7_17 (by decide) ?_
    refine q_iast C0 V hO32 (q_ix (x := lx24.toInt) rfl (by first | with_reducible exact q_fe i26 | (have t1 : 0 ≤ lx24.toInt := i26; omega)) (by have t1 : 0 ≤ lx24.toInt := i26; have t2 : lx24.toInt < 156 := b192; have e9 : (((156 : Int32).toNatClampNeg : Nat) : Int) = 156 := (by decide); omega)) d_17_7_18 (fun H locs w193 hu194 hO32 V => ?_)
    replace hI := n_ai' hI (n_r147 g q).1 hu194 hO32 (q_updB (fun _ => s_bnd) s_bnd)
    replace hO30 := (hu194 _ (by decide)).trans hO30
    replace hO31 := (hu194 _ (by decide)).trans hO31
    replace hO33 := (hu194 _ (by have z := ne_k2_147; omega)).trans hO33
    replace hF := q_us hF hu194 (by simp)
    obtain ⟨f195, e196⟩ := q_nm (upd lx25 lx24.toNatClampNeg 0 : (Nat → Int32))
    rw [e196] at hO32
    obtain ⟨a197, e198⟩ := q_nm (lx24 + 1 : Int32)
    have b199 : q_F (a197.toInt = lx24.toInt + 1) := (by rw [← e198]; exact q_addI (y := 1) rfl (by decide) (by have t1 : 0 ≤ lx24.toInt := i26; have t2 : lx24.toInt ≤ 156 := i27; omega) (by have t1 : 0 ≤ lx24.toInt := i26; have t2 : lx24.toInt ≤ 156 := i27; omega))
    refine lv_iinc (v := a197) (lv' := [(4, .int a197), (0, .ref (q 145)), (1, .ref (q k2)), (2, .long x3)]) hx hb d_17_7_19 hl (k := 0) rfl (e198) (by decide) rfl (fun ls hl => ?_)
    refine lv_goto (tgt := 3) hx hb d_17_7_22 (by decide) ?_
    exact ih28 ((a197 : Int32), (f195 : (Nat → Int32))) _ _ _ _ (show (156 - a197.toInt).toNat < (156 - lx24.toInt).toNat from by have t1 : a197.toInt = lx24.toInt + 1 := b199; have t2 : lx24.toInt ≤ 156 := i27; have t3 : lx24.toInt < 156 := b192; omega) ⟨(show q_F (0 ≤ a197.toInt) from (show 0 ≤ a197.toInt from by have t1 : 0 ≤ lx24.toInt := i26; have t2 : a197.toInt = lx24.toInt + 1 := b199; omega)), (show q_F (a197.toInt ≤ 156) from (show a197.toInt ≤ 156 from by have t1 : lx24.toInt < 156 := b192; have t2 : a197.toInt = lx24.toInt + 1 := b199; omega)), V, q_lw hl (q_lw1 0 rfl (q_lw1 1 rfl (q_lw1 2 rfl (q_lw1 3 rfl q_lw0)))), hI, hF, hO30, hO31, hO32, hO33, ⟨fm38, Nat.lt_of_lt_of_le (show (156 - a197.toInt).toNat < (156 - lx24.toInt).toNat from by have t1 : a197.toInt = lx24.toInt + 1 := b199; have t2 : lx24.toInt ≤ 156 := i27; have t3 : lx24.toInt < 156 := b192; omega) (Nat.le_of_lt_succ hf37), (show F_FR_set_L3 N2 x3 t0_0 t0_1 t0_2 t0_3 t0_4 t0_5 t0_6 t0_7 t0_8 t0_9 t0_10 t1_0 t2_0 t3_0 fm38 a197 f195 = (F_FR_set N2 x3 t0_0 t0_1 t0_2 t0_3 t0_4 t0_5 t0_6 t0_7 t0_8 t0_9 t0_10 t1_0 t2_0 t3_0) from Eq.trans (by rw [← e198, ← e196, F_FR_set_L3.eq_2, if_neg c39]) hR34), (show True ∧ S_FR_set_L3 N2 x3 t0_0 t0_1 t0_2 t0_3 t0_4 t0_5 t0_6 t0_7 t0_8 t0_9 t0_10 t1_0 t2_0 t3_0 fm38 a197 f195 from (by rw [← e198, ← e196]; have h := hS35; rw [S_FR_set_L3.eq_2] at h; rw [if_neg c39] at h; with_reducible exact h))⟩⟩
theorem d_17_8_0 : decode prog_17_method_8_code 0 = .ok (.aload_n 0, 1) := by decide +kernel
theorem d_17_8_1 : decode prog_17_method_8_code 1 = .ok (.aload_n 0, 1) := by decide +kernel
theorem d_17_8_2 : decode prog_17_method_8_code 2 = .ok (.getfield 55, 3) := by decide +kernel
theorem d_17_8_5 : decode prog_17_method_8_code 5 = .ok (.iconst 2, 1) := by decide +kernel
theorem d_17_8_6 : decode prog_17_method_8_code 6 = .ok (.isub, 1) := by decide +kernel
theorem d_17_8_7 : decode prog_17_method_8_code 7 = .ok (.invokevirtual 61, 3) := by decide +kernel
set_option maxRecDepth 100000 in
theorem w_2607 : (Cond.code ({ cls := "NumberHouseModel$FloatRows", name := "setUnit", desc := "(I)V" } : MethodName) prog_17_method_6_code (6 : Nat) (none : Option ClassFile.FieldType)) ∈ q_tbl := q_of11 207 rfl (by decide +kernel)
set_option maxRecDepth 100000 in
theorem w_2604 : (Cond.methodLink "NumberHouseModel$FloatRows" (61 : Nat) ({ cls := "NumberHouseModel$FloatRows", name := "setUnit", desc := "(I)V" } : MethodName)) ∈ q_tbl := q_of11 204 rfl (by decide +kernel)
set_option maxRecDepth 100000 in
theorem w_2606 : (Cond.instanceMethod ({ cls := "NumberHouseModel$FloatRows", name := "setUnit", desc := "(I)V" } : MethodName)) ∈ q_tbl := q_of11 206 rfl (by decide +kernel)
theorem ws_93 : Cond.selects "NumberHouseModel$FloatRows" (⟨"NumberHouseModel$FloatRows", "setUnit", "(I)V"⟩ : MethodName) (⟨"NumberHouseModel$FloatRows", "setUnit", "(I)V"⟩ : MethodName) ∈ q_tbl := q_ofs 93 (by decide +kernel) (by decide +kernel)
theorem LV_FR_61 : q_LV "NumberHouseModel$FloatRows" 61 y_FR_setUnit prog_17_method_6_code 6 none 1 := ⟨w_2607, w_17, w_2604, w_2606, ws_93, ⟨by decide, by decide, by decide +kernel⟩⟩
theorem d_17_8_10 : decode prog_17_method_8_code 10 = .ok (.aload_n 0, 1) := by decide +kernel
theorem d_17_8_11 : decode prog_17_method_8_code 11 = .ok (.aload_n 0, 1) := by decide +kernel
theorem d_17_8_12 : decode prog_17_method_8_code 12 = .ok (.getfield 16, 3) := by decide +kernel
theorem d_17_8_15 : decode prog_17_method_8_code 15 = .ok (.ldc2_w 65, 3) := by decide +kernel
set_option maxRecDepth 100000 in
theorem w_2609 : (Cond.constantLong "NumberHouseModel$FloatRows" (65 : Nat) (4 : Int64)) ∈ q_tbl := q_of11 209 rfl (by decide +kernel)
theorem d_17_8_18 : decode prog_17_method_8_code 18 = .ok (.aload_n 0, 1) := by decide +kernel
theorem d_17_8_19 : decode prog_17_method_8_code 19 = .ok (.getfield 52, 3) := by decide +kernel
theorem d_17_8_22 : decode prog_17_method_8_code 22 = .ok (.lmul, 1) := by decide +kernel
theorem d_17_8_23 : decode prog_17_method_8_code 23 = .ok (.invokevirtual 67, 3) := by decide +kernel
set_option maxRecDepth 100000 in
theorem w_2613 : (Cond.code ({ cls := "NumberHouseModel$FloatRows", name := "set", desc := "([IJ)V" } : MethodName) prog_17_method_7_code (12 : Nat) (none : Option ClassFile.FieldType)) ∈ q_tbl := q_of11 213 rfl (by decide +kernel)
set_option maxRecDepth 100000 in
theorem w_2610 : (Cond.methodLink "NumberHouseModel$FloatRows" (67 : Nat) ({ cls := "NumberHouseModel$FloatRows", name := "set", desc := "([IJ)V" } : MethodName)) ∈ q_tbl := q_of11 210 rfl (by decide +kernel)
set_option maxRecDepth 100000 in
theorem w_2612 : (Cond.instanceMethod ({ cls := "NumberHouseModel$FloatRows", name := "set", desc := "([IJ)V" } : MethodName)) ∈ q_tbl := q_of11 212 rfl (by decide +kernel)
theorem ws_94 : Cond.selects "NumberHouseModel$FloatRows" (⟨"NumberHouseModel$FloatRows", "set", "([IJ)V"⟩ : MethodName) (⟨"NumberHouseModel$FloatRows", "set", "([IJ)V"⟩ : MethodName) ∈ q_tbl := q_ofs 94 (by decide +kernel) (by decide +kernel)
theorem LV_FR_67 : q_LV "NumberHouseModel$FloatRows" 67 y_FR_set prog_17_method_7_code 12 none 2 := ⟨w_2613, w_17, w_2610, w_2612, ws_94, ⟨by decide, by decide, by decide +kernel⟩⟩
theorem d_17_8_26 : decode prog_17_method_8_code 26 = .ok (.aload_n 0, 1) := by decide +kernel
theorem d_17_8_27 : decode prog_17_method_8_code 27 = .ok (.aload_n 0, 1) := by decide +kernel
theorem d_17_8_28 : decode prog_17_method_8_code 28 = .ok (.getfield 19, 3) := by decide +kernel
theorem d_17_8_31 : decode prog_17_method_8_code 31 = .ok (.ldc2_w 65, 3) := by decide +kernel
theorem d_17_8_34 : decode prog_17_method_8_code 34 = .ok (.aload_n 0, 1) := by decide +kernel
theorem d_17_8_35 : decode prog_17_method_8_code 35 = .ok (.getfield 52, 3) := by decide +kernel
theorem d_17_8_38 : decode prog_17_method_8_code 38 = .ok (.lmul, 1) := by decide +kernel
theorem d_17_8_39 : decode prog_17_method_8_code 39 = .ok (.aload_n 0, 1) := by decide +kernel
theorem d_17_8_40 : decode prog_17_method_8_code 40 = .ok (.getfield 48, 3) := by decide +kernel
theorem d_17_8_43 : decode prog_17_method_8_code 43 = .ok (.lconst 0, 1) := by decide +kernel
theorem d_17_8_44 : decode prog_17_method_8_code 44 = .ok (.lcmp, 1) := by decide +kernel
theorem d_17_8_60 : decode prog_17_method_8_code 60 = .ok (.ldc2_w 71, 3) := by decide +kernel
set_option maxRecDepth 100000 in
theorem w_2615 : (Cond.constantLong "NumberHouseModel$FloatRows" (71 : Nat) (2 : Int64)) ∈ q_tbl := q_of11 215 rfl (by decide +kernel)
theorem d_17_8_63 : decode prog_17_method_8_code 63 = .ok (.lsub, 1) := by decide +kernel
theorem d_17_8_64 : decode prog_17_method_8_code 64 = .ok (.invokevirtual 67, 3) := by decide +kernel
theorem d_17_8_67 : decode prog_17_method_8_code 67 = .ok (.aload_n 0, 1) := by decide +kernel
theorem d_17_8_68 : decode prog_17_method_8_code 68 = .ok (.aload_n 0, 1) := by decide +kernel
theorem d_17_8_69 : decode prog_17_method_8_code 69 = .ok (.getfield 22, 3) := by decide +kernel
theorem d_17_8_72 : decode prog_17_method_8_code 72 = .ok (.ldc2_w 65, 3) := by decide +kernel
theorem d_17_8_75 : decode prog_17_method_8_code 75 = .ok (.aload_n 0, 1) := by decide +kernel
theorem d_17_8_76 : decode prog_17_method_8_code 76 = .ok (.getfield 52, 3) := by decide +kernel
theorem d_17_8_79 : decode prog_17_method_8_code 79 = .ok (.lmul, 1) := by decide +kernel
theorem d_17_8_80 : decode prog_17_method_8_code 80 = .ok (.ldc2_w 71, 3) := by decide +kernel
theorem d_17_8_83 : decode prog_17_method_8_code 83 = .ok (.ladd, 1) := by decide +kernel
theorem d_17_8_84 : decode prog_17_method_8_code 84 = .ok (.invokevirtual 67, 3) := by decide +kernel
theorem d_17_8_87 : decode prog_17_method_8_code 87 = .ok (.return_, 1) := by decide +kernel
theorem d_17_8_45 : decode prog_17_method_8_code 45 = .ok (.ifCond .ne 15, 3) := by decide +kernel
theorem d_17_8_48 : decode prog_17_method_8_code 48 = .ok (.aload_n 0, 1) := by decide +kernel
theorem d_17_8_49 : decode prog_17_method_8_code 49 = .ok (.getfield 45, 3) := by decide +kernel
theorem d_17_8_52 : decode prog_17_method_8_code 52 = .ok (.iconst 1, 1) := by decide +kernel
theorem d_17_8_53 : decode prog_17_method_8_code 53 = .ok (.if_icmp .le 7, 3) := by decide +kernel
theorem d_17_8_56 : decode prog_17_method_8_code 56 = .ok (.lconst 1, 1) := by decide +kernel
theorem d_17_8_57 : decode prog_17_method_8_code 57 = .ok (.goto 6, 3) := by decide +kernel
def y_FR_setAll : MethodName := ⟨"NumberHouseModel$FloatRows", "setAll", "()V"⟩
def F_FR_setAll_c84 (t0_0 : Int32) (t0_1 : Int32) (t0_2 : Int32) (t0_3 : Int32) (t0_4 : Int64) (t0_5 : Int32) (t0_6 : Int32) (t0_7 : Int64) (t0_8 : Int32) (t0_9 : Int64) (t0_10 : Int32) (t1_0 : (Nat → Int32)) (t2_0 : (Nat → Int32)) (t3_0 : (Nat → Int32)) (t4_0 : (Nat → Int32)) (t5_0 : (Nat → Int32)) (f33 : (Nat → Int32)) (p49 : ((Nat → Int32) × (Nat → Int32))) (j58 : Int64) (f43 : (Nat → Int32)) (f45 : (Nat → Int32)) (p86 : ((Nat → Int32) × (Nat → Int32))) (f82 : (Nat → Int32)) (p108 : ((Nat → Int32) × (Nat → Int32))) : (Nat → Int32) × (Nat → Int32) × (Nat → Int32) × (Nat → Int32) × (Nat → Int32) := (f33, (p108.1 : (Nat → Int32)), f45, f82, (p108.2 : (Nat → Int32)))
def F_FR_setAll_c64 (t0_0 : Int32) (t0_1 : Int32) (t0_2 : Int32) (t0_3 : Int32) (t0_4 : Int64) (t0_5 : Int32) (t0_6 : Int32) (t0_7 : Int64) (t0_8 : Int32) (t0_9 : Int64) (t0_10 : Int32) (t1_0 : (Nat → Int32)) (t2_0 : (Nat → Int32)) (t3_0 : (Nat → Int32)) (t4_0 : (Nat → Int32)) (t5_0 : (Nat → Int32)) (f33 : (Nat → Int32)) (p49 : ((Nat → Int32) × (Nat → Int32))) (j58 : Int64) (f43 : (Nat → Int32)) (f45 : (Nat → Int32)) (p86 : ((Nat → Int32) × (Nat → Int32))) : (Nat → Int32) × (Nat → Int32) × (Nat → Int32) × (Nat → Int32) × (Nat → Int32) := F_FR_setAll_c84 t0_0 t0_1 t0_2 t0_3 t0_4 t0_5 t0_6 t0_7 t0_8 t0_9 t0_10 t1_0 t2_0 t3_0 t4_0 t5_0 f33 p49 j58 f43 f45 p86 (p86.2 : (Nat → Int32)) ((F_FR_set (1404 : Int32) ((4 * t0_7 : Int64) + 2 : Int64) t0_0 t0_1 t0_2 t0_3 t0_4 t0_5 t0_6 t0_7 t0_8 t0_9 t0_10 f33 (p86.1 : (Nat → Int32)) t5_0) : ((Nat → Int32) × (Nat → Int32)))
def F_FR_setAll_J60 (t0_0 : Int32) (t0_1 : Int32) (t0_2 : Int32) (t0_3 : Int32) (t0_4 : Int64) (t0_5 : Int32) (t0_6 : Int32) (t0_7 : Int64) (t0_8 : Int32) (t0_9 : Int64) (t0_10 : Int32) (t1_0 : (Nat → Int32)) (t2_0 : (Nat → Int32)) (t3_0 : (Nat → Int32)) (t4_0 : (Nat → Int32)) (t5_0 : (Nat → Int32)) (f33 : (Nat → Int32)) (p49 : ((Nat → Int32) × (Nat → Int32))) (j58 : Int64) (f43 : (Nat → Int32)) (f45 : (Nat → Int32)) : (Nat → Int32) × (Nat → Int32) × (Nat → Int32) × (Nat → Int32) × (Nat → Int32) := F_FR_setAll_c64 t0_0 t0_1 t0_2 t0_3 t0_4 t0_5 t0_6 t0_7 t0_8 t0_9 t0_10 t1_0 t2_0 t3_0 t4_0 t5_0 f33 p49 j58 f43 f45 ((F_FR_set (1404 : Int32) (j58 - 2 : Int64) t0_0 t0_1 t0_2 t0_3 t0_4 t0_5 t0_6 t0_7 t0_8 t0_9 t0_10 f33 f43 t4_0) : ((Nat → Int32) × (Nat → Int32)))
def F_FR_setAll_c84_6 (t0_0 : Int32) (t0_1 : Int32) (t0_2 : Int32) (t0_3 : Int32) (t0_4 : Int64) (t0_5 : Int32) (t0_6 : Int32) (t0_7 : Int64) (t0_8 : Int32) (t0_9 : Int64) (t0_10 : Int32) (t1_0 : (Nat → Int32)) (t2_0 : (Nat → Int32)) (t3_0 : (Nat → Int32)) (t4_0 : (Nat → Int32)) (t5_0 : (Nat → Int32)) (f33 : (Nat → Int32)) (p49 : ((Nat → Int32) × (Nat → Int32))) (f45 : (Nat → Int32)) (p134 : ((Nat → Int32) × (Nat → Int32))) (f130 : (Nat → Int32)) (p156 : ((Nat → Int32) × (Nat → Int32))) : (Nat → Int32) × (Nat → Int32) × (Nat → Int32) × (Nat → Int32) × (Nat → Int32) := (f33, (p156.1 : (Nat → Int32)), f45, f130, (p156.2 : (Nat → Int32)))
def F_FR_setAll_c64_5 (t0_0 : Int32) (t0_1 : Int32) (t0_2 : Int32) (t0_3 : Int32) (t0_4 : Int64) (t0_5 : Int32) (t0_6 : Int32) (t0_7 : Int64) (t0_8 : Int32) (t0_9 : Int64) (t0_10 : Int32) (t1_0 : (Nat → Int32)) (t2_0 : (Nat → Int32)) (t3_0 : (Nat → Int32)) (t4_0 : (Nat → Int32)) (t5_0 : (Nat → Int32)) (f33 : (Nat → Int32)) (p49 : ((Nat → Int32) × (Nat → Int32))) (f45 : (Nat → Int32)) (p134 : ((Nat → Int32) × (Nat → Int32))) : (Nat → Int32) × (Nat → Int32) × (Nat → Int32) × (Nat → Int32) × (Nat → Int32) := F_FR_setAll_c84_6 t0_0 t0_1 t0_2 t0_3 t0_4 t0_5 t0_6 t0_7 t0_8 t0_9 t0_10 t1_0 t2_0 t3_0 t4_0 t5_0 f33 p49 f45 p134 (p134.2 : (Nat → Int32)) ((F_FR_set (1404 : Int32) ((4 * t0_7 : Int64) + 2 : Int64) t0_0 t0_1 t0_2 t0_3 t0_4 t0_5 t0_6 t0_7 t0_8 t0_9 t0_10 f33 (p134.1 : (Nat → Int32)) t5_0) : ((Nat → Int32) × (Nat → Int32)))
def F_FR_setAll_c23 (t0_0 : Int32) (t0_1 : Int32) (t0_2 : Int32) (t0_3 : Int32) (t0_4 : Int64) (t0_5 : Int32) (t0_6 : Int32) (t0_7 : Int64) (t0_8 : Int32) (t0_9 : Int64) (t0_10 : Int32) (t1_0 : (Nat → Int32)) (t2_0 : (Nat → Int32)) (t3_0 : (Nat → Int32)) (t4_0 : (Nat → Int32)) (t5_0 : (Nat → Int32)) (f33 : (Nat → Int32)) (p49 : ((Nat → Int32) × (Nat → Int32))) : (Nat → Int32) × (Nat → Int32) × (Nat → Int32) × (Nat → Int32) × (Nat → Int32) := if (lg_cmp t0_4 0 : Int32) = (0 : Int32) then (if t0_3 ≤ (1 : Int32) then (F_FR_setAll_J60 t0_0 t0_1 t0_2 t0_3 t0_4 t0_5 t0_6 t0_7 t0_8 t0_9 t0_10 t1_0 t2_0 t3_0 t4_0 t5_0 f33 p49 (4 * t0_7 : Int64) (p49.1 : (Nat → Int32)) (p49.2 : (Nat → Int32))) else (F_FR_setAll_c64_5 t0_0 t0_1 t0_2 t0_3 t0_4 t0_5 t0_6 t0_7 t0_8 t0_9 t0_10 t1_0 t2_0 t3_0 t4_0 t5_0 f33 p49 (p49.2 : (Nat → Int32)) ((F_FR_set (1404 : Int32) ((4 * t0_7 : Int64) - 1 : Int64) t0_0 t0_1 t0_2 t0_3 t0_4 t0_5 t0_6 t0_7 t0_8 t0_9 t0_10 f33 (p49.1 : (Nat → Int32)) t4_0) : ((Nat → Int32) × (Nat → Int32))))) else (F_FR_setAll_J60 t0_0 t0_1 t0_2 t0_3 t0_4 t0_5 t0_6 t0_7 t0_8 t0_9 t0_10 t1_0 t2_0 t3_0 t4_0 t5_0 f33 p49 (4 * t0_7 : Int64) (p49.1 : (Nat → Int32)) (p49.2 : (Nat → Int32)))
def F_FR_setAll (t0_0 : Int32) (t0_1 : Int32) (t0_2 : Int32) (t0_3 : Int32) (t0_4 : Int64) (t0_5 : Int32) (t0_6 : Int32) (t0_7 : Int64) (t0_8 : Int32) (t0_9 : Int64) (t0_10 : Int32) (t1_0 : (Nat → Int32)) (t2_0 : (Nat → Int32)) (t3_0 : (Nat → Int32)) (t4_0 : (Nat → Int32)) (t5_0 : (Nat → Int32)) : (Nat → Int32) × (Nat → Int32) × (Nat → Int32) × (Nat → Int32) × (Nat → Int32) := F_FR_setAll_c23 t0_0 t0_1 t0_2 t0_3 t0_4 t0_5 t0_6 t0_7 t0_8 t0_9 t0_10 t1_0 t2_0 t3_0 t4_0 t5_0 ((F_FR_setUnit (t0_8 - 2 : Int32) t0_0 t0_1 t0_2 t0_3 t0_4 t0_5 t0_6 t0_7 t0_8 t0_9 t0_10 t1_0) : (Nat → Int32)) ((F_FR_set (1404 : Int32) (4 * t0_7 : Int64) t0_0 t0_1 t0_2 t0_3 t0_4 t0_5 t0_6 t0_7 t0_8 t0_9 t0_10 ((F_FR_setUnit (t0_8 - 2 : Int32) t0_0 t0_1 t0_2 t0_3 t0_4 t0_5 t0_6 t0_7 t0_8 t0_9 t0_10 t1_0) : (Nat → Int32)) t2_0 t3_0) : ((Nat → Int32) × (Nat → Int32)))
def S_FR_setAll_c84 (t0_0 : Int32) (t0_1 : Int32) (t0_2 : Int32) (t0_3 : Int32) (t0_4 : Int64) (t0_5 : Int32) (t0_6 : Int32) (t0_7 : Int64) (t0_8 : Int32) (t0_9 : Int64) (t0_10 : Int32) (t1_0 : (Nat → Int32)) (t2_0 : (Nat → Int32)) (t3_0 : (Nat → Int32)) (t4_0 : (Nat → Int32)) (t5_0 : (Nat → Int32)) (f33 : (Nat → Int32)) (p49 : ((Nat → Int32) × (Nat → Int32))) (j58 : Int64) (f43 : (Nat → Int32)) (f45 : (Nat → Int32)) (p86 : ((Nat → Int32) × (Nat → Int32))) (f82 : (Nat → Int32)) (p108 : ((Nat → Int32) × (Nat → Int32))) : Prop := True
def S_FR_setAll_c64 (t0_0 : Int32) (t0_1 : Int32) (t0_2 : Int32) (t0_3 : Int32) (t0_4 : Int64) (t0_5 : Int32) (t0_6 : Int32) (t0_7 : Int64) (t0_8 : Int32) (t0_9 : Int64) (t0_10 : Int32) (t1_0 : (Nat → Int32)) (t2_0 : (Nat → Int32)) (t3_0 : (Nat → Int32)) (t4_0 : (Nat → Int32)) (t5_0 : (Nat → Int32)) (f33 : (Nat → Int32)) (p49 : ((Nat → Int32) × (Nat → Int32))) (j58 : Int64) (f43 : (Nat → Int32)) (f45 : (Nat → Int32)) (p86 : ((Nat → Int32) × (Nat → Int32))) : Prop := (True ∧ S_FR_set (1404 : Int32) ((4 * t0_7 : Int64) + 2 : Int64) t0_0 t0_1 t0_2 t0_3 t0_4 t0_5 t0_6 t0_7 t0_8 t0_9 t0_10 f33 (p86.1 : (Nat → Int32)) t5_0) ∧ (S_FR_setAll_c84 t0_0 t0_1 t0_2 t0_3 t0_4 t0_5 t0_6 t0_7 t0_8 t0_9 t0_10 t1_0 t2_0 t3_0 t4_0 t5_0 f33 p49 j58 f43 f45 p86 (p86.2 : (Nat → Int32)) ((F_FR_set (1404 : Int32) ((4 * t0_7 : Int64) + 2 : Int64) t0_0 t0_1 t0_2 t0_3 t0_4 t0_5 t0_6 t0_7 t0_8 t0_9 t0_10 f33 (p86.1 : (Nat → Int32)) t5_0) : ((Nat → Int32) × (Nat → Int32))))
def S_FR_setAll_J60 (t0_0 : Int32) (t0_1 : Int32) (t0_2 : Int32) (t0_3 : Int32) (t0_4 : Int64) (t0_5 : Int32) (t0_6 : Int32) (t0_7 : Int64) (t0_8 : Int32) (t0_9 : Int64) (t0_10 : Int32) (t1_0 : (Nat → Int32)) (t2_0 : (Nat → Int32)) (t3_0 : (Nat → Int32)) (t4_0 : (Nat → Int32)) (t5_0 : (Nat → Int32)) (f33 : (Nat → Int32)) (p49 : ((Nat → Int32) × (Nat → Int32))) (j58 : Int64) (f43 : (Nat → Int32)) (f45 : (Nat → Int32)) : Prop := (True ∧ S_FR_set (1404 : Int32) (j58 - 2 : Int64) t0_0 t0_1 t0_2 t0_3 t0_4 t0_5 t0_6 t0_7 t0_8 t0_9 t0_10 f33 f43 t4_0) ∧ (S_FR_setAll_c64 t0_0 t0_1 t0_2 t0_3 t0_4 t0_5 t0_6 t0_7 t0_8 t0_9 t0_10 t1_0 t2_0 t3_0 t4_0 t5_0 f33 p49 j58 f43 f45 ((F_FR_set (1404 : Int32) (j58 - 2 : Int64) t0_0 t0_1 t0_2 t0_3 t0_4 t0_5 t0_6 t0_7 t0_8 t0_9 t0_10 f33 f43 t4_0) : ((Nat → Int32) × (Nat → Int32))))
def S_FR_setAll_c84_6 (t0_0 : Int32) (t0_1 : Int32) (t0_2 : Int32) (t0_3 : Int32) (t0_4 : Int64) (t0_5 : Int32) (t0_6 : Int32) (t0_7 : Int64) (t0_8 : Int32) (t0_9 : Int64) (t0_10 : Int32) (t1_0 : (Nat → Int32)) (t2_0 : (Nat → Int32)) (t3_0 : (Nat → Int32)) (t4_0 : (Nat → Int32)) (t5_0 : (Nat → Int32)) (f33 : (Nat → Int32)) (p49 : ((Nat → Int32) × (Nat → Int32))) (f45 : (Nat → Int32)) (p134 : ((Nat → Int32) × (Nat → Int32))) (f130 : (Nat → Int32)) (p156 : ((Nat → Int32) × (Nat → Int32))) : Prop := True
def S_FR_setAll_c64_5 (t0_0 : Int32) (t0_1 : Int32) (t0_2 : Int32) (t0_3 : Int32) (t0_4 : Int64) (t0_5 : Int32) (t0_6 : Int32) (t0_7 : Int64) (t0_8 : Int32) (t0_9 : Int64) (t0_10 : Int32) (t1_0 : (Nat → Int32)) (t2_0 : (Nat → Int32)) (t3_0 : (Nat → Int32)) (t4_0 : (Nat → Int32)) (t5_0 : (Nat → Int32)) (f33 : (Nat → Int32)) (p49 : ((Nat → Int32) × (Nat → Int32))) (f45 : (Nat → Int32)) (p134 : ((Nat → Int32) × (Nat → Int32))) : Prop := (True ∧ S_FR_set (1404 : Int32) ((4 * t0_7 : Int64) + 2 : Int64) t0_0 t0_1 t0_2 t0_3 t0_4 t0_5 t0_6 t0_7 t0_8 t0_9 t0_10 f33 (p134.1 : (Nat → Int32)) t5_0) ∧ (S_FR_setAll_c84_6 t0_0 t0_1 t0_2 t0_3 t0_4 t0_5 t0_6 t0_7 t0_8 t0_9 t0_10 t1_0 t2_0 t3_0 t4_0 t5_0 f33 p49 f45 p134 (p134.2 : (Nat → Int32)) ((F_FR_set (1404 : Int32) ((4 * t0_7 : Int64) + 2 : Int64) t0_0 t0_1 t0_2 t0_3 t0_4 t0_5 t0_6 t0_7 t0_8 t0_9 t0_10 f33 (p134.1 : (Nat → Int32)) t5_0) : ((Nat → Int32) × (Nat → Int32))))
def S_FR_setAll_c23 (t0_0 : Int32) (t0_1 : Int32) (t0_2 : Int32) (t0_3 : Int32) (t0_4 : Int64) (t0_5 : Int32) (t0_6 : Int32) (t0_7 : Int64) (t0_8 : Int32) (t0_9 : Int64) (t0_10 : Int32) (t1_0 : (Nat → Int32)) (t2_0 : (Nat → Int32)) (t3_0 : (Nat → Int32)) (t4_0 : (Nat → Int32)) (t5_0 : (Nat → Int32)) (f33 : (Nat → Int32)) (p49 : ((Nat → Int32) × (Nat → Int32))) : Prop := if (lg_cmp t0_4 0 : Int32) = (0 : Int32) then (if t0_3 ≤ (1 : Int32) then (S_FR_setAll_J60 t0_0 t0_1 t0_2 t0_3 t0_4 t0_5 t0_6 t0_7 t0_8 t0_9 t0_10 t1_0 t2_0 t3_0 t4_0 t5_0 f33 p49 (4 * t0_7 : Int64) (p49.1 : (Nat → Int32)) (p49.2 : (Nat → Int32))) else ((True ∧ S_FR_set (1404 : Int32) ((4 * t0_7 : Int64) - 1 : Int64) t0_0 t0_1 t0_2 t0_3 t0_4 t0_5 t0_6 t0_7 t0_8 t0_9 t0_10 f33 (p49.1 : (Nat → Int32)) t4_0) ∧ (S_FR_setAll_c64_5 t0_0 t0_1 t0_2 t0_3 t0_4 t0_5 t0_6 t0_7 t0_8 t0_9 t0_10 t1_0 t2_0 t3_0 t4_0 t5_0 f33 p49 (p49.2 : (Nat → Int32)) ((F_FR_set (1404 : Int32) ((4 * t0_7 : Int64) - 1 : Int64) t0_0 t0_1 t0_2 t0_3 t0_4 t0_5 t0_6 t0_7 t0_8 t0_9 t0_10 f33 (p49.1 : (Nat → Int32)) t4_0) : ((Nat → Int32) × (Nat → Int32)))))) else (S_FR_setAll_J60 t0_0 t0_1 t0_2 t0_3 t0_4 t0_5 t0_6 t0_7 t0_8 t0_9 t0_10 t1_0 t2_0 t3_0 t4_0 t5_0 f33 p49 (4 * t0_7 : Int64) (p49.1 : (Nat → Int32)) (p49.2 : (Nat → Int32)))
def S_FR_setAll (t0_0 : Int32) (t0_1 : Int32) (t0_2 : Int32) (t0_3 : Int32) (t0_4 : Int64) (t0_5 : Int32) (t0_6 : Int32) (t0_7 : Int64) (t0_8 : Int32) (t0_9 : Int64) (t0_10 : Int32) (t1_0 : (Nat → Int32)) (t2_0 : (Nat → Int32)) (t3_0 : (Nat → Int32)) (t4_0 : (Nat → Int32)) (t5_0 : (Nat → Int32)) : Prop := (True ∧ S_FR_set (1404 : Int32) (4 * t0_7 : Int64) t0_0 t0_1 t0_2 t0_3 t0_4 t0_5 t0_6 t0_7 t0_8 t0_9 t0_10 ((F_FR_setUnit (t0_8 - 2 : Int32) t0_0 t0_1 t0_2 t0_3 t0_4 t0_5 t0_6 t0_7 t0_8 t0_9 t0_10 t1_0) : (Nat → Int32)) t2_0 t3_0) ∧ (S_FR_setAll_c23 t0_0 t0_1 t0_2 t0_3 t0_4 t0_5 t0_6 t0_7 t0_8 t0_9 t0_10 t1_0 t2_0 t3_0 t4_0 t5_0 ((F_FR_setUnit (t0_8 - 2 : Int32) t0_0 t0_1 t0_2 t0_3 t0_4 t0_5 t0_6 t0_7 t0_8 t0_9 t0_10 t1_0) : (Nat → Int32)) ((F_FR_set (1404 : Int32) (4 * t0_7 : Int64) t0_0 t0_1 t0_2 t0_3 t0_4 t0_5 t0_6 t0_7 t0_8 t0_9 t0_10 ((F_FR_setUnit (t0_8 - 2 : Int32) t0_0 t0_1 t0_2 t0_3 t0_4 t0_5 t0_6 t0_7 t0_8 t0_9 t0_10 t1_0) : (Nat → Int32)) t2_0 t3_0) : ((Nat → Int32) × (Nat → Int32))))
set_option maxRecDepth 100000 in
set_option maxHeartbeats 4000000 in
theorem X_FR_setAll (l : Launch) (D : va_G) (g : Nat → ClassId) (q : Nat → Nat) (ws : va_W) (hI : q_I (msh g q) q ws) (t0_0 : Int32) (t0_1 : Int32) (t0_2 : Int32) (t0_3 : Int32) (t0_4 : Int64) (t0_5 : Int32) (t0_6 : Int32) (t0_7 : Int64) (t0_8 : Int32) (t0_9 : Int64) (t0_10 : Int32) (hT0 : ws[145]? = (some (q 145, .inr (15, [.int t0_0, .ref (q 146), .ref (q 147), .ref (q 148), .ref (q 149), .ref (q 150), .ref (q 151), .ref (q 152), .int t0_1, .int t0_2, .int t0_3, .long t0_4, .int t0_5, .int t0_6, .long t0_7, .int t0_8, .long t0_9, .int t0_10])) : Option (Nat × va_E))) (t1_0 : (Nat → Int32)) (hT1 : ws[146]? = (some (q 146, .inl (g 0, (156 : Int32).toNatClampNeg, .inl t1_0)) : Option (Nat × va_E))) (t2_0 : (Nat → Int32)) (hT2 : ws[147]? = (some (q 147, .inl (g 0, (156 : Int32).toNatClampNeg, .inl t2_0)) : Option (Nat × va_E))) (t3_0 : (Nat → Int32)) (hT3 : ws[148]? = (some (q 148, .inl (g 0, (1404 : Int32).toNatClampNeg, .inl t3_0)) : Option (Nat × va_E))) (t4_0 : (Nat → Int32)) (hT4 : ws[149]? = (some (q 149, .inl (g 0, (1404 : Int32).toNatClampNeg, .inl t4_0)) : Option (Nat × va_E))) (t5_0 : (Nat → Int32)) (hT5 : ws[150]? = (some (q 150, .inl (g 0, (1404 : Int32).toNatClampNeg, .inl t5_0)) : Option (Nat × va_E))) (hS : True ∧ S_FR_setAll t0_0 t0_1 t0_2 t0_3 t0_4 t0_5 t0_6 t0_7 t0_8 t0_9 t0_10 t1_0 t2_0 t3_0 t4_0 t5_0) : q_mV l y_FR_setAll prog_17_method_8_code 1 2 0 0 D g [.ref (q 145)] ws (fun u => q_I (msh g q) q u ∧ q_un ws u [146, 147, 148, 149, 150] ∧ ∃ (u1_0 : (Nat → Int32)) (u2_0 : (Nat → Int32)) (u3_0 : (Nat → Int32)) (u4_0 : (Nat → Int32)) (u5_0 : (Nat → Int32)), u[146]? = (some (q 146, .inl (g 0, (156 : Int32).toNatClampNeg, .inl u1_0)) : Option (Nat × va_E)) ∧ u[147]? = (some (q 147, .inl (g 0, (156 : Int32).toNatClampNeg, .inl u2_0)) : Option (Nat × va_E)) ∧ u[148]? = (some (q 148, .inl (g 0, (1404 : Int32).toNatClampNeg, .inl u3_0)) : Option (Nat × va_E)) ∧ u[149]? = (some (q 149, .inl (g 0, (1404 : Int32).toNatClampNeg, .inl u4_0)) : Option (Nat × va_E)) ∧ u[150]? = (some (q 150, .inl (g 0, (1404 : Int32).toNatClampNeg, .inl u5_0)) : Option (Nat × va_E)) ∧ (u1_0, u2_0, u3_0, u4_0, u5_0) = (F_FR_setAll t0_0 t0_1 t0_2 t0_3 t0_4 t0_5 t0_6 t0_7 t0_8 t0_9 t0_10 t1_0 t2_0 t3_0 t4_0 t5_0)) := by
  intro sz
  refine q_into (by decide) (Nat.le_of_ble_eq_true rfl) ?_
  intro p e s m below meth c ls hsz C0 V hl
  have hx := C0.1
  have hb := C0.2.1
  have btt0_2 := n_w145 hI hT0
  clear btt0_2
  have hF : q_un ws ws [146, 147, 148, 149, 150] := q_u0
  have hl : lv_has ls 1 [(0, .ref (q 145))] := hl
  refine lv_aload_n hx hb d_17_8_0 rfl (lv_at hl 0 rfl) ?_
  refine lv_aload_n hx hb d_17_8_1 rfl (lv_at hl 0 rfl) ?_
  refine q_get (ci := 15) (j := 15) (v := .int t0_8) C0 V i_FR rfl rfl hT0 (by decide) w_2091 rfl d_17_8_2 ?_
  refine lv_iconst (v := 2) hx hb d_17_8_5 (by decide) ?_
  refine lv_isub hx hb d_17_8_6 ?_
  obtain ⟨a29, e30⟩ := q_nm (t0_8 - 2 : Int32)
  refine q_ti (v := a29) e30 ?_
  refine q_gov V (q_runV (As := [.int a29]) (rest := []) (d := 1) (mc := 0) (ms := 0) (ci := 15) C0 V rfl LV_FR_61 (X_FR_setUnit l D g q ws  a29 hI t0_0 t0_1 t0_2 t0_3 t0_4 t0_5 t0_6 t0_7 t0_8 t0_9 t0_10 hT0 t1_0 hT1  _) rfl rfl hT0 rfl hl.1 rfl (Nat.le_of_ble_eq_true rfl) ⟨by decide, by decide⟩ ⟨Nat.le_of_ble_eq_true rfl, Nat.le_of_ble_eq_true rfl⟩ d_17_8_7) (fun u31 H locs hp32 V => ?_)
  obtain ⟨hI, hu36, f33, hA34, hE35⟩ := hp32
  replace hA34 : u31[146]? = (some (q 146, .inl (g 0, (156 : Int32).toNatClampNeg, .inl f33)) : Option (Nat × va_E)) := hA34
  have e37 : f33 = (F_FR_setUnit a29 t0_0 t0_1 t0_2 t0_3 t0_4 t0_5 t0_6 t0_7 t0_8 t0_9 t0_10 t1_0) := hE35
  replace hT0 := (hu36 _ (by decide)).trans hT0
  replace hT2 := (hu36 _ (by decide)).trans hT2
  replace hT3 := (hu36 _ (by decide)).trans hT3
  replace hT4 := (hu36 _ (by decide)).trans hT4
  replace hT5 := (hu36 _ (by decide)).trans hT5
  replace hF := q_uc hF hu36 (by simp)
  refine lv_aload_n hx hb d_17_8_10 rfl (lv_at hl 0 rfl) ?_
  refine lv_aload_n hx hb d_17_8_11 rfl (lv_at hl 0 rfl) ?_
  refine q_get (ci := 15) (j := 3) (v := .ref (q 148)) C0 V i_FR rfl rfl hT0 (by decide) w_2078 rfl d_17_8_12 ?_
  refine q_ldc2 C0 rfl w_2609 d_17_8_15 ?_
  refine lv_aload_n hx hb d_17_8_18 rfl (lv_at hl 0 rfl) ?_
  refine q_get (ci := 15) (j := 14) (v := .long t0_7) C0 V i_FR rfl rfl hT0 (by decide) w_2090 rfl d_17_8_19 ?_
  refine lv_lmul hx hb d_17_8_22 ?_
  obtain ⟨j38, e39⟩ := q_nm (4 * t0_7 : Int64)
  refine q_tl (v := j38) e39 ?_
  have ob40 : True ∧ S_FR_set (1404 : Int32) j38 t0_0 t0_1 t0_2 t0_3 t0_4 t0_5 t0_6 t0_7 t0_8 t0_9 t0_10 f33 t2_0 t3_0 := (by rw [← e39, e37, ← e30]; have h := hS; rw [S_FR_setAll.eq_1] at h; with_reducible exact h.2.1)
  refine q_gov V (q_runV (As := [.ref (q 148), .long j38]) (rest := []) (d := 1) (mc := 0) (ms := 0) (ci := 15) C0 V rfl LV_FR_67 (X_FR_set l D g q u31 148 1404 (n_r148 g q) j38 (by decide) (by decide) hI t0_0 t0_1 t0_2 t0_3 t0_4 t0_5 t0_6 t0_7 t0_8 t0_9 t0_10 hT0 f33 hA34 t2_0 hT2 t3_0 hT3 ob40 _) rfl rfl hT0 rfl hl.1 rfl (Nat.le_of_ble_eq_true rfl) ⟨by decide, by decide⟩ ⟨Nat.le_of_ble_eq_true rfl, Nat.le_of_ble_eq_true rfl⟩ d_17_8_23) (fun u41 H locs hp42 V => ?_)
  obtain ⟨hI, hZ9⟩ := hp42
  obtain ⟨hu48, hZ9⟩ := hZ9
  obtain ⟨f43, hZ9⟩ := hZ9
  obtain ⟨f45, hZ9⟩ := hZ9
  obtain ⟨hA44, hZ9⟩ := hZ9
  obtain ⟨hA46, hE47⟩ := hZ9
  replace hA44 : u41[147]? = (some (q 147, .inl (g 0, (156 : Int32).toNatClampNeg, .inl f43)) : Option (Nat × va_E)) := hA44
  replace hA46 : u41[148]? = (some (q 148, .inl (g 0, (1404 : Int32).toNatClampNeg, .inl f45)) : Option (Nat × va_E)) := hA46
  obtain ⟨p49, e50⟩ : ∃ z, z = (F_FR_set (1404 : Int32) j38 t0_0 t0_1 t0_2 t0_3 t0_4 t0_5 t0_6 t0_7 t0_8 t0_9 t0_10 f33 t2_0 t3_0) := ⟨_, rfl⟩
  have e51 : f43 = p49.1 := congrArg (fun z => z.1) (hE47.trans e50.symm)
  have e52 : f45 = p49.2 := congrArg (fun z => z.2) (hE47.trans e50.symm)
  replace hT0 := (hu48 _ (by decide)).trans hT0
  replace hA34 := (hu48 _ (by decide)).trans hA34
  replace hT4 := (hu48 _ (by decide)).trans hT4
  replace hT5 := (hu48 _ (by decide)).trans hT5
  replace hF := q_uc hF hu48 (by simp)
  have hR53 := (show F_FR_setAll_c23 t0_0 t0_1 t0_2 t0_3 t0_4 t0_5 t0_6 t0_7 t0_8 t0_9 t0_10 t1_0 t2_0 t3_0 t4_0 t5_0 f33 p49 = (F_FR_setAll t0_0 t0_1 t0_2 t0_3 t0_4 t0_5 t0_6 t0_7 t0_8 t0_9 t0_10 t1_0 t2_0 t3_0 t4_0 t5_0) from (by rw [e50, ← e39, e37, ← e30, F_FR_setAll.eq_1]))
  have hS54 := (show True ∧ S_FR_setAll_c23 t0_0 t0_1 t0_2 t0_3 t0_4 t0_5 t0_6 t0_7 t0_8 t0_9 t0_10 t1_0 t2_0 t3_0 t4_0 t5_0 f33 p49 from (by rw [e50, ← e39, e37, ← e30]; have h := hS; rw [S_FR_setAll.eq_1] at h; replace h := q_s2 h; with_reducible exact h))
  refine lv_aload_n hx hb d_17_8_26 rfl (lv_at hl 0 rfl) ?_
  refine lv_aload_n hx hb d_17_8_27 rfl (lv_at hl 0 rfl) ?_
  refine q_get (ci := 15) (j := 4) (v := .ref (q 149)) C0 V i_FR rfl rfl hT0 (by decide) w_2079 rfl d_17_8_28 ?_
  refine q_ldc2 C0 rfl w_2609 d_17_8_31 ?_
  refine lv_aload_n hx hb d_17_8_34 rfl (lv_at hl 0 rfl) ?_
  refine q_get (ci := 15) (j := 14) (v := .long t0_7) C0 V i_FR rfl rfl hT0 (by decide) w_2090 rfl d_17_8_35 ?_
  refine lv_lmul hx hb d_17_8_38 ?_
  obtain ⟨j58, e59⟩ := q_nm (4 * t0_7 : Int64)
  refine q_tl (v := j58) e59 ?_
  refine lv_aload_n hx hb d_17_8_39 rfl (lv_at hl 0 rfl) ?_
  refine q_get (ci := 15) (j := 11) (v := .long t0_4) C0 V i_FR rfl rfl hT0 (by decide) w_2087 rfl d_17_8_40 ?_
  refine lv_lconst (v := 0) hx hb d_17_8_43 (by decide) ?_
  refine W.lcmp hx hb d_17_8_44 ?_
  obtain ⟨a60, e61⟩ := q_nm (lg_cmp t0_4 0 : Int32)
  refine q_ti (v := a60) e61 ?_
  refine q_join (X := Unit) (fun z H locs ls _ => q_Wd D g (va_A ws sz) s u41 H locs ∧ lv_has ls 1 [(0, .ref (q 145))] ∧ F_FR_setAll_J60 t0_0 t0_1 t0_2 t0_3 t0_4 t0_5 t0_6 t0_7 t0_8 t0_9 t0_10 t1_0 t2_0 t3_0 t4_0 t5_0 f33 p49 j58 f43 f45 = (F_FR_setAll t0_0 t0_1 t0_2 t0_3 t0_4 t0_5 t0_6 t0_7 t0_8 t0_9 t0_10 t1_0 t2_0 t3_0 t4_0 t5_0) ∧ True ∧ S_FR_setAll_J60 t0_0 t0_1 t0_2 t0_3 t0_4 t0_5 t0_6 t0_7 t0_8 t0_9 t0_10 t1_0 t2_0 t3_0 t4_0 t5_0 f33 p49 j58 f43 f45) (fun z => [.long j58, .ref (q 149), .ref (q 145)]) 60 0 0 ?_ ?_
  ·
    rintro _ H locs ls _ ⟨V, hl, hR70, hS71⟩
    replace hl : lv_has ls 1 [(0, .ref (q 145))] := hl
    refine q_ldc2 C0 rfl w_2615 d_17_8_60 ?_
    refine lv_lsub hx hb d_17_8_63 ?_
    obtain ⟨j75, e76⟩ := q_nm (j58 - 2 : Int64)
    refine q_tl (v := j75) e76 ?_
    have ob77 : True ∧ S_FR_set (1404 : Int32) j75 t0_0 t0_1 t0_2 t0_3 t0_4 t0_5 t0_6 t0_7 t0_8 t0_9 t0_10 f33 f43 t4_0 := (by rw [← e76]; have h := hS71; rw [S_FR_setAll_J60.eq_1] at h; with_reducible exact h.2.1)
    refine q_gov V (q_runV (As := [.ref (q 149), .long j75]) (rest := []) (d := 1) (mc := 0) (ms := 0) (ci := 15) C0 V rfl LV_FR_67 (X_FR_set l D g q u41 149 1404 (n_r149 g q) j75 (by decide) (by decide) hI t0_0 t0_1 t0_2 t0_3 t0_4 t0_5 t0_6 t0_7 t0_8 t0_9 t0_10 hT0 f33 hA34 f43 hA44 t4_0 hT4 ob77 _) rfl rfl hT0 rfl hl.1 rfl (Nat.le_of_ble_eq_true rfl) ⟨by decide, by decide⟩ ⟨Nat.le_of_ble_eq_true rfl, Nat.le_of_ble_eq_true rfl⟩ d_17_8_64) (fun u78 H locs hp79 V => ?_)
    obtain ⟨hI, hZ9⟩ := hp79
    obtain ⟨hu85, hZ9⟩ := hZ9
    obtain ⟨f80, hZ9⟩ := hZ9
    obtain ⟨f82, hZ9⟩ := hZ9
    obtain ⟨hA81, hZ9⟩ := hZ9
    obtain ⟨hA83, hE84⟩ := hZ9
    replace hA81 : u78[147]? = (some (q 147, .inl (g 0, (156 : Int32).toNatClampNeg, .inl f80)) : Option (Nat × va_E)) := hA81
    replace hA83 : u78[149]? = (some (q 149, .inl (g 0, (1404 : Int32).toNatClampNeg, .inl f82)) : Option (Nat × va_E)) := hA83
    obtain ⟨p86, e87⟩ : ∃ z, z = (F_FR_set (1404 : Int32) j75 t0_0 t0_1 t0_2 t0_3 t0_4 t0_5 t0_6 t0_7 t0_8 t0_9 t0_10 f33 f43 t4_0) := ⟨_, rfl⟩
    have e88 : f80 = p86.1 := congrArg (fun z => z.1) (hE84.trans e87.symm)
    have e89 : f82 = p86.2 := congrArg (fun z => z.2) (hE84.trans e87.symm)
    replace hT0 := (hu85 _ (by decide)).trans hT0
    replace hA34 := (hu85 _ (by decide)).trans hA34
    replace hA46 := (hu85 _ (by decide)).trans hA46
    replace hT5 := (hu85 _ (by decide)).trans hT5
    replace hF := q_uc hF hu85 (by simp)
    have hR90 := (show F_FR_setAll_c64 t0_0 t0_1 t0_2 t0_3 t0_4 t0_5 t0_6 t0_7 t0_8 t0_9 t0_10 t1_0 t2_0 t3_0 t4_0 t5_0 f33 p49 j58 f43 f45 p86 = (F_FR_setAll t0_0 t0_1 t0_2 t0_3 t0_4 t0_5 t0_6 t0_7 t0_8 t0_9 t0_10 t1_0 t2_0 t3_0 t4_0 t5_0) from Eq.trans (by rw [e87, ← e76, F_FR_setAll_J60.eq_1]) hR70)
    have hS91 := (show True ∧ S_FR_setAll_c64 t0_0 t0_1 t0_2 t0_3 t0_4 t0_5 t0_6 t0_7 t0_8 t0_9 t0_10 t1_0 t2_0 t3_0 t4_0 t5_0 f33 p49 j58 f43 f45 p86 from (by rw [e87, ← e76]; have h := hS71; rw [S_FR_setAll_J60.eq_1] at h; replace h := q_s2 h; with_reducible exact h))
    refine lv_aload_n hx hb d_17_8_67 rfl (lv_at hl 0 rfl) ?_
    refine lv_aload_n hx hb d_17_8_68 rfl (lv_at hl 0 rfl) ?_
    refine q_get (ci := 15) (j := 5) (v := .ref (q 150)) C0 V i_FR rfl rfl hT0 (by decide) w_2080 rfl d_17_8_69 ?_
    refine q_ldc2 C0 rfl w_2609 d_17_8_72 ?_
    refine lv_aload_n hx hb d_17_8_75 rfl (lv_at hl 0 rfl) ?_
    refine q_get (ci := 15) (j := 14) (v := .long t0_7) C0 V i_FR rfl rfl hT0 (by decide) w_2090 rfl d_17_8_76 ?_
    refine lv_lmul hx hb d_17_8_79 ?_
    obtain ⟨j95, e96⟩ := q_nm (4 * t0_7 : Int64)
    refine q_tl (v := j95) e96 ?_
    refine q_ldc2 C0 rfl w_2615 d_17_8_80 ?_
    refine lv_ladd hx hb d_17_8_83 ?_
    obtain ⟨j97, e98⟩ := q_nm (j95 + 2 : Int64)
    refine q_tl (v := j97) e98 ?_
    have ob99 : True ∧ S_FR_set (1404 : Int32) j97 t0_0 t0_1 t0_2 t0_3 t0_4 t0_5 t0_6 t0_7 t0_8 t0_9 t0_10 f33 f80 t5_0 := (by rw [← e98, ← e96, e88]; have h := hS91; rw [S_FR_setAll_c64.eq_1] at h; with_reducible exact h.2.1)
    refine q_gov V (q_runV (As := [.ref (q 150), .long j97]) (rest := []) (d := 1) (mc := 0) (ms := 0) (ci := 15) C0 V rfl LV_FR_67 (X_FR_set l D g q u78 150 1404 (n_r150 g q) j97 (by decide) (by decide) hI t0_0 t0_1 t0_2 t0_3 t0_4 t0_5 t0_6 t0_7 t0_8 t0_9 t0_10 hT0 f33 hA34 f80 hA81 t5_0 hT5 ob99 _) rfl rfl hT0 rfl hl.1 rfl (Nat.le_of_ble_eq_true rfl) ⟨by decide, by decide⟩ ⟨Nat.le_of_ble_eq_true rfl, Nat.le_of_ble_eq_true rfl⟩ d_17_8_84) (fun u100 H locs hp101 V => ?_)
    obtain ⟨hI, hZ9⟩ := hp101
    obtain ⟨hu107, hZ9⟩ := hZ9
    obtain ⟨f102, hZ9⟩ := hZ9
    obtain ⟨f104, hZ9⟩ := hZ9
    obtain ⟨hA103, hZ9⟩ := hZ9
    obtain ⟨hA105, hE106⟩ := hZ9
    replace hA103 : u100[147]? = (some (q 147, .inl (g 0, (156 : Int32).toNatClampNeg, .inl f102)) : Option (Nat × va_E)) := hA103
    replace hA105 : u100[150]? = (some (q 150, .inl (g 0, (1404 : Int32).toNatClampNeg, .inl f104)) : Option (Nat × va_E)) := hA105
    obtain ⟨p108, e109⟩ : ∃ z, z = (F_FR_set (1404 : Int32) j97 t0_0 t0_1 t0_2 t0_3 t0_4 t0_5 t0_6 t0_7 t0_8 t0_9 t0_10 f33 f80 t5_0) := ⟨_, rfl⟩
    have e110 : f102 = p108.1 := congrArg (fun z => z.1) (hE106.trans e109.symm)
    have e111 : f104 = p108.2 := congrArg (fun z => z.2) (hE106.trans e109.symm)
    replace hA34 := (hu107 _ (by decide)).trans hA34
    replace hA46 := (hu107 _ (by decide)).trans hA46
    replace hA83 := (hu107 _ (by decide)).trans hA83
    replace hF := q_uc hF hu107 (by simp)
    have hR112 := (show F_FR_setAll_c84 t0_0 t0_1 t0_2 t0_3 t0_4 t0_5 t0_6 t0_7 t0_8 t0_9 t0_10 t1_0 t2_0 t3_0 t4_0 t5_0 f33 p49 j58 f43 f45 p86 f82 p108 = (F_FR_setAll t0_0 t0_1 t0_2 t0_3 t0_4 t0_5 t0_6 t0_7 t0_8 t0_9 t0_10 t1_0 t2_0 t3_0 t4_0 t5_0) from Eq.trans (by rw [e109, ← e98, ← e96, e89, e88, F_FR_setAll_c64.eq_1]) hR90)
    have hS113 := (show True ∧ S_FR_setAll_c84 t0_0 t0_1 t0_2 t0_3 t0_4 t0_5 t0_6 t0_7 t0_8 t0_9 t0_10 t1_0 t2_0 t3_0 t4_0 t5_0 f33 p49 j58 f43 f45 p86 f82 p108 from (by rw [e109, ← e98, ← e96, e89, e88]; have h := hS91; rw [S_FR_setAll_c64.eq_1] at h; replace h := q_s2 h; with_reducible exact h))
    exact q_retv C0 V (⟨hI, hF, f33, f102, f45, f82, f104, hA34, hA103, hA46, hA83, hA105, (show (f33, f102, f45, f82, f104) = (F_FR_setAll t0_0 t0_1 t0_2 t0_3 t0_4 t0_5 t0_6 t0_7 t0_8 t0_9 t0_10 t1_0 t2_0 t3_0 t4_0 t5_0) from Eq.trans (by rw [e111, e110, F_FR_setAll_c84.eq_1]) hR112)⟩) d_17_8_87
  ·
    intro J69
    refine lv_if_ne (tgt := 60) hx hb d_17_8_45 (by decide) (fun c117 => ?_) (fun c117 => ?_)
    ·
      exact J69 (()) _ _ _ u41 ⟨V, q_lw hl (q_lw1 0 rfl q_lw0), (show F_FR_setAll_J60 t0_0 t0_1 t0_2 t0_3 t0_4 t0_5 t0_6 t0_7 t0_8 t0_9 t0_10 t1_0 t2_0 t3_0 t4_0 t5_0 f33 p49 j58 f43 f45 = (F_FR_setAll t0_0 t0_1 t0_2 t0_3 t0_4 t0_5 t0_6 t0_7 t0_8 t0_9 t0_10 t1_0 t2_0 t3_0 t4_0 t5_0) from Eq.trans (by have c117x := c117; rw [← e61] at c117x; rw [← e59, e52, e51, F_FR_setAll_c23.eq_1, if_neg c117x]) hR53), (show True ∧ S_FR_setAll_J60 t0_0 t0_1 t0_2 t0_3 t0_4 t0_5 t0_6 t0_7 t0_8 t0_9 t0_10 t1_0 t2_0 t3_0 t4_0 t5_0 f33 p49 j58 f43 f45 from (by rw [← e59, e52, e51]; have h := hS54; rw [S_FR_setAll_c23.eq_1] at h; have c117x := c117; rw [← e61] at c117x; rw [if_neg c117x] at h; with_reducible exact h))⟩
    ·
      refine lv_aload_n hx hb d_17_8_48 rfl (lv_at hl 0 rfl) ?_
      refine q_get (ci := 15) (j := 10) (v := .int t0_3) C0 V i_FR rfl rfl hT0 (by decide) w_2086 rfl d_17_8_49 ?_
      refine lv_iconst (v := 1) hx hb d_17_8_52 (by decide) ?_
      refine lv_icmp_le (tgt := 60) hx hb d_17_8_53 (by decide) (fun c120 => ?_) (fun c120 => ?_)
      ·
        exact J69 (()) _ _ _ u41 ⟨V, q_lw hl (q_lw1 0 rfl q_lw0), (show F_FR_setAll_J60 t0_0 t0_1 t0_2 t0_3 t0_4 t0_5 t0_6 t0_7 t0_8 t0_9 t0_10 t1_0 t2_0 t3_0 t4_0 t5_0 f33 p49 j58 f43 f45 = (F_FR_setAll t0_0 t0_1 t0_2 t0_3 t0_4 t0_5 t0_6 t0_7 t0_8 t0_9 t0_10 t1_0 t2_0 t3_0 t4_0 t5_0) from Eq.trans (by have c117x := c117; rw [← e61] at c117x; rw [← e59, e52, e51, F_FR_setAll_c23.eq_1, if_pos c117x, if_pos c120]) hR53), (show True ∧ S_FR_setAll_J60 t0_0 t0_1 t0_2 t0_3 t0_4 t0_5 t0_6 t0_7 t0_8 t0_9 t0_10 t1_0 t2_0 t3_0 t4_0 t5_0 f33 p49 j58 f43 f45 from (by rw [← e59, e52, e51]; have h := hS54; rw [S_FR_setAll_c23.eq_1] at h; have c117x := c117; rw [← e61] at c117x; rw [if_pos c117x] at h; rw [if_pos c120] at h; with_reducible exact h))⟩
      ·
        refine lv_lconst (v := 1) hx hb d_17_8_56 (by decide) ?_
        refine lv_goto (tgt := 63) hx hb d_17_8_57 (by decide) ?_
        refine lv_lsub hx hb d_17_8_63 ?_
        obtain ⟨j123, e124⟩ := q_nm (j58 - 1 : Int64)
        refine q_tl (v := j123) e124 ?_
        have ob125 : True ∧ S_FR_set (1404 : Int32) j123 t0_0 t0_1 t0_2 t0_3 t0_4 t0_5 t0_6 t0_7 t0_8 t0_9 t0_10 f33 f43 t4_0 := (by rw [← e124, ← e59, e51]; have h := hS54; rw [S_FR_setAll_c23.eq_1] at h; have c117x := c117; rw [← e61] at c117x; rw [if_pos c117x] at h; rw [if_neg c120] at h; with_reducible exact h.2.1)
        refine q_gov V (q_runV (As := [.ref (q 149), .long j123]) (rest := []) (d := 1) (mc := 0) (ms := 0) (ci := 15) C0 V rfl LV_FR_67 (X_FR_set l D g q u41 149 1404 (n_r149 g q) j123 (by decide) (by decide) hI t0_0 t0_1 t0_2 t0_3 t0_4 t0_5 t0_6 t0_7 t0_8 t0_9 t0_10 hT0 f33 hA34 f43 hA44 t4_0 hT4 ob125 _) rfl rfl hT0 rfl hl.1 rfl (Nat.le_of_ble_eq_true rfl) ⟨by decide, by decide⟩ ⟨Nat.le_of_ble_eq_true rfl, Nat.le_of_ble_eq_true rfl⟩ d_17_8_64) (fun u126 H locs hp127 V => ?_)
        obtain ⟨hI, hZ9⟩ := hp127
        obtain ⟨hu133, hZ9⟩ := hZ9
        obtain ⟨f128, hZ9⟩ := hZ9
        obtain ⟨f130, hZ9⟩ := hZ9
        obtain ⟨hA129, hZ9⟩ := hZ9
        obtain ⟨hA131, hE132⟩ := hZ9
        replace hA129 : u126[147]? = (some (q 147, .inl (g 0, (156 : Int32).toNatClampNeg, .inl f128)) : Option (Nat × va_E)) := hA129
        replace hA131 : u126[149]? = (some (q 149, .inl (g 0, (1404 : Int32).toNatClampNeg, .inl f130)) : Option (Nat × va_E)) := hA131
        obtain ⟨p134, e135⟩ : ∃ z, z = (F_FR_set (1404 : Int32) j123 t0_0 t0_1 t0_2 t0_3 t0_4 t0_5 t0_6 t0_7 t0_8 t0_9 t0_10 f33 f43 t4_0) := ⟨_, rfl⟩
        have e136 : f128 = p134.1 := congrArg (fun z => z.1) (hE132.trans e135.symm)
        have e137 : f130 = p134.2 := congrArg (fun z => z.2) (hE132.trans e135.symm)
        replace hT0 := (hu133 _ (by decide)).trans hT0
        replace hA34 := (hu133 _ (by decide)).trans hA34
        replace hA46 := (hu133 _ (by decide)).trans hA46
        replace hT5 := (hu133 _ (by decide)).trans hT5
        replace hF := q_uc hF hu133 (by simp)
        have hR138 := (show F_FR_setAll_c64_5 t0_0 t0_1 t0_2 t0_3 t0_4 t0_5 t0_6 t0_7 t0_8 t0_9 t0_10 t1_0 t2_0 t3_0 t4_0 t5_0 f33 p49 f45 p134 = (F_FR_setAll t0_0 t0_1 t0_2 t0_3 t0_4 t0_5 t0_6 t0_7 t0_8 t0_9 t0_10 t1_0 t2_0 t3_0 t4_0 t5_0) from Eq.trans (by have c117x := c117; rw [← e61] at c117x; rw [e135, ← e124, ← e59, e52, e51, F_FR_setAll_c23.eq_1, if_pos c117x, if_neg c120]) hR53)
        have hS139 := (show True ∧ S_FR_setAll_c64_5 t0_0 t0_1 t0_2 t0_3 t0_4 t0_5 t0_6 t0_7 t0_8 t0_9 t0_10 t1_0 t2_0 t3_0 t4_0 t5_0 f33 p49 f45 p134 from (by rw [e135, ← e124, ← e59, e52, e51]; have h := hS54; rw [S_FR_setAll_c23.eq_1] at h; have c117x := c117; rw [← e61] at c117x; rw [if_pos c117x] at h; rw [if_neg c120] at h; replace h := q_s2 h; with_reducible exact h))
        refine lv_aload_n hx hb d_17_8_67 rfl (lv_at hl 0 rfl) ?_
        refine lv_aload_n hx hb d_17_8_68 rfl (lv_at hl 0 rfl) ?_
        refine q_get (ci := 15) (j := 5) (v := .ref (q 150)) C0 V i_FR rfl rfl hT0 (by decide) w_2080 rfl d_17_8_69 ?_
        refine q_ldc2 C0 rfl w_2609 d_17_8_72 ?_
        refine lv_aload_n hx hb d_17_8_75 rfl (lv_at hl 0 rfl) ?_
        refine q_get (ci := 15) (j := 14) (v := .long t0_7) C0 V i_FR rfl rfl hT0 (by decide) w_2090 rfl d_17_8_76 ?_
        refine lv_lmul hx hb d_17_8_79 ?_
        obtain ⟨j143, e144⟩ := q_nm (4 * t0_7 : Int64)
        refine q_tl (v := j143) e144 ?_
        refine q_ldc2 C0 rfl w_2615 d_17_8_80 ?_
        refine lv_ladd hx hb d_17_8_83 ?_
        obtain ⟨j145, e146⟩ := q_nm (j143 + 2 : Int64)
        refine q_tl (v := j145) e146 ?_
        have ob147 : True ∧ S_FR_set (1404 : Int32) j145 t0_0 t0_1 t0_2 t0_3 t0_4 t0_5 t0_6 t0_7 t0_8 t0_9 t0_10 f33 f128 t5_0 := (by rw [← e146, ← e144, e136]; have h := hS139; rw [S_FR_setAll_c64_5.eq_1] at h; with_reducible exact h.2.1)
        refine q_gov V (q_runV (As := [.ref (q 150), .long j145]) (rest := []) (d := 1) (mc := 0) (ms := 0) (ci := 15) C0 V rfl LV_FR_67 (X_FR_set l D g q u126 150 1404 (n_r150 g q) j145 (by decide) (by decide) hI t0_0 t0_1 t0_2 t0_3 t0_4 t0_5 t0_6 t0_7 t0_8 t0_9 t0_10 hT0 f33 hA34 f128 hA129 t5_0 hT5 ob147 _) rfl rfl hT0 rfl hl.1 rfl (Nat.le_of_ble_eq_true rfl) ⟨by decide, by decide⟩ ⟨Nat.le_of_ble_eq_true rfl, Nat.le_of_ble_eq_true rfl⟩ d_17_8_84) (fun u148 H locs hp149 V => ?_)
        obtain ⟨hI, hZ9⟩ := hp149
        obtain ⟨hu155, hZ9⟩ := hZ9
        obtain ⟨f150, hZ9⟩ := hZ9
        obtain ⟨f152, hZ9⟩ := hZ9
        obtain ⟨hA151, hZ9⟩ := hZ9
        obtain ⟨hA153, hE154⟩ := hZ9
        replace hA151 : u148[147]? = (some (q 147, .inl (g 0, (156 : Int32).toNatClampNeg, .inl f150)) : Option (Nat × va_E)) := hA151
        replace hA153 : u148[150]? = (some (q 150, .inl (g 0, (1404 : Int32).toNatClampNeg, .inl f152)) : Option (Nat × va_E)) := hA153
        obtain ⟨p156, e157⟩ : ∃ z, z = (F_FR_set (1404 : Int32) j145 t0_0 t0_1 t0_2 t0_3 t0_4 t0_5 t0_6 t0_7 t0_8 t0_9 t0_10 f33 f128 t5_0) := ⟨_, rfl⟩
        have e158 : f150 = p156.1 := congrArg (fun z => z.1) (hE154.trans e157.symm)
        have e159 : f152 = p156.2 := congrArg (fun z => z.2) (hE154.trans e157.symm)
        replace hA34 := (hu155 _ (by decide)).trans hA34
        replace hA46 := (hu155 _ (by decide)).trans hA46
        replace hA131 := (hu155 _ (by decide)).trans hA131
        replace hF := q_uc hF hu155 (by simp)
        have hR160 := (show F_FR_setAll_c84_6 t0_0 t0_1 t0_2 t0_3 t0_4 t0_5 t0_6 t0_7 t0_8 t0_9 t0_10 t1_0 t2_0 t3_0 t4_0 t5_0 f33 p49 f45 p134 f130 p156 = (F_FR_setAll t0_0 t0_1 t0_2 t0_3 t0_4 t0_5 t0_6 t0_7 t0_8 t0_9 t0_10 t1_0 t2_0 t3_0 t4_0 t5_0) from Eq.trans (by rw [e157, ← e146, ← e144, e137, e136, F_FR_setAll_c64_5.eq_1]) hR138)
        have hS161 := (show True ∧ S_FR_setAll_c84_6 t0_0 t0_1 t0_2 t0_3 t0_4 t0_5 t0_6 t0_7 t0_8 t0_9 t0_10 t1_0 t2_0 t3_0 t4_0 t5_0 f33 p49 f45 p134 f130 p156 from (by rw [e157, ← e146, ← e144, e137, e136]; have h := hS139; rw [S_FR_setAll_c64_5.eq_1] at h; replace h := q_s2 h; with_reducible exact h))
        exact q_retv C0 V (⟨hI, hF, f33, f150, f45, f130, f152, hA34, hA151, hA46, hA131, hA153, (show (f33, f150, f45, f130, f152) = (F_FR_setAll t0_0 t0_1 t0_2 t0_3 t0_4 t0_5 t0_6 t0_7 t0_8 t0_9 t0_10 t1_0 t2_0 t3_0 t4_0 t5_0) from Eq.trans (by rw [e159, e158, F_FR_setAll_c84_6.eq_1]) hR160)⟩) d_17_8_87

theorem d_17_9_0 : decode prog_17_method_9_code 0 = .ok (.sipush 1403, 3) := by decide +kernel
theorem d_17_9_3 : decode prog_17_method_9_code 3 = .ok (.istore_n 1, 1) := by decide +kernel
theorem d_17_9_4 : decode prog_17_method_9_code 4 = .ok (.aload_n 0, 1) := by decide +kernel
theorem d_17_9_5 : decode prog_17_method_9_code 5 = .ok (.getfield 16, 3) := by decide +kernel
theorem d_17_9_8 : decode prog_17_method_9_code 8 = .ok (.iload_n 1, 1) := by decide +kernel
theorem d_17_9_9 : decode prog_17_method_9_code 9 = .ok (.iaload, 1) := by decide +kernel
theorem d_17_9_10 : decode prog_17_method_9_code 10 = .ok (.ifCond .ne 9, 3) := by decide +kernel
theorem d_17_9_19 : decode prog_17_method_9_code 19 = .ok (.iload_n 1, 1) := by decide +kernel
theorem d_17_9_20 : decode prog_17_method_9_code 20 = .ok (.ireturn, 1) := by decide +kernel
theorem d_17_9_13 : decode prog_17_method_9_code 13 = .ok (.iinc 1 (-1), 3) := by decide +kernel
theorem d_17_9_16 : decode prog_17_method_9_code 16 = .ok (.goto (-12), 3) := by decide +kernel
def y_FR_top : MethodName := ⟨"NumberHouseModel$FloatRows", "top", "()I"⟩
def F_FR_top_L4 (t0_0 : Int32) (t0_1 : Int32) (t0_2 : Int32) (t0_3 : Int32) (t0_4 : Int64) (t0_5 : Int32) (t0_6 : Int32) (t0_7 : Int64) (t0_8 : Int32) (t0_9 : Int64) (t0_10 : Int32) (t1_0 : (Nat → Int32)) : Nat → Int32 → Int32
  | 0, _ => default
  | fm + 1, lx18 => if (t1_0 lx18.toNatClampNeg : Int32) = (0 : Int32) then (F_FR_top_L4 t0_0 t0_1 t0_2 t0_3 t0_4 t0_5 t0_6 t0_7 t0_8 t0_9 t0_10 t1_0 fm (lx18 + (-1) : Int32)) else (lx18)
def F_FR_top (t0_0 : Int32) (t0_1 : Int32) (t0_2 : Int32) (t0_3 : Int32) (t0_4 : Int64) (t0_5 : Int32) (t0_6 : Int32) (t0_7 : Int64) (t0_8 : Int32) (t0_9 : Int64) (t0_10 : Int32) (t1_0 : (Nat → Int32)) : Int32 := F_FR_top_L4 t0_0 t0_1 t0_2 t0_3 t0_4 t0_5 t0_6 t0_7 t0_8 t0_9 t0_10 t1_0 (((1403 : Int32).toInt - ((-1))).toNat + 1) 1403
def S_FR_top_L4 (t0_0 : Int32) (t0_1 : Int32) (t0_2 : Int32) (t0_3 : Int32) (t0_4 : Int64) (t0_5 : Int32) (t0_6 : Int32) (t0_7 : Int64) (t0_8 : Int32) (t0_9 : Int64) (t0_10 : Int32) (t1_0 : (Nat → Int32)) : Nat → Int32 → Prop
  | 0, _ => False
  | fm + 1, lx18 => (0 ≤ lx18.toInt) ∧ (if (t1_0 lx18.toNatClampNeg : Int32) = (0 : Int32) then (S_FR_top_L4 t0_0 t0_1 t0_2 t0_3 t0_4 t0_5 t0_6 t0_7 t0_8 t0_9 t0_10 t1_0 fm (lx18 + (-1) : Int32)) else (True))
def S_FR_top (t0_0 : Int32) (t0_1 : Int32) (t0_2 : Int32) (t0_3 : Int32) (t0_4 : Int64) (t0_5 : Int32) (t0_6 : Int32) (t0_7 : Int64) (t0_8 : Int32) (t0_9 : Int64) (t0_10 : Int32) (t1_0 : (Nat → Int32)) : Prop := S_FR_top_L4 t0_0 t0_1 t0_2 t0_3 t0_4 t0_5 t0_6 t0_7 t0_8 t0_9 t0_10 t1_0 (((1403 : Int32).toInt - ((-1))).toNat + 1) 1403
set_option maxRecDepth 100000 in
set_option maxHeartbeats 4000000 in
theorem X_FR_top (l : Launch) (D : va_G) (g : Nat → ClassId) (q : Nat → Nat) (ws : va_W) (hI : q_I (msh g q) q ws) (t0_0 : Int32) (t0_1 : Int32) (t0_2 : Int32) (t0_3 : Int32) (t0_4 : Int64) (t0_5 : Int32) (t0_6 : Int32) (t0_7 : Int64) (t0_8 : Int32) (t0_9 : Int64) (t0_10 : Int32) (hT0 : ws[145]? = (some (q 145, .inr (15, [.int t0_0, .ref (q 146), .ref (q 147), .ref (q 148), .ref (q 149), .ref (q 150), .ref (q 151), .ref (q 152), .int t0_1, .int t0_2, .int t0_3, .long t0_4, .int t0_5, .int t0_6, .long t0_7, .int t0_8, .long t0_9, .int t0_10])) : Option (Nat × va_E))) (t1_0 : (Nat → Int32)) (hT1 : ws[148]? = (some (q 148, .inl (g 0, (1404 : Int32).toNatClampNeg, .inl t1_0)) : Option (Nat × va_E))) (hS : True ∧ S_FR_top t0_0 t0_1 t0_2 t0_3 t0_4 t0_5 t0_6 t0_7 t0_8 t0_9 t0_10 t1_0) : q_mI l y_FR_top prog_17_method_9_code 2 (.int) 1 0 0 D g [.ref (q 145)] ws (fun r u => ws = u ∧ (0 ≤ r.toInt) ∧ (r.toInt ≤ 1403) ∧ r = (F_FR_top t0_0 t0_1 t0_2 t0_3 t0_4 t0_5 t0_6 t0_7 t0_8 t0_9 t0_10 t1_0)) := by
  intro sz
  refine q_into (by decide) (Nat.le_of_ble_eq_true rfl) ?_
  intro p e s m below meth c ls hsz C0 V hl
  have hx := C0.1
  have hb := C0.2.1
  have btt0_2 := n_w145 hI hT0
  clear btt0_2
  have hl : lv_has ls 2 [(0, .ref (q 145))] := hl
  refine lv_sipush (v := 1403) hx hb d_17_9_0 (by decide) ?_
  refine lv_istore_n (lv' := [(1, .int 1403), (0, .ref (q 145))]) hx hb d_17_9_3 rfl hl (by decide) rfl (fun ls hl => ?_)
  refine q_loop (X := Int32) (fun z H locs ls _ => q_F (z.toInt ≤ 1403) ∧ q_F (0 ≤ z.toInt + 1) ∧ q_Wd D g (va_A ws sz) s ws H locs ∧ lv_has ls 2 [(1, .int z), (0, .ref (q 145))] ∧ (∃ n, (z.toInt - ((-1))).toNat < n ∧ F_FR_top_L4 t0_0 t0_1 t0_2 t0_3 t0_4 t0_5 t0_6 t0_7 t0_8 t0_9 t0_10 t1_0 n z = (F_FR_top t0_0 t0_1 t0_2 t0_3 t0_4 t0_5 t0_6 t0_7 t0_8 t0_9 t0_10 t1_0) ∧ True ∧ S_FR_top_L4 t0_0 t0_1 t0_2 t0_3 t0_4 t0_5 t0_6 t0_7 t0_8 t0_9 t0_10 t1_0 n z)) (fun z => (z.toInt - ((-1))).toNat) ?_ ((1403 : Int32)) _ _ _ ws ⟨(show q_F (1403 ≤ 1403) from (show 1403 ≤ 1403 from by omega)), (show q_F (0 ≤ 1403 + 1) from (show 0 ≤ 1403 + 1 from by omega)), V, q_lw hl (q_lw1 0 rfl (q_lw1 1 rfl q_lw0)), ⟨(((1403 : Int32).toInt - ((-1))).toNat + 1), Nat.lt_succ_self _, (show F_FR_top_L4 t0_0 t0_1 t0_2 t0_3 t0_4 t0_5 t0_6 t0_7 t0_8 t0_9 t0_10 t1_0 (((1403 : Int32).toInt - ((-1))).toNat + 1) 1403 = (F_FR_top t0_0 t0_1 t0_2 t0_3 t0_4 t0_5 t0_6 t0_7 t0_8 t0_9 t0_10 t1_0) from (by rw [F_FR_top.eq_1])), (show True ∧ S_FR_top_L4 t0_0 t0_1 t0_2 t0_3 t0_4 t0_5 t0_6 t0_7 t0_8 t0_9 t0_10 t1_0 (((1403 : Int32).toInt - ((-1))).toNat + 1) 1403 from (by have h := hS; rw [S_FR_top.eq_1] at h; with_reducible exact h))⟩⟩
  rintro lx18 H locs ls _ ⟨i19, i20, V, hl, ⟨fu24, hf25, hR22, hS23⟩⟩ ih21
  obtain ⟨fm26, rfl⟩ : ∃ m, fu24 = m + 1 := ⟨fu24 - 1, by omega⟩
  replace i19 : q_F (lx18.toInt ≤ 1403) := i19
  replace i20 : q_F (0 ≤ lx18.toInt + 1) := i20
  replace hl : lv_has ls 2 [(1, .int lx18), (0, .ref (q 145))] := hl
  refine lv_aload_n hx hb d_17_9_4 rfl (lv_at hl 1 rfl) ?_
  refine q_get (ci := 15) (j := 3) (v := .ref (q 148)) C0 V i_FR rfl rfl hT0 (by decide) w_2078 rfl d_17_9_5 ?_
  refine lv_iload_n hx hb d_17_9_8 rfl (lv_at hl 0 rfl) ?_
  have ob27 : q_F (0 ≤ lx18.toInt) := (by have h := hS23; rw [S_FR_top_L4.eq_2] at h; exact h.2.1)
  refine q_iald C0 V hT1 (q_ix (x := lx18.toInt) rfl (by first | with_reducible exact q_fe ob27 | (have t1 : 0 ≤ lx18.toInt := ob27; omega)) (by have t1 : 0 ≤ lx18.toInt := ob27; have t2 : lx18.toInt ≤ 1403 := i19; have e9 : (((1404 : Int32).toNatClampNeg : Nat) : Int) = 1404 := (by decide); omega)) d_17_9_9 ?_
  obtain ⟨a28, e29⟩ := q_nm (t1_0 lx18.toNatClampNeg : Int32)
  refine q_ti (v := a28) e29 ?_
  refine lv_if_ne (tgt := 19) hx hb d_17_9_10 (by decide) (fun c30 => ?_) (fun c30 => ?_)
  ·
    refine lv_iload_n hx hb d_17_9_19 rfl (lv_at hl 0 rfl) ?_
    exact q_reti C0 V (⟨rfl, (show 0 ≤ lx18.toInt from (by first | with_reducible exact q_fe ob27 | (have t1 : 0 ≤ lx18.toInt := ob27; omega))), (show lx18.toInt ≤ 1403 from (by first | with_reducible exact q_fe i19 | (have t1 : lx18.toInt ≤ 1403 := i19; omega))), (show lx18 = (F_FR_top t0_0 t0_1 t0_2 t0_3 t0_4 t0_5 t0_6 t0_7 t0_8 t0_9 t0_10 t1_0) from Eq.trans (by have c30x := c30; rw [← e29] at c30x; rw [F_FR_top_L4.eq_2, if_neg c30x]) hR22)⟩) d_17_9_20
  ·
    obtain ⟨a33, e34⟩ := q_nm (lx18 + (-1) : Int32)
    have b35 : q_F (a33.toInt = lx18.toInt + (-1)) := (by rw [← e34]; exact q_addI (y := (-1)) rfl (by decide) (by have t1 : 0 ≤ lx18.toInt + 1 := i20; have t2 : lx18.toInt ≤ 1403 := i19; omega) (by have t1 : 0 ≤ lx18.toInt + 1 := i20; have t2 : lx18.toInt ≤ 1403 := i19; omega))
    refine lv_iinc (v := a33) (lv' := [(1, .int a33), (0, .ref (q 145))]) hx hb d_17_9_13 hl (k := 0) rfl (e34) (by decide) rfl (fun ls hl => ?_)
    refine lv_goto (tgt := 4) hx hb d_17_9_16 (by decide) ?_
    exact ih21 ((a33 : Int32)) _ _ _ ws (show (a33.toInt - ((-1))).toNat < (lx18.toInt - ((-1))).toNat from by have t1 : a33.toInt = lx18.toInt + (-1) := b35; have t2 : 0 ≤ lx18.toInt + 1 := i20; have t3 : 0 ≤ lx18.toInt := ob27; omega) ⟨(show q_F (a33.toInt ≤ 1403) from (show a33.toInt ≤ 1403 from by have t1 : lx18.toInt ≤ 1403 := i19; have t2 : a33.toInt = lx18.toInt + (-1) := b35; omega)), (show q_F (0 ≤ a33.toInt + 1) from (show 0 ≤ a33.toInt + 1 from by have t1 : 0 ≤ lx18.toInt := ob27; have t2 : a33.toInt = lx18.toInt + (-1) := b35; omega)), V, q_lw hl (q_lw1 0 rfl (q_lw1 1 rfl q_lw0)), ⟨fm26, Nat.lt_of_lt_of_le (show (a33.toInt - ((-1))).toNat < (lx18.toInt - ((-1))).toNat from by have t1 : a33.toInt = lx18.toInt + (-1) := b35; have t2 : 0 ≤ lx18.toInt + 1 := i20; have t3 : 0 ≤ lx18.toInt := ob27; omega) (Nat.le_of_lt_succ hf25), (show F_FR_top_L4 t0_0 t0_1 t0_2 t0_3 t0_4 t0_5 t0_6 t0_7 t0_8 t0_9 t0_10 t1_0 fm26 a33 = (F_FR_top t0_0 t0_1 t0_2 t0_3 t0_4 t0_5 t0_6 t0_7 t0_8 t0_9 t0_10 t1_0) from Eq.trans (by have c30x := c30; rw [← e29] at c30x; rw [← e34, F_FR_top_L4.eq_2, if_pos c30x]) hR22), (show True ∧ S_FR_top_L4 t0_0 t0_1 t0_2 t0_3 t0_4 t0_5 t0_6 t0_7 t0_8 t0_9 t0_10 t1_0 fm26 a33 from (by rw [← e34]; have h := hS23; rw [S_FR_top_L4.eq_2] at h; replace h := q_s2 h; have c30x := c30; rw [← e29] at c30x; rw [if_pos c30x] at h; with_reducible exact h))⟩⟩
theorem d_17_11_0 : decode prog_17_method_11_code 0 = .ok (.iconst 0, 1) := by decide +kernel
theorem d_17_11_1 : decode prog_17_method_11_code 1 = .ok (.istore_n 3, 1) := by decide +kernel
theorem d_17_11_2 : decode prog_17_method_11_code 2 = .ok (.iload_n 3, 1) := by decide +kernel
theorem d_17_11_3 : decode prog_17_method_11_code 3 = .ok (.sipush 1404, 3) := by decide +kernel
theorem d_17_11_6 : decode prog_17_method_11_code 6 = .ok (.if_icmp .ge 30, 3) := by decide +kernel
theorem d_17_11_36 : decode prog_17_method_11_code 36 = .ok (.iload_n 1, 1) := by decide +kernel
theorem d_17_11_37 : decode prog_17_method_11_code 37 = .ok (.istore_n 3, 1) := by decide +kernel
theorem d_17_11_38 : decode prog_17_method_11_code 38 = .ok (.iload_n 2, 1) := by decide +kernel
theorem d_17_11_39 : decode prog_17_method_11_code 39 = .ok (.istore 4, 2) := by decide +kernel
theorem d_17_11_41 : decode prog_17_method_11_code 41 = .ok (.iload 4, 2) := by decide +kernel
theorem d_17_11_43 : decode prog_17_method_11_code 43 = .ok (.ifCond .eq 54, 3) := by decide +kernel
theorem d_17_11_97 : decode prog_17_method_11_code 97 = .ok (.return_, 1) := by decide +kernel
theorem d_17_11_46 : decode prog_17_method_11_code 46 = .ok (.aload_n 0, 1) := by decide +kernel
theorem d_17_11_47 : decode prog_17_method_11_code 47 = .ok (.getfield 25, 3) := by decide +kernel
theorem d_17_11_50 : decode prog_17_method_11_code 50 = .ok (.iload_n 3, 1) := by decide +kernel
theorem d_17_11_51 : decode prog_17_method_11_code 51 = .ok (.aload_n 0, 1) := by decide +kernel
theorem d_17_11_52 : decode prog_17_method_11_code 52 = .ok (.getfield 25, 3) := by decide +kernel
theorem d_17_11_55 : decode prog_17_method_11_code 55 = .ok (.iload_n 3, 1) := by decide +kernel
theorem d_17_11_56 : decode prog_17_method_11_code 56 = .ok (.iaload, 1) := by decide +kernel
theorem d_17_11_57 : decode prog_17_method_11_code 57 = .ok (.bipush 9, 2) := by decide +kernel
theorem d_17_11_74 : decode prog_17_method_11_code 74 = .ok (.iastore, 1) := by decide +kernel
theorem d_17_11_75 : decode prog_17_method_11_code 75 = .ok (.aload_n 0, 1) := by decide +kernel
theorem d_17_11_76 : decode prog_17_method_11_code 76 = .ok (.getfield 25, 3) := by decide +kernel
theorem d_17_11_79 : decode prog_17_method_11_code 79 = .ok (.iload_n 3, 1) := by decide +kernel
theorem d_17_11_80 : decode prog_17_method_11_code 80 = .ok (.iaload, 1) := by decide +kernel
theorem d_17_11_81 : decode prog_17_method_11_code 81 = .ok (.ifCond .ne 7, 3) := by decide +kernel
theorem d_17_11_88 : decode prog_17_method_11_code 88 = .ok (.iconst 0, 1) := by decide +kernel
theorem d_17_11_89 : decode prog_17_method_11_code 89 = .ok (.istore 4, 2) := by decide +kernel
theorem d_17_11_91 : decode prog_17_method_11_code 91 = .ok (.iinc 3 1, 3) := by decide +kernel
theorem d_17_11_94 : decode prog_17_method_11_code 94 = .ok (.goto (-53), 3) := by decide +kernel
theorem d_17_11_84 : decode prog_17_method_11_code 84 = .ok (.iconst 1, 1) := by decide +kernel
theorem d_17_11_85 : decode prog_17_method_11_code 85 = .ok (.goto 4, 3) := by decide +kernel
theorem d_17_11_59 : decode prog_17_method_11_code 59 = .ok (.if_icmp .ne 7, 3) := by decide +kernel
theorem d_17_11_66 : decode prog_17_method_11_code 66 = .ok (.aload_n 0, 1) := by decide +kernel
theorem d_17_11_67 : decode prog_17_method_11_code 67 = .ok (.getfield 25, 3) := by decide +kernel
theorem d_17_11_70 : decode prog_17_method_11_code 70 = .ok (.iload_n 3, 1) := by decide +kernel
theorem d_17_11_71 : decode prog_17_method_11_code 71 = .ok (.iaload, 1) := by decide +kernel
theorem d_17_11_72 : decode prog_17_method_11_code 72 = .ok (.iconst 1, 1) := by decide +kernel
theorem d_17_11_73 : decode prog_17_method_11_code 73 = .ok (.iadd, 1) := by decide +kernel
theorem d_17_11_62 : decode prog_17_method_11_code 62 = .ok (.iconst 0, 1) := by decide +kernel
theorem d_17_11_63 : decode prog_17_method_11_code 63 = .ok (.goto 11, 3) := by decide +kernel
theorem d_17_11_9 : decode prog_17_method_11_code 9 = .ok (.aload_n 0, 1) := by decide +kernel
theorem d_17_11_10 : decode prog_17_method_11_code 10 = .ok (.getfield 25, 3) := by decide +kernel
theorem d_17_11_13 : decode prog_17_method_11_code 13 = .ok (.iload_n 3, 1) := by decide +kernel
theorem d_17_11_14 : decode prog_17_method_11_code 14 = .ok (.iload_n 3, 1) := by decide +kernel
theorem d_17_11_15 : decode prog_17_method_11_code 15 = .ok (.iload_n 1, 1) := by decide +kernel
theorem d_17_11_16 : decode prog_17_method_11_code 16 = .ok (.if_icmp .ge 7, 3) := by decide +kernel
theorem d_17_11_23 : decode prog_17_method_11_code 23 = .ok (.aload_n 0, 1) := by decide +kernel
theorem d_17_11_24 : decode prog_17_method_11_code 24 = .ok (.getfield 16, 3) := by decide +kernel
theorem d_17_11_27 : decode prog_17_method_11_code 27 = .ok (.iload_n 3, 1) := by decide +kernel
theorem d_17_11_28 : decode prog_17_method_11_code 28 = .ok (.iaload, 1) := by decide +kernel
theorem d_17_11_29 : decode prog_17_method_11_code 29 = .ok (.iastore, 1) := by decide +kernel
theorem d_17_11_30 : decode prog_17_method_11_code 30 = .ok (.iinc 3 1, 3) := by decide +kernel
theorem d_17_11_33 : decode prog_17_method_11_code 33 = .ok (.goto (-31), 3) := by decide +kernel
theorem d_17_11_19 : decode prog_17_method_11_code 19 = .ok (.iconst 0, 1) := by decide +kernel
theorem d_17_11_20 : decode prog_17_method_11_code 20 = .ok (.goto 9, 3) := by decide +kernel
def y_FR_cut : MethodName := ⟨"NumberHouseModel$FloatRows", "cut", "(IZ)V"⟩
def F_FR_cut_J74 (K_F_FR_cut_L2 : Int32 → (Nat → Int32) → (Nat → Int32)) (K_F_FR_cut_L41 : Int32 → Int32 → (Nat → Int32) → (Nat → Int32)) (x2 : Int32) (x3 : Int32) (t0_0 : Int32) (t0_1 : Int32) (t0_2 : Int32) (t0_3 : Int32) (t0_4 : Int64) (t0_5 : Int32) (t0_6 : Int32) (t0_7 : Int64) (t0_8 : Int32) (t0_9 : Int64) (t0_10 : Int32) (t1_0 : (Nat → Int32)) (t2_0 : (Nat → Int32)) (lx21 : Int32) (lx22 : (Nat → Int32)) (lx39 : Int32) (lx40 : Int32) (lx41 : (Nat → Int32)) (lx62 : Int32) : (Nat → Int32) := if ((upd lx41 lx40.toNatClampNeg lx62 : (Nat → Int32)) lx40.toNatClampNeg : Int32) = (0 : Int32) then (K_F_FR_cut_L41 1 (lx40 + 1 : Int32) (upd lx41 lx40.toNatClampNeg lx62 : (Nat → Int32))) else (K_F_FR_cut_L41 0 (lx40 + 1 : Int32) (upd lx41 lx40.toNatClampNeg lx62 : (Nat → Int32)))
def F_FR_cut_L41 (K_F_FR_cut_L2 : Int32 → (Nat → Int32) → (Nat → Int32)) (x2 : Int32) (x3 : Int32) (t0_0 : Int32) (t0_1 : Int32) (t0_2 : Int32) (t0_3 : Int32) (t0_4 : Int64) (t0_5 : Int32) (t0_6 : Int32) (t0_7 : Int64) (t0_8 : Int32) (t0_9 : Int64) (t0_10 : Int32) (t1_0 : (Nat → Int32)) (t2_0 : (Nat → Int32)) (lx21 : Int32) (lx22 : (Nat → Int32)) : Nat → Int32 → Int32 → (Nat → Int32) → (Nat → Int32)
  | 0, _, _, _ => default
  | fm + 1, lx39, lx40, lx41 => if lx39 = (0 : Int32) then (lx41) else (if (lx41 lx40.toNatClampNeg : Int32) = (9 : Int32) then (F_FR_cut_J74 K_F_FR_cut_L2 (F_FR_cut_L41 K_F_FR_cut_L2 x2 x3 t0_0 t0_1 t0_2 t0_3 t0_4 t0_5 t0_6 t0_7 t0_8 t0_9 t0_10 t1_0 t2_0 lx21 lx22 fm) x2 x3 t0_0 t0_1 t0_2 t0_3 t0_4 t0_5 t0_6 t0_7 t0_8 t0_9 t0_10 t1_0 t2_0 lx21 lx22 lx39 lx40 lx41 0) else (F_FR_cut_J74 K_F_FR_cut_L2 (F_FR_cut_L41 K_F_FR_cut_L2 x2 x3 t0_0 t0_1 t0_2 t0_3 t0_4 t0_5 t0_6 t0_7 t0_8 t0_9 t0_10 t1_0 t2_0 lx21 lx22 fm) x2 x3 t0_0 t0_1 t0_2 t0_3 t0_4 t0_5 t0_6 t0_7 t0_8 t0_9 t0_10 t1_0 t2_0 lx21 lx22 lx39 lx40 lx41 ((lx41 lx40.toNatClampNeg : Int32) + 1 : Int32)))
def F_FR_cut_L2 (x2 : Int32) (x3 : Int32) (t0_0 : Int32) (t0_1 : Int32) (t0_2 : Int32) (t0_3 : Int32) (t0_4 : Int64) (t0_5 : Int32) (t0_6 : Int32) (t0_7 : Int64) (t0_8 : Int32) (t0_9 : Int64) (t0_10 : Int32) (t1_0 : (Nat → Int32)) (t2_0 : (Nat → Int32)) : Nat → Int32 → (Nat → Int32) → (Nat → Int32)
  | 0, _, _ => default
  | fm + 1, lx21, lx22 => if (1404 : Int32) ≤ lx21 then (F_FR_cut_L41 (F_FR_cut_L2 x2 x3 t0_0 t0_1 t0_2 t0_3 t0_4 t0_5 t0_6 t0_7 t0_8 t0_9 t0_10 t1_0 t2_0 fm) x2 x3 t0_0 t0_1 t0_2 t0_3 t0_4 t0_5 t0_6 t0_7 t0_8 t0_9 t0_10 t1_0 t2_0 lx21 lx22 1000000 x3 x2 lx22) else (if x2 ≤ lx21 then (F_FR_cut_L2 x2 x3 t0_0 t0_1 t0_2 t0_3 t0_4 t0_5 t0_6 t0_7 t0_8 t0_9 t0_10 t1_0 t2_0 fm (lx21 + 1 : Int32) (upd lx22 lx21.toNatClampNeg (t1_0 lx21.toNatClampNeg : Int32) : (Nat → Int32))) else (F_FR_cut_L2 x2 x3 t0_0 t0_1 t0_2 t0_3 t0_4 t0_5 t0_6 t0_7 t0_8 t0_9 t0_10 t1_0 t2_0 fm (lx21 + 1 : Int32) (upd lx22 lx21.toNatClampNeg 0 : (Nat → Int32))))
def F_FR_cut (x2 : Int32) (x3 : Int32) (t0_0 : Int32) (t0_1 : Int32) (t0_2 : Int32) (t0_3 : Int32) (t0_4 : Int64) (t0_5 : Int32) (t0_6 : Int32) (t0_7 : Int64) (t0_8 : Int32) (t0_9 : Int64) (t0_10 : Int32) (t1_0 : (Nat → Int32)) (t2_0 : (Nat → Int32)) : (Nat → Int32) := F_FR_cut_L2 x2 x3 t0_0 t0_1 t0_2 t0_3 t0_4 t0_5 t0_6 t0_7 t0_8 t0_9 t0_10 t1_0 t2_0 ((1404 - (0 : Int32).toInt).toNat + 1) 0 t2_0
def S_FR_cut_J74 (K_S_FR_cut_L2 : Int32 → (Nat → Int32) → Prop) (K_S_FR_cut_L41 : Int32 → Int32 → (Nat → Int32) → Prop) (x2 : Int32) (x3 : Int32) (t0_0 : Int32) (t0_1 : Int32) (t0_2 : Int32) (t0_3 : Int32) (t0_4 : Int64) (t0_5 : Int32) (t0_6 : Int32) (t0_7 : Int64) (t0_8 : Int32) (t0_9 : Int64) (t0_10 : Int32) (t1_0 : (Nat → Int32)) (t2_0 : (Nat → Int32)) (lx21 : Int32) (lx22 : (Nat → Int32)) (lx39 : Int32) (lx40 : Int32) (lx41 : (Nat → Int32)) (lx62 : Int32) : Prop := if ((upd lx41 lx40.toNatClampNeg lx62 : (Nat → Int32)) lx40.toNatClampNeg : Int32) = (0 : Int32) then (K_S_FR_cut_L41 1 (lx40 + 1 : Int32) (upd lx41 lx40.toNatClampNeg lx62 : (Nat → Int32))) else (K_S_FR_cut_L41 0 (lx40 + 1 : Int32) (upd lx41 lx40.toNatClampNeg lx62 : (Nat → Int32)))
def S_FR_cut_L41 (K_S_FR_cut_L2 : Int32 → (Nat → Int32) → Prop) (x2 : Int32) (x3 : Int32) (t0_0 : Int32) (t0_1 : Int32) (t0_2 : Int32) (t0_3 : Int32) (t0_4 : Int64) (t0_5 : Int32) (t0_6 : Int32) (t0_7 : Int64) (t0_8 : Int32) (t0_9 : Int64) (t0_10 : Int32) (t1_0 : (Nat → Int32)) (t2_0 : (Nat → Int32)) (lx21 : Int32) (lx22 : (Nat → Int32)) : Nat → Int32 → Int32 → (Nat → Int32) → Prop
  | 0, _, _, _ => False
  | fm + 1, lx39, lx40, lx41 => if lx39 = (0 : Int32) then (True) else ((0 ≤ lx40.toInt) ∧ ((lx40.toInt ≤ 1403) ∧ (if (lx41 lx40.toNatClampNeg : Int32) = (9 : Int32) then (S_FR_cut_J74 K_S_FR_cut_L2 (S_FR_cut_L41 K_S_FR_cut_L2 x2 x3 t0_0 t0_1 t0_2 t0_3 t0_4 t0_5 t0_6 t0_7 t0_8 t0_9 t0_10 t1_0 t2_0 lx21 lx22 fm) x2 x3 t0_0 t0_1 t0_2 t0_3 t0_4 t0_5 t0_6 t0_7 t0_8 t0_9 t0_10 t1_0 t2_0 lx21 lx22 lx39 lx40 lx41 0) else (S_FR_cut_J74 K_S_FR_cut_L2 (S_FR_cut_L41 K_S_FR_cut_L2 x2 x3 t0_0 t0_1 t0_2 t0_3 t0_4 t0_5 t0_6 t0_7 t0_8 t0_9 t0_10 t1_0 t2_0 lx21 lx22 fm) x2 x3 t0_0 t0_1 t0_2 t0_3 t0_4 t0_5 t0_6 t0_7 t0_8 t0_9 t0_10 t1_0 t2_0 lx21 lx22 lx39 lx40 lx41 ((lx41 lx40.toNatClampNeg : Int32) + 1 : Int32)))))
def S_FR_cut_L2 (x2 : Int32) (x3 : Int32) (t0_0 : Int32) (t0_1 : Int32) (t0_2 : Int32) (t0_3 : Int32) (t0_4 : Int64) (t0_5 : Int32) (t0_6 : Int32) (t0_7 : Int64) (t0_8 : Int32) (t0_9 : Int64) (t0_10 : Int32) (t1_0 : (Nat → Int32)) (t2_0 : (Nat → Int32)) : Nat → Int32 → (Nat → Int32) → Prop
  | 0, _, _ => False
  | fm + 1, lx21, lx22 => if (1404 : Int32) ≤ lx21 then (S_FR_cut_L41 (S_FR_cut_L2 x2 x3 t0_0 t0_1 t0_2 t0_3 t0_4 t0_5 t0_6 t0_7 t0_8 t0_9 t0_10 t1_0 t2_0 fm) x2 x3 t0_0 t0_1 t0_2 t0_3 t0_4 t0_5 t0_6 t0_7 t0_8 t0_9 t0_10 t1_0 t2_0 lx21 lx22 1000000 x3 x2 lx22) else (if x2 ≤ lx21 then (S_FR_cut_L2 x2 x3 t0_0 t0_1 t0_2 t0_3 t0_4 t0_5 t0_6 t0_7 t0_8 t0_9 t0_10 t1_0 t2_0 fm (lx21 + 1 : Int32) (upd lx22 lx21.toNatClampNeg (t1_0 lx21.toNatClampNeg : Int32) : (Nat → Int32))) else (S_FR_cut_L2 x2 x3 t0_0 t0_1 t0_2 t0_3 t0_4 t0_5 t0_6 t0_7 t0_8 t0_9 t0_10 t1_0 t2_0 fm (lx21 + 1 : Int32) (upd lx22 lx21.toNatClampNeg 0 : (Nat → Int32))))
def S_FR_cut (x2 : Int32) (x3 : Int32) (t0_0 : Int32) (t0_1 : Int32) (t0_2 : Int32) (t0_3 : Int32) (t0_4 : Int64) (t0_5 : Int32) (t0_6 : Int32) (t0_7 : Int64) (t0_8 : Int32) (t0_9 : Int64) (t0_10 : Int32) (t1_0 : (Nat → Int32)) (t2_0 : (Nat → Int32)) : Prop := S_FR_cut_L2 x2 x3 t0_0 t0_1 t0_2 t0_3 t0_4 t0_5 t0_6 t0_7 t0_8 t0_9 t0_10 t1_0 t2_0 ((1404 - (0 : Int32).toInt).toNat + 1) 0 t2_0
set_option maxRecDepth 100000 in
set_option maxHeartbeats 4000000 in
theorem X_FR_cut (l : Launch) (D : va_G) (g : Nat → ClassId) (q : Nat → Nat) (ws : va_W) (x2 : Int32) (x3 : Int32) (hI : q_I (msh g q) q ws) (t0_0 : Int32) (t0_1 : Int32) (t0_2 : Int32) (t0_3 : Int32) (t0_4 : Int64) (t0_5 : Int32) (t0_6 : Int32) (t0_7 : Int64) (t0_8 : Int32) (t0_9 : Int64) (t0_10 : Int32) (hT0 : ws[145]? = (some (q 145, .inr (15, [.int t0_0, .ref (q 146), .ref (q 147), .ref (q 148), .ref (q 149), .ref (q 150), .ref (q 151), .ref (q 152), .int t0_1, .int t0_2, .int t0_3, .long t0_4, .int t0_5, .int t0_6, .long t0_7, .int t0_8, .long t0_9, .int t0_10])) : Option (Nat × va_E))) (t1_0 : (Nat → Int32)) (hT1 : ws[148]? = (some (q 148, .inl (g 0, (1404 : Int32).toNatClampNeg, .inl t1_0)) : Option (Nat × va_E))) (t2_0 : (Nat → Int32)) (hT2 : ws[151]? = (some (q 151, .inl (g 0, (1404 : Int32).toNatClampNeg, .inl t2_0)) : Option (Nat × va_E))) (hzx3 : 0 ≤ x3.toInt ∧ x3.toInt ≤ 1) (hS : True ∧ S_FR_cut x2 x3 t0_0 t0_1 t0_2 t0_3 t0_4 t0_5 t0_6 t0_7 t0_8 t0_9 t0_10 t1_0 t2_0) : q_mV l y_FR_cut prog_17_method_11_code 5 1 0 0 D g [.ref (q 145), .int x2, .int x3] ws (fun u => q_I (msh g q) q u ∧ q_un ws u [151] ∧ ∃ (u2_0 : (Nat → Int32)), u[151]? = (some (q 151, .inl (g 0, (1404 : Int32).toNatClampNeg, .inl u2_0)) : Option (Nat × va_E)) ∧ u2_0 = (F_FR_cut x2 x3 t0_0 t0_1 t0_2 t0_3 t0_4 t0_5 t0_6 t0_7 t0_8 t0_9 t0_10 t1_0 t2_0)) := by
  intro sz
  refine q_into (by decide) (Nat.le_of_ble_eq_true rfl) ?_
  intro p e s m below meth c ls hsz C0 V hl
  have hx := C0.1
  have hb := C0.2.1
  replace hzx3 : q_F (0 ≤ x3.toInt ∧ x3.toInt ≤ 1) := hzx3
  have btt0_2 := n_w145 hI hT0
  clear btt0_2
  have hF : q_un ws ws [151] := q_u0
  have hl : lv_has ls 5 [(0, .ref (q 145)), (1, .int x2), (2, .int x3)] := hl
  refine lv_iconst (v := 0) hx hb d_17_11_0 (by decide) ?_
  refine lv_istore_n (lv' := [(3, .int 0), (0, .ref (q 145)), (1, .int x2), (2, .int x3)]) hx hb d_17_11_1 rfl hl (by decide) rfl (fun ls hl => ?_)
  refine q_loop (X := Int32 × (Nat → Int32)) (fun z H locs ls w26 => q_F (0 ≤ z.1.toInt) ∧ q_F (z.1.toInt ≤ 1404) ∧ q_Wd D g (va_A ws sz) s w26 H locs ∧ lv_has ls 5 [(3, .int z.1), (0, .ref (q 145)), (1, .int x2), (2, .int x3)] ∧ q_I (msh g q) q w26 ∧ q_un ws w26 [151] ∧ w26[145]? = (some (q 145, .inr (15, [.int t0_0, .ref (q 146), .ref (q 147), .ref (q 148), .ref (q 149), .ref (q 150), .ref (q 151), .ref (q 152), .int t0_1, .int t0_2, .int t0_3, .long t0_4, .int t0_5, .int t0_6, .long t0_7, .int t0_8, .long t0_9, .int t0_10])) : Option (Nat × va_E)) ∧ w26[148]? = (some (q 148, .inl (g 0, (1404 : Int32).toNatClampNeg, .inl t1_0)) : Option (Nat × va_E)) ∧ w26[151]? = (some (q 151, .inl (g 0, (1404 : Int32).toNatClampNeg, .inl z.2)) : Option (Nat × va_E)) ∧ (∃ n, (1404 - z.1.toInt).toNat < n ∧ F_FR_cut_L2 x2 x3 t0_0 t0_1 t0_2 t0_3 t0_4 t0_5 t0_6 t0_7 t0_8 t0_9 t0_10 t1_0 t2_0 n z.1 z.2 = (F_FR_cut x2 x3 t0_0 t0_1 t0_2 t0_3 t0_4 t0_5 t0_6 t0_7 t0_8 t0_9 t0_10 t1_0 t2_0) ∧ True ∧ S_FR_cut_L2 x2 x3 t0_0 t0_1 t0_2 t0_3 t0_4 t0_5 t0_6 t0_7 t0_8 t0_9 t0_10 t1_0 t2_0 n z.1 z.2)) (fun z => (1404 - z.1.toInt).toNat) ?_ ((0 : Int32), (t2_0 : (Nat → Int32))) _ _ _ ws ⟨(show q_F (0 ≤ 0) from (show 0 ≤ 0 from by omega)), (show q_F (0 ≤ 1404) from (show 0 ≤ 1404 from by omega)), V, q_lw hl (q_lw1 0 rfl (q_lw1 1 rfl (q_lw1 2 rfl (q_lw1 3 rfl q_lw0)))), hI, hF, hT0, hT1, hT2, ⟨((1404 - (0 : Int32).toInt).toNat + 1), Nat.lt_succ_self _, (show F_FR_cut_L2 x2 x3 t0_0 t0_1 t0_2 t0_3 t0_4 t0_5 t0_6 t0_7 t0_8 t0_9 t0_10 t1_0 t2_0 ((1404 - (0 : Int32).toInt).toNat + 1) 0 t2_0 = (F_FR_cut x2 x3 t0_0 t0_1 t0_2 t0_3 t0_4 t0_5 t0_6 t0_7 t0_8 t0_9 t0_10 t1_0 t2_0) from (by rw [F_FR_cut.eq_1])), (show True ∧ S_FR_cut_L2 x2 x3 t0_0 t0_1 t0_2 t0_3 t0_4 t0_5 t0_6 t0_7 t0_8 t0_9 t0_10 t1_0 t2_0 ((1404 - (0 : Int32).toInt).toNat + 1) 0 t2_0 from (by have h := hS; rw [S_FR_cut.eq_1] at h; with_reducible exact h))⟩⟩
  rintro ⟨lx21, lx22⟩ H locs ls w26 ⟨i23, i24, V, hl, hI, hF, hO27, hO28, hO29, ⟨fu32, hf33, hR30, hS31⟩⟩ ih25
  obtain ⟨fm34, rfl⟩ : ∃ m, fu32 = m + 1 := ⟨fu32 - 1, by omega⟩
  replace i23 : q_F (0 ≤ lx21.toInt) := i23
  replace i24 : q_F (lx21.toInt ≤ 1404) := i24
  replace hl : lv_has ls 5 [(3, .int lx21), (0, .ref (q 145)), (1, .int x2), (2, .int x3)] := hl
  replace hO27 : w26[145]? = (some (q 145, .inr (15, [.int t0_0, .ref (q 146), .ref (q 147), .ref (q 148), .ref (q 149), .ref (q 150), .ref (q 151), .ref (q 152), .int t0_1, .int t0_2, .int t0_3, .long t0_4, .int t0_5, .int t0_6, .long t0_7, .int t0_8, .long t0_9, .int t0_10])) : Option (Nat × va_E)) := hO27
  replace hO28 : w26[148]? = (some (q 148, .inl (g 0, (1404 : Int32).toNatClampNeg, .inl t1_0)) : Option (Nat × va_E)) := hO28
  replace hO29 : w26[151]? = (some (q 151, .inl (g 0, (1404 : Int32).toNatClampNeg, .inl lx22)) : Option (Nat × va_E)) := hO29
  refine lv_iload_n hx hb d_17_11_2 rfl (lv_at hl 0 rfl) ?_
  refine lv_sipush (v := 1404) hx hb d_17_11_3 (by decide) ?_
  refine lv_icmp_ge (tgt := 36) hx hb d_17_11_6 (by decide) (fun c35 => ?_) (fun c35 => ?_)
  ·
    refine lv_iload_n hx hb d_17_11_36 rfl (lv_at hl 2 rfl) ?_
    refine lv_istore_n (lv' := [(3, .int x2), (0, .ref (q 145)), (1, .int x2), (2, .int x3)]) hx hb d_17_11_37 rfl hl (by decide) rfl (fun ls hl => ?_)
    refine lv_iload_n hx hb d_17_11_38 rfl (lv_at hl 3 rfl) ?_
    refine lv_istore (lv' := [(4, .int x3), (3, .int x2), (0, .ref (q 145)), (1, .int x2), (2, .int x3)]) hx hb d_17_11_39 hl (by decide) rfl (fun ls hl => ?_)
    refine q_loop (X := Nat × Int32 × Int32 × (Nat → Int32)) (fun z H locs ls w46 => q_F (0 ≤ z.2.1.toInt) ∧ q_F (z.2.1.toInt ≤ x3.toInt) ∧ q_F (x3.toInt + x2.toInt ≤ z.2.1.toInt + z.2.2.1.toInt) ∧ q_Wd D g (va_A ws sz) s w46 H locs ∧ lv_has ls 5 [(4, .int z.2.1), (3, .int z.2.2.1), (0, .ref (q 145))] ∧ q_I (msh g q) q w46 ∧ q_un ws w46 [151] ∧ w46[145]? = (some (q 145, .inr (15, [.int t0_0, .ref (q 146), .ref (q 147), .ref (q 148), .ref (q 149), .ref (q 150), .ref (q 151), .ref (q 152), .int t0_1, .int t0_2, .int t0_3, .long t0_4, .int t0_5, .int t0_6, .long t0_7, .int t0_8, .long t0_9, .int t0_10])) : Option (Nat × va_E)) ∧ w46[148]? = (some (q 148, .inl (g 0, (1404 : Int32).toNatClampNeg, .inl t1_0)) : Option (Nat × va_E)) ∧ w46[151]? = (some (q 151, .inl (g 0, (1404 : Int32).toNatClampNeg, .inl z.2.2.2)) : Option (Nat × va_E)) ∧ F_FR_cut_L41 (F_FR_cut_L2 x2 x3 t0_0 t0_1 t0_2 t0_3 t0_4 t0_5 t0_6 t0_7 t0_8 t0_9 t0_10 t1_0 t2_0 fm34) x2 x3 t0_0 t0_1 t0_2 t0_3 t0_4 t0_5 t0_6 t0_7 t0_8 t0_9 t0_10 t1_0 t2_0 lx21 lx22 z.1 z.2.1 z.2.2.1 z.2.2.2 = (F_FR_cut x2 x3 t0_0 t0_1 t0_2 t0_3 t0_4 t0_5 t0_6 t0_7 t0_8 t0_9 t0_10 t1_0 t2_0) ∧ True ∧ S_FR_cut_L41 (S_FR_cut_L2 x2 x3 t0_0 t0_1 t0_2 t0_3 t0_4 t0_5 t0_6 t0_7 t0_8 t0_9 t0_10 t1_0 t2_0 fm34) x2 x3 t0_0 t0_1 t0_2 t0_3 t0_4 t0_5 t0_6 t0_7 t0_8 t0_9 t0_10 t1_0 t2_0 lx21 lx22 z.1 z.2.1 z.2.2.1 z.2.2.2) (fun z => z.1) ?_ ((1000000 : Nat), (x3 : Int32), (x2 : Int32), (lx22 : (Nat → Int32))) _ _ _ w26 ⟨(show q_F (0 ≤ x3.toInt) from (show 0 ≤ x3.toInt from by have t1 : 0 ≤ x3.toInt ∧ x3.toInt ≤ 1 := hzx3; omega)), (show q_F (x3.toInt ≤ x3.toInt) from (show x3.toInt ≤ x3.toInt from by omega)), (show q_F (x3.toInt + x2.toInt ≤ x3.toInt + x2.toInt) from (show x3.toInt + x2.toInt ≤ x3.toInt + x2.toInt from by omega)), V, q_lw hl (q_lw1 0 rfl (q_lw1 1 rfl (q_lw1 2 rfl q_lw0))), hI, hF, hO27, hO28, hO29, (show F_FR_cut_L41 (F_FR_cut_L2 x2 x3 t0_0 t0_1 t0_2 t0_3 t0_4 t0_5 t0_6 t0_7 t0_8 t0_9 t0_10 t1_0 t2_0 fm34) x2 x3 t0_0 t0_1 t0_2 t0_3 t0_4 t0_5 t0_6 t0_7 t0_8 t0_9 t0_10 t1_0 t2_0 lx21 lx22 1000000 x3 x2 lx22 = (F_FR_cut x2 x3 t0_0 t0_1 t0_2 t0_3 t0_4 t0_5 t0_6 t0_7 t0_8 t0_9 t0_10 t1_0 t2_0) from Eq.trans (by rw [F_FR_cut_L2.eq_2, if_pos c35]) hR30), (show True ∧ S_FR_cut_L41 (S_FR_cut_L2 x2 x3 t0_0 t0_1 t0_2 t0_3 t0_4 t0_5 t0_6 t0_7 t0_8 t0_9 t0_10 t1_0 t2_0 fm34) x2 x3 t0_0 t0_1 t0_2 t0_3 t0_4 t0_5 t0_6 t0_7 t0_8 t0_9 t0_10 t1_0 t2_0 lx21 lx22 1000000 x3 x2 lx22 from (by have h := hS31; rw [S_FR_cut_L2.eq_2] at h; rw [if_pos c35] at h; with_reducible exact h))⟩
    rintro ⟨fu52, lx39, lx40, lx41⟩ H locs ls w46 ⟨i42, i43, i44, V, hl, hI, hF, hO47, hO48, hO49, hR50, hS51⟩ ih45
    obtain ⟨fm54, rfl⟩ : ∃ m, fu52 = m + 1 := Nat.exists_eq_succ_of_ne_zero (fun e => by subst e; rw [S_FR_cut_L41.eq_1] at hS51; exact hS51.2)
    replace i42 : q_F (0 ≤ lx39.toInt) := i42
    replace i43 : q_F (lx39.toInt ≤ x3.toInt) := i43
    replace i44 : q_F (x3.toInt + x2.toInt ≤ lx39.toInt + lx40.toInt) := i44
    replace hl : lv_has ls 5 [(4, .int lx39), (3, .int lx40), (0, .ref (q 145))] := hl
    replace hO47 : w46[145]? = (some (q 145, .inr (15, [.int t0_0, .ref (q 146), .ref (q 147), .ref (q 148), .ref (q 149), .ref (q 150), .ref (q 151), .ref (q 152), .int t0_1, .int t0_2, .int t0_3, .long t0_4, .int t0_5, .int t0_6, .long t0_7, .int t0_8, .long t0_9, .int t0_10])) : Option (Nat × va_E)) := hO47
    replace hO48 : w46[148]? = (some (q 148, .inl (g 0, (1404 : Int32).toNatClampNeg, .inl t1_0)) : Option (Nat × va_E)) := hO48
    replace hO49 : w46[151]? = (some (q 151, .inl (g 0, (1404 : Int32).toNatClampNeg, .inl lx41)) : Option (Nat × va_E)) := hO49
    refine lv_iload hx hb d_17_11_41 (lv_at hl 0 rfl) ?_
    refine lv_if_eq (tgt := 97) hx hb d_17_11_43 (by decide) (fun c55 => ?_) (fun c55 => ?_)
    ·
      exact q_retv C0 V (⟨hI, hF, lx41, hO49, (show lx41 = (F_FR_cut x2 x3 t0_0 t0_1 t0_2 t0_3 t0_4 t0_5 t0_6 t0_7 t0_8 t0_9 t0_10 t1_0 t2_0) from Eq.trans (by rw [F_FR_cut_L41.eq_2, if_pos c55]) hR50)⟩) d_17_11_97
    ·
      have b57 : q_F (lx39.toInt ≠ 0) := (q_neI c55)
      refine lv_aload_n hx hb d_17_11_46 rfl (lv_at hl 2 rfl) ?_
      refine q_get (ci := 15) (j := 6) (v := .ref (q 151)) C0 V i_FR rfl rfl hO47 (by decide) w_2081 rfl d_17_11_47 ?_
      refine lv_iload_n hx hb d_17_11_50 rfl (lv_at hl 1 rfl) ?_
      refine lv_aload_n hx hb d_17_11_51 rfl (lv_at hl 2 rfl) ?_
      refine q_get (ci := 15) (j := 6) (v := .ref (q 151)) C0 V i_FR rfl rfl hO47 (by decide) w_2081 rfl d_17_11_52 ?_
      refine lv_iload_n hx hb d_17_11_55 rfl (lv_at hl 1 rfl) ?_
      have ob58 : q_F (0 ≤ lx40.toInt) := (by have h := hS51; rw [S_FR_cut_L41.eq_2] at h; rw [if_neg c55] at h; exact h.2.1)
      have ob59 : q_F (lx40.toInt ≤ 1403) := (by have h := hS51; rw [S_FR_cut_L41.eq_2] at h; rw [if_neg c55] at h; replace h := q_s2 h; exact h.2.1)
      refine q_iald C0 V hO49 (q_ix (x := lx40.toInt) rfl (by first | with_reducible exact q_fe ob58 | (have t1 : 0 ≤ lx40.toInt := ob58; omega)) (by have t1 : 0 ≤ lx40.toInt := ob58; have t2 : lx40.toInt ≤ 1403 := ob59; have e9 : (((1404 : Int32).toNatClampNeg : Nat) : Int) = 1404 := (by decide); omega)) d_17_11_56 ?_
      obtain ⟨a60, e61⟩ := q_nm (lx41 lx40.toNatClampNeg : Int32)
      refine q_ti (v := a60) e61 ?_
      refine lv_bipush (v := 9) hx hb d_17_11_57 (by decide) ?_
      refine q_join (X := Int32) (fun z H locs ls _ => q_Wd D g (va_A ws sz) s w46 H locs ∧ lv_has ls 5 [(3, .int lx40), (0, .ref (q 145))] ∧ F_FR_cut_J74 (F_FR_cut_L2 x2 x3 t0_0 t0_1 t0_2 t0_3 t0_4 t0_5 t0_6 t0_7 t0_8 t0_9 t0_10 t1_0 t2_0 fm34) (F_FR_cut_L41 (F_FR_cut_L2 x2 x3 t0_0 t0_1 t0_2 t0_3 t0_4 t0_5 t0_6 t0_7 t0_8 t0_9 t0_10 t1_0 t2_0 fm34) x2 x3 t0_0 t0_1 t0_2 t0_3 t0_4 t0_5 t0_6 t0_7 t0_8 t0_9 t0_10 t1_0 t2_0 lx21 lx22 fm54) x2 x3 t0_0 t0_1 t0_2 t0_3 t0_4 t0_5 t0_6 t0_7 t0_8 t0_9 t0_10 t1_0 t2_0 lx21 lx22 lx39 lx40 lx41 z = (F_FR_cut x2 x3 t0_0 t0_1 t0_2 t0_3 t0_4 t0_5 t0_6 t0_7 t0_8 t0_9 t0_10 t1_0 t2_0) ∧ True ∧ S_FR_cut_J74 (S_FR_cut_L2 x2 x3 t0_0 t0_1 t0_2 t0_3 t0_4 t0_5 t0_6 t0_7 t0_8 t0_9 t0_10 t1_0 t2_0 fm34) (S_FR_cut_L41 (S_FR_cut_L2 x2 x3 t0_0 t0_1 t0_2 t0_3 t0_4 t0_5 t0_6 t0_7 t0_8 t0_9 t0_10 t1_0 t2_0 fm34) x2 x3 t0_0 t0_1 t0_2 t0_3 t0_4 t0_5 t0_6 t0_7 t0_8 t0_9 t0_10 t1_0 t2_0 lx21 lx22 fm54) x2 x3 t0_0 t0_1 t0_2 t0_3 t0_4 t0_5 t0_6 t0_7 t0_8 t0_9 t0_10 t1_0 t2_0 lx21 lx22 lx39 lx40 lx41 z) (fun z => [.int z, .int lx40, .ref (q 151)]) 74 0 0 ?_ ?_
      ·
        rintro lx62 H locs ls _ ⟨V, hl, hR67, hS68⟩
        replace hl : lv_has ls 5 [(3, .int lx40), (0, .ref (q 145))] := hl
        refine q_iast C0 V hO49 (q_ix (x := lx40.toInt) rfl (by first | with_reducible exact q_fe ob58 | (have t1 : 0 ≤ lx40.toInt := ob58; omega)) (by have t1 : 0 ≤ lx40.toInt := ob58; have t2 : lx40.toInt ≤ 1403 := ob59; have e9 : (((1404 : Int32).toNatClampNeg : Nat) : Int) = 1404 := (by decide); omega)) d_17_11_74 (fun H locs w72 hu73 hO49 V => ?_)
        replace hI := n_ai' hI (n_r151 g q).1 hu73 hO49 (q_updB (fun _ => s_bnd) s_bnd)
        replace hO47 := (hu73 _ (by decide)).trans hO47
        replace hO48 := (hu73 _ (by decide)).trans hO48
        replace hF := q_us hF hu73 (by simp)
        obtain ⟨f74, e75⟩ := q_nm (upd lx41 lx40.toNatClampNeg lx62 : (Nat → Int32))
        rw [e75] at hO49
        refine lv_aload_n hx hb d_17_11_75 rfl (lv_at hl 1 rfl) ?_
        refine q_get (ci := 15) (j := 6) (v := .ref (q 151)) C0 V i_FR rfl rfl hO47 (by decide) w_2081 rfl d_17_11_76 ?_
        refine lv_iload_n hx hb d_17_11_79 rfl (lv_at hl 0 rfl) ?_
        refine q_iald C0 V hO49 (q_ix (x := lx40.toInt) rfl (by first | with_reducible exact q_fe ob58 | (have t1 : 0 ≤ lx40.toInt := ob58; omega)) (by have t1 : 0 ≤ lx40.toInt := ob58; have t2 : lx40.toInt ≤ 1403 := ob59; have e9 : (((1404 : Int32).toNatClampNeg : Nat) : Int) = 1404 := (by decide); omega)) d_17_11_80 ?_
        obtain ⟨a76, e77⟩ := q_nm (f74 lx40.toNatClampNeg : Int32)
        refine q_ti (v := a76) e77 ?_
        refine lv_if_ne (tgt := 88) hx hb d_17_11_81 (by decide) (fun c78 => ?_) (fun c78 => ?_)
        ·
          refine lv_iconst (v := 0) hx hb d_17_11_88 (by decide) ?_
          refine lv_istore (lv' := [(4, .int 0), (3, .int lx40), (0, .ref (q 145))]) hx hb d_17_11_89 hl (by decide) rfl (fun ls hl => ?_)
          obtain ⟨a80, e81⟩ := q_nm (lx40 + 1 : Int32)
          have b82 : q_F (a80.toInt = lx40.toInt + 1) := (by rw [← e81]; exact q_addI (y := 1) rfl (by decide) (by have t1 : 0 ≤ lx40.toInt := ob58; have t2 : lx40.toInt ≤ 1403 := ob59; omega) (by have t1 : 0 ≤ lx40.toInt := ob58; have t2 : lx40.toInt ≤ 1403 := ob59; omega))
          refine lv_iinc (v := a80) (lv' := [(3, .int a80), (4, .int 0), (0, .ref (q 145))]) hx hb d_17_11_91 hl (k := 1) rfl (e81) (by decide) rfl (fun ls hl => ?_)
          refine lv_goto (tgt := 41) hx hb d_17_11_94 (by decide) ?_
          exact ih45 ((fm54 : Nat), (0 : Int32), (a80 : Int32), (f74 : (Nat → Int32))) _ _ _ _ (Nat.lt_succ_self _) ⟨(show q_F (0 ≤ 0) from (show 0 ≤ 0 from by omega)), (show q_F (0 ≤ x3.toInt) from (show 0 ≤ x3.toInt from by have t1 : 0 ≤ x3.toInt ∧ x3.toInt ≤ 1 := hzx3; omega)), (show q_F (x3.toInt + x2.toInt ≤ 0 + a80.toInt) from (show x3.toInt + x2.toInt ≤ 0 + a80.toInt from by have t1 : 0 ≤ x3.toInt ∧ x3.toInt ≤ 1 := hzx3; have t2 : lx39.toInt ≤ x3.toInt := i43; have t3 : x3.toInt + x2.toInt ≤ lx39.toInt + lx40.toInt := i44; have t4 : a80.toInt = lx40.toInt + 1 := b82; omega)), V, q_lw hl (q_lw1 1 rfl (q_lw1 0 rfl (q_lw1 2 rfl q_lw0))), hI, hF, hO47, hO48, hO49, (show F_FR_cut_L41 (F_FR_cut_L2 x2 x3 t0_0 t0_1 t0_2 t0_3 t0_4 t0_5 t0_6 t0_7 t0_8 t0_9 t0_10 t1_0 t2_0 fm34) x2 x3 t0_0 t0_1 t0_2 t0_3 t0_4 t0_5 t0_6 t0_7 t0_8 t0_9 t0_10 t1_0 t2_0 lx21 lx22 fm54 0 a80 f74 = (F_FR_cut x2 x3 t0_0 t0_1 t0_2 t0_3 t0_4 t0_5 t0_6 t0_7 t0_8 t0_9 t0_10 t1_0 t2_0) from Eq.trans (by have c78x := c78; rw [← e77, ← e75] at c78x; rw [← e81, ← e75, F_FR_cut_J74.eq_1, if_neg c78x]) hR67), (show True ∧ S_FR_cut_L41 (S_FR_cut_L2 x2 x3 t0_0 t0_1 t0_2 t0_3 t0_4 t0_5 t0_6 t0_7 t0_8 t0_9 t0_10 t1_0 t2_0 fm34) x2 x3 t0_0 t0_1 t0_2 t0_3 t0_4 t0_5 t0_6 t0_7 t0_8 t0_9 t0_10 t1_0 t2_0 lx21 lx22 fm54 0 a80 f74 from (by rw [← e81, ← e75]; have h := hS68; rw [S_FR_cut_J74.eq_1] at h; have c78x := c78; rw [← e77, ← e75] at c78x; rw [if_neg c78x] at h; with_reducible exact h))⟩
        ·
          refine lv_iconst (v := 1) hx hb d_17_11_84 (by decide) ?_
          refine lv_goto (tgt := 89) hx hb d_17_11_85 (by decide) ?_
          refine lv_istore (lv' := [(4, .int 1), (3, .int lx40), (0, .ref (q 145))]) hx hb d_17_11_89 hl (by decide) rfl (fun ls hl => ?_)
          obtain ⟨a84, e85⟩ := q_nm (lx40 + 1 : Int32)
          have b86 : q_F (a84.toInt = lx40.toInt + 1) := (by rw [← e85]; exact q_addI (y := 1) rfl (by decide) (by have t1 : 0 ≤ lx40.toInt := ob58; have t2 : lx40.toInt ≤ 1403 := ob59; omega) (by have t1 : 0 ≤ lx40.toInt := ob58; have t2 : lx40.toInt ≤ 1403 := ob59; omega))
          refine lv_iinc (v := a84) (lv' := [(3, .int a84), (4, .int 1), (0, .ref (q 145))]) hx hb d_17_11_91 hl (k := 1) rfl (e85) (by decide) rfl (fun ls hl => ?_)
          refine lv_goto (tgt := 41) hx hb d_17_11_94 (by decide) ?_
          exact ih45 ((fm54 : Nat), (1 : Int32), (a84 : Int32), (f74 : (Nat → Int32))) _ _ _ _ (Nat.lt_succ_self _) ⟨(show q_F (0 ≤ 1) from (show 0 ≤ 1 from by omega)), (show q_F (1 ≤ x3.toInt) from (show 1 ≤ x3.toInt from by have t1 : 0 ≤ lx39.toInt := i42; have t2 : lx39.toInt ≤ x3.toInt := i43; have t3 : lx39.toInt ≠ 0 := b57; omega)), (show q_F (x3.toInt + x2.toInt ≤ 1 + a84.toInt) from (show x3.toInt + x2.toInt ≤ 1 + a84.toInt from by have t1 : 0 ≤ x3.toInt ∧ x3.toInt ≤ 1 := hzx3; have t2 : lx39.toInt ≤ x3.toInt := i43; have t3 : x3.toInt + x2.toInt ≤ lx39.toInt + lx40.toInt := i44; have t4 : a84.toInt = lx40.toInt + 1 := b86; omega)), V, q_lw hl (q_lw1 1 rfl (q_lw1 0 rfl (q_lw1 2 rfl q_lw0))), hI, hF, hO47, hO48, hO49, (show F_FR_cut_L41 (F_FR_cut_L2 x2 x3 t0_0 t0_1 t0_2 t0_3 t0_4 t0_5 t0_6 t0_7 t0_8 t0_9 t0_10 t1_0 t2_0 fm34) x2 x3 t0_0 t0_1 t0_2 t0_3 t0_4 t0_5 t0_6 t0_7 t0_8 t0_9 t0_10 t1_0 t2_0 lx21 lx22 fm54 1 a84 f74 = (F_FR_cut x2 x3 t0_0 t0_1 t0_2 t0_3 t0_4 t0_5 t0_6 t0_7 t0_8 t0_9 t0_10 t1_0 t2_0) from Eq.trans (by have c78x := c78; rw [← e77, ← e75] at c78x; rw [← e85, ← e75, F_FR_cut_J74.eq_1, if_pos c78x]) hR67), (show True ∧ S_FR_cut_L41 (S_FR_cut_L2 x2 x3 t0_0 t0_1 t0_2 t0_3 t0_4 t0_5 t0_6 t0_7 t0_8 t0_9 t0_10 t1_0 t2_0 fm34) x2 x3 t0_0 t0_1 t0_2 t0_3 t0_4 t0_5 t0_6 t0_7 t0_8 t0_9 t0_10 t1_0 t2_0 lx21 lx22 fm54 1 a84 f74 from (by rw [← e85, ← e75]; have h := hS68; rw [S_FR_cut_J74.eq_1] at h; have c78x := c78; rw [← e77, ← e75] at c78x; rw [if_pos c78x] at h; with_reducible exact h))⟩
      ·
        intro J66
        refine lv_icmp_ne (tgt := 66) hx hb d_17_11_59 (by decide) (fun c87 => ?_) (fun c87 => ?_)
        ·
          refine lv_aload_n hx hb d_17_11_66 rfl (lv_at hl 2 rfl) ?_
          refine q_get (ci := 15) (j := 6) (v := .ref (q 151)) C0 V i_FR rfl rfl hO47 (by decide) w_2081 rfl d_17_11_67 ?_
          refine lv_iload_n hx hb d_17_11_70 rfl (lv_at hl 1 rfl) ?_
          refine q_iald C0 V hO49 (q_ix (x := lx40.toInt) rfl (by first | with_reducible exact q_fe ob58 | (have t1 : 0 ≤ lx40.toInt := ob58; omega)) (by have t1 : 0 ≤ lx40.toInt := ob58; have t2 : lx40.toInt ≤ 1403 := ob59; have e9 : (((1404 : Int32).toNatClampNeg : Nat) : Int) = 1404 := (by decide); omega)) d_17_11_71 ?_
          obtain ⟨a89, e90⟩ := q_nm (lx41 lx40.toNatClampNeg : Int32)
          refine q_ti (v := a89) e90 ?_
          refine lv_iconst (v := 1) hx hb d_17_11_72 (by decide) ?_
          refine lv_iadd hx hb d_17_11_73 ?_
          obtain ⟨a91, e92⟩ := q_nm (a89 + 1 : Int32)
          refine q_ti (v := a91) e92 ?_
          exact J66 ((a91 : Int32)) _ _ _ w46 ⟨V, q_lw hl (q_lw1 1 rfl (q_lw1 2 rfl q_lw0)), (show F_FR_cut_J74 (F_FR_cut_L2 x2 x3 t0_0 t0_1 t0_2 t0_3 t0_4 t0_5 t0_6 t0_7 t0_8 t0_9 t0_10 t1_0 t2_0 fm34) (F_FR_cut_L41 (F_FR_cut_L2 x2 x3 t0_0 t0_1 t0_2 t0_3 t0_4 t0_5 t0_6 t0_7 t0_8 t0_9 t0_10 t1_0 t2_0 fm34) x2 x3 t0_0 t0_1 t0_2 t0_3 t0_4 t0_5 t0_6 t0_7 t0_8 t0_9 t0_10 t1_0 t2_0 lx21 lx22 fm54) x2 x3 t0_0 t0_1 t0_2 t0_3 t0_4 t0_5 t0_6 t0_7 t0_8 t0_9 t0_10 t1_0 t2_0 lx21 lx22 lx39 lx40 lx41 a91 = (F_FR_cut x2 x3 t0_0 t0_1 t0_2 t0_3 t0_4 t0_5 t0_6 t0_7 t0_8 t0_9 t0_10 t1_0 t2_0) from Eq.trans (by have c87x := c87; rw [← e61] at c87x; rw [← e92, ← e90, F_FR_cut_L41.eq_2, if_neg c55, if_neg c87x]) hR50), (show True ∧ S_FR_cut_J74 (S_FR_cut_L2 x2 x3 t0_0 t0_1 t0_2 t0_3 t0_4 t0_5 t0_6 t0_7 t0_8 t0_9 t0_10 t1_0 t2_0 fm34) (S_FR_cut_L41 (S_FR_cut_L2 x2 x3 t0_0 t0_1 t0_2 t0_3 t0_4 t0_5 t0_6 t0_7 t0_8 t0_9 t0_10 t1_0 t2_0 fm34) x2 x3 t0_0 t0_1 t0_2 t0_3 t0_4 t0_5 t0_6 t0_7 t0_8 t0_9 t0_10 t1_0 t2_0 lx21 lx22 fm54) x2 x3 t0_0 t0_1 t0_2 t0_3 t0_4 t0_5 t0_6 t0_7 t0_8 t0_9 t0_10 t1_0 t2_0 lx21 lx22 lx39 lx40 lx41 a91 from (by rw [← e92, ← e90]; have h := hS51; rw [S_FR_cut_L41.eq_2] at h; rw [if_neg c55] at h; replace h := q_s2 h; replace h := q_s2 h; have c87x := c87; rw [← e61] at c87x; rw [if_neg c87x] at h; with_reducible exact h))⟩
        ·
          refine lv_iconst (v := 0) hx hb d_17_11_62 (by decide) ?_
          refine lv_goto (tgt := 74) hx hb d_17_11_63 (by decide) ?_
          exact J66 ((0 : Int32)) _ _ _ w46 ⟨V, q_lw hl (q_lw1 1 rfl (q_lw1 2 rfl q_lw0)), (show F_FR_cut_J74 (F_FR_cut_L2 x2 x3 t0_0 t0_1 t0_2 t0_3 t0_4 t0_5 t0_6 t0_7 t0_8 t0_9 t0_10 t1_0 t2_0 fm34) (F_FR_cut_L41 (F_FR_cut_L2 x2 x3 t0_0 t0_1 t0_2 t0_3 t0_4 t0_5 t0_6 t0_7 t0_8 t0_9 t0_10 t1_0 t2_0 fm34) x2 x3 t0_0 t0_1 t0_2 t0_3 t0_4 t0_5 t0_6 t0_7 t0_8 t0_9 t0_10 t1_0 t2_0 lx21 lx22 fm54) x2 x3 t0_0 t0_1 t0_2 t0_3 t0_4 t0_5 t0_6 t0_7 t0_8 t0_9 t0_10 t1_0 t2_0 lx21 lx22 lx39 lx40 lx41 0 = (F_FR_cut x2 x3 t0_0 t0_1 t0_2 t0_3 t0_4 t0_5 t0_6 t0_7 t0_8 t0_9 t0_10 t1_0 t2_0) from Eq.trans (by have c87x := c87; rw [← e61] at c87x; rw [F_FR_cut_L41.eq_2, if_neg c55, if_pos c87x]) hR50), (show True ∧ S_FR_cut_J74 (S_FR_cut_L2 x2 x3 t0_0 t0_1 t0_2 t0_3 t0_4 t0_5 t0_6 t0_7 t0_8 t0_9 t0_10 t1_0 t2_0 fm34) (S_FR_cut_L41 (S_FR_cut_L2 x2 x3 t0_0 t0_1 t0_2 t0_3 t0_4 t0_5 t0_6 t0_7 t0_8 t0_9 t0_10 t1_0 t2_0 fm34) x2 x3 t0_0 t0_1 t0_2 t0_3 t0_4 t0_5 t0_6 t0_7 t0_8 t0_9 t0_10 t1_0 t2_0 lx21 lx22 fm54) x2 x3 t0_0 t0_1 t0_2 t0_3 t0_4 t0_5 t0_6 t0_7 t0_8 t0_9 t0_10 t1_0 t2_0 lx21 lx22 lx39 lx40 lx41 0 from (by have h := hS51; rw [S_FR_cut_L41.eq_2] at h; rw [if_neg c55] at h; replace h := q_s2 h; replace h := q_s2 h; have c87x := c87; rw [← e61] at c87x; rw [if_pos c87x] at h; with_reducible exact h))⟩
  ·
    have b94 : q_F (lx21.toInt < 1404) := (q_nleI c35)
    refine lv_aload_n hx hb d_17_11_9 rfl (lv_at hl 1 rfl) ?_
    refine q_get (ci := 15) (j := 6) (v := .ref (q 151)) C0 V i_FR rfl rfl hO27 (by decide) w_2081 rfl d_17_11_10 ?_
    refine lv_iload_n hx hb d_17_11_13 rfl (lv_at hl 0 rfl) ?_
    refine lv_iload_n hx hb d_17_11_14 rfl (lv_at hl 0 rfl) ?_
    refine lv_iload_n hx hb d_17_11_15 rfl (lv_at hl 2 rfl) ?_
    refine lv_icmp_ge (tgt := 23) hx hb d_17_11_16 (by decide) (fun c95 => ?_) (fun c95 => ?_)
    ·
      refine lv_aload_n hx hb d_17_11_23 rfl (lv_at hl 1 rfl) ?_
      refine q_get (ci := 15) (j := 3) (v := .ref (q 148)) C0 V i_FR rfl rfl hO27 (by decide) w_2078 rfl d_17_11_24 ?_
      refine lv_iload_n hx hb d_17_11_27 rfl (lv_at hl 0 rfl) ?_
      refine q_iald C0 V hO28 (q_ix (x := lx21.toInt) rfl (by first | with_reducible exact q_fe i23 | (have t1 : 0 ≤ lx21.toInt := i23; omega)) (by have t1 : 0 ≤ lx21.toInt := i23; have t2 : lx21.toInt < 1404 := b94; have e9 : (((1404 : Int32).toNatClampNeg : Nat) : Int) = 1404 := (by decide); omega)) d_17_11_28 ?_
      obtain ⟨a97, e98⟩ := q_nm (t1_0 lx21.toNatClampNeg : Int32)
      refine q_ti (v := a97) e98 ?_
      refine q_iast C0 V hO29 (q_ix (x := lx21.toInt) rfl (by first | with_reducible exact q_fe i23 | (have t1 : 0 ≤ lx21.toInt := i23; omega)) (by have t1 : 0 ≤ lx21.toInt := i23; have t2 : lx21.toInt < 1404 := b94; have e9 : (((1404 : Int32).toNatClampNeg : Nat) : Int) = 1404 := (by decide); omega)) d_17_11_29 (fun H locs w99 hu100 hO29 V => ?_)
      replace hI := n_ai' hI (n_r151 g q).1 hu100 hO29 (q_updB (fun _ => s_bnd) s_bnd)
      replace hO27 := (hu100 _ (by decide)).trans hO27
      replace hO28 := (hu100 _ (by decide)).trans hO28
      replace hF := q_us hF hu100 (by simp)
      obtain ⟨f101, e102⟩ := q_nm (upd lx22 lx21.toNatClampNeg a97 : (Nat → Int32))
      rw [e102] at hO29
      obtain ⟨a103, e104⟩ := q_nm (lx21 + 1 : Int32)
      have b105 : q_F (a103.toInt = lx21.toInt + 1) := (by rw [← e104]; exact q_addI (y := 1) rfl (by decide) (by have t1 : 0 ≤ lx21.toInt := i23; have t2 : lx21.toInt ≤ 1404 := i24; omega) (by have t1 : 0 ≤ lx21.toInt := i23; have t2 : lx21.toInt ≤ 1404 := i24; omega))
      refine lv_iinc (v := a103) (lv' := [(3, .int a103), (0, .ref (q 145)), (1, .int x2), (2, .int x3)]) hx hb d_17_11_30 hl (k := 0) rfl (e104) (by decide) rfl (fun ls hl => ?_)
      refine lv_goto (tgt := 2) hx hb d_17_11_33 (by decide) ?_
      exact ih25 ((a103 : Int32), (f101 : (Nat → Int32))) _ _ _ _ (show (1404 - a103.toInt).toNat < (1404 - lx21.toInt).toNat from by have t1 : a103.toInt = lx21.toInt + 1 := b105; have t2 : lx21.toInt ≤ 1404 := i24; have t3 : lx21.toInt < 1404 := b94; omega) ⟨(show q_F (0 ≤ a103.toInt) from (show 0 ≤ a103.toInt from by have t1 : 0 ≤ lx21.toInt := i23; have t2 : a103.toInt = lx21.toInt + 1 := b105; omega)), (show q_F (a103.toInt ≤ 1404) from (show a103.toInt ≤ 1404 from by have t1 : lx21.toInt < 1404 := b94; have t2 : a103.toInt = lx21.toInt + 1 := b105; omega)), V, q_lw hl (q_lw1 0 rfl (q_lw1 1 rfl (q_lw1 2 rfl (q_lw1 3 rfl q_lw0)))), hI, hF, hO27, hO28, hO29, ⟨fm34, Nat.lt_of_lt_of_le (show (1404 - a103.toInt).toNat < (1404 - lx21.toInt).toNat from by have t1 : a103.toInt = lx21.toInt + 1 := b105; have t2 : lx21.toInt ≤ 1404 := i24; have t3 : lx21.toInt < 1404 := b94; omega) (Nat.le_of_lt_succ hf33), (show F_FR_cut_L2 x2 x3 t0_0 t0_1 t0_2 t0_3 t0_4 t0_5 t0_6 t0_7 t0_8 t0_9 t0_10 t1_0 t2_0 fm34 a103 f101 = (F_FR_cut x2 x3 t0_0 t0_1 t0_2 t0_3 t0_4 t0_5 t0_6 t0_7 t0_8 t0_9 t0_10 t1_0 t2_0) from Eq.trans (by rw [← e104, ← e102, ← e98, F_FR_cut_L2.eq_2, if_neg c35, if_pos c95]) hR30), (show True ∧ S_FR_cut_L2 x2 x3 t0_0 t0_1 t0_2 t0_3 t0_4 t0_5 t0_6 t0_7 t0_8 t0_9 t0_10 t1_0 t2_0 fm34 a103 f101 from (by rw [← e104, ← e102, ← e98]; have h := hS31; rw [S_FR_cut_L2.eq_2] at h; rw [if_neg c35] at h; rw [if_pos c95] at h; with_reducible exact h))⟩⟩
    ·
      refine lv_iconst (v := 0) hx hb d_17_11_19 (by decide) ?_
      refine lv_goto (tgt := 29) hx hb d_17_11_20 (by decide) ?_
      refine q_iast C0 V hO29 (q_ix (x := lx21.toInt) rfl (by first | with_reducible exact q_fe i23 | (have t1 : 0 ≤ lx21.toInt := i23; omega)) (by have t1 : 0 ≤ lx21.toInt := i23; have t2 : lx21.toInt < 1404 := b94; have e9 : (((1404 : Int32).toNatClampNeg : Nat) : Int) = 1404 := (by decide); omega)) d_17_11_29 (fun H locs w107 hu108 hO29 V => ?_)
      replace hI := n_ai' hI (n_r151 g q).1 hu108 hO29 (q_updB (fun _ => s_bnd) s_bnd)
      replace hO27 := (hu108 _ (by decide)).trans hO27
      replace hO28 := (hu108 _ (by decide)).trans hO28
      replace hF := q_us hF hu108 (by simp)
      obtain ⟨f109, e110⟩ := q_nm (upd lx22 lx21.toNatClampNeg 0 : (Nat → Int32))
      rw [e110] at hO29
      obtain ⟨a111, e112⟩ := q_nm (lx21 + 1 : Int32)
      have b113 : q_F (a111.toInt = lx21.toInt + 1) := (by rw [← e112]; exact q_addI (y := 1) rfl (by decide) (by have t1 : 0 ≤ lx21.toInt := i23; have t2 : lx21.toInt ≤ 1404 := i24; omega) (by have t1 : 0 ≤ lx21.toInt := i23; have t2 : lx21.toInt ≤ 1404 := i24; omega))
      refine lv_iinc (v := a111) (lv' := [(3, .int a111), (0, .ref (q 145)), (1, .int x2), (2, .int x3)]) hx hb d_17_11_30 hl (k := 0) rfl (e112) (by decide) rfl (fun ls hl => ?_)
      refine lv_goto (tgt := 2) hx hb d_17_11_33 (by decide) ?_
      exact ih25 ((a111 : Int32), (f109 : (Nat → Int32))) _ _ _ _ (show (1404 - a111.toInt).toNat < (1404 - lx21.toInt).toNat from by have t1 : a111.toInt = lx21.toInt + 1 := b113; have t2 : lx21.toInt ≤ 1404 := i24; have t3 : lx21.toInt < 1404 := b94; omega) ⟨(show q_F (0 ≤ a111.toInt) from (show 0 ≤ a111.toInt from by have t1 : 0 ≤ lx21.toInt := i23; have t2 : a111.toInt = lx21.toInt + 1 := b113; omega)), (show q_F (a111.toInt ≤ 1404) from (show a111.toInt ≤ 1404 from by have t1 : lx21.toInt < 1404 := b94; have t2 : a111.toInt = lx21.toInt + 1 := b113; omega)), V, q_lw hl (q_lw1 0 rfl (q_lw1 1 rfl (q_lw1 2 rfl (q_lw1 3 rfl q_lw0)))), hI, hF, hO27, hO28, hO29, ⟨fm34, Nat.lt_of_lt_of_le (show (1404 - a111.toInt).toNat < (1404 - lx21.toInt).toNat from by have t1 : a111.toInt = lx21.toInt + 1 := b113; have t2 : lx21.toInt ≤ 1404 := i24; have t3 : lx21.toInt < 1404 := b94; omega) (Nat.le_of_lt_succ hf33), (show F_FR_cut_L2 x2 x3 t0_0 t0_1 t0_2 t0_3 t0_4 t0_5 t0_6 t0_7 t0_8 t0_9 t0_10 t1_0 t2_0 fm34 a111 f109 = (F_FR_cut x2 x3 t0_0 t0_1 t0_2 t0_3 t0_4 t0_5 t0_6 t0_7 t0_8 t0_9 t0_10 t1_0 t2_0) from Eq.trans (by rw [← e112, ← e110, F_FR_cut_L2.eq_2, if_neg c35, if_neg c95]) hR30), (show True ∧ S_FR_cut_L2 x2 x3 t0_0 t0_1 t0_2 t0_3 t0_4 t0_5 t0_6 t0_7 t0_8 t0_9 t0_10 t1_0 t2_0 fm34 a111 f109 from (by rw [← e112, ← e110]; have h := hS31; rw [S_FR_cut_L2.eq_2] at h; rw [if_neg c35] at h; rw [if_neg c95] at h; with_reducible exact h))⟩⟩
theorem d_17_10_0 : decode prog_17_method_10_code 0 = .ok (.sipush 1403, 3) := by decide +kernel
theorem d_17_10_3 : decode prog_17_method_10_code 3 = .ok (.istore_n 2, 1) := by decide +kernel
theorem d_17_10_4 : decode prog_17_method_10_code 4 = .ok (.iload_n 2, 1) := by decide +kernel
theorem d_17_10_23 : decode prog_17_method_10_code 23 = .ok (.iload_n 2, 1) := by decide +kernel
theorem d_17_10_24 : decode prog_17_method_10_code 24 = .ok (.ifCond .ge 7, 3) := by decide +kernel
theorem d_17_10_31 : decode prog_17_method_10_code 31 = .ok (.aload_n 0, 1) := by decide +kernel
theorem d_17_10_32 : decode prog_17_method_10_code 32 = .ok (.iload_n 2, 1) := by decide +kernel
theorem d_17_10_33 : decode prog_17_method_10_code 33 = .ok (.iaload, 1) := by decide +kernel
theorem d_17_10_34 : decode prog_17_method_10_code 34 = .ok (.aload_n 1, 1) := by decide +kernel
theorem d_17_10_35 : decode prog_17_method_10_code 35 = .ok (.iload_n 2, 1) := by decide +kernel
theorem d_17_10_36 : decode prog_17_method_10_code 36 = .ok (.iaload, 1) := by decide +kernel
theorem d_17_10_37 : decode prog_17_method_10_code 37 = .ok (.if_icmp .ge 7, 3) := by decide +kernel
theorem d_17_10_44 : decode prog_17_method_10_code 44 = .ok (.iconst 1, 1) := by decide +kernel
theorem d_17_10_45 : decode prog_17_method_10_code 45 = .ok (.ireturn, 1) := by decide +kernel
theorem d_17_10_40 : decode prog_17_method_10_code 40 = .ok (.iconst (-1), 1) := by decide +kernel
theorem d_17_10_41 : decode prog_17_method_10_code 41 = .ok (.goto 4, 3) := by decide +kernel
theorem d_17_10_27 : decode prog_17_method_10_code 27 = .ok (.iconst 0, 1) := by decide +kernel
theorem d_17_10_28 : decode prog_17_method_10_code 28 = .ok (.goto 17, 3) := by decide +kernel
theorem d_17_10_5 : decode prog_17_method_10_code 5 = .ok (.ifCond .lt 18, 3) := by decide +kernel
theorem d_17_10_8 : decode prog_17_method_10_code 8 = .ok (.aload_n 0, 1) := by decide +kernel
theorem d_17_10_9 : decode prog_17_method_10_code 9 = .ok (.iload_n 2, 1) := by decide +kernel
theorem d_17_10_10 : decode prog_17_method_10_code 10 = .ok (.iaload, 1) := by decide +kernel
theorem d_17_10_11 : decode prog_17_method_10_code 11 = .ok (.aload_n 1, 1) := by decide +kernel
theorem d_17_10_12 : decode prog_17_method_10_code 12 = .ok (.iload_n 2, 1) := by decide +kernel
theorem d_17_10_13 : decode prog_17_method_10_code 13 = .ok (.iaload, 1) := by decide +kernel
theorem d_17_10_14 : decode prog_17_method_10_code 14 = .ok (.if_icmp .ne 9, 3) := by decide +kernel
theorem d_17_10_17 : decode prog_17_method_10_code 17 = .ok (.iinc 2 (-1), 3) := by decide +kernel
theorem d_17_10_20 : decode prog_17_method_10_code 20 = .ok (.goto (-16), 3) := by decide +kernel
def y_FR_compare : MethodName := ⟨"NumberHouseModel$FloatRows", "compare", "([I[I)I"⟩
def F_FR_compare_J23 (K_F_FR_compare_L4 : Int32 → Int32) (N1 : Int32) (N2 : Int32) (t0_0 : (Nat → Int32)) (t1_0 : (Nat → Int32)) (lx8 : Int32) : Int32 := if (0 : Int32) ≤ lx8 then (if (t1_0 lx8.toNatClampNeg : Int32) ≤ (t0_0 lx8.toNatClampNeg : Int32) then ((1 : Int32)) else ((-1 : Int32))) else ((0 : Int32))
def F_FR_compare_L4 (N1 : Int32) (N2 : Int32) (t0_0 : (Nat → Int32)) (t1_0 : (Nat → Int32)) : Nat → Int32 → Int32
  | 0, _ => default
  | fm + 1, lx8 => if lx8 < (0 : Int32) then (F_FR_compare_J23 (F_FR_compare_L4 N1 N2 t0_0 t1_0 fm) N1 N2 t0_0 t1_0 lx8) else (if (t0_0 lx8.toNatClampNeg : Int32) = (t1_0 lx8.toNatClampNeg : Int32) then (F_FR_compare_L4 N1 N2 t0_0 t1_0 fm (lx8 + (-1) : Int32)) else (F_FR_compare_J23 (F_FR_compare_L4 N1 N2 t0_0 t1_0 fm) N1 N2 t0_0 t1_0 lx8))
def F_FR_compare (N1 : Int32) (N2 : Int32) (t0_0 : (Nat → Int32)) (t1_0 : (Nat → Int32)) : Int32 := F_FR_compare_L4 N1 N2 t0_0 t1_0 (((1403 : Int32).toInt - ((-1))).toNat + 1) 1403
def S_FR_compare_J23 (K_S_FR_compare_L4 : Int32 → Prop) (N1 : Int32) (N2 : Int32) (t0_0 : (Nat → Int32)) (t1_0 : (Nat → Int32)) (lx8 : Int32) : Prop := if (0 : Int32) ≤ lx8 then ((lx8.toInt + 1 ≤ N1.toInt) ∧ ((lx8.toInt + 1 ≤ N2.toInt) ∧ (if (t1_0 lx8.toNatClampNeg : Int32) ≤ (t0_0 lx8.toNatClampNeg : Int32) then (True) else (True)))) else (True)
def S_FR_compare_L4 (N1 : Int32) (N2 : Int32) (t0_0 : (Nat → Int32)) (t1_0 : (Nat → Int32)) : Nat → Int32 → Prop
  | 0, _ => False
  | fm + 1, lx8 => if lx8 < (0 : Int32) then (S_FR_compare_J23 (S_FR_compare_L4 N1 N2 t0_0 t1_0 fm) N1 N2 t0_0 t1_0 lx8) else ((lx8.toInt + 1 ≤ N1.toInt) ∧ ((lx8.toInt + 1 ≤ N2.toInt) ∧ (if (t0_0 lx8.toNatClampNeg : Int32) = (t1_0 lx8.toNatClampNeg : Int32) then (S_FR_compare_L4 N1 N2 t0_0 t1_0 fm (lx8 + (-1) : Int32)) else (S_FR_compare_J23 (S_FR_compare_L4 N1 N2 t0_0 t1_0 fm) N1 N2 t0_0 t1_0 lx8))))
def S_FR_compare (N1 : Int32) (N2 : Int32) (t0_0 : (Nat → Int32)) (t1_0 : (Nat → Int32)) : Prop := S_FR_compare_L4 N1 N2 t0_0 t1_0 (((1403 : Int32).toInt - ((-1))).toNat + 1) 1403
set_option maxRecDepth 100000 in
set_option maxHeartbeats 4000000 in
theorem X_FR_compare (l : Launch) (D : va_G) (g : Nat → ClassId) (q : Nat → Nat) (ws : va_W) (k1 : Nat) (N1 : Int32) (hB1 : q_isRow (msh g q) g k1 N1) (k2 : Nat) (N2 : Int32) (hB2 : q_isRow (msh g q) g k2 N2) (ne_k1_k2 : k1 ≠ k2) (hI : q_I (msh g q) q ws) (t0_0 : (Nat → Int32)) (hT0 : ws[k1]? = (some (q k1, .inl (g 0, N1.toNatClampNeg, .inl t0_0)) : Option (Nat × va_E))) (t1_0 : (Nat → Int32)) (hT1 : ws[k2]? = (some (q k2, .inl (g 0, N2.toNatClampNeg, .inl t1_0)) : Option (Nat × va_E))) (hS : True ∧ S_FR_compare N1 N2 t0_0 t1_0) : q_mI l y_FR_compare prog_17_method_10_code 3 (.int) 1 0 0 D g [.ref (q k1), .ref (q k2)] ws (fun r u => ws = u ∧ (0 ≤ r.toInt + 1) ∧ (r.toInt ≤ 1) ∧ (r.toInt ≤ N1.toInt) ∧ (r.toInt ≤ N2.toInt) ∧ r = (F_FR_compare N1 N2 t0_0 t1_0)) := by
  intro sz
  refine q_into (by decide) (Nat.le_of_ble_eq_true rfl) ?_
  intro p e s m below meth c ls hsz C0 V hl
  have hx := C0.1
  have hb := C0.2.1
  have hfk10 : q_F (0 ≤ N1.toInt ∧ N1.toInt ≤ 20200) := hB1.2
  have hfk20 : q_F (0 ≤ N2.toInt ∧ N2.toInt ≤ 20200) := hB2.2
  have hl : lv_has ls 3 [(0, .ref (q k1)), (1, .ref (q k2))] := hl
  refine lv_sipush (v := 1403) hx hb d_17_10_0 (by decide) ?_
  refine lv_istore_n (lv' := [(2, .int 1403), (0, .ref (q k1)), (1, .ref (q k2))]) hx hb d_17_10_3 rfl hl (by decide) rfl (fun ls hl => ?_)
  refine q_loop (X := Int32) (fun z H locs ls _ => q_F (z.toInt ≤ 1403) ∧ q_F (0 ≤ z.toInt + 1) ∧ q_Wd D g (va_A ws sz) s ws H locs ∧ lv_has ls 3 [(2, .int z), (0, .ref (q k1)), (1, .ref (q k2))] ∧ (∃ n, (z.toInt - ((-1))).toNat < n ∧ F_FR_compare_L4 N1 N2 t0_0 t1_0 n z = (F_FR_compare N1 N2 t0_0 t1_0) ∧ True ∧ S_FR_compare_L4 N1 N2 t0_0 t1_0 n z)) (fun z => (z.toInt - ((-1))).toNat) ?_ ((1403 : Int32)) _ _ _ ws ⟨(show q_F (1403 ≤ 1403) from (show 1403 ≤ 1403 from by omega)), (show q_F (0 ≤ 1403 + 1) from (show 0 ≤ 1403 + 1 from by omega)), V, q_lw hl (q_lw1 0 rfl (q_lw1 1 rfl (q_lw1 2 rfl q_lw0))), ⟨(((1403 : Int32).toInt - ((-1))).toNat + 1), Nat.lt_succ_self _, (show F_FR_compare_L4 N1 N2 t0_0 t1_0 (((1403 : Int32).toInt - ((-1))).toNat + 1) 1403 = (F_FR_compare N1 N2 t0_0 t1_0) from (by rw [F_FR_compare.eq_1])), (show True ∧ S_FR_compare_L4 N1 N2 t0_0 t1_0 (((1403 : Int32).toInt - ((-1))).toNat + 1) 1403 from (by have h := hS; rw [S_FR_compare.eq_1] at h; with_reducible exact h))⟩⟩
  rintro lx8 H locs ls _ ⟨i9, i10, V, hl, ⟨fu14, hf15, hR12, hS13⟩⟩ ih11
  obtain ⟨fm16, rfl⟩ : ∃ m, fu14 = m + 1 := ⟨fu14 - 1, by omega⟩
  replace i9 : q_F (lx8.toInt ≤ 1403) := i9
  replace i10 : q_F (0 ≤ lx8.toInt + 1) := i10
  replace hl : lv_has ls 3 [(2, .int lx8), (0, .ref (q k1)), (1, .ref (q k2))] := hl
  refine lv_iload_n hx hb d_17_10_4 rfl (lv_at hl 0 rfl) ?_
  refine q_join (X := Unit) (fun z H locs ls _ => q_Wd D g (va_A ws sz) s ws H locs ∧ lv_has ls 3 [(2, .int lx8), (0, .ref (q k1)), (1, .ref (q k2))] ∧ F_FR_compare_J23 (F_FR_compare_L4 N1 N2 t0_0 t1_0 fm16) N1 N2 t0_0 t1_0 lx8 = (F_FR_compare N1 N2 t0_0 t1_0) ∧ True ∧ S_FR_compare_J23 (S_FR_compare_L4 N1 N2 t0_0 t1_0 fm16) N1 N2 t0_0 t1_0 lx8) (fun z => []) 23 0 0 ?_ ?_
  ·
    rintro _ H locs ls _ ⟨V, hl, hR20, hS21⟩
    replace hl : lv_has ls 3 [(2, .int lx8), (0, .ref (q k1)), (1, .ref (q k2))] := hl
    refine lv_iload_n hx hb d_17_10_23 rfl (lv_at hl 0 rfl) ?_
    refine lv_if_ge (tgt := 31) hx hb d_17_10_24 (by decide) (fun c25 => ?_) (fun c25 => ?_)
    ·
      have b26 : q_F (0 ≤ lx8.toInt) := (q_leI c25)
      refine lv_aload_n hx hb d_17_10_31 rfl (lv_at hl 1 rfl) ?_
      refine lv_iload_n hx hb d_17_10_32 rfl (lv_at hl 0 rfl) ?_
      have ob27 : q_F (lx8.toInt + 1 ≤ N1.toInt) := (by have h := hS21; rw [S_FR_compare_J23.eq_1] at h; rw [if_pos c25] at h; exact h.2.1)
      refine q_iald C0 V hT0 (q_ix (x := lx8.toInt) rfl (by first | with_reducible exact q_fe b26 | (have t1 : 0 ≤ lx8.toInt := b26; omega)) (by have t1 : 0 ≤ lx8.toInt := b26; have t2 : lx8.toInt + 1 ≤ N1.toInt := ob27; have e9 := q_clI (i := N1) rfl (by first | with_reducible exact (q_fe hfk10).2 | with_reducible exact (q_fe hfk10).1 | (have t1 : 0 ≤ N1.toInt ∧ N1.toInt ≤ 20200 := hfk10; omega)); omega)) d_17_10_33 ?_
      obtain ⟨a28, e29⟩ := q_nm (t0_0 lx8.toNatClampNeg : Int32)
      refine q_ti (v := a28) e29 ?_
      refine lv_aload_n hx hb d_17_10_34 rfl (lv_at hl 2 rfl) ?_
      refine lv_iload_n hx hb d_17_10_35 rfl (lv_at hl 0 rfl) ?_
      have ob30 : q_F (lx8.toInt + 1 ≤ N2.toInt) := (by have h := hS21; rw [S_FR_compare_J23.eq_1] at h; rw [if_pos c25] at h; replace h := q_s2 h; exact h.2.1)
      refine q_iald C0 V hT1 (q_ix (x := lx8.toInt) rfl (by first | with_reducible exact q_fe b26 | (have t1 : 0 ≤ lx8.toInt := b26; omega)) (by have t1 : 0 ≤ lx8.toInt := b26; have t2 : lx8.toInt + 1 ≤ N2.toInt := ob30; have e9 := q_clI (i := N2) rfl (by first | with_reducible exact (q_fe hfk20).2 | with_reducible exact (q_fe hfk20).1 | (have t1 : 0 ≤ N2.toInt ∧ N2.toInt ≤ 20200 := hfk20; omega)); omega)) d_17_10_36 ?_
      obtain ⟨a31, e32⟩ := q_nm (t1_0 lx8.toNatClampNeg : Int32)
      refine q_ti (v := a31) e32 ?_
      refine lv_icmp_ge (tgt := 44) hx hb d_17_10_37 (by decide) (fun c33 => ?_) (fun c33 => ?_)
      ·
        refine lv_iconst (v := 1) hx hb d_17_10_44 (by decide) ?_
        exact q_reti C0 V (⟨rfl, (show 0 ≤ (1 : Int32).toInt + 1 from (by have z4 : (1 : Int32).toInt = 1 := rfl; omega)), (show (1 : Int32).toInt ≤ 1 from (by have z4 : (1 : Int32).toInt = 1 := rfl; omega)), (show (1 : Int32).toInt ≤ N1.toInt from (by have z4 : (1 : Int32).toInt = 1 := rfl; have t1 : 0 ≤ lx8.toInt := b26; have t2 : lx8.toInt + 1 ≤ N1.toInt := ob27; omega)), (show (1 : Int32).toInt ≤ N2.toInt from (by have z4 : (1 : Int32).toInt = 1 := rfl; have t1 : 0 ≤ lx8.toInt := b26; have t2 : lx8.toInt + 1 ≤ N2.toInt := ob30; omega)), (show (1 : Int32) = (F_FR_compare N1 N2 t0_0 t1_0) from Eq.trans (by have c33x := c33; rw [← e32, ← e29] at c33x; rw [F_FR_compare_J23.eq_1, if_pos c25, if_pos c33x]) hR20)⟩) d_17_10_45
      ·
        refine lv_iconst (v := (-1)) hx hb d_17_10_40 (by decide) ?_
        refine lv_goto (tgt := 45) hx hb d_17_10_41 (by decide) ?_
        exact q_reti C0 V (⟨rfl, (show 0 ≤ (-1 : Int32).toInt + 1 from (by have z4 : (-1 : Int32).toInt = -1 := rfl; omega)), (show (-1 : Int32).toInt ≤ 1 from (by have z4 : (-1 : Int32).toInt = -1 := rfl; omega)), (show (-1 : Int32).toInt ≤ N1.toInt from (by have z4 : (-1 : Int32).toInt = -1 := rfl; have t1 : 0 ≤ N1.toInt ∧ N1.toInt ≤ 20200 := hfk10; omega)), (show (-1 : Int32).toInt ≤ N2.toInt from (by have z4 : (-1 : Int32).toInt = -1 := rfl; have t1 : 0 ≤ N2.toInt ∧ N2.toInt ≤ 20200 := hfk20; omega)), (show (-1 : Int32) = (F_FR_compare N1 N2 t0_0 t1_0) from Eq.trans (by have c33x := c33; rw [← e32, ← e29] at c33x; rw [F_FR_compare_J23.eq_1, if_pos c25, if_neg c33x]) hR20)⟩) d_17_10_45
    ·
      refine lv_iconst (v := 0) hx hb d_17_10_27 (by decide) ?_
      refine lv_goto (tgt := 45) hx hb d_17_10_28 (by decide) ?_
      exact q_reti C0 V (⟨rfl, (show 0 ≤ (0 : Int32).toInt + 1 from (by have z4 : (0 : Int32).toInt = 0 := rfl; omega)), (show (0 : Int32).toInt ≤ 1 from (by have z4 : (0 : Int32).toInt = 0 := rfl; omega)), (show (0 : Int32).toInt ≤ N1.toInt from (by have z4 : (0 : Int32).toInt = 0 := rfl; have t1 : 0 ≤ N1.toInt ∧ N1.toInt ≤ 20200 := hfk10; omega)), (show (0 : Int32).toInt ≤ N2.toInt from (by have z4 : (0 : Int32).toInt = 0 := rfl; have t1 : 0 ≤ N2.toInt ∧ N2.toInt ≤ 20200 := hfk20; omega)), (show (0 : Int32) = (F_FR_compare N1 N2 t0_0 t1_0) from Eq.trans (by rw [F_FR_compare_J23.eq_1, if_neg c25]) hR20)⟩) d_17_10_45
  ·
    intro J19
    refine lv_if_lt (tgt := 23) hx hb d_17_10_5 (by decide) (fun c37 => ?_) (fun c37 => ?_)
    ·
      exact J19 (()) _ _ _ ws ⟨V, q_lw hl (q_lw1 0 rfl (q_lw1 1 rfl (q_lw1 2 rfl q_lw0))), (show F_FR_compare_J23 (F_FR_compare_L4 N1 N2 t0_0 t1_0 fm16) N1 N2 t0_0 t1_0 lx8 = (F_FR_compare N1 N2 t0_0 t1_0) from Eq.trans (by rw [F_FR_compare_L4.eq_2, if_pos c37]) hR12), (show True ∧ S_FR_compare_J23 (S_FR_compare_L4 N1 N2 t0_0 t1_0 fm16) N1 N2 t0_0 t1_0 lx8 from (by have h := hS13; rw [S_FR_compare_L4.eq_2] at h; rw [if_pos c37] at h; with_reducible exact h))⟩
    ·
      have b39 : q_F (0 ≤ lx8.toInt) := (q_nltI c37)
      refine lv_aload_n hx hb d_17_10_8 rfl (lv_at hl 1 rfl) ?_
      refine lv_iload_n hx hb d_17_10_9 rfl (lv_at hl 0 rfl) ?_
      have ob40 : q_F (lx8.toInt + 1 ≤ N1.toInt) := (by have h := hS13; rw [S_FR_compare_L4.eq_2] at h; rw [if_neg c37] at h; exact h.2.1)
      refine q_iald C0 V hT0 (q_ix (x := lx8.toInt) rfl (by first | with_reducible exact q_fe b39 | (have t1 : 0 ≤ lx8.toInt := b39; omega)) (by have t1 : 0 ≤ lx8.toInt := b39; have t2 : lx8.toInt + 1 ≤ N1.toInt := ob40; have e9 := q_clI (i := N1) rfl (by first | with_reducible exact (q_fe hfk10).2 | with_reducible exact (q_fe hfk10).1 | (have t1 : 0 ≤ N1.toInt ∧ N1.toInt ≤ 20200 := hfk10; omega)); omega)) d_17_10_10 ?_
      obtain ⟨a41, e42⟩ := q_nm (t0_0 lx8.toNatClampNeg : Int32)
      refine q_ti (v := a41) e42 ?_
      refine lv_aload_n hx hb d_17_10_11 rfl (lv_at hl 2 rfl) ?_
      refine lv_iload_n hx hb d_17_10_12 rfl (lv_at hl 0 rfl) ?_
      have ob43 : q_F (lx8.toInt + 1 ≤ N2.toInt) := (by have h := hS13; rw [S_FR_compare_L4.eq_2] at h; rw [if_neg c37] at h; replace h := q_s2 h; exact h.2.1)
      refine q_iald C0 V hT1 (q_ix (x := lx8.toInt) rfl (by first | with_reducible exact q_fe b39 | (have t1 : 0 ≤ lx8.toInt := b39; omega)) (by have t1 : 0 ≤ lx8.toInt := b39; have t2 : lx8.toInt + 1 ≤ N2.toInt := ob43; have e9 := q_clI (i := N2) rfl (by first | with_reducible exact (q_fe hfk20).2 | with_reducible exact (q_fe hfk20).1 | (have t1 : 0 ≤ N2.toInt ∧ N2.toInt ≤ 20200 := hfk20; omega)); omega)) d_17_10_13 ?_
      obtain ⟨a44, e45⟩ := q_nm (t1_0 lx8.toNatClampNeg : Int32)
      refine q_ti (v := a44) e45 ?_
      refine lv_icmp_ne (tgt := 23) hx hb d_17_10_14 (by decide) (fun c46 => ?_) (fun c46 => ?_)
      ·
        exact J19 (()) _ _ _ ws ⟨V, q_lw hl (q_lw1 0 rfl (q_lw1 1 rfl (q_lw1 2 rfl q_lw0))), (show F_FR_compare_J23 (F_FR_compare_L4 N1 N2 t0_0 t1_0 fm16) N1 N2 t0_0 t1_0 lx8 = (F_FR_compare N1 N2 t0_0 t1_0) from Eq.trans (by have c46x := c46; rw [← e45, ← e42] at c46x; rw [F_FR_compare_L4.eq_2, if_neg c37, if_neg c46x]) hR12), (show True ∧ S_FR_compare_J23 (S_FR_compare_L4 N1 N2 t0_0 t1_0 fm16) N1 N2 t0_0 t1_0 lx8 from (by have h := hS13; rw [S_FR_compare_L4.eq_2] at h; rw [if_neg c37] at h; replace h := q_s2 h; replace h := q_s2 h; have c46x := c46; rw [← e45, ← e42] at c46x; rw [if_neg c46x] at h; with_reducible exact h))⟩
      ·
        obtain ⟨a49, e50⟩ := q_nm (lx8 + (-1) : Int32)
        have b51 : q_F (a49.toInt = lx8.toInt + (-1)) := (by rw [← e50]; exact q_addI (y := (-1)) rfl (by decide) (by have t1 : 0 ≤ lx8.toInt + 1 := i10; have t2 : lx8.toInt ≤ 1403 := i9; omega) (by have t1 : 0 ≤ lx8.toInt + 1 := i10; have t2 : lx8.toInt ≤ 1403 := i9; omega))
        refine lv_iinc (v := a49) (lv' := [(2, .int a49), (0, .ref (q k1)), (1, .ref (q k2))]) hx hb d_17_10_17 hl (k := 0) rfl (e50) (by decide) rfl (fun ls hl => ?_)
        refine lv_goto (tgt := 4) hx hb d_17_10_20 (by decide) ?_
        exact ih11 ((a49 : Int32)) _ _ _ ws (show (a49.toInt - ((-1))).toNat < (lx8.toInt - ((-1))).toNat from by have t1 : a49.toInt = lx8.toInt + (-1) := b51; have t2 : 0 ≤ lx8.toInt + 1 := i10; have t3 : 0 ≤ lx8.toInt := b39; omega) ⟨(show q_F (a49.toInt ≤ 1403) from (show a49.toInt ≤ 1403 from by have t1 : lx8.toInt ≤ 1403 := i9; have t2 : a49.toInt = lx8.toInt + (-1) := b51; omega)), (show q_F (0 ≤ a49.toInt + 1) from (show 0 ≤ a49.toInt + 1 from by have t1 : 0 ≤ lx8.toInt := b39; have t2 : a49.toInt = lx8.toInt + (-1) := b51; omega)), V, q_lw hl (q_lw1 0 rfl (q_lw1 1 rfl (q_lw1 2 rfl q_lw0))), ⟨fm16, Nat.lt_of_lt_of_le (show (a49.toInt - ((-1))).toNat < (lx8.toInt - ((-1))).toNat from by have t1 : a49.toInt = lx8.toInt + (-1) := b51; have t2 : 0 ≤ lx8.toInt + 1 := i10; have t3 : 0 ≤ lx8.toInt := b39; omega) (Nat.le_of_lt_succ hf15), (show F_FR_compare_L4 N1 N2 t0_0 t1_0 fm16 a49 = (F_FR_compare N1 N2 t0_0 t1_0) from Eq.trans (by have c46x := c46; rw [← e45, ← e42] at c46x; rw [← e50, F_FR_compare_L4.eq_2, if_neg c37, if_pos c46x]) hR12), (show True ∧ S_FR_compare_L4 N1 N2 t0_0 t1_0 fm16 a49 from (by rw [← e50]; have h := hS13; rw [S_FR_compare_L4.eq_2] at h; rw [if_neg c37] at h; replace h := q_s2 h; replace h := q_s2 h; have c46x := c46; rw [← e45, ← e42] at c46x; rw [if_pos c46x] at h; with_reducible exact h))⟩⟩
theorem d_17_12_0 : decode prog_17_method_12_code 0 = .ok (.aload_n 0, 1) := by decide +kernel
theorem d_17_12_1 : decode prog_17_method_12_code 1 = .ok (.getfield 48, 3) := by decide +kernel
theorem d_17_12_4 : decode prog_17_method_12_code 4 = .ok (.ldc2_w 71, 3) := by decide +kernel
theorem d_17_12_7 : decode prog_17_method_12_code 7 = .ok (.lrem, 1) := by decide +kernel
theorem d_17_12_8 : decode prog_17_method_12_code 8 = .ok (.lconst 0, 1) := by decide +kernel
theorem d_17_12_9 : decode prog_17_method_12_code 9 = .ok (.lcmp, 1) := by decide +kernel
theorem d_17_12_18 : decode prog_17_method_12_code 18 = .ok (.istore_n 1, 1) := by decide +kernel
theorem d_17_12_19 : decode prog_17_method_12_code 19 = .ok (.aload_n 0, 1) := by decide +kernel
theorem d_17_12_20 : decode prog_17_method_12_code 20 = .ok (.getfield 25, 3) := by decide +kernel
theorem d_17_12_23 : decode prog_17_method_12_code 23 = .ok (.aload_n 0, 1) := by decide +kernel
theorem d_17_12_24 : decode prog_17_method_12_code 24 = .ok (.getfield 19, 3) := by decide +kernel
theorem d_17_12_27 : decode prog_17_method_12_code 27 = .ok (.invokestatic 73, 3) := by decide +kernel
set_option maxRecDepth 100000 in
theorem w_2634 : (Cond.code ({ cls := "NumberHouseModel$FloatRows", name := "compare", desc := "([I[I)I" } : MethodName) prog_17_method_10_code (3 : Nat) (some .int)) ∈ q_tbl := q_of11 234 rfl (by decide +kernel)
set_option maxRecDepth 100000 in
theorem w_2632 : (Cond.methodLink "NumberHouseModel$FloatRows" (73 : Nat) ({ cls := "NumberHouseModel$FloatRows", name := "compare", desc := "([I[I)I" } : MethodName)) ∈ q_tbl := q_of11 232 rfl (by decide +kernel)
set_option maxRecDepth 100000 in
theorem w_2633 : (Cond.static ({ cls := "NumberHouseModel$FloatRows", name := "compare", desc := "([I[I)I" } : MethodName)) ∈ q_tbl := q_of11 233 rfl (by decide +kernel)
theorem LS_FR_73 : q_LS "NumberHouseModel$FloatRows" 73 y_FR_compare prog_17_method_10_code 3 (some .int) 2 := ⟨w_2634, w_17, w_2632, w_2633, ⟨by decide, by decide, by decide +kernel⟩⟩
theorem d_17_12_30 : decode prog_17_method_12_code 30 = .ok (.istore_n 2, 1) := by decide +kernel
theorem d_17_12_31 : decode prog_17_method_12_code 31 = .ok (.aload_n 0, 1) := by decide +kernel
theorem d_17_12_32 : decode prog_17_method_12_code 32 = .ok (.getfield 25, 3) := by decide +kernel
theorem d_17_12_35 : decode prog_17_method_12_code 35 = .ok (.aload_n 0, 1) := by decide +kernel
theorem d_17_12_36 : decode prog_17_method_12_code 36 = .ok (.getfield 22, 3) := by decide +kernel
theorem d_17_12_39 : decode prog_17_method_12_code 39 = .ok (.invokestatic 73, 3) := by decide +kernel
theorem d_17_12_42 : decode prog_17_method_12_code 42 = .ok (.istore_n 3, 1) := by decide +kernel
theorem d_17_12_43 : decode prog_17_method_12_code 43 = .ok (.iload_n 2, 1) := by decide +kernel
theorem d_17_12_55 : decode prog_17_method_12_code 55 = .ok (.iload_n 3, 1) := by decide +kernel
theorem d_17_12_56 : decode prog_17_method_12_code 56 = .ok (.ifCond .lt 11, 3) := by decide +kernel
theorem d_17_12_67 : decode prog_17_method_12_code 67 = .ok (.iconst 1, 1) := by decide +kernel
theorem d_17_12_68 : decode prog_17_method_12_code 68 = .ok (.goto 4, 3) := by decide +kernel
theorem d_17_12_72 : decode prog_17_method_12_code 72 = .ok (.ireturn, 1) := by decide +kernel
theorem d_17_12_59 : decode prog_17_method_12_code 59 = .ok (.iload_n 3, 1) := by decide +kernel
theorem d_17_12_60 : decode prog_17_method_12_code 60 = .ok (.ifCond .ne 11, 3) := by decide +kernel
theorem d_17_12_71 : decode prog_17_method_12_code 71 = .ok (.iconst 0, 1) := by decide +kernel
theorem d_17_12_63 : decode prog_17_method_12_code 63 = .ok (.iload_n 1, 1) := by decide +kernel
theorem d_17_12_64 : decode prog_17_method_12_code 64 = .ok (.ifCond .eq 7, 3) := by decide +kernel
theorem d_17_12_44 : decode prog_17_method_12_code 44 = .ok (.ifCond .gt 11, 3) := by decide +kernel
theorem d_17_12_47 : decode prog_17_method_12_code 47 = .ok (.iload_n 2, 1) := by decide +kernel
theorem d_17_12_48 : decode prog_17_method_12_code 48 = .ok (.ifCond .ne 23, 3) := by decide +kernel
theorem d_17_12_51 : decode prog_17_method_12_code 51 = .ok (.iload_n 1, 1) := by decide +kernel
theorem d_17_12_52 : decode prog_17_method_12_code 52 = .ok (.ifCond .eq 19, 3) := by decide +kernel
theorem d_17_12_10 : decode prog_17_method_12_code 10 = .ok (.ifCond .ne 7, 3) := by decide +kernel
theorem d_17_12_17 : decode prog_17_method_12_code 17 = .ok (.iconst 0, 1) := by decide +kernel
theorem d_17_12_13 : decode prog_17_method_12_code 13 = .ok (.iconst 1, 1) := by decide +kernel
theorem d_17_12_14 : decode prog_17_method_12_code 14 = .ok (.goto 4, 3) := by decide +kernel
def y_FR_readsBack : MethodName := ⟨"NumberHouseModel$FloatRows", "readsBack", "()Z"⟩
def F_FR_readsBack_J55 (t0_0 : Int32) (t0_1 : Int32) (t0_2 : Int32) (t0_3 : Int32) (t0_4 : Int64) (t0_5 : Int32) (t0_6 : Int32) (t0_7 : Int64) (t0_8 : Int32) (t0_9 : Int64) (t0_10 : Int32) (t1_0 : (Nat → Int32)) (t2_0 : (Nat → Int32)) (t3_0 : (Nat → Int32)) (lx28 : Int32) (a54 : Int32) : Int32 := if a54 < (0 : Int32) then ((1 : Int32)) else (if a54 = (0 : Int32) then (if lx28 = (0 : Int32) then ((0 : Int32)) else ((1 : Int32))) else ((0 : Int32)))
def F_FR_readsBack_J18 (t0_0 : Int32) (t0_1 : Int32) (t0_2 : Int32) (t0_3 : Int32) (t0_4 : Int64) (t0_5 : Int32) (t0_6 : Int32) (t0_7 : Int64) (t0_8 : Int32) (t0_9 : Int64) (t0_10 : Int32) (t1_0 : (Nat → Int32)) (t2_0 : (Nat → Int32)) (t3_0 : (Nat → Int32)) (lx28 : Int32) : Int32 := if (0 : Int32) < ((F_FR_compare (1404 : Int32) (1404 : Int32) t3_0 t1_0) : Int32) then (F_FR_readsBack_J55 t0_0 t0_1 t0_2 t0_3 t0_4 t0_5 t0_6 t0_7 t0_8 t0_9 t0_10 t1_0 t2_0 t3_0 lx28 ((F_FR_compare (1404 : Int32) (1404 : Int32) t3_0 t2_0) : Int32)) else (if ((F_FR_compare (1404 : Int32) (1404 : Int32) t3_0 t1_0) : Int32) = (0 : Int32) then (if lx28 = (0 : Int32) then ((0 : Int32)) else (F_FR_readsBack_J55 t0_0 t0_1 t0_2 t0_3 t0_4 t0_5 t0_6 t0_7 t0_8 t0_9 t0_10 t1_0 t2_0 t3_0 lx28 ((F_FR_compare (1404 : Int32) (1404 : Int32) t3_0 t2_0) : Int32))) else ((0 : Int32)))
def F_FR_readsBack (t0_0 : Int32) (t0_1 : Int32) (t0_2 : Int32) (t0_3 : Int32) (t0_4 : Int64) (t0_5 : Int32) (t0_6 : Int32) (t0_7 : Int64) (t0_8 : Int32) (t0_9 : Int64) (t0_10 : Int32) (t1_0 : (Nat → Int32)) (t2_0 : (Nat → Int32)) (t3_0 : (Nat → Int32)) : Int32 := if (lg_cmp (t0_4 - t0_4 / 2 * 2 : Int64) 0 : Int32) = (0 : Int32) then (F_FR_readsBack_J18 t0_0 t0_1 t0_2 t0_3 t0_4 t0_5 t0_6 t0_7 t0_8 t0_9 t0_10 t1_0 t2_0 t3_0 1) else (F_FR_readsBack_J18 t0_0 t0_1 t0_2 t0_3 t0_4 t0_5 t0_6 t0_7 t0_8 t0_9 t0_10 t1_0 t2_0 t3_0 0)
def S_FR_readsBack_J55 (t0_0 : Int32) (t0_1 : Int32) (t0_2 : Int32) (t0_3 : Int32) (t0_4 : Int64) (t0_5 : Int32) (t0_6 : Int32) (t0_7 : Int64) (t0_8 : Int32) (t0_9 : Int64) (t0_10 : Int32) (t1_0 : (Nat → Int32)) (t2_0 : (Nat → Int32)) (t3_0 : (Nat → Int32)) (lx28 : Int32) (a54 : Int32) : Prop := if a54 < (0 : Int32) then (True) else (if a54 = (0 : Int32) then (if lx28 = (0 : Int32) then (True) else (True)) else (True))
def S_FR_readsBack_J18 (t0_0 : Int32) (t0_1 : Int32) (t0_2 : Int32) (t0_3 : Int32) (t0_4 : Int64) (t0_5 : Int32) (t0_6 : Int32) (t0_7 : Int64) (t0_8 : Int32) (t0_9 : Int64) (t0_10 : Int32) (t1_0 : (Nat → Int32)) (t2_0 : (Nat → Int32)) (t3_0 : (Nat → Int32)) (lx28 : Int32) : Prop := (True ∧ S_FR_compare (1404 : Int32) (1404 : Int32) t3_0 t1_0) ∧ ((True ∧ S_FR_compare (1404 : Int32) (1404 : Int32) t3_0 t2_0) ∧ (if (0 : Int32) < ((F_FR_compare (1404 : Int32) (1404 : Int32) t3_0 t1_0) : Int32) then (S_FR_readsBack_J55 t0_0 t0_1 t0_2 t0_3 t0_4 t0_5 t0_6 t0_7 t0_8 t0_9 t0_10 t1_0 t2_0 t3_0 lx28 ((F_FR_compare (1404 : Int32) (1404 : Int32) t3_0 t2_0) : Int32)) else (if ((F_FR_compare (1404 : Int32) (1404 : Int32) t3_0 t1_0) : Int32) = (0 : Int32) then (if lx28 = (0 : Int32) then (True) else (S_FR_readsBack_J55 t0_0 t0_1 t0_2 t0_3 t0_4 t0_5 t0_6 t0_7 t0_8 t0_9 t0_10 t1_0 t2_0 t3_0 lx28 ((F_FR_compare (1404 : Int32) (1404 : Int32) t3_0 t2_0) : Int32))) else (True))))
def S_FR_readsBack (t0_0 : Int32) (t0_1 : Int32) (t0_2 : Int32) (t0_3 : Int32) (t0_4 : Int64) (t0_5 : Int32) (t0_6 : Int32) (t0_7 : Int64) (t0_8 : Int32) (t0_9 : Int64) (t0_10 : Int32) (t1_0 : (Nat → Int32)) (t2_0 : (Nat → Int32)) (t3_0 : (Nat → Int32)) : Prop := if (lg_cmp (t0_4 - t0_4 / 2 * 2 : Int64) 0 : Int32) = (0 : Int32) then (S_FR_readsBack_J18 t0_0 t0_1 t0_2 t0_3 t0_4 t0_5 t0_6 t0_7 t0_8 t0_9 t0_10 t1_0 t2_0 t3_0 1) else (S_FR_readsBack_J18 t0_0 t0_1 t0_2 t0_3 t0_4 t0_5 t0_6 t0_7 t0_8 t0_9 t0_10 t1_0 t2_0 t3_0 0)
set_option maxRecDepth 100000 in
set_option maxHeartbeats 4000000 in
theorem X_FR_readsBack (l : Launch) (D : va_G) (g : Nat → ClassId) (q : Nat → Nat) (ws : va_W) (hI : q_I (msh g q) q ws) (t0_0 : Int32) (t0_1 : Int32) (t0_2 : Int32) (t0_3 : Int32) (t0_4 : Int64) (t0_5 : Int32) (t0_6 : Int32) (t0_7 : Int64) (t0_8 : Int32) (t0_9 : Int64) (t0_10 : Int32) (hT0 : ws[145]? = (some (q 145, .inr (15, [.int t0_0, .ref (q 146), .ref (q 147), .ref (q 148), .ref (q 149), .ref (q 150), .ref (q 151), .ref (q 152), .int t0_1, .int t0_2, .int t0_3, .long t0_4, .int t0_5, .int t0_6, .long t0_7, .int t0_8, .long t0_9, .int t0_10])) : Option (Nat × va_E))) (t1_0 : (Nat → Int32)) (hT1 : ws[149]? = (some (q 149, .inl (g 0, (1404 : Int32).toNatClampNeg, .inl t1_0)) : Option (Nat × va_E))) (t2_0 : (Nat → Int32)) (hT2 : ws[150]? = (some (q 150, .inl (g 0, (1404 : Int32).toNatClampNeg, .inl t2_0)) : Option (Nat × va_E))) (t3_0 : (Nat → Int32)) (hT3 : ws[151]? = (some (q 151, .inl (g 0, (1404 : Int32).toNatClampNeg, .inl t3_0)) : Option (Nat × va_E))) (hS : True ∧ S_FR_readsBack t0_0 t0_1 t0_2 t0_3 t0_4 t0_5 t0_6 t0_7 t0_8 t0_9 t0_10 t1_0 t2_0 t3_0) : q_mI l y_FR_readsBack prog_17_method_12_code 4 (.boolean) 2 0 0 D g [.ref (q 145)] ws (fun r u => ws = u ∧ (0 ≤ r.toInt) ∧ (r.toInt ≤ 1) ∧ r = (F_FR_readsBack t0_0 t0_1 t0_2 t0_3 t0_4 t0_5 t0_6 t0_7 t0_8 t0_9 t0_10 t1_0 t2_0 t3_0)) := by
  intro sz
  refine q_into (by decide) (Nat.le_of_ble_eq_true rfl) ?_
  intro p e s m below meth c ls hsz C0 V hl
  have hx := C0.1
  have hb := C0.2.1
  have btt0_2 := n_w145 hI hT0
  clear btt0_2
  have hl : lv_has ls 4 [(0, .ref (q 145))] := hl
  refine lv_aload_n hx hb d_17_12_0 rfl (lv_at hl 0 rfl) ?_
  refine q_get (ci := 15) (j := 11) (v := .long t0_4) C0 V i_FR rfl rfl hT0 (by decide) w_2087 rfl d_17_12_1 ?_
  refine q_ldc2 C0 rfl w_2615 d_17_12_4 ?_
  refine lv_lrem hx hb d_17_12_7 (by decide) ?_
  obtain ⟨j23, e24⟩ := q_nm (t0_4 - t0_4 / 2 * 2 : Int64)
  refine q_tl (v := j23) e24 ?_
  refine lv_lconst (v := 0) hx hb d_17_12_8 (by decide) ?_
  refine W.lcmp hx hb d_17_12_9 ?_
  obtain ⟨a25, e26⟩ := q_nm (lg_cmp j23 0 : Int32)
  refine q_ti (v := a25) e26 ?_
  refine q_join (X := Int32) (fun z H locs ls _ => q_F (0 ≤ z.toInt) ∧ q_F (z.toInt ≤ 1) ∧ q_Wd D g (va_A ws sz) s ws H locs ∧ lv_has ls 4 [(0, .ref (q 145))] ∧ F_FR_readsBack_J18 t0_0 t0_1 t0_2 t0_3 t0_4 t0_5 t0_6 t0_7 t0_8 t0_9 t0_10 t1_0 t2_0 t3_0 z = (F_FR_readsBack t0_0 t0_1 t0_2 t0_3 t0_4 t0_5 t0_6 t0_7 t0_8 t0_9 t0_10 t1_0 t2_0 t3_0) ∧ True ∧ S_FR_readsBack_J18 t0_0 t0_1 t0_2 t0_3 t0_4 t0_5 t0_6 t0_7 t0_8 t0_9 t0_10 t1_0 t2_0 t3_0 z) (fun z => [.int z]) 18 0 0 ?_ ?_
  ·
    rintro lx28 H locs ls _ hZ9
    replace hZ9 := hZ9.2.2
    obtain ⟨V, hZ9⟩ := hZ9
    obtain ⟨hl, hZ9⟩ := hZ9
    obtain ⟨hR36, hS37⟩ := hZ9
    replace hl : lv_has ls 4 [(0, .ref (q 145))] := hl
    refine lv_istore_n (lv' := [(1, .int lx28), (0, .ref (q 145))]) hx hb d_17_12_18 rfl hl (by decide) rfl (fun ls hl => ?_)
    refine lv_aload_n hx hb d_17_12_19 rfl (lv_at hl 1 rfl) ?_
    refine q_get (ci := 15) (j := 6) (v := .ref (q 151)) C0 V i_FR rfl rfl hT0 (by decide) w_2081 rfl d_17_12_20 ?_
    refine lv_aload_n hx hb d_17_12_23 rfl (lv_at hl 1 rfl) ?_
    refine q_get (ci := 15) (j := 4) (v := .ref (q 149)) C0 V i_FR rfl rfl hT0 (by decide) w_2079 rfl d_17_12_24 ?_
    have ob41 : True ∧ S_FR_compare (1404 : Int32) (1404 : Int32) t3_0 t1_0 := (by have h := hS37; rw [S_FR_readsBack_J18.eq_1] at h; with_reducible exact h.2.1)
    refine q_goi V (q_runS (As := [.ref (q 151), .ref (q 149)]) (rest := []) (d := 1) (mc := 0) (ms := 0) C0 V rfl LS_FR_73 (X_FR_compare l D g q ws 151 1404 (n_r151 g q) 149 1404 (n_r149 g q)  (by decide) hI t3_0 hT3 t1_0 hT1 ob41 _) rfl hl.1 rfl (Nat.le_of_ble_eq_true rfl) ⟨by decide, by decide⟩ ⟨Nat.le_of_ble_eq_true rfl, Nat.le_of_ble_eq_true rfl⟩ d_17_12_27) (fun a44 u42 H locs hp43 V => ?_)
    obtain ⟨rfl, hZ9⟩ := hp43
    replace hZ9 := hZ9.2.2.2
    obtain ⟨-, hE49⟩ := hZ9
    have e50 : a44 = (F_FR_compare (1404 : Int32) (1404 : Int32) t3_0 t1_0) := hE49
    refine lv_istore_n (lv' := [(2, .int a44), (1, .int lx28), (0, .ref (q 145))]) hx hb d_17_12_30 rfl hl (by decide) rfl (fun ls hl => ?_)
    refine lv_aload_n hx hb d_17_12_31 rfl (lv_at hl 2 rfl) ?_
    refine q_get (ci := 15) (j := 6) (v := .ref (q 151)) C0 V i_FR rfl rfl hT0 (by decide) w_2081 rfl d_17_12_32 ?_
    refine lv_aload_n hx hb d_17_12_35 rfl (lv_at hl 2 rfl) ?_
    refine q_get (ci := 15) (j := 5) (v := .ref (q 150)) C0 V i_FR rfl rfl hT0 (by decide) w_2080 rfl d_17_12_36 ?_
    have ob51 : True ∧ S_FR_compare (1404 : Int32) (1404 : Int32) t3_0 t2_0 := (by have h := hS37; rw [S_FR_readsBack_J18.eq_1] at h; replace h := q_s2 h; with_reducible exact h.2.1)
    refine q_goi V (q_runS (As := [.ref (q 151), .ref (q 150)]) (rest := []) (d := 1) (mc := 0) (ms := 0) C0 V rfl LS_FR_73 (X_FR_compare l D g q ws 151 1404 (n_r151 g q) 150 1404 (n_r150 g q)  (by decide) hI t3_0 hT3 t2_0 hT2 ob51 _) rfl hl.1 rfl (Nat.le_of_ble_eq_true rfl) ⟨by decide, by decide⟩ ⟨Nat.le_of_ble_eq_true rfl, Nat.le_of_ble_eq_true rfl⟩ d_17_12_39) (fun a54 u52 H locs hp53 V => ?_)
    obtain ⟨rfl, hZ9⟩ := hp53
    replace hZ9 := hZ9.2.2.2
    obtain ⟨-, hE59⟩ := hZ9
    have e60 : a54 = (F_FR_compare (1404 : Int32) (1404 : Int32) t3_0 t2_0) := hE59
    refine lv_istore_n (lv' := [(3, .int a54), (2, .int a44), (1, .int lx28), (0, .ref (q 145))]) hx hb d_17_12_42 rfl hl (by decide) rfl (fun ls hl => ?_)
    refine lv_iload_n hx hb d_17_12_43 rfl (lv_at hl 1 rfl) ?_
    refine q_join (X := Unit) (fun z H locs ls _ => q_Wd D g (va_A ws sz) s ws H locs ∧ lv_has ls 4 [(3, .int a54), (1, .int lx28)] ∧ F_FR_readsBack_J55 t0_0 t0_1 t0_2 t0_3 t0_4 t0_5 t0_6 t0_7 t0_8 t0_9 t0_10 t1_0 t2_0 t3_0 lx28 a54 = (F_FR_readsBack t0_0 t0_1 t0_2 t0_3 t0_4 t0_5 t0_6 t0_7 t0_8 t0_9 t0_10 t1_0 t2_0 t3_0) ∧ True ∧ S_FR_readsBack_J55 t0_0 t0_1 t0_2 t0_3 t0_4 t0_5 t0_6 t0_7 t0_8 t0_9 t0_10 t1_0 t2_0 t3_0 lx28 a54) (fun z => []) 55 0 0 ?_ ?_
    ·
      rintro _ H locs ls _ ⟨V, hl, hR66, hS67⟩
      replace hl : lv_has ls 4 [(3, .int a54), (1, .int lx28)] := hl
      refine lv_iload_n hx hb d_17_12_55 rfl (lv_at hl 0 rfl) ?_
      refine lv_if_lt (tgt := 67) hx hb d_17_12_56 (by decide) (fun c71 => ?_) (fun c71 => ?_)
      ·
        refine lv_iconst (v := 1) hx hb d_17_12_67 (by decide) ?_
        refine lv_goto (tgt := 72) hx hb d_17_12_68 (by decide) ?_
        exact q_retz C0 V (by decide) (⟨rfl, (show 0 ≤ (1 : Int32).toInt from (by have z14 : (1 : Int32).toInt = 1 := rfl; omega)), (show (1 : Int32).toInt ≤ 1 from (by have z14 : (1 : Int32).toInt = 1 := rfl; omega)), (show (1 : Int32) = (F_FR_readsBack t0_0 t0_1 t0_2 t0_3 t0_4 t0_5 t0_6 t0_7 t0_8 t0_9 t0_10 t1_0 t2_0 t3_0) from Eq.trans (by rw [F_FR_readsBack_J55.eq_1, if_pos c71]) hR66)⟩) d_17_12_72
      ·
        refine lv_iload_n hx hb d_17_12_59 rfl (lv_at hl 0 rfl) ?_
        refine lv_if_ne (tgt := 71) hx hb d_17_12_60 (by decide) (fun c74 => ?_) (fun c74 => ?_)
        ·
          refine lv_iconst (v := 0) hx hb d_17_12_71 (by decide) ?_
          exact q_retz C0 V (by decide) (⟨rfl, (show 0 ≤ (0 : Int32).toInt from (by have z14 : (0 : Int32).toInt = 0 := rfl; omega)), (show (0 : Int32).toInt ≤ 1 from (by have z14 : (0 : Int32).toInt = 0 := rfl; omega)), (show (0 : Int32) = (F_FR_readsBack t0_0 t0_1 t0_2 t0_3 t0_4 t0_5 t0_6 t0_7 t0_8 t0_9 t0_10 t1_0 t2_0 t3_0) from Eq.trans (by rw [F_FR_readsBack_J55.eq_1, if_neg c71, if_neg c74]) hR66)⟩) d_17_12_72
        ·
          refine lv_iload_n hx hb d_17_12_63 rfl (lv_at hl 1 rfl) ?_
          refine lv_if_eq (tgt := 71) hx hb d_17_12_64 (by decide) (fun c77 => ?_) (fun c77 => ?_)
          ·
            refine lv_iconst (v := 0) hx hb d_17_12_71 (by decide) ?_
            exact q_retz C0 V (by decide) (⟨rfl, (show 0 ≤ (0 : Int32).toInt from (by have z14 : (0 : Int32).toInt = 0 := rfl; omega)), (show (0 : Int32).toInt ≤ 1 from (by have z14 : (0 : Int32).toInt = 0 := rfl; omega)), (show (0 : Int32) = (F_FR_readsBack t0_0 t0_1 t0_2 t0_3 t0_4 t0_5 t0_6 t0_7 t0_8 t0_9 t0_10 t1_0 t2_0 t3_0) from Eq.trans (by rw [F_FR_readsBack_J55.eq_1, if_neg c71, if_pos c74, if_pos c77]) hR66)⟩) d_17_12_72
          ·
            refine lv_iconst (v := 1) hx hb d_17_12_67 (by decide) ?_
            refine lv_goto (tgt := 72) hx hb d_17_12_68 (by decide) ?_
            exact q_retz C0 V (by decide) (⟨rfl, (show 0 ≤ (1 : Int32).toInt from (by have z14 : (1 : Int32).toInt = 1 := rfl; omega)), (show (1 : Int32).toInt ≤ 1 from (by have z14 : (1 : Int32).toInt = 1 := rfl; omega)), (show (1 : Int32) = (F_FR_readsBack t0_0 t0_1 t0_2 t0_3 t0_4 t0_5 t0_6 t0_7 t0_8 t0_9 t0_10 t1_0 t2_0 t3_0) from Eq.trans (by rw [F_FR_readsBack_J55.eq_1, if_neg c71, if_pos c74, if_neg c77]) hR66)⟩) d_17_12_72
    ·
      intro J65
      refine lv_if_gt (tgt := 55) hx hb d_17_12_44 (by decide) (fun c80 => ?_) (fun c80 => ?_)
      ·
        exact J65 (()) _ _ _ ws ⟨V, q_lw hl (q_lw1 0 rfl (q_lw1 2 rfl q_lw0)), (show F_FR_readsBack_J55 t0_0 t0_1 t0_2 t0_3 t0_4 t0_5 t0_6 t0_7 t0_8 t0_9 t0_10 t1_0 t2_0 t3_0 lx28 a54 = (F_FR_readsBack t0_0 t0_1 t0_2 t0_3 t0_4 t0_5 t0_6 t0_7 t0_8 t0_9 t0_10 t1_0 t2_0 t3_0) from Eq.trans (by have c80x := c80; rw [e50] at c80x; rw [e60, F_FR_readsBack_J18.eq_1, if_pos c80x]) hR36), (show True ∧ S_FR_readsBack_J55 t0_0 t0_1 t0_2 t0_3 t0_4 t0_5 t0_6 t0_7 t0_8 t0_9 t0_10 t1_0 t2_0 t3_0 lx28 a54 from (by rw [e60]; have h := hS37; rw [S_FR_readsBack_J18.eq_1] at h; replace h := q_s2 h; replace h := q_s2 h; have c80x := c80; rw [e50] at c80x; rw [if_pos c80x] at h; with_reducible exact h))⟩
      ·
        refine lv_iload_n hx hb d_17_12_47 rfl (lv_at hl 1 rfl) ?_
        refine lv_if_ne (tgt := 71) hx hb d_17_12_48 (by decide) (fun c83 => ?_) (fun c83 => ?_)
        ·
          refine lv_iconst (v := 0) hx hb d_17_12_71 (by decide) ?_
          exact q_retz C0 V (by decide) (⟨rfl, (show 0 ≤ (0 : Int32).toInt from (by have z14 : (0 : Int32).toInt = 0 := rfl; omega)), (show (0 : Int32).toInt ≤ 1 from (by have z14 : (0 : Int32).toInt = 0 := rfl; omega)), (show (0 : Int32) = (F_FR_readsBack t0_0 t0_1 t0_2 t0_3 t0_4 t0_5 t0_6 t0_7 t0_8 t0_9 t0_10 t1_0 t2_0 t3_0) from Eq.trans (by have c80x := c80; rw [e50] at c80x; have c83x := c83; rw [e50] at c83x; rw [F_FR_readsBack_J18.eq_1, if_neg c80x, if_neg c83x]) hR36)⟩) d_17_12_72
        ·
          refine lv_iload_n hx hb d_17_12_51 rfl (lv_at hl 2 rfl) ?_
          refine lv_if_eq (tgt := 71) hx hb d_17_12_52 (by decide) (fun c86 => ?_) (fun c86 => ?_)
          ·
            refine lv_iconst (v := 0) hx hb d_17_12_71 (by decide) ?_
            exact q_retz C0 V (by decide) (⟨rfl, (show 0 ≤ (0 : Int32).toInt from (by have z14 : (0 : Int32).toInt = 0 := rfl; omega)), (show (0 : Int32).toInt ≤ 1 from (by have z14 : (0 : Int32).toInt = 0 := rfl; omega)), (show (0 : Int32) = (F_FR_readsBack t0_0 t0_1 t0_2 t0_3 t0_4 t0_5 t0_6 t0_7 t0_8 t0_9 t0_10 t1_0 t2_0 t3_0) from Eq.trans (by have c80x := c80; rw [e50] at c80x; have c83x := c83; rw [e50] at c83x; rw [F_FR_readsBack_J18.eq_1, if_neg c80x, if_pos c83x, if_pos c86]) hR36)⟩) d_17_12_72
          ·
            exact J65 (()) _ _ _ ws ⟨V, q_lw hl (q_lw1 0 rfl (q_lw1 2 rfl q_lw0)), (show F_FR_readsBack_J55 t0_0 t0_1 t0_2 t0_3 t0_4 t0_5 t0_6 t0_7 t0_8 t0_9 t0_10 t1_0 t2_0 t3_0 lx28 a54 = (F_FR_readsBack t0_0 t0_1 t0_2 t0_3 t0_4 t0_5 t0_6 t0_7 t0_8 t0_9 t0_10 t1_0 t2_0 t3_0) from Eq.trans (by have c80x := c80; rw [e50] at c80x; have c83x := c83; rw [e50] at c83x; rw [e60, F_FR_readsBack_J18.eq_1, if_neg c80x, if_pos c83x, if_neg c86]) hR36), (show True ∧ S_FR_readsBack_J55 t0_0 t0_1 t0_2 t0_3 t0_4 t0_5 t0_6 t0_7 t0_8 t0_9 t0_10 t1_0 t2_0 t3_0 lx28 a54 from (by rw [e60]; have h := hS37; rw [S_FR_readsBack_J18.eq_1] at h; replace h := q_s2 h; replace h := q_s2 h; have c80x := c80; rw [e50] at c80x; rw [if_neg c80x] at h; have c83x := c83; rw [e50] at c83x; rw [if_pos c83x] at h; rw [if_neg c86] at h; with_reducible exact h))⟩
  ·
    intro J33
    refine lv_if_ne (tgt := 17) hx hb d_17_12_10 (by decide) (fun c89 => ?_) (fun c89 => ?_)
    ·
      refine lv_iconst (v := 0) hx hb d_17_12_17 (by decide) ?_
      exact J33 ((0 : Int32)) _ _ _ ws ⟨(show q_F (0 ≤ 0) from (show 0 ≤ 0 from by omega)), (show q_F (0 ≤ 1) from (show 0 ≤ 1 from by omega)), V, q_lw hl (q_lw1 0 rfl q_lw0), (show F_FR_readsBack_J18 t0_0 t0_1 t0_2 t0_3 t0_4 t0_5 t0_6 t0_7 t0_8 t0_9 t0_10 t1_0 t2_0 t3_0 0 = (F_FR_readsBack t0_0 t0_1 t0_2 t0_3 t0_4 t0_5 t0_6 t0_7 t0_8 t0_9 t0_10 t1_0 t2_0 t3_0) from (by have c89x := c89; rw [← e26, ← e24] at c89x; rw [F_FR_readsBack.eq_1, if_neg c89x])), (show True ∧ S_FR_readsBack_J18 t0_0 t0_1 t0_2 t0_3 t0_4 t0_5 t0_6 t0_7 t0_8 t0_9 t0_10 t1_0 t2_0 t3_0 0 from (by have h := hS; rw [S_FR_readsBack.eq_1] at h; have c89x := c89; rw [← e26, ← e24] at c89x; rw [if_neg c89x] at h; with_reducible exact h))⟩
    ·
      refine lv_iconst (v := 1) hx hb d_17_12_13 (by decide) ?_
      refine lv_goto (tgt := 18) hx hb d_17_12_14 (by decide) ?_
      exact J33 ((1 : Int32)) _ _ _ ws ⟨(show q_F (0 ≤ 1) from (show 0 ≤ 1 from by omega)), (show q_F (1 ≤ 1) from (show 1 ≤ 1 from by omega)), V, q_lw hl (q_lw1 0 rfl q_lw0), (show F_FR_readsBack_J18 t0_0 t0_1 t0_2 t0_3 t0_4 t0_5 t0_6 t0_7 t0_8 t0_9 t0_10 t1_0 t2_0 t3_0 1 = (F_FR_readsBack t0_0 t0_1 t0_2 t0_3 t0_4 t0_5 t0_6 t0_7 t0_8 t0_9 t0_10 t1_0 t2_0 t3_0) from (by have c89x := c89; rw [← e26, ← e24] at c89x; rw [F_FR_readsBack.eq_1, if_pos c89x])), (show True ∧ S_FR_readsBack_J18 t0_0 t0_1 t0_2 t0_3 t0_4 t0_5 t0_6 t0_7 t0_8 t0_9 t0_10 t1_0 t2_0 t3_0 1 from (by have h := hS; rw [S_FR_readsBack.eq_1] at h; have c89x := c89; rw [← e26, ← e24] at c89x; rw [if_pos c89x] at h; with_reducible exact h))⟩
theorem d_17_14_0 : decode prog_17_method_14_code 0 = .ok (.aload_n 0, 1) := by decide +kernel
theorem d_17_14_1 : decode prog_17_method_14_code 1 = .ok (.invokevirtual 77, 3) := by decide +kernel
set_option maxRecDepth 100000 in
theorem w_2623 : (Cond.code ({ cls := "NumberHouseModel$FloatRows", name := "top", desc := "()I" } : MethodName) prog_17_method_9_code (2 : Nat) (some .int)) ∈ q_tbl := q_of11 223 rfl (by decide +kernel)
set_option maxRecDepth 100000 in
theorem w_2620 : (Cond.methodLink "NumberHouseModel$FloatRows" (77 : Nat) ({ cls := "NumberHouseModel$FloatRows", name := "top", desc := "()I" } : MethodName)) ∈ q_tbl := q_of11 220 rfl (by decide +kernel)
set_option maxRecDepth 100000 in
theorem w_2622 : (Cond.instanceMethod ({ cls := "NumberHouseModel$FloatRows", name := "top", desc := "()I" } : MethodName)) ∈ q_tbl := q_of11 222 rfl (by decide +kernel)
theorem ws_96 : Cond.selects "NumberHouseModel$FloatRows" (⟨"NumberHouseModel$FloatRows", "top", "()I"⟩ : MethodName) (⟨"NumberHouseModel$FloatRows", "top", "()I"⟩ : MethodName) ∈ q_tbl := q_ofs 96 (by decide +kernel) (by decide +kernel)
theorem LV_FR_77 : q_LV "NumberHouseModel$FloatRows" 77 y_FR_top prog_17_method_9_code 2 (some .int) 0 := ⟨w_2623, w_17, w_2620, w_2622, ws_96, ⟨by decide, by decide, by decide +kernel⟩⟩
theorem d_17_14_4 : decode prog_17_method_14_code 4 = .ok (.istore_n 1, 1) := by decide +kernel
theorem d_17_14_5 : decode prog_17_method_14_code 5 = .ok (.iconst 1, 1) := by decide +kernel
theorem d_17_14_6 : decode prog_17_method_14_code 6 = .ok (.istore_n 2, 1) := by decide +kernel
theorem d_17_14_7 : decode prog_17_method_14_code 7 = .ok (.iload_n 2, 1) := by decide +kernel
theorem d_17_14_8 : decode prog_17_method_14_code 8 = .ok (.bipush 17, 2) := by decide +kernel
theorem d_17_14_10 : decode prog_17_method_14_code 10 = .ok (.if_icmp .ge 47, 3) := by decide +kernel
theorem d_17_14_57 : decode prog_17_method_14_code 57 = .ok (.bipush 17, 2) := by decide +kernel
theorem d_17_14_59 : decode prog_17_method_14_code 59 = .ok (.ireturn, 1) := by decide +kernel
theorem d_17_14_13 : decode prog_17_method_14_code 13 = .ok (.aload_n 0, 1) := by decide +kernel
theorem d_17_14_14 : decode prog_17_method_14_code 14 = .ok (.iload_n 1, 1) := by decide +kernel
theorem d_17_14_15 : decode prog_17_method_14_code 15 = .ok (.iload_n 2, 1) := by decide +kernel
theorem d_17_14_16 : decode prog_17_method_14_code 16 = .ok (.isub, 1) := by decide +kernel
theorem d_17_14_17 : decode prog_17_method_14_code 17 = .ok (.iconst 1, 1) := by decide +kernel
theorem d_17_14_18 : decode prog_17_method_14_code 18 = .ok (.iadd, 1) := by decide +kernel
theorem d_17_14_19 : decode prog_17_method_14_code 19 = .ok (.iconst 0, 1) := by decide +kernel
theorem d_17_14_20 : decode prog_17_method_14_code 20 = .ok (.invokevirtual 81, 3) := by decide +kernel
set_option maxRecDepth 100000 in
theorem w_2627 : (Cond.code ({ cls := "NumberHouseModel$FloatRows", name := "cut", desc := "(IZ)V" } : MethodName) prog_17_method_11_code (5 : Nat) (none : Option ClassFile.FieldType)) ∈ q_tbl := q_of11 227 rfl (by decide +kernel)
set_option maxRecDepth 100000 in
theorem w_2624 : (Cond.methodLink "NumberHouseModel$FloatRows" (81 : Nat) ({ cls := "NumberHouseModel$FloatRows", name := "cut", desc := "(IZ)V" } : MethodName)) ∈ q_tbl := q_of11 224 rfl (by decide +kernel)
set_option maxRecDepth 100000 in
theorem w_2626 : (Cond.instanceMethod ({ cls := "NumberHouseModel$FloatRows", name := "cut", desc := "(IZ)V" } : MethodName)) ∈ q_tbl := q_of11 226 rfl (by decide +kernel)
theorem ws_97 : Cond.selects "NumberHouseModel$FloatRows" (⟨"NumberHouseModel$FloatRows", "cut", "(IZ)V"⟩ : MethodName) (⟨"NumberHouseModel$FloatRows", "cut", "(IZ)V"⟩ : MethodName) ∈ q_tbl := q_ofs 97 (by decide +kernel) (by decide +kernel)
theorem LV_FR_81 : q_LV "NumberHouseModel$FloatRows" 81 y_FR_cut prog_17_method_11_code 5 none 2 := ⟨w_2627, w_17, w_2624, w_2626, ws_97, ⟨by decide, by decide, by decide +kernel⟩⟩
theorem d_17_14_23 : decode prog_17_method_14_code 23 = .ok (.aload_n 0, 1) := by decide +kernel
theorem d_17_14_24 : decode prog_17_method_14_code 24 = .ok (.invokevirtual 85, 3) := by decide +kernel
set_option maxRecDepth 100000 in
theorem w_2631 : (Cond.code ({ cls := "NumberHouseModel$FloatRows", name := "readsBack", desc := "()Z" } : MethodName) prog_17_method_12_code (4 : Nat) (some .boolean)) ∈ q_tbl := q_of11 231 rfl (by decide +kernel)
set_option maxRecDepth 100000 in
theorem w_2628 : (Cond.methodLink "NumberHouseModel$FloatRows" (85 : Nat) ({ cls := "NumberHouseModel$FloatRows", name := "readsBack", desc := "()Z" } : MethodName)) ∈ q_tbl := q_of11 228 rfl (by decide +kernel)
set_option maxRecDepth 100000 in
theorem w_2630 : (Cond.instanceMethod ({ cls := "NumberHouseModel$FloatRows", name := "readsBack", desc := "()Z" } : MethodName)) ∈ q_tbl := q_of11 230 rfl (by decide +kernel)
theorem ws_98 : Cond.selects "NumberHouseModel$FloatRows" (⟨"NumberHouseModel$FloatRows", "readsBack", "()Z"⟩ : MethodName) (⟨"NumberHouseModel$FloatRows", "readsBack", "()Z"⟩ : MethodName) ∈ q_tbl := q_ofs 98 (by decide +kernel) (by decide +kernel)
theorem LV_FR_85 : q_LV "NumberHouseModel$FloatRows" 85 y_FR_readsBack prog_17_method_12_code 4 (some .boolean) 0 := ⟨w_2631, w_17, w_2628, w_2630, ws_98, ⟨by decide, by decide, by decide +kernel⟩⟩
theorem d_17_14_27 : decode prog_17_method_14_code 27 = .ok (.istore_n 3, 1) := by decide +kernel
theorem d_17_14_28 : decode prog_17_method_14_code 28 = .ok (.aload_n 0, 1) := by decide +kernel
theorem d_17_14_29 : decode prog_17_method_14_code 29 = .ok (.iload_n 1, 1) := by decide +kernel
theorem d_17_14_30 : decode prog_17_method_14_code 30 = .ok (.iload_n 2, 1) := by decide +kernel
theorem d_17_14_31 : decode prog_17_method_14_code 31 = .ok (.isub, 1) := by decide +kernel
theorem d_17_14_32 : decode prog_17_method_14_code 32 = .ok (.iconst 1, 1) := by decide +kernel
theorem d_17_14_33 : decode prog_17_method_14_code 33 = .ok (.iadd, 1) := by decide +kernel
theorem d_17_14_34 : decode prog_17_method_14_code 34 = .ok (.iconst 1, 1) := by decide +kernel
theorem d_17_14_35 : decode prog_17_method_14_code 35 = .ok (.invokevirtual 81, 3) := by decide +kernel
theorem d_17_14_38 : decode prog_17_method_14_code 38 = .ok (.iload_n 3, 1) := by decide +kernel
theorem d_17_14_39 : decode prog_17_method_14_code 39 = .ok (.ifCond .ne 10, 3) := by decide +kernel
theorem d_17_14_49 : decode prog_17_method_14_code 49 = .ok (.iload_n 2, 1) := by decide +kernel
theorem d_17_14_50 : decode prog_17_method_14_code 50 = .ok (.ireturn, 1) := by decide +kernel
theorem d_17_14_42 : decode prog_17_method_14_code 42 = .ok (.aload_n 0, 1) := by decide +kernel
theorem d_17_14_43 : decode prog_17_method_14_code 43 = .ok (.invokevirtual 85, 3) := by decide +kernel
theorem d_17_14_46 : decode prog_17_method_14_code 46 = .ok (.ifCond .eq 5, 3) := by decide +kernel
theorem d_17_14_51 : decode prog_17_method_14_code 51 = .ok (.iinc 2 1, 3) := by decide +kernel
theorem d_17_14_54 : decode prog_17_method_14_code 54 = .ok (.goto (-47), 3) := by decide +kernel
def y_FR_leastLength : MethodName := ⟨"NumberHouseModel$FloatRows", "leastLength", "()I"⟩
def F_FR_leastLength_L7 (t0_0 : Int32) (t0_1 : Int32) (t0_2 : Int32) (t0_3 : Int32) (t0_4 : Int64) (t0_5 : Int32) (t0_6 : Int32) (t0_7 : Int64) (t0_8 : Int32) (t0_9 : Int64) (t0_10 : Int32) (t1_0 : (Nat → Int32)) (t2_0 : (Nat → Int32)) (t3_0 : (Nat → Int32)) (t4_0 : (Nat → Int32)) (a29 : Int32) : Nat → Int32 → (Nat → Int32) → (Int32 × (Nat → Int32))
  | 0, _, _ => default
  | fm + 1, lx35, lx36 => if (17 : Int32) ≤ lx35 then (((17 : Int32), lx36)) else (if ((F_FR_readsBack t0_0 t0_1 t0_2 t0_3 t0_4 t0_5 t0_6 t0_7 t0_8 t0_9 t0_10 t2_0 t3_0 ((F_FR_cut ((a29 - lx35 : Int32) + 1 : Int32) (0 : Int32) t0_0 t0_1 t0_2 t0_3 t0_4 t0_5 t0_6 t0_7 t0_8 t0_9 t0_10 t1_0 lx36) : (Nat → Int32))) : Int32) = (0 : Int32) then (if ((F_FR_readsBack t0_0 t0_1 t0_2 t0_3 t0_4 t0_5 t0_6 t0_7 t0_8 t0_9 t0_10 t2_0 t3_0 ((F_FR_cut ((a29 - lx35 : Int32) + 1 : Int32) (1 : Int32) t0_0 t0_1 t0_2 t0_3 t0_4 t0_5 t0_6 t0_7 t0_8 t0_9 t0_10 t1_0 ((F_FR_cut ((a29 - lx35 : Int32) + 1 : Int32) (0 : Int32) t0_0 t0_1 t0_2 t0_3 t0_4 t0_5 t0_6 t0_7 t0_8 t0_9 t0_10 t1_0 lx36) : (Nat → Int32))) : (Nat → Int32))) : Int32) = (0 : Int32) then (F_FR_leastLength_L7 t0_0 t0_1 t0_2 t0_3 t0_4 t0_5 t0_6 t0_7 t0_8 t0_9 t0_10 t1_0 t2_0 t3_0 t4_0 a29 fm (lx35 + 1 : Int32) ((F_FR_cut ((a29 - lx35 : Int32) + 1 : Int32) (1 : Int32) t0_0 t0_1 t0_2 t0_3 t0_4 t0_5 t0_6 t0_7 t0_8 t0_9 t0_10 t1_0 ((F_FR_cut ((a29 - lx35 : Int32) + 1 : Int32) (0 : Int32) t0_0 t0_1 t0_2 t0_3 t0_4 t0_5 t0_6 t0_7 t0_8 t0_9 t0_10 t1_0 lx36) : (Nat → Int32))) : (Nat → Int32))) else ((lx35, ((F_FR_cut ((a29 - lx35 : Int32) + 1 : Int32) (1 : Int32) t0_0 t0_1 t0_2 t0_3 t0_4 t0_5 t0_6 t0_7 t0_8 t0_9 t0_10 t1_0 ((F_FR_cut ((a29 - lx35 : Int32) + 1 : Int32) (0 : Int32) t0_0 t0_1 t0_2 t0_3 t0_4 t0_5 t0_6 t0_7 t0_8 t0_9 t0_10 t1_0 lx36) : (Nat → Int32))) : (Nat → Int32))))) else ((lx35, ((F_FR_cut ((a29 - lx35 : Int32) + 1 : Int32) (1 : Int32) t0_0 t0_1 t0_2 t0_3 t0_4 t0_5 t0_6 t0_7 t0_8 t0_9 t0_10 t1_0 ((F_FR_cut ((a29 - lx35 : Int32) + 1 : Int32) (0 : Int32) t0_0 t0_1 t0_2 t0_3 t0_4 t0_5 t0_6 t0_7 t0_8 t0_9 t0_10 t1_0 lx36) : (Nat → Int32))) : (Nat → Int32)))))
def F_FR_leastLength (t0_0 : Int32) (t0_1 : Int32) (t0_2 : Int32) (t0_3 : Int32) (t0_4 : Int64) (t0_5 : Int32) (t0_6 : Int32) (t0_7 : Int64) (t0_8 : Int32) (t0_9 : Int64) (t0_10 : Int32) (t1_0 : (Nat → Int32)) (t2_0 : (Nat → Int32)) (t3_0 : (Nat → Int32)) (t4_0 : (Nat → Int32)) : Int32 × (Nat → Int32) := F_FR_leastLength_L7 t0_0 t0_1 t0_2 t0_3 t0_4 t0_5 t0_6 t0_7 t0_8 t0_9 t0_10 t1_0 t2_0 t3_0 t4_0 ((F_FR_top t0_0 t0_1 t0_2 t0_3 t0_4 t0_5 t0_6 t0_7 t0_8 t0_9 t0_10 t1_0) : Int32) ((17 - (1 : Int32).toInt).toNat + 1) 1 t4_0
def S_FR_leastLength_L7 (t0_0 : Int32) (t0_1 : Int32) (t0_2 : Int32) (t0_3 : Int32) (t0_4 : Int64) (t0_5 : Int32) (t0_6 : Int32) (t0_7 : Int64) (t0_8 : Int32) (t0_9 : Int64) (t0_10 : Int32) (t1_0 : (Nat → Int32)) (t2_0 : (Nat → Int32)) (t3_0 : (Nat → Int32)) (t4_0 : (Nat → Int32)) (a29 : Int32) : Nat → Int32 → (Nat → Int32) → Prop
  | 0, _, _ => False
  | fm + 1, lx35, lx36 => if (17 : Int32) ≤ lx35 then (True) else ((True ∧ S_FR_cut ((a29 - lx35 : Int32) + 1 : Int32) (0 : Int32) t0_0 t0_1 t0_2 t0_3 t0_4 t0_5 t0_6 t0_7 t0_8 t0_9 t0_10 t1_0 lx36) ∧ ((True ∧ S_FR_readsBack t0_0 t0_1 t0_2 t0_3 t0_4 t0_5 t0_6 t0_7 t0_8 t0_9 t0_10 t2_0 t3_0 ((F_FR_cut ((a29 - lx35 : Int32) + 1 : Int32) (0 : Int32) t0_0 t0_1 t0_2 t0_3 t0_4 t0_5 t0_6 t0_7 t0_8 t0_9 t0_10 t1_0 lx36) : (Nat → Int32))) ∧ ((True ∧ S_FR_cut ((a29 - lx35 : Int32) + 1 : Int32) (1 : Int32) t0_0 t0_1 t0_2 t0_3 t0_4 t0_5 t0_6 t0_7 t0_8 t0_9 t0_10 t1_0 ((F_FR_cut ((a29 - lx35 : Int32) + 1 : Int32) (0 : Int32) t0_0 t0_1 t0_2 t0_3 t0_4 t0_5 t0_6 t0_7 t0_8 t0_9 t0_10 t1_0 lx36) : (Nat → Int32))) ∧ (if ((F_FR_readsBack t0_0 t0_1 t0_2 t0_3 t0_4 t0_5 t0_6 t0_7 t0_8 t0_9 t0_10 t2_0 t3_0 ((F_FR_cut ((a29 - lx35 : Int32) + 1 : Int32) (0 : Int32) t0_0 t0_1 t0_2 t0_3 t0_4 t0_5 t0_6 t0_7 t0_8 t0_9 t0_10 t1_0 lx36) : (Nat → Int32))) : Int32) = (0 : Int32) then ((True ∧ S_FR_readsBack t0_0 t0_1 t0_2 t0_3 t0_4 t0_5 t0_6 t0_7 t0_8 t0_9 t0_10 t2_0 t3_0 ((F_FR_cut ((a29 - lx35 : Int32) + 1 : Int32) (1 : Int32) t0_0 t0_1 t0_2 t0_3 t0_4 t0_5 t0_6 t0_7 t0_8 t0_9 t0_10 t1_0 ((F_FR_cut ((a29 - lx35 : Int32) + 1 : Int32) (0 : Int32) t0_0 t0_1 t0_2 t0_3 t0_4 t0_5 t0_6 t0_7 t0_8 t0_9 t0_10 t1_0 lx36) : (Nat → Int32))) : (Nat → Int32))) ∧ (if ((F_FR_readsBack t0_0 t0_1 t0_2 t0_3 t0_4 t0_5 t0_6 t0_7 t0_8 t0_9 t0_10 t2_0 t3_0 ((F_FR_cut ((a29 - lx35 : Int32) + 1 : Int32) (1 : Int32) t0_0 t0_1 t0_2 t0_3 t0_4 t0_5 t0_6 t0_7 t0_8 t0_9 t0_10 t1_0 ((F_FR_cut ((a29 - lx35 : Int32) + 1 : Int32) (0 : Int32) t0_0 t0_1 t0_2 t0_3 t0_4 t0_5 t0_6 t0_7 t0_8 t0_9 t0_10 t1_0 lx36) : (Nat → Int32))) : (Nat → Int32))) : Int32) = (0 : Int32) then (S_FR_leastLength_L7 t0_0 t0_1 t0_2 t0_3 t0_4 t0_5 t0_6 t0_7 t0_8 t0_9 t0_10 t1_0 t2_0 t3_0 t4_0 a29 fm (lx35 + 1 : Int32) ((F_FR_cut ((a29 - lx35 : Int32) + 1 : Int32) (1 : Int32) t0_0 t0_1 t0_2 t0_3 t0_4 t0_5 t0_6 t0_7 t0_8 t0_9 t0_10 t1_0 ((F_FR_cut ((a29 - lx35 : Int32) + 1 : Int32) (0 : Int32) t0_0 t0_1 t0_2 t0_3 t0_4 t0_5 t0_6 t0_7 t0_8 t0_9 t0_10 t1_0 lx36) : (Nat → Int32))) : (Nat → Int32))) else (True))) else (True)))))
def S_FR_leastLength (t0_0 : Int32) (t0_1 : Int32) (t0_2 : Int32) (t0_3 : Int32) (t0_4 : Int64) (t0_5 : Int32) (t0_6 : Int32) (t0_7 : Int64) (t0_8 : Int32) (t0_9 : Int64) (t0_10 : Int32) (t1_0 : (Nat → Int32)) (t2_0 : (Nat → Int32)) (t3_0 : (Nat → Int32)) (t4_0 : (Nat → Int32)) : Prop := (True ∧ S_FR_top t0_0 t0_1 t0_2 t0_3 t0_4 t0_5 t0_6 t0_7 t0_8 t0_9 t0_10 t1_0) ∧ (S_FR_leastLength_L7 t0_0 t0_1 t0_2 t0_3 t0_4 t0_5 t0_6 t0_7 t0_8 t0_9 t0_10 t1_0 t2_0 t3_0 t4_0 ((F_FR_top t0_0 t0_1 t0_2 t0_3 t0_4 t0_5 t0_6 t0_7 t0_8 t0_9 t0_10 t1_0) : Int32) ((17 - (1 : Int32).toInt).toNat + 1) 1 t4_0)
set_option maxRecDepth 100000 in
set_option maxHeartbeats 4000000 in
theorem X_FR_leastLength (l : Launch) (D : va_G) (g : Nat → ClassId) (q : Nat → Nat) (ws : va_W) (hI : q_I (msh g q) q ws) (t0_0 : Int32) (t0_1 : Int32) (t0_2 : Int32) (t0_3 : Int32) (t0_4 : Int64) (t0_5 : Int32) (t0_6 : Int32) (t0_7 : Int64) (t0_8 : Int32) (t0_9 : Int64) (t0_10 : Int32) (hT0 : ws[145]? = (some (q 145, .inr (15, [.int t0_0, .ref (q 146), .ref (q 147), .ref (q 148), .ref (q 149), .ref (q 150), .ref (q 151), .ref (q 152), .int t0_1, .int t0_2, .int t0_3, .long t0_4, .int t0_5, .int t0_6, .long t0_7, .int t0_8, .long t0_9, .int t0_10])) : Option (Nat × va_E))) (t1_0 : (Nat → Int32)) (hT1 : ws[148]? = (some (q 148, .inl (g 0, (1404 : Int32).toNatClampNeg, .inl t1_0)) : Option (Nat × va_E))) (t2_0 : (Nat → Int32)) (hT2 : ws[149]? = (some (q 149, .inl (g 0, (1404 : Int32).toNatClampNeg, .inl t2_0)) : Option (Nat × va_E))) (t3_0 : (Nat → Int32)) (hT3 : ws[150]? = (some (q 150, .inl (g 0, (1404 : Int32).toNatClampNeg, .inl t3_0)) : Option (Nat × va_E))) (t4_0 : (Nat → Int32)) (hT4 : ws[151]? = (some (q 151, .inl (g 0, (1404 : Int32).toNatClampNeg, .inl t4_0)) : Option (Nat × va_E))) (hS : True ∧ S_FR_leastLength t0_0 t0_1 t0_2 t0_3 t0_4 t0_5 t0_6 t0_7 t0_8 t0_9 t0_10 t1_0 t2_0 t3_0 t4_0) : q_mI l y_FR_leastLength prog_17_method_14_code 4 (.int) 3 0 0 D g [.ref (q 145)] ws (fun r u => q_I (msh g q) q u ∧ q_un ws u [151] ∧ ∃ (u4_0 : (Nat → Int32)), u[151]? = (some (q 151, .inl (g 0, (1404 : Int32).toNatClampNeg, .inl u4_0)) : Option (Nat × va_E)) ∧ (1 ≤ r.toInt) ∧ (r.toInt ≤ 17) ∧ (r, u4_0) = (F_FR_leastLength t0_0 t0_1 t0_2 t0_3 t0_4 t0_5 t0_6 t0_7 t0_8 t0_9 t0_10 t1_0 t2_0 t3_0 t4_0)) := by
  intro sz
  refine q_into (by decide) (Nat.le_of_ble_eq_true rfl) ?_
  intro p e s m below meth c ls hsz C0 V hl
  have hx := C0.1
  have hb := C0.2.1
  have btt0_2 := n_w145 hI hT0
  clear btt0_2
  have hF : q_un ws ws [151] := q_u0
  have hl : lv_has ls 4 [(0, .ref (q 145))] := hl
  refine lv_aload_n hx hb d_17_14_0 rfl (lv_at hl 0 rfl) ?_
  have ob26 : True ∧ S_FR_top t0_0 t0_1 t0_2 t0_3 t0_4 t0_5 t0_6 t0_7 t0_8 t0_9 t0_10 t1_0 := (by have h := hS; rw [S_FR_leastLength.eq_1] at h; with_reducible exact h.2.1)
  refine q_goi V (q_runV (As := []) (rest := []) (d := 1) (mc := 0) (ms := 0) (ci := 15) C0 V rfl LV_FR_77 (X_FR_top l D g q ws   hI t0_0 t0_1 t0_2 t0_3 t0_4 t0_5 t0_6 t0_7 t0_8 t0_9 t0_10 hT0 t1_0 hT1 ob26 _) rfl rfl hT0 rfl hl.1 rfl (Nat.le_of_ble_eq_true rfl) ⟨by decide, by decide⟩ ⟨Nat.le_of_ble_eq_true rfl, Nat.le_of_ble_eq_true rfl⟩ d_17_14_1) (fun a29 u27 H locs hp28 V => ?_)
  obtain ⟨rfl, b30, b31, hE32⟩ := hp28
  have e33 : a29 = (F_FR_top t0_0 t0_1 t0_2 t0_3 t0_4 t0_5 t0_6 t0_7 t0_8 t0_9 t0_10 t1_0) := hE32
  clear b30
  clear b31
  refine lv_istore_n (lv' := [(1, .int a29), (0, .ref (q 145))]) hx hb d_17_14_4 rfl hl (by decide) rfl (fun ls hl => ?_)
  refine lv_iconst (v := 1) hx hb d_17_14_5 (by decide) ?_
  refine lv_istore_n (lv' := [(2, .int 1), (1, .int a29), (0, .ref (q 145))]) hx hb d_17_14_6 rfl hl (by decide) rfl (fun ls hl => ?_)
  refine q_loop (X := Int32 × (Nat → Int32)) (fun z H locs ls w40 => q_F (1 ≤ z.1.toInt) ∧ q_F (z.1.toInt ≤ 17) ∧ q_Wd D g (va_A ws sz) s w40 H locs ∧ lv_has ls 4 [(2, .int z.1), (1, .int a29), (0, .ref (q 145))] ∧ q_I (msh g q) q w40 ∧ q_un ws w40 [151] ∧ w40[145]? = (some (q 145, .inr (15, [.int t0_0, .ref (q 146), .ref (q 147), .ref (q 148), .ref (q 149), .ref (q 150), .ref (q 151), .ref (q 152), .int t0_1, .int t0_2, .int t0_3, .long t0_4, .int t0_5, .int t0_6, .long t0_7, .int t0_8, .long t0_9, .int t0_10])) : Option (Nat × va_E)) ∧ w40[148]? = (some (q 148, .inl (g 0, (1404 : Int32).toNatClampNeg, .inl t1_0)) : Option (Nat × va_E)) ∧ w40[149]? = (some (q 149, .inl (g 0, (1404 : Int32).toNatClampNeg, .inl t2_0)) : Option (Nat × va_E)) ∧ w40[150]? = (some (q 150, .inl (g 0, (1404 : Int32).toNatClampNeg, .inl t3_0)) : Option (Nat × va_E)) ∧ w40[151]? = (some (q 151, .inl (g 0, (1404 : Int32).toNatClampNeg, .inl z.2)) : Option (Nat × va_E)) ∧ (∃ n, (17 - z.1.toInt).toNat < n ∧ F_FR_leastLength_L7 t0_0 t0_1 t0_2 t0_3 t0_4 t0_5 t0_6 t0_7 t0_8 t0_9 t0_10 t1_0 t2_0 t3_0 t4_0 a29 n z.1 z.2 = (F_FR_leastLength t0_0 t0_1 t0_2 t0_3 t0_4 t0_5 t0_6 t0_7 t0_8 t0_9 t0_10 t1_0 t2_0 t3_0 t4_0) ∧ True ∧ S_FR_leastLength_L7 t0_0 t0_1 t0_2 t0_3 t0_4 t0_5 t0_6 t0_7 t0_8 t0_9 t0_10 t1_0 t2_0 t3_0 t4_0 a29 n z.1 z.2)) (fun z => (17 - z.1.toInt).toNat) ?_ ((1 : Int32), (t4_0 : (Nat → Int32))) _ _ _ ws ⟨(show q_F (1 ≤ 1) from (show 1 ≤ 1 from by omega)), (show q_F (1 ≤ 17) from (show 1 ≤ 17 from by omega)), V, q_lw hl (q_lw1 0 rfl (q_lw1 1 rfl (q_lw1 2 rfl q_lw0))), hI, hF, hT0, hT1, hT2, hT3, hT4, ⟨((17 - (1 : Int32).toInt).toNat + 1), Nat.lt_succ_self _, (show F_FR_leastLength_L7 t0_0 t0_1 t0_2 t0_3 t0_4 t0_5 t0_6 t0_7 t0_8 t0_9 t0_10 t1_0 t2_0 t3_0 t4_0 a29 ((17 - (1 : Int32).toInt).toNat + 1) 1 t4_0 = (F_FR_leastLength t0_0 t0_1 t0_2 t0_3 t0_4 t0_5 t0_6 t0_7 t0_8 t0_9 t0_10 t1_0 t2_0 t3_0 t4_0) from (by rw [e33, F_FR_leastLength.eq_1])), (show True ∧ S_FR_leastLength_L7 t0_0 t0_1 t0_2 t0_3 t0_4 t0_5 t0_6 t0_7 t0_8 t0_9 t0_10 t1_0 t2_0 t3_0 t4_0 a29 ((17 - (1 : Int32).toInt).toNat + 1) 1 t4_0 from (by rw [e33]; have h := hS; rw [S_FR_leastLength.eq_1] at h; replace h := q_s2 h; with_reducible exact h))⟩⟩
  rintro ⟨lx35, lx36⟩ H locs ls w40 ⟨i37, i38, V, hl, hI, hF, hO41, hO42, hO43, hO44, hO45, ⟨fu48, hf49, hR46, hS47⟩⟩ ih39
  obtain ⟨fm50, rfl⟩ : ∃ m, fu48 = m + 1 := ⟨fu48 - 1, by omega⟩
  replace i37 : q_F (1 ≤ lx35.toInt) := i37
  replace i38 : q_F (lx35.toInt ≤ 17) := i38
  replace hl : lv_has ls 4 [(2, .int lx35), (1, .int a29), (0, .ref (q 145))] := hl
  replace hO41 : w40[145]? = (some (q 145, .inr (15, [.int t0_0, .ref (q 146), .ref (q 147), .ref (q 148), .ref (q 149), .ref (q 150), .ref (q 151), .ref (q 152), .int t0_1, .int t0_2, .int t0_3, .long t0_4, .int t0_5, .int t0_6, .long t0_7, .int t0_8, .long t0_9, .int t0_10])) : Option (Nat × va_E)) := hO41
  replace hO42 : w40[148]? = (some (q 148, .inl (g 0, (1404 : Int32).toNatClampNeg, .inl t1_0)) : Option (Nat × va_E)) := hO42
  replace hO43 : w40[149]? = (some (q 149, .inl (g 0, (1404 : Int32).toNatClampNeg, .inl t2_0)) : Option (Nat × va_E)) := hO43
  replace hO44 : w40[150]? = (some (q 150, .inl (g 0, (1404 : Int32).toNatClampNeg, .inl t3_0)) : Option (Nat × va_E)) := hO44
  replace hO45 : w40[151]? = (some (q 151, .inl (g 0, (1404 : Int32).toNatClampNeg, .inl lx36)) : Option (Nat × va_E)) := hO45
  refine lv_iload_n hx hb d_17_14_7 rfl (lv_at hl 0 rfl) ?_
  refine lv_bipush (v := 17) hx hb d_17_14_8 (by decide) ?_
  refine lv_icmp_ge (tgt := 57) hx hb d_17_14_10 (by decide) (fun c51 => ?_) (fun c51 => ?_)
  ·
    refine lv_bipush (v := 17) hx hb d_17_14_57 (by decide) ?_
    exact q_reti C0 V (⟨hI, hF, lx36, hO45, (show 1 ≤ (17 : Int32).toInt from (by have z15 : (17 : Int32).toInt = 17 := rfl; omega)), (show (17 : Int32).toInt ≤ 17 from (by have z15 : (17 : Int32).toInt = 17 := rfl; omega)), (show ((17 : Int32), lx36) = (F_FR_leastLength t0_0 t0_1 t0_2 t0_3 t0_4 t0_5 t0_6 t0_7 t0_8 t0_9 t0_10 t1_0 t2_0 t3_0 t4_0) from Eq.trans (by rw [F_FR_leastLength_L7.eq_2, if_pos c51]) hR46)⟩) d_17_14_59
  ·
    have b53 : q_F (lx35.toInt < 17) := (q_nleI c51)
    refine lv_aload_n hx hb d_17_14_13 rfl (lv_at hl 2 rfl) ?_
    refine lv_iload_n hx hb d_17_14_14 rfl (lv_at hl 1 rfl) ?_
    refine lv_iload_n hx hb d_17_14_15 rfl (lv_at hl 0 rfl) ?_
    refine lv_isub hx hb d_17_14_16 ?_
    obtain ⟨a54, e55⟩ := q_nm (a29 - lx35 : Int32)
    refine q_ti (v := a54) e55 ?_
    refine lv_iconst (v := 1) hx hb d_17_14_17 (by decide) ?_
    refine lv_iadd hx hb d_17_14_18 ?_
    obtain ⟨a57, e58⟩ := q_nm (a54 + 1 : Int32)
    refine q_ti (v := a57) e58 ?_
    refine lv_iconst (v := 0) hx hb d_17_14_19 (by decide) ?_
    have ob60 : True ∧ S_FR_cut a57 (0 : Int32) t0_0 t0_1 t0_2 t0_3 t0_4 t0_5 t0_6 t0_7 t0_8 t0_9 t0_10 t1_0 lx36 := (by rw [← e58, ← e55]; have h := hS47; rw [S_FR_leastLength_L7.eq_2] at h; rw [if_neg c51] at h; with_reducible exact h.2.1)
    refine q_gov V (q_runV (As := [.int a57, .int 0]) (rest := []) (d := 1) (mc := 0) (ms := 0) (ci := 15) C0 V rfl LV_FR_81 (X_FR_cut l D g q w40  a57 0 hI t0_0 t0_1 t0_2 t0_3 t0_4 t0_5 t0_6 t0_7 t0_8 t0_9 t0_10 hO41 t1_0 hO42 lx36 hO45 ⟨(by have y0 : (0 : Int32).toInt = 0 := rfl; omega), (by have y0 : (0 : Int32).toInt = 0 := rfl; omega)⟩ ob60 _) rfl rfl hO41 rfl hl.1 rfl (Nat.le_of_ble_eq_true rfl) ⟨by decide, by decide⟩ ⟨Nat.le_of_ble_eq_true rfl, Nat.le_of_ble_eq_true rfl⟩ d_17_14_20) (fun u61 H locs hp62 V => ?_)
    obtain ⟨hI, hu66, f63, hA64, hE65⟩ := hp62
    replace hA64 : u61[151]? = (some (q 151, .inl (g 0, (1404 : Int32).toNatClampNeg, .inl f63)) : Option (Nat × va_E)) := hA64
    have e67 : f63 = (F_FR_cut a57 (0 : Int32) t0_0 t0_1 t0_2 t0_3 t0_4 t0_5 t0_6 t0_7 t0_8 t0_9 t0_10 t1_0 lx36) := hE65
    replace hO41 := (hu66 _ (by decide)).trans hO41
    replace hO42 := (hu66 _ (by decide)).trans hO42
    replace hO43 := (hu66 _ (by decide)).trans hO43
    replace hO44 := (hu66 _ (by decide)).trans hO44
    replace hF := q_uc hF hu66 (by simp)
    refine lv_aload_n hx hb d_17_14_23 rfl (lv_at hl 2 rfl) ?_
    have ob68 : True ∧ S_FR_readsBack t0_0 t0_1 t0_2 t0_3 t0_4 t0_5 t0_6 t0_7 t0_8 t0_9 t0_10 t2_0 t3_0 f63 := (by rw [e67, ← e58, ← e55]; have h := hS47; rw [S_FR_leastLength_L7.eq_2] at h; rw [if_neg c51] at h; replace h := q_s2 h; with_reducible exact h.2.1)
    refine q_goi V (q_runV (As := []) (rest := []) (d := 2) (mc := 0) (ms := 0) (ci := 15) C0 V rfl LV_FR_85 (X_FR_readsBack l D g q u61   hI t0_0 t0_1 t0_2 t0_3 t0_4 t0_5 t0_6 t0_7 t0_8 t0_9 t0_10 hO41 t2_0 hO43 t3_0 hO44 f63 hA64 ob68 _) rfl rfl hO41 rfl hl.1 rfl (Nat.le_of_ble_eq_true rfl) ⟨by decide, by decide⟩ ⟨Nat.le_of_ble_eq_true rfl, Nat.le_of_ble_eq_true rfl⟩ d_17_14_24) (fun a71 u69 H locs hp70 V => ?_)
    obtain ⟨rfl, b72, b73, hE74⟩ := hp70
    have e75 : a71 = (F_FR_readsBack t0_0 t0_1 t0_2 t0_3 t0_4 t0_5 t0_6 t0_7 t0_8 t0_9 t0_10 t2_0 t3_0 f63) := hE74
    clear b72
    clear b73
    refine lv_istore_n (lv' := [(3, .int a71), (2, .int lx35), (1, .int a29), (0, .ref (q 145))]) hx hb d_17_14_27 rfl hl (by decide) rfl (fun ls hl => ?_)
    refine lv_aload_n hx hb d_17_14_28 rfl (lv_at hl 3 rfl) ?_
    refine lv_iload_n hx hb d_17_14_29 rfl (lv_at hl 2 rfl) ?_
    refine lv_iload_n hx hb d_17_14_30 rfl (lv_at hl 1 rfl) ?_
    refine lv_isub hx hb d_17_14_31 ?_
    obtain ⟨a76, e77⟩ := q_nm (a29 - lx35 : Int32)
    refine q_ti (v := a76) e77 ?_
    refine lv_iconst (v := 1) hx hb d_17_14_32 (by decide) ?_
    refine lv_iadd hx hb d_17_14_33 ?_
    obtain ⟨a79, e80⟩ := q_nm (a76 + 1 : Int32)
    refine q_ti (v := a79) e80 ?_
    refine lv_iconst (v := 1) hx hb d_17_14_34 (by decide) ?_
    have ob82 : True ∧ S_FR_cut a79 (1 : Int32) t0_0 t0_1 t0_2 t0_3 t0_4 t0_5 t0_6 t0_7 t0_8 t0_9 t0_10 t1_0 f63 := (by rw [← e80, ← e77, e67, ← e58, ← e55]; have h := hS47; rw [S_FR_leastLength_L7.eq_2] at h; rw [if_neg c51] at h; replace h := q_s2 h; replace h := q_s2 h; with_reducible exact h.2.1)
    refine q_gov V (q_runV (As := [.int a79, .int 1]) (rest := []) (d := 1) (mc := 0) (ms := 0) (ci := 15) C0 V rfl LV_FR_81 (X_FR_cut l D g q u61  a79 1 hI t0_0 t0_1 t0_2 t0_3 t0_4 t0_5 t0_6 t0_7 t0_8 t0_9 t0_10 hO41 t1_0 hO42 f63 hA64 ⟨(by have y0 : (1 : Int32).toInt = 1 := rfl; omega), (by have y0 : (1 : Int32).toInt = 1 := rfl; omega)⟩ ob82 _) rfl rfl hO41 rfl hl.1 rfl (Nat.le_of_ble_eq_true rfl) ⟨by decide, by decide⟩ ⟨Nat.le_of_ble_eq_true rfl, Nat.le_of_ble_eq_true rfl⟩ d_17_14_35) (fun u83 H locs hp84 V => ?_)
    obtain ⟨hI, hu88, f85, hA86, hE87⟩ := hp84
    replace hA86 : u83[151]? = (some (q 151, .inl (g 0, (1404 : Int32).toNatClampNeg, .inl f85)) : Option (Nat × va_E)) := hA86
    have e89 : f85 = (F_FR_cut a79 (1 : Int32) t0_0 t0_1 t0_2 t0_3 t0_4 t0_5 t0_6 t0_7 t0_8 t0_9 t0_10 t1_0 f63) := hE87
    replace hO41 := (hu88 _ (by decide)).trans hO41
    replace hO42 := (hu88 _ (by decide)).trans hO42
    replace hO43 := (hu88 _ (by decide)).trans hO43
    replace hO44 := (hu88 _ (by decide)).trans hO44
    replace hF := q_uc hF hu88 (by simp)
    refine lv_iload_n hx hb d_17_14_38 rfl (lv_at hl 0 rfl) ?_
    refine lv_if_ne (tgt := 49) hx hb d_17_14_39 (by decide) (fun c90 => ?_) (fun c90 => ?_)
    ·
      refine lv_iload_n hx hb d_17_14_49 rfl (lv_at hl 1 rfl) ?_
      exact q_reti C0 V (⟨hI, hF, f85, hA86, (show 1 ≤ lx35.toInt from (by first | with_reducible exact q_fe i37 | (have t1 : 1 ≤ lx35.toInt := i37; omega))), (show lx35.toInt ≤ 17 from (by first | with_reducible exact q_fe i38 | (have t1 : lx35.toInt ≤ 17 := i38; omega))), (show (lx35, f85) = (F_FR_leastLength t0_0 t0_1 t0_2 t0_3 t0_4 t0_5 t0_6 t0_7 t0_8 t0_9 t0_10 t1_0 t2_0 t3_0 t4_0) from Eq.trans (by have c90x := c90; rw [e75, e67, ← e58, ← e55] at c90x; rw [e89, ← e80, ← e77, e67, ← e58, ← e55, F_FR_leastLength_L7.eq_2, if_neg c51, if_neg c90x]) hR46)⟩) d_17_14_50
    ·
      refine lv_aload_n hx hb d_17_14_42 rfl (lv_at hl 3 rfl) ?_
      have ob93 : True ∧ S_FR_readsBack t0_0 t0_1 t0_2 t0_3 t0_4 t0_5 t0_6 t0_7 t0_8 t0_9 t0_10 t2_0 t3_0 f85 := (by rw [e89, ← e80, ← e77, e67, ← e58, ← e55]; have h := hS47; rw [S_FR_leastLength_L7.eq_2] at h; rw [if_neg c51] at h; replace h := q_s2 h; replace h := q_s2 h; replace h := q_s2 h; have c90x := c90; rw [e75, e67, ← e58, ← e55] at c90x; rw [if_pos c90x] at h; with_reducible exact h.2.1)
      refine q_goi V (q_runV (As := []) (rest := []) (d := 2) (mc := 0) (ms := 0) (ci := 15) C0 V rfl LV_FR_85 (X_FR_readsBack l D g q u83   hI t0_0 t0_1 t0_2 t0_3 t0_4 t0_5 t0_6 t0_7 t0_8 t0_9 t0_10 hO41 t2_0 hO43 t3_0 hO44 f85 hA86 ob93 _) rfl rfl hO41 rfl hl.1 rfl (Nat.le_of_ble_eq_true rfl) ⟨by decide, by decide⟩ ⟨Nat.le_of_ble_eq_true rfl, Nat.le_of_ble_eq_true rfl⟩ d_17_14_43) (fun a96 u94 H locs hp95 V => ?_)
      obtain ⟨rfl, b97, b98, hE99⟩ := hp95
      have e100 : a96 = (F_FR_readsBack t0_0 t0_1 t0_2 t0_3 t0_4 t0_5 t0_6 t0_7 t0_8 t0_9 t0_10 t2_0 t3_0 f85) := hE99
      clear b97
      clear b98
      refine lv_if_eq (tgt := 51) hx hb d_17_14_46 (by decide) (fun c101 => ?_) (fun c101 => ?_)
      ·
        obtain ⟨a103, e104⟩ := q_nm (lx35 + 1 : Int32)
        have b105 : q_F (a103.toInt = lx35.toInt + 1) := (by rw [← e104]; exact q_addI (y := 1) rfl (by decide) (by have t1 : 1 ≤ lx35.toInt := i37; have t2 : lx35.toInt ≤ 17 := i38; omega) (by have t1 : 1 ≤ lx35.toInt := i37; have t2 : lx35.toInt ≤ 17 := i38; omega))
        refine lv_iinc (v := a103) (lv' := [(2, .int a103), (3, .int a71), (1, .int a29), (0, .ref (q 145))]) hx hb d_17_14_51 hl (k := 1) rfl (e104) (by decide) rfl (fun ls hl => ?_)
        refine lv_goto (tgt := 7) hx hb d_17_14_54 (by decide) ?_
        exact ih39 ((a103 : Int32), (f85 : (Nat → Int32))) _ _ _ _ (show (17 - a103.toInt).toNat < (17 - lx35.toInt).toNat from by have t1 : a103.toInt = lx35.toInt + 1 := b105; have t2 : lx35.toInt ≤ 17 := i38; have t3 : lx35.toInt < 17 := b53; omega) ⟨(show q_F (1 ≤ a103.toInt) from (show 1 ≤ a103.toInt from by have t1 : 1 ≤ lx35.toInt := i37; have t2 : a103.toInt = lx35.toInt + 1 := b105; omega)), (show q_F (a103.toInt ≤ 17) from (show a103.toInt ≤ 17 from by have t1 : lx35.toInt < 17 := b53; have t2 : a103.toInt = lx35.toInt + 1 := b105; omega)), V, q_lw hl (q_lw1 0 rfl (q_lw1 2 rfl (q_lw1 3 rfl q_lw0))), hI, hF, hO41, hO42, hO43, hO44, hA86, ⟨fm50, Nat.lt_of_lt_of_le (show (17 - a103.toInt).toNat < (17 - lx35.toInt).toNat from by have t1 : a103.toInt = lx35.toInt + 1 := b105; have t2 : lx35.toInt ≤ 17 := i38; have t3 : lx35.toInt < 17 := b53; omega) (Nat.le_of_lt_succ hf49), (show F_FR_leastLength_L7 t0_0 t0_1 t0_2 t0_3 t0_4 t0_5 t0_6 t0_7 t0_8 t0_9 t0_10 t1_0 t2_0 t3_0 t4_0 a29 fm50 a103 f85 = (F_FR_leastLength t0_0 t0_1 t0_2 t0_3 t0_4 t0_5 t0_6 t0_7 t0_8 t0_9 t0_10 t1_0 t2_0 t3_0 t4_0) from Eq.trans (by have c90x := c90; rw [e75, e67, ← e58, ← e55] at c90x; have c101x := c101; rw [e100, e89, ← e80, ← e77, e67, ← e58, ← e55] at c101x; rw [← e104, e89, ← e80, ← e77, e67, ← e58, ← e55, F_FR_leastLength_L7.eq_2, if_neg c51, if_pos c90x, if_pos c101x]) hR46), (show True ∧ S_FR_leastLength_L7 t0_0 t0_1 t0_2 t0_3 t0_4 t0_5 t0_6 t0_7 t0_8 t0_9 t0_10 t1_0 t2_0 t3_0 t4_0 a29 fm50 a103 f85 from (by rw [← e104, e89, ← e80, ← e77, e67, ← e58, ← e55]; have h := hS47; rw [S_FR_leastLength_L7.eq_2] at h; rw [if_neg c51] at h; replace h := q_s2 h; replace h := q_s2 h; replace h := q_s2 h; have c90x := c90; rw [e75, e67, ← e58, ← e55] at c90x; rw [if_pos c90x] at h; replace h := q_s2 h; have c101x := c101; rw [e100, e89, ← e80, ← e77, e67, ← e58, ← e55] at c101x; rw [if_pos c101x] at h; with_reducible exact h))⟩⟩
      ·
        refine lv_iload_n hx hb d_17_14_49 rfl (lv_at hl 1 rfl) ?_
        exact q_reti C0 V (⟨hI, hF, f85, hA86, (show 1 ≤ lx35.toInt from (by first | with_reducible exact q_fe i37 | (have t1 : 1 ≤ lx35.toInt := i37; omega))), (show lx35.toInt ≤ 17 from (by first | with_reducible exact q_fe i38 | (have t1 : lx35.toInt ≤ 17 := i38; omega))), (show (lx35, f85) = (F_FR_leastLength t0_0 t0_1 t0_2 t0_3 t0_4 t0_5 t0_6 t0_7 t0_8 t0_9 t0_10 t1_0 t2_0 t3_0 t4_0) from Eq.trans (by have c90x := c90; rw [e75, e67, ← e58, ← e55] at c90x; have c101x := c101; rw [e100, e89, ← e80, ← e77, e67, ← e58, ← e55] at c101x; rw [e89, ← e80, ← e77, e67, ← e58, ← e55, F_FR_leastLength_L7.eq_2, if_neg c51, if_pos c90x, if_neg c101x]) hR46)⟩) d_17_14_50

