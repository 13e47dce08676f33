theorem d_17_7_0 : decode prog_17_method_7_code 0 = .ok (.iconst 0, 1) := by decide +kernel
theorem d_17_7_1 : decode prog_17_method_7_code 1 = .ok (.istore 4, 2) := by decide +kernel
theorem d_17_7_3 : decode prog_17_method_7_code 3 = .ok (.iload 4, 2) := by decide +kernel
theorem d_17_7_5 : decode prog_17_method_7_code 5 = .ok (.sipush 156, 3) := by decide +kernel
theorem d_17_7_8 : decode prog_17_method_7_code 8 = .ok (.if_icmp .ge 17, 3) := by decide +kernel
theorem d_17_7_25 : decode prog_17_method_7_code 25 = .ok (.lload_n 2, 1) := by decide +kernel
theorem d_17_7_26 : decode prog_17_method_7_code 26 = .ok (.lstore 4, 2) := by decide +kernel
theorem d_17_7_28 : decode prog_17_method_7_code 28 = .ok (.iconst 0, 1) := by decide +kernel
theorem d_17_7_29 : decode prog_17_method_7_code 29 = .ok (.istore 6, 2) := by decide +kernel
theorem d_17_7_31 : decode prog_17_method_7_code 31 = .ok (.lload 4, 2) := by decide +kernel
theorem d_17_7_33 : decode prog_17_method_7_code 33 = .ok (.lconst 0, 1) := by decide +kernel
theorem d_17_7_34 : decode prog_17_method_7_code 34 = .ok (.lcmp, 1) := by decide +kernel
theorem d_17_7_35 : decode prog_17_method_7_code 35 = .ok (.ifCond .le 96, 3) := by decide +kernel
theorem d_17_7_131 : decode prog_17_method_7_code 131 = .ok (.iconst 0, 1) := by decide +kernel
theorem d_17_7_132 : decode prog_17_method_7_code 132 = .ok (.istore 6, 2) := by decide +kernel
theorem d_17_7_134 : decode prog_17_method_7_code 134 = .ok (.iload 6, 2) := by decide +kernel
theorem d_17_7_136 : decode prog_17_method_7_code 136 = .ok (.sipush 156, 3) := by decide +kernel
theorem d_17_7_139 : decode prog_17_method_7_code 139 = .ok (.if_icmp .ge 60, 3) := by decide +kernel
theorem d_17_7_199 : decode prog_17_method_7_code 199 = .ok (.return_, 1) := by decide +kernel
theorem d_17_7_142 : decode prog_17_method_7_code 142 = .ok (.aload_n 0, 1) := by decide +kernel
theorem d_17_7_143 : decode prog_17_method_7_code 143 = .ok (.getfield 13, 3) := by decide +kernel
theorem d_17_7_146 : decode prog_17_method_7_code 146 = .ok (.iload 6, 2) := by decide +kernel
theorem d_17_7_148 : decode prog_17_method_7_code 148 = .ok (.iaload, 1) := by decide +kernel
theorem d_17_7_149 : decode prog_17_method_7_code 149 = .ok (.istore 7, 2) := by decide +kernel
theorem d_17_7_151 : decode prog_17_method_7_code 151 = .ok (.bipush 9, 2) := by decide +kernel
theorem d_17_7_153 : decode prog_17_method_7_code 153 = .ok (.iload 6, 2) := by decide +kernel
theorem d_17_7_155 : decode prog_17_method_7_code 155 = .ok (.imul, 1) := by decide +kernel
theorem d_17_7_156 : decode prog_17_method_7_code 156 = .ok (.istore 8, 2) := by decide +kernel
theorem d_17_7_158 : decode prog_17_method_7_code 158 = .ok (.iload 8, 2) := by decide +kernel
theorem d_17_7_160 : decode prog_17_method_7_code 160 = .ok (.bipush 9, 2) := by decide +kernel
theorem d_17_7_162 : decode prog_17_method_7_code 162 = .ok (.iload 6, 2) := by decide +kernel
theorem d_17_7_164 : decode prog_17_method_7_code 164 = .ok (.imul, 1) := by decide +kernel
theorem d_17_7_165 : decode prog_17_method_7_code 165 = .ok (.bipush 9, 2) := by decide +kernel
theorem d_17_7_167 : decode prog_17_method_7_code 167 = .ok (.iadd, 1) := by decide +kernel
theorem d_17_7_168 : decode prog_17_method_7_code 168 = .ok (.if_icmp .ge 25, 3) := by decide +kernel
theorem d_17_7_193 : decode prog_17_method_7_code 193 = .ok (.iinc 6 1, 3) := by decide +kernel
theorem d_17_7_196 : decode prog_17_method_7_code 196 = .ok (.goto (-62), 3) := by decide +kernel
theorem d_17_7_171 : decode prog_17_method_7_code 171 = .ok (.aload_n 1, 1) := by decide +kernel
theorem d_17_7_172 : decode prog_17_method_7_code 172 = .ok (.iload 8, 2) := by decide +kernel
theorem d_17_7_174 : decode prog_17_method_7_code 174 = .ok (.iload 7, 2) := by decide +kernel
theorem d_17_7_176 : decode prog_17_method_7_code 176 = .ok (.bipush 10, 2) := by decide +kernel
theorem d_17_7_178 : decode prog_17_method_7_code 178 = .ok (.irem, 1) := by decide +kernel
theorem d_17_7_179 : decode prog_17_method_7_code 179 = .ok (.iastore, 1) := by decide +kernel
theorem d_17_7_180 : decode prog_17_method_7_code 180 = .ok (.iload 7, 2) := by decide +kernel
theorem d_17_7_182 : decode prog_17_method_7_code 182 = .ok (.bipush 10, 2) := by decide +kernel
theorem d_17_7_184 : decode prog_17_method_7_code 184 = .ok (.idiv, 1) := by decide +kernel
theorem d_17_7_185 : decode prog_17_method_7_code 185 = .ok (.istore 7, 2) := by decide +kernel
theorem d_17_7_187 : decode prog_17_method_7_code 187 = .ok (.iinc 8 1, 3) := by decide +kernel
theorem d_17_7_190 : decode prog_17_method_7_code 190 = .ok (.goto (-32), 3) := by decide +kernel
theorem d_17_7_38 : decode prog_17_method_7_code 38 = .ok (.lload 4, 2) := by decide +kernel
theorem d_17_7_40 : decode prog_17_method_7_code 40 = .ok (.ldc2_w 59, 3) := by decide +kernel
set_option maxRecDepth 100000 in
theorem w_2614 : (Cond.constantLong "NumberHouseModel$FloatRows" (59 : Nat) (1000000000 : Int64)) ∈ q_tbl := q_of11 214 rfl (by decide +kernel)
theorem d_17_7_43 : decode prog_17_method_7_code 43 = .ok (.lrem, 1) := by decide +kernel
theorem d_17_7_44 : decode prog_17_method_7_code 44 = .ok (.lstore 7, 2) := by decide +kernel
theorem d_17_7_46 : decode prog_17_method_7_code 46 = .ok (.lload 4, 2) := by decide +kernel
theorem d_17_7_48 : decode prog_17_method_7_code 48 = .ok (.ldc2_w 59, 3) := by decide +kernel
theorem d_17_7_51 : decode prog_17_method_7_code 51 = .ok (.ldiv, 1) := by decide +kernel
theorem d_17_7_52 : decode prog_17_method_7_code 52 = .ok (.lstore 4, 2) := by decide +kernel
theorem d_17_7_54 : decode prog_17_method_7_code 54 = .ok (.lconst 0, 1) := by decide +kernel
theorem d_17_7_55 : decode prog_17_method_7_code 55 = .ok (.lstore 9, 2) := by decide +kernel
theorem d_17_7_57 : decode prog_17_method_7_code 57 = .ok (.iload 6, 2) := by decide +kernel
theorem d_17_7_59 : decode prog_17_method_7_code 59 = .ok (.istore 11, 2) := by decide +kernel
theorem d_17_7_61 : decode prog_17_method_7_code 61 = .ok (.iload 11, 2) := by decide +kernel
theorem d_17_7_63 : decode prog_17_method_7_code 63 = .ok (.sipush 156, 3) := by decide +kernel
theorem d_17_7_66 : decode prog_17_method_7_code 66 = .ok (.if_icmp .ge 59, 3) := by decide +kernel
theorem d_17_7_125 : decode prog_17_method_7_code 125 = .ok (.iinc 6 1, 3) := by decide +kernel
theorem d_17_7_128 : decode prog_17_method_7_code 128 = .ok (.goto (-97), 3) := by decide +kernel
theorem d_17_7_69 : decode prog_17_method_7_code 69 = .ok (.lload 9, 2) := by decide +kernel
theorem d_17_7_71 : decode prog_17_method_7_code 71 = .ok (.lload 7, 2) := by decide +kernel
theorem d_17_7_73 : decode prog_17_method_7_code 73 = .ok (.aload_n 0, 1) := by decide +kernel
theorem d_17_7_74 : decode prog_17_method_7_code 74 = .ok (.getfield 7, 3) := by decide +kernel
theorem d_17_7_77 : decode prog_17_method_7_code 77 = .ok (.iload 11, 2) := by decide +kernel
theorem d_17_7_79 : decode prog_17_method_7_code 79 = .ok (.iload 6, 2) := by decide +kernel
theorem d_17_7_81 : decode prog_17_method_7_code 81 = .ok (.isub, 1) := by decide +kernel
theorem d_17_7_82 : decode prog_17_method_7_code 82 = .ok (.iaload, 1) := by decide +kernel
theorem d_17_7_83 : decode prog_17_method_7_code 83 = .ok (.i2l, 1) := by decide +kernel
theorem d_17_7_84 : decode prog_17_method_7_code 84 = .ok (.lmul, 1) := by decide +kernel
theorem d_17_7_85 : decode prog_17_method_7_code 85 = .ok (.ladd, 1) := by decide +kernel
theorem d_17_7_86 : decode prog_17_method_7_code 86 = .ok (.aload_n 0, 1) := by decide +kernel
theorem d_17_7_87 : decode prog_17_method_7_code 87 = .ok (.getfield 13, 3) := by decide +kernel
theorem d_17_7_90 : decode prog_17_method_7_code 90 = .ok (.iload 11, 2) := by decide +kernel
theorem d_17_7_92 : decode prog_17_method_7_code 92 = .ok (.iaload, 1) := by decide +kernel
theorem d_17_7_93 : decode prog_17_method_7_code 93 = .ok (.i2l, 1) := by decide +kernel
theorem d_17_7_94 : decode prog_17_method_7_code 94 = .ok (.ladd, 1) := by decide +kernel
theorem d_17_7_95 : decode prog_17_method_7_code 95 = .ok (.lstore 9, 2) := by decide +kernel
theorem d_17_7_97 : decode prog_17_method_7_code 97 = .ok (.aload_n 0, 1) := by decide +kernel
theorem d_17_7_98 : decode prog_17_method_7_code 98 = .ok (.getfield 13, 3) := by decide +kernel
theorem d_17_7_101 : decode prog_17_method_7_code 101 = .ok (.iload 11, 2) := by decide +kernel
theorem d_17_7_103 : decode prog_17_method_7_code 103 = .ok (.lload 9, 2) := by decide +kernel
theorem d_17_7_105 : decode prog_17_method_7_code 105 = .ok (.ldc2_w 59, 3) := by decide +kernel
theorem d_17_7_108 : decode prog_17_method_7_code 108 = .ok (.lrem, 1) := by decide +kernel
theorem d_17_7_109 : decode prog_17_method_7_code 109 = .ok (.l2i, 1) := by decide +kernel
theorem d_17_7_110 : decode prog_17_method_7_code 110 = .ok (.iastore, 1) := by decide +kernel
theorem d_17_7_111 : decode prog_17_method_7_code 111 = .ok (.lload 9, 2) := by decide +kernel
theorem d_17_7_113 : decode prog_17_method_7_code 113 = .ok (.ldc2_w 59, 3) := by decide +kernel
theorem d_17_7_116 : decode prog_17_method_7_code 116 = .ok (.ldiv, 1) := by decide +kernel
theorem d_17_7_117 : decode prog_17_method_7_code 117 = .ok (.lstore 9, 2) := by decide +kernel
theorem d_17_7_119 : decode prog_17_method_7_code 119 = .ok (.iinc 11 1, 3) := by decide +kernel
theorem d_17_7_122 : decode prog_17_method_7_code 122 = .ok (.goto (-61), 3) := by decide +kernel
theorem d_17_7_11 : decode prog_17_method_7_code 11 = .ok (.aload_n 0, 1) := by decide +kernel
theorem d_17_7_12 : decode prog_17_method_7_code 12 = .ok (.getfield 13, 3) := by decide +kernel
theorem d_17_7_15 : decode prog_17_method_7_code 15 = .ok (.iload 4, 2) := by decide +kernel
theorem d_17_7_17 : decode prog_17_method_7_code 17 = .ok (.iconst 0, 1) := by decide +kernel
theorem d_17_7_18 : decode prog_17_method_7_code 18 = .ok (.iastore, 1) := by decide +kernel
theorem d_17_7_19 : decode prog_17_method_7_code 19 = .ok (.iinc 4 1, 3) := by decide +kernel
theorem d_17_7_22 : decode prog_17_method_7_code 22 = .ok (.goto (-19), 3) := by decide +kernel
def y_FR_set : MethodName := ⟨"NumberHouseModel$FloatRows", "set", "([IJ)V"⟩
def F_FR_set_L158 (K_F_FR_set_L3 : Int32 → (Nat → Int32) → ((Nat → Int32) × (Nat → Int32))) (K_F_FR_set_L31 : Int32 → Int64 → (Nat → Int32) → ((Nat → Int32) × (Nat → Int32))) (K_F_FR_set_L134 : Int32 → (Nat → Int32) → ((Nat → Int32) × (Nat → Int32))) (N2 : Int32) (x3 : Int64) (t0_0 : Int32) (t0_1 : Int32) (t0_2 : Int32) (t0_3 : Int32) (t0_4 : Int64) (t0_5 : Int32) (t0_6 : Int32) (t0_7 : Int64) (t0_8 : Int32) (t0_9 : Int64) (t0_10 : Int32) (t1_0 : (Nat → Int32)) (t2_0 : (Nat → Int32)) (t3_0 : (Nat → Int32)) (lx24 : Int32) (lx25 : (Nat → Int32)) (lx43 : Int32) (lx44 : Int64) (lx45 : (Nat → Int32)) (lx63 : Int32) (lx64 : (Nat → Int32)) : Nat → Int32 → Int32 → (Nat → Int32) → ((Nat → Int32) × (Nat → Int32))
  | 0, _, _, _ => default
  | fm + 1, lx88, lx89, lx90 => if ((9 * lx63 : Int32) + 9 : Int32) ≤ lx88 then (K_F_FR_set_L134 (lx63 + 1 : Int32) lx90) else (F_FR_set_L158 K_F_FR_set_L3 K_F_FR_set_L31 K_F_FR_set_L134 N2 x3 t0_0 t0_1 t0_2 t0_3 t0_4 t0_5 t0_6 t0_7 t0_8 t0_9 t0_10 t1_0 t2_0 t3_0 lx24 lx25 lx43 lx44 lx45 lx63 lx64 fm (lx88 + 1 : Int32) (lx89 / 10 : Int32) (upd lx90 lx88.toNatClampNeg (lx89 - lx89 / 10 * 10 : Int32) : (Nat → Int32)))
def F_FR_set_L134 (K_F_FR_set_L3 : Int32 → (Nat → Int32) → ((Nat → Int32) × (Nat → Int32))) (K_F_FR_set_L31 : Int32 → Int64 → (Nat → Int32) → ((Nat → Int32) × (Nat → Int32))) (N2 : Int32) (x3 : Int64) (t0_0 : Int32) (t0_1 : Int32) (t0_2 : Int32) (t0_3 : Int32) (t0_4 : Int64) (t0_5 : Int32) (t0_6 : Int32) (t0_7 : Int64) (t0_8 : Int32) (t0_9 : Int64) (t0_10 : Int32) (t1_0 : (Nat → Int32)) (t2_0 : (Nat → Int32)) (t3_0 : (Nat → Int32)) (lx24 : Int32) (lx25 : (Nat → Int32)) (lx43 : Int32) (lx44 : Int64) (lx45 : (Nat → Int32)) : Nat → Int32 → (Nat → Int32) → ((Nat → Int32) × (Nat → Int32))
  | 0, _, _ => default
  | fm + 1, lx63, lx64 => if (156 : Int32) ≤ lx63 then ((lx45, lx64)) else (F_FR_set_L158 K_F_FR_set_L3 K_F_FR_set_L31 (F_FR_set_L134 K_F_FR_set_L3 K_F_FR_set_L31 N2 x3 t0_0 t0_1 t0_2 t0_3 t0_4 t0_5 t0_6 t0_7 t0_8 t0_9 t0_10 t1_0 t2_0 t3_0 lx24 lx25 lx43 lx44 lx45 fm) N2 x3 t0_0 t0_1 t0_2 t0_3 t0_4 t0_5 t0_6 t0_7 t0_8 t0_9 t0_10 t1_0 t2_0 t3_0 lx24 lx25 lx43 lx44 lx45 lx63 lx64 ((20200 - (9 * lx63 : Int32).toInt).toNat + 1) (9 * lx63 : Int32) (lx45 lx63.toNatClampNeg : Int32) lx64)
def F_FR_set_L61 (K_F_FR_set_L3 : Int32 → (Nat → Int32) → ((Nat → Int32) × (Nat → Int32))) (K_F_FR_set_L31 : Int32 → Int64 → (Nat → Int32) → ((Nat → Int32) × (Nat → Int32))) (N2 : Int32) (x3 : Int64) (t0_0 : Int32) (t0_1 : Int32) (t0_2 : Int32) (t0_3 : Int32) (t0_4 : Int64) (t0_5 : Int32) (t0_6 : Int32) (t0_7 : Int64) (t0_8 : Int32) (t0_9 : Int64) (t0_10 : Int32) (t1_0 : (Nat → Int32)) (t2_0 : (Nat → Int32)) (t3_0 : (Nat → Int32)) (lx24 : Int32) (lx25 : (Nat → Int32)) (lx43 : Int32) (lx44 : Int64) (lx45 : (Nat → Int32)) (j134 : Int64) (j132 : Int64) : Nat → Int32 → Int64 → (Nat → Int32) → ((Nat → Int32) × (Nat → Int32))
  | 0, _, _, _ => default
  | fm + 1, lx138, lx139, lx140 => if (156 : Int32) ≤ lx138 then (K_F_FR_set_L31 (lx43 + 1 : Int32) j134 lx140) else (F_FR_set_L61 K_F_FR_set_L3 K_F_FR_set_L31 N2 x3 t0_0 t0_1 t0_2 t0_3 t0_4 t0_5 t0_6 t0_7 t0_8 t0_9 t0_10 t1_0 t2_0 t3_0 lx24 lx25 lx43 lx44 lx45 j134 j132 fm (lx138 + 1 : Int32) (((lx139 + (j132 * ((t1_0 (lx138 - lx43 : Int32).toNatClampNeg : Int32).toInt64 : Int64) : Int64) : Int64) + ((lx140 lx138.toNatClampNeg : Int32).toInt64 : Int64) : Int64) / 1000000000 : Int64) (upd lx140 lx138.toNatClampNeg ((((lx139 + (j132 * ((t1_0 (lx138 - lx43 : Int32).toNatClampNeg : Int32).toInt64 : Int64) : Int64) : Int64) + ((lx140 lx138.toNatClampNeg : Int32).toInt64 : Int64) : Int64) - ((lx139 + (j132 * ((t1_0 (lx138 - lx43 : Int32).toNatClampNeg : Int32).toInt64 : Int64) : Int64) : Int64) + ((lx140 lx138.toNatClampNeg : Int32).toInt64 : Int64) : Int64) / 1000000000 * 1000000000 : Int64).toInt32 : Int32) : (Nat → Int32)))
def F_FR_set_L31 (K_F_FR_set_L3 : Int32 → (Nat → Int32) → ((Nat → Int32) × (Nat → Int32))) (N2 : Int32) (x3 : Int64) (t0_0 : Int32) (t0_1 : Int32) (t0_2 : Int32) (t0_3 : Int32) (t0_4 : Int64) (t0_5 : Int32) (t0_6 : Int32) (t0_7 : Int64) (t0_8 : Int32) (t0_9 : Int64) (t0_10 : Int32) (t1_0 : (Nat → Int32)) (t2_0 : (Nat → Int32)) (t3_0 : (Nat → Int32)) (lx24 : Int32) (lx25 : (Nat → Int32)) : Nat → Int32 → Int64 → (Nat → Int32) → ((Nat → Int32) × (Nat → Int32))
  | 0, _, _, _ => default
  | fm + 1, lx43, lx44, lx45 => if (lg_cmp lx44 0 : Int32) ≤ (0 : Int32) then (F_FR_set_L134 K_F_FR_set_L3 (F_FR_set_L31 K_F_FR_set_L3 N2 x3 t0_0 t0_1 t0_2 t0_3 t0_4 t0_5 t0_6 t0_7 t0_8 t0_9 t0_10 t1_0 t2_0 t3_0 lx24 lx25 fm) N2 x3 t0_0 t0_1 t0_2 t0_3 t0_4 t0_5 t0_6 t0_7 t0_8 t0_9 t0_10 t1_0 t2_0 t3_0 lx24 lx25 lx43 lx44 lx45 ((156 - (0 : Int32).toInt).toNat + 1) 0 t3_0) else (F_FR_set_L61 K_F_FR_set_L3 (F_FR_set_L31 K_F_FR_set_L3 N2 x3 t0_0 t0_1 t0_2 t0_3 t0_4 t0_5 t0_6 t0_7 t0_8 t0_9 t0_10 t1_0 t2_0 t3_0 lx24 lx25 fm) N2 x3 t0_0 t0_1 t0_2 t0_3 t0_4 t0_5 t0_6 t0_7 t0_8 t0_9 t0_10 t1_0 t2_0 t3_0 lx24 lx25 lx43 lx44 lx45 (lx44 / 1000000000 : Int64) (lx44 - lx44 / 1000000000 * 1000000000 : Int64) ((156 - lx43.toInt).toNat + 1) lx43 0 lx45)
def F_FR_set_L3 (N2 : Int32) (x3 : Int64) (t0_0 : Int32) (t0_1 : Int32) (t0_2 : Int32) (t0_3 : Int32) (t0_4 : Int64) (t0_5 : Int32) (t0_6 : Int32) (t0_7 : Int64) (t0_8 : Int32) (t0_9 : Int64) (t0_10 : Int32) (t1_0 : (Nat → Int32)) (t2_0 : (Nat → Int32)) (t3_0 : (Nat → Int32)) : Nat → Int32 → (Nat → Int32) → ((Nat → Int32) × (Nat → Int32))
  | 0, _, _ => default
  | fm + 1, lx24, lx25 => if (156 : Int32) ≤ lx24 then (F_FR_set_L31 (F_FR_set_L3 N2 x3 t0_0 t0_1 t0_2 t0_3 t0_4 t0_5 t0_6 t0_7 t0_8 t0_9 t0_10 t1_0 t2_0 t3_0 fm) N2 x3 t0_0 t0_1 t0_2 t0_3 t0_4 t0_5 t0_6 t0_7 t0_8 t0_9 t0_10 t1_0 t2_0 t3_0 lx24 lx25 1000000 0 x3 lx25) else (F_FR_set_L3 N2 x3 t0_0 t0_1 t0_2 t0_3 t0_4 t0_5 t0_6 t0_7 t0_8 t0_9 t0_10 t1_0 t2_0 t3_0 fm (lx24 + 1 : Int32) (upd lx25 lx24.toNatClampNeg 0 : (Nat → Int32)))
def F_FR_set (N2 : Int32) (x3 : Int64) (t0_0 : Int32) (t0_1 : Int32) (t0_2 : Int32) (t0_3 : Int32) (t0_4 : Int64) (t0_5 : Int32) (t0_6 : Int32) (t0_7 : Int64) (t0_8 : Int32) (t0_9 : Int64) (t0_10 : Int32) (t1_0 : (Nat → Int32)) (t2_0 : (Nat → Int32)) (t3_0 : (Nat → Int32)) : (Nat → Int32) × (Nat → Int32) := F_FR_set_L3 N2 x3 t0_0 t0_1 t0_2 t0_3 t0_4 t0_5 t0_6 t0_7 t0_8 t0_9 t0_10 t1_0 t2_0 t3_0 ((156 - (0 : Int32).toInt).toNat + 1) 0 t2_0
def S_FR_set_L158 (K_S_FR_set_L3 : Int32 → (Nat → Int32) → Prop) (K_S_FR_set_L31 : Int32 → Int64 → (Nat → Int32) → Prop) (K_S_FR_set_L134 : Int32 → (Nat → Int32) → Prop) (N2 : Int32) (x3 : Int64) (t0_0 : Int32) (t0_1 : Int32) (t0_2 : Int32) (t0_3 : Int32) (t0_4 : Int64) (t0_5 : Int32) (t0_6 : Int32) (t0_7 : Int64) (t0_8 : Int32) (t0_9 : Int64) (t0_10 : Int32) (t1_0 : (Nat → Int32)) (t2_0 : (Nat → Int32)) (t3_0 : (Nat → Int32)) (lx24 : Int32) (lx25 : (Nat → Int32)) (lx43 : Int32) (lx44 : Int64) (lx45 : (Nat → Int32)) (lx63 : Int32) (lx64 : (Nat → Int32)) : Nat → Int32 → Int32 → (Nat → Int32) → Prop
  | 0, _, _, _ => False
  | fm + 1, lx88, lx89, lx90 => if ((9 * lx63 : Int32) + 9 : Int32) ≤ lx88 then (K_S_FR_set_L134 (lx63 + 1 : Int32) lx90) else ((lx88.toInt + 1 ≤ N2.toInt) ∧ (S_FR_set_L158 K_S_FR_set_L3 K_S_FR_set_L31 K_S_FR_set_L134 N2 x3 t0_0 t0_1 t0_2 t0_3 t0_4 t0_5 t0_6 t0_7 t0_8 t0_9 t0_10 t1_0 t2_0 t3_0 lx24 lx25 lx43 lx44 lx45 lx63 lx64 fm (lx88 + 1 : Int32) (lx89 / 10 : Int32) (upd lx90 lx88.toNatClampNeg (lx89 - lx89 / 10 * 10 : Int32) : (Nat → Int32))))
def S_FR_set_L134 (K_S_FR_set_L3 : Int32 → (Nat → Int32) → Prop) (K_S_FR_set_L31 : Int32 → Int64 → (Nat → Int32) → Prop) (N2 : Int32) (x3 : Int64) (t0_0 : Int32) (t0_1 : Int32) (t0_2 : Int32) (t0_3 : Int32) (t0_4 : Int64) (t0_5 : Int32) (t0_6 : Int32) (t0_7 : Int64) (t0_8 : Int32) (t0_9 : Int64) (t0_10 : Int32) (t1_0 : (Nat → Int32)) (t2_0 : (Nat → Int32)) (t3_0 : (Nat → Int32)) (lx24 : Int32) (lx25 : (Nat → Int32)) (lx43 : Int32) (lx44 : Int64) (lx45 : (Nat → Int32)) : Nat → Int32 → (Nat → Int32) → Prop
  | 0, _, _ => False
  | fm + 1, lx63, lx64 => if (156 : Int32) ≤ lx63 then (True) else (S_FR_set_L158 K_S_FR_set_L3 K_S_FR_set_L31 (S_FR_set_L134 K_S_FR_set_L3 K_S_FR_set_L31 N2 x3 t0_0 t0_1 t0_2 t0_3 t0_4 t0_5 t0_6 t0_7 t0_8 t0_9 t0_10 t1_0 t2_0 t3_0 lx24 lx25 lx43 lx44 lx45 fm) N2 x3 t0_0 t0_1 t0_2 t0_3 t0_4 t0_5 t0_6 t0_7 t0_8 t0_9 t0_10 t1_0 t2_0 t3_0 lx24 lx25 lx43 lx44 lx45 lx63 lx64 ((20200 - (9 * lx63 : Int32).toInt).toNat + 1) (9 * lx63 : Int32) (lx45 lx63.toNatClampNeg : Int32) lx64)
def S_FR_set_L61 (K_S_FR_set_L3 : Int32 → (Nat → Int32) → Prop) (K_S_FR_set_L31 : Int32 → Int64 → (Nat → Int32) → Prop) (N2 : Int32) (x3 : Int64) (t0_0 : Int32) (t0_1 : Int32) (t0_2 : Int32) (t0_3 : Int32) (t0_4 : Int64) (t0_5 : Int32) (t0_6 : Int32) (t0_7 : Int64) (t0_8 : Int32) (t0_9 : Int64) (t0_10 : Int32) (t1_0 : (Nat → Int32)) (t2_0 : (Nat → Int32)) (t3_0 : (Nat → Int32)) (lx24 : Int32) (lx25 : (Nat → Int32)) (lx43 : Int32) (lx44 : Int64) (lx45 : (Nat → Int32)) (j134 : Int64) (j132 : Int64) : Nat → Int32 → Int64 → (Nat → Int32) → Prop
  | 0, _, _, _ => False
  | fm + 1, lx138, lx139, lx140 => if (156 : Int32) ≤ lx138 then (K_S_FR_set_L31 (lx43 + 1 : Int32) j134 lx140) else ((0 ≤ (lx138 - lx43 : Int32).toInt) ∧ (((lx138 - lx43 : Int32).toInt ≤ 155) ∧ ((0 ≤ lx138.toInt) ∧ (S_FR_set_L61 K_S_FR_set_L3 K_S_FR_set_L31 N2 x3 t0_0 t0_1 t0_2 t0_3 t0_4 t0_5 t0_6 t0_7 t0_8 t0_9 t0_10 t1_0 t2_0 t3_0 lx24 lx25 lx43 lx44 lx45 j134 j132 fm (lx138 + 1 : Int32) (((lx139 + (j132 * ((t1_0 (lx138 - lx43 : Int32).toNatClampNeg : Int32).toInt64 : Int64) : Int64) : Int64) + ((lx140 lx138.toNatClampNeg : Int32).toInt64 : Int64) : Int64) / 1000000000 : Int64) (upd lx140 lx138.toNatClampNeg ((((lx139 + (j132 * ((t1_0 (lx138 - lx43 : Int32).toNatClampNeg : Int32).toInt64 : Int64) : Int64) : Int64) + ((lx140 lx138.toNatClampNeg : Int32).toInt64 : Int64) : Int64) - ((lx139 + (j132 * ((t1_0 (lx138 - lx43 : Int32).toNatClampNeg : Int32).toInt64 : Int64) : Int64) : Int64) + ((lx140 lx138.toNatClampNeg : Int32).toInt64 : Int64) : Int64) / 1000000000 * 1000000000 : Int64).toInt32 : Int32) : (Nat → Int32))))))
def S_FR_set_L31 (K_S_FR_set_L3 : Int32 → (Nat → Int32) → Prop) (N2 : Int32) (x3 : Int64) (t0_0 : Int32) (t0_1 : Int32) (t0_2 : Int32) (t0_3 : Int32) (t0_4 : Int64) (t0_5 : Int32) (t0_6 : Int32) (t0_7 : Int64) (t0_8 : Int32) (t0_9 : Int64) (t0_10 : Int32) (t1_0 : (Nat → Int32)) (t2_0 : (Nat → Int32)) (t3_0 : (Nat → Int32)) (lx24 : Int32) (lx25 : (Nat → Int32)) : Nat → Int32 → Int64 → (Nat → Int32) → Prop
  | 0, _, _, _ => False
  | fm + 1, lx43, lx44, lx45 => if (lg_cmp lx44 0 : Int32) ≤ (0 : Int32) then (S_FR_set_L134 K_S_FR_set_L3 (S_FR_set_L31 K_S_FR_set_L3 N2 x3 t0_0 t0_1 t0_2 t0_3 t0_4 t0_5 t0_6 t0_7 t0_8 t0_9 t0_10 t1_0 t2_0 t3_0 lx24 lx25 fm) N2 x3 t0_0 t0_1 t0_2 t0_3 t0_4 t0_5 t0_6 t0_7 t0_8 t0_9 t0_10 t1_0 t2_0 t3_0 lx24 lx25 lx43 lx44 lx45 ((156 - (0 : Int32).toInt).toNat + 1) 0 t3_0) else (S_FR_set_L61 K_S_FR_set_L3 (S_FR_set_L31 K_S_FR_set_L3 N2 x3 t0_0 t0_1 t0_2 t0_3 t0_4 t0_5 t0_6 t0_7 t0_8 t0_9 t0_10 t1_0 t2_0 t3_0 lx24 lx25 fm) N2 x3 t0_0 t0_1 t0_2 t0_3 t0_4 t0_5 t0_6 t0_7 t0_8 t0_9 t0_10 t1_0 t2_0 t3_0 lx24 lx25 lx43 lx44 lx45 (lx44 / 1000000000 : Int64) (lx44 - lx44 / 1000000000 * 1000000000 : Int64) ((156 - lx43.toInt).toNat + 1) lx43 0 lx45)
def S_FR_set_L3 (N2 : Int32) (x3 : Int64) (t0_0 : Int32) (t0_1 : Int32) (t0_2 : Int32) (t0_3 : Int32) (t0_4 : Int64) (t0_5 : Int32) (t0_6 : Int32) (t0_7 : Int64) (t0_8 : Int32) (t0_9 : Int64) (t0_10 : Int32) (t1_0 : (Nat → Int32)) (t2_0 : (Nat → Int32)) (t3_0 : (Nat → Int32)) : Nat → Int32 → (Nat → Int32) → Prop
  | 0, _, _ => False
  | fm + 1, lx24, lx25 => if (156 : Int32) ≤ lx24 then (S_FR_set_L31 (S_FR_set_L3 N2 x3 t0_0 t0_1 t0_2 t0_3 t0_4 t0_5 t0_6 t0_7 t0_8 t0_9 t0_10 t1_0 t2_0 t3_0 fm) N2 x3 t0_0 t0_1 t0_2 t0_3 t0_4 t0_5 t0_6 t0_7 t0_8 t0_9 t0_10 t1_0 t2_0 t3_0 lx24 lx25 1000000 0 x3 lx25) else (S_FR_set_L3 N2 x3 t0_0 t0_1 t0_2 t0_3 t0_4 t0_5 t0_6 t0_7 t0_8 t0_9 t0_10 t1_0 t2_0 t3_0 fm (lx24 + 1 : Int32) (upd lx25 lx24.toNatClampNeg 0 : (Nat → Int32)))
def S_FR_set (N2 : Int32) (x3 : Int64) (t0_0 : Int32) (t0_1 : Int32) (t0_2 : Int32) (t0_3 : Int32) (t0_4 : Int64) (t0_5 : Int32) (t0_6 : Int32) (t0_7 : Int64) (t0_8 : Int32) (t0_9 : Int64) (t0_10 : Int32) (t1_0 : (Nat → Int32)) (t2_0 : (Nat → Int32)) (t3_0 : (Nat → Int32)) : Prop := S_FR_set_L3 N2 x3 t0_0 t0_1 t0_2 t0_3 t0_4 t0_5 t0_6 t0_7 t0_8 t0_9 t0_10 t1_0 t2_0 t3_0 ((156 - (0 : Int32).toInt).toNat + 1) 0 t2_0
set_option maxRecDepth 100000 in
set_option maxHeartbeats 4000000 in
theorem X_FR_set (l : Launch) (D : va_G) (g : Nat → ClassId) (q : Nat → Nat) (ws : va_W) (k2 : Nat) (N2 : Int32) (hB2 : q_isRow (msh g q) g k2 N2) (x3 : Int64) (ne_k2_146 : k2 ≠ 146) (ne_k2_147 : k2 ≠ 147) (hI : q_I (msh g q) q ws) (t0_0 : Int32) (t0_1 : Int32) (t0_2 : Int32) (t0_3 : Int32) (t0_4 : Int64) (t0_5 : Int32) (t0_6 : Int32) (t0_7 : Int64) (t0_8 : Int32) (t0_9 : Int64) (t0_10 : Int32) (hT0 : ws[145]? = (some (q 145, .inr (15, [.int t0_0, .ref (q 146), .ref (q 147), .ref (q 148), .ref (q 149), .ref (q 150), .ref (q 151), .ref (q 152), .int t0_1, .int t0_2, .int t0_3, .long t0_4, .int t0_5, .int t0_6, .long t0_7, .int t0_8, .long t0_9, .int t0_10])) : Option (Nat × va_E))) (t1_0 : (Nat → Int32)) (hT1 : ws[146]? = (some (q 146, .inl (g 0, (156 : Int32).toNatClampNeg, .inl t1_0)) : Option (Nat × va_E))) (t2_0 : (Nat → Int32)) (hT2 : ws[147]? = (some (q 147, .inl (g 0, (156 : Int32).toNatClampNeg, .inl t2_0)) : Option (Nat × va_E))) (t3_0 : (Nat → Int32)) (hT3 : ws[k2]? = (some (q k2, .inl (g 0, N2.toNatClampNeg, .inl t3_0)) : Option (Nat × va_E))) (hS : True ∧ S_FR_set N2 x3 t0_0 t0_1 t0_2 t0_3 t0_4 t0_5 t0_6 t0_7 t0_8 t0_9 t0_10 t1_0 t2_0 t3_0) : q_mV l y_FR_set prog_17_method_7_code 12 1 0 0 D g [.ref (q 145), .ref (q k2), .long x3] ws (fun u => q_I (msh g q) q u ∧ q_un ws u [147, k2] ∧ ∃ (u2_0 : (Nat → Int32)) (u3_0 : (Nat → Int32)), u[147]? = (some (q 147, .inl (g 0, (156 : Int32).toNatClampNeg, .inl u2_0)) : Option (Nat × va_E)) ∧ u[k2]? = (some (q k2, .inl (g 0, N2.toNatClampNeg, .inl u3_0)) : Option (Nat × va_E)) ∧ (u2_0, u3_0) = (F_FR_set N2 x3 t0_0 t0_1 t0_2 t0_3 t0_4 t0_5 t0_6 t0_7 t0_8 t0_9 t0_10 t1_0 t2_0 t3_0)) := by
  intro sz
  refine q_into (by decide) (Nat.le_of_ble_eq_true rfl) ?_
  intro p e s m below meth c ls hsz C0 V hl
  have hx := C0.1
  have hb := C0.2.1
  have hfk20 : q_F (0 ≤ N2.toInt ∧ N2.toInt ≤ 20200) := hB2.2
  obtain ⟨yy0_0, yy0_1, yy0_2, yy0_3, yy0_4, yy0_5, yy0_6, yy0_7, yy0_8, yy0_9, yy0_10, hh0, btt0_2⟩ := n_o145 hI
  obtain ⟨rfl, rfl, rfl, rfl, rfl, rfl, rfl, rfl, rfl, rfl, rfl⟩ : t0_0 = yy0_0 ∧ t0_1 = yy0_1 ∧ t0_2 = yy0_2 ∧ t0_3 = yy0_3 ∧ t0_4 = yy0_4 ∧ t0_5 = yy0_5 ∧ t0_6 = yy0_6 ∧ t0_7 = yy0_7 ∧ t0_8 = yy0_8 ∧ t0_9 = yy0_9 ∧ t0_10 = yy0_10 := by have z := Option.some.inj (hT0.symm.trans hh0); simpa using z
  replace btt0_2 : q_F (0 ≤ t0_2.toInt ∧ t0_2.toInt ≤ 1) := btt0_2
  have hF : q_un ws ws [147, k2] := q_u0
  have hl : lv_has ls 12 [(0, .ref (q 145)), (1, .ref (q k2)), (2, .long x3)] := hl
  refine lv_iconst (v := 0) hx hb d_17_7_0 (by decide) ?_
  refine lv_istore (lv' := [(4, .int 0), (0, .ref (q 145)), (1, .ref (q k2)), (2, .long x3)]) hx hb d_17_7_1 hl (by decide) rfl (fun ls hl => ?_)
  refine q_loop (X := Int32 × (Nat → Int32)) (fun z H locs ls w29 => q_F (0 ≤ z.1.toInt) ∧ q_F (z.1.toInt ≤ 156) ∧ q_Wd D g (va_A ws sz) s w29 H locs ∧ lv_has ls 12 [(4, .int z.1), (0, .ref (q 145)), (1, .ref (q k2)), (2, .long x3)] ∧ q_I (msh g q) q w29 ∧ q_un ws w29 [147, k2] ∧ w29[145]? = (some (q 145, .inr (15, [.int t0_0, .ref (q 146), .ref (q 147), .ref (q 148), .ref (q 149), .ref (q 150), .ref (q 151), .ref (q 152), .int t0_1, .int t0_2, .int t0_3, .long t0_4, .int t0_5, .int t0_6, .long t0_7, .int t0_8, .long t0_9, .int t0_10])) : Option (Nat × va_E)) ∧ w29[146]? = (some (q 146, .inl (g 0, (156 : Int32).toNatClampNeg, .inl t1_0)) : Option (Nat × va_E)) ∧ w29[147]? = (some (q 147, .inl (g 0, (156 : Int32).toNatClampNeg, .inl z.2)) : Option (Nat × va_E)) ∧ w29[k2]? = (some (q k2, .inl (g 0, N2.toNatClampNeg, .inl t3_0)) : Option (Nat × va_E)) ∧ (∃ n, (156 - z.1.toInt).toNat < n ∧ F_FR_set_L3 N2 x3 t0_0 t0_1 t0_2 t0_3 t0_4 t0_5 t0_6 t0_7 t0_8 t0_9 t0_10 t1_0 t2_0 t3_0 n z.1 z.2 = (F_FR_set N2 x3 t0_0 t0_1 t0_2 t0_3 t0_4 t0_5 t0_6 t0_7 t0_8 t0_9 t0_10 t1_0 t2_0 t3_0) ∧ True ∧ S_FR_set_L3 N2 x3 t0_0 t0_1 t0_2 t0_3 t0_4 t0_5 t0_6 t0_7 t0_8 t0_9 t0_10 t1_0 t2_0 t3_0 n z.1 z.2)) (fun z => (156 - z.1.toInt).toNat) ?_ ((0 : Int32), (t2_0 : (Nat → Int32))) _ _ _ ws ⟨(show q_F (0 ≤ 0) from (show 0 ≤ 0 from by omega)), (show q_F (0 ≤ 156) from (show 0 ≤ 156 from by omega)), V, q_lw hl (q_lw1 0 rfl (q_lw1 1 rfl (q_lw1 2 rfl (q_lw1 3 rfl q_lw0)))), hI, hF, hT0, hT1, hT2, hT3, ⟨((156 - (0 : Int32).toInt).toNat + 1), Nat.lt_succ_self _, (show F_FR_set_L3 N2 x3 t0_0 t0_1 t0_2 t0_3 t0_4 t0_5 t0_6 t0_7 t0_8 t0_9 t0_10 t1_0 t2_0 t3_0 ((156 - (0 : Int32).toInt).toNat + 1) 0 t2_0 = (F_FR_set N2 x3 t0_0 t0_1 t0_2 t0_3 t0_4 t0_5 t0_6 t0_7 t0_8 t0_9 t0_10 t1_0 t2_0 t3_0) from (by rw [F_FR_set.eq_1])), (show True ∧ S_FR_set_L3 N2 x3 t0_0 t0_1 t0_2 t0_3 t0_4 t0_5 t0_6 t0_7 t0_8 t0_9 t0_10 t1_0 t2_0 t3_0 ((156 - (0 : Int32).toInt).toNat + 1) 0 t2_0 from (by have h := hS; rw [S_FR_set.eq_1] at h; with_reducible exact h))⟩⟩
  rintro ⟨lx24, lx25⟩ H locs ls w29 ⟨i26, i27, V, hl, hI, hF, hO30, hO31, hO32, hO33, ⟨fu36, hf37, hR34, hS35⟩⟩ ih28
  obtain ⟨fm38, rfl⟩ : ∃ m, fu36 = m + 1 := ⟨fu36 - 1, by omega⟩
  replace i26 : q_F (0 ≤ lx24.toInt) := i26
  replace i27 : q_F (lx24.toInt ≤ 156) := i27
  replace hl : lv_has ls 12 [(4, .int lx24), (0, .ref (q 145)), (1, .ref (q k2)), (2, .long x3)] := hl
  replace hO30 : w29[145]? = (some (q 145, .inr (15, [.int t0_0, .ref (q 146), .ref (q 147), .ref (q 148), .ref (q 149), .ref (q 150), .ref (q 151), .ref (q 152), .int t0_1, .int t0_2, .int t0_3, .long t0_4, .int t0_5, .int t0_6, .long t0_7, .int t0_8, .long t0_9, .int t0_10])) : Option (Nat × va_E)) := hO30
  replace hO31 : w29[146]? = (some (q 146, .inl (g 0, (156 : Int32).toNatClampNeg, .inl t1_0)) : Option (Nat × va_E)) := hO31
  replace hO32 : w29[147]? = (some (q 147, .inl (g 0, (156 : Int32).toNatClampNeg, .inl lx25)) : Option (Nat × va_E)) := hO32
  replace hO33 : w29[k2]? = (some (q k2, .inl (g 0, N2.toNatClampNeg, .inl t3_0)) : Option (Nat × va_E)) := hO33
  refine lv_iload hx hb d_17_7_3 (lv_at hl 0 rfl) ?_
  refine lv_sipush (v := 156) hx hb d_17_7_5 (by decide) ?_
  refine lv_icmp_ge (tgt := 25) hx hb d_17_7_8 (by decide) (fun c39 => ?_) (fun c39 => ?_)
  ·
    have b40 : q_F (156 ≤ lx24.toInt) := (q_leI c39)
    refine lv_lload_n hx hb d_17_7_25 rfl (lv_at hl 3 rfl) ?_
    refine lv_lstore (lv' := [(4, .long x3), (0, .ref (q 145)), (1, .ref (q k2)), (2, .long x3)]) hx hb d_17_7_26 hl (by decide) rfl (fun ls hl => ?_)
    refine lv_iconst (v := 0) hx hb d_17_7_28 (by decide) ?_
    refine lv_istore (lv' := [(6, .int 0), (4, .long x3), (0, .ref (q 145)), (1, .ref (q k2)), (2, .long x3)]) hx hb d_17_7_29 hl (by decide) rfl (fun ls hl => ?_)
    refine q_loop (X := Nat × Int32 × Int64 × (Nat → Int32)) (fun z H locs ls w47 => q_Wd D g (va_A ws sz) s w47 H locs ∧ lv_has ls 12 [(6, .int z.2.1), (4, .long z.2.2.1), (0, .ref (q 145)), (1, .ref (q k2))] ∧ q_I (msh g q) q w47 ∧ q_un ws w47 [147, k2] ∧ w47[145]? = (some (q 145, .inr (15, [.int t0_0, .ref (q 146), .ref (q 147), .ref (q 148), .ref (q 149), .ref (q 150), .ref (q 151), .ref (q 152), .int t0_1, .int t0_2, .int t0_3, .long t0_4, .int t0_5, .int t0_6, .long t0_7, .int t0_8, .long t0_9, .int t0_10])) : Option (Nat × va_E)) ∧ w47[146]? = (some (q 146, .inl (g 0, (156 : Int32).toNatClampNeg, .inl t1_0)) : Option (Nat × va_E)) ∧ w47[147]? = (some (q 147, .inl (g 0, (156 : Int32).toNatClampNeg, .inl z.2.2.2)) : Option (Nat × va_E)) ∧ w47[k2]? = (some (q k2, .inl (g 0, N2.toNatClampNeg, .inl t3_0)) : Option (Nat × va_E)) ∧ F_FR_set_L31 (F_FR_set_L3 N2 x3 t0_0 t0_1 t0_2 t0_3 t0_4 t0_5 t0_6 t0_7 t0_8 t0_9 t0_10 t1_0 t2_0 t3_0 fm38) N2 x3 t0_0 t0_1 t0_2 t0_3 t0_4 t0_5 t0_6 t0_7 t0_8 t0_9 t0_10 t1_0 t2_0 t3_0 lx24 lx25 z.1 z.2.1 z.2.2.1 z.2.2.2 = (F_FR_set N2 x3 t0_0 t0_1 t0_2 t0_3 t0_4 t0_5 t0_6 t0_7 t0_8 t0_9 t0_10 t1_0 t2_0 t3_0) ∧ True ∧ S_FR_set_L31 (S_FR_set_L3 N2 x3 t0_0 t0_1 t0_2 t0_3 t0_4 t0_5 t0_6 t0_7 t0_8 t0_9 t0_10 t1_0 t2_0 t3_0 fm38) N2 x3 t0_0 t0_1 t0_2 t0_3 t0_4 t0_5 t0_6 t0_7 t0_8 t0_9 t0_10 t1_0 t2_0 t3_0 lx24 lx25 z.1 z.2.1 z.2.2.1 z.2.2.2) (fun z => z.1) ?_ ((1000000 : Nat), (0 : Int32), (x3 : Int64), (lx25 : (Nat → Int32))) _ _ _ w29 ⟨V, q_lw hl (q_lw1 0 rfl (q_lw1 1 rfl (q_lw1 2 rfl (q_lw1 3 rfl q_lw0)))), hI, hF, hO30, hO31, hO32, hO33, (show F_FR_set_L31 (F_FR_set_L3 N2 x3 t0_0 t0_1 t0_2 t0_3 t0_4 t0_5 t0_6 t0_7 t0_8 t0_9 t0_10 t1_0 t2_0 t3_0 fm38) N2 x3 t0_0 t0_1 t0_2 t0_3 t0_4 t0_5 t0_6 t0_7 t0_8 t0_9 t0_10 t1_0 t2_0 t3_0 lx24 lx25 1000000 0 x3 lx25 = (F_FR_set N2 x3 t0_0 t0_1 t0_2 t0_3 t0_4 t0_5 t0_6 t0_7 t0_8 t0_9 t0_10 t1_0 t2_0 t3_0) from Eq.trans (by rw [F_FR_set_L3.eq_2, if_pos c39]) hR34), (show True ∧ S_FR_set_L31 (S_FR_set_L3 N2 x3 t0_0 t0_1 t0_2 t0_3 t0_4 t0_5 t0_6 t0_7 t0_8 t0_9 t0_10 t1_0 t2_0 t3_0 fm38) N2 x3 t0_0 t0_1 t0_2 t0_3 t0_4 t0_5 t0_6 t0_7 t0_8 t0_9 t0_10 t1_0 t2_0 t3_0 lx24 lx25 1000000 0 x3 lx25 from (by have h := hS35; rw [S_FR_set_L3.eq_2] at h; rw [if_pos c39] at h; with_reducible exact h))⟩
    rintro ⟨fu54, lx43, lx44, lx45⟩ H locs ls w47 ⟨V, hl, hI, hF, hO48, hO49, hO50, hO51, hR52, hS53⟩ ih46
    obtain ⟨fm56, rfl⟩ : ∃ m, fu54 = m + 1 := Nat.exists_eq_succ_of_ne_zero (fun e => by subst e; rw [S_FR_set_L31.eq_1] at hS53; exact hS53.2)
    replace hl : lv_has ls 12 [(6, .int lx43), (4, .long lx44), (0, .ref (q 145)), (1, .ref (q k2))] := hl
    replace hO48 : w47[145]? = (some (q 145, .inr (15, [.int t0_0, .ref (q 146), .ref (q 147), .ref (q 148), .ref (q 149), .ref (q 150), .ref (q 151), .ref (q 152), .int t0_1, .int t0_2, .int t0_3, .long t0_4, .int t0_5, .int t0_6, .long t0_7, .int t0_8, .long t0_9, .int t0_10])) : Option (Nat × va_E)) := hO48
    replace hO49 : w47[146]? = (some (q 146, .inl (g 0, (156 : Int32).toNatClampNeg, .inl t1_0)) : Option (Nat × va_E)) := hO49
    replace hO50 : w47[147]? = (some (q 147, .inl (g 0, (156 : Int32).toNatClampNeg, .inl lx45)) : Option (Nat × va_E)) := hO50
    replace hO51 : w47[k2]? = (some (q k2, .inl (g 0, N2.toNatClampNeg, .inl t3_0)) : Option (Nat × va_E)) := hO51
    refine lv_lload hx hb d_17_7_31 (lv_at hl 1 rfl) ?_
    refine lv_lconst (v := 0) hx hb d_17_7_33 (by decide) ?_
    refine W.lcmp hx hb d_17_7_34 ?_
    obtain ⟨a57, e58⟩ := q_nm (lg_cmp lx44 0 : Int32)
    refine q_ti (v := a57) e58 ?_
    have b59 : q_F (-1 ≤ a57.toInt ∧ a57.toInt ≤ 1 ∧ ((a57.toInt = -1 ∧ lx44.toInt < 0) ∨ (a57.toInt = 0 ∧ lx44.toInt = 0) ∨ (a57.toInt = 1 ∧ 0 < lx44.toInt))) := (by rw [← e58]; show -1 ≤ (lg_cmp lx44 0 : Int32).toInt ∧ (lg_cmp lx44 0 : Int32).toInt ≤ 1 ∧ (((lg_cmp lx44 0 : Int32).toInt = -1 ∧ lx44.toInt < 0) ∨ ((lg_cmp lx44 0 : Int32).toInt = 0 ∧ lx44.toInt = 0) ∨ ((lg_cmp lx44 0 : Int32).toInt = 1 ∧ 0 < lx44.toInt)); exact (by have y1 : (0 : Int64).toInt = 0 := rfl; have z := s_lcmp (a := lx44) (b := 0); omega))
    refine lv_if_le (tgt := 131) hx hb d_17_7_35 (by decide) (fun c60 => ?_) (fun c60 => ?_)
    ·
      have b61 : q_F (a57.toInt ≤ 0) := (q_leI c60)
      refine lv_iconst (v := 0) hx hb d_17_7_131 (by decide) ?_
      refine lv_istore (lv' := [(6, .int 0), (4, .long lx44), (0, .ref (q 145)), (1, .ref (q k2))]) hx hb d_17_7_132 hl (by decide) rfl (fun ls hl => ?_)
      refine q_loop (X := Int32 × (Nat → Int32)) (fun z H locs ls w68 => q_F (0 ≤ z.1.toInt) ∧ q_F (z.1.toInt ≤ 156) ∧ q_Wd D g (va_A ws sz) s w68 H locs ∧ lv_has ls 12 [(6, .int z.1), (0, .ref (q 145)), (1, .ref (q k2))] ∧ q_I (msh g q) q w68 ∧ q_un ws w68 [147, k2] ∧ w68[145]? = (some (q 145, .inr (15, [.int t0_0, .ref (q 146), .ref (q 147), .ref (q 148), .ref (q 149), .ref (q 150), .ref (q 151), .ref (q 152), .int t0_1, .int t0_2, .int t0_3, .long t0_4, .int t0_5, .int t0_6, .long t0_7, .int t0_8, .long t0_9, .int t0_10])) : Option (Nat × va_E)) ∧ w68[146]? = (some (q 146, .inl (g 0, (156 : Int32).toNatClampNeg, .inl t1_0)) : Option (Nat × va_E)) ∧ w68[147]? = (some (q 147, .inl (g 0, (156 : Int32).toNatClampNeg, .inl lx45)) : Option (Nat × va_E)) ∧ w68[k2]? = (some (q k2, .inl (g 0, N2.toNatClampNeg, .inl z.2)) : Option (Nat × va_E)) ∧ (∃ n, (156 - z.1.toInt).toNat < n ∧ F_FR_set_L134 (F_FR_set_L3 N2 x3 t0_0 t0_1 t0_2 t0_3 t0_4 t0_5 t0_6 t0_7 t0_8 t0_9 t0_10 t1_0 t2_0 t3_0 fm38) (F_FR_set_L31 (F_FR_set_L3 N2 x3 t0_0 t0_1 t0_2 t0_3 t0_4 t0_5 t0_6 t0_7 t0_8 t0_9 t0_10 t1_0 t2_0 t3_0 fm38) N2 x3 t0_0 t0_1 t0_2 t0_3 t0_4 t0_5 t0_6 t0_7 t0_8 t0_9 t0_10 t1_0 t2_0 t3_0 lx24 lx25 fm56) N2 x3 t0_0 t0_1 t0_2 t0_3 t0_4 t0_5 t0_6 t0_7 t0_8 t0_9 t0_10 t1_0 t2_0 t3_0 lx24 lx25 lx43 lx44 lx45 n z.1 z.2 = (F_FR_set N2 x3 t0_0 t0_1 t0_2 t0_3 t0_4 t0_5 t0_6 t0_7 t0_8 t0_9 t0_10 t1_0 t2_0 t3_0) ∧ True ∧ S_FR_set_L134 (S_FR_set_L3 N2 x3 t0_0 t0_1 t0_2 t0_3 t0_4 t0_5 t0_6 t0_7 t0_8 t0_9 t0_10 t1_0 t2_0 t3_0 fm38) (S_FR_set_L31 (S_FR_set_L3 N2 x3 t0_0 t0_1 t0_2 t0_3 t0_4 t0_5 t0_6 t0_7 t0_8 t0_9 t0_10 t1_0 t2_0 t3_0 fm38) N2 x3 t0_0 t0_1 t0_2 t0_3 t0_4 t0_5 t0_6 t0_7 t0_8 t0_9 t0_10 t1_0 t2_0 t3_0 lx24 lx25 fm56) N2 x3 t0_0 t0_1 t0_2 t0_3 t0_4 t0_5 t0_6 t0_7 t0_8 t0_9 t0_10 t1_0 t2_0 t3_0 lx24 lx25 lx43 lx44 lx45 n z.1 z.2)) (fun z => (156 - z.1.toInt).toNat) ?_ ((0 : Int32), (t3_0 : (Nat → Int32))) _ _ _ w47 ⟨(show q_F (0 ≤ 0) from (show 0 ≤ 0 from by omega)), (show q_F (0 ≤ 156) from (show 0 ≤ 156 from by omega)), V, q_lw hl (q_lw1 0 rfl (q_lw1 2 rfl (q_lw1 3 rfl q_lw0))), hI, hF, hO48, hO49, hO50, hO51, ⟨((156 - (0 : Int32).toInt).toNat + 1), Nat.lt_succ_self _, (show F_FR_set_L134 (F_FR_set_L3 N2 x3 t0_0 t0_1 t0_2 t0_3 t0_4 t0_5 t0_6 t0_7 t0_8 t0_9 t0_10 t1_0 t2_0 t3_0 fm38) (F_FR_set_L31 (F_FR_set_L3 N2 x3 t0_0 t0_1 t0_2 t0_3 t0_4 t0_5 t0_6 t0_7 t0_8 t0_9 t0_10 t1_0 t2_0 t3_0 fm38) N2 x3 t0_0 t0_1 t0_2 t0_3 t0_4 t0_5 t0_6 t0_7 t0_8 t0_9 t0_10 t1_0 t2_0 t3_0 lx24 lx25 fm56) N2 x3 t0_0 t0_1 t0_2 t0_3 t0_4 t0_5 t0_6 t0_7 t0_8 t0_9 t0_10 t1_0 t2_0 t3_0 lx24 lx25 lx43 lx44 lx45 ((156 - (0 : Int32).toInt).toNat + 1) 0 t3_0 = (F_FR_set N2 x3 t0_0 t0_1 t0_2 t0_3 t0_4 t0_5 t0_6 t0_7 t0_8 t0_9 t0_10 t1_0 t2_0 t3_0) from Eq.trans (by have c60x := c60; rw [← e58] at c60x; rw [F_FR_set_L31.eq_2, if_pos c60x]) hR52), (show True ∧ S_FR_set_L134 (S_FR_set_L3 N2 x3 t0_0 t0_1 t0_2 t0_3 t0_4 t0_5 t0_6 t0_7 t0_8 t0_9 t0_10 t1_0 t2_0 t3_0 fm38) (S_FR_set_L31 (S_FR_set_L3 N2 x3 t0_0 t0_1 t0_2 t0_3 t0_4 t0_5 t0_6 t0_7 t0_8 t0_9 t0_10 t1_0 t2_0 t3_0 fm38) N2 x3 t0_0 t0_1 t0_2 t0_3 t0_4 t0_5 t0_6 t0_7 t0_8 t0_9 t0_10 t1_0 t2_0 t3_0 lx24 lx25 fm56) N2 x3 t0_0 t0_1 t0_2 t0_3 t0_4 t0_5 t0_6 t0_7 t0_8 t0_9 t0_10 t1_0 t2_0 t3_0 lx24 lx25 lx43 lx44 lx45 ((156 - (0 : Int32).toInt).toNat + 1) 0 t3_0 from (by have h := hS53; rw [S_FR_set_L31.eq_2] at h; have c60x := c60; rw [← e58] at c60x; rw [if_pos c60x] at h; with_reducible exact h))⟩⟩
      rintro ⟨lx63, lx64⟩ H locs ls w68 ⟨i65, i66, V, hl, hI, hF, hO69, hO70, hO71, hO72, ⟨fu75, hf76, hR73, hS74⟩⟩ ih67
      obtain ⟨fm77, rfl⟩ : ∃ m, fu75 = m + 1 := ⟨fu75 - 1, by omega⟩
      replace i65 : q_F (0 ≤ lx63.toInt) := i65
      replace i66 : q_F (lx63.toInt ≤ 156) := i66
      replace hl : lv_has ls 12 [(6, .int lx63), (0, .ref (q 145)), (1, .ref (q k2))] := hl
      replace hO69 : w68[145]? = (some (q 145, .inr (15, [.int t0_0, .ref (q 146), .ref (q 147), .ref (q 148), .ref (q 149), .ref (q 150), .ref (q 151), .ref (q 152), .int t0_1, .int t0_2, .int t0_3, .long t0_4, .int t0_5, .int t0_6, .long t0_7, .int t0_8, .long t0_9, .int t0_10])) : Option (Nat × va_E)) := hO69
      replace hO70 : w68[146]? = (some (q 146, .inl (g 0, (156 : Int32).toNatClampNeg, .inl t1_0)) : Option (Nat × va_E)) := hO70
      replace hO71 : w68[147]? = (some (q 147, .inl (g 0, (156 : Int32).toNatClampNeg, .inl lx45)) : Option (Nat × va_E)) := hO71
      replace hO72 : w68[k2]? = (some (q k2, .inl (g 0, N2.toNatClampNeg, .inl lx64)) : Option (Nat × va_E)) := hO72
      refine lv_iload hx hb d_17_7_134 (lv_at hl 0 rfl) ?_
      refine lv_sipush (v := 156) hx hb d_17_7_136 (by decide) ?_
      refine lv_icmp_ge (tgt := 199) hx hb d_17_7_139 (by decide) (fun c78 => ?_) (fun c78 => ?_)
      ·
        have b79 : q_F (156 ≤ lx63.toInt) := (q_leI c78)
        exact q_retv C0 V (⟨hI, hF, lx45, lx64, hO71, hO72, (show (lx45, lx64) = (F_FR_set N2 x3 t0_0 t0_1 t0_2 t0_3 t0_4 t0_5 t0_6 t0_7 t0_8 t0_9 t0_10 t1_0 t2_0 t3_0) from Eq.trans (by rw [F_FR_set_L134.eq_2, if_pos c78]) hR73)⟩) d_17_7_199
      ·
        have b80 : q_F (lx63.toInt < 156) := (q_nleI c78)
        refine lv_aload_n hx hb d_17_7_142 rfl (lv_at hl 1 rfl) ?_
        refine q_get (ci := 15) (j := 2) (v := .ref (q 147)) C0 V i_FR rfl rfl hO69 (by decide) w_2077 rfl d_17_7_143 ?_
        refine lv_iload hx hb d_17_7_146 (lv_at hl 0 rfl) ?_
        refine q_iald C0 V hO71 (q_ix (x := lx63.toInt) rfl (by have t1 : 0 ≤ lx63.toInt := i65; omega) (by have t1 : 0 ≤ lx63.toInt := i65; have t2 : lx63.toInt < 156 := b80; have e9 : (((156 : Int32).toNatClampNeg : Nat) : Int) = 156 := (by decide); omega)) d_17_7_148 ?_
        obtain ⟨a81, e82⟩ := q_nm (lx45 lx63.toNatClampNeg : Int32)
        refine q_ti (v := a81) e82 ?_
        refine lv_istore (lv' := [(7, .int a81), (6, .int lx63), (0, .ref (q 145)), (1, .ref (q k2))]) hx hb d_17_7_149 hl (by decide) rfl (fun ls hl => ?_)
        refine lv_bipush (v := 9) hx hb d_17_7_151 (by decide) ?_
        refine lv_iload hx hb d_17_7_153 (lv_at hl 1 rfl) ?_
        refine lv_imul hx hb d_17_7_155 ?_
        obtain ⟨a83, e84⟩ := q_nm (9 * lx63 : Int32)
        refine q_ti (v := a83) e84 ?_
        have b85 : q_F (a83.toInt = 9 * lx63.toInt) := (by rw [← e84]; show (9 * lx63 : Int32).toInt = 9 * lx63.toInt; exact q_mulI (x := 9) (y := lx63.toInt) (by decide) rfl (by have t1 : 0 ≤ lx63.toInt := i65; have t2 : lx63.toInt ≤ 156 := i66; omega) (by have t1 : 0 ≤ lx63.toInt := i65; have t2 : lx63.toInt ≤ 156 := i66; omega))
        refine lv_istore (lv' := [(8, .int a83), (7, .int a81), (6, .int lx63), (0, .ref (q 145)), (1, .ref (q k2))]) hx hb d_17_7_156 hl (by decide) rfl (fun ls hl => ?_)
        refine q_loop (X := Int32 × Int32 × (Nat → Int32)) (fun z H locs ls w95 => q_F (z.1.toInt ≤ 20200) ∧ q_F (a83.toInt ≤ z.1.toInt) ∧ q_F (z.1.toInt ≤ N2.toInt + 1395) ∧ q_Wd D g (va_A ws sz) s w95 H locs ∧ lv_has ls 12 [(8, .int z.1), (7, .int z.2.1), (6, .int lx63), (0, .ref (q 145)), (1, .ref (q k2))] ∧ q_I (msh g q) q w95 ∧ q_un ws w95 [147, k2] ∧ w95[145]? = (some (q 145, .inr (15, [.int t0_0, .ref (q 146), .ref (q 147), .ref (q 148), .ref (q 149), .ref (q 150), .ref (q 151), .ref (q 152), .int t0_1, .int t0_2, .int t0_3, .long t0_4, .int t0_5, .int t0_6, .long t0_7, .int t0_8, .long t0_9, .int t0_10])) : Option (Nat × va_E)) ∧ w95[146]? = (some (q 146, .inl (g 0, (156 : Int32).toNatClampNeg, .inl t1_0)) : Option (Nat × va_E)) ∧ w95[147]? = (some (q 147, .inl (g 0, (156 : Int32).toNatClampNeg, .inl lx45)) : Option (Nat × va_E)) ∧ w95[k2]? = (some (q k2, .inl (g 0, N2.toNatClampNeg, .inl z.2.2)) : Option (Nat × va_E)) ∧ (∃ n, (20200 - z.1.toInt).toNat < n ∧ F_FR_set_L158 (F_FR_set_L3 N2 x3 t0_0 t0_1 t0_2 t0_3 t0_4 t0_5 t0_6 t0_7 t0_8 t0_9 t0_10 t1_0 t2_0 t3_0 fm38) (F_FR_set_L31 (F_FR_set_L3 N2 x3 t0_0 t0_1 t0_2 t0_3 t0_4 t0_5 t0_6 t0_7 t0_8 t0_9 t0_10 t1_0 t2_0 t3_0 fm38) N2 x3 t0_0 t0_1 t0_2 t0_3 t0_4 t0_5 t0_6 t0_7 t0_8 t0_9 t0_10 t1_0 t2_0 t3_0 lx24 lx25 fm56) (F_FR_set_L134 (F_FR_set_L3 N2 x3 t0_0 t0_1 t0_2 t0_3 t0_4 t0_5 t0_6 t0_7 t0_8 t0_9 t0_10 t1_0 t2_0 t3_0 fm38) (F_FR_set_L31 (F_FR_set_L3 N2 x3 t0_0 t0_1 t0_2 t0_3 t0_4 t0_5 t0_6 t0_7 t0_8 t0_9 t0_10 t1_0 t2_0 t3_0 fm38) N2 x3 t0_0 t0_1 t0_2 t0_3 t0_4 t0_5 t0_6 t0_7 t0_8 t0_9 t0_10 t1_0 t2_0 t3_0 lx24 lx25 fm56) N2 x3 t0_0 t0_1 t0_2 t0_3 t0_4 t0_5 t0_6 t0_7 t0_8 t0_9 t0_10 t1_0 t2_0 t3_0 lx24 lx25 lx43 lx44 lx45 fm77) N2 x3 t0_0 t0_1 t0_2 t0_3 t0_4 t0_5 t0_6 t0_7 t0_8 t0_9 t0_10 t1_0 t2_0 t3_0 lx24 lx25 lx43 lx44 lx45 lx63 lx64 n z.1 z.2.1 z.2.2 = (F_FR_set N2 x3 t0_0 t0_1 t0_2 t0_3 t0_4 t0_5 t0_6 t0_7 t0_8 t0_9 t0_10 t1_0 t2_0 t3_0) ∧ True ∧ S_FR_set_L158 (S_FR_set_L3 N2 x3 t0_0 t0_1 t0_2 t0_3 t0_4 t0_5 t0_6 t0_7 t0_8 t0_9 t0_10 t1_0 t2_0 t3_0 fm38) (S_FR_set_L31 (S_FR_set_L3 N2 x3 t0_0 t0_1 t0_2 t0_3 t0_4 t0_5 t0_6 t0_7 t0_8 t0_9 t0_10 t1_0 t2_0 t3_0 fm38) N2 x3 t0_0 t0_1 t0_2 t0_3 t0_4 t0_5 t0_6 t0_7 t0_8 t0_9 t0_10 t1_0 t2_0 t3_0 lx24 lx25 fm56) (S_FR_set_L134 (S_FR_set_L3 N2 x3 t0_0 t0_1 t0_2 t0_3 t0_4 t0_5 t0_6 t0_7 t0_8 t0_9 t0_10 t1_0 t2_0 t3_0 fm38) (S_FR_set_L31 (S_FR_set_L3 N2 x3 t0_0 t0_1 t0_2 t0_3 t0_4 t0_5 t0_6 t0_7 t0_8 t0_9 t0_10 t1_0 t2_0 t3_0 fm38) N2 x3 t0_0 t0_1 t0_2 t0_3 t0_4 t0_5 t0_6 t0_7 t0_8 t0_9 t0_10 t1_0 t2_0 t3_0 lx24 lx25 fm56) N2 x3 t0_0 t0_1 t0_2 t0_3 t0_4 t0_5 t0_6 t0_7 t0_8 t0_9 t0_10 t1_0 t2_0 t3_0 lx24 lx25 lx43 lx44 lx45 fm77) N2 x3 t0_0 t0_1 t0_2 t0_3 t0_4 t0_5 t0_6 t0_7 t0_8 t0_9 t0_10 t1_0 t2_0 t3_0 lx24 lx25 lx43 lx44 lx45 lx63 lx64 n z.1 z.2.1 z.2.2)) (fun z => (20200 - z.1.toInt).toNat) ?_ ((a83 : Int32), (a81 : Int32), (lx64 : (Nat → Int32))) _ _ _ w68 ⟨(show q_F (a83.toInt ≤ 20200) from (show a83.toInt ≤ 20200 from by have t1 : lx63.toInt ≤ 156 := i66; have t2 : a83.toInt = 9 * lx63.toInt := b85; omega)), (show q_F (a83.toInt ≤ a83.toInt) from (show a83.toInt ≤ a83.toInt from by omega)), (show q_F (a83.toInt ≤ N2.toInt + 1395) from (show a83.toInt ≤ N2.toInt + 1395 from by have t1 : 0 ≤ N2.toInt ∧ N2.toInt ≤ 20200 := hfk20; have t2 : lx63.toInt < 156 := b80; have t3 : a83.toInt = 9 * lx63.toInt := b85; omega)), V, q_lw hl (q_lw1 0 rfl (q_lw1 1 rfl (q_lw1 2 rfl (q_lw1 3 rfl (q_lw1 4 rfl q_lw0))))), hI, hF, hO69, hO70, hO71, hO72, ⟨((20200 - a83.toInt).toNat + 1), Nat.lt_succ_self _, (show F_FR_set_L158 (F_FR_set_L3 N2 x3 t0_0 t0_1 t0_2 t0_3 t0_4 t0_5 t0_6 t0_7 t0_8 t0_9 t0_10 t1_0 t2_0 t3_0 fm38) (F_FR_set_L31 (F_FR_set_L3 N2 x3 t0_0 t0_1 t0_2 t0_3 t0_4 t0_5 t0_6 t0_7 t0_8 t0_9 t0_10 t1_0 t2_0 t3_0 fm38) N2 x3 t0_0 t0_1 t0_2 t0_3 t0_4 t0_5 t0_6 t0_7 t0_8 t0_9 t0_10 t1_0 t2_0 t3_0 lx24 lx25 fm56) (F_FR_set_L134 (F_FR_set_L3 N2 x3 t0_0 t0_1 t0_2 t0_3 t0_4 t0_5 t0_6 t0_7 t0_8 t0_9 t0_10 t1_0 t2_0 t3_0 fm38) (F_FR_set_L31 (F_FR_set_L3 N2 x3 t0_0 t0_1 t0_2 t0_3 t0_4 t0_5 t0_6 t0_7 t0_8 t0_9 t0_10 t1_0 t2_0 t3_0 fm38) N2 x3 t0_0 t0_1 t0_2 t0_3 t0_4 t0_5 t0_6 t0_7 t0_8 t0_9 t0_10 t1_0 t2_0 t3_0 lx24 lx25 fm56) N2 x3 t0_0 t0_1 t0_2 t0_3 t0_4 t0_5 t0_6 t0_7 t0_8 t0_9 t0_10 t1_0 t2_0 t3_0 lx24 lx25 lx43 lx44 lx45 fm77) N2 x3 t0_0 t0_1 t0_2 t0_3 t0_4 t0_5 t0_6 t0_7 t0_8 t0_9 t0_10 t1_0 t2_0 t3_0 lx24 lx25 lx43 lx44 lx45 lx63 lx64 ((20200 - a83.toInt).toNat + 1) a83 a81 lx64 = (F_FR_set N2 x3 t0_0 t0_1 t0_2 t0_3 t0_4 t0_5 t0_6 t0_7 t0_8 t0_9 t0_10 t1_0 t2_0 t3_0) from Eq.trans (by rw [← e84, ← e82, F_FR_set_L134.eq_2, if_neg c78]) hR73), (show True ∧ S_FR_set_L158 (S_FR_set_L3 N2 x3 t0_0 t0_1 t0_2 t0_3 t0_4 t0_5 t0_6 t0_7 t0_8 t0_9 t0_10 t1_0 t2_0 t3_0 fm38) (S_FR_set_L31 (S_FR_set_L3 N2 x3 t0_0 t0_1 t0_2 t0_3 t0_4 t0_5 t0_6 t0_7 t0_8 t0_9 t0_10 t1_0 t2_0 t3_0 fm38) N2 x3 t0_0 t0_1 t0_2 t0_3 t0_4 t0_5 t0_6 t0_7 t0_8 t0_9 t0_10 t1_0 t2_0 t3_0 lx24 lx25 fm56) (S_FR_set_L134 (S_FR_set_L3 N2 x3 t0_0 t0_1 t0_2 t0_3 t0_4 t0_5 t0_6 t0_7 t0_8 t0_9 t0_10 t1_0 t2_0 t3_0 fm38) (S_FR_set_L31 (S_FR_set_L3 N2 x3 t0_0 t0_1 t0_2 t0_3 t0_4 t0_5 t0_6 t0_7 t0_8 t0_9 t0_10 t1_0 t2_0 t3_0 fm38) N2 x3 t0_0 t0_1 t0_2 t0_3 t0_4 t0_5 t0_6 t0_7 t0_8 t0_9 t0_10 t1_0 t2_0 t3_0 lx24 lx25 fm56) N2 x3 t0_0 t0_1 t0_2 t0_3 t0_4 t0_5 t0_6 t0_7 t0_8 t0_9 t0_10 t1_0 t2_0 t3_0 lx24 lx25 lx43 lx44 lx45 fm77) N2 x3 t0_0 t0_1 t0_2 t0_3 t0_4 t0_5 t0_6 t0_7 t0_8 t0_9 t0_10 t1_0 t2_0 t3_0 lx24 lx25 lx43 lx44 lx45 lx63 lx64 ((20200 - a83.toInt).toNat + 1) a83 a81 lx64 from (by rw [← e84, ← e82]; have h := hS74; rw [S_FR_set_L134.eq_2] at h; rw [if_neg c78] at h; with_reducible exact h))⟩⟩
        rintro ⟨lx88, lx89, lx90⟩ H locs ls w95 ⟨i91, i92, i93, V, hl, hI, hF, hO96, hO97, hO98, hO99, ⟨fu102, hf103, hR100, hS101⟩⟩ ih94
        obtain ⟨fm104, rfl⟩ : ∃ m, fu102 = m + 1 := ⟨fu102 - 1, by omega⟩
        replace i91 : q_F (lx88.toInt ≤ 20200) := i91
        replace i92 : q_F (a83.toInt ≤ lx88.toInt) := i92
        replace i93 : q_F (lx88.toInt ≤ N2.toInt + 1395) := i93
        replace hl : lv_has ls 12 [(8, .int lx88), (7, .int lx89), (6, .int lx63), (0, .ref (q 145)), (1, .ref (q k2))] := hl
        replace hO96 : w95[145]? = (some (q 145, .inr (15, [.int t0_0, .ref (q 146), .ref (q 147), .ref (q 148), .ref (q 149), .ref (q 150), .ref (q 151), .ref (q 152), .int t0_1, .int t0_2, .int t0_3, .long t0_4, .int t0_5, .int t0_6, .long t0_7, .int t0_8, .long t0_9, .int t0_10])) : Option (Nat × va_E)) := hO96
        replace hO97 : w95[146]? = (some (q 146, .inl (g 0, (156 : Int32).toNatClampNeg, .inl t1_0)) : Option (Nat × va_E)) := hO97
        replace hO98 : w95[147]? = (some (q 147, .inl (g 0, (156 : Int32).toNatClampNeg, .inl lx45)) : Option (Nat × va_E)) := hO98
        replace hO99 : w95[k2]? = (some (q k2, .inl (g 0, N2.toNatClampNeg, .inl lx90)) : Option (Nat × va_E)) := hO99
        refine lv_iload hx hb d_17_7_158 (lv_at hl 0 rfl) ?_
        refine lv_bipush (v := 9) hx hb d_17_7_160 (by decide) ?_
        refine lv_iload hx hb d_17_7_162 (lv_at hl 2 rfl) ?_
        refine lv_imul hx hb d_17_7_164 ?_
        obtain ⟨a105, e106⟩ := q_nm (9 * lx63 : Int32)
        refine q_ti (v := a105) e106 ?_
        have b107 : q_F (a105.toInt = 9 * lx63.toInt) := (by rw [← e106]; show (9 * lx63 : Int32).toInt = 9 * lx63.toInt; exact q_mulI (x := 9) (y := lx63.toInt) (by decide) rfl (by have t1 : 0 ≤ lx63.toInt := i65; have t2 : lx63.toInt ≤ 156 := i66; omega) (by have t1 : 0 ≤ lx63.toInt := i65; have t2 : lx63.toInt ≤ 156 := i66; omega))
        refine lv_bipush (v := 9) hx hb d_17_7_165 (by decide) ?_
        refine lv_iadd hx hb d_17_7_167 ?_
        obtain ⟨a108, e109⟩ := q_nm (a105 + 9 : Int32)
        refine q_ti (v := a108) e109 ?_
        have b110 : q_F (a108.toInt = a105.toInt + 9) := (by rw [← e109]; show (a105 + 9 : Int32).toInt = a105.toInt + 9; exact q_addI (x := a105.toInt) (y := 9) rfl (by decide) (by have _ := q_lo32 (x := a105); have _ := q_hi32 (x := a105); have t1 : lx63.toInt ≤ 156 := i66; have t2 : a105.toInt = 9 * lx63.toInt := b107; omega) (by have _ := q_lo32 (x := a105); have _ := q_hi32 (x := a105); have t1 : lx63.toInt ≤ 156 := i66; have t2 : a105.toInt = 9 * lx63.toInt := b107; omega))
        refine lv_icmp_ge (tgt := 193) hx hb d_17_7_168 (by decide) (fun c111 => ?_) (fun c111 => ?_)
        ·
          have b112 : q_F (a108.toInt ≤ lx88.toInt) := (q_leI c111)
          obtain ⟨a113, e114⟩ := q_nm (lx63 + 1 : Int32)
          have b115 : q_F (a113.toInt = lx63.toInt + 1) := (by rw [← e114]; exact q_addI (y := 1) rfl (by decide) (by have t1 : 0 ≤ lx63.toInt := i65; have t2 : lx63.toInt ≤ 156 := i66; omega) (by have t1 : 0 ≤ lx63.toInt := i65; have t2 : lx63.toInt ≤ 156 := i66; omega))
          refine lv_iinc (v := a113) (lv' := [(6, .int a113), (8, .int lx88), (7, .int lx89), (0, .ref (q 145)), (1, .ref (q k2))]) hx hb d_17_7_193 hl (k := 2) rfl (e114) (by decide) rfl (fun ls hl => ?_)
          refine lv_goto (tgt := 134) hx hb d_17_7_196 (by decide) ?_
          exact ih67 ((a113 : Int32), (lx90 : (Nat → Int32))) _ _ _ _ (show (156 - a113.toInt).toNat < (156 - lx63.toInt).toNat from by have t1 : a113.toInt = lx63.toInt + 1 := b115; have t2 : lx63.toInt ≤ 156 := i66; have t3 : lx63.toInt < 156 := b80; omega) ⟨(show q_F (0 ≤ a113.toInt) from (show 0 ≤ a113.toInt from by have t1 : 0 ≤ lx63.toInt := i65; have t2 : a113.toInt = lx63.toInt + 1 := b115; omega)), (show q_F (a113.toInt ≤ 156) from (show a113.toInt ≤ 156 from by have t1 : lx63.toInt < 156 := b80; have t2 : a113.toInt = lx63.toInt + 1 := b115; omega)), V, q_lw hl (q_lw1 0 rfl (q_lw1 3 rfl (q_lw1 4 rfl q_lw0))), hI, hF, hO96, hO97, hO98, hO99, ⟨fm77, Nat.lt_of_lt_of_le (show (156 - a113.toInt).toNat < (156 - lx63.toInt).toNat from by have t1 : a113.toInt = lx63.toInt + 1 := b115; have t2 : lx63.toInt ≤ 156 := i66; have t3 : lx63.toInt < 156 := b80; omega) (Nat.le_of_lt_succ hf76), (show F_FR_set_L134 (F_FR_set_L3 N2 x3 t0_0 t0_1 t0_2 t0_3 t0_4 t0_5 t0_6 t0_7 t0_8 t0_9 t0_10 t1_0 t2_0 t3_0 fm38) (F_FR_set_L31 (F_FR_set_L3 N2 x3 t0_0 t0_1 t0_2 t0_3 t0_4 t0_5 t0_6 t0_7 t0_8 t0_9 t0_10 t1_0 t2_0 t3_0 fm38) N2 x3 t0_0 t0_1 t0_2 t0_3 t0_4 t0_5 t0_6 t0_7 t0_8 t0_9 t0_10 t1_0 t2_0 t3_0 lx24 lx25 fm56) N2 x3 t0_0 t0_1 t0_2 t0_3 t0_4 t0_5 t0_6 t0_7 t0_8 t0_9 t0_10 t1_0 t2_0 t3_0 lx24 lx25 lx43 lx44 lx45 fm77 a113 lx90 = (F_FR_set N2 x3 t0_0 t0_1 t0_2 t0_3 t0_4 t0_5 t0_6 t0_7 t0_8 t0_9 t0_10 t1_0 t2_0 t3_0) from Eq.trans (by have c111x := c111; rw [← e109, ← e106] at c111x; rw [← e114, F_FR_set_L158.eq_2, if_pos c111x]) hR100), (show True ∧ S_FR_set_L134 (S_FR_set_L3 N2 x3 t0_0 t0_1 t0_2 t0_3 t0_4 t0_5 t0_6 t0_7 t0_8 t0_9 t0_10 t1_0 t2_0 t3_0 fm38) (S_FR_set_L31 (S_FR_set_L3 N2 x3 t0_0 t0_1 t0_2 t0_3 t0_4 t0_5 t0_6 t0_7 t0_8 t0_9 t0_10 t1_0 t2_0 t3_0 fm38) N2 x3 t0_0 t0_1 t0_2 t0_3 t0_4 t0_5 t0_6 t0_7 t0_8 t0_9 t0_10 t1_0 t2_0 t3_0 lx24 lx25 fm56) N2 x3 t0_0 t0_1 t0_2 t0_3 t0_4 t0_5 t0_6 t0_7 t0_8 t0_9 t0_10 t1_0 t2_0 t3_0 lx24 lx25 lx43 lx44 lx45 fm77 a113 lx90 from (by rw [← e114]; have h := hS101; rw [S_FR_set_L158.eq_2] at h; have c111x := c111; rw [← e109, ← e106] at c111x; rw [if_pos c111x] at h; with_reducible exact h))⟩⟩
        ·
          have b116 : q_F (lx88.toInt < a108.toInt) := (q_nleI c111)
          refine lv_aload_n hx hb d_17_7_171 rfl (lv_at hl 4 rfl) ?_
          refine lv_iload hx hb d_17_7_172 (lv_at hl 0 rfl) ?_
          refine lv_iload hx hb d_17_7_174 (lv_at hl 1 rfl) ?_
          refine lv_bipush (v := 10) hx hb d_17_7_176 (by decide) ?_
          refine lv_irem hx hb d_17_7_178 (by decide) ?_
          obtain ⟨a117, e118⟩ := q_nm (lx89 - lx89 / 10 * 10 : Int32)
          refine q_ti (v := a117) e118 ?_
          have ob119 : q_F (lx88.toInt + 1 ≤ N2.toInt) := (by have h := hS101; rw [S_FR_set_L158.eq_2] at h; have c111x := c111; rw [← e109, ← e106] at c111x; rw [if_neg c111x] at h; exact h.2.1)
          have ne122 := q_df hO99 hO96
          refine q_iast C0 V hO99 (q_ix (x := lx88.toInt) rfl (by have t1 : 0 ≤ lx63.toInt := i65; have t2 : a83.toInt = 9 * lx63.toInt := b85; have t3 : a83.toInt ≤ lx88.toInt := i92; omega) (by have t1 : 0 ≤ lx63.toInt := i65; have t2 : a83.toInt = 9 * lx63.toInt := b85; have t3 : a83.toInt ≤ lx88.toInt := i92; have t4 : lx88.toInt + 1 ≤ N2.toInt := ob119; have e9 := q_clI (i := N2) rfl (by have t1 : 0 ≤ N2.toInt ∧ N2.toInt ≤ 20200 := hfk20; omega); omega)) d_17_7_179 (fun H locs w120 hu121 hO99 V => ?_)
          replace hI := n_ai' hI hB2.1 hu121 hO99 (q_updB (fun _ => s_bnd) s_bnd)
          replace hO96 := (hu121 _ (Ne.symm ne122)).trans hO96
          replace hO97 := (hu121 _ (by have z := ne_k2_146; omega)).trans hO97
          replace hO98 := (hu121 _ (by have z := ne_k2_147; omega)).trans hO98
          replace hF := q_us hF hu121 (by simp)
          obtain ⟨f123, e124⟩ := q_nm (upd lx90 lx88.toNatClampNeg a117 : (Nat → Int32))
          rw [e124] at hO99
          refine lv_iload hx hb d_17_7_180 (lv_at hl 1 rfl) ?_
          refine lv_bipush (v := 10) hx hb d_17_7_182 (by decide) ?_
          refine lv_idiv hx hb d_17_7_184 (by decide) ?_
          obtain ⟨a125, e126⟩ := q_nm (lx89 / 10 : Int32)
          refine q_ti (v := a125) e126 ?_
          have b127 : q_F ((0 ≤ lx89.toInt ∧ 10 * a125.toInt ≤ lx89.toInt ∧ lx89.toInt ≤ 10 * a125.toInt + (10 - 1)) ∨ (lx89.toInt < 0 ∧ lx89.toInt ≤ 10 * a125.toInt ∧ 10 * a125.toInt ≤ lx89.toInt + (10 - 1))) := (by rw [← e126]; show (0 ≤ lx89.toInt ∧ 10 * (lx89 / 10 : Int32).toInt ≤ lx89.toInt ∧ lx89.toInt ≤ 10 * (lx89 / 10 : Int32).toInt + (10 - 1)) ∨ (lx89.toInt < 0 ∧ lx89.toInt ≤ 10 * (lx89 / 10 : Int32).toInt ∧ 10 * (lx89 / 10 : Int32).toInt ≤ lx89.toInt + (10 - 1)); exact n_divI (a := lx89) (b := 10) (n := 10) (by decide) (by decide))
          refine lv_istore (lv' := [(7, .int a125), (8, .int lx88), (6, .int lx63), (0, .ref (q 145)), (1, .ref (q k2))]) hx hb d_17_7_185 hl (by decide) rfl (fun ls hl => ?_)
          obtain ⟨a128, e129⟩ := q_nm (lx88 + 1 : Int32)
          have b130 : q_F (a128.toInt = lx88.toInt + 1) := (by rw [← e129]; exact q_addI (y := 1) rfl (by decide) (by have t1 : a83.toInt ≤ lx88.toInt := i92; have _ := q_lo32 (x := a83); have _ := q_hi32 (x := a83); have t2 : lx88.toInt ≤ 20200 := i91; omega) (by have t1 : a83.toInt ≤ lx88.toInt := i92; have _ := q_lo32 (x := a83); have _ := q_hi32 (x := a83); have t2 : lx88.toInt ≤ 20200 := i91; omega))
          refine lv_iinc (v := a128) (lv' := [(8, .int a128), (7, .int a125), (6, .int lx63), (0, .ref (q 145)), (1, .ref (q k2))]) hx hb d_17_7_187 hl (k := 1) rfl (e129) (by decide) rfl (fun ls hl => ?_)
          refine lv_goto (tgt := 158) hx hb d_17_7_190 (by decide) ?_
          exact ih94 ((a128 : Int32), (a125 : Int32), (f123 : (Nat → Int32))) _ _ _ _ (show (20200 - a128.toInt).toNat < (20200 - lx88.toInt).toNat from by have t1 : a128.toInt = lx88.toInt + 1 := b130; have t2 : lx88.toInt ≤ 20200 := i91; have t3 : 0 ≤ N2.toInt ∧ N2.toInt ≤ 20200 := hfk20; have t4 : lx88.toInt + 1 ≤ N2.toInt := ob119; omega) ⟨(show q_F (a128.toInt ≤ 20200) from (show a128.toInt ≤ 20200 from by have t1 : 0 ≤ N2.toInt ∧ N2.toInt ≤ 20200 := hfk20; have t2 : lx88.toInt + 1 ≤ N2.toInt := ob119; have t3 : a128.toInt = lx88.toInt + 1 := b130; omega)), (show q_F (a83.toInt ≤ a128.toInt) from (show a83.toInt ≤ a128.toInt from by have t1 : a83.toInt ≤ lx88.toInt := i92; have t2 : a128.toInt = lx88.toInt + 1 := b130; omega)), (show q_F (a128.toInt ≤ N2.toInt + 1395) from (show a128.toInt ≤ N2.toInt + 1395 from by have t1 : lx88.toInt + 1 ≤ N2.toInt := ob119; have t2 : a128.toInt = lx88.toInt + 1 := b130; omega)), V, q_lw hl (q_lw1 0 rfl (q_lw1 1 rfl (q_lw1 2 rfl (q_lw1 3 rfl (q_lw1 4 rfl q_lw0))))), hI, hF, hO96, hO97, hO98, hO99, ⟨fm104, Nat.lt_of_lt_of_le (show (20200 - a128.toInt).toNat < (20200 - lx88.toInt).toNat from by have t1 : a128.toInt = lx88.toInt + 1 := b130; have t2 : lx88.toInt ≤ 20200 := i91; have t3 : 0 ≤ N2.toInt ∧ N2.toInt ≤ 20200 := hfk20; have t4 : lx88.toInt + 1 ≤ N2.toInt := ob119; omega) (Nat.le_of_lt_succ hf103), (show F_FR_set_L158 (F_FR_set_L3 N2 x3 t0_0 t0_1 t0_2 t0_3 t0_4 t0_5 t0_6 t0_7 t0_8 t0_9 t0_10 t1_0 t2_0 t3_0 fm38) (F_FR_set_L31 (F_FR_set_L3 N2 x3 t0_0 t0_1 t0_2 t0_3 t0_4 t0_5 t0_6 t0_7 t0_8 t0_9 t0_10 t1_0 t2_0 t3_0 fm38) N2 x3 t0_0 t0_1 t0_2 t0_3 t0_4 t0_5 t0_6 t0_7 t0_8 t0_9 t0_10 t1_0 t2_0 t3_0 lx24 lx25 fm56) (F_FR_set_L134 (F_FR_set_L3 N2 x3 t0_0 t0_1 t0_2 t0_3 t0_4 t0_5 t0_6 t0_7 t0_8 t0_9 t0_10 t1_0 t2_0 t3_0 fm38) (F_FR_set_L31 (F_FR_set_L3 N2 x3 t0_0 t0_1 t0_2 t0_3 t0_4 t0_5 t0_6 t0_7 t0_8 t0_9 t0_10 t1_0 t2_0 t3_0 fm38) N2 x3 t0_0 t0_1 t0_2 t0_3 t0_4 t0_5 t0_6 t0_7 t0_8 t0_9 t0_10 t1_0 t2_0 t3_0 lx24 lx25 fm56) N2 x3 t0_0 t0_1 t0_2 t0_3 t0_4 t0_5 t0_6 t0_7 t0_8 t0_9 t0_10 t1_0 t2_0 t3_0 lx24 lx25 lx43 lx44 lx45 fm77) N2 x3 t0_0 t0_1 t0_2 t0_3 t0_4 t0_5 t0_6 t0_7 t0_8 t0_9 t0_10 t1_0 t2_0 t3_0 lx24 lx25 lx43 lx44 lx45 lx63 lx64 fm104 a128 a125 f123 = (F_FR_set N2 x3 t0_0 t0_1 t0_2 t0_3 t0_4 t0_5 t0_6 t0_7 t0_8 t0_9 t0_10 t1_0 t2_0 t3_0) from Eq.trans (by have c111x := c111; rw [← e109, ← e106] at c111x; rw [← e129, ← e126, ← e124, ← e118, F_FR_set_L158.eq_2, if_neg c111x]) hR100), (show True ∧ S_FR_set_L158 (S_FR_set_L3 N2 x3 t0_0 t0_1 t0_2 t0_3 t0_4 t0_5 t0_6 t0_7 t0_8 t0_9 t0_10 t1_0 t2_0 t3_0 fm38) (S_FR_set_L31 (S_FR_set_L3 N2 x3 t0_0 t0_1 t0_2 t0_3 t0_4 t0_5 t0_6 t0_7 t0_8 t0_9 t0_10 t1_0 t2_0 t3_0 fm38) N2 x3 t0_0 t0_1 t0_2 t0_3 t0_4 t0_5 t0_6 t0_7 t0_8 t0_9 t0_10 t1_0 t2_0 t3_0 lx24 lx25 fm56) (S_FR_set_L134 (S_FR_set_L3 N2 x3 t0_0 t0_1 t0_2 t0_3 t0_4 t0_5 t0_6 t0_7 t0_8 t0_9 t0_10 t1_0 t2_0 t3_0 fm38) (S_FR_set_L31 (S_FR_set_L3 N2 x3 t0_0 t0_1 t0_2 t0_3 t0_4 t0_5 t0_6 t0_7 t0_8 t0_9 t0_10 t1_0 t2_0 t3_0 fm38) N2 x3 t0_0 t0_1 t0_2 t0_3 t0_4 t0_5 t0_6 t0_7 t0_8 t0_9 t0_10 t1_0 t2_0 t3_0 lx24 lx25 fm56) N2 x3 t0_0 t0_1 t0_2 t0_3 t0_4 t0_5 t0_6 t0_7 t0_8 t0_9 t0_10 t1_0 t2_0 t3_0 lx24 lx25 lx43 lx44 lx45 fm77) N2 x3 t0_0 t0_1 t0_2 t0_3 t0_4 t0_5 t0_6 t0_7 t0_8 t0_9 t0_10 t1_0 t2_0 t3_0 lx24 lx25 lx43 lx44 lx45 lx63 lx64 fm104 a128 a125 f123 from (by rw [← e129, ← e126, ← e124, ← e118]; have h := hS101; rw [S_FR_set_L158.eq_2] at h; have c111x := c111; rw [← e109, ← e106] at c111x; rw [if_neg c111x] at h; replace h := q_s2 h; with_reducible exact h))⟩⟩
    ·
      have b131 : q_F (0 < a57.toInt) := (q_nleI c60)
      refine lv_lload hx hb d_17_7_38 (lv_at hl 1 rfl) ?_
      refine q_ldc2 C0 rfl w_2614 d_17_7_40 ?_
      refine lv_lrem hx hb d_17_7_43 (by decide) ?_
      obtain ⟨j132, e133⟩ := q_nm (lx44 - lx44 / 1000000000 * 1000000000 : Int64)
      refine q_tl (v := j132) e133 ?_
      refine lv_lstore (lv' := [(7, .long j132), (6, .int lx43), (4, .long lx44), (0, .ref (q 145)), (1, .ref (q k2))]) hx hb d_17_7_44 hl (by decide) rfl (fun ls hl => ?_)
      refine lv_lload hx hb d_17_7_46 (lv_at hl 2 rfl) ?_
      refine q_ldc2 C0 rfl w_2614 d_17_7_48 ?_
      refine lv_ldiv hx hb d_17_7_51 (by decide) ?_
      obtain ⟨j134, e135⟩ := q_nm (lx44 / 1000000000 : Int64)
      refine q_tl (v := j134) e135 ?_
      refine lv_lstore (lv' := [(4, .long j134), (7, .long j132), (6, .int lx43), (0, .ref (q 145)), (1, .ref (q k2))]) hx hb d_17_7_52 hl (by decide) rfl (fun ls hl => ?_)
      refine lv_lconst (v := 0) hx hb d_17_7_54 (by decide) ?_
      refine lv_lstore (lv' := [(9, .long 0), (4, .long j134), (7, .long j132), (6, .int lx43), (0, .ref (q 145)), (1, .ref (q k2))]) hx hb d_17_7_55 hl (by decide) rfl (fun ls hl => ?_)
      refine lv_iload hx hb d_17_7_57 (lv_at hl 3 rfl) ?_
      refine lv_istore (lv' := [(11, .int lx43), (9, .long 0), (4, .long j134), (7, .long j132), (6, .int lx43), (0, .ref (q 145)), (1, .ref (q k2))]) hx hb d_17_7_59 hl (by decide) rfl (fun ls hl => ?_)
      refine q_loop (X := Int32 × Int64 × (Nat → Int32)) (fun z H locs ls w143 => q_F (lx43.toInt ≤ z.1.toInt) ∧ q_Wd D g (va_A ws sz) s w143 H locs ∧ lv_has ls 12 [(11, .int z.1), (9, .long z.2.1), (4, .long j134), (7, .long j132), (6, .int lx43), (0, .ref (q 145)), (1, .ref (q k2))] ∧ q_I (msh g q) q w143 ∧ q_un ws w143 [147, k2] ∧ w143[145]? = (some (q 145, .inr (15, [.int t0_0, .ref (q 146), .ref (q 147), .ref (q 148), .ref (q 149), .ref (q 150), .ref (q 151), .ref (q 152), .int t0_1, .int t0_2, .int t0_3, .long t0_4, .int t0_5, .int t0_6, .long t0_7, .int t0_8, .long t0_9, .int t0_10])) : Option (Nat × va_E)) ∧ w143[146]? = (some (q 146, .inl (g 0, (156 : Int32).toNatClampNeg, .inl t1_0)) : Option (Nat × va_E)) ∧ w143[147]? = (some (q 147, .inl (g 0, (156 : Int32).toNatClampNeg, .inl z.2.2)) : Option (Nat × va_E)) ∧ w143[k2]? = (some (q k2, .inl (g 0, N2.toNatClampNeg, .inl t3_0)) : Option (Nat × va_E)) ∧ (∃ n, (156 - z.1.toInt).toNat < n ∧ F_FR_set_L61 (F_FR_set_L3 N2 x3 t0_0 t0_1 t0_2 t0_3 t0_4 t0_5 t0_6 t0_7 t0_8 t0_9 t0_10 t1_0 t2_0 t3_0 fm38) (F_FR_set_L31 (F_FR_set_L3 N2 x3 t0_0 t0_1 t0_2 t0_3 t0_4 t0_5 t0_6 t0_7 t0_8 t0_9 t0_10 t1_0 t2_0 t3_0 fm38) N2 x3 t0_0 t0_1 t0_2 t0_3 t0_4 t0_5 t0_6 t0_7 t0_8 t0_9 t0_10 t1_0 t2_0 t3_0 lx24 lx25 fm56) N2 x3 t0_0 t0_1 t0_2 t0_3 t0_4 t0_5 t0_6 t0_7 t0_8 t0_9 t0_10 t1_0 t2_0 t3_0 lx24 lx25 lx43 lx44 lx45 j134 j132 n z.1 z.2.1 z.2.2 = (F_FR_set N2 x3 t0_0 t0_1 t0_2 t0_3 t0_4 t0_5 t0_6 t0_7 t0_8 t0_9 t0_10 t1_0 t2_0 t3_0) ∧ True ∧ S_FR_set_L61 (S_FR_set_L3 N2 x3 t0_0 t0_1 t0_2 t0_3 t0_4 t0_5 t0_6 t0_7 t0_8 t0_9 t0_10 t1_0 t2_0 t3_0 fm38) (S_FR_set_L31 (S_FR_set_L3 N2 x3 t0_0 t0_1 t0_2 t0_3 t0_4 t0_5 t0_6 t0_7 t0_8 t0_9 t0_10 t1_0 t2_0 t3_0 fm38) N2 x3 t0_0 t0_1 t0_2 t0_3 t0_4 t0_5 t0_6 t0_7 t0_8 t0_9 t0_10 t1_0 t2_0 t3_0 lx24 lx25 fm56) N2 x3 t0_0 t0_1 t0_2 t0_3 t0_4 t0_5 t0_6 t0_7 t0_8 t0_9 t0_10 t1_0 t2_0 t3_0 lx24 lx25 lx43 lx44 lx45 j134 j132 n z.1 z.2.1 z.2.2)) (fun z => (156 - z.1.toInt).toNat) ?_ ((lx43 : Int32), (0 : Int64), (lx45 : (Nat → Int32))) _ _ _ w47 ⟨(show q_F (lx43.toInt ≤ lx43.toInt) from (show lx43.toInt ≤ lx43.toInt from by omega)), V, q_lw hl (q_lw1 0 rfl (q_lw1 1 rfl (q_lw1 2 rfl (q_lw1 3 rfl (q_lw1 4 rfl (q_lw1 5 rfl (q_lw1 6 rfl q_lw0))))))), hI, hF, hO48, hO49, hO50, hO51, ⟨((156 - lx43.toInt).toNat + 1), Nat.lt_succ_self _, (show F_FR_set_L61 (F_FR_set_L3 N2 x3 t0_0 t0_1 t0_2 t0_3 t0_4 t0_5 t0_6 t0_7 t0_8 t0_9 t0_10 t1_0 t2_0 t3_0 fm38) (F_FR_set_L31 (F_FR_set_L3 N2 x3 t0_0 t0_1 t0_2 t0_3 t0_4 t0_5 t0_6 t0_7 t0_8 t0_9 t0_10 t1_0 t2_0 t3_0 fm38) N2 x3 t0_0 t0_1 t0_2 t0_3 t0_4 t0_5 t0_6 t0_7 t0_8 t0_9 t0_10 t1_0 t2_0 t3_0 lx24 lx25 fm56) N2 x3 t0_0 t0_1 t0_2 t0_3 t0_4 t0_5 t0_6 t0_7 t0_8 t0_9 t0_10 t1_0 t2_0 t3_0 lx24 lx25 lx43 lx44 lx45 j134 j132 ((156 - lx43.toInt).toNat + 1) lx43 0 lx45 = (F_FR_set N2 x3 t0_0 t0_1 t0_2 t0_3 t0_4 t0_5 t0_6 t0_7 t0_8 t0_9 t0_10 t1_0 t2_0 t3_0) from Eq.trans (by have c60x := c60; rw [← e58] at c60x; rw [← e135, ← e133, F_FR_set_L31.eq_2, if_neg c60x]) hR52), (show True ∧ S_FR_set_L61 (S_FR_set_L3 N2 x3 t0_0 t0_1 t0_2 t0_3 t0_4 t0_5 t0_6 t0_7 t0_8 t0_9 t0_10 t1_0 t2_0 t3_0 fm38) (S_FR_set_L31 (S_FR_set_L3 N2 x3 t0_0 t0_1 t0_2 t0_3 t0_4 t0_5 t0_6 t0_7 t0_8 t0_9 t0_10 t1_0 t2_0 t3_0 fm38) N2 x3 t0_0 t0_1 t0_2 t0_3 t0_4 t0_5 t0_6 t0_7 t0_8 t0_9 t0_10 t1_0 t2_0 t3_0 lx24 lx25 fm56) N2 x3 t0_0 t0_1 t0_2 t0_3 t0_4 t0_5 t0_6 t0_7 t0_8 t0_9 t0_10 t1_0 t2_0 t3_0 lx24 lx25 lx43 lx44 lx45 j134 j132 ((156 - lx43.toInt).toNat + 1) lx43 0 lx45 from (by rw [← e135, ← e133]; have h := hS53; rw [S_FR_set_L31.eq_2] at h; have c60x := c60; rw [← e58] at c60x; rw [if_neg c60x] at h; with_reducible exact h))⟩⟩
      rintro ⟨lx138, lx139, lx140⟩ H locs ls w143 ⟨i141, V, hl, hI, hF, hO144, hO145, hO146, hO147, ⟨fu150, hf151, hR148, hS149⟩⟩ ih142
      obtain ⟨fm152, rfl⟩ : ∃ m, fu150 = m + 1 := ⟨fu150 - 1, by omega⟩
      replace i141 : q_F (lx43.toInt ≤ lx138.toInt) := i141
      replace hl : lv_has ls 12 [(11, .int lx138), (9, .long lx139), (4, .long j134), (7, .long j132), (6, .int lx43), (0, .ref (q 145)), (1, .ref (q k2))] := hl
      replace hO144 : w143[145]? = (some (q 145, .inr (15, [.int t0_0, .ref (q 146), .ref (q 147), .ref (q 148), .ref (q 149), .ref (q 150), .ref (q 151), .ref (q 152), .int t0_1, .int t0_2, .int t0_3, .long t0_4, .int t0_5, .int t0_6, .long t0_7, .int t0_8, .long t0_9, .int t0_10])) : Option (Nat × va_E)) := hO144
      replace hO145 : w143[146]? = (some (q 146, .inl (g 0, (156 : Int32).toNatClampNeg, .inl t1_0)) : Option (Nat × va_E)) := hO145
      replace hO146 : w143[147]? = (some (q 147, .inl (g 0, (156 : Int32).toNatClampNeg, .inl lx140)) : Option (Nat × va_E)) := hO146
      replace hO147 : w143[k2]? = (some (q k2, .inl (g 0, N2.toNatClampNeg, .inl t3_0)) : Option (Nat × va_E)) := hO147
      refine lv_iload hx hb d_17_7_61 (lv_at hl 0 rfl) ?_
      refine lv_sipush (v := 156) hx hb d_17_7_63 (by decide) ?_
      refine lv_icmp_ge (tgt := 125) hx hb d_17_7_66 (by decide) (fun c153 => ?_) (fun c153 => ?_)
      ·
        have b154 : q_F (156 ≤ lx138.toInt) := (q_leI c153)
        obtain ⟨a155, e156⟩ := q_nm (lx43 + 1 : Int32)
        refine lv_iinc (v := a155) (lv' := [(6, .int a155), (11, .int lx138), (9, .long lx139), (4, .long j134), (7, .long j132), (0, .ref (q 145)), (1, .ref (q k2))]) hx hb d_17_7_125 hl (k := 4) rfl (e156) (by decide) rfl (fun ls hl => ?_)
        refine lv_goto (tgt := 31) hx hb d_17_7_128 (by decide) ?_
        exact ih46 ((fm56 : Nat), (a155 : Int32), (j134 : Int64), (lx140 : (Nat → Int32))) _ _ _ _ (Nat.lt_succ_self _) ⟨V, q_lw hl (q_lw1 0 rfl (q_lw1 3 rfl (q_lw1 5 rfl (q_lw1 6 rfl q_lw0)))), hI, hF, hO144, hO145, hO146, hO147, (show F_FR_set_L31 (F_FR_set_L3 N2 x3 t0_0 t0_1 t0_2 t0_3 t0_4 t0_5 t0_6 t0_7 t0_8 t0_9 t0_10 t1_0 t2_0 t3_0 fm38) N2 x3 t0_0 t0_1 t0_2 t0_3 t0_4 t0_5 t0_6 t0_7 t0_8 t0_9 t0_10 t1_0 t2_0 t3_0 lx24 lx25 fm56 a155 j134 lx140 = (F_FR_set N2 x3 t0_0 t0_1 t0_2 t0_3 t0_4 t0_5 t0_6 t0_7 t0_8 t0_9 t0_10 t1_0 t2_0 t3_0) from Eq.trans (by rw [← e156, F_FR_set_L61.eq_2, if_pos c153]) hR148), (show True ∧ S_FR_set_L31 (S_FR_set_L3 N2 x3 t0_0 t0_1 t0_2 t0_3 t0_4 t0_5 t0_6 t0_7 t0_8 t0_9 t0_10 t1_0 t2_0 t3_0 fm38) N2 x3 t0_0 t0_1 t0_2 t0_3 t0_4 t0_5 t0_6 t0_7 t0_8 t0_9 t0_10 t1_0 t2_0 t3_0 lx24 lx25 fm56 a155 j134 lx140 from (by rw [← e156]; have h := hS149; rw [S_FR_set_L61.eq_2] at h; rw [if_pos c153] at h; with_reducible exact h))⟩
      ·
        have b157 : q_F (lx138.toInt < 156) := (q_nleI c153)
        refine lv_lload hx hb d_17_7_69 (lv_at hl 1 rfl) ?_
        refine lv_lload hx hb d_17_7_71 (lv_at hl 3 rfl) ?_
        refine lv_aload_n hx hb d_17_7_73 rfl (lv_at hl 5 rfl) ?_
        refine q_get (ci := 15) (j := 1) (v := .ref (q 146)) C0 V i_FR rfl rfl hO144 (by decide) w_2076 rfl d_17_7_74 ?_
        refine lv_iload hx hb d_17_7_77 (lv_at hl 0 rfl) ?_
        refine lv_iload hx hb d_17_7_79 (lv_at hl 4 rfl) ?_
        refine lv_isub hx hb d_17_7_81 ?_
        obtain ⟨a158, e159⟩ := q_nm (lx138 - lx43 : Int32)
        refine q_ti (v := a158) e159 ?_
        have ob160 : q_F (0 ≤ a158.toInt) := (by rw [← e159]; have h := hS149; rw [S_FR_set_L61.eq_2] at h; rw [if_neg c153] at h; exact h.2.1)
        have ob161 : q_F (a158.toInt ≤ 155) := (by rw [← e159]; have h := hS149; rw [S_FR_set_L61.eq_2] at h; rw [if_neg c153] at h; replace h := q_s2 h; exact h.2.1)
        refine q_iald C0 V hO145 (q_ix (x := a158.toInt) rfl (by have t1 : 0 ≤ a158.toInt := ob160; omega) (by have t1 : 0 ≤ a158.toInt := ob160; have t2 : a158.toInt ≤ 155 := ob161; have e9 : (((156 : Int32).toNatClampNeg : Nat) : Int) = 156 := (by decide); omega)) d_17_7_82 ?_
        obtain ⟨a162, e163⟩ := q_nm (t1_0 a158.toNatClampNeg : Int32)
        refine q_ti (v := a162) e163 ?_
        refine lv_i2l hx hb d_17_7_83 rfl ?_
        obtain ⟨j164, e165⟩ := q_nm (a162.toInt64 : Int64)
        refine q_tl (v := j164) e165 ?_
        have b166 : q_F (j164.toInt = a162.toInt) := (by rw [← e165]; show (a162.toInt64 : Int64).toInt = a162.toInt; exact q_i2l rfl)
        refine lv_lmul hx hb d_17_7_84 ?_
        obtain ⟨j167, e168⟩ := q_nm (j132 * j164 : Int64)
        refine q_tl (v := j167) e168 ?_
        refine lv_ladd hx hb d_17_7_85 ?_
        obtain ⟨j169, e170⟩ := q_nm (lx139 + j167 : Int64)
        refine q_tl (v := j169) e170 ?_
        refine lv_aload_n hx hb d_17_7_86 rfl (lv_at hl 5 rfl) ?_
        refine q_get (ci := 15) (j := 2) (v := .ref (q 147)) C0 V i_FR rfl rfl hO144 (by decide) w_2077 rfl d_17_7_87 ?_
        refine lv_iload hx hb d_17_7_90 (lv_at hl 0 rfl) ?_
        have ob171 : q_F (0 ≤ lx138.toInt) := (by have h := hS149; rw [S_FR_set_L61.eq_2] at h; rw [if_neg c153] at h; replace h := q_s2 h; replace h := q_s2 h; exact h.2.1)
        refine q_iald C0 V hO146 (q_ix (x := lx138.toInt) rfl (by have t1 : 0 ≤ lx138.toInt := ob171; omega) (by have t1 : 0 ≤ lx138.toInt := ob171; have t2 : lx138.toInt < 156 := b157; have e9 : (((156 : Int32).toNatClampNeg : Nat) : Int) = 156 := (by decide); omega)) d_17_7_92 ?_
        obtain ⟨a172, e173⟩ := q_nm (lx140 lx138.toNatClampNeg : Int32)
        refine q_ti (v := a172) e173 ?_
        refine lv_i2l hx hb d_17_7_93 rfl ?_
        obtain ⟨j174, e175⟩ := q_nm (a172.toInt64 : Int64)
        refine q_tl (v := j174) e175 ?_
        have b176 : q_F (j174.toInt = a172.toInt) := (by rw [← e175]; show (a172.toInt64 : Int64).toInt = a172.toInt; exact q_i2l rfl)
        refine lv_ladd hx hb d_17_7_94 ?_
        obtain ⟨j177, e178⟩ := q_nm (j169 + j174 : Int64)
        refine q_tl (v := j177) e178 ?_
        refine lv_lstore (lv' := [(9, .long j177), (11, .int lx138), (4, .long j134), (7, .long j132), (6, .int lx43), (0, .ref (q 145)), (1, .ref (q k2))]) hx hb d_17_7_95 hl (by decide) rfl (fun ls hl => ?_)
        refine lv_aload_n hx hb d_17_7_97 rfl (lv_at hl 5 rfl) ?_
        refine q_get (ci := 15) (j := 2) (v := .ref (q 147)) C0 V i_FR rfl rfl hO144 (by decide) w_2077 rfl d_17_7_98 ?_
        refine lv_iload hx hb d_17_7_101 (lv_at hl 1 rfl) ?_
        refine lv_lload hx hb d_17_7_103 (lv_at hl 0 rfl) ?_
        refine q_ldc2 C0 rfl w_2614 d_17_7_105 ?_
        refine lv_lrem hx hb d_17_7_108 (by decide) ?_
        obtain ⟨j179, e180⟩ := q_nm (j177 - j177 / 1000000000 * 1000000000 : Int64)
        refine q_tl (v := j179) e180 ?_
        refine lv_l2i hx hb d_17_7_109 rfl ?_
        obtain ⟨a181, e182⟩ := q_nm (j179.toInt32 : Int32)
        refine q_ti (v := a181) e182 ?_
        refine q_iast C0 V hO146 (q_ix (x := lx138.toInt) rfl (by have t1 : 0 ≤ lx138.toInt := ob171; omega) (by have t1 : 0 ≤ lx138.toInt := ob171; have t2 : lx138.toInt < 156 := b157; have e9 : (((156 : Int32).toNatClampNeg : Nat) : Int) = 156 := (by decide); omega)) d_17_7_110 (fun H locs w183 hu184 hO146 V => ?_)
        replace hI := n_ai' hI (n_r147 g q).1 hu184 hO146 (q_updB (fun _ => s_bnd) s_bnd)
        replace hO144 := (hu184 _ (by decide)).trans hO144
        replace hO145 := (hu184 _ (by decide)).trans hO145
        replace hO147 := (hu184 _ (by have z := ne_k2_147; omega)).trans hO147
        replace hF := q_us hF hu184 (by simp)
        obtain ⟨f185, e186⟩ := q_nm (upd lx140 lx138.toNatClampNeg a181 : (Nat → Int32))
        rw [e186] at hO146
        refine lv_lload hx hb d_17_7_111 (lv_at hl 0 rfl) ?_
        refine q_ldc2 C0 rfl w_2614 d_17_7_113 ?_
        refine lv_ldiv hx hb d_17_7_116 (by decide) ?_
        obtain ⟨j187, e188⟩ := q_nm (j177 / 1000000000 : Int64)
        refine q_tl (v := j187) e188 ?_
        refine lv_lstore (lv' := [(9, .long j187), (11, .int lx138), (4, .long j134), (7, .long j132), (6, .int lx43), (0, .ref (q 145)), (1, .ref (q k2))]) hx hb d_17_7_117 hl (by decide) rfl (fun ls hl => ?_)
        obtain ⟨a189, e190⟩ := q_nm (lx138 + 1 : Int32)
        have b191 : q_F (a189.toInt = lx138.toInt + 1) := (by rw [← e190]; exact q_addI (y := 1) rfl (by decide) (by have t1 : 0 ≤ lx138.toInt := ob171; have t2 : lx138.toInt < 156 := b157; omega) (by have t1 : 0 ≤ lx138.toInt := ob171; have t2 : lx138.toInt < 156 := b157; omega))
        refine lv_iinc (v := a189) (lv' := [(11, .int a189), (9, .long j187), (4, .long j134), (7, .long j132), (6, .int lx43), (0, .ref (q 145)), (1, .ref (q k2))]) hx hb d_17_7_119 hl (k := 1) rfl (e190) (by decide) rfl (fun ls hl => ?_)
        refine lv_goto (tgt := 61) hx hb d_17_7_122 (by decide) ?_
        exact ih142 ((a189 : Int32), (j187 : Int64), (f185 : (Nat → Int32))) _ _ _ _ (show (156 - a189.toInt).toNat < (156 - lx138.toInt).toNat from by have t1 : a189.toInt = lx138.toInt + 1 := b191; have t2 : lx138.toInt < 156 := b157; omega) ⟨(show q_F (lx43.toInt ≤ a189.toInt) from (show lx43.toInt ≤ a189.toInt from by have t1 : lx43.toInt ≤ lx138.toInt := i141; have t2 : a189.toInt = lx138.toInt + 1 := b191; omega)), V, q_lw hl (q_lw1 0 rfl (q_lw1 1 rfl (q_lw1 2 rfl (q_lw1 3 rfl (q_lw1 4 rfl (q_lw1 5 rfl (q_lw1 6 rfl q_lw0))))))), hI, hF, hO144, hO145, hO146, hO147, ⟨fm152, Nat.lt_of_lt_of_le (show (156 - a189.toInt).toNat < (156 - lx138.toInt).toNat from by have t1 : a189.toInt = lx138.toInt + 1 := b191; have t2 : lx138.toInt < 156 := b157; omega) (Nat.le_of_lt_succ hf151), (show F_FR_set_L61 (F_FR_set_L3 N2 x3 t0_0 t0_1 t0_2 t0_3 t0_4 t0_5 t0_6 t0_7 t0_8 t0_9 t0_10 t1_0 t2_0 t3_0 fm38) (F_FR_set_L31 (F_FR_set_L3 N2 x3 t0_0 t0_1 t0_2 t0_3 t0_4 t0_5 t0_6 t0_7 t0_8 t0_9 t0_10 t1_0 t2_0 t3_0 fm38) N2 x3 t0_0 t0_1 t0_2 t0_3 t0_4 t0_5 t0_6 t0_7 t0_8 t0_9 t0_10 t1_0 t2_0 t3_0 lx24 lx25 fm56) N2 x3 t0_0 t0_1 t0_2 t0_3 t0_4 t0_5 t0_6 t0_7 t0_8 t0_9 t0_10 t1_0 t2_0 t3_0 lx24 lx25 lx43 lx44 lx45 j134 j132 fm152 a189 j187 f185 = (F_FR_set N2 x3 t0_0 t0_1 t0_2 t0_3 t0_4 t0_5 t0_6 t0_7 t0_8 t0_9 t0_10 t1_0 t2_0 t3_0) from Eq.trans (by rw [← e190, ← e188, ← e186, ← e182, ← e180, ← e178, ← e175, ← e173, ← e170, ← e168, ← e165, ← e163, ← e159, F_FR_set_L61.eq_2, if_neg c153]) hR148), (show True ∧ S_FR_set_L61 (S_FR_set_L3 N2 x3 t0_0 t0_1 t0_2 t0_3 t0_4 t0_5 t0_6 t0_7 t0_8 t0_9 t0_10 t1_0 t2_0 t3_0 fm38) (S_FR_set_L31 (S_FR_set_L3 N2 x3 t0_0 t0_1 t0_2 t0_3 t0_4 t0_5 t0_6 t0_7 t0_8 t0_9 t0_10 t1_0 t2_0 t3_0 fm38) N2 x3 t0_0 t0_1 t0_2 t0_3 t0_4 t0_5 t0_6 t0_7 t0_8 t0_9 t0_10 t1_0 t2_0 t3_0 lx24 lx25 fm56) N2 x3 t0_0 t0_1 t0_2 t0_3 t0_4 t0_5 t0_6 t0_7 t0_8 t0_9 t0_10 t1_0 t2_0 t3_0 lx24 lx25 lx43 lx44 lx45 j134 j132 fm152 a189 j187 f185 from (by rw [← e190, ← e188, ← e186, ← e182, ← e180, ← e178, ← e175, ← e173, ← e170, ← e168, ← e165, ← e163, ← e159]; have h := hS149; rw [S_FR_set_L61.eq_2] at h; rw [if_neg c153] at h; replace h := q_s2 h; replace h := q_s2 h; replace h := q_s2 h; with_reducible exact h))⟩⟩
  ·
    have b192 : q_F (lx24.toInt < 156) := (q_nleI c39)
    refine lv_aload_n hx hb d_17_7_11 rfl (lv_at hl 1 rfl) ?_
    refine q_get (ci := 15) (j := 2) (v := .ref (q 147)) C0 V i_FR rfl rfl hO30 (by decide) w_2077 rfl d_17_7_12 ?_
    refine lv_iload hx hb d_17_7_15 (lv_at hl 0 rfl) ?_
    refine lv_iconst (v := 0) hx hb d_17_7_17 (by decide) ?_
    refine q_iast C0 V hO32 (q_ix (x := lx24.toInt) rfl (by have t1 : 0 ≤ lx24.toInt := i26; omega) (by have t1 : 0 ≤ lx24.toInt := i26; have t2 : lx24.toInt < 156 := b192; have e9 : (((156 : Int32).toNatClampNeg : Nat) : Int) = 156 := (by decide); omega)) d_17_7_18 (fun H locs w193 hu194 hO32 V => ?_)
    replace hI := n_ai' hI (n_r147 g q).1 hu194 hO32 (q_updB (fun _ => s_bnd) s_bnd)
    replace hO30 := (hu194 _ (by decide)).trans hO30
    replace hO31 := (hu194 _ (by decide)).trans hO31
    replace hO33 := (hu194 _ (by have z := ne_k2_147; omega)).trans hO33
    replace hF := q_us hF hu194 (by simp)
    obtain ⟨f195, e196⟩ := q_nm (upd lx25 lx24.toNatClampNeg 0 : (Nat → Int32))
    rw [e196] at hO32
    obtain ⟨a197, e198⟩ := q_nm (lx24 + 1 : Int32)
    have b199 : q_F (a197.toInt = lx24.toInt + 1) := (by rw [← e198]; exact q_addI (y := 1) rfl (by decide) (by have t1 : 0 ≤ lx24.toInt := i26; have t2 : lx24.toInt ≤ 156 := i27; omega) (by have t1 : 0 ≤ lx24.toInt := i26; have t2 : lx24.toInt ≤ 156 := i27; omega))
    refine lv_iinc (v := a197) (lv' := [(4, .int a197), (0, .ref (q 145)), (1, .ref (q k2)), (2, .long x3)]) hx hb d_17_7_19 hl (k := 0) rfl (e198) (by decide) rfl (fun ls hl => ?_)
    refine lv_goto (tgt := 3) hx hb d_17_7_22 (by decide) ?_
    exact ih28 ((a197 : Int32), (f195 : (Nat → Int32))) _ _ _ _ (show (156 - a197.toInt).toNat < (156 - lx24.toInt).toNat from by have t1 : a197.toInt = lx24.toInt + 1 := b199; have t2 : lx24.toInt ≤ 156 := i27; have t3 : lx24.toInt < 156 := b192; omega) ⟨(show q_F (0 ≤ a197.toInt) from (show 0 ≤ a197.toInt from by have t1 : 0 ≤ lx24.toInt := i26; have t2 : a197.toInt = lx24.toInt + 1 := b199; omega)), (show q_F (a197.toInt ≤ 156) from (show a197.toInt ≤ 156 from by have t1 : lx24.toInt < 156 := b192; have t2 : a197.toInt = lx24.toInt + 1 := b199; omega)), V, q_lw hl (q_lw1 0 rfl (q_lw1 1 rfl (q_lw1 2 rfl (q_lw1 3 rfl q_lw0)))), hI, hF, hO30, hO31, hO32, hO33, ⟨fm38, Nat.lt_of_lt_of_le (show (156 - a197.toInt).toNat < (156 - lx24.toInt).toNat from by have t1 : a197.toInt = lx24.toInt + 1 := b199; have t2 : lx24.toInt ≤ 156 := i27; have t3 : lx24.toInt < 156 := b192; omega) (Nat.le_of_lt_succ hf37), (show F_FR_set_L3 N2 x3 t0_0 t0_1 t0_2 t0_3 t0_4 t0_5 t0_6 t0_7 t0_8 t0_9 t0_10 t1_0 t2_0 t3_0 fm38 a197 f195 = (F_FR_set N2 x3 t0_0 t0_1 t0_2 t0_3 t0_4 t0_5 t0_6 t0_7 t0_8 t0_9 t0_10 t1_0 t2_0 t3_0) from Eq.trans (by rw [← e198, ← e196, F_FR_set_L3.eq_2, if_neg c39]) hR34), (show True ∧ S_FR_set_L3 N2 x3 t0_0 t0_1 t0_2 t0_3 t0_4 t0_5 t0_6 t0_7 t0_8 t0_9 t0_10 t1_0 t2_0 t3_0 fm38 a197 f195 from (by rw [← e198, ← e196]; have h := hS35; rw [S_FR_set_L3.eq_2] at h; rw [if_neg c39] at h; with_reducible exact h))⟩⟩
theorem d_17_8_0 : decode prog_17_method_8_code 0 = .ok (.aload_n 0, 1) := by decide +kernel
theorem d_17_8_1 : decode prog_17_method_8_code 1 = .ok (.aload_n 0, 1) := by decide +kernel
theorem d_17_8_2 : decode prog_17_method_8_code 2 = .ok (.getfield 55, 3) := by decide +kernel
theorem d_17_8_5 : decode prog_17_method_8_code 5 = .ok (.iconst 2, 1) := by decide +kernel
theorem d_17_8_6 : decode prog_17_method_8_code 6 = .ok (.isub, 1) := by decide +kernel
theorem d_17_8_7 : decode prog_17_method_8_code 7 = .ok (.invokevirtual 61, 3) := by decide +kernel
set_option maxRecDepth 100000 in
theorem w_2607 : (Cond.code ({ cls := "NumberHouseModel$FloatRows", name := "setUnit", desc := "(I)V" } : MethodName) prog_17_method_6_code (6 : Nat) (none : Option ClassFile.FieldType)) ∈ q_tbl := q_of11 207 rfl (by decide +kernel)
set_option maxRecDepth 100000 in
theorem w_2604 : (Cond.methodLink "NumberHouseModel$FloatRows" (61 : Nat) ({ cls := "NumberHouseModel$FloatRows", name := "setUnit", desc := "(I)V" } : MethodName)) ∈ q_tbl := q_of11 204 rfl (by decide +kernel)
set_option maxRecDepth 100000 in
theorem w_2606 : (Cond.instanceMethod ({ cls := "NumberHouseModel$FloatRows", name := "setUnit", desc := "(I)V" } : MethodName)) ∈ q_tbl := q_of11 206 rfl (by decide +kernel)
theorem ws_93 : Cond.selects "NumberHouseModel$FloatRows" (⟨"NumberHouseModel$FloatRows", "setUnit", "(I)V"⟩ : MethodName) (⟨"NumberHouseModel$FloatRows", "setUnit", "(I)V"⟩ : MethodName) ∈ q_tbl := q_ofs 93 (by decide +kernel) (by decide +kernel)
theorem LV_FR_61 : q_LV "NumberHouseModel$FloatRows" 61 y_FR_setUnit prog_17_method_6_code 6 none 1 := ⟨w_2607, w_17, w_2604, w_2606, ws_93, ⟨by decide, by decide, by decide +kernel⟩⟩
theorem d_17_8_10 : decode prog_17_method_8_code 10 = .ok (.aload_n 0, 1) := by decide +kernel
theorem d_17_8_11 : decode prog_17_method_8_code 11 = .ok (.aload_n 0, 1) := by decide +kernel
theorem d_17_8_12 : decode prog_17_method_8_code 12 = .ok (.getfield 16, 3) := by decide +kernel
theorem d_17_8_15 : decode prog_17_method_8_code 15 = .ok (.ldc2_w 65, 3) := by decide +kernel
set_option maxRecDepth 100000 in
theorem w_2609 : (Cond.constantLong "NumberHouseModel$FloatRows" (65 : Nat) (4 : Int64)) ∈ q_tbl := q_of11 209 rfl (by decide +kernel)
theorem d_17_8_18 : decode prog_17_method_8_code 18 = .ok (.aload_n 0, 1) := by decide +kernel
theorem d_17_8_19 : decode prog_17_method_8_code 19 = .ok (.getfield 52, 3) := by decide +kernel
theorem d_17_8_22 : decode prog_17_method_8_code 22 = .ok (.lmul, 1) := by decide +kernel
theorem d_17_8_23 : decode prog_17_method_8_code 23 = .ok (.invokevirtual 67, 3) := by decide +kernel
set_option maxRecDepth 100000 in
theorem w_2613 : (Cond.code ({ cls := "NumberHouseModel$FloatRows", name := "set", desc := "([IJ)V" } : MethodName) prog_17_method_7_code (12 : Nat) (none : Option ClassFile.FieldType)) ∈ q_tbl := q_of11 213 rfl (by decide +kernel)
set_option maxRecDepth 100000 in
theorem w_2610 : (Cond.methodLink "NumberHouseModel$FloatRows" (67 : Nat) ({ cls := "NumberHouseModel$FloatRows", name := "set", desc := "([IJ)V" } : MethodName)) ∈ q_tbl := q_of11 210 rfl (by decide +kernel)
set_option maxRecDepth 100000 in
theorem w_2612 : (Cond.instanceMethod ({ cls := "NumberHouseModel$FloatRows", name := "set", desc := "([IJ)V" } : MethodName)) ∈ q_tbl := q_of11 212 rfl (by decide +kernel)
theorem ws_94 : Cond.selects "NumberHouseModel$FloatRows" (⟨"NumberHouseModel$FloatRows", "set", "([IJ)V"⟩ : MethodName) (⟨"NumberHouseModel$FloatRows", "set", "([IJ)V"⟩ : MethodName) ∈ q_tbl := q_ofs 94 (by decide +kernel) (by decide +kernel)
theorem LV_FR_67 : q_LV "NumberHouseModel$FloatRows" 67 y_FR_set prog_17_method_7_code 12 none 2 := ⟨w_2613, w_17, w_2610, w_2612, ws_94, ⟨by decide, by decide, by decide +kernel⟩⟩
theorem d_17_8_26 : decode prog_17_method_8_code 26 = .ok (.aload_n 0, 1) := by decide +kernel
theorem d_17_8_27 : decode prog_17_method_8_code 27 = .ok (.aload_n 0, 1) := by decide +kernel
theorem d_17_8_28 : decode prog_17_method_8_code 28 = .ok (.getfield 19, 3) := by decide +kernel
theorem d_17_8_31 : decode prog_17_method_8_code 31 = .ok (.ldc2_w 65, 3) := by decide +kernel
theorem d_17_8_34 : decode prog_17_method_8_code 34 = .ok (.aload_n 0, 1) := by decide +kernel
theorem d_17_8_35 : decode prog_17_method_8_code 35 = .ok (.getfield 52, 3) := by decide +kernel
theorem d_17_8_38 : decode prog_17_method_8_code 38 = .ok (.lmul, 1) := by decide +kernel
theorem d_17_8_39 : decode prog_17_method_8_code 39 = .ok (.aload_n 0, 1) := by decide +kernel
theorem d_17_8_40 : decode prog_17_method_8_code 40 = .ok (.getfield 48, 3) := by decide +kernel
theorem d_17_8_43 : decode prog_17_method_8_code 43 = .ok (.lconst 0, 1) := by decide +kernel
theorem d_17_8_44 : decode prog_17_method_8_code 44 = .ok (.lcmp, 1) := by decide +kernel
theorem d_17_8_60 : decode prog_17_method_8_code 60 = .ok (.ldc2_w 71, 3) := by decide +kernel
set_option maxRecDepth 100000 in
theorem w_2615 : (Cond.constantLong "NumberHouseModel$FloatRows" (71 : Nat) (2 : Int64)) ∈ q_tbl := q_of11 215 rfl (by decide +kernel)
theorem d_17_8_63 : decode prog_17_method_8_code 63 = .ok (.lsub, 1) := by decide +kernel
theorem d_17_8_64 : decode prog_17_method_8_code 64 = .ok (.invokevirtual 67, 3) := by decide +kernel
theorem d_17_8_67 : decode prog_17_method_8_code 67 = .ok (.aload_n 0, 1) := by decide +kernel
theorem d_17_8_68 : decode prog_17_method_8_code 68 = .ok (.aload_n 0, 1) := by decide +kernel
theorem d_17_8_69 : decode prog_17_method_8_code 69 = .ok (.getfield 22, 3) := by decide +kernel
theorem d_17_8_72 : decode prog_17_method_8_code 72 = .ok (.ldc2_w 65, 3) := by decide +kernel
theorem d_17_8_75 : decode prog_17_method_8_code 75 = .ok (.aload_n 0, 1) := by decide +kernel
theorem d_17_8_76 : decode prog_17_method_8_code 76 = .ok (.getfield 52, 3) := by decide +kernel
theorem d_17_8_79 : decode prog_17_method_8_code 79 = .ok (.lmul, 1) := by decide +kernel
theorem d_17_8_80 : decode prog_17_method_8_code 80 = .ok (.ldc2_w 71, 3) := by decide +kernel
theorem d_17_8_83 : decode prog_17_method_8_code 83 = .ok (.ladd, 1) := by decide +kernel
theorem d_17_8_84 : decode prog_17_method_8_code 84 = .ok (.invokevirtual 67, 3) := by decide +kernel
theorem d_17_8_87 : decode prog_17_method_8_code 87 = .ok (.return_, 1) := by decide +kernel
theorem d_17_8_45 : decode prog_17_method_8_code 45 = .ok (.ifCond .ne 15, 3) := by decide +kernel
theorem d_17_8_48 : decode prog_17_method_8_code 48 = .ok (.aload_n 0, 1) := by decide +kernel
theorem d_17_8_49 : decode prog_17_method_8_code 49 = .ok (.getfield 45, 3) := by decide +kernel
theorem d_17_8_52 : decode prog_17_method_8_code 52 = .ok (.iconst 1, 1) := by decide +kernel
theorem d_17_8_53 : decode prog_17_method_8_code 53 = .ok (.if_icmp .le 7, 3) := by decide +kernel
theorem d_17_8_56 : decode prog_17_method_8_code 56 = .ok (.lconst 1, 1) := by decide +kernel
theorem d_17_8_57 : decode prog_17_method_8_code 57 = .ok (.goto 6, 3) := by decide +kernel
def y_FR_setAll : MethodName := ⟨"NumberHouseModel$FloatRows", "setAll", "()V"⟩
def F_FR_setAll_c84 (t0_0 : Int32) (t0_1 : Int32) (t0_2 : Int32) (t0_3 : Int32) (t0_4 : Int64) (t0_5 : Int32) (t0_6 : Int32) (t0_7 : Int64) (t0_8 : Int32) (t0_9 : Int64) (t0_10 : Int32) (t1_0 : (Nat → Int32)) (t2_0 : (Nat → Int32)) (t3_0 : (Nat → Int32)) (t4_0 : (Nat → Int32)) (t5_0 : (Nat → Int32)) (f33 : (Nat → Int32)) (p49 : ((Nat → Int32) × (Nat → Int32))) (j58 : Int64) (f43 : (Nat → Int32)) (f45 : (Nat → Int32)) (p86 : ((Nat → Int32) × (Nat → Int32))) (f82 : (Nat → Int32)) (p108 : ((Nat → Int32) × (Nat → Int32))) : (Nat → Int32) × (Nat → Int32) × (Nat → Int32) × (Nat → Int32) × (Nat → Int32) := (f33, (p108.1 : (Nat → Int32)), f45, f82, (p108.2 : (Nat → Int32)))
def F_FR_setAll_c64 (t0_0 : Int32) (t0_1 : Int32) (t0_2 : Int32) (t0_3 : Int32) (t0_4 : Int64) (t0_5 : Int32) (t0_6 : Int32) (t0_7 : Int64) (t0_8 : Int32) (t0_9 : Int64) (t0_10 : Int32) (t1_0 : (Nat → Int32)) (t2_0 : (Nat → Int32)) (t3_0 : (Nat → Int32)) (t4_0 : (Nat → Int32)) (t5_0 : (Nat → Int32)) (f33 : (Nat → Int32)) (p49 : ((Nat → Int32) × (Nat → Int32))) (j58 : Int64) (f43 : (Nat → Int32)) (f45 : (Nat → Int32)) (p86 : ((Nat → Int32) × (Nat → Int32))) : (Nat → Int32) × (Nat → Int32) × (Nat → Int32) × (Nat → Int32) × (Nat → Int32) := F_FR_setAll_c84 t0_0 t0_1 t0_2 t0_3 t0_4 t0_5 t0_6 t0_7 t0_8 t0_9 t0_10 t1_0 t2_0 t3_0 t4_0 t5_0 f33 p49 j58 f43 f45 p86 (p86.2 : (Nat → Int32)) ((F_FR_set (1404 : Int32) ((4 * t0_7 : Int64) + 2 : Int64) t0_0 t0_1 t0_2 t0_3 t0_4 t0_5 t0_6 t0_7 t0_8 t0_9 t0_10 f33 (p86.1 : (Nat → Int32)) t5_0) : ((Nat → Int32) × (Nat → Int32)))
def F_FR_setAll_J60 (t0_0 : Int32) (t0_1 : Int32) (t0_2 : Int32) (t0_3 : Int32) (t0_4 : Int64) (t0_5 : Int32) (t0_6 : Int32) (t0_7 : Int64) (t0_8 : Int32) (t0_9 : Int64) (t0_10 : Int32) (t1_0 : (Nat → Int32)) (t2_0 : (Nat → Int32)) (t3_0 : (Nat → Int32)) (t4_0 : (Nat → Int32)) (t5_0 : (Nat → Int32)) (f33 : (Nat → Int32)) (p49 : ((Nat → Int32) × (Nat → Int32))) (j58 : Int64) (f43 : (Nat → Int32)) (f45 : (Nat → Int32)) : (Nat → Int32) × (Nat → Int32) × (Nat → Int32) × (Nat → Int32) × (Nat → Int32) := F_FR_setAll_c64 t0_0 t0_1 t0_2 t0_3 t0_4 t0_5 t0_6 t0_7 t0_8 t0_9 t0_10 t1_0 t2_0 t3_0 t4_0 t5_0 f33 p49 j58 f43 f45 ((F_FR_set (1404 : Int32) (j58 - 2 : Int64) t0_0 t0_1 t0_2 t0_3 t0_4 t0_5 t0_6 t0_7 t0_8 t0_9 t0_10 f33 f43 t4_0) : ((Nat → Int32) × (Nat → Int32)))
def F_FR_setAll_c84_6 (t0_0 : Int32) (t0_1 : Int32) (t0_2 : Int32) (t0_3 : Int32) (t0_4 : Int64) (t0_5 : Int32) (t0_6 : Int32) (t0_7 : Int64) (t0_8 : Int32) (t0_9 : Int64) (t0_10 : Int32) (t1_0 : (Nat → Int32)) (t2_0 : (Nat → Int32)) (t3_0 : (Nat → Int32)) (t4_0 : (Nat → Int32)) (t5_0 : (Nat → Int32)) (f33 : (Nat → Int32)) (p49 : ((Nat → Int32) × (Nat → Int32))) (f45 : (Nat → Int32)) (p134 : ((Nat → Int32) × (Nat → Int32))) (f130 : (Nat → Int32)) (p156 : ((Nat → Int32) × (Nat → Int32))) : (Nat → Int32) × (Nat → Int32) × (Nat → Int32) × (Nat → Int32) × (Nat → Int32) := (f33, (p156.1 : (Nat → Int32)), f45, f130, (p156.2 : (Nat → Int32)))
def F_FR_setAll_c64_5 (t0_0 : Int32) (t0_1 : Int32) (t0_2 : Int32) (t0_3 : Int32) (t0_4 : Int64) (t0_5 : Int32) (t0_6 : Int32) (t0_7 : Int64) (t0_8 : Int32) (t0_9 : Int64) (t0_10 : Int32) (t1_0 : (Nat → Int32)) (t2_0 : (Nat → Int32)) (t3_0 : (Nat → Int32)) (t4_0 : (Nat → Int32)) (t5_0 : (Nat → Int32)) (f33 : (Nat → Int32)) (p49 : ((Nat → Int32) × (Nat → Int32))) (f45 : (Nat → Int32)) (p134 : ((Nat → Int32) × (Nat → Int32))) : (Nat → Int32) × (Nat → Int32) × (Nat → Int32) × (Nat → Int32) × (Nat → Int32) := F_FR_setAll_c84_6 t0_0 t0_1 t0_2 t0_3 t0_4 t0_5 t0_6 t0_7 t0_8 t0_9 t0_10 t1_0 t2_0 t3_0 t4_0 t5_0 f33 p49 f45 p134 (p134.2 : (Nat → Int32)) ((F_FR_set (1404 : Int32) ((4 * t0_7 : Int64) + 2 : Int64) t0_0 t0_1 t0_2 t0_3 t0_4 t0_5 t0_6 t0_7 t0_8 t0_9 t0_10 f33 (p134.1 : (Nat → Int32)) t5_0) : ((Nat → Int32) × (Nat → Int32)))
def F_FR_setAll_c23 (t0_0 : Int32) (t0_1 : Int32) (t0_2 : Int32) (t0_3 : Int32) (t0_4 : Int64) (t0_5 : Int32) (t0_6 : Int32) (t0_7 : Int64) (t0_8 : Int32) (t0_9 : Int64) (t0_10 : Int32) (t1_0 : (Nat → Int32)) (t2_0 : (Nat → Int32)) (t3_0 : (Nat → Int32)) (t4_0 : (Nat → Int32)) (t5_0 : (Nat → Int32)) (f33 : (Nat → Int32)) (p49 : ((Nat → Int32) × (Nat → Int32))) : (Nat → Int32) × (Nat → Int32) × (Nat → Int32) × (Nat → Int32) × (Nat → Int32) := if (lg_cmp t0_4 0 : Int32) = (0 : Int32) then (if t0_3 ≤ (1 : Int32) then (F_FR_setAll_J60 t0_0 t0_1 t0_2 t0_3 t0_4 t0_5 t0_6 t0_7 t0_8 t0_9 t0_10 t1_0 t2_0 t3_0 t4_0 t5_0 f33 p49 (4 * t0_7 : Int64) (p49.1 : (Nat → Int32)) (p49.2 : (Nat → Int32))) else (F_FR_setAll_c64_5 t0_0 t0_1 t0_2 t0_3 t0_4 t0_5 t0_6 t0_7 t0_8 t0_9 t0_10 t1_0 t2_0 t3_0 t4_0 t5_0 f33 p49 (p49.2 : (Nat → Int32)) ((F_FR_set (1404 : Int32) ((4 * t0_7 : Int64) - 1 : Int64) t0_0 t0_1 t0_2 t0_3 t0_4 t0_5 t0_6 t0_7 t0_8 t0_9 t0_10 f33 (p49.1 : (Nat → Int32)) t4_0) : ((Nat → Int32) × (Nat → Int32))))) else (F_FR_setAll_J60 t0_0 t0_1 t0_2 t0_3 t0_4 t0_5 t0_6 t0_7 t0_8 t0_9 t0_10 t1_0 t2_0 t3_0 t4_0 t5_0 f33 p49 (4 * t0_7 : Int64) (p49.1 : (Nat → Int32)) (p49.2 : (Nat → Int32)))
def F_FR_setAll (t0_0 : Int32) (t0_1 : Int32) (t0_2 : Int32) (t0_3 : Int32) (t0_4 : Int64) (t0_5 : Int32) (t0_6 : Int32) (t0_7 : Int64) (t0_8 : Int32) (t0_9 : Int64) (t0_10 : Int32) (t1_0 : (Nat → Int32)) (t2_0 : (Nat → Int32)) (t3_0 : (Nat → Int32)) (t4_0 : (Nat → Int32)) (t5_0 : (Nat → Int32)) : (Nat → Int32) × (Nat → Int32) × (Nat → Int32) × (Nat → Int32) × (Nat → Int32) := F_FR_setAll_c23 t0_0 t0_1 t0_2 t0_3 t0_4 t0_5 t0_6 t0_7 t0_8 t0_9 t0_10 t1_0 t2_0 t3_0 t4_0 t5_0 ((F_FR_setUnit (t0_8 - 2 : Int32) t0_0 t0_1 t0_2 t0_3 t0_4 t0_5 t0_6 t0_7 t0_8 t0_9 t0_10 t1_0) : (Nat → Int32)) ((F_FR_set (1404 : Int32) (4 * t0_7 : Int64) t0_0 t0_1 t0_2 t0_3 t0_4 t0_5 t0_6 t0_7 t0_8 t0_9 t0_10 ((F_FR_setUnit (t0_8 - 2 : Int32) t0_0 t0_1 t0_2 t0_3 t0_4 t0_5 t0_6 t0_7 t0_8 t0_9 t0_10 t1_0) : (Nat → Int32)) t2_0 t3_0) : ((Nat → Int32) × (Nat → Int32)))
def S_FR_setAll_c84 (t0_0 : Int32) (t0_1 : Int32) (t0_2 : Int32) (t0_3 : Int32) (t0_4 : Int64) (t0_5 : Int32) (t0_6 : Int32) (t0_7 : Int64) (t0_8 : Int32) (t0_9 : Int64) (t0_10 : Int32) (t1_0 : (Nat → Int32)) (t2_0 : (Nat → Int32)) (t3_0 : (Nat → Int32)) (t4_0 : (Nat → Int32)) (t5_0 : (Nat → Int32)) (f33 : (Nat → Int32)) (p49 : ((Nat → Int32) × (Nat → Int32))) (j58 : Int64) (f43 : (Nat → Int32)) (f45 : (Nat → Int32)) (p86 : ((Nat → Int32) × (Nat → Int32))) (f82 : (Nat → Int32)) (p108 : ((Nat → Int32) × (Nat → Int32))) : Prop := True
def S_FR_setAll_c64 (t0_0 : Int32) (t0_1 : Int32) (t0_2 : Int32) (t0_3 : Int32) (t0_4 : Int64) (t0_5 : Int32) (t0_6 : Int32) (t0_7 : Int64) (t0_8 : Int32) (t0_9 : Int64) (t0_10 : Int32) (t1_0 : (Nat → Int32)) (t2_0 : (Nat → Int32)) (t3_0 : (Nat → Int32)) (t4_0 : (Nat → Int32)) (t5_0 : (Nat → Int32)) (f33 : (Nat → Int32)) (p49 : ((Nat → Int32) × (Nat → Int32))) (j58 : Int64) (f43 : (Nat → Int32)) (f45 : (Nat → Int32)) (p86 : ((Nat → Int32) × (Nat → Int32))) : Prop := (True ∧ S_FR_set (1404 : Int32) ((4 * t0_7 : Int64) + 2 : Int64) t0_0 t0_1 t0_2 t0_3 t0_4 t0_5 t0_6 t0_7 t0_8 t0_9 t0_10 f33 (p86.1 : (Nat → Int32)) t5_0) ∧ (S_FR_setAll_c84 t0_0 t0_1 t0_2 t0_3 t0_4 t0_5 t0_6 t0_7 t0_8 t0_9 t0_10 t1_0 t2_0 t3_0 t4_0 t5_0 f33 p49 j58 f43 f45 p86 (p86.2 : (Nat → Int32)) ((F_FR_set (1404 : Int32) ((4 * t0_7 : Int64) + 2 : Int64) t0_0 t0_1 t0_2 t0_3 t0_4 t0_5 t0_6 t0_7 t0_8 t0_9 t0_10 f33 (p86.1 : (Nat → Int32)) t5_0) : ((Nat → Int32) × (Nat → Int32))))
def S_FR_setAll_J60 (t0_0 : Int32) (t0_1 : Int32) (t0_2 : Int32) (t0_3 : Int32) (t0_4 : Int64) (t0_5 : Int32) (t0_6 : Int32) (t0_7 : Int64) (t0_8 : Int32) (t0_9 : Int64) (t0_10 : Int32) (t1_0 : (Nat → Int32)) (t2_0 : (Nat → Int32)) (t3_0 : (Nat → Int32)) (t4_0 : (Nat → Int32)) (t5_0 : (Nat → Int32)) (f33 : (Nat → Int32)) (p49 : ((Nat → Int32) × (Nat → Int32))) (j58 : Int64) (f43 : (Nat → Int32)) (f45 : (Nat → Int32)) : Prop := (True ∧ S_FR_set (1404 : Int32) (j58 - 2 : Int64) t0_0 t0_1 t0_2 t0_3 t0_4 t0_5 t0_6 t0_7 t0_8 t0_9 t0_10 f33 f43 t4_0) ∧ (S_FR_setAll_c64 t0_0 t0_1 t0_2 t0_3 t0_4 t0_5 t0_6 t0_7 t0_8 t0_9 t0_10 t1_0 t2_0 t3_0 t4_0 t5_0 f33 p49 j58 f43 f45 ((F_FR_set (1404 : Int32) (j58 - 2 : Int64) t0_0 t0_1 t0_2 t0_3 t0_4 t0_5 t0_6 t0_7 t0_8 t0_9 t0_10 f33 f43 t4_0) : ((Nat → Int32) × (Nat → Int32))))
def S_FR_setAll_c84_6 (t0_0 : Int32) (t0_1 : Int32) (t0_2 : Int32) (t0_3 : Int32) (t0_4 : Int64) (t0_5 : Int32) (t0_6 : Int32) (t0_7 : Int64) (t0_8 : Int32) (t0_9 : Int64) (t0_10 : Int32) (t1_0 : (Nat → Int32)) (t2_0 : (Nat → Int32)) (t3_0 : (Nat → Int32)) (t4_0 : (Nat → Int32)) (t5_0 : (Nat → Int32)) (f33 : (Nat → Int32)) (p49 : ((Nat → Int32) × (Nat → Int32))) (f45 : (Nat → Int32)) (p134 : ((Nat → Int32) × (Nat → Int32))) (f130 : (Nat → Int32)) (p156 : ((Nat → Int32) × (Nat → Int32))) : Prop := True
def S_FR_setAll_c64_5 (t0_0 : Int32) (t0_1 : Int32) (t0_2 : Int32) (t0_3 : Int32) (t0_4 : Int64) (t0_5 : Int32) (t0_6 : Int32) (t0_7 : Int64) (t0_8 : Int32) (t0_9 : Int64) (t0_10 : Int32) (t1_0 : (Nat → Int32)) (t2_0 : (Nat → Int32)) (t3_0 : (Nat → Int32)) (t4_0 : (Nat → Int32)) (t5_0 : (Nat → Int32)) (f33 : (Nat → Int32)) (p49 : ((Nat → Int32) × (Nat → Int32))) (f45 : (Nat → Int32)) (p134 : ((Nat → Int32) × (Nat → Int32))) : Prop := (True ∧ S_FR_set (1404 : Int32) ((4 * t0_7 : Int64) + 2 : Int64) t0_0 t0_1 t0_2 t0_3 t0_4 t0_5 t0_6 t0_7 t0_8 t0_9 t0_10 f33 (p134.1 : (Nat → Int32)) t5_0) ∧ (S_FR_setAll_c84_6 t0_0 t0_1 t0_2 t0_3 t0_4 t0_5 t0_6 t0_7 t0_8 t0_9 t0_10 t1_0 t2_0 t3_0 t4_0 t5_0 f33 p49 f45 p134 (p134.2 : (Nat → Int32)) ((F_FR_set (1404 : Int32) ((4 * t0_7 : Int64) + 2 : Int64) t0_0 t0_1 t0_2 t0_3 t0_4 t0_5 t0_6 t0_7 t0_8 t0_9 t0_10 f33 (p134.1 : (Nat → Int32)) t5_0) : ((Nat → Int32) × (Nat → Int32))))
def S_FR_setAll_c23 (t0_0 : Int32) (t0_1 : Int32) (t0_2 : Int32) (t0_3 : Int32) (t0_4 : Int64) (t0_5 : Int32) (t0_6 : Int32) (t0_7 : Int64) (t0_8 : Int32) (t0_9 : Int64) (t0_10 : Int32) (t1_0 : (Nat → Int32)) (t2_0 : (Nat → Int32)) (t3_0 : (Nat → Int32)) (t4_0 : (Nat → Int32)) (t5_0 : (Nat → Int32)) (f33 : (Nat → Int32)) (p49 : ((Nat → Int32) × (Nat → Int32))) : Prop := if (lg_cmp t0_4 0 : Int32) = (0 : Int32) then (if t0_3 ≤ (1 : Int32) then (S_FR_setAll_J60 t0_0 t0_1 t0_2 t0_3 t0_4 t0_5 t0_6 t0_7 t0_8 t0_9 t0_10 t1_0 t2_0 t3_0 t4_0 t5_0 f33 p49 (4 * t0_7 : Int64) (p49.1 : (Nat → Int32)) (p49.2 : (Nat → Int32))) else ((True ∧ S_FR_set (1404 : Int32) ((4 * t0_7 : Int64) - 1 : Int64) t0_0 t0_1 t0_2 t0_3 t0_4 t0_5 t0_6 t0_7 t0_8 t0_9 t0_10 f33 (p49.1 : (Nat → Int32)) t4_0) ∧ (S_FR_setAll_c64_5 t0_0 t0_1 t0_2 t0_3 t0_4 t0_5 t0_6 t0_7 t0_8 t0_9 t0_10 t1_0 t2_0 t3_0 t4_0 t5_0 f33 p49 (p49.2 : (Nat → Int32)) ((F_FR_set (1404 : Int32) ((4 * t0_7 : Int64) - 1 : Int64) t0_0 t0_1 t0_2 t0_3 t0_4 t0_5 t0_6 t0_7 t0_8 t0_9 t0_10 f33 (p49.1 : (Nat → Int32)) t4_0) : ((Nat → Int32) × (Nat → Int32)))))) else (S_FR_setAll_J60 t0_0 t0_1 t0_2 t0_3 t0_4 t0_5 t0_6 t0_7 t0_8 t0_9 t0_10 t1_0 t2_0 t3_0 t4_0 t5_0 f33 p49 (4 * t0_7 : Int64) (p49.1 : (Nat → Int32)) (p49.2 : (Nat → Int32)))
def S_FR_setAll (t0_0 : Int32) (t0_1 : Int32) (t0_2 : Int32) (t0_3 : Int32) (t0_4 : Int64) (t0_5 : Int32) (t0_6 : Int32) (t0_7 : Int64) (t0_8 : Int32) (t0_9 : Int64) (t0_10 : Int32) (t1_0 : (Nat → Int32)) (t2_0 : (Nat → Int32)) (t3_0 : (Nat → Int32)) (t4_0 : (Nat → Int32)) (t5_0 : (Nat → Int32)) : Prop := (True ∧ S_FR_set (1404 : Int32) (4 * t0_7 : Int64) t0_0 t0_1 t0_2 t0_3 t0_4 t0_5 t0_6 t0_7 t0_8 t0_9 t0_10 ((F_FR_setUnit (t0_8 - 2 : Int32) t0_0 t0_1 t0_2 t0_3 t0_4 t0_5 t0_6 t0_7 t0_8 t0_9 t0_10 t1_0) : (Nat → Int32)) t2_0 t3_0) ∧ (S_FR_setAll_c23 t0_0 t0_1 t0_2 t0_3 t0_4 t0_5 t0_6 t0_7 t0_8 t0_9 t0_10 t1_0 t2_0 t3_0 t4_0 t5_0 ((F_FR_setUnit (t0_8 - 2 : Int32) t0_0 t0_1 t0_2 t0_3 t0_4 t0_5 t0_6 t0_7 t0_8 t0_9 t0_10 t1_0) : (Nat → Int32)) ((F_FR_set (1404 : Int32) (4 * t0_7 : Int64) t0_0 t0_1 t0_2 t0_3 t0_4 t0_5 t0_6 t0_7 t0_8 t0_9 t0_10 ((F_FR_setUnit (t0_8 - 2 : Int32) t0_0 t0_1 t0_2 t0_3 t0_4 t0_5 t0_6 t0_7 t0_8 t0_9 t0_10 t1_0) : (Nat → Int32)) t2_0 t3_0) : ((Nat → Int32) × (Nat → Int32))))
set_option maxRecDepth 100000 in
set_option maxHeartbeats 4000000 in
theorem X_FR_setAll (l : Launch) (D : va_G) (g : Nat → ClassId) (q : Nat → Nat) (ws : va_W) (hI : q_I (msh g q) q ws) (t0_0 : Int32) (t0_1 : Int32) (t0_2 : Int32) (t0_3 : Int32) (t0_4 : Int64) (t0_5 : Int32) (t0_6 : Int32) (t0_7 : Int64) (t0_8 : Int32) (t0_9 : Int64) (t0_10 : Int32) (hT0 : ws[145]? = (some (q 145, .inr (15, [.int t0_0, .ref (q 146), .ref (q 147), .ref (q 148), .ref (q 149), .ref (q 150), .ref (q 151), .ref (q 152), .int t0_1, .int t0_2, .int t0_3, .long t0_4, .int t0_5, .int t0_6, .long t0_7, .int t0_8, .long t0_9, .int t0_10])) : Option (Nat × va_E))) (t1_0 : (Nat → Int32)) (hT1 : ws[146]? = (some (q 146, .inl (g 0, (156 : Int32).toNatClampNeg, .inl t1_0)) : Option (Nat × va_E))) (t2_0 : (Nat → Int32)) (hT2 : ws[147]? = (some (q 147, .inl (g 0, (156 : Int32).toNatClampNeg, .inl t2_0)) : Option (Nat × va_E))) (t3_0 : (Nat → Int32)) (hT3 : ws[148]? = (some (q 148, .inl (g 0, (1404 : Int32).toNatClampNeg, .inl t3_0)) : Option (Nat × va_E))) (t4_0 : (Nat → Int32)) (hT4 : ws[149]? = (some (q 149, .inl (g 0, (1404 : Int32).toNatClampNeg, .inl t4_0)) : Option (Nat × va_E))) (t5_0 : (Nat → Int32)) (hT5 : ws[150]? = (some (q 150, .inl (g 0, (1404 : Int32).toNatClampNeg, .inl t5_0)) : Option (Nat × va_E))) (hS : True ∧ S_FR_setAll t0_0 t0_1 t0_2 t0_3 t0_4 t0_5 t0_6 t0_7 t0_8 t0_9 t0_10 t1_0 t2_0 t3_0 t4_0 t5_0) : q_mV l y_FR_setAll prog_17_method_8_code 1 2 0 0 D g [.ref (q 145)] ws (fun u => q_I (msh g q) q u ∧ q_un ws u [146, 147, 148, 149, 150] ∧ ∃ (u1_0 : (Nat → Int32)) (u2_0 : (Nat → Int32)) (u3_0 : (Nat → Int32)) (u4_0 : (Nat → Int32)) (u5_0 : (Nat → Int32)), u[146]? = (some (q 146, .inl (g 0, (156 : Int32).toNatClampNeg, .inl u1_0)) : Option (Nat × va_E)) ∧ u[147]? = (some (q 147, .inl (g 0, (156 : Int32).toNatClampNeg, .inl u2_0)) : Option (Nat × va_E)) ∧ u[148]? = (some (q 148, .inl (g 0, (1404 : Int32).toNatClampNeg, .inl u3_0)) : Option (Nat × va_E)) ∧ u[149]? = (some (q 149, .inl (g 0, (1404 : Int32).toNatClampNeg, .inl u4_0)) : Option (Nat × va_E)) ∧ u[150]? = (some (q 150, .inl (g 0, (1404 : Int32).toNatClampNeg, .inl u5_0)) : Option (Nat × va_E)) ∧ (u1_0, u2_0, u3_0, u4_0, u5_0) = (F_FR_setAll t0_0 t0_1 t0_2 t0_3 t0_4 t0_5 t0_6 t0_7 t0_8 t0_9 t0_10 t1_0 t2_0 t3_0 t4_0 t5_0)) := by
  intro sz
  refine q_into (by decide) (Nat.le_of_ble_eq_true rfl) ?_
  intro p e s m below meth c ls hsz C0 V hl
  have hx := C0.1
  have hb := C0.2.1
  obtain ⟨yy0_0, yy0_1, yy0_2, yy0_3, yy0_4, yy0_5, yy0_6, yy0_7, yy0_8, yy0_9, yy0_10, hh0, btt0_2⟩ := n_o145 hI
  obtain ⟨rfl, rfl, rfl, rfl, rfl, rfl, rfl, rfl, rfl, rfl, rfl⟩ : t0_0 = yy0_0 ∧ t0_1 = yy0_1 ∧ t0_2 = yy0_2 ∧ t0_3 = yy0_3 ∧ t0_4 = yy0_4 ∧ t0_5 = yy0_5 ∧ t0_6 = yy0_6 ∧ t0_7 = yy0_7 ∧ t0_8 = yy0_8 ∧ t0_9 = yy0_9 ∧ t0_10 = yy0_10 := by have z := Option.some.inj (hT0.symm.trans hh0); simpa using z
  replace btt0_2 : q_F (0 ≤ t0_2.toInt ∧ t0_2.toInt ≤ 1) := btt0_2
  have hF : q_un ws ws [146, 147, 148, 149, 150] := q_u0
  have hl : lv_has ls 1 [(0, .ref (q 145))] := hl
  refine lv_aload_n hx hb d_17_8_0 rfl (lv_at hl 0 rfl) ?_
  refine lv_aload_n hx hb d_17_8_1 rfl (lv_at hl 0 rfl) ?_
  refine q_get (ci := 15) (j := 15) (v := .int t0_8) C0 V i_FR rfl rfl hT0 (by decide) w_2091 rfl d_17_8_2 ?_
  refine lv_iconst (v := 2) hx hb d_17_8_5 (by decide) ?_
  refine lv_isub hx hb d_17_8_6 ?_
  obtain ⟨a29, e30⟩ := q_nm (t0_8 - 2 : Int32)
  refine q_ti (v := a29) e30 ?_
  refine q_gov V (q_runV (As := [.int a29]) (rest := []) (d := 1) (mc := 0) (ms := 0) (ci := 15) C0 V rfl LV_FR_61 (X_FR_setUnit l D g q ws  a29 hI t0_0 t0_1 t0_2 t0_3 t0_4 t0_5 t0_6 t0_7 t0_8 t0_9 t0_10 hT0 t1_0 hT1  _) rfl rfl hT0 rfl hl.1 rfl (Nat.le_of_ble_eq_true rfl) ⟨by decide, by decide⟩ ⟨Nat.le_of_ble_eq_true rfl, Nat.le_of_ble_eq_true rfl⟩ d_17_8_7) (fun u31 H locs hp32 V => ?_)
  obtain ⟨hI, hu36, f33, hA34, hE35⟩ := hp32
  replace hA34 : u31[146]? = (some (q 146, .inl (g 0, (156 : Int32).toNatClampNeg, .inl f33)) : Option (Nat × va_E)) := hA34
  have e37 : f33 = (F_FR_setUnit a29 t0_0 t0_1 t0_2 t0_3 t0_4 t0_5 t0_6 t0_7 t0_8 t0_9 t0_10 t1_0) := hE35
  replace hT0 := (hu36 _ (by decide)).trans hT0
  replace hT2 := (hu36 _ (by decide)).trans hT2
  replace hT3 := (hu36 _ (by decide)).trans hT3
  replace hT4 := (hu36 _ (by decide)).trans hT4
  replace hT5 := (hu36 _ (by decide)).trans hT5
  replace hF := q_uc hF hu36 (by simp)
  refine lv_aload_n hx hb d_17_8_10 rfl (lv_at hl 0 rfl) ?_
  refine lv_aload_n hx hb d_17_8_11 rfl (lv_at hl 0 rfl) ?_
  refine q_get (ci := 15) (j := 3) (v := .ref (q 148)) C0 V i_FR rfl rfl hT0 (by decide) w_2078 rfl d_17_8_12 ?_
  refine q_ldc2 C0 rfl w_2609 d_17_8_15 ?_
  refine lv_aload_n hx hb d_17_8_18 rfl (lv_at hl 0 rfl) ?_
  refine q_get (ci := 15) (j := 14) (v := .long t0_7) C0 V i_FR rfl rfl hT0 (by decide) w_2090 rfl d_17_8_19 ?_
  refine lv_lmul hx hb d_17_8_22 ?_
  obtain ⟨j38, e39⟩ := q_nm (4 * t0_7 : Int64)
  refine q_tl (v := j38) e39 ?_
  have ob40 : True ∧ S_FR_set (1404 : Int32) j38 t0_0 t0_1 t0_2 t0_3 t0_4 t0_5 t0_6 t0_7 t0_8 t0_9 t0_10 f33 t2_0 t3_0 := (by rw [← e39, e37, ← e30]; have h := hS; rw [S_FR_setAll.eq_1] at h; with_reducible exact h.2.1)
  refine q_gov V (q_runV (As := [.ref (q 148), .long j38]) (rest := []) (d := 1) (mc := 0) (ms := 0) (ci := 15) C0 V rfl LV_FR_67 (X_FR_set l D g q u31 148 1404 (n_r148 g q) j38 (by decide) (by decide) hI t0_0 t0_1 t0_2 t0_3 t0_4 t0_5 t0_6 t0_7 t0_8 t0_9 t0_10 hT0 f33 hA34 t2_0 hT2 t3_0 hT3 ob40 _) rfl rfl hT0 rfl hl.1 rfl (Nat.le_of_ble_eq_true rfl) ⟨by decide, by decide⟩ ⟨Nat.le_of_ble_eq_true rfl, Nat.le_of_ble_eq_true rfl⟩ d_17_8_23) (fun u41 H locs hp42 V => ?_)
  obtain ⟨hI, hu48, f43, f45, hA44, hA46, hE47⟩ := hp42
  replace hA44 : u41[147]? = (some (q 147, .inl (g 0, (156 : Int32).toNatClampNeg, .inl f43)) : Option (Nat × va_E)) := hA44
  replace hA46 : u41[148]? = (some (q 148, .inl (g 0, (1404 : Int32).toNatClampNeg, .inl f45)) : Option (Nat × va_E)) := hA46
  obtain ⟨p49, e50⟩ : ∃ z, z = (F_FR_set (1404 : Int32) j38 t0_0 t0_1 t0_2 t0_3 t0_4 t0_5 t0_6 t0_7 t0_8 t0_9 t0_10 f33 t2_0 t3_0) := ⟨_, rfl⟩
  have e51 : f43 = p49.1 := congrArg (fun z => z.1) (hE47.trans e50.symm)
  have e52 : f45 = p49.2 := congrArg (fun z => z.2) (hE47.trans e50.symm)
  replace hT0 := (hu48 _ (by decide)).trans hT0
  replace hA34 := (hu48 _ (by decide)).trans hA34
  replace hT4 := (hu48 _ (by decide)).trans hT4
  replace hT5 := (hu48 _ (by decide)).trans hT5
  replace hF := q_uc hF hu48 (by simp)
  have hR53 := (show F_FR_setAll_c23 t0_0 t0_1 t0_2 t0_3 t0_4 t0_5 t0_6 t0_7 t0_8 t0_9 t0_10 t1_0 t2_0 t3_0 t4_0 t5_0 f33 p49 = (F_FR_setAll t0_0 t0_1 t0_2 t0_3 t0_4 t0_5 t0_6 t0_7 t0_8 t0_9 t0_10 t1_0 t2_0 t3_0 t4_0 t5_0) from (by rw [e50, ← e39, e37, ← e30, F_FR_setAll.eq_1]))
  have hS54 := (show True ∧ S_FR_setAll_c23 t0_0 t0_1 t0_2 t0_3 t0_4 t0_5 t0_6 t0_7 t0_8 t0_9 t0_10 t1_0 t2_0 t3_0 t4_0 t5_0 f33 p49 from (by rw [e50, ← e39, e37, ← e30]; have h := hS; rw [S_FR_setAll.eq_1] at h; replace h := q_s2 h; with_reducible exact h))
  refine lv_aload_n hx hb d_17_8_26 rfl (lv_at hl 0 rfl) ?_
  refine lv_aload_n hx hb d_17_8_27 rfl (lv_at hl 0 rfl) ?_
  refine q_get (ci := 15) (j := 4) (v := .ref (q 149)) C0 V i_FR rfl rfl hT0 (by decide) w_2079 rfl d_17_8_28 ?_
  refine q_ldc2 C0 rfl w_2609 d_17_8_31 ?_
  refine lv_aload_n hx hb d_17_8_34 rfl (lv_at hl 0 rfl) ?_
  refine q_get (ci := 15) (j := 14) (v := .long t0_7) C0 V i_FR rfl rfl hT0 (by decide) w_2090 rfl d_17_8_35 ?_
  refine lv_lmul hx hb d_17_8_38 ?_
  obtain ⟨j58, e59⟩ := q_nm (4 * t0_7 : Int64)
  refine q_tl (v := j58) e59 ?_
  refine lv_aload_n hx hb d_17_8_39 rfl (lv_at hl 0 rfl) ?_
  refine q_get (ci := 15) (j := 11) (v := .long t0_4) C0 V i_FR rfl rfl hT0 (by decide) w_2087 rfl d_17_8_40 ?_
  refine lv_lconst (v := 0) hx hb d_17_8_43 (by decide) ?_
  refine W.lcmp hx hb d_17_8_44 ?_
  obtain ⟨a60, e61⟩ := q_nm (lg_cmp t0_4 0 : Int32)
  refine q_ti (v := a60) e61 ?_
  have b62 : q_F (-1 ≤ a60.toInt ∧ a60.toInt ≤ 1 ∧ ((a60.toInt = -1 ∧ t0_4.toInt < 0) ∨ (a60.toInt = 0 ∧ t0_4.toInt = 0) ∨ (a60.toInt = 1 ∧ 0 < t0_4.toInt))) := (by rw [← e61]; show -1 ≤ (lg_cmp t0_4 0 : Int32).toInt ∧ (lg_cmp t0_4 0 : Int32).toInt ≤ 1 ∧ (((lg_cmp t0_4 0 : Int32).toInt = -1 ∧ t0_4.toInt < 0) ∨ ((lg_cmp t0_4 0 : Int32).toInt = 0 ∧ t0_4.toInt = 0) ∨ ((lg_cmp t0_4 0 : Int32).toInt = 1 ∧ 0 < t0_4.toInt)); exact (by have y1 : (0 : Int64).toInt = 0 := rfl; have z := s_lcmp (a := t0_4) (b := 0); omega))
  refine q_join (X := Unit) (fun z H locs ls _ => q_Wd D g (va_A ws sz) s u41 H locs ∧ lv_has ls 1 [(0, .ref (q 145))] ∧ F_FR_setAll_J60 t0_0 t0_1 t0_2 t0_3 t0_4 t0_5 t0_6 t0_7 t0_8 t0_9 t0_10 t1_0 t2_0 t3_0 t4_0 t5_0 f33 p49 j58 f43 f45 = (F_FR_setAll t0_0 t0_1 t0_2 t0_3 t0_4 t0_5 t0_6 t0_7 t0_8 t0_9 t0_10 t1_0 t2_0 t3_0 t4_0 t5_0) ∧ True ∧ S_FR_setAll_J60 t0_0 t0_1 t0_2 t0_3 t0_4 t0_5 t0_6 t0_7 t0_8 t0_9 t0_10 t1_0 t2_0 t3_0 t4_0 t5_0 f33 p49 j58 f43 f45) (fun z => [.long j58, .ref (q 149), .ref (q 145)]) 60 0 0 ?_ ?_
  ·
    rintro _ H locs ls _ ⟨V, hl, hR70, hS71⟩
    replace hl : lv_has ls 1 [(0, .ref (q 145))] := hl
    refine q_ldc2 C0 rfl w_2615 d_17_8_60 ?_
    refine lv_lsub hx hb d_17_8_63 ?_
    obtain ⟨j75, e76⟩ := q_nm (j58 - 2 : Int64)
    refine q_tl (v := j75) e76 ?_
    have ob77 : True ∧ S_FR_set (1404 : Int32) j75 t0_0 t0_1 t0_2 t0_3 t0_4 t0_5 t0_6 t0_7 t0_8 t0_9 t0_10 f33 f43 t4_0 := (by rw [← e76]; have h := hS71; rw [S_FR_setAll_J60.eq_1] at h; with_reducible exact h.2.1)
    refine q_gov V (q_runV (As := [.ref (q 149), .long j75]) (rest := []) (d := 1) (mc := 0) (ms := 0) (ci := 15) C0 V rfl LV_FR_67 (X_FR_set l D g q u41 149 1404 (n_r149 g q) j75 (by decide) (by decide) hI t0_0 t0_1 t0_2 t0_3 t0_4 t0_5 t0_6 t0_7 t0_8 t0_9 t0_10 hT0 f33 hA34 f43 hA44 t4_0 hT4 ob77 _) rfl rfl hT0 rfl hl.1 rfl (Nat.le_of_ble_eq_true rfl) ⟨by decide, by decide⟩ ⟨Nat.le_of_ble_eq_true rfl, Nat.le_of_ble_eq_true rfl⟩ d_17_8_64) (fun u78 H locs hp79 V => ?_)
    obtain ⟨hI, hu85, f80, f82, hA81, hA83, hE84⟩ := hp79
    replace hA81 : u78[147]? = (some (q 147, .inl (g 0, (156 : Int32).toNatClampNeg, .inl f80)) : Option (Nat × va_E)) := hA81
    replace hA83 : u78[149]? = (some (q 149, .inl (g 0, (1404 : Int32).toNatClampNeg, .inl f82)) : Option (Nat × va_E)) := hA83
    obtain ⟨p86, e87⟩ : ∃ z, z = (F_FR_set (1404 : Int32) j75 t0_0 t0_1 t0_2 t0_3 t0_4 t0_5 t0_6 t0_7 t0_8 t0_9 t0_10 f33 f43 t4_0) := ⟨_, rfl⟩
    have e88 : f80 = p86.1 := congrArg (fun z => z.1) (hE84.trans e87.symm)
    have e89 : f82 = p86.2 := congrArg (fun z => z.2) (hE84.trans e87.symm)
    replace hT0 := (hu85 _ (by decide)).trans hT0
    replace hA34 := (hu85 _ (by decide)).trans hA34
    replace hA46 := (hu85 _ (by decide)).trans hA46
    replace hT5 := (hu85 _ (by decide)).trans hT5
    replace hF := q_uc hF hu85 (by simp)
    have hR90 := (show F_FR_setAll_c64 t0_0 t0_1 t0_2 t0_3 t0_4 t0_5 t0_6 t0_7 t0_8 t0_9 t0_10 t1_0 t2_0 t3_0 t4_0 t5_0 f33 p49 j58 f43 f45 p86 = (F_FR_setAll t0_0 t0_1 t0_2 t0_3 t0_4 t0_5 t0_6 t0_7 t0_8 t0_9 t0_10 t1_0 t2_0 t3_0 t4_0 t5_0) from Eq.trans (by rw [e87, ← e76, F_FR_setAll_J60.eq_1]) hR70)
    have hS91 := (show True ∧ S_FR_setAll_c64 t0_0 t0_1 t0_2 t0_3 t0_4 t0_5 t0_6 t0_7 t0_8 t0_9 t0_10 t1_0 t2_0 t3_0 t4_0 t5_0 f33 p49 j58 f43 f45 p86 from (by rw [e87, ← e76]; have h := hS71; rw [S_FR_setAll_J60.eq_1] at h; replace h := q_s2 h; with_reducible exact h))
    refine lv_aload_n hx hb d_17_8_67 rfl (lv_at hl 0 rfl) ?_
    refine lv_aload_n hx hb d_17_8_68 rfl (lv_at hl 0 rfl) ?_
    refine q_get (ci := 15) (j := 5) (v := .ref (q 150)) C0 V i_FR rfl rfl hT0 (by decide) w_2080 rfl d_17_8_69 ?_
    refine q_ldc2 C0 rfl w_2609 d_17_8_72 ?_
    refine lv_aload_n hx hb d_17_8_75 rfl (lv_at hl 0 rfl) ?_
    refine q_get (ci := 15) (j := 14) (v := .long t0_7) C0 V i_FR rfl rfl hT0 (by decide) w_2090 rfl d_17_8_76 ?_
    refine lv_lmul hx hb d_17_8_79 ?_
    obtain ⟨j95, e96⟩ := q_nm (4 * t0_7 : Int64)
    refine q_tl (v := j95) e96 ?_
    refine q_ldc2 C0 rfl w_2615 d_17_8_80 ?_
    refine lv_ladd hx hb d_17_8_83 ?_
    obtain ⟨j97, e98⟩ := q_nm (j95 + 2 : Int64)
    refine q_tl (v := j97) e98 ?_
    have ob99 : True ∧ S_FR_set (1404 : Int32) j97 t0_0 t0_1 t0_2 t0_3 t0_4 t0_5 t0_6 t0_7 t0_8 t0_9 t0_10 f33 f80 t5_0 := (by rw [← e98, ← e96, e88]; have h := hS91; rw [S_FR_setAll_c64.eq_1] at h; with_reducible exact h.2.1)
    refine q_gov V (q_runV (As := [.ref (q 150), .long j97]) (rest := []) (d := 1) (mc := 0) (ms := 0) (ci := 15) C0 V rfl LV_FR_67 (X_FR_set l D g q u78 150 1404 (n_r150 g q) j97 (by decide) (by decide) hI t0_0 t0_1 t0_2 t0_3 t0_4 t0_5 t0_6 t0_7 t0_8 t0_9 t0_10 hT0 f33 hA34 f80 hA81 t5_0 hT5 ob99 _) rfl rfl hT0 rfl hl.1 rfl (Nat.le_of_ble_eq_true rfl) ⟨by decide, by decide⟩ ⟨Nat.le_of_ble_eq_true rfl, Nat.le_of_ble_eq_true rfl⟩ d_17_8_84) (fun u100 H locs hp101 V => ?_)
    obtain ⟨hI, hu107, f102, f104, hA103, hA105, hE106⟩ := hp101
    replace hA103 : u100[147]? = (some (q 147, .inl (g 0, (156 : Int32).toNatClampNeg, .inl f102)) : Option (Nat × va_E)) := hA103
    replace hA105 : u100[150]? = (some (q 150, .inl (g 0, (1404 : Int32).toNatClampNeg, .inl f104)) : Option (Nat × va_E)) := hA105
    obtain ⟨p108, e109⟩ : ∃ z, z = (F_FR_set (1404 : Int32) j97 t0_0 t0_1 t0_2 t0_3 t0_4 t0_5 t0_6 t0_7 t0_8 t0_9 t0_10 f33 f80 t5_0) := ⟨_, rfl⟩
    have e110 : f102 = p108.1 := congrArg (fun z => z.1) (hE106.trans e109.symm)
    have e111 : f104 = p108.2 := congrArg (fun z => z.2) (hE106.trans e109.symm)
    replace hT0 := (hu107 _ (by decide)).trans hT0
    replace hA34 := (hu107 _ (by decide)).trans hA34
    replace hA46 := (hu107 _ (by decide)).trans hA46
    replace hA83 := (hu107 _ (by decide)).trans hA83
    replace hF := q_uc hF hu107 (by simp)
    have hR112 := (show F_FR_setAll_c84 t0_0 t0_1 t0_2 t0_3 t0_4 t0_5 t0_6 t0_7 t0_8 t0_9 t0_10 t1_0 t2_0 t3_0 t4_0 t5_0 f33 p49 j58 f43 f45 p86 f82 p108 = (F_FR_setAll t0_0 t0_1 t0_2 t0_3 t0_4 t0_5 t0_6 t0_7 t0_8 t0_9 t0_10 t1_0 t2_0 t3_0 t4_0 t5_0) from Eq.trans (by rw [e109, ← e98, ← e96, e89, e88, F_FR_setAll_c64.eq_1]) hR90)
    have hS113 := (show True ∧ S_FR_setAll_c84 t0_0 t0_1 t0_2 t0_3 t0_4 t0_5 t0_6 t0_7 t0_8 t0_9 t0_10 t1_0 t2_0 t3_0 t4_0 t5_0 f33 p49 j58 f43 f45 p86 f82 p108 from (by rw [e109, ← e98, ← e96, e89, e88]; have h := hS91; rw [S_FR_setAll_c64.eq_1] at h; replace h := q_s2 h; with_reducible exact h))
    exact q_retv C0 V (⟨hI, hF, f33, f102, f45, f82, f104, hA34, hA103, hA46, hA83, hA105, (show (f33, f102, f45, f82, f104) = (F_FR_setAll t0_0 t0_1 t0_2 t0_3 t0_4 t0_5 t0_6 t0_7 t0_8 t0_9 t0_10 t1_0 t2_0 t3_0 t4_0 t5_0) from Eq.trans (by rw [e111, e110, F_FR_setAll_c84.eq_1]) hR112)⟩) d_17_8_87
  ·
    intro J69
    refine lv_if_ne (tgt := 60) hx hb d_17_8_45 (by decide) (fun c117 => ?_) (fun c117 => ?_)
    ·
      have b118 : q_F (a60.toInt ≠ 0) := (q_neI c117)
      exact J69 (()) _ _ _ u41 ⟨V, q_lw hl (q_lw1 0 rfl q_lw0), (show F_FR_setAll_J60 t0_0 t0_1 t0_2 t0_3 t0_4 t0_5 t0_6 t0_7 t0_8 t0_9 t0_10 t1_0 t2_0 t3_0 t4_0 t5_0 f33 p49 j58 f43 f45 = (F_FR_setAll t0_0 t0_1 t0_2 t0_3 t0_4 t0_5 t0_6 t0_7 t0_8 t0_9 t0_10 t1_0 t2_0 t3_0 t4_0 t5_0) from Eq.trans (by have c117x := c117; rw [← e61] at c117x; rw [← e59, e52, e51, F_FR_setAll_c23.eq_1, if_neg c117x]) hR53), (show True ∧ S_FR_setAll_J60 t0_0 t0_1 t0_2 t0_3 t0_4 t0_5 t0_6 t0_7 t0_8 t0_9 t0_10 t1_0 t2_0 t3_0 t4_0 t5_0 f33 p49 j58 f43 f45 from (by rw [← e59, e52, e51]; have h := hS54; rw [S_FR_setAll_c23.eq_1] at h; have c117x := c117; rw [← e61] at c117x; rw [if_neg c117x] at h; with_reducible exact h))⟩
    ·
      have b119 : q_F (a60.toInt = 0) := (q_eqI c117)
      refine lv_aload_n hx hb d_17_8_48 rfl (lv_at hl 0 rfl) ?_
      refine q_get (ci := 15) (j := 10) (v := .int t0_3) C0 V i_FR rfl rfl hT0 (by decide) w_2086 rfl d_17_8_49 ?_
      refine lv_iconst (v := 1) hx hb d_17_8_52 (by decide) ?_
      refine lv_icmp_le (tgt := 60) hx hb d_17_8_53 (by decide) (fun c120 => ?_) (fun c120 => ?_)
      ·
        have b121 : q_F (t0_3.toInt ≤ 1) := (q_leI c120)
        exact J69 (()) _ _ _ u41 ⟨V, q_lw hl (q_lw1 0 rfl q_lw0), (show F_FR_setAll_J60 t0_0 t0_1 t0_2 t0_3 t0_4 t0_5 t0_6 t0_7 t0_8 t0_9 t0_10 t1_0 t2_0 t3_0 t4_0 t5_0 f33 p49 j58 f43 f45 = (F_FR_setAll t0_0 t0_1 t0_2 t0_3 t0_4 t0_5 t0_6 t0_7 t0_8 t0_9 t0_10 t1_0 t2_0 t3_0 t4_0 t5_0) from Eq.trans (by have c117x := c117; rw [← e61] at c117x; rw [← e59, e52, e51, F_FR_setAll_c23.eq_1, if_pos c117x, if_pos c120]) hR53), (show True ∧ S_FR_setAll_J60 t0_0 t0_1 t0_2 t0_3 t0_4 t0_5 t0_6 t0_7 t0_8 t0_9 t0_10 t1_0 t2_0 t3_0 t4_0 t5_0 f33 p49 j58 f43 f45 from (by rw [← e59, e52, e51]; have h := hS54; rw [S_FR_setAll_c23.eq_1] at h; have c117x := c117; rw [← e61] at c117x; rw [if_pos c117x] at h; rw [if_pos c120] at h; with_reducible exact h))⟩
      ·
        have b122 : q_F (1 < t0_3.toInt) := (q_nleI c120)
        refine lv_lconst (v := 1) hx hb d_17_8_56 (by decide) ?_
        refine lv_goto (tgt := 63) hx hb d_17_8_57 (by decide) ?_
        refine lv_lsub hx hb d_17_8_63 ?_
        obtain ⟨j123, e124⟩ := q_nm (j58 - 1 : Int64)
        refine q_tl (v := j123) e124 ?_
        have ob125 : True ∧ S_FR_set (1404 : Int32) j123 t0_0 t0_1 t0_2 t0_3 t0_4 t0_5 t0_6 t0_7 t0_8 t0_9 t0_10 f33 f43 t4_0 := (by rw [← e124, ← e59, e51]; have h := hS54; rw [S_FR_setAll_c23.eq_1] at h; have c117x := c117; rw [← e61] at c117x; rw [if_pos c117x] at h; rw [if_neg c120] at h; with_reducible exact h.2.1)
        refine q_gov V (q_runV (As := [.ref (q 149), .long j123]) (rest := []) (d := 1) (mc := 0) (ms := 0) (ci := 15) C0 V rfl LV_FR_67 (X_FR_set l D g q u41 149 1404 (n_r149 g q) j123 (by decide) (by decide) hI t0_0 t0_1 t0_2 t0_3 t0_4 t0_5 t0_6 t0_7 t0_8 t0_9 t0_10 hT0 f33 hA34 f43 hA44 t4_0 hT4 ob125 _) rfl rfl hT0 rfl hl.1 rfl (Nat.le_of_ble_eq_true rfl) ⟨by decide, by decide⟩ ⟨Nat.le_of_ble_eq_true rfl, Nat.le_of_ble_eq_true rfl⟩ d_17_8_64) (fun u126 H locs hp127 V => ?_)
        obtain ⟨hI, hu133, f128, f130, hA129, hA131, hE132⟩ := hp127
        replace hA129 : u126[147]? = (some (q 147, .inl (g 0, (156 : Int32).toNatClampNeg, .inl f128)) : Option (Nat × va_E)) := hA129
        replace hA131 : u126[149]? = (some (q 149, .inl (g 0, (1404 : Int32).toNatClampNeg, .inl f130)) : Option (Nat × va_E)) := hA131
        obtain ⟨p134, e135⟩ : ∃ z, z = (F_FR_set (1404 : Int32) j123 t0_0 t0_1 t0_2 t0_3 t0_4 t0_5 t0_6 t0_7 t0_8 t0_9 t0_10 f33 f43 t4_0) := ⟨_, rfl⟩
        have e136 : f128 = p134.1 := congrArg (fun z => z.1) (hE132.trans e135.symm)
        have e137 : f130 = p134.2 := congrArg (fun z => z.2) (hE132.trans e135.symm)
        replace hT0 := (hu133 _ (by decide)).trans hT0
        replace hA34 := (hu133 _ (by decide)).trans hA34
        replace hA46 := (hu133 _ (by decide)).trans hA46
        replace hT5 := (hu133 _ (by decide)).trans hT5
        replace hF := q_uc hF hu133 (by simp)
        have hR138 := (show F_FR_setAll_c64_5 t0_0 t0_1 t0_2 t0_3 t0_4 t0_5 t0_6 t0_7 t0_8 t0_9 t0_10 t1_0 t2_0 t3_0 t4_0 t5_0 f33 p49 f45 p134 = (F_FR_setAll t0_0 t0_1 t0_2 t0_3 t0_4 t0_5 t0_6 t0_7 t0_8 t0_9 t0_10 t1_0 t2_0 t3_0 t4_0 t5_0) from Eq.trans (by have c117x := c117; rw [← e61] at c117x; rw [e135, ← e124, ← e59, e52, e51, F_FR_setAll_c23.eq_1, if_pos c117x, if_neg c120]) hR53)
        have hS139 := (show True ∧ S_FR_setAll_c64_5 t0_0 t0_1 t0_2 t0_3 t0_4 t0_5 t0_6 t0_7 t0_8 t0_9 t0_10 t1_0 t2_0 t3_0 t4_0 t5_0 f33 p49 f45 p134 from (by rw [e135, ← e124, ← e59, e52, e51]; have h := hS54; rw [S_FR_setAll_c23.eq_1] at h; have c117x := c117; rw [← e61] at c117x; rw [if_pos c117x] at h; rw [if_neg c120] at h; replace h := q_s2 h; with_reducible exact h))
        refine lv_aload_n hx hb d_17_8_67 rfl (lv_at hl 0 rfl) ?_
        refine lv_aload_n hx hb d_17_8_68 rfl (lv_at hl 0 rfl) ?_
        refine q_get (ci := 15) (j := 5) (v := .ref (q 150)) C0 V i_FR rfl rfl hT0 (by decide) w_2080 rfl d_17_8_69 ?_
        refine q_ldc2 C0 rfl w_2609 d_17_8_72 ?_
        refine lv_aload_n hx hb d_17_8_75 rfl (lv_at hl 0 rfl) ?_
        refine q_get (ci := 15) (j := 14) (v := .long t0_7) C0 V i_FR rfl rfl hT0 (by decide) w_2090 rfl d_17_8_76 ?_
        refine lv_lmul hx hb d_17_8_79 ?_
        obtain ⟨j143, e144⟩ := q_nm (4 * t0_7 : Int64)
        refine q_tl (v := j143) e144 ?_
        refine q_ldc2 C0 rfl w_2615 d_17_8_80 ?_
        refine lv_ladd hx hb d_17_8_83 ?_
        obtain ⟨j145, e146⟩ := q_nm (j143 + 2 : Int64)
        refine q_tl (v := j145) e146 ?_
        have ob147 : True ∧ S_FR_set (1404 : Int32) j145 t0_0 t0_1 t0_2 t0_3 t0_4 t0_5 t0_6 t0_7 t0_8 t0_9 t0_10 f33 f128 t5_0 := (by rw [← e146, ← e144, e136]; have h := hS139; rw [S_FR_setAll_c64_5.eq_1] at h; with_reducible exact h.2.1)
        refine q_gov V (q_runV (As := [.ref (q 150), .long j145]) (rest := []) (d := 1) (mc := 0) (ms := 0) (ci := 15) C0 V rfl LV_FR_67 (X_FR_set l D g q u126 150 1404 (n_r150 g q) j145 (by decide) (by decide) hI t0_0 t0_1 t0_2 t0_3 t0_4 t0_5 t0_6 t0_7 t0_8 t0_9 t0_10 hT0 f33 hA34 f128 hA129 t5_0 hT5 ob147 _) rfl rfl hT0 rfl hl.1 rfl (Nat.le_of_ble_eq_true rfl) ⟨by decide, by decide⟩ ⟨Nat.le_of_ble_eq_true rfl, Nat.le_of_ble_eq_true rfl⟩ d_17_8_84) (fun u148 H locs hp149 V => ?_)
        obtain ⟨hI, hu155, f150, f152, hA151, hA153, hE154⟩ := hp149
        replace hA151 : u148[147]? = (some (q 147, .inl (g 0, (156 : Int32).toNatClampNeg, .inl f150)) : Option (Nat × va_E)) := hA151
        replace hA153 : u148[150]? = (some (q 150, .inl (g 0, (1404 : Int32).toNatClampNeg, .inl f152)) : Option (Nat × va_E)) := hA153
        obtain ⟨p156, e157⟩ : ∃ z, z = (F_FR_set (1404 : Int32) j145 t0_0 t0_1 t0_2 t0_3 t0_4 t0_5 t0_6 t0_7 t0_8 t0_9 t0_10 f33 f128 t5_0) := ⟨_, rfl⟩
        have e158 : f150 = p156.1 := congrArg (fun z => z.1) (hE154.trans e157.symm)
        have e159 : f152 = p156.2 := congrArg (fun z => z.2) (hE154.trans e157.symm)
        replace hT0 := (hu155 _ (by decide)).trans hT0
        replace hA34 := (hu155 _ (by decide)).trans hA34
        replace hA46 := (hu155 _ (by decide)).trans hA46
        replace hA131 := (hu155 _ (by decide)).trans hA131
        replace hF := q_uc hF hu155 (by simp)
        have hR160 := (show F_FR_setAll_c84_6 t0_0 t0_1 t0_2 t0_3 t0_4 t0_5 t0_6 t0_7 t0_8 t0_9 t0_10 t1_0 t2_0 t3_0 t4_0 t5_0 f33 p49 f45 p134 f130 p156 = (F_FR_setAll t0_0 t0_1 t0_2 t0_3 t0_4 t0_5 t0_6 t0_7 t0_8 t0_9 t0_10 t1_0 t2_0 t3_0 t4_0 t5_0) from Eq.trans (by rw [e157, ← e146, ← e144, e137, e136, F_FR_setAll_c64_5.eq_1]) hR138)
        have hS161 := (show True ∧ S_FR_setAll_c84_6 t0_0 t0_1 t0_2 t0_3 t0_4 t0_5 t0_6 t0_7 t0_8 t0_9 t0_10 t1_0 t2_0 t3_0 t4_0 t5_0 f33 p49 f45 p134 f130 p156 from (by rw [e157, ← e146, ← e144, e137, e136]; have h := hS139; rw [S_FR_setAll_c64_5.eq_1] at h; replace h := q_s2 h; with_reducible exact h))
        exact q_retv C0 V (⟨hI, hF, f33, f150, f45, f130, f152, hA34, hA151, hA46, hA131, hA153, (show (f33, f150, f45, f130, f152) = (F_FR_setAll t0_0 t0_1 t0_2 t0_3 t0_4 t0_5 t0_6 t0_7 t0_8 t0_9 t0_10 t1_0 t2_0 t3_0 t4_0 t5_0) from Eq.trans (by rw [e159, e158, F_FR_setAll_c84_6.eq_1]) hR160)⟩) d_17_8_87
