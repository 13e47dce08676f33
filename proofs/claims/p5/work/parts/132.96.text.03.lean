theorem d_18_22_0 : decode prog_18_method_22_code 0 = .ok (.iconst 0, 1) := by decide +kernel
theorem d_18_22_1 : decode prog_18_method_22_code 1 = .ok (.istore_n 3, 1) := by decide +kernel
theorem d_18_22_2 : decode prog_18_method_22_code 2 = .ok (.iload_n 3, 1) := by decide +kernel
theorem d_18_22_3 : decode prog_18_method_22_code 3 = .ok (.sipush 800, 3) := by decide +kernel
theorem d_18_22_6 : decode prog_18_method_22_code 6 = .ok (.if_icmp .ge 16, 3) := by decide +kernel
theorem d_18_22_22 : decode prog_18_method_22_code 22 = .ok (.sipush 439, 3) := by decide +kernel
theorem d_18_22_25 : decode prog_18_method_22_code 25 = .ok (.istore_n 3, 1) := by decide +kernel
theorem d_18_22_26 : decode prog_18_method_22_code 26 = .ok (.iload_n 1, 1) := by decide +kernel
theorem d_18_22_27 : decode prog_18_method_22_code 27 = .ok (.istore 4, 2) := by decide +kernel
theorem d_18_22_29 : decode prog_18_method_22_code 29 = .ok (.iload 4, 2) := by decide +kernel
theorem d_18_22_31 : decode prog_18_method_22_code 31 = .ok (.aload_n 0, 1) := by decide +kernel
theorem d_18_22_32 : decode prog_18_method_22_code 32 = .ok (.getfield 39, 3) := by decide +kernel
theorem d_18_22_35 : decode prog_18_method_22_code 35 = .ok (.if_icmp .ge 83, 3) := by decide +kernel
theorem d_18_22_118 : decode prog_18_method_22_code 118 = .ok (.aload_n 0, 1) := by decide +kernel
theorem d_18_22_119 : decode prog_18_method_22_code 119 = .ok (.iconst 0, 1) := by decide +kernel
theorem d_18_22_120 : decode prog_18_method_22_code 120 = .ok (.putfield 98, 3) := by decide +kernel
set_option maxRecDepth 100000 in
theorem w_2151 : (Cond.fieldLink "NumberHouseModel$TextRows" (98 : Nat) "NumberHouseModel$TextRows" "from" "I") ∈ q_tbl := q_of9 231 rfl (by decide +kernel)
theorem d_18_22_123 : decode prog_18_method_22_code 123 = .ok (.aload_n 0, 1) := by decide +kernel
theorem d_18_22_124 : decode prog_18_method_22_code 124 = .ok (.sipush 799, 3) := by decide +kernel
theorem d_18_22_127 : decode prog_18_method_22_code 127 = .ok (.putfield 95, 3) := by decide +kernel
set_option maxRecDepth 100000 in
theorem w_2152 : (Cond.fieldLink "NumberHouseModel$TextRows" (95 : Nat) "NumberHouseModel$TextRows" "to" "I") ∈ q_tbl := q_of9 232 rfl (by decide +kernel)
theorem d_18_22_130 : decode prog_18_method_22_code 130 = .ok (.aload_n 0, 1) := by decide +kernel
theorem d_18_22_131 : decode prog_18_method_22_code 131 = .ok (.getfield 98, 3) := by decide +kernel
theorem d_18_22_134 : decode prog_18_method_22_code 134 = .ok (.bipush 54, 2) := by decide +kernel
theorem d_18_22_164 : decode prog_18_method_22_code 164 = .ok (.aload_n 0, 1) := by decide +kernel
theorem d_18_22_165 : decode prog_18_method_22_code 165 = .ok (.getfield 95, 3) := by decide +kernel
theorem d_18_22_168 : decode prog_18_method_22_code 168 = .ok (.bipush 54, 2) := by decide +kernel
theorem d_18_22_170 : decode prog_18_method_22_code 170 = .ok (.if_icmp .le 28, 3) := by decide +kernel
theorem d_18_22_198 : decode prog_18_method_22_code 198 = .ok (.return_, 1) := by decide +kernel
theorem d_18_22_173 : decode prog_18_method_22_code 173 = .ok (.aload_n 0, 1) := by decide +kernel
theorem d_18_22_174 : decode prog_18_method_22_code 174 = .ok (.getfield 16, 3) := by decide +kernel
theorem d_18_22_177 : decode prog_18_method_22_code 177 = .ok (.aload_n 0, 1) := by decide +kernel
theorem d_18_22_178 : decode prog_18_method_22_code 178 = .ok (.getfield 95, 3) := by decide +kernel
theorem d_18_22_181 : decode prog_18_method_22_code 181 = .ok (.iaload, 1) := by decide +kernel
theorem d_18_22_182 : decode prog_18_method_22_code 182 = .ok (.ifCond .ne 16, 3) := by decide +kernel
theorem d_18_22_185 : decode prog_18_method_22_code 185 = .ok (.aload_n 0, 1) := by decide +kernel
theorem d_18_22_186 : decode prog_18_method_22_code 186 = .ok (.dup, 1) := by decide +kernel
theorem d_18_22_187 : decode prog_18_method_22_code 187 = .ok (.getfield 95, 3) := by decide +kernel
theorem d_18_22_190 : decode prog_18_method_22_code 190 = .ok (.iconst 1, 1) := by decide +kernel
theorem d_18_22_191 : decode prog_18_method_22_code 191 = .ok (.isub, 1) := by decide +kernel
theorem d_18_22_192 : decode prog_18_method_22_code 192 = .ok (.putfield 95, 3) := by decide +kernel
theorem d_18_22_195 : decode prog_18_method_22_code 195 = .ok (.goto (-31), 3) := by decide +kernel
theorem d_18_22_136 : decode prog_18_method_22_code 136 = .ok (.if_icmp .ge 28, 3) := by decide +kernel
theorem d_18_22_139 : decode prog_18_method_22_code 139 = .ok (.aload_n 0, 1) := by decide +kernel
theorem d_18_22_140 : decode prog_18_method_22_code 140 = .ok (.getfield 16, 3) := by decide +kernel
theorem d_18_22_143 : decode prog_18_method_22_code 143 = .ok (.aload_n 0, 1) := by decide +kernel
theorem d_18_22_144 : decode prog_18_method_22_code 144 = .ok (.getfield 98, 3) := by decide +kernel
theorem d_18_22_147 : decode prog_18_method_22_code 147 = .ok (.iaload, 1) := by decide +kernel
theorem d_18_22_148 : decode prog_18_method_22_code 148 = .ok (.ifCond .ne 16, 3) := by decide +kernel
theorem d_18_22_151 : decode prog_18_method_22_code 151 = .ok (.aload_n 0, 1) := by decide +kernel
theorem d_18_22_152 : decode prog_18_method_22_code 152 = .ok (.dup, 1) := by decide +kernel
theorem d_18_22_153 : decode prog_18_method_22_code 153 = .ok (.getfield 98, 3) := by decide +kernel
theorem d_18_22_156 : decode prog_18_method_22_code 156 = .ok (.iconst 1, 1) := by decide +kernel
theorem d_18_22_157 : decode prog_18_method_22_code 157 = .ok (.iadd, 1) := by decide +kernel
theorem d_18_22_158 : decode prog_18_method_22_code 158 = .ok (.putfield 98, 3) := by decide +kernel
theorem d_18_22_161 : decode prog_18_method_22_code 161 = .ok (.goto (-31), 3) := by decide +kernel
theorem d_18_22_38 : decode prog_18_method_22_code 38 = .ok (.iload_n 3, 1) := by decide +kernel
theorem d_18_22_39 : decode prog_18_method_22_code 39 = .ok (.iload_n 2, 1) := by decide +kernel
theorem d_18_22_40 : decode prog_18_method_22_code 40 = .ok (.isub, 1) := by decide +kernel
theorem d_18_22_41 : decode prog_18_method_22_code 41 = .ok (.iconst 1, 1) := by decide +kernel
theorem d_18_22_42 : decode prog_18_method_22_code 42 = .ok (.iadd, 1) := by decide +kernel
theorem d_18_22_43 : decode prog_18_method_22_code 43 = .ok (.iload 4, 2) := by decide +kernel
theorem d_18_22_45 : decode prog_18_method_22_code 45 = .ok (.iadd, 1) := by decide +kernel
theorem d_18_22_46 : decode prog_18_method_22_code 46 = .ok (.iload_n 1, 1) := by decide +kernel
theorem d_18_22_47 : decode prog_18_method_22_code 47 = .ok (.isub, 1) := by decide +kernel
theorem d_18_22_48 : decode prog_18_method_22_code 48 = .ok (.istore 5, 2) := by decide +kernel
theorem d_18_22_50 : decode prog_18_method_22_code 50 = .ok (.iload 5, 2) := by decide +kernel
theorem d_18_22_52 : decode prog_18_method_22_code 52 = .ok (.bipush 8, 2) := by decide +kernel
theorem d_18_22_54 : decode prog_18_method_22_code 54 = .ok (.idiv, 1) := by decide +kernel
theorem d_18_22_55 : decode prog_18_method_22_code 55 = .ok (.istore 6, 2) := by decide +kernel
theorem d_18_22_57 : decode prog_18_method_22_code 57 = .ok (.iconst 1, 1) := by decide +kernel
theorem d_18_22_58 : decode prog_18_method_22_code 58 = .ok (.istore 7, 2) := by decide +kernel
theorem d_18_22_60 : decode prog_18_method_22_code 60 = .ok (.iload 5, 2) := by decide +kernel
theorem d_18_22_62 : decode prog_18_method_22_code 62 = .ok (.bipush 8, 2) := by decide +kernel
theorem d_18_22_64 : decode prog_18_method_22_code 64 = .ok (.irem, 1) := by decide +kernel
theorem d_18_22_65 : decode prog_18_method_22_code 65 = .ok (.istore 8, 2) := by decide +kernel
theorem d_18_22_67 : decode prog_18_method_22_code 67 = .ok (.iload 8, 2) := by decide +kernel
theorem d_18_22_69 : decode prog_18_method_22_code 69 = .ok (.bipush 7, 2) := by decide +kernel
theorem d_18_22_71 : decode prog_18_method_22_code 71 = .ok (.if_icmp .ge 16, 3) := by decide +kernel
theorem d_18_22_87 : decode prog_18_method_22_code 87 = .ok (.aload_n 0, 1) := by decide +kernel
theorem d_18_22_88 : decode prog_18_method_22_code 88 = .ok (.getfield 16, 3) := by decide +kernel
theorem d_18_22_91 : decode prog_18_method_22_code 91 = .ok (.iload 6, 2) := by decide +kernel
theorem d_18_22_93 : decode prog_18_method_22_code 93 = .ok (.aload_n 0, 1) := by decide +kernel
theorem d_18_22_94 : decode prog_18_method_22_code 94 = .ok (.getfield 16, 3) := by decide +kernel
theorem d_18_22_97 : decode prog_18_method_22_code 97 = .ok (.iload 6, 2) := by decide +kernel
theorem d_18_22_99 : decode prog_18_method_22_code 99 = .ok (.iaload, 1) := by decide +kernel
theorem d_18_22_100 : decode prog_18_method_22_code 100 = .ok (.aload_n 0, 1) := by decide +kernel
theorem d_18_22_101 : decode prog_18_method_22_code 101 = .ok (.getfield 13, 3) := by decide +kernel
theorem d_18_22_104 : decode prog_18_method_22_code 104 = .ok (.iload 4, 2) := by decide +kernel
theorem d_18_22_106 : decode prog_18_method_22_code 106 = .ok (.iaload, 1) := by decide +kernel
theorem d_18_22_107 : decode prog_18_method_22_code 107 = .ok (.iload 7, 2) := by decide +kernel
theorem d_18_22_109 : decode prog_18_method_22_code 109 = .ok (.imul, 1) := by decide +kernel
theorem d_18_22_110 : decode prog_18_method_22_code 110 = .ok (.iadd, 1) := by decide +kernel
theorem d_18_22_111 : decode prog_18_method_22_code 111 = .ok (.iastore, 1) := by decide +kernel
theorem d_18_22_112 : decode prog_18_method_22_code 112 = .ok (.iinc 4 1, 3) := by decide +kernel
theorem d_18_22_115 : decode prog_18_method_22_code 115 = .ok (.goto (-86), 3) := by decide +kernel
theorem d_18_22_74 : decode prog_18_method_22_code 74 = .ok (.iload 7, 2) := by decide +kernel
theorem d_18_22_76 : decode prog_18_method_22_code 76 = .ok (.bipush 10, 2) := by decide +kernel
theorem d_18_22_78 : decode prog_18_method_22_code 78 = .ok (.imul, 1) := by decide +kernel
theorem d_18_22_79 : decode prog_18_method_22_code 79 = .ok (.istore 7, 2) := by decide +kernel
theorem d_18_22_81 : decode prog_18_method_22_code 81 = .ok (.iinc 8 1, 3) := by decide +kernel
theorem d_18_22_84 : decode prog_18_method_22_code 84 = .ok (.goto (-17), 3) := by decide +kernel
theorem d_18_22_9 : decode prog_18_method_22_code 9 = .ok (.aload_n 0, 1) := by decide +kernel
theorem d_18_22_10 : decode prog_18_method_22_code 10 = .ok (.getfield 16, 3) := by decide +kernel
theorem d_18_22_13 : decode prog_18_method_22_code 13 = .ok (.iload_n 3, 1) := by decide +kernel
theorem d_18_22_14 : decode prog_18_method_22_code 14 = .ok (.iconst 0, 1) := by decide +kernel
theorem d_18_22_15 : decode prog_18_method_22_code 15 = .ok (.iastore, 1) := by decide +kernel
theorem d_18_22_16 : decode prog_18_method_22_code 16 = .ok (.iinc 3 1, 3) := by decide +kernel
theorem d_18_22_19 : decode prog_18_method_22_code 19 = .ok (.goto (-17), 3) := by decide +kernel
def y_TR_writeOut : MethodName := ⟨"NumberHouseModel$TextRows", "writeOut", "(II)V"⟩
def F_TR_writeOut_L164 (K_F_TR_writeOut_L2 : Int32 → (Nat → Int32) → (Int32 × Int32 × Int32 × Int32 × Int32 × Int32 × Int32 × Int64 × Int32 × Int32 × Int64 × Int64 × Int32 × Int32 × (Nat → Int32))) (K_F_TR_writeOut_L29 : Int32 → (Nat → Int32) → (Int32 × Int32 × Int32 × Int32 × Int32 × Int32 × Int32 × Int64 × Int32 × Int32 × Int64 × Int64 × Int32 × Int32 × (Nat → Int32))) (K_F_TR_writeOut_L130 : Int32 → (Int32 × Int32 × Int32 × Int32 × Int32 × Int32 × Int32 × Int64 × Int32 × Int32 × Int64 × Int64 × Int32 × Int32 × (Nat → Int32))) (x2 : Int32) (x3 : Int32) (t0_0 : Int32) (t0_1 : Int32) (t0_2 : Int32) (t0_3 : Int32) (t0_4 : Int32) (t0_5 : Int32) (t0_6 : Int32) (t0_7 : Int64) (t0_8 : Int32) (t0_9 : Int32) (t0_10 : Int64) (t0_11 : Int64) (t0_12 : Int32) (t0_13 : Int32) (t1_0 : (Nat → Int32)) (t2_0 : (Nat → Int32)) (lx26 : Int32) (lx27 : (Nat → Int32)) (lx43 : Int32) (lx44 : (Nat → Int32)) (lx62 : Int32) : Nat → Int32 → (Int32 × Int32 × Int32 × Int32 × Int32 × Int32 × Int32 × Int64 × Int32 × Int32 × Int64 × Int64 × Int32 × Int32 × (Nat → Int32))
  | 0, _ => default
  | fm + 1, lx84 => if lx84 ≤ (54 : Int32) then ((t0_0, t0_1, t0_2, t0_3, t0_4, t0_5, t0_6, t0_7, lx62, lx84, t0_10, t0_11, t0_12, t0_13, lx44)) else (if (lx44 lx84.toNatClampNeg : Int32) = (0 : Int32) then (F_TR_writeOut_L164 K_F_TR_writeOut_L2 K_F_TR_writeOut_L29 K_F_TR_writeOut_L130 x2 x3 t0_0 t0_1 t0_2 t0_3 t0_4 t0_5 t0_6 t0_7 t0_8 t0_9 t0_10 t0_11 t0_12 t0_13 t1_0 t2_0 lx26 lx27 lx43 lx44 lx62 fm (lx84 - 1 : Int32)) else ((t0_0, t0_1, t0_2, t0_3, t0_4, t0_5, t0_6, t0_7, lx62, lx84, t0_10, t0_11, t0_12, t0_13, lx44)))
def F_TR_writeOut_J164 (K_F_TR_writeOut_L2 : Int32 → (Nat → Int32) → (Int32 × Int32 × Int32 × Int32 × Int32 × Int32 × Int32 × Int64 × Int32 × Int32 × Int64 × Int64 × Int32 × Int32 × (Nat → Int32))) (K_F_TR_writeOut_L29 : Int32 → (Nat → Int32) → (Int32 × Int32 × Int32 × Int32 × Int32 × Int32 × Int32 × Int64 × Int32 × Int32 × Int64 × Int64 × Int32 × Int32 × (Nat → Int32))) (K_F_TR_writeOut_L130 : Int32 → (Int32 × Int32 × Int32 × Int32 × Int32 × Int32 × Int32 × Int64 × Int32 × Int32 × Int64 × Int64 × Int32 × Int32 × (Nat → Int32))) (x2 : Int32) (x3 : Int32) (t0_0 : Int32) (t0_1 : Int32) (t0_2 : Int32) (t0_3 : Int32) (t0_4 : Int32) (t0_5 : Int32) (t0_6 : Int32) (t0_7 : Int64) (t0_8 : Int32) (t0_9 : Int32) (t0_10 : Int64) (t0_11 : Int64) (t0_12 : Int32) (t0_13 : Int32) (t1_0 : (Nat → Int32)) (t2_0 : (Nat → Int32)) (lx26 : Int32) (lx27 : (Nat → Int32)) (lx43 : Int32) (lx44 : (Nat → Int32)) (lx62 : Int32) : Int32 × Int32 × Int32 × Int32 × Int32 × Int32 × Int32 × Int64 × Int32 × Int32 × Int64 × Int64 × Int32 × Int32 × (Nat → Int32) := F_TR_writeOut_L164 K_F_TR_writeOut_L2 K_F_TR_writeOut_L29 K_F_TR_writeOut_L130 x2 x3 t0_0 t0_1 t0_2 t0_3 t0_4 t0_5 t0_6 t0_7 t0_8 t0_9 t0_10 t0_11 t0_12 t0_13 t1_0 t2_0 lx26 lx27 lx43 lx44 lx62 (((799 : Int32).toInt - ((-1))).toNat + 1) 799
def F_TR_writeOut_L130 (K_F_TR_writeOut_L2 : Int32 → (Nat → Int32) → (Int32 × Int32 × Int32 × Int32 × Int32 × Int32 × Int32 × Int64 × Int32 × Int32 × Int64 × Int64 × Int32 × Int32 × (Nat → Int32))) (K_F_TR_writeOut_L29 : Int32 → (Nat → Int32) → (Int32 × Int32 × Int32 × Int32 × Int32 × Int32 × Int32 × Int64 × Int32 × Int32 × Int64 × Int64 × Int32 × Int32 × (Nat → Int32))) (x2 : Int32) (x3 : Int32) (t0_0 : Int32) (t0_1 : Int32) (t0_2 : Int32) (t0_3 : Int32) (t0_4 : Int32) (t0_5 : Int32) (t0_6 : Int32) (t0_7 : Int64) (t0_8 : Int32) (t0_9 : Int32) (t0_10 : Int64) (t0_11 : Int64) (t0_12 : Int32) (t0_13 : Int32) (t1_0 : (Nat → Int32)) (t2_0 : (Nat → Int32)) (lx26 : Int32) (lx27 : (Nat → Int32)) (lx43 : Int32) (lx44 : (Nat → Int32)) : Nat → Int32 → (Int32 × Int32 × Int32 × Int32 × Int32 × Int32 × Int32 × Int64 × Int32 × Int32 × Int64 × Int64 × Int32 × Int32 × (Nat → Int32))
  | 0, _ => default
  | fm + 1, lx62 => if (54 : Int32) ≤ lx62 then (F_TR_writeOut_J164 K_F_TR_writeOut_L2 K_F_TR_writeOut_L29 (F_TR_writeOut_L130 K_F_TR_writeOut_L2 K_F_TR_writeOut_L29 x2 x3 t0_0 t0_1 t0_2 t0_3 t0_4 t0_5 t0_6 t0_7 t0_8 t0_9 t0_10 t0_11 t0_12 t0_13 t1_0 t2_0 lx26 lx27 lx43 lx44 fm) x2 x3 t0_0 t0_1 t0_2 t0_3 t0_4 t0_5 t0_6 t0_7 t0_8 t0_9 t0_10 t0_11 t0_12 t0_13 t1_0 t2_0 lx26 lx27 lx43 lx44 lx62) else (if (lx44 lx62.toNatClampNeg : Int32) = (0 : Int32) then (F_TR_writeOut_L130 K_F_TR_writeOut_L2 K_F_TR_writeOut_L29 x2 x3 t0_0 t0_1 t0_2 t0_3 t0_4 t0_5 t0_6 t0_7 t0_8 t0_9 t0_10 t0_11 t0_12 t0_13 t1_0 t2_0 lx26 lx27 lx43 lx44 fm (lx62 + 1 : Int32)) else (F_TR_writeOut_J164 K_F_TR_writeOut_L2 K_F_TR_writeOut_L29 (F_TR_writeOut_L130 K_F_TR_writeOut_L2 K_F_TR_writeOut_L29 x2 x3 t0_0 t0_1 t0_2 t0_3 t0_4 t0_5 t0_6 t0_7 t0_8 t0_9 t0_10 t0_11 t0_12 t0_13 t1_0 t2_0 lx26 lx27 lx43 lx44 fm) x2 x3 t0_0 t0_1 t0_2 t0_3 t0_4 t0_5 t0_6 t0_7 t0_8 t0_9 t0_10 t0_11 t0_12 t0_13 t1_0 t2_0 lx26 lx27 lx43 lx44 lx62))
def F_TR_writeOut_L67 (K_F_TR_writeOut_L2 : Int32 → (Nat → Int32) → (Int32 × Int32 × Int32 × Int32 × Int32 × Int32 × Int32 × Int64 × Int32 × Int32 × Int64 × Int64 × Int32 × Int32 × (Nat → Int32))) (K_F_TR_writeOut_L29 : Int32 → (Nat → Int32) → (Int32 × Int32 × Int32 × Int32 × Int32 × Int32 × Int32 × Int64 × Int32 × Int32 × Int64 × Int64 × Int32 × Int32 × (Nat → Int32))) (x2 : Int32) (x3 : Int32) (t0_0 : Int32) (t0_1 : Int32) (t0_2 : Int32) (t0_3 : Int32) (t0_4 : Int32) (t0_5 : Int32) (t0_6 : Int32) (t0_7 : Int64) (t0_8 : Int32) (t0_9 : Int32) (t0_10 : Int64) (t0_11 : Int64) (t0_12 : Int32) (t0_13 : Int32) (t1_0 : (Nat → Int32)) (t2_0 : (Nat → Int32)) (lx26 : Int32) (lx27 : (Nat → Int32)) (lx43 : Int32) (lx44 : (Nat → Int32)) (a132 : Int32) : Nat → Int32 → Int32 → (Int32 × Int32 × Int32 × Int32 × Int32 × Int32 × Int32 × Int64 × Int32 × Int32 × Int64 × Int64 × Int32 × Int32 × (Nat → Int32))
  | 0, _, _ => default
  | fm + 1, lx141, lx142 => if (7 : Int32) ≤ lx141 then (K_F_TR_writeOut_L29 (lx43 + 1 : Int32) (upd lx44 a132.toNatClampNeg ((lx44 a132.toNatClampNeg : Int32) + ((t1_0 lx43.toNatClampNeg : Int32) * lx142 : Int32) : Int32) : (Nat → Int32))) else (F_TR_writeOut_L67 K_F_TR_writeOut_L2 K_F_TR_writeOut_L29 x2 x3 t0_0 t0_1 t0_2 t0_3 t0_4 t0_5 t0_6 t0_7 t0_8 t0_9 t0_10 t0_11 t0_12 t0_13 t1_0 t2_0 lx26 lx27 lx43 lx44 a132 fm (lx141 + 1 : Int32) (lx142 * 10 : Int32))
def F_TR_writeOut_L29 (K_F_TR_writeOut_L2 : Int32 → (Nat → Int32) → (Int32 × Int32 × Int32 × Int32 × Int32 × Int32 × Int32 × Int64 × Int32 × Int32 × Int64 × Int64 × Int32 × Int32 × (Nat → Int32))) (x2 : Int32) (x3 : Int32) (t0_0 : Int32) (t0_1 : Int32) (t0_2 : Int32) (t0_3 : Int32) (t0_4 : Int32) (t0_5 : Int32) (t0_6 : Int32) (t0_7 : Int64) (t0_8 : Int32) (t0_9 : Int32) (t0_10 : Int64) (t0_11 : Int64) (t0_12 : Int32) (t0_13 : Int32) (t1_0 : (Nat → Int32)) (t2_0 : (Nat → Int32)) (lx26 : Int32) (lx27 : (Nat → Int32)) : Nat → Int32 → (Nat → Int32) → (Int32 × Int32 × Int32 × Int32 × Int32 × Int32 × Int32 × Int64 × Int32 × Int32 × Int64 × Int64 × Int32 × Int32 × (Nat → Int32))
  | 0, _, _ => default
  | fm + 1, lx43, lx44 => if t0_5 ≤ lx43 then (F_TR_writeOut_L130 K_F_TR_writeOut_L2 (F_TR_writeOut_L29 K_F_TR_writeOut_L2 x2 x3 t0_0 t0_1 t0_2 t0_3 t0_4 t0_5 t0_6 t0_7 t0_8 t0_9 t0_10 t0_11 t0_12 t0_13 t1_0 t2_0 lx26 lx27 fm) x2 x3 t0_0 t0_1 t0_2 t0_3 t0_4 t0_5 t0_6 t0_7 t0_8 t0_9 t0_10 t0_11 t0_12 t0_13 t1_0 t2_0 lx26 lx27 lx43 lx44 ((54 - (0 : Int32).toInt).toNat + 1) 0) else (F_TR_writeOut_L67 K_F_TR_writeOut_L2 (F_TR_writeOut_L29 K_F_TR_writeOut_L2 x2 x3 t0_0 t0_1 t0_2 t0_3 t0_4 t0_5 t0_6 t0_7 t0_8 t0_9 t0_10 t0_11 t0_12 t0_13 t1_0 t2_0 lx26 lx27 fm) x2 x3 t0_0 t0_1 t0_2 t0_3 t0_4 t0_5 t0_6 t0_7 t0_8 t0_9 t0_10 t0_11 t0_12 t0_13 t1_0 t2_0 lx26 lx27 lx43 lx44 (((((439 - x3 : Int32) + 1 : Int32) + lx43 : Int32) - x2 : Int32) / 8 : Int32) ((7 - (((((439 - x3 : Int32) + 1 : Int32) + lx43 : Int32) - x2 : Int32) - ((((439 - x3 : Int32) + 1 : Int32) + lx43 : Int32) - x2 : Int32) / 8 * 8 : Int32).toInt).toNat + 1) (((((439 - x3 : Int32) + 1 : Int32) + lx43 : Int32) - x2 : Int32) - ((((439 - x3 : Int32) + 1 : Int32) + lx43 : Int32) - x2 : Int32) / 8 * 8 : Int32) 1)
def F_TR_writeOut_L2 (x2 : Int32) (x3 : Int32) (t0_0 : Int32) (t0_1 : Int32) (t0_2 : Int32) (t0_3 : Int32) (t0_4 : Int32) (t0_5 : Int32) (t0_6 : Int32) (t0_7 : Int64) (t0_8 : Int32) (t0_9 : Int32) (t0_10 : Int64) (t0_11 : Int64) (t0_12 : Int32) (t0_13 : Int32) (t1_0 : (Nat → Int32)) (t2_0 : (Nat → Int32)) : Nat → Int32 → (Nat → Int32) → (Int32 × Int32 × Int32 × Int32 × Int32 × Int32 × Int32 × Int64 × Int32 × Int32 × Int64 × Int64 × Int32 × Int32 × (Nat → Int32))
  | 0, _, _ => default
  | fm + 1, lx26, lx27 => if (800 : Int32) ≤ lx26 then (F_TR_writeOut_L29 (F_TR_writeOut_L2 x2 x3 t0_0 t0_1 t0_2 t0_3 t0_4 t0_5 t0_6 t0_7 t0_8 t0_9 t0_10 t0_11 t0_12 t0_13 t1_0 t2_0 fm) x2 x3 t0_0 t0_1 t0_2 t0_3 t0_4 t0_5 t0_6 t0_7 t0_8 t0_9 t0_10 t0_11 t0_12 t0_13 t1_0 t2_0 lx26 lx27 ((4100 - x2.toInt).toNat + 1) x2 lx27) else (F_TR_writeOut_L2 x2 x3 t0_0 t0_1 t0_2 t0_3 t0_4 t0_5 t0_6 t0_7 t0_8 t0_9 t0_10 t0_11 t0_12 t0_13 t1_0 t2_0 fm (lx26 + 1 : Int32) (upd lx27 lx26.toNatClampNeg 0 : (Nat → Int32)))
def F_TR_writeOut (x2 : Int32) (x3 : Int32) (t0_0 : Int32) (t0_1 : Int32) (t0_2 : Int32) (t0_3 : Int32) (t0_4 : Int32) (t0_5 : Int32) (t0_6 : Int32) (t0_7 : Int64) (t0_8 : Int32) (t0_9 : Int32) (t0_10 : Int64) (t0_11 : Int64) (t0_12 : Int32) (t0_13 : Int32) (t1_0 : (Nat → Int32)) (t2_0 : (Nat → Int32)) : Int32 × Int32 × Int32 × Int32 × Int32 × Int32 × Int32 × Int64 × Int32 × Int32 × Int64 × Int64 × Int32 × Int32 × (Nat → Int32) := F_TR_writeOut_L2 x2 x3 t0_0 t0_1 t0_2 t0_3 t0_4 t0_5 t0_6 t0_7 t0_8 t0_9 t0_10 t0_11 t0_12 t0_13 t1_0 t2_0 ((800 - (0 : Int32).toInt).toNat + 1) 0 t2_0
def S_TR_writeOut_L164 (K_S_TR_writeOut_L2 : Int32 → (Nat → Int32) → Prop) (K_S_TR_writeOut_L29 : Int32 → (Nat → Int32) → Prop) (K_S_TR_writeOut_L130 : Int32 → Prop) (x2 : Int32) (x3 : Int32) (t0_0 : Int32) (t0_1 : Int32) (t0_2 : Int32) (t0_3 : Int32) (t0_4 : Int32) (t0_5 : Int32) (t0_6 : Int32) (t0_7 : Int64) (t0_8 : Int32) (t0_9 : Int32) (t0_10 : Int64) (t0_11 : Int64) (t0_12 : Int32) (t0_13 : Int32) (t1_0 : (Nat → Int32)) (t2_0 : (Nat → Int32)) (lx26 : Int32) (lx27 : (Nat → Int32)) (lx43 : Int32) (lx44 : (Nat → Int32)) (lx62 : Int32) : Nat → Int32 → Prop
  | 0, _ => False
  | fm + 1, lx84 => if lx84 ≤ (54 : Int32) then (True) else (if (lx44 lx84.toNatClampNeg : Int32) = (0 : Int32) then (S_TR_writeOut_L164 K_S_TR_writeOut_L2 K_S_TR_writeOut_L29 K_S_TR_writeOut_L130 x2 x3 t0_0 t0_1 t0_2 t0_3 t0_4 t0_5 t0_6 t0_7 t0_8 t0_9 t0_10 t0_11 t0_12 t0_13 t1_0 t2_0 lx26 lx27 lx43 lx44 lx62 fm (lx84 - 1 : Int32)) else (True))
def S_TR_writeOut_J164 (K_S_TR_writeOut_L2 : Int32 → (Nat → Int32) → Prop) (K_S_TR_writeOut_L29 : Int32 → (Nat → Int32) → Prop) (K_S_TR_writeOut_L130 : Int32 → Prop) (x2 : Int32) (x3 : Int32) (t0_0 : Int32) (t0_1 : Int32) (t0_2 : Int32) (t0_3 : Int32) (t0_4 : Int32) (t0_5 : Int32) (t0_6 : Int32) (t0_7 : Int64) (t0_8 : Int32) (t0_9 : Int32) (t0_10 : Int64) (t0_11 : Int64) (t0_12 : Int32) (t0_13 : Int32) (t1_0 : (Nat → Int32)) (t2_0 : (Nat → Int32)) (lx26 : Int32) (lx27 : (Nat → Int32)) (lx43 : Int32) (lx44 : (Nat → Int32)) (lx62 : Int32) : Prop := S_TR_writeOut_L164 K_S_TR_writeOut_L2 K_S_TR_writeOut_L29 K_S_TR_writeOut_L130 x2 x3 t0_0 t0_1 t0_2 t0_3 t0_4 t0_5 t0_6 t0_7 t0_8 t0_9 t0_10 t0_11 t0_12 t0_13 t1_0 t2_0 lx26 lx27 lx43 lx44 lx62 (((799 : Int32).toInt - ((-1))).toNat + 1) 799
def S_TR_writeOut_L130 (K_S_TR_writeOut_L2 : Int32 → (Nat → Int32) → Prop) (K_S_TR_writeOut_L29 : Int32 → (Nat → Int32) → Prop) (x2 : Int32) (x3 : Int32) (t0_0 : Int32) (t0_1 : Int32) (t0_2 : Int32) (t0_3 : Int32) (t0_4 : Int32) (t0_5 : Int32) (t0_6 : Int32) (t0_7 : Int64) (t0_8 : Int32) (t0_9 : Int32) (t0_10 : Int64) (t0_11 : Int64) (t0_12 : Int32) (t0_13 : Int32) (t1_0 : (Nat → Int32)) (t2_0 : (Nat → Int32)) (lx26 : Int32) (lx27 : (Nat → Int32)) (lx43 : Int32) (lx44 : (Nat → Int32)) : Nat → Int32 → Prop
  | 0, _ => False
  | fm + 1, lx62 => if (54 : Int32) ≤ lx62 then (S_TR_writeOut_J164 K_S_TR_writeOut_L2 K_S_TR_writeOut_L29 (S_TR_writeOut_L130 K_S_TR_writeOut_L2 K_S_TR_writeOut_L29 x2 x3 t0_0 t0_1 t0_2 t0_3 t0_4 t0_5 t0_6 t0_7 t0_8 t0_9 t0_10 t0_11 t0_12 t0_13 t1_0 t2_0 lx26 lx27 lx43 lx44 fm) x2 x3 t0_0 t0_1 t0_2 t0_3 t0_4 t0_5 t0_6 t0_7 t0_8 t0_9 t0_10 t0_11 t0_12 t0_13 t1_0 t2_0 lx26 lx27 lx43 lx44 lx62) else (if (lx44 lx62.toNatClampNeg : Int32) = (0 : Int32) then (S_TR_writeOut_L130 K_S_TR_writeOut_L2 K_S_TR_writeOut_L29 x2 x3 t0_0 t0_1 t0_2 t0_3 t0_4 t0_5 t0_6 t0_7 t0_8 t0_9 t0_10 t0_11 t0_12 t0_13 t1_0 t2_0 lx26 lx27 lx43 lx44 fm (lx62 + 1 : Int32)) else (S_TR_writeOut_J164 K_S_TR_writeOut_L2 K_S_TR_writeOut_L29 (S_TR_writeOut_L130 K_S_TR_writeOut_L2 K_S_TR_writeOut_L29 x2 x3 t0_0 t0_1 t0_2 t0_3 t0_4 t0_5 t0_6 t0_7 t0_8 t0_9 t0_10 t0_11 t0_12 t0_13 t1_0 t2_0 lx26 lx27 lx43 lx44 fm) x2 x3 t0_0 t0_1 t0_2 t0_3 t0_4 t0_5 t0_6 t0_7 t0_8 t0_9 t0_10 t0_11 t0_12 t0_13 t1_0 t2_0 lx26 lx27 lx43 lx44 lx62))
def S_TR_writeOut_L67 (K_S_TR_writeOut_L2 : Int32 → (Nat → Int32) → Prop) (K_S_TR_writeOut_L29 : Int32 → (Nat → Int32) → Prop) (x2 : Int32) (x3 : Int32) (t0_0 : Int32) (t0_1 : Int32) (t0_2 : Int32) (t0_3 : Int32) (t0_4 : Int32) (t0_5 : Int32) (t0_6 : Int32) (t0_7 : Int64) (t0_8 : Int32) (t0_9 : Int32) (t0_10 : Int64) (t0_11 : Int64) (t0_12 : Int32) (t0_13 : Int32) (t1_0 : (Nat → Int32)) (t2_0 : (Nat → Int32)) (lx26 : Int32) (lx27 : (Nat → Int32)) (lx43 : Int32) (lx44 : (Nat → Int32)) (a132 : Int32) : Nat → Int32 → Int32 → Prop
  | 0, _, _ => False
  | fm + 1, lx141, lx142 => if (7 : Int32) ≤ lx141 then ((0 ≤ a132.toInt) ∧ ((a132.toInt ≤ 799) ∧ ((0 ≤ lx43.toInt) ∧ ((lx43.toInt ≤ 4099) ∧ (K_S_TR_writeOut_L29 (lx43 + 1 : Int32) (upd lx44 a132.toNatClampNeg ((lx44 a132.toNatClampNeg : Int32) + ((t1_0 lx43.toNatClampNeg : Int32) * lx142 : Int32) : Int32) : (Nat → Int32))))))) else (S_TR_writeOut_L67 K_S_TR_writeOut_L2 K_S_TR_writeOut_L29 x2 x3 t0_0 t0_1 t0_2 t0_3 t0_4 t0_5 t0_6 t0_7 t0_8 t0_9 t0_10 t0_11 t0_12 t0_13 t1_0 t2_0 lx26 lx27 lx43 lx44 a132 fm (lx141 + 1 : Int32) (lx142 * 10 : Int32))
def S_TR_writeOut_L29 (K_S_TR_writeOut_L2 : Int32 → (Nat → Int32) → Prop) (x2 : Int32) (x3 : Int32) (t0_0 : Int32) (t0_1 : Int32) (t0_2 : Int32) (t0_3 : Int32) (t0_4 : Int32) (t0_5 : Int32) (t0_6 : Int32) (t0_7 : Int64) (t0_8 : Int32) (t0_9 : Int32) (t0_10 : Int64) (t0_11 : Int64) (t0_12 : Int32) (t0_13 : Int32) (t1_0 : (Nat → Int32)) (t2_0 : (Nat → Int32)) (lx26 : Int32) (lx27 : (Nat → Int32)) : Nat → Int32 → (Nat → Int32) → Prop
  | 0, _, _ => False
  | fm + 1, lx43, lx44 => if t0_5 ≤ lx43 then (S_TR_writeOut_L130 K_S_TR_writeOut_L2 (S_TR_writeOut_L29 K_S_TR_writeOut_L2 x2 x3 t0_0 t0_1 t0_2 t0_3 t0_4 t0_5 t0_6 t0_7 t0_8 t0_9 t0_10 t0_11 t0_12 t0_13 t1_0 t2_0 lx26 lx27 fm) x2 x3 t0_0 t0_1 t0_2 t0_3 t0_4 t0_5 t0_6 t0_7 t0_8 t0_9 t0_10 t0_11 t0_12 t0_13 t1_0 t2_0 lx26 lx27 lx43 lx44 ((54 - (0 : Int32).toInt).toNat + 1) 0) else (S_TR_writeOut_L67 K_S_TR_writeOut_L2 (S_TR_writeOut_L29 K_S_TR_writeOut_L2 x2 x3 t0_0 t0_1 t0_2 t0_3 t0_4 t0_5 t0_6 t0_7 t0_8 t0_9 t0_10 t0_11 t0_12 t0_13 t1_0 t2_0 lx26 lx27 fm) x2 x3 t0_0 t0_1 t0_2 t0_3 t0_4 t0_5 t0_6 t0_7 t0_8 t0_9 t0_10 t0_11 t0_12 t0_13 t1_0 t2_0 lx26 lx27 lx43 lx44 (((((439 - x3 : Int32) + 1 : Int32) + lx43 : Int32) - x2 : Int32) / 8 : Int32) ((7 - (((((439 - x3 : Int32) + 1 : Int32) + lx43 : Int32) - x2 : Int32) - ((((439 - x3 : Int32) + 1 : Int32) + lx43 : Int32) - x2 : Int32) / 8 * 8 : Int32).toInt).toNat + 1) (((((439 - x3 : Int32) + 1 : Int32) + lx43 : Int32) - x2 : Int32) - ((((439 - x3 : Int32) + 1 : Int32) + lx43 : Int32) - x2 : Int32) / 8 * 8 : Int32) 1)
def S_TR_writeOut_L2 (x2 : Int32) (x3 : Int32) (t0_0 : Int32) (t0_1 : Int32) (t0_2 : Int32) (t0_3 : Int32) (t0_4 : Int32) (t0_5 : Int32) (t0_6 : Int32) (t0_7 : Int64) (t0_8 : Int32) (t0_9 : Int32) (t0_10 : Int64) (t0_11 : Int64) (t0_12 : Int32) (t0_13 : Int32) (t1_0 : (Nat → Int32)) (t2_0 : (Nat → Int32)) : Nat → Int32 → (Nat → Int32) → Prop
  | 0, _, _ => False
  | fm + 1, lx26, lx27 => if (800 : Int32) ≤ lx26 then (S_TR_writeOut_L29 (S_TR_writeOut_L2 x2 x3 t0_0 t0_1 t0_2 t0_3 t0_4 t0_5 t0_6 t0_7 t0_8 t0_9 t0_10 t0_11 t0_12 t0_13 t1_0 t2_0 fm) x2 x3 t0_0 t0_1 t0_2 t0_3 t0_4 t0_5 t0_6 t0_7 t0_8 t0_9 t0_10 t0_11 t0_12 t0_13 t1_0 t2_0 lx26 lx27 ((4100 - x2.toInt).toNat + 1) x2 lx27) else (S_TR_writeOut_L2 x2 x3 t0_0 t0_1 t0_2 t0_3 t0_4 t0_5 t0_6 t0_7 t0_8 t0_9 t0_10 t0_11 t0_12 t0_13 t1_0 t2_0 fm (lx26 + 1 : Int32) (upd lx27 lx26.toNatClampNeg 0 : (Nat → Int32)))
def S_TR_writeOut (x2 : Int32) (x3 : Int32) (t0_0 : Int32) (t0_1 : Int32) (t0_2 : Int32) (t0_3 : Int32) (t0_4 : Int32) (t0_5 : Int32) (t0_6 : Int32) (t0_7 : Int64) (t0_8 : Int32) (t0_9 : Int32) (t0_10 : Int64) (t0_11 : Int64) (t0_12 : Int32) (t0_13 : Int32) (t1_0 : (Nat → Int32)) (t2_0 : (Nat → Int32)) : Prop := S_TR_writeOut_L2 x2 x3 t0_0 t0_1 t0_2 t0_3 t0_4 t0_5 t0_6 t0_7 t0_8 t0_9 t0_10 t0_11 t0_12 t0_13 t1_0 t2_0 ((800 - (0 : Int32).toInt).toNat + 1) 0 t2_0
set_option maxRecDepth 100000 in
set_option maxHeartbeats 4000000 in
theorem X_TR_writeOut (l : Launch) (D : va_G) (g : Nat → ClassId) (q : Nat → Nat) (ws : va_W) (x2 : Int32) (x3 : Int32) (hI : q_I (msh g q) q ws) (t0_0 : Int32) (t0_1 : Int32) (t0_2 : Int32) (t0_3 : Int32) (t0_4 : Int32) (t0_5 : Int32) (t0_6 : Int32) (t0_7 : Int64) (t0_8 : Int32) (t0_9 : Int32) (t0_10 : Int64) (t0_11 : Int64) (t0_12 : Int32) (t0_13 : Int32) (hT0 : ws[153]? = (some (q 153, .inr (16, [.int t0_0, .ref (q 154), .int t0_1, .int t0_2, .int t0_3, .int t0_4, .ref (q 155), .int t0_5, .int t0_6, .long t0_7, .ref (q 156), .int t0_8, .int t0_9, .long t0_10, .long t0_11, .int t0_12, .int t0_13])) : Option (Nat × va_E))) (t1_0 : (Nat → Int32)) (hT1 : ws[155]? = (some (q 155, .inl (g 0, (4100 : Int32).toNatClampNeg, .inl t1_0)) : Option (Nat × va_E))) (t2_0 : (Nat → Int32)) (hT2 : ws[156]? = (some (q 156, .inl (g 0, (800 : Int32).toNatClampNeg, .inl t2_0)) : Option (Nat × va_E))) (hS : True ∧ S_TR_writeOut x2 x3 t0_0 t0_1 t0_2 t0_3 t0_4 t0_5 t0_6 t0_7 t0_8 t0_9 t0_10 t0_11 t0_12 t0_13 t1_0 t2_0) : q_mV l y_TR_writeOut prog_18_method_22_code 9 1 0 0 D g [.ref (q 153), .int x2, .int x3] ws (fun u => q_I (msh g q) q u ∧ q_un ws u [153, 156] ∧ ∃ (u0_0 : Int32) (u0_1 : Int32) (u0_2 : Int32) (u0_3 : Int32) (u0_4 : Int32) (u0_5 : Int32) (u0_6 : Int32) (u0_7 : Int64) (u0_8 : Int32) (u0_9 : Int32) (u0_10 : Int64) (u0_11 : Int64) (u0_12 : Int32) (u0_13 : Int32) (u2_0 : (Nat → Int32)), u[153]? = (some (q 153, .inr (16, [.int u0_0, .ref (q 154), .int u0_1, .int u0_2, .int u0_3, .int u0_4, .ref (q 155), .int u0_5, .int u0_6, .long u0_7, .ref (q 156), .int u0_8, .int u0_9, .long u0_10, .long u0_11, .int u0_12, .int u0_13])) : Option (Nat × va_E)) ∧ u[156]? = (some (q 156, .inl (g 0, (800 : Int32).toNatClampNeg, .inl u2_0)) : Option (Nat × va_E)) ∧ (0 ≤ u0_8.toInt) ∧ (u0_8.toInt ≤ 54) ∧ (54 ≤ u0_9.toInt) ∧ (u0_9.toInt ≤ 799) ∧ (t0_0.toInt ≤ u0_0.toInt) ∧ (u0_0.toInt ≤ t0_0.toInt) ∧ (t0_1.toInt ≤ u0_1.toInt) ∧ (u0_1.toInt ≤ t0_1.toInt) ∧ (t0_2.toInt ≤ u0_2.toInt) ∧ (u0_2.toInt ≤ t0_2.toInt) ∧ (t0_3.toInt ≤ u0_3.toInt) ∧ (u0_3.toInt ≤ t0_3.toInt) ∧ (t0_4.toInt ≤ u0_4.toInt) ∧ (u0_4.toInt ≤ t0_4.toInt) ∧ (t0_5.toInt ≤ u0_5.toInt) ∧ (u0_5.toInt ≤ t0_5.toInt) ∧ (t0_6.toInt ≤ u0_6.toInt) ∧ (u0_6.toInt ≤ t0_6.toInt) ∧ (t0_7.toInt ≤ u0_7.toInt) ∧ (u0_7.toInt ≤ t0_7.toInt) ∧ (t0_10.toInt ≤ u0_10.toInt) ∧ (u0_10.toInt ≤ t0_10.toInt) ∧ (t0_11.toInt ≤ u0_11.toInt) ∧ (u0_11.toInt ≤ t0_11.toInt) ∧ (t0_12.toInt ≤ u0_12.toInt) ∧ (u0_12.toInt ≤ t0_12.toInt) ∧ (t0_13.toInt ≤ u0_13.toInt) ∧ (u0_13.toInt ≤ t0_13.toInt) ∧ (u0_0, u0_1, u0_2, u0_3, u0_4, u0_5, u0_6, u0_7, u0_8, u0_9, u0_10, u0_11, u0_12, u0_13, u2_0) = (F_TR_writeOut x2 x3 t0_0 t0_1 t0_2 t0_3 t0_4 t0_5 t0_6 t0_7 t0_8 t0_9 t0_10 t0_11 t0_12 t0_13 t1_0 t2_0)) := by
  intro sz
  refine q_into (by decide) (Nat.le_of_ble_eq_true rfl) ?_
  intro p e s m below meth c ls hsz C0 V hl
  have hx := C0.1
  have hb := C0.2.1
  obtain ⟨btt0_1, hZ9⟩ := n_w153 hI hT0
  obtain ⟨btt0_4, btt0_13⟩ := hZ9
  replace btt0_1 : q_F (0 ≤ t0_1.toInt ∧ t0_1.toInt ≤ 4100) := btt0_1
  replace btt0_4 : q_F (0 ≤ t0_4.toInt ∧ t0_4.toInt ≤ 1) := btt0_4
  replace btt0_13 : q_F (0 ≤ t0_13.toInt ∧ t0_13.toInt ≤ 1) := btt0_13
  have hF : q_un ws ws [153, 156] := q_u0
  have hl : lv_has ls 9 [(0, .ref (q 153)), (1, .int x2), (2, .int x3)] := hl
  refine lv_iconst (v := 0) hx hb d_18_22_0 (by decide) ?_
  refine lv_istore_n (lv' := [(3, .int 0), (0, .ref (q 153)), (1, .int x2), (2, .int x3)]) hx hb d_18_22_1 rfl hl (by decide) rfl (fun ls hl => ?_)
  refine q_loop (X := Int32 × (Nat → Int32)) (fun z H locs ls w31 => q_F (0 ≤ z.1.toInt) ∧ q_F (z.1.toInt ≤ 800) ∧ q_Wd D g (va_A ws sz) s w31 H locs ∧ lv_has ls 9 [(3, .int z.1), (0, .ref (q 153)), (1, .int x2), (2, .int x3)] ∧ q_I (msh g q) q w31 ∧ q_un ws w31 [153, 156] ∧ w31[153]? = (some (q 153, .inr (16, [.int t0_0, .ref (q 154), .int t0_1, .int t0_2, .int t0_3, .int t0_4, .ref (q 155), .int t0_5, .int t0_6, .long t0_7, .ref (q 156), .int t0_8, .int t0_9, .long t0_10, .long t0_11, .int t0_12, .int t0_13])) : Option (Nat × va_E)) ∧ w31[155]? = (some (q 155, .inl (g 0, (4100 : Int32).toNatClampNeg, .inl t1_0)) : Option (Nat × va_E)) ∧ w31[156]? = (some (q 156, .inl (g 0, (800 : Int32).toNatClampNeg, .inl z.2)) : Option (Nat × va_E)) ∧ (∃ n, (800 - z.1.toInt).toNat < n ∧ F_TR_writeOut_L2 x2 x3 t0_0 t0_1 t0_2 t0_3 t0_4 t0_5 t0_6 t0_7 t0_8 t0_9 t0_10 t0_11 t0_12 t0_13 t1_0 t2_0 n z.1 z.2 = (F_TR_writeOut x2 x3 t0_0 t0_1 t0_2 t0_3 t0_4 t0_5 t0_6 t0_7 t0_8 t0_9 t0_10 t0_11 t0_12 t0_13 t1_0 t2_0) ∧ True ∧ S_TR_writeOut_L2 x2 x3 t0_0 t0_1 t0_2 t0_3 t0_4 t0_5 t0_6 t0_7 t0_8 t0_9 t0_10 t0_11 t0_12 t0_13 t1_0 t2_0 n z.1 z.2)) (fun z => (800 - z.1.toInt).toNat) ?_ ((0 : Int32), (t2_0 : (Nat → Int32))) _ _ _ ws ⟨(show q_F (0 ≤ 0) from (show 0 ≤ 0 from by omega)), (show q_F (0 ≤ 800) from (show 0 ≤ 800 from by omega)), V, q_lw hl (q_lw1 0 rfl (q_lw1 1 rfl (q_lw1 2 rfl (q_lw1 3 rfl q_lw0)))), hI, hF, hT0, hT1, hT2, ⟨((800 - (0 : Int32).toInt).toNat + 1), Nat.lt_succ_self _, (show F_TR_writeOut_L2 x2 x3 t0_0 t0_1 t0_2 t0_3 t0_4 t0_5 t0_6 t0_7 t0_8 t0_9 t0_10 t0_11 t0_12 t0_13 t1_0 t2_0 ((800 - (0 : Int32).toInt).toNat + 1) 0 t2_0 = (F_TR_writeOut x2 x3 t0_0 t0_1 t0_2 t0_3 t0_4 t0_5 t0_6 t0_7 t0_8 t0_9 t0_10 t0_11 t0_12 t0_13 t1_0 t2_0) from (by rw [F_TR_writeOut.eq_1])), (show True ∧ S_TR_writeOut_L2 x2 x3 t0_0 t0_1 t0_2 t0_3 t0_4 t0_5 t0_6 t0_7 t0_8 t0_9 t0_10 t0_11 t0_12 t0_13 t1_0 t2_0 ((800 - (0 : Int32).toInt).toNat + 1) 0 t2_0 from (by have h := hS; rw [S_TR_writeOut.eq_1] at h; with_reducible exact h))⟩⟩
  rintro ⟨lx26, lx27⟩ H locs ls w31 ⟨i28, i29, V, hl, hI, hF, hO32, hO33, hO34, ⟨fu37, hf38, hR35, hS36⟩⟩ ih30
  obtain ⟨fm39, rfl⟩ : ∃ m, fu37 = m + 1 := ⟨fu37 - 1, by omega⟩
  replace i28 : q_F (0 ≤ lx26.toInt) := i28
  replace i29 : q_F (lx26.toInt ≤ 800) := i29
  replace hl : lv_has ls 9 [(3, .int lx26), (0, .ref (q 153)), (1, .int x2), (2, .int x3)] := hl
  replace hO32 : w31[153]? = (some (q 153, .inr (16, [.int t0_0, .ref (q 154), .int t0_1, .int t0_2, .int t0_3, .int t0_4, .ref (q 155), .int t0_5, .int t0_6, .long t0_7, .ref (q 156), .int t0_8, .int t0_9, .long t0_10, .long t0_11, .int t0_12, .int t0_13])) : Option (Nat × va_E)) := hO32
  replace hO33 : w31[155]? = (some (q 155, .inl (g 0, (4100 : Int32).toNatClampNeg, .inl t1_0)) : Option (Nat × va_E)) := hO33
  replace hO34 : w31[156]? = (some (q 156, .inl (g 0, (800 : Int32).toNatClampNeg, .inl lx27)) : Option (Nat × va_E)) := hO34
  refine lv_iload_n hx hb d_18_22_2 rfl (lv_at hl 0 rfl) ?_
  refine lv_sipush (v := 800) hx hb d_18_22_3 (by decide) ?_
  refine lv_icmp_ge (tgt := 22) hx hb d_18_22_6 (by decide) (fun c40 => ?_) (fun c40 => ?_)
  ·
    refine lv_sipush (v := 439) hx hb d_18_22_22 (by decide) ?_
    refine lv_istore_n (lv' := [(3, .int 439), (0, .ref (q 153)), (1, .int x2), (2, .int x3)]) hx hb d_18_22_25 rfl hl (by decide) rfl (fun ls hl => ?_)
    refine lv_iload_n hx hb d_18_22_26 rfl (lv_at hl 2 rfl) ?_
    refine lv_istore (lv' := [(4, .int x2), (3, .int 439), (0, .ref (q 153)), (1, .int x2), (2, .int x3)]) hx hb d_18_22_27 hl (by decide) rfl (fun ls hl => ?_)
    refine q_loop (X := Int32 × (Nat → Int32)) (fun z H locs ls w47 => q_F (x2.toInt ≤ z.1.toInt) ∧ q_Wd D g (va_A ws sz) s w47 H locs ∧ lv_has ls 9 [(4, .int z.1), (3, .int 439), (0, .ref (q 153)), (1, .int x2), (2, .int x3)] ∧ q_I (msh g q) q w47 ∧ q_un ws w47 [153, 156] ∧ w47[153]? = (some (q 153, .inr (16, [.int t0_0, .ref (q 154), .int t0_1, .int t0_2, .int t0_3, .int t0_4, .ref (q 155), .int t0_5, .int t0_6, .long t0_7, .ref (q 156), .int t0_8, .int t0_9, .long t0_10, .long t0_11, .int t0_12, .int t0_13])) : Option (Nat × va_E)) ∧ w47[155]? = (some (q 155, .inl (g 0, (4100 : Int32).toNatClampNeg, .inl t1_0)) : Option (Nat × va_E)) ∧ w47[156]? = (some (q 156, .inl (g 0, (800 : Int32).toNatClampNeg, .inl z.2)) : Option (Nat × va_E)) ∧ (∃ n, (4100 - z.1.toInt).toNat < n ∧ F_TR_writeOut_L29 (F_TR_writeOut_L2 x2 x3 t0_0 t0_1 t0_2 t0_3 t0_4 t0_5 t0_6 t0_7 t0_8 t0_9 t0_10 t0_11 t0_12 t0_13 t1_0 t2_0 fm39) x2 x3 t0_0 t0_1 t0_2 t0_3 t0_4 t0_5 t0_6 t0_7 t0_8 t0_9 t0_10 t0_11 t0_12 t0_13 t1_0 t2_0 lx26 lx27 n z.1 z.2 = (F_TR_writeOut x2 x3 t0_0 t0_1 t0_2 t0_3 t0_4 t0_5 t0_6 t0_7 t0_8 t0_9 t0_10 t0_11 t0_12 t0_13 t1_0 t2_0) ∧ True ∧ S_TR_writeOut_L29 (S_TR_writeOut_L2 x2 x3 t0_0 t0_1 t0_2 t0_3 t0_4 t0_5 t0_6 t0_7 t0_8 t0_9 t0_10 t0_11 t0_12 t0_13 t1_0 t2_0 fm39) x2 x3 t0_0 t0_1 t0_2 t0_3 t0_4 t0_5 t0_6 t0_7 t0_8 t0_9 t0_10 t0_11 t0_12 t0_13 t1_0 t2_0 lx26 lx27 n z.1 z.2)) (fun z => (4100 - z.1.toInt).toNat) ?_ ((x2 : Int32), (lx27 : (Nat → Int32))) _ _ _ w31 ⟨(show q_F (x2.toInt ≤ x2.toInt) from (show x2.toInt ≤ x2.toInt from by omega)), V, q_lw hl (q_lw1 0 rfl (q_lw1 1 rfl (q_lw1 2 rfl (q_lw1 3 rfl (q_lw1 4 rfl q_lw0))))), hI, hF, hO32, hO33, hO34, ⟨((4100 - x2.toInt).toNat + 1), Nat.lt_succ_self _, (show F_TR_writeOut_L29 (F_TR_writeOut_L2 x2 x3 t0_0 t0_1 t0_2 t0_3 t0_4 t0_5 t0_6 t0_7 t0_8 t0_9 t0_10 t0_11 t0_12 t0_13 t1_0 t2_0 fm39) x2 x3 t0_0 t0_1 t0_2 t0_3 t0_4 t0_5 t0_6 t0_7 t0_8 t0_9 t0_10 t0_11 t0_12 t0_13 t1_0 t2_0 lx26 lx27 ((4100 - x2.toInt).toNat + 1) x2 lx27 = (F_TR_writeOut x2 x3 t0_0 t0_1 t0_2 t0_3 t0_4 t0_5 t0_6 t0_7 t0_8 t0_9 t0_10 t0_11 t0_12 t0_13 t1_0 t2_0) from Eq.trans (by rw [F_TR_writeOut_L2.eq_2, if_pos c40]) hR35), (show True ∧ S_TR_writeOut_L29 (S_TR_writeOut_L2 x2 x3 t0_0 t0_1 t0_2 t0_3 t0_4 t0_5 t0_6 t0_7 t0_8 t0_9 t0_10 t0_11 t0_12 t0_13 t1_0 t2_0 fm39) x2 x3 t0_0 t0_1 t0_2 t0_3 t0_4 t0_5 t0_6 t0_7 t0_8 t0_9 t0_10 t0_11 t0_12 t0_13 t1_0 t2_0 lx26 lx27 ((4100 - x2.toInt).toNat + 1) x2 lx27 from (by have h := hS36; rw [S_TR_writeOut_L2.eq_2] at h; rw [if_pos c40] at h; with_reducible exact h))⟩⟩
    rintro ⟨lx43, lx44⟩ H locs ls w47 ⟨i45, V, hl, hI, hF, hO48, hO49, hO50, ⟨fu53, hf54, hR51, hS52⟩⟩ ih46
    obtain ⟨fm55, rfl⟩ : ∃ m, fu53 = m + 1 := ⟨fu53 - 1, by omega⟩
    replace i45 : q_F (x2.toInt ≤ lx43.toInt) := i45
    replace hl : lv_has ls 9 [(4, .int lx43), (3, .int 439), (0, .ref (q 153)), (1, .int x2), (2, .int x3)] := hl
    replace hO48 : w47[153]? = (some (q 153, .inr (16, [.int t0_0, .ref (q 154), .int t0_1, .int t0_2, .int t0_3, .int t0_4, .ref (q 155), .int t0_5, .int t0_6, .long t0_7, .ref (q 156), .int t0_8, .int t0_9, .long t0_10, .long t0_11, .int t0_12, .int t0_13])) : Option (Nat × va_E)) := hO48
    replace hO49 : w47[155]? = (some (q 155, .inl (g 0, (4100 : Int32).toNatClampNeg, .inl t1_0)) : Option (Nat × va_E)) := hO49
    replace hO50 : w47[156]? = (some (q 156, .inl (g 0, (800 : Int32).toNatClampNeg, .inl lx44)) : Option (Nat × va_E)) := hO50
    refine lv_iload hx hb d_18_22_29 (lv_at hl 0 rfl) ?_
    refine lv_aload_n hx hb d_18_22_31 rfl (lv_at hl 2 rfl) ?_
    refine q_get (ci := 16) (j := 7) (v := .int t0_5) C0 V i_TR rfl rfl hO48 (by decide) w_2147 rfl d_18_22_32 ?_
    refine lv_icmp_ge (tgt := 118) hx hb d_18_22_35 (by decide) (fun c56 => ?_) (fun c56 => ?_)
    ·
      refine lv_aload_n hx hb d_18_22_118 rfl (lv_at hl 2 rfl) ?_
      refine lv_iconst (v := 0) hx hb d_18_22_119 (by decide) ?_
      refine q_put (ci := 16) (j := 11) (v := .int 0) (ty := .int) C0 V i_TR o_TR n_TR rfl rfl hO48 (by decide) w_2151 rfl rfl rfl rfl (Nat.le_of_ble_eq_true rfl) d_18_22_120 (fun H locs w58 hu59 hO48 V => ?_)
      replace hO48 : w58[153]? = (some (q 153, .inr (16, [.int t0_0, .ref (q 154), .int t0_1, .int t0_2, .int t0_3, .int t0_4, .ref (q 155), .int t0_5, .int t0_6, .long t0_7, .ref (q 156), .int 0, .int t0_9, .long t0_10, .long t0_11, .int t0_12, .int t0_13])) : Option (Nat × va_E)) := hO48
      replace hI := n_p153 hI hu59 hO48 (by first | with_reducible exact q_fe btt0_1 | exact ⟨(by have t1 : 0 ≤ t0_1.toInt ∧ t0_1.toInt ≤ 4100 := btt0_1; omega), (by have t1 : 0 ≤ t0_1.toInt ∧ t0_1.toInt ≤ 4100 := btt0_1; omega)⟩) (by first | with_reducible exact q_fe btt0_4 | exact ⟨(by have t1 : 0 ≤ t0_4.toInt ∧ t0_4.toInt ≤ 1 := btt0_4; omega), (by have t1 : 0 ≤ t0_4.toInt ∧ t0_4.toInt ≤ 1 := btt0_4; omega)⟩) (by first | with_reducible exact q_fe btt0_13 | exact ⟨(by have t1 : 0 ≤ t0_13.toInt ∧ t0_13.toInt ≤ 1 := btt0_13; omega), (by have t1 : 0 ≤ t0_13.toInt ∧ t0_13.toInt ≤ 1 := btt0_13; omega)⟩)
      replace hO49 := (hu59 _ (by decide)).trans hO49
      replace hO50 := (hu59 _ (by decide)).trans hO50
      replace hF := q_us hF hu59 (by simp)
      refine lv_aload_n hx hb d_18_22_123 rfl (lv_at hl 2 rfl) ?_
      refine lv_sipush (v := 799) hx hb d_18_22_124 (by decide) ?_
      refine q_put (ci := 16) (j := 12) (v := .int 799) (ty := .int) C0 V i_TR o_TR n_TR rfl rfl hO48 (by decide) w_2152 rfl rfl rfl rfl (Nat.le_of_ble_eq_true rfl) d_18_22_127 (fun H locs w60 hu61 hO48 V => ?_)
      replace hO48 : w60[153]? = (some (q 153, .inr (16, [.int t0_0, .ref (q 154), .int t0_1, .int t0_2, .int t0_3, .int t0_4, .ref (q 155), .int t0_5, .int t0_6, .long t0_7, .ref (q 156), .int 0, .int 799, .long t0_10, .long t0_11, .int t0_12, .int t0_13])) : Option (Nat × va_E)) := hO48
      replace hI := n_p153 hI hu61 hO48 (by first | with_reducible exact q_fe btt0_1 | exact ⟨(by have t1 : 0 ≤ t0_1.toInt ∧ t0_1.toInt ≤ 4100 := btt0_1; omega), (by have t1 : 0 ≤ t0_1.toInt ∧ t0_1.toInt ≤ 4100 := btt0_1; omega)⟩) (by first | with_reducible exact q_fe btt0_4 | exact ⟨(by have t1 : 0 ≤ t0_4.toInt ∧ t0_4.toInt ≤ 1 := btt0_4; omega), (by have t1 : 0 ≤ t0_4.toInt ∧ t0_4.toInt ≤ 1 := btt0_4; omega)⟩) (by first | with_reducible exact q_fe btt0_13 | exact ⟨(by have t1 : 0 ≤ t0_13.toInt ∧ t0_13.toInt ≤ 1 := btt0_13; omega), (by have t1 : 0 ≤ t0_13.toInt ∧ t0_13.toInt ≤ 1 := btt0_13; omega)⟩)
      replace hO49 := (hu61 _ (by decide)).trans hO49
      replace hO50 := (hu61 _ (by decide)).trans hO50
      replace hF := q_us hF hu61 (by simp)
      refine q_loop (X := Int32) (fun z H locs ls w66 => q_F (0 ≤ z.toInt) ∧ q_F (z.toInt ≤ 54) ∧ q_Wd D g (va_A ws sz) s w66 H locs ∧ lv_has ls 9 [(0, .ref (q 153))] ∧ q_I (msh g q) q w66 ∧ q_un ws w66 [153, 156] ∧ w66[153]? = (some (q 153, .inr (16, [.int t0_0, .ref (q 154), .int t0_1, .int t0_2, .int t0_3, .int t0_4, .ref (q 155), .int t0_5, .int t0_6, .long t0_7, .ref (q 156), .int z, .int 799, .long t0_10, .long t0_11, .int t0_12, .int t0_13])) : Option (Nat × va_E)) ∧ w66[155]? = (some (q 155, .inl (g 0, (4100 : Int32).toNatClampNeg, .inl t1_0)) : Option (Nat × va_E)) ∧ w66[156]? = (some (q 156, .inl (g 0, (800 : Int32).toNatClampNeg, .inl lx44)) : Option (Nat × va_E)) ∧ (∃ n, (54 - z.toInt).toNat < n ∧ F_TR_writeOut_L130 (F_TR_writeOut_L2 x2 x3 t0_0 t0_1 t0_2 t0_3 t0_4 t0_5 t0_6 t0_7 t0_8 t0_9 t0_10 t0_11 t0_12 t0_13 t1_0 t2_0 fm39) (F_TR_writeOut_L29 (F_TR_writeOut_L2 x2 x3 t0_0 t0_1 t0_2 t0_3 t0_4 t0_5 t0_6 t0_7 t0_8 t0_9 t0_10 t0_11 t0_12 t0_13 t1_0 t2_0 fm39) x2 x3 t0_0 t0_1 t0_2 t0_3 t0_4 t0_5 t0_6 t0_7 t0_8 t0_9 t0_10 t0_11 t0_12 t0_13 t1_0 t2_0 lx26 lx27 fm55) x2 x3 t0_0 t0_1 t0_2 t0_3 t0_4 t0_5 t0_6 t0_7 t0_8 t0_9 t0_10 t0_11 t0_12 t0_13 t1_0 t2_0 lx26 lx27 lx43 lx44 n z = (F_TR_writeOut x2 x3 t0_0 t0_1 t0_2 t0_3 t0_4 t0_5 t0_6 t0_7 t0_8 t0_9 t0_10 t0_11 t0_12 t0_13 t1_0 t2_0) ∧ True ∧ S_TR_writeOut_L130 (S_TR_writeOut_L2 x2 x3 t0_0 t0_1 t0_2 t0_3 t0_4 t0_5 t0_6 t0_7 t0_8 t0_9 t0_10 t0_11 t0_12 t0_13 t1_0 t2_0 fm39) (S_TR_writeOut_L29 (S_TR_writeOut_L2 x2 x3 t0_0 t0_1 t0_2 t0_3 t0_4 t0_5 t0_6 t0_7 t0_8 t0_9 t0_10 t0_11 t0_12 t0_13 t1_0 t2_0 fm39) x2 x3 t0_0 t0_1 t0_2 t0_3 t0_4 t0_5 t0_6 t0_7 t0_8 t0_9 t0_10 t0_11 t0_12 t0_13 t1_0 t2_0 lx26 lx27 fm55) x2 x3 t0_0 t0_1 t0_2 t0_3 t0_4 t0_5 t0_6 t0_7 t0_8 t0_9 t0_10 t0_11 t0_12 t0_13 t1_0 t2_0 lx26 lx27 lx43 lx44 n z)) (fun z => (54 - z.toInt).toNat) ?_ ((0 : Int32)) _ _ _ w60 ⟨(show q_F (0 ≤ 0) from (show 0 ≤ 0 from by omega)), (show q_F (0 ≤ 54) from (show 0 ≤ 54 from by omega)), V, q_lw hl (q_lw1 2 rfl q_lw0), hI, hF, hO48, hO49, hO50, ⟨((54 - (0 : Int32).toInt).toNat + 1), Nat.lt_succ_self _, (show F_TR_writeOut_L130 (F_TR_writeOut_L2 x2 x3 t0_0 t0_1 t0_2 t0_3 t0_4 t0_5 t0_6 t0_7 t0_8 t0_9 t0_10 t0_11 t0_12 t0_13 t1_0 t2_0 fm39) (F_TR_writeOut_L29 (F_TR_writeOut_L2 x2 x3 t0_0 t0_1 t0_2 t0_3 t0_4 t0_5 t0_6 t0_7 t0_8 t0_9 t0_10 t0_11 t0_12 t0_13 t1_0 t2_0 fm39) x2 x3 t0_0 t0_1 t0_2 t0_3 t0_4 t0_5 t0_6 t0_7 t0_8 t0_9 t0_10 t0_11 t0_12 t0_13 t1_0 t2_0 lx26 lx27 fm55) x2 x3 t0_0 t0_1 t0_2 t0_3 t0_4 t0_5 t0_6 t0_7 t0_8 t0_9 t0_10 t0_11 t0_12 t0_13 t1_0 t2_0 lx26 lx27 lx43 lx44 ((54 - (0 : Int32).toInt).toNat + 1) 0 = (F_TR_writeOut x2 x3 t0_0 t0_1 t0_2 t0_3 t0_4 t0_5 t0_6 t0_7 t0_8 t0_9 t0_10 t0_11 t0_12 t0_13 t1_0 t2_0) from Eq.trans (by rw [F_TR_writeOut_L29.eq_2, if_pos c56]) hR51), (show True ∧ S_TR_writeOut_L130 (S_TR_writeOut_L2 x2 x3 t0_0 t0_1 t0_2 t0_3 t0_4 t0_5 t0_6 t0_7 t0_8 t0_9 t0_10 t0_11 t0_12 t0_13 t1_0 t2_0 fm39) (S_TR_writeOut_L29 (S_TR_writeOut_L2 x2 x3 t0_0 t0_1 t0_2 t0_3 t0_4 t0_5 t0_6 t0_7 t0_8 t0_9 t0_10 t0_11 t0_12 t0_13 t1_0 t2_0 fm39) x2 x3 t0_0 t0_1 t0_2 t0_3 t0_4 t0_5 t0_6 t0_7 t0_8 t0_9 t0_10 t0_11 t0_12 t0_13 t1_0 t2_0 lx26 lx27 fm55) x2 x3 t0_0 t0_1 t0_2 t0_3 t0_4 t0_5 t0_6 t0_7 t0_8 t0_9 t0_10 t0_11 t0_12 t0_13 t1_0 t2_0 lx26 lx27 lx43 lx44 ((54 - (0 : Int32).toInt).toNat + 1) 0 from (by have h := hS52; rw [S_TR_writeOut_L29.eq_2] at h; rw [if_pos c56] at h; with_reducible exact h))⟩⟩
      rintro lx62 H locs ls w66 ⟨i63, i64, V, hl, hI, hF, hO67, hO68, hO69, ⟨fu72, hf73, hR70, hS71⟩⟩ ih65
      obtain ⟨fm74, rfl⟩ : ∃ m, fu72 = m + 1 := ⟨fu72 - 1, by omega⟩
      replace i63 : q_F (0 ≤ lx62.toInt) := i63
      replace i64 : q_F (lx62.toInt ≤ 54) := i64
      replace hl : lv_has ls 9 [(0, .ref (q 153))] := hl
      replace hO67 : w66[153]? = (some (q 153, .inr (16, [.int t0_0, .ref (q 154), .int t0_1, .int t0_2, .int t0_3, .int t0_4, .ref (q 155), .int t0_5, .int t0_6, .long t0_7, .ref (q 156), .int lx62, .int 799, .long t0_10, .long t0_11, .int t0_12, .int t0_13])) : Option (Nat × va_E)) := hO67
      replace hO68 : w66[155]? = (some (q 155, .inl (g 0, (4100 : Int32).toNatClampNeg, .inl t1_0)) : Option (Nat × va_E)) := hO68
      replace hO69 : w66[156]? = (some (q 156, .inl (g 0, (800 : Int32).toNatClampNeg, .inl lx44)) : Option (Nat × va_E)) := hO69
      refine lv_aload_n hx hb d_18_22_130 rfl (lv_at hl 0 rfl) ?_
      refine q_get (ci := 16) (j := 11) (v := .int lx62) C0 V i_TR rfl rfl hO67 (by decide) w_2151 rfl d_18_22_131 ?_
      refine lv_bipush (v := 54) hx hb d_18_22_134 (by decide) ?_
      refine q_join (X := Unit) (fun z H locs ls _ => q_Wd D g (va_A ws sz) s w66 H locs ∧ lv_has ls 9 [(0, .ref (q 153))] ∧ F_TR_writeOut_J164 (F_TR_writeOut_L2 x2 x3 t0_0 t0_1 t0_2 t0_3 t0_4 t0_5 t0_6 t0_7 t0_8 t0_9 t0_10 t0_11 t0_12 t0_13 t1_0 t2_0 fm39) (F_TR_writeOut_L29 (F_TR_writeOut_L2 x2 x3 t0_0 t0_1 t0_2 t0_3 t0_4 t0_5 t0_6 t0_7 t0_8 t0_9 t0_10 t0_11 t0_12 t0_13 t1_0 t2_0 fm39) x2 x3 t0_0 t0_1 t0_2 t0_3 t0_4 t0_5 t0_6 t0_7 t0_8 t0_9 t0_10 t0_11 t0_12 t0_13 t1_0 t2_0 lx26 lx27 fm55) (F_TR_writeOut_L130 (F_TR_writeOut_L2 x2 x3 t0_0 t0_1 t0_2 t0_3 t0_4 t0_5 t0_6 t0_7 t0_8 t0_9 t0_10 t0_11 t0_12 t0_13 t1_0 t2_0 fm39) (F_TR_writeOut_L29 (F_TR_writeOut_L2 x2 x3 t0_0 t0_1 t0_2 t0_3 t0_4 t0_5 t0_6 t0_7 t0_8 t0_9 t0_10 t0_11 t0_12 t0_13 t1_0 t2_0 fm39) x2 x3 t0_0 t0_1 t0_2 t0_3 t0_4 t0_5 t0_6 t0_7 t0_8 t0_9 t0_10 t0_11 t0_12 t0_13 t1_0 t2_0 lx26 lx27 fm55) x2 x3 t0_0 t0_1 t0_2 t0_3 t0_4 t0_5 t0_6 t0_7 t0_8 t0_9 t0_10 t0_11 t0_12 t0_13 t1_0 t2_0 lx26 lx27 lx43 lx44 fm74) x2 x3 t0_0 t0_1 t0_2 t0_3 t0_4 t0_5 t0_6 t0_7 t0_8 t0_9 t0_10 t0_11 t0_12 t0_13 t1_0 t2_0 lx26 lx27 lx43 lx44 lx62 = (F_TR_writeOut x2 x3 t0_0 t0_1 t0_2 t0_3 t0_4 t0_5 t0_6 t0_7 t0_8 t0_9 t0_10 t0_11 t0_12 t0_13 t1_0 t2_0) ∧ True ∧ S_TR_writeOut_J164 (S_TR_writeOut_L2 x2 x3 t0_0 t0_1 t0_2 t0_3 t0_4 t0_5 t0_6 t0_7 t0_8 t0_9 t0_10 t0_11 t0_12 t0_13 t1_0 t2_0 fm39) (S_TR_writeOut_L29 (S_TR_writeOut_L2 x2 x3 t0_0 t0_1 t0_2 t0_3 t0_4 t0_5 t0_6 t0_7 t0_8 t0_9 t0_10 t0_11 t0_12 t0_13 t1_0 t2_0 fm39) x2 x3 t0_0 t0_1 t0_2 t0_3 t0_4 t0_5 t0_6 t0_7 t0_8 t0_9 t0_10 t0_11 t0_12 t0_13 t1_0 t2_0 lx26 lx27 fm55) (S_TR_writeOut_L130 (S_TR_writeOut_L2 x2 x3 t0_0 t0_1 t0_2 t0_3 t0_4 t0_5 t0_6 t0_7 t0_8 t0_9 t0_10 t0_11 t0_12 t0_13 t1_0 t2_0 fm39) (S_TR_writeOut_L29 (S_TR_writeOut_L2 x2 x3 t0_0 t0_1 t0_2 t0_3 t0_4 t0_5 t0_6 t0_7 t0_8 t0_9 t0_10 t0_11 t0_12 t0_13 t1_0 t2_0 fm39) x2 x3 t0_0 t0_1 t0_2 t0_3 t0_4 t0_5 t0_6 t0_7 t0_8 t0_9 t0_10 t0_11 t0_12 t0_13 t1_0 t2_0 lx26 lx27 fm55) x2 x3 t0_0 t0_1 t0_2 t0_3 t0_4 t0_5 t0_6 t0_7 t0_8 t0_9 t0_10 t0_11 t0_12 t0_13 t1_0 t2_0 lx26 lx27 lx43 lx44 fm74) x2 x3 t0_0 t0_1 t0_2 t0_3 t0_4 t0_5 t0_6 t0_7 t0_8 t0_9 t0_10 t0_11 t0_12 t0_13 t1_0 t2_0 lx26 lx27 lx43 lx44 lx62) (fun z => []) 164 0 0 ?_ ?_
      ·
        rintro _ H locs ls _ ⟨V, hl, hR79, hS80⟩
        replace hl : lv_has ls 9 [(0, .ref (q 153))] := hl
        refine q_loop (X := Int32) (fun z H locs ls w88 => q_F (z.toInt ≤ 799) ∧ q_F (54 ≤ z.toInt) ∧ q_Wd D g (va_A ws sz) s w88 H locs ∧ lv_has ls 9 [(0, .ref (q 153))] ∧ q_I (msh g q) q w88 ∧ q_un ws w88 [153, 156] ∧ w88[153]? = (some (q 153, .inr (16, [.int t0_0, .ref (q 154), .int t0_1, .int t0_2, .int t0_3, .int t0_4, .ref (q 155), .int t0_5, .int t0_6, .long t0_7, .ref (q 156), .int lx62, .int z, .long t0_10, .long t0_11, .int t0_12, .int t0_13])) : Option (Nat × va_E)) ∧ w88[155]? = (some (q 155, .inl (g 0, (4100 : Int32).toNatClampNeg, .inl t1_0)) : Option (Nat × va_E)) ∧ w88[156]? = (some (q 156, .inl (g 0, (800 : Int32).toNatClampNeg, .inl lx44)) : Option (Nat × va_E)) ∧ (∃ n, (z.toInt - ((-1))).toNat < n ∧ F_TR_writeOut_L164 (F_TR_writeOut_L2 x2 x3 t0_0 t0_1 t0_2 t0_3 t0_4 t0_5 t0_6 t0_7 t0_8 t0_9 t0_10 t0_11 t0_12 t0_13 t1_0 t2_0 fm39) (F_TR_writeOut_L29 (F_TR_writeOut_L2 x2 x3 t0_0 t0_1 t0_2 t0_3 t0_4 t0_5 t0_6 t0_7 t0_8 t0_9 t0_10 t0_11 t0_12 t0_13 t1_0 t2_0 fm39) x2 x3 t0_0 t0_1 t0_2 t0_3 t0_4 t0_5 t0_6 t0_7 t0_8 t0_9 t0_10 t0_11 t0_12 t0_13 t1_0 t2_0 lx26 lx27 fm55) (F_TR_writeOut_L130 (F_TR_writeOut_L2 x2 x3 t0_0 t0_1 t0_2 t0_3 t0_4 t0_5 t0_6 t0_7 t0_8 t0_9 t0_10 t0_11 t0_12 t0_13 t1_0 t2_0 fm39) (F_TR_writeOut_L29 (F_TR_writeOut_L2 x2 x3 t0_0 t0_1 t0_2 t0_3 t0_4 t0_5 t0_6 t0_7 t0_8 t0_9 t0_10 t0_11 t0_12 t0_13 t1_0 t2_0 fm39) x2 x3 t0_0 t0_1 t0_2 t0_3 t0_4 t0_5 t0_6 t0_7 t0_8 t0_9 t0_10 t0_11 t0_12 t0_13 t1_0 t2_0 lx26 lx27 fm55) x2 x3 t0_0 t0_1 t0_2 t0_3 t0_4 t0_5 t0_6 t0_7 t0_8 t0_9 t0_10 t0_11 t0_12 t0_13 t1_0 t2_0 lx26 lx27 lx43 lx44 fm74) x2 x3 t0_0 t0_1 t0_2 t0_3 t0_4 t0_5 t0_6 t0_7 t0_8 t0_9 t0_10 t0_11 t0_12 t0_13 t1_0 t2_0 lx26 lx27 lx43 lx44 lx62 n z = (F_TR_writeOut x2 x3 t0_0 t0_1 t0_2 t0_3 t0_4 t0_5 t0_6 t0_7 t0_8 t0_9 t0_10 t0_11 t0_12 t0_13 t1_0 t2_0) ∧ True ∧ S_TR_writeOut_L164 (S_TR_writeOut_L2 x2 x3 t0_0 t0_1 t0_2 t0_3 t0_4 t0_5 t0_6 t0_7 t0_8 t0_9 t0_10 t0_11 t0_12 t0_13 t1_0 t2_0 fm39) (S_TR_writeOut_L29 (S_TR_writeOut_L2 x2 x3 t0_0 t0_1 t0_2 t0_3 t0_4 t0_5 t0_6 t0_7 t0_8 t0_9 t0_10 t0_11 t0_12 t0_13 t1_0 t2_0 fm39) x2 x3 t0_0 t0_1 t0_2 t0_3 t0_4 t0_5 t0_6 t0_7 t0_8 t0_9 t0_10 t0_11 t0_12 t0_13 t1_0 t2_0 lx26 lx27 fm55) (S_TR_writeOut_L130 (S_TR_writeOut_L2 x2 x3 t0_0 t0_1 t0_2 t0_3 t0_4 t0_5 t0_6 t0_7 t0_8 t0_9 t0_10 t0_11 t0_12 t0_13 t1_0 t2_0 fm39) (S_TR_writeOut_L29 (S_TR_writeOut_L2 x2 x3 t0_0 t0_1 t0_2 t0_3 t0_4 t0_5 t0_6 t0_7 t0_8 t0_9 t0_10 t0_11 t0_12 t0_13 t1_0 t2_0 fm39) x2 x3 t0_0 t0_1 t0_2 t0_3 t0_4 t0_5 t0_6 t0_7 t0_8 t0_9 t0_10 t0_11 t0_12 t0_13 t1_0 t2_0 lx26 lx27 fm55) x2 x3 t0_0 t0_1 t0_2 t0_3 t0_4 t0_5 t0_6 t0_7 t0_8 t0_9 t0_10 t0_11 t0_12 t0_13 t1_0 t2_0 lx26 lx27 lx43 lx44 fm74) x2 x3 t0_0 t0_1 t0_2 t0_3 t0_4 t0_5 t0_6 t0_7 t0_8 t0_9 t0_10 t0_11 t0_12 t0_13 t1_0 t2_0 lx26 lx27 lx43 lx44 lx62 n z)) (fun z => (z.toInt - ((-1))).toNat) ?_ ((799 : Int32)) _ _ _ w66 ⟨(show q_F (799 ≤ 799) from (show 799 ≤ 799 from by omega)), (show q_F (54 ≤ 799) from (show 54 ≤ 799 from by omega)), V, q_lw hl (q_lw1 0 rfl q_lw0), hI, hF, hO67, hO68, hO69, ⟨(((799 : Int32).toInt - ((-1))).toNat + 1), Nat.lt_succ_self _, (show F_TR_writeOut_L164 (F_TR_writeOut_L2 x2 x3 t0_0 t0_1 t0_2 t0_3 t0_4 t0_5 t0_6 t0_7 t0_8 t0_9 t0_10 t0_11 t0_12 t0_13 t1_0 t2_0 fm39) (F_TR_writeOut_L29 (F_TR_writeOut_L2 x2 x3 t0_0 t0_1 t0_2 t0_3 t0_4 t0_5 t0_6 t0_7 t0_8 t0_9 t0_10 t0_11 t0_12 t0_13 t1_0 t2_0 fm39) x2 x3 t0_0 t0_1 t0_2 t0_3 t0_4 t0_5 t0_6 t0_7 t0_8 t0_9 t0_10 t0_11 t0_12 t0_13 t1_0 t2_0 lx26 lx27 fm55) (F_TR_writeOut_L130 (F_TR_writeOut_L2 x2 x3 t0_0 t0_1 t0_2 t0_3 t0_4 t0_5 t0_6 t0_7 t0_8 t0_9 t0_10 t0_11 t0_12 t0_13 t1_0 t2_0 fm39) (F_TR_writeOut_L29 (F_TR_writeOut_L2 x2 x3 t0_0 t0_1 t0_2 t0_3 t0_4 t0_5 t0_6 t0_7 t0_8 t0_9 t0_10 t0_11 t0_12 t0_13 t1_0 t2_0 fm39) x2 x3 t0_0 t0_1 t0_2 t0_3 t0_4 t0_5 t0_6 t0_7 t0_8 t0_9 t0_10 t0_11 t0_12 t0_13 t1_0 t2_0 lx26 lx27 fm55) x2 x3 t0_0 t0_1 t0_2 t0_3 t0_4 t0_5 t0_6 t0_7 t0_8 t0_9 t0_10 t0_11 t0_12 t0_13 t1_0 t2_0 lx26 lx27 lx43 lx44 fm74) x2 x3 t0_0 t0_1 t0_2 t0_3 t0_4 t0_5 t0_6 t0_7 t0_8 t0_9 t0_10 t0_11 t0_12 t0_13 t1_0 t2_0 lx26 lx27 lx43 lx44 lx62 (((799 : Int32).toInt - ((-1))).toNat + 1) 799 = (F_TR_writeOut x2 x3 t0_0 t0_1 t0_2 t0_3 t0_4 t0_5 t0_6 t0_7 t0_8 t0_9 t0_10 t0_11 t0_12 t0_13 t1_0 t2_0) from Eq.trans (by rw [F_TR_writeOut_J164.eq_1]) hR79), (show True ∧ S_TR_writeOut_L164 (S_TR_writeOut_L2 x2 x3 t0_0 t0_1 t0_2 t0_3 t0_4 t0_5 t0_6 t0_7 t0_8 t0_9 t0_10 t0_11 t0_12 t0_13 t1_0 t2_0 fm39) (S_TR_writeOut_L29 (S_TR_writeOut_L2 x2 x3 t0_0 t0_1 t0_2 t0_3 t0_4 t0_5 t0_6 t0_7 t0_8 t0_9 t0_10 t0_11 t0_12 t0_13 t1_0 t2_0 fm39) x2 x3 t0_0 t0_1 t0_2 t0_3 t0_4 t0_5 t0_6 t0_7 t0_8 t0_9 t0_10 t0_11 t0_12 t0_13 t1_0 t2_0 lx26 lx27 fm55) (S_TR_writeOut_L130 (S_TR_writeOut_L2 x2 x3 t0_0 t0_1 t0_2 t0_3 t0_4 t0_5 t0_6 t0_7 t0_8 t0_9 t0_10 t0_11 t0_12 t0_13 t1_0 t2_0 fm39) (S_TR_writeOut_L29 (S_TR_writeOut_L2 x2 x3 t0_0 t0_1 t0_2 t0_3 t0_4 t0_5 t0_6 t0_7 t0_8 t0_9 t0_10 t0_11 t0_12 t0_13 t1_0 t2_0 fm39) x2 x3 t0_0 t0_1 t0_2 t0_3 t0_4 t0_5 t0_6 t0_7 t0_8 t0_9 t0_10 t0_11 t0_12 t0_13 t1_0 t2_0 lx26 lx27 fm55) x2 x3 t0_0 t0_1 t0_2 t0_3 t0_4 t0_5 t0_6 t0_7 t0_8 t0_9 t0_10 t0_11 t0_12 t0_13 t1_0 t2_0 lx26 lx27 lx43 lx44 fm74) x2 x3 t0_0 t0_1 t0_2 t0_3 t0_4 t0_5 t0_6 t0_7 t0_8 t0_9 t0_10 t0_11 t0_12 t0_13 t1_0 t2_0 lx26 lx27 lx43 lx44 lx62 (((799 : Int32).toInt - ((-1))).toNat + 1) 799 from (by have h := hS80; rw [S_TR_writeOut_J164.eq_1] at h; with_reducible exact h))⟩⟩
        rintro lx84 H locs ls w88 ⟨i85, i86, V, hl, hI, hF, hO89, hO90, hO91, ⟨fu94, hf95, hR92, hS93⟩⟩ ih87
        obtain ⟨fm96, rfl⟩ : ∃ m, fu94 = m + 1 := ⟨fu94 - 1, by omega⟩
        replace i85 : q_F (lx84.toInt ≤ 799) := i85
        replace i86 : q_F (54 ≤ lx84.toInt) := i86
        replace hl : lv_has ls 9 [(0, .ref (q 153))] := hl
        replace hO89 : w88[153]? = (some (q 153, .inr (16, [.int t0_0, .ref (q 154), .int t0_1, .int t0_2, .int t0_3, .int t0_4, .ref (q 155), .int t0_5, .int t0_6, .long t0_7, .ref (q 156), .int lx62, .int lx84, .long t0_10, .long t0_11, .int t0_12, .int t0_13])) : Option (Nat × va_E)) := hO89
        replace hO90 : w88[155]? = (some (q 155, .inl (g 0, (4100 : Int32).toNatClampNeg, .inl t1_0)) : Option (Nat × va_E)) := hO90
        replace hO91 : w88[156]? = (some (q 156, .inl (g 0, (800 : Int32).toNatClampNeg, .inl lx44)) : Option (Nat × va_E)) := hO91
        refine lv_aload_n hx hb d_18_22_164 rfl (lv_at hl 0 rfl) ?_
        refine q_get (ci := 16) (j := 12) (v := .int lx84) C0 V i_TR rfl rfl hO89 (by decide) w_2152 rfl d_18_22_165 ?_
        refine lv_bipush (v := 54) hx hb d_18_22_168 (by decide) ?_
        refine lv_icmp_le (tgt := 198) hx hb d_18_22_170 (by decide) (fun c97 => ?_) (fun c97 => ?_)
        ·
          exact q_retv C0 V (⟨hI, hF, t0_0, t0_1, t0_2, t0_3, t0_4, t0_5, t0_6, t0_7, lx62, lx84, t0_10, t0_11, t0_12, t0_13, lx44, hO89, hO91, (show 0 ≤ lx62.toInt from (by first | with_reducible exact q_fe i63 | (have t1 : 0 ≤ lx62.toInt := i63; omega))), (show lx62.toInt ≤ 54 from (by first | with_reducible exact q_fe i64 | (have t1 : lx62.toInt ≤ 54 := i64; omega))), (show 54 ≤ lx84.toInt from (by first | with_reducible exact q_fe i86 | (have t1 : 54 ≤ lx84.toInt := i86; omega))), (show lx84.toInt ≤ 799 from (by first | with_reducible exact q_fe i85 | (have t1 : lx84.toInt ≤ 799 := i85; omega))), (show t0_0.toInt ≤ t0_0.toInt from (by omega)), (show t0_0.toInt ≤ t0_0.toInt from (by omega)), (show t0_1.toInt ≤ t0_1.toInt from (by omega)), (show t0_1.toInt ≤ t0_1.toInt from (by omega)), (show t0_2.toInt ≤ t0_2.toInt from (by omega)), (show t0_2.toInt ≤ t0_2.toInt from (by omega)), (show t0_3.toInt ≤ t0_3.toInt from (by omega)), (show t0_3.toInt ≤ t0_3.toInt from (by omega)), (show t0_4.toInt ≤ t0_4.toInt from (by omega)), (show t0_4.toInt ≤ t0_4.toInt from (by omega)), (show t0_5.toInt ≤ t0_5.toInt from (by omega)), (show t0_5.toInt ≤ t0_5.toInt from (by omega)), (show t0_6.toInt ≤ t0_6.toInt from (by omega)), (show t0_6.toInt ≤ t0_6.toInt from (by omega)), (show t0_7.toInt ≤ t0_7.toInt from (by omega)), (show t0_7.toInt ≤ t0_7.toInt from (by omega)), (show t0_10.toInt ≤ t0_10.toInt from (by omega)), (show t0_10.toInt ≤ t0_10.toInt from (by omega)), (show t0_11.toInt ≤ t0_11.toInt from (by omega)), (show t0_11.toInt ≤ t0_11.toInt from (by omega)), (show t0_12.toInt ≤ t0_12.toInt from (by omega)), (show t0_12.toInt ≤ t0_12.toInt from (by omega)), (show t0_13.toInt ≤ t0_13.toInt from (by omega)), (show t0_13.toInt ≤ t0_13.toInt from (by omega)), (show (t0_0, t0_1, t0_2, t0_3, t0_4, t0_5, t0_6, t0_7, lx62, lx84, t0_10, t0_11, t0_12, t0_13, lx44) = (F_TR_writeOut x2 x3 t0_0 t0_1 t0_2 t0_3 t0_4 t0_5 t0_6 t0_7 t0_8 t0_9 t0_10 t0_11 t0_12 t0_13 t1_0 t2_0) from Eq.trans (by rw [F_TR_writeOut_L164.eq_2, if_pos c97]) hR92)⟩) d_18_22_198
        ·
          have b99 : q_F (54 < lx84.toInt) := (q_nleI c97)
          refine lv_aload_n hx hb d_18_22_173 rfl (lv_at hl 0 rfl) ?_
          refine q_get (ci := 16) (j := 10) (v := .ref (q 156)) C0 V i_TR rfl rfl hO89 (by decide) w_2150 rfl d_18_22_174 ?_
          refine lv_aload_n hx hb d_18_22_177 rfl (lv_at hl 0 rfl) ?_
          refine q_get (ci := 16) (j := 12) (v := .int lx84) C0 V i_TR rfl rfl hO89 (by decide) w_2152 rfl d_18_22_178 ?_
          refine q_iald C0 V hO91 (q_ix (x := lx84.toInt) rfl (by first | with_reducible exact q_fe i86 | (have t1 : 54 ≤ lx84.toInt := i86; omega)) (by have t1 : 54 ≤ lx84.toInt := i86; have t2 : lx84.toInt ≤ 799 := i85; have e9 : (((800 : Int32).toNatClampNeg : Nat) : Int) = 800 := (by decide); omega)) d_18_22_181 ?_
          obtain ⟨a100, e101⟩ := q_nm (lx44 lx84.toNatClampNeg : Int32)
          refine q_ti (v := a100) e101 ?_
          refine lv_if_ne (tgt := 198) hx hb d_18_22_182 (by decide) (fun c102 => ?_) (fun c102 => ?_)
          ·
            exact q_retv C0 V (⟨hI, hF, t0_0, t0_1, t0_2, t0_3, t0_4, t0_5, t0_6, t0_7, lx62, lx84, t0_10, t0_11, t0_12, t0_13, lx44, hO89, hO91, (show 0 ≤ lx62.toInt from (by first | with_reducible exact q_fe i63 | (have t1 : 0 ≤ lx62.toInt := i63; omega))), (show lx62.toInt ≤ 54 from (by first | with_reducible exact q_fe i64 | (have t1 : lx62.toInt ≤ 54 := i64; omega))), (show 54 ≤ lx84.toInt from (by first | with_reducible exact q_fe i86 | (have t1 : 54 ≤ lx84.toInt := i86; omega))), (show lx84.toInt ≤ 799 from (by first | with_reducible exact q_fe i85 | (have t1 : lx84.toInt ≤ 799 := i85; omega))), (show t0_0.toInt ≤ t0_0.toInt from (by omega)), (show t0_0.toInt ≤ t0_0.toInt from (by omega)), (show t0_1.toInt ≤ t0_1.toInt from (by omega)), (show t0_1.toInt ≤ t0_1.toInt from (by omega)), (show t0_2.toInt ≤ t0_2.toInt from (by omega)), (show t0_2.toInt ≤ t0_2.toInt from (by omega)), (show t0_3.toInt ≤ t0_3.toInt from (by omega)), (show t0_3.toInt ≤ t0_3.toInt from (by omega)), (show t0_4.toInt ≤ t0_4.toInt from (by omega)), (show t0_4.toInt ≤ t0_4.toInt from (by omega)), (show t0_5.toInt ≤ t0_5.toInt from (by omega)), (show t0_5.toInt ≤ t0_5.toInt from (by omega)), (show t0_6.toInt ≤ t0_6.toInt from (by omega)), (show t0_6.toInt ≤ t0_6.toInt from (by omega)), (show t0_7.toInt ≤ t0_7.toInt from (by omega)), (show t0_7.toInt ≤ t0_7.toInt from (by omega)), (show t0_10.toInt ≤ t0_10.toInt from (by omega)), (show t0_10.toInt ≤ t0_10.toInt from (by omega)), (show t0_11.toInt ≤ t0_11.toInt from (by omega)), (show t0_11.toInt ≤ t0_11.toInt from (by omega)), (show t0_12.toInt ≤ t0_12.toInt from (by omega)), (show t0_12.toInt ≤ t0_12.toInt from (by omega)), (show t0_13.toInt ≤ t0_13.toInt from (by omega)), (show t0_13.toInt ≤ t0_13.toInt from (by omega)), (show (t0_0, t0_1, t0_2, t0_3, t0_4, t0_5, t0_6, t0_7, lx62, lx84, t0_10, t0_11, t0_12, t0_13, lx44) = (F_TR_writeOut x2 x3 t0_0 t0_1 t0_2 t0_3 t0_4 t0_5 t0_6 t0_7 t0_8 t0_9 t0_10 t0_11 t0_12 t0_13 t1_0 t2_0) from Eq.trans (by have c102x := c102; rw [← e101] at c102x; rw [F_TR_writeOut_L164.eq_2, if_neg c97, if_neg c102x]) hR92)⟩) d_18_22_198
          ·
            refine lv_aload_n hx hb d_18_22_185 rfl (lv_at hl 0 rfl) ?_
            refine lv_dup hx hb d_18_22_186 rfl ?_
            refine q_get (ci := 16) (j := 12) (v := .int lx84) C0 V i_TR rfl rfl hO89 (by decide) w_2152 rfl d_18_22_187 ?_
            refine lv_iconst (v := 1) hx hb d_18_22_190 (by decide) ?_
            refine lv_isub hx hb d_18_22_191 ?_
            obtain ⟨a105, e106⟩ := q_nm (lx84 - 1 : Int32)
            refine q_ti (v := a105) e106 ?_
            have b107 : q_F (a105.toInt = lx84.toInt - 1) := (by rw [← e106]; show (lx84 - 1 : Int32).toInt = lx84.toInt - 1; exact q_subI (x := lx84.toInt) (y := 1) rfl (by decide) (by have t1 : 54 ≤ lx84.toInt := i86; have t2 : lx84.toInt ≤ 799 := i85; omega) (by have t1 : 54 ≤ lx84.toInt := i86; have t2 : lx84.toInt ≤ 799 := i85; omega))
            refine q_put (ci := 16) (j := 12) (v := .int a105) (ty := .int) C0 V i_TR o_TR n_TR rfl rfl hO89 (by decide) w_2152 rfl rfl rfl rfl (Nat.le_of_ble_eq_true rfl) d_18_22_192 (fun H locs w108 hu109 hO89 V => ?_)
            replace hO89 : w108[153]? = (some (q 153, .inr (16, [.int t0_0, .ref (q 154), .int t0_1, .int t0_2, .int t0_3, .int t0_4, .ref (q 155), .int t0_5, .int t0_6, .long t0_7, .ref (q 156), .int lx62, .int a105, .long t0_10, .long t0_11, .int t0_12, .int t0_13])) : Option (Nat × va_E)) := hO89
            replace hI := n_p153 hI hu109 hO89 (by first | with_reducible exact q_fe btt0_1 | exact ⟨(by have t1 : 0 ≤ t0_1.toInt ∧ t0_1.toInt ≤ 4100 := btt0_1; omega), (by have t1 : 0 ≤ t0_1.toInt ∧ t0_1.toInt ≤ 4100 := btt0_1; omega)⟩) (by first | with_reducible exact q_fe btt0_4 | exact ⟨(by have t1 : 0 ≤ t0_4.toInt ∧ t0_4.toInt ≤ 1 := btt0_4; omega), (by have t1 : 0 ≤ t0_4.toInt ∧ t0_4.toInt ≤ 1 := btt0_4; omega)⟩) (by first | with_reducible exact q_fe btt0_13 | exact ⟨(by have t1 : 0 ≤ t0_13.toInt ∧ t0_13.toInt ≤ 1 := btt0_13; omega), (by have t1 : 0 ≤ t0_13.toInt ∧ t0_13.toInt ≤ 1 := btt0_13; omega)⟩)
            replace hO90 := (hu109 _ (by decide)).trans hO90
            replace hO91 := (hu109 _ (by decide)).trans hO91
            replace hF := q_us hF hu109 (by simp)
            refine lv_goto (tgt := 164) hx hb d_18_22_195 (by decide) ?_
            exact ih87 ((a105 : Int32)) _ _ _ _ (show (a105.toInt - ((-1))).toNat < (lx84.toInt - ((-1))).toNat from by have t1 : a105.toInt = lx84.toInt - 1 := b107; have t2 : 54 ≤ lx84.toInt := i86; omega) ⟨(show q_F (a105.toInt ≤ 799) from (show a105.toInt ≤ 799 from by have t1 : lx84.toInt ≤ 799 := i85; have t2 : a105.toInt = lx84.toInt - 1 := b107; omega)), (show q_F (54 ≤ a105.toInt) from (show 54 ≤ a105.toInt from by have t1 : 54 < lx84.toInt := b99; have t2 : a105.toInt = lx84.toInt - 1 := b107; omega)), V, q_lw hl (q_lw1 0 rfl q_lw0), hI, hF, hO89, hO90, hO91, ⟨fm96, Nat.lt_of_lt_of_le (show (a105.toInt - ((-1))).toNat < (lx84.toInt - ((-1))).toNat from by have t1 : a105.toInt = lx84.toInt - 1 := b107; have t2 : 54 ≤ lx84.toInt := i86; omega) (Nat.le_of_lt_succ hf95), (show F_TR_writeOut_L164 (F_TR_writeOut_L2 x2 x3 t0_0 t0_1 t0_2 t0_3 t0_4 t0_5 t0_6 t0_7 t0_8 t0_9 t0_10 t0_11 t0_12 t0_13 t1_0 t2_0 fm39) (F_TR_writeOut_L29 (F_TR_writeOut_L2 x2 x3 t0_0 t0_1 t0_2 t0_3 t0_4 t0_5 t0_6 t0_7 t0_8 t0_9 t0_10 t0_11 t0_12 t0_13 t1_0 t2_0 fm39) x2 x3 t0_0 t0_1 t0_2 t0_3 t0_4 t0_5 t0_6 t0_7 t0_8 t0_9 t0_10 t0_11 t0_12 t0_13 t1_0 t2_0 lx26 lx27 fm55) (F_TR_writeOut_L130 (F_TR_writeOut_L2 x2 x3 t0_0 t0_1 t0_2 t0_3 t0_4 t0_5 t0_6 t0_7 t0_8 t0_9 t0_10 t0_11 t0_12 t0_13 t1_0 t2_0 fm39) (F_TR_writeOut_L29 (F_TR_writeOut_L2 x2 x3 t0_0 t0_1 t0_2 t0_3 t0_4 t0_5 t0_6 t0_7 t0_8 t0_9 t0_10 t0_11 t0_12 t0_13 t1_0 t2_0 fm39) x2 x3 t0_0 t0_1 t0_2 t0_3 t0_4 t0_5 t0_6 t0_7 t0_8 t0_9 t0_10 t0_11 t0_12 t0_13 t1_0 t2_0 lx26 lx27 fm55) x2 x3 t0_0 t0_1 t0_2 t0_3 t0_4 t0_5 t0_6 t0_7 t0_8 t0_9 t0_10 t0_11 t0_12 t0_13 t1_0 t2_0 lx26 lx27 lx43 lx44 fm74) x2 x3 t0_0 t0_1 t0_2 t0_3 t0_4 t0_5 t0_6 t0_7 t0_8 t0_9 t0_10 t0_11 t0_12 t0_13 t1_0 t2_0 lx26 lx27 lx43 lx44 lx62 fm96 a105 = (F_TR_writeOut x2 x3 t0_0 t0_1 t0_2 t0_3 t0_4 t0_5 t0_6 t0_7 t0_8 t0_9 t0_10 t0_11 t0_12 t0_13 t1_0 t2_0) from Eq.trans (by have c102x := c102; rw [← e101] at c102x; rw [← e106, F_TR_writeOut_L164.eq_2, if_neg c97, if_pos c102x]) hR92), (show True ∧ S_TR_writeOut_L164 (S_TR_writeOut_L2 x2 x3 t0_0 t0_1 t0_2 t0_3 t0_4 t0_5 t0_6 t0_7 t0_8 t0_9 t0_10 t0_11 t0_12 t0_13 t1_0 t2_0 fm39) (S_TR_writeOut_L29 (S_TR_writeOut_L2 x2 x3 t0_0 t0_1 t0_2 t0_3 t0_4 t0_5 t0_6 t0_7 t0_8 t0_9 t0_10 t0_11 t0_12 t0_13 t1_0 t2_0 fm39) x2 x3 t0_0 t0_1 t0_2 t0_3 t0_4 t0_5 t0_6 t0_7 t0_8 t0_9 t0_10 t0_11 t0_12 t0_13 t1_0 t2_0 lx26 lx27 fm55) (S_TR_writeOut_L130 (S_TR_writeOut_L2 x2 x3 t0_0 t0_1 t0_2 t0_3 t0_4 t0_5 t0_6 t0_7 t0_8 t0_9 t0_10 t0_11 t0_12 t0_13 t1_0 t2_0 fm39) (S_TR_writeOut_L29 (S_TR_writeOut_L2 x2 x3 t0_0 t0_1 t0_2 t0_3 t0_4 t0_5 t0_6 t0_7 t0_8 t0_9 t0_10 t0_11 t0_12 t0_13 t1_0 t2_0 fm39) x2 x3 t0_0 t0_1 t0_2 t0_3 t0_4 t0_5 t0_6 t0_7 t0_8 t0_9 t0_10 t0_11 t0_12 t0_13 t1_0 t2_0 lx26 lx27 fm55) x2 x3 t0_0 t0_1 t0_2 t0_3 t0_4 t0_5 t0_6 t0_7 t0_8 t0_9 t0_10 t0_11 t0_12 t0_13 t1_0 t2_0 lx26 lx27 lx43 lx44 fm74) x2 x3 t0_0 t0_1 t0_2 t0_3 t0_4 t0_5 t0_6 t0_7 t0_8 t0_9 t0_10 t0_11 t0_12 t0_13 t1_0 t2_0 lx26 lx27 lx43 lx44 lx62 fm96 a105 from (by rw [← e106]; have h := hS93; rw [S_TR_writeOut_L164.eq_2] at h; rw [if_neg c97] at h; have c102x := c102; rw [← e101] at c102x; rw [if_pos c102x] at h; with_reducible exact h))⟩⟩
      ·
        intro J78
        refine lv_icmp_ge (tgt := 164) hx hb d_18_22_136 (by decide) (fun c110 => ?_) (fun c110 => ?_)
        ·
          exact J78 (()) _ _ _ w66 ⟨V, q_lw hl (q_lw1 0 rfl q_lw0), (show F_TR_writeOut_J164 (F_TR_writeOut_L2 x2 x3 t0_0 t0_1 t0_2 t0_3 t0_4 t0_5 t0_6 t0_7 t0_8 t0_9 t0_10 t0_11 t0_12 t0_13 t1_0 t2_0 fm39) (F_TR_writeOut_L29 (F_TR_writeOut_L2 x2 x3 t0_0 t0_1 t0_2 t0_3 t0_4 t0_5 t0_6 t0_7 t0_8 t0_9 t0_10 t0_11 t0_12 t0_13 t1_0 t2_0 fm39) x2 x3 t0_0 t0_1 t0_2 t0_3 t0_4 t0_5 t0_6 t0_7 t0_8 t0_9 t0_10 t0_11 t0_12 t0_13 t1_0 t2_0 lx26 lx27 fm55) (F_TR_writeOut_L130 (F_TR_writeOut_L2 x2 x3 t0_0 t0_1 t0_2 t0_3 t0_4 t0_5 t0_6 t0_7 t0_8 t0_9 t0_10 t0_11 t0_12 t0_13 t1_0 t2_0 fm39) (F_TR_writeOut_L29 (F_TR_writeOut_L2 x2 x3 t0_0 t0_1 t0_2 t0_3 t0_4 t0_5 t0_6 t0_7 t0_8 t0_9 t0_10 t0_11 t0_12 t0_13 t1_0 t2_0 fm39) x2 x3 t0_0 t0_1 t0_2 t0_3 t0_4 t0_5 t0_6 t0_7 t0_8 t0_9 t0_10 t0_11 t0_12 t0_13 t1_0 t2_0 lx26 lx27 fm55) x2 x3 t0_0 t0_1 t0_2 t0_3 t0_4 t0_5 t0_6 t0_7 t0_8 t0_9 t0_10 t0_11 t0_12 t0_13 t1_0 t2_0 lx26 lx27 lx43 lx44 fm74) x2 x3 t0_0 t0_1 t0_2 t0_3 t0_4 t0_5 t0_6 t0_7 t0_8 t0_9 t0_10 t0_11 t0_12 t0_13 t1_0 t2_0 lx26 lx27 lx43 lx44 lx62 = (F_TR_writeOut x2 x3 t0_0 t0_1 t0_2 t0_3 t0_4 t0_5 t0_6 t0_7 t0_8 t0_9 t0_10 t0_11 t0_12 t0_13 t1_0 t2_0) from Eq.trans (by rw [F_TR_writeOut_L130.eq_2, if_pos c110]) hR70), (show True ∧ S_TR_writeOut_J164 (S_TR_writeOut_L2 x2 x3 t0_0 t0_1 t0_2 t0_3 t0_4 t0_5 t0_6 t0_7 t0_8 t0_9 t0_10 t0_11 t0_12 t0_13 t1_0 t2_0 fm39) (S_TR_writeOut_L29 (S_TR_writeOut_L2 x2 x3 t0_0 t0_1 t0_2 t0_3 t0_4 t0_5 t0_6 t0_7 t0_8 t0_9 t0_10 t0_11 t0_12 t0_13 t1_0 t2_0 fm39) x2 x3 t0_0 t0_1 t0_2 t0_3 t0_4 t0_5 t0_6 t0_7 t0_8 t0_9 t0_10 t0_11 t0_12 t0_13 t1_0 t2_0 lx26 lx27 fm55) (S_TR_writeOut_L130 (S_TR_writeOut_L2 x2 x3 t0_0 t0_1 t0_2 t0_3 t0_4 t0_5 t0_6 t0_7 t0_8 t0_9 t0_10 t0_11 t0_12 t0_13 t1_0 t2_0 fm39) (S_TR_writeOut_L29 (S_TR_writeOut_L2 x2 x3 t0_0 t0_1 t0_2 t0_3 t0_4 t0_5 t0_6 t0_7 t0_8 t0_9 t0_10 t0_11 t0_12 t0_13 t1_0 t2_0 fm39) x2 x3 t0_0 t0_1 t0_2 t0_3 t0_4 t0_5 t0_6 t0_7 t0_8 t0_9 t0_10 t0_11 t0_12 t0_13 t1_0 t2_0 lx26 lx27 fm55) x2 x3 t0_0 t0_1 t0_2 t0_3 t0_4 t0_5 t0_6 t0_7 t0_8 t0_9 t0_10 t0_11 t0_12 t0_13 t1_0 t2_0 lx26 lx27 lx43 lx44 fm74) x2 x3 t0_0 t0_1 t0_2 t0_3 t0_4 t0_5 t0_6 t0_7 t0_8 t0_9 t0_10 t0_11 t0_12 t0_13 t1_0 t2_0 lx26 lx27 lx43 lx44 lx62 from (by have h := hS71; rw [S_TR_writeOut_L130.eq_2] at h; rw [if_pos c110] at h; with_reducible exact h))⟩
        ·
          have b112 : q_F (lx62.toInt < 54) := (q_nleI c110)
          refine lv_aload_n hx hb d_18_22_139 rfl (lv_at hl 0 rfl) ?_
          refine q_get (ci := 16) (j := 10) (v := .ref (q 156)) C0 V i_TR rfl rfl hO67 (by decide) w_2150 rfl d_18_22_140 ?_
          refine lv_aload_n hx hb d_18_22_143 rfl (lv_at hl 0 rfl) ?_
          refine q_get (ci := 16) (j := 11) (v := .int lx62) C0 V i_TR rfl rfl hO67 (by decide) w_2151 rfl d_18_22_144 ?_
          refine q_iald C0 V hO69 (q_ix (x := lx62.toInt) rfl (by first | with_reducible exact q_fe i63 | (have t1 : 0 ≤ lx62.toInt := i63; omega)) (by have t1 : 0 ≤ lx62.toInt := i63; have t2 : lx62.toInt ≤ 54 := i64; have e9 : (((800 : Int32).toNatClampNeg : Nat) : Int) = 800 := (by decide); omega)) d_18_22_147 ?_
          obtain ⟨a113, e114⟩ := q_nm (lx44 lx62.toNatClampNeg : Int32)
          refine q_ti (v := a113) e114 ?_
          refine lv_if_ne (tgt := 164) hx hb d_18_22_148 (by decide) (fun c115 => ?_) (fun c115 => ?_)
          ·
            exact J78 (()) _ _ _ w66 ⟨V, q_lw hl (q_lw1 0 rfl q_lw0), (show F_TR_writeOut_J164 (F_TR_writeOut_L2 x2 x3 t0_0 t0_1 t0_2 t0_3 t0_4 t0_5 t0_6 t0_7 t0_8 t0_9 t0_10 t0_11 t0_12 t0_13 t1_0 t2_0 fm39) (F_TR_writeOut_L29 (F_TR_writeOut_L2 x2 x3 t0_0 t0_1 t0_2 t0_3 t0_4 t0_5 t0_6 t0_7 t0_8 t0_9 t0_10 t0_11 t0_12 t0_13 t1_0 t2_0 fm39) x2 x3 t0_0 t0_1 t0_2 t0_3 t0_4 t0_5 t0_6 t0_7 t0_8 t0_9 t0_10 t0_11 t0_12 t0_13 t1_0 t2_0 lx26 lx27 fm55) (F_TR_writeOut_L130 (F_TR_writeOut_L2 x2 x3 t0_0 t0_1 t0_2 t0_3 t0_4 t0_5 t0_6 t0_7 t0_8 t0_9 t0_10 t0_11 t0_12 t0_13 t1_0 t2_0 fm39) (F_TR_writeOut_L29 (F_TR_writeOut_L2 x2 x3 t0_0 t0_1 t0_2 t0_3 t0_4 t0_5 t0_6 t0_7 t0_8 t0_9 t0_10 t0_11 t0_12 t0_13 t1_0 t2_0 fm39) x2 x3 t0_0 t0_1 t0_2 t0_3 t0_4 t0_5 t0_6 t0_7 t0_8 t0_9 t0_10 t0_11 t0_12 t0_13 t1_0 t2_0 lx26 lx27 fm55) x2 x3 t0_0 t0_1 t0_2 t0_3 t0_4 t0_5 t0_6 t0_7 t0_8 t0_9 t0_10 t0_11 t0_12 t0_13 t1_0 t2_0 lx26 lx27 lx43 lx44 fm74) x2 x3 t0_0 t0_1 t0_2 t0_3 t0_4 t0_5 t0_6 t0_7 t0_8 t0_9 t0_10 t0_11 t0_12 t0_13 t1_0 t2_0 lx26 lx27 lx43 lx44 lx62 = (F_TR_writeOut x2 x3 t0_0 t0_1 t0_2 t0_3 t0_4 t0_5 t0_6 t0_7 t0_8 t0_9 t0_10 t0_11 t0_12 t0_13 t1_0 t2_0) from Eq.trans (by have c115x := c115; rw [← e114] at c115x; rw [F_TR_writeOut_L130.eq_2, if_neg c110, if_neg c115x]) hR70), (show True ∧ S_TR_writeOut_J164 (S_TR_writeOut_L2 x2 x3 t0_0 t0_1 t0_2 t0_3 t0_4 t0_5 t0_6 t0_7 t0_8 t0_9 t0_10 t0_11 t0_12 t0_13 t1_0 t2_0 fm39) (S_TR_writeOut_L29 (S_TR_writeOut_L2 x2 x3 t0_0 t0_1 t0_2 t0_3 t0_4 t0_5 t0_6 t0_7 t0_8 t0_9 t0_10 t0_11 t0_12 t0_13 t1_0 t2_0 fm39) x2 x3 t0_0 t0_1 t0_2 t0_3 t0_4 t0_5 t0_6 t0_7 t0_8 t0_9 t0_10 t0_11 t0_12 t0_13 t1_0 t2_0 lx26 lx27 fm55) (S_TR_writeOut_L130 (S_TR_writeOut_L2 x2 x3 t0_0 t0_1 t0_2 t0_3 t0_4 t0_5 t0_6 t0_7 t0_8 t0_9 t0_10 t0_11 t0_12 t0_13 t1_0 t2_0 fm39) (S_TR_writeOut_L29 (S_TR_writeOut_L2 x2 x3 t0_0 t0_1 t0_2 t0_3 t0_4 t0_5 t0_6 t0_7 t0_8 t0_9 t0_10 t0_11 t0_12 t0_13 t1_0 t2_0 fm39) x2 x3 t0_0 t0_1 t0_2 t0_3 t0_4 t0_5 t0_6 t0_7 t0_8 t0_9 t0_10 t0_11 t0_12 t0_13 t1_0 t2_0 lx26 lx27 fm55) x2 x3 t0_0 t0_1 t0_2 t0_3 t0_4 t0_5 t0_6 t0_7 t0_8 t0_9 t0_10 t0_11 t0_12 t0_13 t1_0 t2_0 lx26 lx27 lx43 lx44 fm74) x2 x3 t0_0 t0_1 t0_2 t0_3 t0_4 t0_5 t0_6 t0_7 t0_8 t0_9 t0_10 t0_11 t0_12 t0_13 t1_0 t2_0 lx26 lx27 lx43 lx44 lx62 from (by have h := hS71; rw [S_TR_writeOut_L130.eq_2] at h; rw [if_neg c110] at h; have c115x := c115; rw [← e114] at c115x; rw [if_neg c115x] at h; with_reducible exact h))⟩
          ·
            refine lv_aload_n hx hb d_18_22_151 rfl (lv_at hl 0 rfl) ?_
            refine lv_dup hx hb d_18_22_152 rfl ?_
            refine q_get (ci := 16) (j := 11) (v := .int lx62) C0 V i_TR rfl rfl hO67 (by decide) w_2151 rfl d_18_22_153 ?_
            refine lv_iconst (v := 1) hx hb d_18_22_156 (by decide) ?_
            refine lv_iadd hx hb d_18_22_157 ?_
            obtain ⟨a118, e119⟩ := q_nm (lx62 + 1 : Int32)
            refine q_ti (v := a118) e119 ?_
            have b120 : q_F (a118.toInt = lx62.toInt + 1) := (by rw [← e119]; show (lx62 + 1 : Int32).toInt = lx62.toInt + 1; exact q_addI (x := lx62.toInt) (y := 1) rfl (by decide) (by have t1 : 0 ≤ lx62.toInt := i63; have t2 : lx62.toInt ≤ 54 := i64; omega) (by have t1 : 0 ≤ lx62.toInt := i63; have t2 : lx62.toInt ≤ 54 := i64; omega))
            refine q_put (ci := 16) (j := 11) (v := .int a118) (ty := .int) C0 V i_TR o_TR n_TR rfl rfl hO67 (by decide) w_2151 rfl rfl rfl rfl (Nat.le_of_ble_eq_true rfl) d_18_22_158 (fun H locs w121 hu122 hO67 V => ?_)
            replace hO67 : w121[153]? = (some (q 153, .inr (16, [.int t0_0, .ref (q 154), .int t0_1, .int t0_2, .int t0_3, .int t0_4, .ref (q 155), .int t0_5, .int t0_6, .long t0_7, .ref (q 156), .int a118, .int 799, .long t0_10, .long t0_11, .int t0_12, .int t0_13])) : Option (Nat × va_E)) := hO67
            replace hI := n_p153 hI hu122 hO67 (by first | with_reducible exact q_fe btt0_1 | exact ⟨(by have t1 : 0 ≤ t0_1.toInt ∧ t0_1.toInt ≤ 4100 := btt0_1; omega), (by have t1 : 0 ≤ t0_1.toInt ∧ t0_1.toInt ≤ 4100 := btt0_1; omega)⟩) (by first | with_reducible exact q_fe btt0_4 | exact ⟨(by have t1 : 0 ≤ t0_4.toInt ∧ t0_4.toInt ≤ 1 := btt0_4; omega), (by have t1 : 0 ≤ t0_4.toInt ∧ t0_4.toInt ≤ 1 := btt0_4; omega)⟩) (by first | with_reducible exact q_fe btt0_13 | exact ⟨(by have t1 : 0 ≤ t0_13.toInt ∧ t0_13.toInt ≤ 1 := btt0_13; omega), (by have t1 : 0 ≤ t0_13.toInt ∧ t0_13.toInt ≤ 1 := btt0_13; omega)⟩)
            replace hO68 := (hu122 _ (by decide)).trans hO68
            replace hO69 := (hu122 _ (by decide)).trans hO69
            replace hF := q_us hF hu122 (by simp)
            refine lv_goto (tgt := 130) hx hb d_18_22_161 (by decide) ?_
            exact ih65 ((a118 : Int32)) _ _ _ _ (show (54 - a118.toInt).toNat < (54 - lx62.toInt).toNat from by have t1 : a118.toInt = lx62.toInt + 1 := b120; have t2 : lx62.toInt ≤ 54 := i64; have t3 : lx62.toInt < 54 := b112; omega) ⟨(show q_F (0 ≤ a118.toInt) from (show 0 ≤ a118.toInt from by have t1 : 0 ≤ lx62.toInt := i63; have t2 : a118.toInt = lx62.toInt + 1 := b120; omega)), (show q_F (a118.toInt ≤ 54) from (show a118.toInt ≤ 54 from by have t1 : lx62.toInt < 54 := b112; have t2 : a118.toInt = lx62.toInt + 1 := b120; omega)), V, q_lw hl (q_lw1 0 rfl q_lw0), hI, hF, hO67, hO68, hO69, ⟨fm74, Nat.lt_of_lt_of_le (show (54 - a118.toInt).toNat < (54 - lx62.toInt).toNat from by have t1 : a118.toInt = lx62.toInt + 1 := b120; have t2 : lx62.toInt ≤ 54 := i64; have t3 : lx62.toInt < 54 := b112; omega) (Nat.le_of_lt_succ hf73), (show F_TR_writeOut_L130 (F_TR_writeOut_L2 x2 x3 t0_0 t0_1 t0_2 t0_3 t0_4 t0_5 t0_6 t0_7 t0_8 t0_9 t0_10 t0_11 t0_12 t0_13 t1_0 t2_0 fm39) (F_TR_writeOut_L29 (F_TR_writeOut_L2 x2 x3 t0_0 t0_1 t0_2 t0_3 t0_4 t0_5 t0_6 t0_7 t0_8 t0_9 t0_10 t0_11 t0_12 t0_13 t1_0 t2_0 fm39) x2 x3 t0_0 t0_1 t0_2 t0_3 t0_4 t0_5 t0_6 t0_7 t0_8 t0_9 t0_10 t0_11 t0_12 t0_13 t1_0 t2_0 lx26 lx27 fm55) x2 x3 t0_0 t0_1 t0_2 t0_3 t0_4 t0_5 t0_6 t0_7 t0_8 t0_9 t0_10 t0_11 t0_12 t0_13 t1_0 t2_0 lx26 lx27 lx43 lx44 fm74 a118 = (F_TR_writeOut x2 x3 t0_0 t0_1 t0_2 t0_3 t0_4 t0_5 t0_6 t0_7 t0_8 t0_9 t0_10 t0_11 t0_12 t0_13 t1_0 t2_0) from Eq.trans (by have c115x := c115; rw [← e114] at c115x; rw [← e119, F_TR_writeOut_L130.eq_2, if_neg c110, if_pos c115x]) hR70), (show True ∧ S_TR_writeOut_L130 (S_TR_writeOut_L2 x2 x3 t0_0 t0_1 t0_2 t0_3 t0_4 t0_5 t0_6 t0_7 t0_8 t0_9 t0_10 t0_11 t0_12 t0_13 t1_0 t2_0 fm39) (S_TR_writeOut_L29 (S_TR_writeOut_L2 x2 x3 t0_0 t0_1 t0_2 t0_3 t0_4 t0_5 t0_6 t0_7 t0_8 t0_9 t0_10 t0_11 t0_12 t0_13 t1_0 t2_0 fm39) x2 x3 t0_0 t0_1 t0_2 t0_3 t0_4 t0_5 t0_6 t0_7 t0_8 t0_9 t0_10 t0_11 t0_12 t0_13 t1_0 t2_0 lx26 lx27 fm55) x2 x3 t0_0 t0_1 t0_2 t0_3 t0_4 t0_5 t0_6 t0_7 t0_8 t0_9 t0_10 t0_11 t0_12 t0_13 t1_0 t2_0 lx26 lx27 lx43 lx44 fm74 a118 from (by rw [← e119]; have h := hS71; rw [S_TR_writeOut_L130.eq_2] at h; rw [if_neg c110] at h; have c115x := c115; rw [← e114] at c115x; rw [if_pos c115x] at h; with_reducible exact h))⟩⟩
    ·
      refine lv_iload_n hx hb d_18_22_38 rfl (lv_at hl 1 rfl) ?_
      refine lv_iload_n hx hb d_18_22_39 rfl (lv_at hl 4 rfl) ?_
      refine lv_isub hx hb d_18_22_40 ?_
      obtain ⟨a124, e125⟩ := q_nm (439 - x3 : Int32)
      refine q_ti (v := a124) e125 ?_
      refine lv_iconst (v := 1) hx hb d_18_22_41 (by decide) ?_
      refine lv_iadd hx hb d_18_22_42 ?_
      obtain ⟨a126, e127⟩ := q_nm (a124 + 1 : Int32)
      refine q_ti (v := a126) e127 ?_
      refine lv_iload hx hb d_18_22_43 (lv_at hl 0 rfl) ?_
      refine lv_iadd hx hb d_18_22_45 ?_
      obtain ⟨a128, e129⟩ := q_nm (a126 + lx43 : Int32)
      refine q_ti (v := a128) e129 ?_
      refine lv_iload_n hx hb d_18_22_46 rfl (lv_at hl 3 rfl) ?_
      refine lv_isub hx hb d_18_22_47 ?_
      obtain ⟨a130, e131⟩ := q_nm (a128 - x2 : Int32)
      refine q_ti (v := a130) e131 ?_
      refine lv_istore (lv' := [(5, .int a130), (4, .int lx43), (3, .int 439), (0, .ref (q 153)), (1, .int x2), (2, .int x3)]) hx hb d_18_22_48 hl (by decide) rfl (fun ls hl => ?_)
      refine lv_iload hx hb d_18_22_50 (lv_at hl 0 rfl) ?_
      refine lv_bipush (v := 8) hx hb d_18_22_52 (by decide) ?_
      refine lv_idiv hx hb d_18_22_54 (by decide) ?_
      obtain ⟨a132, e133⟩ := q_nm (a130 / 8 : Int32)
      refine q_ti (v := a132) e133 ?_
      refine lv_istore (lv' := [(6, .int a132), (5, .int a130), (4, .int lx43), (3, .int 439), (0, .ref (q 153)), (1, .int x2), (2, .int x3)]) hx hb d_18_22_55 hl (by decide) rfl (fun ls hl => ?_)
      refine lv_iconst (v := 1) hx hb d_18_22_57 (by decide) ?_
      refine lv_istore (lv' := [(7, .int 1), (6, .int a132), (5, .int a130), (4, .int lx43), (3, .int 439), (0, .ref (q 153)), (1, .int x2), (2, .int x3)]) hx hb d_18_22_58 hl (by decide) rfl (fun ls hl => ?_)
      refine lv_iload hx hb d_18_22_60 (lv_at hl 2 rfl) ?_
      refine lv_bipush (v := 8) hx hb d_18_22_62 (by decide) ?_
      refine lv_irem hx hb d_18_22_64 (by decide) ?_
      obtain ⟨a135, e136⟩ := q_nm (a130 - a130 / 8 * 8 : Int32)
      refine q_ti (v := a135) e136 ?_
      refine lv_istore (lv' := [(8, .int a135), (7, .int 1), (6, .int a132), (5, .int a130), (4, .int lx43), (3, .int 439), (0, .ref (q 153)), (1, .int x2), (2, .int x3)]) hx hb d_18_22_65 hl (by decide) rfl (fun ls hl => ?_)
      refine q_loop (X := Int32 × Int32) (fun z H locs ls _ => q_F (a135.toInt ≤ z.1.toInt) ∧ q_Wd D g (va_A ws sz) s w47 H locs ∧ lv_has ls 9 [(8, .int z.1), (7, .int z.2), (6, .int a132), (4, .int lx43), (3, .int 439), (0, .ref (q 153)), (1, .int x2), (2, .int x3)] ∧ (∃ n, (7 - z.1.toInt).toNat < n ∧ F_TR_writeOut_L67 (F_TR_writeOut_L2 x2 x3 t0_0 t0_1 t0_2 t0_3 t0_4 t0_5 t0_6 t0_7 t0_8 t0_9 t0_10 t0_11 t0_12 t0_13 t1_0 t2_0 fm39) (F_TR_writeOut_L29 (F_TR_writeOut_L2 x2 x3 t0_0 t0_1 t0_2 t0_3 t0_4 t0_5 t0_6 t0_7 t0_8 t0_9 t0_10 t0_11 t0_12 t0_13 t1_0 t2_0 fm39) x2 x3 t0_0 t0_1 t0_2 t0_3 t0_4 t0_5 t0_6 t0_7 t0_8 t0_9 t0_10 t0_11 t0_12 t0_13 t1_0 t2_0 lx26 lx27 fm55) x2 x3 t0_0 t0_1 t0_2 t0_3 t0_4 t0_5 t0_6 t0_7 t0_8 t0_9 t0_10 t0_11 t0_12 t0_13 t1_0 t2_0 lx26 lx27 lx43 lx44 a132 n z.1 z.2 = (F_TR_writeOut x2 x3 t0_0 t0_1 t0_2 t0_3 t0_4 t0_5 t0_6 t0_7 t0_8 t0_9 t0_10 t0_11 t0_12 t0_13 t1_0 t2_0) ∧ True ∧ S_TR_writeOut_L67 (S_TR_writeOut_L2 x2 x3 t0_0 t0_1 t0_2 t0_3 t0_4 t0_5 t0_6 t0_7 t0_8 t0_9 t0_10 t0_11 t0_12 t0_13 t1_0 t2_0 fm39) (S_TR_writeOut_L29 (S_TR_writeOut_L2 x2 x3 t0_0 t0_1 t0_2 t0_3 t0_4 t0_5 t0_6 t0_7 t0_8 t0_9 t0_10 t0_11 t0_12 t0_13 t1_0 t2_0 fm39) x2 x3 t0_0 t0_1 t0_2 t0_3 t0_4 t0_5 t0_6 t0_7 t0_8 t0_9 t0_10 t0_11 t0_12 t0_13 t1_0 t2_0 lx26 lx27 fm55) x2 x3 t0_0 t0_1 t0_2 t0_3 t0_4 t0_5 t0_6 t0_7 t0_8 t0_9 t0_10 t0_11 t0_12 t0_13 t1_0 t2_0 lx26 lx27 lx43 lx44 a132 n z.1 z.2)) (fun z => (7 - z.1.toInt).toNat) ?_ ((a135 : Int32), (1 : Int32)) _ _ _ w47 ⟨(show q_F (a135.toInt ≤ a135.toInt) from (show a135.toInt ≤ a135.toInt from by omega)), V, q_lw hl (q_lw1 0 rfl (q_lw1 1 rfl (q_lw1 2 rfl (q_lw1 4 rfl (q_lw1 5 rfl (q_lw1 6 rfl (q_lw1 7 rfl (q_lw1 8 rfl q_lw0)))))))), ⟨((7 - a135.toInt).toNat + 1), Nat.lt_succ_self _, (show F_TR_writeOut_L67 (F_TR_writeOut_L2 x2 x3 t0_0 t0_1 t0_2 t0_3 t0_4 t0_5 t0_6 t0_7 t0_8 t0_9 t0_10 t0_11 t0_12 t0_13 t1_0 t2_0 fm39) (F_TR_writeOut_L29 (F_TR_writeOut_L2 x2 x3 t0_0 t0_1 t0_2 t0_3 t0_4 t0_5 t0_6 t0_7 t0_8 t0_9 t0_10 t0_11 t0_12 t0_13 t1_0 t2_0 fm39) x2 x3 t0_0 t0_1 t0_2 t0_3 t0_4 t0_5 t0_6 t0_7 t0_8 t0_9 t0_10 t0_11 t0_12 t0_13 t1_0 t2_0 lx26 lx27 fm55) x2 x3 t0_0 t0_1 t0_2 t0_3 t0_4 t0_5 t0_6 t0_7 t0_8 t0_9 t0_10 t0_11 t0_12 t0_13 t1_0 t2_0 lx26 lx27 lx43 lx44 a132 ((7 - a135.toInt).toNat + 1) a135 1 = (F_TR_writeOut x2 x3 t0_0 t0_1 t0_2 t0_3 t0_4 t0_5 t0_6 t0_7 t0_8 t0_9 t0_10 t0_11 t0_12 t0_13 t1_0 t2_0) from Eq.trans (by rw [← e136, ← e133, ← e131, ← e129, ← e127, ← e125, F_TR_writeOut_L29.eq_2, if_neg c56]) hR51), (show True ∧ S_TR_writeOut_L67 (S_TR_writeOut_L2 x2 x3 t0_0 t0_1 t0_2 t0_3 t0_4 t0_5 t0_6 t0_7 t0_8 t0_9 t0_10 t0_11 t0_12 t0_13 t1_0 t2_0 fm39) (S_TR_writeOut_L29 (S_TR_writeOut_L2 x2 x3 t0_0 t0_1 t0_2 t0_3 t0_4 t0_5 t0_6 t0_7 t0_8 t0_9 t0_10 t0_11 t0_12 t0_13 t1_0 t2_0 fm39) x2 x3 t0_0 t0_1 t0_2 t0_3 t0_4 t0_5 t0_6 t0_7 t0_8 t0_9 t0_10 t0_11 t0_12 t0_13 t1_0 t2_0 lx26 lx27 fm55) x2 x3 t0_0 t0_1 t0_2 t0_3 t0_4 t0_5 t0_6 t0_7 t0_8 t0_9 t0_10 t0_11 t0_12 t0_13 t1_0 t2_0 lx26 lx27 lx43 lx44 a132 ((7 - a135.toInt).toNat + 1) a135 1 from (by rw [← e136, ← e133, ← e131, ← e129, ← e127, ← e125]; have h := hS52; rw [S_TR_writeOut_L29.eq_2] at h; rw [if_neg c56] at h; with_reducible exact h))⟩⟩
      rintro ⟨lx141, lx142⟩ H locs ls _ ⟨i143, V, hl, ⟨fu147, hf148, hR145, hS146⟩⟩ ih144
      obtain ⟨fm149, rfl⟩ : ∃ m, fu147 = m + 1 := ⟨fu147 - 1, by omega⟩
      replace i143 : q_F (a135.toInt ≤ lx141.toInt) := i143
      replace hl : lv_has ls 9 [(8, .int lx141), (7, .int lx142), (6, .int a132), (4, .int lx43), (3, .int 439), (0, .ref (q 153)), (1, .int x2), (2, .int x3)] := hl
      refine lv_iload hx hb d_18_22_67 (lv_at hl 0 rfl) ?_
      refine lv_bipush (v := 7) hx hb d_18_22_69 (by decide) ?_
      refine lv_icmp_ge (tgt := 87) hx hb d_18_22_71 (by decide) (fun c150 => ?_) (fun c150 => ?_)
      ·
        refine lv_aload_n hx hb d_18_22_87 rfl (lv_at hl 5 rfl) ?_
        refine q_get (ci := 16) (j := 10) (v := .ref (q 156)) C0 V i_TR rfl rfl hO48 (by decide) w_2150 rfl d_18_22_88 ?_
        refine lv_iload hx hb d_18_22_91 (lv_at hl 2 rfl) ?_
        refine lv_aload_n hx hb d_18_22_93 rfl (lv_at hl 5 rfl) ?_
        refine q_get (ci := 16) (j := 10) (v := .ref (q 156)) C0 V i_TR rfl rfl hO48 (by decide) w_2150 rfl d_18_22_94 ?_
        refine lv_iload hx hb d_18_22_97 (lv_at hl 2 rfl) ?_
        have ob152 : q_F (0 ≤ a132.toInt) := (by have h := hS146; rw [S_TR_writeOut_L67.eq_2] at h; rw [if_pos c150] at h; exact h.2.1)
        have ob153 : q_F (a132.toInt ≤ 799) := (by have h := hS146; rw [S_TR_writeOut_L67.eq_2] at h; rw [if_pos c150] at h; replace h := q_s2 h; exact h.2.1)
        refine q_iald C0 V hO50 (q_ix (x := a132.toInt) rfl (by first | with_reducible exact q_fe ob152 | (have t1 : 0 ≤ a132.toInt := ob152; omega)) (by have t1 : 0 ≤ a132.toInt := ob152; have t2 : a132.toInt ≤ 799 := ob153; have e9 : (((800 : Int32).toNatClampNeg : Nat) : Int) = 800 := (by decide); omega)) d_18_22_99 ?_
        obtain ⟨a154, e155⟩ := q_nm (lx44 a132.toNatClampNeg : Int32)
        refine q_ti (v := a154) e155 ?_
        refine lv_aload_n hx hb d_18_22_100 rfl (lv_at hl 5 rfl) ?_
        refine q_get (ci := 16) (j := 6) (v := .ref (q 155)) C0 V i_TR rfl rfl hO48 (by decide) w_2146 rfl d_18_22_101 ?_
        refine lv_iload hx hb d_18_22_104 (lv_at hl 3 rfl) ?_
        have ob156 : q_F (0 ≤ lx43.toInt) := (by have h := hS146; rw [S_TR_writeOut_L67.eq_2] at h; rw [if_pos c150] at h; replace h := q_s2 h; replace h := q_s2 h; exact h.2.1)
        have ob157 : q_F (lx43.toInt ≤ 4099) := (by have h := hS146; rw [S_TR_writeOut_L67.eq_2] at h; rw [if_pos c150] at h; replace h := q_s2 h; replace h := q_s2 h; replace h := q_s2 h; exact h.2.1)
        refine q_iald C0 V hO49 (q_ix (x := lx43.toInt) rfl (by first | with_reducible exact q_fe ob156 | (have t1 : 0 ≤ lx43.toInt := ob156; omega)) (by have t1 : 0 ≤ lx43.toInt := ob156; have t2 : lx43.toInt ≤ 4099 := ob157; have e9 : (((4100 : Int32).toNatClampNeg : Nat) : Int) = 4100 := (by decide); omega)) d_18_22_106 ?_
        obtain ⟨a158, e159⟩ := q_nm (t1_0 lx43.toNatClampNeg : Int32)
        refine q_ti (v := a158) e159 ?_
        refine lv_iload hx hb d_18_22_107 (lv_at hl 1 rfl) ?_
        refine lv_imul hx hb d_18_22_109 ?_
        obtain ⟨a160, e161⟩ := q_nm (a158 * lx142 : Int32)
        refine q_ti (v := a160) e161 ?_
        refine lv_iadd hx hb d_18_22_110 ?_
        obtain ⟨a162, e163⟩ := q_nm (a154 + a160 : Int32)
        refine q_ti (v := a162) e163 ?_
        refine q_iast C0 V hO50 (q_ix (x := a132.toInt) rfl (by first | with_reducible exact q_fe ob152 | (have t1 : 0 ≤ a132.toInt := ob152; omega)) (by have t1 : 0 ≤ a132.toInt := ob152; have t2 : a132.toInt ≤ 799 := ob153; have e9 : (((800 : Int32).toNatClampNeg : Nat) : Int) = 800 := (by decide); omega)) d_18_22_111 (fun H locs w164 hu165 hO50 V => ?_)
        replace hI := n_ai' hI (n_r156 g q).1 hu165 hO50 (q_updB (fun _ => s_bnd) s_bnd)
        replace hO48 := (hu165 _ (by decide)).trans hO48
        replace hO49 := (hu165 _ (by decide)).trans hO49
        replace hF := q_us hF hu165 (by simp)
        obtain ⟨f166, e167⟩ := q_nm (upd lx44 a132.toNatClampNeg a162 : (Nat → Int32))
        rw [e167] at hO50
        obtain ⟨a168, e169⟩ := q_nm (lx43 + 1 : Int32)
        have b170 : q_F (a168.toInt = lx43.toInt + 1) := (by rw [← e169]; exact q_addI (y := 1) rfl (by decide) (by have t1 : 0 ≤ lx43.toInt := ob156; have t2 : lx43.toInt ≤ 4099 := ob157; omega) (by have t1 : 0 ≤ lx43.toInt := ob156; have t2 : lx43.toInt ≤ 4099 := ob157; omega))
        refine lv_iinc (v := a168) (lv' := [(4, .int a168), (8, .int lx141), (7, .int lx142), (6, .int a132), (3, .int 439), (0, .ref (q 153)), (1, .int x2), (2, .int x3)]) hx hb d_18_22_112 hl (k := 3) rfl (e169) (by decide) rfl (fun ls hl => ?_)
        refine lv_goto (tgt := 29) hx hb d_18_22_115 (by decide) ?_
        exact ih46 ((a168 : Int32), (f166 : (Nat → Int32))) _ _ _ _ (show (4100 - a168.toInt).toNat < (4100 - lx43.toInt).toNat from by have t1 : a168.toInt = lx43.toInt + 1 := b170; have t2 : lx43.toInt ≤ 4099 := ob157; omega) ⟨(show q_F (x2.toInt ≤ a168.toInt) from (show x2.toInt ≤ a168.toInt from by have t1 : x2.toInt ≤ lx43.toInt := i45; have t2 : a168.toInt = lx43.toInt + 1 := b170; omega)), V, q_lw hl (q_lw1 0 rfl (q_lw1 4 rfl (q_lw1 5 rfl (q_lw1 6 rfl (q_lw1 7 rfl q_lw0))))), hI, hF, hO48, hO49, hO50, ⟨fm55, Nat.lt_of_lt_of_le (show (4100 - a168.toInt).toNat < (4100 - lx43.toInt).toNat from by have t1 : a168.toInt = lx43.toInt + 1 := b170; have t2 : lx43.toInt ≤ 4099 := ob157; omega) (Nat.le_of_lt_succ hf54), (show F_TR_writeOut_L29 (F_TR_writeOut_L2 x2 x3 t0_0 t0_1 t0_2 t0_3 t0_4 t0_5 t0_6 t0_7 t0_8 t0_9 t0_10 t0_11 t0_12 t0_13 t1_0 t2_0 fm39) x2 x3 t0_0 t0_1 t0_2 t0_3 t0_4 t0_5 t0_6 t0_7 t0_8 t0_9 t0_10 t0_11 t0_12 t0_13 t1_0 t2_0 lx26 lx27 fm55 a168 f166 = (F_TR_writeOut x2 x3 t0_0 t0_1 t0_2 t0_3 t0_4 t0_5 t0_6 t0_7 t0_8 t0_9 t0_10 t0_11 t0_12 t0_13 t1_0 t2_0) from Eq.trans (by rw [← e169, ← e167, ← e163, ← e161, ← e159, ← e155, F_TR_writeOut_L67.eq_2, if_pos c150]) hR145), (show True ∧ S_TR_writeOut_L29 (S_TR_writeOut_L2 x2 x3 t0_0 t0_1 t0_2 t0_3 t0_4 t0_5 t0_6 t0_7 t0_8 t0_9 t0_10 t0_11 t0_12 t0_13 t1_0 t2_0 fm39) x2 x3 t0_0 t0_1 t0_2 t0_3 t0_4 t0_5 t0_6 t0_7 t0_8 t0_9 t0_10 t0_11 t0_12 t0_13 t1_0 t2_0 lx26 lx27 fm55 a168 f166 from (by rw [← e169, ← e167, ← e163, ← e161, ← e159, ← e155]; have h := hS146; rw [S_TR_writeOut_L67.eq_2] at h; rw [if_pos c150] at h; replace h := q_s2 h; replace h := q_s2 h; replace h := q_s2 h; replace h := q_s2 h; with_reducible exact h))⟩⟩
      ·
        have b171 : q_F (lx141.toInt < 7) := (q_nleI c150)
        refine lv_iload hx hb d_18_22_74 (lv_at hl 1 rfl) ?_
        refine lv_bipush (v := 10) hx hb d_18_22_76 (by decide) ?_
        refine lv_imul hx hb d_18_22_78 ?_
        obtain ⟨a172, e173⟩ := q_nm (lx142 * 10 : Int32)
        refine q_ti (v := a172) e173 ?_
        refine lv_istore (lv' := [(7, .int a172), (8, .int lx141), (6, .int a132), (4, .int lx43), (3, .int 439), (0, .ref (q 153)), (1, .int x2), (2, .int x3)]) hx hb d_18_22_79 hl (by decide) rfl (fun ls hl => ?_)
        obtain ⟨a174, e175⟩ := q_nm (lx141 + 1 : Int32)
        have b176 : q_F (a174.toInt = lx141.toInt + 1) := (by rw [← e175]; exact q_addI (y := 1) rfl (by decide) (by have t1 : a135.toInt ≤ lx141.toInt := i143; have _ := q_lo32 (x := a135); have _ := q_hi32 (x := a135); have t2 : lx141.toInt < 7 := b171; omega) (by have t1 : a135.toInt ≤ lx141.toInt := i143; have _ := q_lo32 (x := a135); have _ := q_hi32 (x := a135); have t2 : lx141.toInt < 7 := b171; omega))
        refine lv_iinc (v := a174) (lv' := [(8, .int a174), (7, .int a172), (6, .int a132), (4, .int lx43), (3, .int 439), (0, .ref (q 153)), (1, .int x2), (2, .int x3)]) hx hb d_18_22_81 hl (k := 1) rfl (e175) (by decide) rfl (fun ls hl => ?_)
        refine lv_goto (tgt := 67) hx hb d_18_22_84 (by decide) ?_
        exact ih144 ((a174 : Int32), (a172 : Int32)) _ _ _ w47 (show (7 - a174.toInt).toNat < (7 - lx141.toInt).toNat from by have t1 : a174.toInt = lx141.toInt + 1 := b176; have t2 : lx141.toInt < 7 := b171; omega) ⟨(show q_F (a135.toInt ≤ a174.toInt) from (show a135.toInt ≤ a174.toInt from by have t1 : a135.toInt ≤ lx141.toInt := i143; have t2 : a174.toInt = lx141.toInt + 1 := b176; omega)), V, q_lw hl (q_lw1 0 rfl (q_lw1 1 rfl (q_lw1 2 rfl (q_lw1 3 rfl (q_lw1 4 rfl (q_lw1 5 rfl (q_lw1 6 rfl (q_lw1 7 rfl q_lw0)))))))), ⟨fm149, Nat.lt_of_lt_of_le (show (7 - a174.toInt).toNat < (7 - lx141.toInt).toNat from by have t1 : a174.toInt = lx141.toInt + 1 := b176; have t2 : lx141.toInt < 7 := b171; omega) (Nat.le_of_lt_succ hf148), (show F_TR_writeOut_L67 (F_TR_writeOut_L2 x2 x3 t0_0 t0_1 t0_2 t0_3 t0_4 t0_5 t0_6 t0_7 t0_8 t0_9 t0_10 t0_11 t0_12 t0_13 t1_0 t2_0 fm39) (F_TR_writeOut_L29 (F_TR_writeOut_L2 x2 x3 t0_0 t0_1 t0_2 t0_3 t0_4 t0_5 t0_6 t0_7 t0_8 t0_9 t0_10 t0_11 t0_12 t0_13 t1_0 t2_0 fm39) x2 x3 t0_0 t0_1 t0_2 t0_3 t0_4 t0_5 t0_6 t0_7 t0_8 t0_9 t0_10 t0_11 t0_12 t0_13 t1_0 t2_0 lx26 lx27 fm55) x2 x3 t0_0 t0_1 t0_2 t0_3 t0_4 t0_5 t0_6 t0_7 t0_8 t0_9 t0_10 t0_11 t0_12 t0_13 t1_0 t2_0 lx26 lx27 lx43 lx44 a132 fm149 a174 a172 = (F_TR_writeOut x2 x3 t0_0 t0_1 t0_2 t0_3 t0_4 t0_5 t0_6 t0_7 t0_8 t0_9 t0_10 t0_11 t0_12 t0_13 t1_0 t2_0) from Eq.trans (by rw [← e175, ← e173, F_TR_writeOut_L67.eq_2, if_neg c150]) hR145), (show True ∧ S_TR_writeOut_L67 (S_TR_writeOut_L2 x2 x3 t0_0 t0_1 t0_2 t0_3 t0_4 t0_5 t0_6 t0_7 t0_8 t0_9 t0_10 t0_11 t0_12 t0_13 t1_0 t2_0 fm39) (S_TR_writeOut_L29 (S_TR_writeOut_L2 x2 x3 t0_0 t0_1 t0_2 t0_3 t0_4 t0_5 t0_6 t0_7 t0_8 t0_9 t0_10 t0_11 t0_12 t0_13 t1_0 t2_0 fm39) x2 x3 t0_0 t0_1 t0_2 t0_3 t0_4 t0_5 t0_6 t0_7 t0_8 t0_9 t0_10 t0_11 t0_12 t0_13 t1_0 t2_0 lx26 lx27 fm55) x2 x3 t0_0 t0_1 t0_2 t0_3 t0_4 t0_5 t0_6 t0_7 t0_8 t0_9 t0_10 t0_11 t0_12 t0_13 t1_0 t2_0 lx26 lx27 lx43 lx44 a132 fm149 a174 a172 from (by rw [← e175, ← e173]; have h := hS146; rw [S_TR_writeOut_L67.eq_2] at h; rw [if_neg c150] at h; with_reducible exact h))⟩⟩
  ·
    have b177 : q_F (lx26.toInt < 800) := (q_nleI c40)
    refine lv_aload_n hx hb d_18_22_9 rfl (lv_at hl 1 rfl) ?_
    refine q_get (ci := 16) (j := 10) (v := .ref (q 156)) C0 V i_TR rfl rfl hO32 (by decide) w_2150 rfl d_18_22_10 ?_
    refine lv_iload_n hx hb d_18_22_13 rfl (lv_at hl 0 rfl) ?_
    refine lv_iconst (v := 0) hx hb d_18_22_14 (by decide) ?_
    refine q_iast C0 V hO34 (q_ix (x := lx26.toInt) rfl (by first | with_reducible exact q_fe i28 | (have t1 : 0 ≤ lx26.toInt := i28; omega)) (by have t1 : 0 ≤ lx26.toInt := i28; have t2 : lx26.toInt < 800 := b177; have e9 : (((800 : Int32).toNatClampNeg : Nat) : Int) = 800 := (by decide); omega)) d_18_22_15 (fun H locs w178 hu179 hO34 V => ?_)
    replace hI := n_ai' hI (n_r156 g q).1 hu179 hO34 (q_updB (fun _ => s_bnd) s_bnd)
    replace hO32 := (hu179 _ (by decide)).trans hO32
    replace hO33 := (hu179 _ (by decide)).trans hO33
    replace hF := q_us hF hu179 (by simp)
    obtain ⟨f180, e181⟩ := q_nm (upd lx27 lx26.toNatClampNeg 0 : (Nat → Int32))
    rw [e181] at hO34
    obtain ⟨a182, e183⟩ := q_nm (lx26 + 1 : Int32)
    have b184 : q_F (a182.toInt = lx26.toInt + 1) := (by rw [← e183]; exact q_addI (y := 1) rfl (by decide) (by have t1 : 0 ≤ lx26.toInt := i28; have t2 : lx26.toInt ≤ 800 := i29; omega) (by have t1 : 0 ≤ lx26.toInt := i28; have t2 : lx26.toInt ≤ 800 := i29; omega))
    refine lv_iinc (v := a182) (lv' := [(3, .int a182), (0, .ref (q 153)), (1, .int x2), (2, .int x3)]) hx hb d_18_22_16 hl (k := 0) rfl (e183) (by decide) rfl (fun ls hl => ?_)
    refine lv_goto (tgt := 2) hx hb d_18_22_19 (by decide) ?_
    exact ih30 ((a182 : Int32), (f180 : (Nat → Int32))) _ _ _ _ (show (800 - a182.toInt).toNat < (800 - lx26.toInt).toNat from by have t1 : a182.toInt = lx26.toInt + 1 := b184; have t2 : lx26.toInt ≤ 800 := i29; have t3 : lx26.toInt < 800 := b177; omega) ⟨(show q_F (0 ≤ a182.toInt) from (show 0 ≤ a182.toInt from by have t1 : 0 ≤ lx26.toInt := i28; have t2 : a182.toInt = lx26.toInt + 1 := b184; omega)), (show q_F (a182.toInt ≤ 800) from (show a182.toInt ≤ 800 from by have t1 : lx26.toInt < 800 := b177; have t2 : a182.toInt = lx26.toInt + 1 := b184; omega)), V, q_lw hl (q_lw1 0 rfl (q_lw1 1 rfl (q_lw1 2 rfl (q_lw1 3 rfl q_lw0)))), hI, hF, hO32, hO33, hO34, ⟨fm39, Nat.lt_of_lt_of_le (show (800 - a182.toInt).toNat < (800 - lx26.toInt).toNat from by have t1 : a182.toInt = lx26.toInt + 1 := b184; have t2 : lx26.toInt ≤ 800 := i29; have t3 : lx26.toInt < 800 := b177; omega) (Nat.le_of_lt_succ hf38), (show F_TR_writeOut_L2 x2 x3 t0_0 t0_1 t0_2 t0_3 t0_4 t0_5 t0_6 t0_7 t0_8 t0_9 t0_10 t0_11 t0_12 t0_13 t1_0 t2_0 fm39 a182 f180 = (F_TR_writeOut x2 x3 t0_0 t0_1 t0_2 t0_3 t0_4 t0_5 t0_6 t0_7 t0_8 t0_9 t0_10 t0_11 t0_12 t0_13 t1_0 t2_0) from Eq.trans (by rw [← e183, ← e181, F_TR_writeOut_L2.eq_2, if_neg c40]) hR35), (show True ∧ S_TR_writeOut_L2 x2 x3 t0_0 t0_1 t0_2 t0_3 t0_4 t0_5 t0_6 t0_7 t0_8 t0_9 t0_10 t0_11 t0_12 t0_13 t1_0 t2_0 fm39 a182 f180 from (by rw [← e183, ← e181]; have h := hS36; rw [S_TR_writeOut_L2.eq_2] at h; rw [if_neg c40] at h; with_reducible exact h))⟩⟩
theorem d_18_21_0 : decode prog_18_method_21_code 0 = .ok (.aload_n 0, 1) := by decide +kernel
theorem d_18_21_1 : decode prog_18_method_21_code 1 = .ok (.getfield 98, 3) := by decide +kernel
theorem d_18_21_4 : decode prog_18_method_21_code 4 = .ok (.bipush 53, 2) := by decide +kernel
theorem d_18_21_16 : decode prog_18_method_21_code 16 = .ok (.lstore_n 1, 1) := by decide +kernel
theorem d_18_21_17 : decode prog_18_method_21_code 17 = .ok (.lload_n 1, 1) := by decide +kernel
theorem d_18_21_18 : decode prog_18_method_21_code 18 = .ok (.lconst 0, 1) := by decide +kernel
theorem d_18_21_19 : decode prog_18_method_21_code 19 = .ok (.lcmp, 1) := by decide +kernel
theorem d_18_21_20 : decode prog_18_method_21_code 20 = .ok (.ifCond .le 7, 3) := by decide +kernel
theorem d_18_21_27 : decode prog_18_method_21_code 27 = .ok (.aload_n 0, 1) := by decide +kernel
theorem d_18_21_28 : decode prog_18_method_21_code 28 = .ok (.getfield 98, 3) := by decide +kernel
theorem d_18_21_31 : decode prog_18_method_21_code 31 = .ok (.bipush 54, 2) := by decide +kernel
theorem d_18_21_33 : decode prog_18_method_21_code 33 = .ok (.if_icmp .ge 18, 3) := by decide +kernel
theorem d_18_21_51 : decode prog_18_method_21_code 51 = .ok (.lconst 0, 1) := by decide +kernel
theorem d_18_21_52 : decode prog_18_method_21_code 52 = .ok (.aload_n 0, 1) := by decide +kernel
theorem d_18_21_53 : decode prog_18_method_21_code 53 = .ok (.getfield 16, 3) := by decide +kernel
theorem d_18_21_56 : decode prog_18_method_21_code 56 = .ok (.bipush 54, 2) := by decide +kernel
theorem d_18_21_58 : decode prog_18_method_21_code 58 = .ok (.iaload, 1) := by decide +kernel
theorem d_18_21_59 : decode prog_18_method_21_code 59 = .ok (.i2l, 1) := by decide +kernel
theorem d_18_21_60 : decode prog_18_method_21_code 60 = .ok (.ladd, 1) := by decide +kernel
theorem d_18_21_61 : decode prog_18_method_21_code 61 = .ok (.lreturn, 1) := by decide +kernel
theorem d_18_21_36 : decode prog_18_method_21_code 36 = .ok (.ldc2_w 105, 3) := by decide +kernel
set_option maxRecDepth 100000 in
theorem w_2491 : (Cond.constantLong "NumberHouseModel$TextRows" (105 : Nat) (100000000 : Int64)) ∈ q_tbl := q_of11 91 rfl (by decide +kernel)
theorem d_18_21_39 : decode prog_18_method_21_code 39 = .ok (.aload_n 0, 1) := by decide +kernel
theorem d_18_21_40 : decode prog_18_method_21_code 40 = .ok (.getfield 16, 3) := by decide +kernel
theorem d_18_21_43 : decode prog_18_method_21_code 43 = .ok (.bipush 53, 2) := by decide +kernel
theorem d_18_21_45 : decode prog_18_method_21_code 45 = .ok (.iaload, 1) := by decide +kernel
theorem d_18_21_46 : decode prog_18_method_21_code 46 = .ok (.i2l, 1) := by decide +kernel
theorem d_18_21_47 : decode prog_18_method_21_code 47 = .ok (.lmul, 1) := by decide +kernel
theorem d_18_21_48 : decode prog_18_method_21_code 48 = .ok (.goto 4, 3) := by decide +kernel
theorem d_18_21_23 : decode prog_18_method_21_code 23 = .ok (.lload_n 1, 1) := by decide +kernel
theorem d_18_21_24 : decode prog_18_method_21_code 24 = .ok (.goto 37, 3) := by decide +kernel
theorem d_18_21_6 : decode prog_18_method_21_code 6 = .ok (.if_icmp .ge 9, 3) := by decide +kernel
theorem d_18_21_15 : decode prog_18_method_21_code 15 = .ok (.lconst 0, 1) := by decide +kernel
theorem d_18_21_9 : decode prog_18_method_21_code 9 = .ok (.ldc2_w 103, 3) := by decide +kernel
set_option maxRecDepth 100000 in
theorem w_2490 : (Cond.constantLong "NumberHouseModel$TextRows" (103 : Nat) (10000000000000000 : Int64)) ∈ q_tbl := q_of11 90 rfl (by decide +kernel)
theorem d_18_21_12 : decode prog_18_method_21_code 12 = .ok (.goto 4, 3) := by decide +kernel
def y_TR_wholePart : MethodName := ⟨"NumberHouseModel$TextRows", "wholePart", "()J"⟩
def F_TR_wholePart_J16 (t0_0 : Int32) (t0_1 : Int32) (t0_2 : Int32) (t0_3 : Int32) (t0_4 : Int32) (t0_5 : Int32) (t0_6 : Int32) (t0_7 : Int64) (t0_8 : Int32) (t0_9 : Int32) (t0_10 : Int64) (t0_11 : Int64) (t0_12 : Int32) (t0_13 : Int32) (t1_0 : (Nat → Int32)) (lx22 : Int64) : Int64 := if (lg_cmp lx22 0 : Int32) ≤ (0 : Int32) then (if (54 : Int32) ≤ t0_8 then ((0 + ((t1_0 (54 : Int32).toNatClampNeg : Int32).toInt64 : Int64) : Int64)) else (((100000000 * ((t1_0 (53 : Int32).toNatClampNeg : Int32).toInt64 : Int64) : Int64) + ((t1_0 (54 : Int32).toNatClampNeg : Int32).toInt64 : Int64) : Int64))) else (lx22)
def F_TR_wholePart (t0_0 : Int32) (t0_1 : Int32) (t0_2 : Int32) (t0_3 : Int32) (t0_4 : Int32) (t0_5 : Int32) (t0_6 : Int32) (t0_7 : Int64) (t0_8 : Int32) (t0_9 : Int32) (t0_10 : Int64) (t0_11 : Int64) (t0_12 : Int32) (t0_13 : Int32) (t1_0 : (Nat → Int32)) : Int64 := if (53 : Int32) ≤ t0_8 then (F_TR_wholePart_J16 t0_0 t0_1 t0_2 t0_3 t0_4 t0_5 t0_6 t0_7 t0_8 t0_9 t0_10 t0_11 t0_12 t0_13 t1_0 0) else (F_TR_wholePart_J16 t0_0 t0_1 t0_2 t0_3 t0_4 t0_5 t0_6 t0_7 t0_8 t0_9 t0_10 t0_11 t0_12 t0_13 t1_0 10000000000000000)
set_option maxRecDepth 100000 in
set_option maxHeartbeats 4000000 in
theorem X_TR_wholePart (l : Launch) (D : va_G) (g : Nat → ClassId) (q : Nat → Nat) (ws : va_W) (hI : q_I (msh g q) q ws) (t0_0 : Int32) (t0_1 : Int32) (t0_2 : Int32) (t0_3 : Int32) (t0_4 : Int32) (t0_5 : Int32) (t0_6 : Int32) (t0_7 : Int64) (t0_8 : Int32) (t0_9 : Int32) (t0_10 : Int64) (t0_11 : Int64) (t0_12 : Int32) (t0_13 : Int32) (hT0 : ws[153]? = (some (q 153, .inr (16, [.int t0_0, .ref (q 154), .int t0_1, .int t0_2, .int t0_3, .int t0_4, .ref (q 155), .int t0_5, .int t0_6, .long t0_7, .ref (q 156), .int t0_8, .int t0_9, .long t0_10, .long t0_11, .int t0_12, .int t0_13])) : Option (Nat × va_E))) (t1_0 : (Nat → Int32)) (hT1 : ws[156]? = (some (q 156, .inl (g 0, (800 : Int32).toNatClampNeg, .inl t1_0)) : Option (Nat × va_E))) : q_mL l y_TR_wholePart prog_18_method_21_code 3 1 0 0 D g [.ref (q 153)] ws (fun r u => ws = u ∧ r = (F_TR_wholePart t0_0 t0_1 t0_2 t0_3 t0_4 t0_5 t0_6 t0_7 t0_8 t0_9 t0_10 t0_11 t0_12 t0_13 t1_0)) := by
  intro sz
  refine q_into (by decide) (Nat.le_of_ble_eq_true rfl) ?_
  intro p e s m below meth c ls hsz C0 V hl
  have hx := C0.1
  have hb := C0.2.1
  have hZ9 := (n_w153 hI hT0).2
  obtain ⟨-, btt0_13⟩ := hZ9
  clear btt0_13
  have hl : lv_has ls 3 [(0, .ref (q 153))] := hl
  refine lv_aload_n hx hb d_18_21_0 rfl (lv_at hl 0 rfl) ?_
  refine q_get (ci := 16) (j := 11) (v := .int t0_8) C0 V i_TR rfl rfl hT0 (by decide) w_2151 rfl d_18_21_1 ?_
  refine lv_bipush (v := 53) hx hb d_18_21_4 (by decide) ?_
  refine q_join (X := Int64) (fun z H locs ls _ => q_F (0 ≤ z.toInt) ∧ q_Wd D g (va_A ws sz) s ws H locs ∧ lv_has ls 3 [(0, .ref (q 153))] ∧ F_TR_wholePart_J16 t0_0 t0_1 t0_2 t0_3 t0_4 t0_5 t0_6 t0_7 t0_8 t0_9 t0_10 t0_11 t0_12 t0_13 t1_0 z = (F_TR_wholePart t0_0 t0_1 t0_2 t0_3 t0_4 t0_5 t0_6 t0_7 t0_8 t0_9 t0_10 t0_11 t0_12 t0_13 t1_0)) (fun z => [.long z]) 16 0 0 ?_ ?_
  ·
    rintro lx22 H locs ls _ ⟨i26, V, hl, hR27⟩
    clear i26
    replace hl : lv_has ls 3 [(0, .ref (q 153))] := hl
    refine lv_lstore_n (lv' := [(1, .long lx22), (0, .ref (q 153))]) hx hb d_18_21_16 rfl hl (by decide) rfl (fun ls hl => ?_)
    refine lv_lload_n hx hb d_18_21_17 rfl (lv_at hl 0 rfl) ?_
    refine lv_lconst (v := 0) hx hb d_18_21_18 (by decide) ?_
    refine W.lcmp hx hb d_18_21_19 ?_
    obtain ⟨a32, e33⟩ := q_nm (lg_cmp lx22 0 : Int32)
    refine q_ti (v := a32) e33 ?_
    refine lv_if_le (tgt := 27) hx hb d_18_21_20 (by decide) (fun c35 => ?_) (fun c35 => ?_)
    ·
      refine lv_aload_n hx hb d_18_21_27 rfl (lv_at hl 1 rfl) ?_
      refine q_get (ci := 16) (j := 11) (v := .int t0_8) C0 V i_TR rfl rfl hT0 (by decide) w_2151 rfl d_18_21_28 ?_
      refine lv_bipush (v := 54) hx hb d_18_21_31 (by decide) ?_
      refine lv_icmp_ge (tgt := 51) hx hb d_18_21_33 (by decide) (fun c37 => ?_) (fun c37 => ?_)
      ·
        refine lv_lconst (v := 0) hx hb d_18_21_51 (by decide) ?_
        refine lv_aload_n hx hb d_18_21_52 rfl (lv_at hl 1 rfl) ?_
        refine q_get (ci := 16) (j := 10) (v := .ref (q 156)) C0 V i_TR rfl rfl hT0 (by decide) w_2150 rfl d_18_21_53 ?_
        refine lv_bipush (v := 54) hx hb d_18_21_56 (by decide) ?_
        refine q_iald C0 V hT1 (q_ix (x := 54) (by decide) (by omega) (by have e9 : (((800 : Int32).toNatClampNeg : Nat) : Int) = 800 := (by decide); omega)) d_18_21_58 ?_
        obtain ⟨a39, e40⟩ := q_nm (t1_0 (54 : Int32).toNatClampNeg : Int32)
        refine q_ti (v := a39) e40 ?_
        refine lv_i2l hx hb d_18_21_59 rfl ?_
        obtain ⟨j41, e42⟩ := q_nm (a39.toInt64 : Int64)
        refine q_tl (v := j41) e42 ?_
        refine lv_ladd hx hb d_18_21_60 ?_
        obtain ⟨j44, e45⟩ := q_nm (0 + j41 : Int64)
        refine q_tl (v := j44) e45 ?_
        exact q_retl C0 V (⟨rfl, (show j44 = (F_TR_wholePart t0_0 t0_1 t0_2 t0_3 t0_4 t0_5 t0_6 t0_7 t0_8 t0_9 t0_10 t0_11 t0_12 t0_13 t1_0) from Eq.trans (by have c35x := c35; rw [← e33] at c35x; rw [← e45, ← e42, ← e40, F_TR_wholePart_J16.eq_1, if_pos c35x, if_pos c37]) hR27)⟩) d_18_21_61
      ·
        refine q_ldc2 C0 rfl w_2491 d_18_21_36 ?_
        refine lv_aload_n hx hb d_18_21_39 rfl (lv_at hl 1 rfl) ?_
        refine q_get (ci := 16) (j := 10) (v := .ref (q 156)) C0 V i_TR rfl rfl hT0 (by decide) w_2150 rfl d_18_21_40 ?_
        refine lv_bipush (v := 53) hx hb d_18_21_43 (by decide) ?_
        refine q_iald C0 V hT1 (q_ix (x := 53) (by decide) (by omega) (by have e9 : (((800 : Int32).toNatClampNeg : Nat) : Int) = 800 := (by decide); omega)) d_18_21_45 ?_
        obtain ⟨a48, e49⟩ := q_nm (t1_0 (53 : Int32).toNatClampNeg : Int32)
        refine q_ti (v := a48) e49 ?_
        refine lv_i2l hx hb d_18_21_46 rfl ?_
        obtain ⟨j50, e51⟩ := q_nm (a48.toInt64 : Int64)
        refine q_tl (v := j50) e51 ?_
        refine lv_lmul hx hb d_18_21_47 ?_
        obtain ⟨j53, e54⟩ := q_nm (100000000 * j50 : Int64)
        refine q_tl (v := j53) e54 ?_
        refine lv_goto (tgt := 52) hx hb d_18_21_48 (by decide) ?_
        refine lv_aload_n hx hb d_18_21_52 rfl (lv_at hl 1 rfl) ?_
        refine q_get (ci := 16) (j := 10) (v := .ref (q 156)) C0 V i_TR rfl rfl hT0 (by decide) w_2150 rfl d_18_21_53 ?_
        refine lv_bipush (v := 54) hx hb d_18_21_56 (by decide) ?_
        refine q_iald C0 V hT1 (q_ix (x := 54) (by decide) (by omega) (by have e9 : (((800 : Int32).toNatClampNeg : Nat) : Int) = 800 := (by decide); omega)) d_18_21_58 ?_
        obtain ⟨a56, e57⟩ := q_nm (t1_0 (54 : Int32).toNatClampNeg : Int32)
        refine q_ti (v := a56) e57 ?_
        refine lv_i2l hx hb d_18_21_59 rfl ?_
        obtain ⟨j58, e59⟩ := q_nm (a56.toInt64 : Int64)
        refine q_tl (v := j58) e59 ?_
        refine lv_ladd hx hb d_18_21_60 ?_
        obtain ⟨j61, e62⟩ := q_nm (j53 + j58 : Int64)
        refine q_tl (v := j61) e62 ?_
        exact q_retl C0 V (⟨rfl, (show j61 = (F_TR_wholePart t0_0 t0_1 t0_2 t0_3 t0_4 t0_5 t0_6 t0_7 t0_8 t0_9 t0_10 t0_11 t0_12 t0_13 t1_0) from Eq.trans (by have c35x := c35; rw [← e33] at c35x; rw [← e62, ← e59, ← e57, ← e54, ← e51, ← e49, F_TR_wholePart_J16.eq_1, if_pos c35x, if_neg c37]) hR27)⟩) d_18_21_61
    ·
      refine lv_lload_n hx hb d_18_21_23 rfl (lv_at hl 0 rfl) ?_
      refine lv_goto (tgt := 61) hx hb d_18_21_24 (by decide) ?_
      exact q_retl C0 V (⟨rfl, (show lx22 = (F_TR_wholePart t0_0 t0_1 t0_2 t0_3 t0_4 t0_5 t0_6 t0_7 t0_8 t0_9 t0_10 t0_11 t0_12 t0_13 t1_0) from Eq.trans (by have c35x := c35; rw [← e33] at c35x; rw [F_TR_wholePart_J16.eq_1, if_neg c35x]) hR27)⟩) d_18_21_61
  ·
    intro J25
    refine lv_icmp_ge (tgt := 15) hx hb d_18_21_6 (by decide) (fun c65 => ?_) (fun c65 => ?_)
    ·
      refine lv_lconst (v := 0) hx hb d_18_21_15 (by decide) ?_
      exact J25 ((0 : Int64)) _ _ _ ws ⟨(show q_F (0 ≤ 0) from (show 0 ≤ 0 from by omega)), V, q_lw hl (q_lw1 0 rfl q_lw0), (show F_TR_wholePart_J16 t0_0 t0_1 t0_2 t0_3 t0_4 t0_5 t0_6 t0_7 t0_8 t0_9 t0_10 t0_11 t0_12 t0_13 t1_0 0 = (F_TR_wholePart t0_0 t0_1 t0_2 t0_3 t0_4 t0_5 t0_6 t0_7 t0_8 t0_9 t0_10 t0_11 t0_12 t0_13 t1_0) from (by rw [F_TR_wholePart.eq_1, if_pos c65]))⟩
    ·
      refine q_ldc2 C0 rfl w_2490 d_18_21_9 ?_
      refine lv_goto (tgt := 16) hx hb d_18_21_12 (by decide) ?_
      exact J25 ((10000000000000000 : Int64)) _ _ _ ws ⟨(show q_F (0 ≤ 10000000000000000) from (show 0 ≤ 10000000000000000 from by omega)), V, q_lw hl (q_lw1 0 rfl q_lw0), (show F_TR_wholePart_J16 t0_0 t0_1 t0_2 t0_3 t0_4 t0_5 t0_6 t0_7 t0_8 t0_9 t0_10 t0_11 t0_12 t0_13 t1_0 10000000000000000 = (F_TR_wholePart t0_0 t0_1 t0_2 t0_3 t0_4 t0_5 t0_6 t0_7 t0_8 t0_9 t0_10 t0_11 t0_12 t0_13 t1_0) from (by rw [F_TR_wholePart.eq_1, if_neg c65]))⟩
theorem d_18_20_0 : decode prog_18_method_20_code 0 = .ok (.iconst 0, 1) := by decide +kernel
theorem d_18_20_1 : decode prog_18_method_20_code 1 = .ok (.istore_n 1, 1) := by decide +kernel
theorem d_18_20_2 : decode prog_18_method_20_code 2 = .ok (.aload_n 0, 1) := by decide +kernel
theorem d_18_20_3 : decode prog_18_method_20_code 3 = .ok (.getfield 98, 3) := by decide +kernel
theorem d_18_20_6 : decode prog_18_method_20_code 6 = .ok (.istore_n 2, 1) := by decide +kernel
theorem d_18_20_7 : decode prog_18_method_20_code 7 = .ok (.iload_n 2, 1) := by decide +kernel
theorem d_18_20_8 : decode prog_18_method_20_code 8 = .ok (.aload_n 0, 1) := by decide +kernel
theorem d_18_20_9 : decode prog_18_method_20_code 9 = .ok (.getfield 95, 3) := by decide +kernel
theorem d_18_20_12 : decode prog_18_method_20_code 12 = .ok (.if_icmp .gt 34, 3) := by decide +kernel
theorem d_18_20_46 : decode prog_18_method_20_code 46 = .ok (.iload_n 1, 1) := by decide +kernel
theorem d_18_20_71 : decode prog_18_method_20_code 71 = .ok (.aload_n 0, 1) := by decide +kernel
theorem d_18_20_72 : decode prog_18_method_20_code 72 = .ok (.getfield 98, 3) := by decide +kernel
theorem d_18_20_75 : decode prog_18_method_20_code 75 = .ok (.bipush 54, 2) := by decide +kernel
theorem d_18_20_77 : decode prog_18_method_20_code 77 = .ok (.if_icmp .ge 28, 3) := by decide +kernel
theorem d_18_20_105 : decode prog_18_method_20_code 105 = .ok (.return_, 1) := by decide +kernel
theorem d_18_20_80 : decode prog_18_method_20_code 80 = .ok (.aload_n 0, 1) := by decide +kernel
theorem d_18_20_81 : decode prog_18_method_20_code 81 = .ok (.getfield 16, 3) := by decide +kernel
theorem d_18_20_84 : decode prog_18_method_20_code 84 = .ok (.aload_n 0, 1) := by decide +kernel
theorem d_18_20_85 : decode prog_18_method_20_code 85 = .ok (.getfield 98, 3) := by decide +kernel
theorem d_18_20_88 : decode prog_18_method_20_code 88 = .ok (.iaload, 1) := by decide +kernel
theorem d_18_20_89 : decode prog_18_method_20_code 89 = .ok (.ifCond .ne 16, 3) := by decide +kernel
theorem d_18_20_92 : decode prog_18_method_20_code 92 = .ok (.aload_n 0, 1) := by decide +kernel
theorem d_18_20_93 : decode prog_18_method_20_code 93 = .ok (.dup, 1) := by decide +kernel
theorem d_18_20_94 : decode prog_18_method_20_code 94 = .ok (.getfield 98, 3) := by decide +kernel
theorem d_18_20_97 : decode prog_18_method_20_code 97 = .ok (.iconst 1, 1) := by decide +kernel
theorem d_18_20_98 : decode prog_18_method_20_code 98 = .ok (.iadd, 1) := by decide +kernel
theorem d_18_20_99 : decode prog_18_method_20_code 99 = .ok (.putfield 98, 3) := by decide +kernel
theorem d_18_20_102 : decode prog_18_method_20_code 102 = .ok (.goto (-31), 3) := by decide +kernel
theorem d_18_20_47 : decode prog_18_method_20_code 47 = .ok (.ifCond .le 24, 3) := by decide +kernel
theorem d_18_20_50 : decode prog_18_method_20_code 50 = .ok (.aload_n 0, 1) := by decide +kernel
theorem d_18_20_51 : decode prog_18_method_20_code 51 = .ok (.dup, 1) := by decide +kernel
theorem d_18_20_52 : decode prog_18_method_20_code 52 = .ok (.getfield 95, 3) := by decide +kernel
theorem d_18_20_55 : decode prog_18_method_20_code 55 = .ok (.iconst 1, 1) := by decide +kernel
theorem d_18_20_56 : decode prog_18_method_20_code 56 = .ok (.iadd, 1) := by decide +kernel
theorem d_18_20_57 : decode prog_18_method_20_code 57 = .ok (.putfield 95, 3) := by decide +kernel
theorem d_18_20_60 : decode prog_18_method_20_code 60 = .ok (.aload_n 0, 1) := by decide +kernel
theorem d_18_20_61 : decode prog_18_method_20_code 61 = .ok (.getfield 16, 3) := by decide +kernel
theorem d_18_20_64 : decode prog_18_method_20_code 64 = .ok (.aload_n 0, 1) := by decide +kernel
theorem d_18_20_65 : decode prog_18_method_20_code 65 = .ok (.getfield 95, 3) := by decide +kernel
theorem d_18_20_68 : decode prog_18_method_20_code 68 = .ok (.ldc 102, 2) := by decide +kernel
set_option maxRecDepth 100000 in
theorem w_2497 : (Cond.constant "NumberHouseModel$TextRows" (102 : Nat) (50000000 : Int32)) ∈ q_tbl := q_of11 97 rfl (by decide +kernel)
theorem d_18_20_70 : decode prog_18_method_20_code 70 = .ok (.iastore, 1) := by decide +kernel
theorem d_18_20_15 : decode prog_18_method_20_code 15 = .ok (.aload_n 0, 1) := by decide +kernel
theorem d_18_20_16 : decode prog_18_method_20_code 16 = .ok (.getfield 16, 3) := by decide +kernel
theorem d_18_20_19 : decode prog_18_method_20_code 19 = .ok (.iload_n 2, 1) := by decide +kernel
theorem d_18_20_20 : decode prog_18_method_20_code 20 = .ok (.iaload, 1) := by decide +kernel
theorem d_18_20_21 : decode prog_18_method_20_code 21 = .ok (.iload_n 1, 1) := by decide +kernel
theorem d_18_20_22 : decode prog_18_method_20_code 22 = .ok (.ldc 101, 2) := by decide +kernel
set_option maxRecDepth 100000 in
theorem w_2496 : (Cond.constant "NumberHouseModel$TextRows" (101 : Nat) (100000000 : Int32)) ∈ q_tbl := q_of11 96 rfl (by decide +kernel)
theorem d_18_20_24 : decode prog_18_method_20_code 24 = .ok (.imul, 1) := by decide +kernel
theorem d_18_20_25 : decode prog_18_method_20_code 25 = .ok (.iadd, 1) := by decide +kernel
theorem d_18_20_26 : decode prog_18_method_20_code 26 = .ok (.istore_n 3, 1) := by decide +kernel
theorem d_18_20_27 : decode prog_18_method_20_code 27 = .ok (.aload_n 0, 1) := by decide +kernel
theorem d_18_20_28 : decode prog_18_method_20_code 28 = .ok (.getfield 16, 3) := by decide +kernel
theorem d_18_20_31 : decode prog_18_method_20_code 31 = .ok (.iload_n 2, 1) := by decide +kernel
theorem d_18_20_32 : decode prog_18_method_20_code 32 = .ok (.iload_n 3, 1) := by decide +kernel
theorem d_18_20_33 : decode prog_18_method_20_code 33 = .ok (.iconst 2, 1) := by decide +kernel
theorem d_18_20_34 : decode prog_18_method_20_code 34 = .ok (.idiv, 1) := by decide +kernel
theorem d_18_20_35 : decode prog_18_method_20_code 35 = .ok (.iastore, 1) := by decide +kernel
theorem d_18_20_36 : decode prog_18_method_20_code 36 = .ok (.iload_n 3, 1) := by decide +kernel
theorem d_18_20_37 : decode prog_18_method_20_code 37 = .ok (.iconst 2, 1) := by decide +kernel
theorem d_18_20_38 : decode prog_18_method_20_code 38 = .ok (.irem, 1) := by decide +kernel
theorem d_18_20_39 : decode prog_18_method_20_code 39 = .ok (.istore_n 1, 1) := by decide +kernel
theorem d_18_20_40 : decode prog_18_method_20_code 40 = .ok (.iinc 2 1, 3) := by decide +kernel
theorem d_18_20_43 : decode prog_18_method_20_code 43 = .ok (.goto (-36), 3) := by decide +kernel
def y_TR_half : MethodName := ⟨"NumberHouseModel$TextRows", "half", "()V"⟩
def F_TR_half_L71 (K_F_TR_half_L7 : Int32 → Int32 → (Nat → Int32) → (Int32 × Int32 × Int32 × Int32 × Int32 × Int32 × Int32 × Int64 × Int32 × Int32 × Int64 × Int64 × Int32 × Int32 × (Nat → Int32))) (t0_0 : Int32) (t0_1 : Int32) (t0_2 : Int32) (t0_3 : Int32) (t0_4 : Int32) (t0_5 : Int32) (t0_6 : Int32) (t0_7 : Int64) (t0_8 : Int32) (t0_9 : Int32) (t0_10 : Int64) (t0_11 : Int64) (t0_12 : Int32) (t0_13 : Int32) (t1_0 : (Nat → Int32)) (lx24 : Int32) (lx25 : Int32) (lx26 : (Nat → Int32)) (lx39 : Int32) (lx40 : (Nat → Int32)) : Nat → Int32 → (Int32 × Int32 × Int32 × Int32 × Int32 × Int32 × Int32 × Int64 × Int32 × Int32 × Int64 × Int64 × Int32 × Int32 × (Nat → Int32))
  | 0, _ => default
  | fm + 1, lx53 => if (54 : Int32) ≤ lx53 then ((t0_0, t0_1, t0_2, t0_3, t0_4, t0_5, t0_6, t0_7, lx53, lx39, t0_10, t0_11, t0_12, t0_13, lx40)) else (if (lx40 lx53.toNatClampNeg : Int32) = (0 : Int32) then (F_TR_half_L71 K_F_TR_half_L7 t0_0 t0_1 t0_2 t0_3 t0_4 t0_5 t0_6 t0_7 t0_8 t0_9 t0_10 t0_11 t0_12 t0_13 t1_0 lx24 lx25 lx26 lx39 lx40 fm (lx53 + 1 : Int32)) else ((t0_0, t0_1, t0_2, t0_3, t0_4, t0_5, t0_6, t0_7, lx53, lx39, t0_10, t0_11, t0_12, t0_13, lx40)))
def F_TR_half_J71 (K_F_TR_half_L7 : Int32 → Int32 → (Nat → Int32) → (Int32 × Int32 × Int32 × Int32 × Int32 × Int32 × Int32 × Int64 × Int32 × Int32 × Int64 × Int64 × Int32 × Int32 × (Nat → Int32))) (t0_0 : Int32) (t0_1 : Int32) (t0_2 : Int32) (t0_3 : Int32) (t0_4 : Int32) (t0_5 : Int32) (t0_6 : Int32) (t0_7 : Int64) (t0_8 : Int32) (t0_9 : Int32) (t0_10 : Int64) (t0_11 : Int64) (t0_12 : Int32) (t0_13 : Int32) (t1_0 : (Nat → Int32)) (lx24 : Int32) (lx25 : Int32) (lx26 : (Nat → Int32)) (lx39 : Int32) (lx40 : (Nat → Int32)) : Int32 × Int32 × Int32 × Int32 × Int32 × Int32 × Int32 × Int64 × Int32 × Int32 × Int64 × Int64 × Int32 × Int32 × (Nat → Int32) := F_TR_half_L71 K_F_TR_half_L7 t0_0 t0_1 t0_2 t0_3 t0_4 t0_5 t0_6 t0_7 t0_8 t0_9 t0_10 t0_11 t0_12 t0_13 t1_0 lx24 lx25 lx26 lx39 lx40 ((54 - t0_8.toInt).toNat + 1) t0_8
def F_TR_half_L7 (t0_0 : Int32) (t0_1 : Int32) (t0_2 : Int32) (t0_3 : Int32) (t0_4 : Int32) (t0_5 : Int32) (t0_6 : Int32) (t0_7 : Int64) (t0_8 : Int32) (t0_9 : Int32) (t0_10 : Int64) (t0_11 : Int64) (t0_12 : Int32) (t0_13 : Int32) (t1_0 : (Nat → Int32)) : Nat → Int32 → Int32 → (Nat → Int32) → (Int32 × Int32 × Int32 × Int32 × Int32 × Int32 × Int32 × Int64 × Int32 × Int32 × Int64 × Int64 × Int32 × Int32 × (Nat → Int32))
  | 0, _, _, _ => default
  | fm + 1, lx24, lx25, lx26 => if t0_9 < lx24 then (if lx25 ≤ (0 : Int32) then (F_TR_half_J71 (F_TR_half_L7 t0_0 t0_1 t0_2 t0_3 t0_4 t0_5 t0_6 t0_7 t0_8 t0_9 t0_10 t0_11 t0_12 t0_13 t1_0 fm) t0_0 t0_1 t0_2 t0_3 t0_4 t0_5 t0_6 t0_7 t0_8 t0_9 t0_10 t0_11 t0_12 t0_13 t1_0 lx24 lx25 lx26 t0_9 lx26) else (F_TR_half_J71 (F_TR_half_L7 t0_0 t0_1 t0_2 t0_3 t0_4 t0_5 t0_6 t0_7 t0_8 t0_9 t0_10 t0_11 t0_12 t0_13 t1_0 fm) t0_0 t0_1 t0_2 t0_3 t0_4 t0_5 t0_6 t0_7 t0_8 t0_9 t0_10 t0_11 t0_12 t0_13 t1_0 lx24 lx25 lx26 (t0_9 + 1 : Int32) (upd lx26 (t0_9 + 1 : Int32).toNatClampNeg 50000000 : (Nat → Int32)))) else (F_TR_half_L7 t0_0 t0_1 t0_2 t0_3 t0_4 t0_5 t0_6 t0_7 t0_8 t0_9 t0_10 t0_11 t0_12 t0_13 t1_0 fm (lx24 + 1 : Int32) (((lx26 lx24.toNatClampNeg : Int32) + (lx25 * 100000000 : Int32) : Int32) - ((lx26 lx24.toNatClampNeg : Int32) + (lx25 * 100000000 : Int32) : Int32) / 2 * 2 : Int32) (upd lx26 lx24.toNatClampNeg (((lx26 lx24.toNatClampNeg : Int32) + (lx25 * 100000000 : Int32) : Int32) / 2 : Int32) : (Nat → Int32)))
def F_TR_half (t0_0 : Int32) (t0_1 : Int32) (t0_2 : Int32) (t0_3 : Int32) (t0_4 : Int32) (t0_5 : Int32) (t0_6 : Int32) (t0_7 : Int64) (t0_8 : Int32) (t0_9 : Int32) (t0_10 : Int64) (t0_11 : Int64) (t0_12 : Int32) (t0_13 : Int32) (t1_0 : (Nat → Int32)) : Int32 × Int32 × Int32 × Int32 × Int32 × Int32 × Int32 × Int64 × Int32 × Int32 × Int64 × Int64 × Int32 × Int32 × (Nat → Int32) := F_TR_half_L7 t0_0 t0_1 t0_2 t0_3 t0_4 t0_5 t0_6 t0_7 t0_8 t0_9 t0_10 t0_11 t0_12 t0_13 t1_0 ((4100 - t0_8.toInt).toNat + 1) t0_8 0 t1_0
def S_TR_half_L71 (K_S_TR_half_L7 : Int32 → Int32 → (Nat → Int32) → Prop) (t0_0 : Int32) (t0_1 : Int32) (t0_2 : Int32) (t0_3 : Int32) (t0_4 : Int32) (t0_5 : Int32) (t0_6 : Int32) (t0_7 : Int64) (t0_8 : Int32) (t0_9 : Int32) (t0_10 : Int64) (t0_11 : Int64) (t0_12 : Int32) (t0_13 : Int32) (t1_0 : (Nat → Int32)) (lx24 : Int32) (lx25 : Int32) (lx26 : (Nat → Int32)) (lx39 : Int32) (lx40 : (Nat → Int32)) : Nat → Int32 → Prop
  | 0, _ => False
  | fm + 1, lx53 => if (54 : Int32) ≤ lx53 then (True) else ((0 ≤ lx53.toInt) ∧ (if (lx40 lx53.toNatClampNeg : Int32) = (0 : Int32) then (S_TR_half_L71 K_S_TR_half_L7 t0_0 t0_1 t0_2 t0_3 t0_4 t0_5 t0_6 t0_7 t0_8 t0_9 t0_10 t0_11 t0_12 t0_13 t1_0 lx24 lx25 lx26 lx39 lx40 fm (lx53 + 1 : Int32)) else (True)))
def S_TR_half_J71 (K_S_TR_half_L7 : Int32 → Int32 → (Nat → Int32) → Prop) (t0_0 : Int32) (t0_1 : Int32) (t0_2 : Int32) (t0_3 : Int32) (t0_4 : Int32) (t0_5 : Int32) (t0_6 : Int32) (t0_7 : Int64) (t0_8 : Int32) (t0_9 : Int32) (t0_10 : Int64) (t0_11 : Int64) (t0_12 : Int32) (t0_13 : Int32) (t1_0 : (Nat → Int32)) (lx24 : Int32) (lx25 : Int32) (lx26 : (Nat → Int32)) (lx39 : Int32) (lx40 : (Nat → Int32)) : Prop := S_TR_half_L71 K_S_TR_half_L7 t0_0 t0_1 t0_2 t0_3 t0_4 t0_5 t0_6 t0_7 t0_8 t0_9 t0_10 t0_11 t0_12 t0_13 t1_0 lx24 lx25 lx26 lx39 lx40 ((54 - t0_8.toInt).toNat + 1) t0_8
def S_TR_half_L7 (t0_0 : Int32) (t0_1 : Int32) (t0_2 : Int32) (t0_3 : Int32) (t0_4 : Int32) (t0_5 : Int32) (t0_6 : Int32) (t0_7 : Int64) (t0_8 : Int32) (t0_9 : Int32) (t0_10 : Int64) (t0_11 : Int64) (t0_12 : Int32) (t0_13 : Int32) (t1_0 : (Nat → Int32)) : Nat → Int32 → Int32 → (Nat → Int32) → Prop
  | 0, _, _, _ => False
  | fm + 1, lx24, lx25, lx26 => if t0_9 < lx24 then (if lx25 ≤ (0 : Int32) then (S_TR_half_J71 (S_TR_half_L7 t0_0 t0_1 t0_2 t0_3 t0_4 t0_5 t0_6 t0_7 t0_8 t0_9 t0_10 t0_11 t0_12 t0_13 t1_0 fm) t0_0 t0_1 t0_2 t0_3 t0_4 t0_5 t0_6 t0_7 t0_8 t0_9 t0_10 t0_11 t0_12 t0_13 t1_0 lx24 lx25 lx26 t0_9 lx26) else ((0 ≤ (t0_9 + 1 : Int32).toInt) ∧ (((t0_9 + 1 : Int32).toInt ≤ 799) ∧ (S_TR_half_J71 (S_TR_half_L7 t0_0 t0_1 t0_2 t0_3 t0_4 t0_5 t0_6 t0_7 t0_8 t0_9 t0_10 t0_11 t0_12 t0_13 t1_0 fm) t0_0 t0_1 t0_2 t0_3 t0_4 t0_5 t0_6 t0_7 t0_8 t0_9 t0_10 t0_11 t0_12 t0_13 t1_0 lx24 lx25 lx26 (t0_9 + 1 : Int32) (upd lx26 (t0_9 + 1 : Int32).toNatClampNeg 50000000 : (Nat → Int32)))))) else ((0 ≤ lx24.toInt) ∧ ((lx24.toInt ≤ 799) ∧ (S_TR_half_L7 t0_0 t0_1 t0_2 t0_3 t0_4 t0_5 t0_6 t0_7 t0_8 t0_9 t0_10 t0_11 t0_12 t0_13 t1_0 fm (lx24 + 1 : Int32) (((lx26 lx24.toNatClampNeg : Int32) + (lx25 * 100000000 : Int32) : Int32) - ((lx26 lx24.toNatClampNeg : Int32) + (lx25 * 100000000 : Int32) : Int32) / 2 * 2 : Int32) (upd lx26 lx24.toNatClampNeg (((lx26 lx24.toNatClampNeg : Int32) + (lx25 * 100000000 : Int32) : Int32) / 2 : Int32) : (Nat → Int32)))))
def S_TR_half (t0_0 : Int32) (t0_1 : Int32) (t0_2 : Int32) (t0_3 : Int32) (t0_4 : Int32) (t0_5 : Int32) (t0_6 : Int32) (t0_7 : Int64) (t0_8 : Int32) (t0_9 : Int32) (t0_10 : Int64) (t0_11 : Int64) (t0_12 : Int32) (t0_13 : Int32) (t1_0 : (Nat → Int32)) : Prop := S_TR_half_L7 t0_0 t0_1 t0_2 t0_3 t0_4 t0_5 t0_6 t0_7 t0_8 t0_9 t0_10 t0_11 t0_12 t0_13 t1_0 ((4100 - t0_8.toInt).toNat + 1) t0_8 0 t1_0
set_option maxRecDepth 100000 in
set_option maxHeartbeats 4000000 in
theorem X_TR_half (l : Launch) (D : va_G) (g : Nat → ClassId) (q : Nat → Nat) (ws : va_W) (hI : q_I (msh g q) q ws) (t0_0 : Int32) (t0_1 : Int32) (t0_2 : Int32) (t0_3 : Int32) (t0_4 : Int32) (t0_5 : Int32) (t0_6 : Int32) (t0_7 : Int64) (t0_8 : Int32) (t0_9 : Int32) (t0_10 : Int64) (t0_11 : Int64) (t0_12 : Int32) (t0_13 : Int32) (hT0 : ws[153]? = (some (q 153, .inr (16, [.int t0_0, .ref (q 154), .int t0_1, .int t0_2, .int t0_3, .int t0_4, .ref (q 155), .int t0_5, .int t0_6, .long t0_7, .ref (q 156), .int t0_8, .int t0_9, .long t0_10, .long t0_11, .int t0_12, .int t0_13])) : Option (Nat × va_E))) (t1_0 : (Nat → Int32)) (hT1 : ws[156]? = (some (q 156, .inl (g 0, (800 : Int32).toNatClampNeg, .inl t1_0)) : Option (Nat × va_E))) (hS : True ∧ S_TR_half t0_0 t0_1 t0_2 t0_3 t0_4 t0_5 t0_6 t0_7 t0_8 t0_9 t0_10 t0_11 t0_12 t0_13 t1_0) : q_mV l y_TR_half prog_18_method_20_code 4 1 0 0 D g [.ref (q 153)] ws (fun u => q_I (msh g q) q u ∧ q_un ws u [153, 156] ∧ ∃ (u0_0 : Int32) (u0_1 : Int32) (u0_2 : Int32) (u0_3 : Int32) (u0_4 : Int32) (u0_5 : Int32) (u0_6 : Int32) (u0_7 : Int64) (u0_8 : Int32) (u0_9 : Int32) (u0_10 : Int64) (u0_11 : Int64) (u0_12 : Int32) (u0_13 : Int32) (u1_0 : (Nat → Int32)), u[153]? = (some (q 153, .inr (16, [.int u0_0, .ref (q 154), .int u0_1, .int u0_2, .int u0_3, .int u0_4, .ref (q 155), .int u0_5, .int u0_6, .long u0_7, .ref (q 156), .int u0_8, .int u0_9, .long u0_10, .long u0_11, .int u0_12, .int u0_13])) : Option (Nat × va_E)) ∧ u[156]? = (some (q 156, .inl (g 0, (800 : Int32).toNatClampNeg, .inl u1_0)) : Option (Nat × va_E)) ∧ (0 ≤ u0_8.toInt) ∧ (u0_9.toInt ≤ 2147483646) ∧ (t0_0.toInt ≤ u0_0.toInt) ∧ (u0_0.toInt ≤ t0_0.toInt) ∧ (t0_1.toInt ≤ u0_1.toInt) ∧ (u0_1.toInt ≤ t0_1.toInt) ∧ (t0_2.toInt ≤ u0_2.toInt) ∧ (u0_2.toInt ≤ t0_2.toInt) ∧ (t0_3.toInt ≤ u0_3.toInt) ∧ (u0_3.toInt ≤ t0_3.toInt) ∧ (t0_4.toInt ≤ u0_4.toInt) ∧ (u0_4.toInt ≤ t0_4.toInt) ∧ (t0_5.toInt ≤ u0_5.toInt) ∧ (u0_5.toInt ≤ t0_5.toInt) ∧ (t0_6.toInt ≤ u0_6.toInt) ∧ (u0_6.toInt ≤ t0_6.toInt) ∧ (t0_7.toInt ≤ u0_7.toInt) ∧ (u0_7.toInt ≤ t0_7.toInt) ∧ (t0_8.toInt ≤ u0_8.toInt) ∧ (t0_9.toInt ≤ u0_9.toInt) ∧ (u0_9.toInt ≤ t0_9.toInt + 1) ∧ (t0_10.toInt ≤ u0_10.toInt) ∧ (u0_10.toInt ≤ t0_10.toInt) ∧ (t0_11.toInt ≤ u0_11.toInt) ∧ (u0_11.toInt ≤ t0_11.toInt) ∧ (t0_12.toInt ≤ u0_12.toInt) ∧ (u0_12.toInt ≤ t0_12.toInt) ∧ (t0_13.toInt ≤ u0_13.toInt) ∧ (u0_13.toInt ≤ t0_13.toInt) ∧ (u0_0, u0_1, u0_2, u0_3, u0_4, u0_5, u0_6, u0_7, u0_8, u0_9, u0_10, u0_11, u0_12, u0_13, u1_0) = (F_TR_half t0_0 t0_1 t0_2 t0_3 t0_4 t0_5 t0_6 t0_7 t0_8 t0_9 t0_10 t0_11 t0_12 t0_13 t1_0)) := by
  intro sz
  refine q_into (by decide) (Nat.le_of_ble_eq_true rfl) ?_
  intro p e s m below meth c ls hsz C0 V hl
  have hx := C0.1
  have hb := C0.2.1
  obtain ⟨btt0_1, hZ9⟩ := n_w153 hI hT0
  obtain ⟨btt0_4, btt0_13⟩ := hZ9
  replace btt0_1 : q_F (0 ≤ t0_1.toInt ∧ t0_1.toInt ≤ 4100) := btt0_1
  replace btt0_4 : q_F (0 ≤ t0_4.toInt ∧ t0_4.toInt ≤ 1) := btt0_4
  replace btt0_13 : q_F (0 ≤ t0_13.toInt ∧ t0_13.toInt ≤ 1) := btt0_13
  have hF : q_un ws ws [153, 156] := q_u0
  have hl : lv_has ls 4 [(0, .ref (q 153))] := hl
  refine lv_iconst (v := 0) hx hb d_18_20_0 (by decide) ?_
  refine lv_istore_n (lv' := [(1, .int 0), (0, .ref (q 153))]) hx hb d_18_20_1 rfl hl (by decide) rfl (fun ls hl => ?_)
  refine lv_aload_n hx hb d_18_20_2 rfl (lv_at hl 1 rfl) ?_
  refine q_get (ci := 16) (j := 11) (v := .int t0_8) C0 V i_TR rfl rfl hT0 (by decide) w_2151 rfl d_18_20_3 ?_
  refine lv_istore_n (lv' := [(2, .int t0_8), (1, .int 0), (0, .ref (q 153))]) hx hb d_18_20_6 rfl hl (by decide) rfl (fun ls hl => ?_)
  refine q_loop (X := Int32 × Int32 × (Nat → Int32)) (fun z H locs ls w29 => q_F (t0_8.toInt ≤ z.1.toInt) ∧ q_Wd D g (va_A ws sz) s w29 H locs ∧ lv_has ls 4 [(2, .int z.1), (1, .int z.2.1), (0, .ref (q 153))] ∧ q_I (msh g q) q w29 ∧ q_un ws w29 [153, 156] ∧ w29[153]? = (some (q 153, .inr (16, [.int t0_0, .ref (q 154), .int t0_1, .int t0_2, .int t0_3, .int t0_4, .ref (q 155), .int t0_5, .int t0_6, .long t0_7, .ref (q 156), .int t0_8, .int t0_9, .long t0_10, .long t0_11, .int t0_12, .int t0_13])) : Option (Nat × va_E)) ∧ w29[156]? = (some (q 156, .inl (g 0, (800 : Int32).toNatClampNeg, .inl z.2.2)) : Option (Nat × va_E)) ∧ (∃ n, (4100 - z.1.toInt).toNat < n ∧ F_TR_half_L7 t0_0 t0_1 t0_2 t0_3 t0_4 t0_5 t0_6 t0_7 t0_8 t0_9 t0_10 t0_11 t0_12 t0_13 t1_0 n z.1 z.2.1 z.2.2 = (F_TR_half t0_0 t0_1 t0_2 t0_3 t0_4 t0_5 t0_6 t0_7 t0_8 t0_9 t0_10 t0_11 t0_12 t0_13 t1_0) ∧ True ∧ S_TR_half_L7 t0_0 t0_1 t0_2 t0_3 t0_4 t0_5 t0_6 t0_7 t0_8 t0_9 t0_10 t0_11 t0_12 t0_13 t1_0 n z.1 z.2.1 z.2.2)) (fun z => (4100 - z.1.toInt).toNat) ?_ ((t0_8 : Int32), (0 : Int32), (t1_0 : (Nat → Int32))) _ _ _ ws ⟨(show q_F (t0_8.toInt ≤ t0_8.toInt) from (show t0_8.toInt ≤ t0_8.toInt from by omega)), V, q_lw hl (q_lw1 0 rfl (q_lw1 1 rfl (q_lw1 2 rfl q_lw0))), hI, hF, hT0, hT1, ⟨((4100 - t0_8.toInt).toNat + 1), Nat.lt_succ_self _, (show F_TR_half_L7 t0_0 t0_1 t0_2 t0_3 t0_4 t0_5 t0_6 t0_7 t0_8 t0_9 t0_10 t0_11 t0_12 t0_13 t1_0 ((4100 - t0_8.toInt).toNat + 1) t0_8 0 t1_0 = (F_TR_half t0_0 t0_1 t0_2 t0_3 t0_4 t0_5 t0_6 t0_7 t0_8 t0_9 t0_10 t0_11 t0_12 t0_13 t1_0) from (by rw [F_TR_half.eq_1])), (show True ∧ S_TR_half_L7 t0_0 t0_1 t0_2 t0_3 t0_4 t0_5 t0_6 t0_7 t0_8 t0_9 t0_10 t0_11 t0_12 t0_13 t1_0 ((4100 - t0_8.toInt).toNat + 1) t0_8 0 t1_0 from (by have h := hS; rw [S_TR_half.eq_1] at h; with_reducible exact h))⟩⟩
  rintro ⟨lx24, lx25, lx26⟩ H locs ls w29 ⟨i27, V, hl, hI, hF, hO30, hO31, ⟨fu34, hf35, hR32, hS33⟩⟩ ih28
  obtain ⟨fm36, rfl⟩ : ∃ m, fu34 = m + 1 := ⟨fu34 - 1, by omega⟩
  replace i27 : q_F (t0_8.toInt ≤ lx24.toInt) := i27
  replace hl : lv_has ls 4 [(2, .int lx24), (1, .int lx25), (0, .ref (q 153))] := hl
  replace hO30 : w29[153]? = (some (q 153, .inr (16, [.int t0_0, .ref (q 154), .int t0_1, .int t0_2, .int t0_3, .int t0_4, .ref (q 155), .int t0_5, .int t0_6, .long t0_7, .ref (q 156), .int t0_8, .int t0_9, .long t0_10, .long t0_11, .int t0_12, .int t0_13])) : Option (Nat × va_E)) := hO30
  replace hO31 : w29[156]? = (some (q 156, .inl (g 0, (800 : Int32).toNatClampNeg, .inl lx26)) : Option (Nat × va_E)) := hO31
  refine lv_iload_n hx hb d_18_20_7 rfl (lv_at hl 0 rfl) ?_
  refine lv_aload_n hx hb d_18_20_8 rfl (lv_at hl 2 rfl) ?_
  refine q_get (ci := 16) (j := 12) (v := .int t0_9) C0 V i_TR rfl rfl hO30 (by decide) w_2152 rfl d_18_20_9 ?_
  refine lv_icmp_gt (tgt := 46) hx hb d_18_20_12 (by decide) (fun c37 => ?_) (fun c37 => ?_)
  ·
    have b38 : q_F (t0_9.toInt < lx24.toInt) := (q_ltI c37)
    refine lv_iload_n hx hb d_18_20_46 rfl (lv_at hl 1 rfl) ?_
    refine q_join (X := Int32 × (Nat → Int32)) (fun z H locs ls w47 => q_F (z.1.toInt ≤ 2147483646) ∧ q_F (t0_9.toInt ≤ z.1.toInt) ∧ q_F (z.1.toInt ≤ t0_9.toInt + 1) ∧ q_Wd D g (va_A ws sz) s w47 H locs ∧ lv_has ls 4 [(0, .ref (q 153))] ∧ q_I (msh g q) q w47 ∧ q_un ws w47 [153, 156] ∧ w47[153]? = (some (q 153, .inr (16, [.int t0_0, .ref (q 154), .int t0_1, .int t0_2, .int t0_3, .int t0_4, .ref (q 155), .int t0_5, .int t0_6, .long t0_7, .ref (q 156), .int t0_8, .int z.1, .long t0_10, .long t0_11, .int t0_12, .int t0_13])) : Option (Nat × va_E)) ∧ w47[156]? = (some (q 156, .inl (g 0, (800 : Int32).toNatClampNeg, .inl z.2)) : Option (Nat × va_E)) ∧ F_TR_half_J71 (F_TR_half_L7 t0_0 t0_1 t0_2 t0_3 t0_4 t0_5 t0_6 t0_7 t0_8 t0_9 t0_10 t0_11 t0_12 t0_13 t1_0 fm36) t0_0 t0_1 t0_2 t0_3 t0_4 t0_5 t0_6 t0_7 t0_8 t0_9 t0_10 t0_11 t0_12 t0_13 t1_0 lx24 lx25 lx26 z.1 z.2 = (F_TR_half t0_0 t0_1 t0_2 t0_3 t0_4 t0_5 t0_6 t0_7 t0_8 t0_9 t0_10 t0_11 t0_12 t0_13 t1_0) ∧ True ∧ S_TR_half_J71 (S_TR_half_L7 t0_0 t0_1 t0_2 t0_3 t0_4 t0_5 t0_6 t0_7 t0_8 t0_9 t0_10 t0_11 t0_12 t0_13 t1_0 fm36) t0_0 t0_1 t0_2 t0_3 t0_4 t0_5 t0_6 t0_7 t0_8 t0_9 t0_10 t0_11 t0_12 t0_13 t1_0 lx24 lx25 lx26 z.1 z.2) (fun z => []) 71 0 0 ?_ ?_
    ·
      rintro ⟨lx39, lx40⟩ H locs ls w47 ⟨i44, i45, i46, V, hl, hI, hF, hO41, hA42, hR48, hS49⟩
      replace i44 : q_F (lx39.toInt ≤ 2147483646) := i44
      replace i45 : q_F (t0_9.toInt ≤ lx39.toInt) := i45
      replace i46 : q_F (lx39.toInt ≤ t0_9.toInt + 1) := i46
      replace hl : lv_has ls 4 [(0, .ref (q 153))] := hl
      replace hO41 : w47[153]? = (some (q 153, .inr (16, [.int t0_0, .ref (q 154), .int t0_1, .int t0_2, .int t0_3, .int t0_4, .ref (q 155), .int t0_5, .int t0_6, .long t0_7, .ref (q 156), .int t0_8, .int lx39, .long t0_10, .long t0_11, .int t0_12, .int t0_13])) : Option (Nat × va_E)) := hO41
      replace hA42 : w47[156]? = (some (q 156, .inl (g 0, (800 : Int32).toNatClampNeg, .inl lx40)) : Option (Nat × va_E)) := hA42
      refine q_loop (X := Int32) (fun z H locs ls w56 => q_F (t0_8.toInt ≤ z.toInt) ∧ q_Wd D g (va_A ws sz) s w56 H locs ∧ lv_has ls 4 [(0, .ref (q 153))] ∧ q_I (msh g q) q w56 ∧ q_un ws w56 [153, 156] ∧ w56[153]? = (some (q 153, .inr (16, [.int t0_0, .ref (q 154), .int t0_1, .int t0_2, .int t0_3, .int t0_4, .ref (q 155), .int t0_5, .int t0_6, .long t0_7, .ref (q 156), .int z, .int lx39, .long t0_10, .long t0_11, .int t0_12, .int t0_13])) : Option (Nat × va_E)) ∧ w56[156]? = (some (q 156, .inl (g 0, (800 : Int32).toNatClampNeg, .inl lx40)) : Option (Nat × va_E)) ∧ (∃ n, (54 - z.toInt).toNat < n ∧ F_TR_half_L71 (F_TR_half_L7 t0_0 t0_1 t0_2 t0_3 t0_4 t0_5 t0_6 t0_7 t0_8 t0_9 t0_10 t0_11 t0_12 t0_13 t1_0 fm36) t0_0 t0_1 t0_2 t0_3 t0_4 t0_5 t0_6 t0_7 t0_8 t0_9 t0_10 t0_11 t0_12 t0_13 t1_0 lx24 lx25 lx26 lx39 lx40 n z = (F_TR_half t0_0 t0_1 t0_2 t0_3 t0_4 t0_5 t0_6 t0_7 t0_8 t0_9 t0_10 t0_11 t0_12 t0_13 t1_0) ∧ True ∧ S_TR_half_L71 (S_TR_half_L7 t0_0 t0_1 t0_2 t0_3 t0_4 t0_5 t0_6 t0_7 t0_8 t0_9 t0_10 t0_11 t0_12 t0_13 t1_0 fm36) t0_0 t0_1 t0_2 t0_3 t0_4 t0_5 t0_6 t0_7 t0_8 t0_9 t0_10 t0_11 t0_12 t0_13 t1_0 lx24 lx25 lx26 lx39 lx40 n z)) (fun z => (54 - z.toInt).toNat) ?_ ((t0_8 : Int32)) _ _ _ w47 ⟨(show q_F (t0_8.toInt ≤ t0_8.toInt) from (show t0_8.toInt ≤ t0_8.toInt from by omega)), V, q_lw hl (q_lw1 0 rfl q_lw0), hI, hF, hO41, hA42, ⟨((54 - t0_8.toInt).toNat + 1), Nat.lt_succ_self _, (show F_TR_half_L71 (F_TR_half_L7 t0_0 t0_1 t0_2 t0_3 t0_4 t0_5 t0_6 t0_7 t0_8 t0_9 t0_10 t0_11 t0_12 t0_13 t1_0 fm36) t0_0 t0_1 t0_2 t0_3 t0_4 t0_5 t0_6 t0_7 t0_8 t0_9 t0_10 t0_11 t0_12 t0_13 t1_0 lx24 lx25 lx26 lx39 lx40 ((54 - t0_8.toInt).toNat + 1) t0_8 = (F_TR_half t0_0 t0_1 t0_2 t0_3 t0_4 t0_5 t0_6 t0_7 t0_8 t0_9 t0_10 t0_11 t0_12 t0_13 t1_0) from Eq.trans (by rw [F_TR_half_J71.eq_1]) hR48), (show True ∧ S_TR_half_L71 (S_TR_half_L7 t0_0 t0_1 t0_2 t0_3 t0_4 t0_5 t0_6 t0_7 t0_8 t0_9 t0_10 t0_11 t0_12 t0_13 t1_0 fm36) t0_0 t0_1 t0_2 t0_3 t0_4 t0_5 t0_6 t0_7 t0_8 t0_9 t0_10 t0_11 t0_12 t0_13 t1_0 lx24 lx25 lx26 lx39 lx40 ((54 - t0_8.toInt).toNat + 1) t0_8 from (by have h := hS49; rw [S_TR_half_J71.eq_1] at h; with_reducible exact h))⟩⟩
      rintro lx53 H locs ls w56 ⟨i54, V, hl, hI, hF, hO57, hO58, ⟨fu61, hf62, hR59, hS60⟩⟩ ih55
      obtain ⟨fm63, rfl⟩ : ∃ m, fu61 = m + 1 := ⟨fu61 - 1, by omega⟩
      replace i54 : q_F (t0_8.toInt ≤ lx53.toInt) := i54
      replace hl : lv_has ls 4 [(0, .ref (q 153))] := hl
      replace hO57 : w56[153]? = (some (q 153, .inr (16, [.int t0_0, .ref (q 154), .int t0_1, .int t0_2, .int t0_3, .int t0_4, .ref (q 155), .int t0_5, .int t0_6, .long t0_7, .ref (q 156), .int lx53, .int lx39, .long t0_10, .long t0_11, .int t0_12, .int t0_13])) : Option (Nat × va_E)) := hO57
      replace hO58 : w56[156]? = (some (q 156, .inl (g 0, (800 : Int32).toNatClampNeg, .inl lx40)) : Option (Nat × va_E)) := hO58
      refine lv_aload_n hx hb d_18_20_71 rfl (lv_at hl 0 rfl) ?_
      refine q_get (ci := 16) (j := 11) (v := .int lx53) C0 V i_TR rfl rfl hO57 (by decide) w_2151 rfl d_18_20_72 ?_
      refine lv_bipush (v := 54) hx hb d_18_20_75 (by decide) ?_
      refine lv_icmp_ge (tgt := 105) hx hb d_18_20_77 (by decide) (fun c64 => ?_) (fun c64 => ?_)
      ·
        have b65 : q_F (54 ≤ lx53.toInt) := (q_leI c64)
        exact q_retv C0 V (⟨hI, hF, t0_0, t0_1, t0_2, t0_3, t0_4, t0_5, t0_6, t0_7, lx53, lx39, t0_10, t0_11, t0_12, t0_13, lx40, hO57, hO58, (show 0 ≤ lx53.toInt from (by first | with_reducible exact q_fe b65 | (have t1 : 54 ≤ lx53.toInt := b65; omega))), (show lx39.toInt ≤ 2147483646 from (by first | with_reducible exact q_fe i44 | (have t1 : lx39.toInt ≤ 2147483646 := i44; omega))), (show t0_0.toInt ≤ t0_0.toInt from (by omega)), (show t0_0.toInt ≤ t0_0.toInt from (by omega)), (show t0_1.toInt ≤ t0_1.toInt from (by omega)), (show t0_1.toInt ≤ t0_1.toInt from (by omega)), (show t0_2.toInt ≤ t0_2.toInt from (by omega)), (show t0_2.toInt ≤ t0_2.toInt from (by omega)), (show t0_3.toInt ≤ t0_3.toInt from (by omega)), (show t0_3.toInt ≤ t0_3.toInt from (by omega)), (show t0_4.toInt ≤ t0_4.toInt from (by omega)), (show t0_4.toInt ≤ t0_4.toInt from (by omega)), (show t0_5.toInt ≤ t0_5.toInt from (by omega)), (show t0_5.toInt ≤ t0_5.toInt from (by omega)), (show t0_6.toInt ≤ t0_6.toInt from (by omega)), (show t0_6.toInt ≤ t0_6.toInt from (by omega)), (show t0_7.toInt ≤ t0_7.toInt from (by omega)), (show t0_7.toInt ≤ t0_7.toInt from (by omega)), (show t0_8.toInt ≤ lx53.toInt from (by first | with_reducible exact q_fe i54 | (have t1 : t0_8.toInt ≤ lx53.toInt := i54; omega))), (show t0_9.toInt ≤ lx39.toInt from (by first | with_reducible exact q_fe i45 | (have t1 : t0_9.toInt ≤ lx39.toInt := i45; omega))), (show lx39.toInt ≤ t0_9.toInt + 1 from (by first | with_reducible exact q_fe i46 | (have t1 : lx39.toInt ≤ t0_9.toInt + 1 := i46; omega))), (show t0_10.toInt ≤ t0_10.toInt from (by omega)), (show t0_10.toInt ≤ t0_10.toInt from (by omega)), (show t0_11.toInt ≤ t0_11.toInt from (by omega)), (show t0_11.toInt ≤ t0_11.toInt from (by omega)), (show t0_12.toInt ≤ t0_12.toInt from (by omega)), (show t0_12.toInt ≤ t0_12.toInt from (by omega)), (show t0_13.toInt ≤ t0_13.toInt from (by omega)), (show t0_13.toInt ≤ t0_13.toInt from (by omega)), (show (t0_0, t0_1, t0_2, t0_3, t0_4, t0_5, t0_6, t0_7, lx53, lx39, t0_10, t0_11, t0_12, t0_13, lx40) = (F_TR_half t0_0 t0_1 t0_2 t0_3 t0_4 t0_5 t0_6 t0_7 t0_8 t0_9 t0_10 t0_11 t0_12 t0_13 t1_0) from Eq.trans (by rw [F_TR_half_L71.eq_2, if_pos c64]) hR59)⟩) d_18_20_105
      ·
        have b66 : q_F (lx53.toInt < 54) := (q_nleI c64)
        refine lv_aload_n hx hb d_18_20_80 rfl (lv_at hl 0 rfl) ?_
        refine q_get (ci := 16) (j := 10) (v := .ref (q 156)) C0 V i_TR rfl rfl hO57 (by decide) w_2150 rfl d_18_20_81 ?_
        refine lv_aload_n hx hb d_18_20_84 rfl (lv_at hl 0 rfl) ?_
        refine q_get (ci := 16) (j := 11) (v := .int lx53) C0 V i_TR rfl rfl hO57 (by decide) w_2151 rfl d_18_20_85 ?_
        have ob67 : q_F (0 ≤ lx53.toInt) := (by have h := hS60; rw [S_TR_half_L71.eq_2] at h; rw [if_neg c64] at h; exact h.2.1)
        refine q_iald C0 V hO58 (q_ix (x := lx53.toInt) rfl (by first | with_reducible exact q_fe ob67 | (have t1 : 0 ≤ lx53.toInt := ob67; omega)) (by have t1 : 0 ≤ lx53.toInt := ob67; have t2 : lx53.toInt < 54 := b66; have e9 : (((800 : Int32).toNatClampNeg : Nat) : Int) = 800 := (by decide); omega)) d_18_20_88 ?_
        obtain ⟨a68, e69⟩ := q_nm (lx40 lx53.toNatClampNeg : Int32)
        refine q_ti (v := a68) e69 ?_
        refine lv_if_ne (tgt := 105) hx hb d_18_20_89 (by decide) (fun c70 => ?_) (fun c70 => ?_)
        ·
          exact q_retv C0 V (⟨hI, hF, t0_0, t0_1, t0_2, t0_3, t0_4, t0_5, t0_6, t0_7, lx53, lx39, t0_10, t0_11, t0_12, t0_13, lx40, hO57, hO58, (show 0 ≤ lx53.toInt from (by first | with_reducible exact q_fe ob67 | (have t1 : 0 ≤ lx53.toInt := ob67; omega))), (show lx39.toInt ≤ 2147483646 from (by first | with_reducible exact q_fe i44 | (have t1 : lx39.toInt ≤ 2147483646 := i44; omega))), (show t0_0.toInt ≤ t0_0.toInt from (by omega)), (show t0_0.toInt ≤ t0_0.toInt from (by omega)), (show t0_1.toInt ≤ t0_1.toInt from (by omega)), (show t0_1.toInt ≤ t0_1.toInt from (by omega)), (show t0_2.toInt ≤ t0_2.toInt from (by omega)), (show t0_2.toInt ≤ t0_2.toInt from (by omega)), (show t0_3.toInt ≤ t0_3.toInt from (by omega)), (show t0_3.toInt ≤ t0_3.toInt from (by omega)), (show t0_4.toInt ≤ t0_4.toInt from (by omega)), (show t0_4.toInt ≤ t0_4.toInt from (by omega)), (show t0_5.toInt ≤ t0_5.toInt from (by omega)), (show t0_5.toInt ≤ t0_5.toInt from (by omega)), (show t0_6.toInt ≤ t0_6.toInt from (by omega)), (show t0_6.toInt ≤ t0_6.toInt from (by omega)), (show t0_7.toInt ≤ t0_7.toInt from (by omega)), (show t0_7.toInt ≤ t0_7.toInt from (by omega)), (show t0_8.toInt ≤ lx53.toInt from (by first | with_reducible exact q_fe i54 | (have t1 : t0_8.toInt ≤ lx53.toInt := i54; omega))), (show t0_9.toInt ≤ lx39.toInt from (by first | with_reducible exact q_fe i45 | (have t1 : t0_9.toInt ≤ lx39.toInt := i45; omega))), (show lx39.toInt ≤ t0_9.toInt + 1 from (by first | with_reducible exact q_fe i46 | (have t1 : lx39.toInt ≤ t0_9.toInt + 1 := i46; omega))), (show t0_10.toInt ≤ t0_10.toInt from (by omega)), (show t0_10.toInt ≤ t0_10.toInt from (by omega)), (show t0_11.toInt ≤ t0_11.toInt from (by omega)), (show t0_11.toInt ≤ t0_11.toInt from (by omega)), (show t0_12.toInt ≤ t0_12.toInt from (by omega)), (show t0_12.toInt ≤ t0_12.toInt from (by omega)), (show t0_13.toInt ≤ t0_13.toInt from (by omega)), (show t0_13.toInt ≤ t0_13.toInt from (by omega)), (show (t0_0, t0_1, t0_2, t0_3, t0_4, t0_5, t0_6, t0_7, lx53, lx39, t0_10, t0_11, t0_12, t0_13, lx40) = (F_TR_half t0_0 t0_1 t0_2 t0_3 t0_4 t0_5 t0_6 t0_7 t0_8 t0_9 t0_10 t0_11 t0_12 t0_13 t1_0) from Eq.trans (by have c70x := c70; rw [← e69] at c70x; rw [F_TR_half_L71.eq_2, if_neg c64, if_neg c70x]) hR59)⟩) d_18_20_105
        ·
          refine lv_aload_n hx hb d_18_20_92 rfl (lv_at hl 0 rfl) ?_
          refine lv_dup hx hb d_18_20_93 rfl ?_
          refine q_get (ci := 16) (j := 11) (v := .int lx53) C0 V i_TR rfl rfl hO57 (by decide) w_2151 rfl d_18_20_94 ?_
          refine lv_iconst (v := 1) hx hb d_18_20_97 (by decide) ?_
          refine lv_iadd hx hb d_18_20_98 ?_
          obtain ⟨a73, e74⟩ := q_nm (lx53 + 1 : Int32)
          refine q_ti (v := a73) e74 ?_
          have b75 : q_F (a73.toInt = lx53.toInt + 1) := (by rw [← e74]; show (lx53 + 1 : Int32).toInt = lx53.toInt + 1; exact q_addI (x := lx53.toInt) (y := 1) rfl (by decide) (by have t1 : 0 ≤ lx53.toInt := ob67; have t2 : lx53.toInt < 54 := b66; omega) (by have t1 : 0 ≤ lx53.toInt := ob67; have t2 : lx53.toInt < 54 := b66; omega))
          refine q_put (ci := 16) (j := 11) (v := .int a73) (ty := .int) C0 V i_TR o_TR n_TR rfl rfl hO57 (by decide) w_2151 rfl rfl rfl rfl (Nat.le_of_ble_eq_true rfl) d_18_20_99 (fun H locs w76 hu77 hO57 V => ?_)
          replace hO57 : w76[153]? = (some (q 153, .inr (16, [.int t0_0, .ref (q 154), .int t0_1, .int t0_2, .int t0_3, .int t0_4, .ref (q 155), .int t0_5, .int t0_6, .long t0_7, .ref (q 156), .int a73, .int lx39, .long t0_10, .long t0_11, .int t0_12, .int t0_13])) : Option (Nat × va_E)) := hO57
          replace hI := n_p153 hI hu77 hO57 (by first | with_reducible exact q_fe btt0_1 | exact ⟨(by have t1 : 0 ≤ t0_1.toInt ∧ t0_1.toInt ≤ 4100 := btt0_1; omega), (by have t1 : 0 ≤ t0_1.toInt ∧ t0_1.toInt ≤ 4100 := btt0_1; omega)⟩) (by first | with_reducible exact q_fe btt0_4 | exact ⟨(by have t1 : 0 ≤ t0_4.toInt ∧ t0_4.toInt ≤ 1 := btt0_4; omega), (by have t1 : 0 ≤ t0_4.toInt ∧ t0_4.toInt ≤ 1 := btt0_4; omega)⟩) (by first | with_reducible exact q_fe btt0_13 | exact ⟨(by have t1 : 0 ≤ t0_13.toInt ∧ t0_13.toInt ≤ 1 := btt0_13; omega), (by have t1 : 0 ≤ t0_13.toInt ∧ t0_13.toInt ≤ 1 := btt0_13; omega)⟩)
          replace hO58 := (hu77 _ (by decide)).trans hO58
          replace hF := q_us hF hu77 (by simp)
          refine lv_goto (tgt := 71) hx hb d_18_20_102 (by decide) ?_
          exact ih55 ((a73 : Int32)) _ _ _ _ (show (54 - a73.toInt).toNat < (54 - lx53.toInt).toNat from by have t1 : a73.toInt = lx53.toInt + 1 := b75; have t2 : lx53.toInt < 54 := b66; omega) ⟨(show q_F (t0_8.toInt ≤ a73.toInt) from (show t0_8.toInt ≤ a73.toInt from by have t1 : t0_8.toInt ≤ lx53.toInt := i54; have t2 : a73.toInt = lx53.toInt + 1 := b75; omega)), V, q_lw hl (q_lw1 0 rfl q_lw0), hI, hF, hO57, hO58, ⟨fm63, Nat.lt_of_lt_of_le (show (54 - a73.toInt).toNat < (54 - lx53.toInt).toNat from by have t1 : a73.toInt = lx53.toInt + 1 := b75; have t2 : lx53.toInt < 54 := b66; omega) (Nat.le_of_lt_succ hf62), (show F_TR_half_L71 (F_TR_half_L7 t0_0 t0_1 t0_2 t0_3 t0_4 t0_5 t0_6 t0_7 t0_8 t0_9 t0_10 t0_11 t0_12 t0_13 t1_0 fm36) t0_0 t0_1 t0_2 t0_3 t0_4 t0_5 t0_6 t0_7 t0_8 t0_9 t0_10 t0_11 t0_12 t0_13 t1_0 lx24 lx25 lx26 lx39 lx40 fm63 a73 = (F_TR_half t0_0 t0_1 t0_2 t0_3 t0_4 t0_5 t0_6 t0_7 t0_8 t0_9 t0_10 t0_11 t0_12 t0_13 t1_0) from Eq.trans (by have c70x := c70; rw [← e69] at c70x; rw [← e74, F_TR_half_L71.eq_2, if_neg c64, if_pos c70x]) hR59), (show True ∧ S_TR_half_L71 (S_TR_half_L7 t0_0 t0_1 t0_2 t0_3 t0_4 t0_5 t0_6 t0_7 t0_8 t0_9 t0_10 t0_11 t0_12 t0_13 t1_0 fm36) t0_0 t0_1 t0_2 t0_3 t0_4 t0_5 t0_6 t0_7 t0_8 t0_9 t0_10 t0_11 t0_12 t0_13 t1_0 lx24 lx25 lx26 lx39 lx40 fm63 a73 from (by rw [← e74]; have h := hS60; rw [S_TR_half_L71.eq_2] at h; rw [if_neg c64] at h; replace h := q_s2 h; have c70x := c70; rw [← e69] at c70x; rw [if_pos c70x] at h; with_reducible exact h))⟩⟩
    ·
      intro J43
      refine lv_if_le (tgt := 71) hx hb d_18_20_47 (by decide) (fun c78 => ?_) (fun c78 => ?_)
      ·
        exact J43 ((t0_9 : Int32), (lx26 : (Nat → Int32))) _ _ _ _ ⟨(show q_F (t0_9.toInt ≤ 2147483646) from (show t0_9.toInt ≤ 2147483646 from by have t1 : t0_9.toInt < lx24.toInt := b38; have _ := q_lo32 (x := lx24); have _ := q_hi32 (x := lx24); omega)), (show q_F (t0_9.toInt ≤ t0_9.toInt) from (show t0_9.toInt ≤ t0_9.toInt from by omega)), (show q_F (t0_9.toInt ≤ t0_9.toInt + 1) from (show t0_9.toInt ≤ t0_9.toInt + 1 from by omega)), V, q_lw hl (q_lw1 2 rfl q_lw0), hI, hF, hO30, hO31, (show F_TR_half_J71 (F_TR_half_L7 t0_0 t0_1 t0_2 t0_3 t0_4 t0_5 t0_6 t0_7 t0_8 t0_9 t0_10 t0_11 t0_12 t0_13 t1_0 fm36) t0_0 t0_1 t0_2 t0_3 t0_4 t0_5 t0_6 t0_7 t0_8 t0_9 t0_10 t0_11 t0_12 t0_13 t1_0 lx24 lx25 lx26 t0_9 lx26 = (F_TR_half t0_0 t0_1 t0_2 t0_3 t0_4 t0_5 t0_6 t0_7 t0_8 t0_9 t0_10 t0_11 t0_12 t0_13 t1_0) from Eq.trans (by rw [F_TR_half_L7.eq_2, if_pos c37, if_pos c78]) hR32), (show True ∧ S_TR_half_J71 (S_TR_half_L7 t0_0 t0_1 t0_2 t0_3 t0_4 t0_5 t0_6 t0_7 t0_8 t0_9 t0_10 t0_11 t0_12 t0_13 t1_0 fm36) t0_0 t0_1 t0_2 t0_3 t0_4 t0_5 t0_6 t0_7 t0_8 t0_9 t0_10 t0_11 t0_12 t0_13 t1_0 lx24 lx25 lx26 t0_9 lx26 from (by have h := hS33; rw [S_TR_half_L7.eq_2] at h; rw [if_pos c37] at h; rw [if_pos c78] at h; with_reducible exact h))⟩
      ·
        refine lv_aload_n hx hb d_18_20_50 rfl (lv_at hl 2 rfl) ?_
        refine lv_dup hx hb d_18_20_51 rfl ?_
        refine q_get (ci := 16) (j := 12) (v := .int t0_9) C0 V i_TR rfl rfl hO30 (by decide) w_2152 rfl d_18_20_52 ?_
        refine lv_iconst (v := 1) hx hb d_18_20_55 (by decide) ?_
        refine lv_iadd hx hb d_18_20_56 ?_
        obtain ⟨a81, e82⟩ := q_nm (t0_9 + 1 : Int32)
        refine q_ti (v := a81) e82 ?_
        have b83 : q_F (a81.toInt = t0_9.toInt + 1) := (by rw [← e82]; show (t0_9 + 1 : Int32).toInt = t0_9.toInt + 1; exact q_addI (x := t0_9.toInt) (y := 1) rfl (by decide) (by have _ := q_lo32 (x := t0_9); have _ := q_hi32 (x := t0_9); have t1 : t0_9.toInt < lx24.toInt := b38; have _ := q_lo32 (x := lx24); have _ := q_hi32 (x := lx24); omega) (by have _ := q_lo32 (x := t0_9); have _ := q_hi32 (x := t0_9); have t1 : t0_9.toInt < lx24.toInt := b38; have _ := q_lo32 (x := lx24); have _ := q_hi32 (x := lx24); omega))
        refine q_put (ci := 16) (j := 12) (v := .int a81) (ty := .int) C0 V i_TR o_TR n_TR rfl rfl hO30 (by decide) w_2152 rfl rfl rfl rfl (Nat.le_of_ble_eq_true rfl) d_18_20_57 (fun H locs w84 hu85 hO30 V => ?_)
        replace hO30 : w84[153]? = (some (q 153, .inr (16, [.int t0_0, .ref (q 154), .int t0_1, .int t0_2, .int t0_3, .int t0_4, .ref (q 155), .int t0_5, .int t0_6, .long t0_7, .ref (q 156), .int t0_8, .int a81, .long t0_10, .long t0_11, .int t0_12, .int t0_13])) : Option (Nat × va_E)) := hO30
        replace hI := n_p153 hI hu85 hO30 (by first | with_reducible exact q_fe btt0_1 | exact ⟨(by have t1 : 0 ≤ t0_1.toInt ∧ t0_1.toInt ≤ 4100 := btt0_1; omega), (by have t1 : 0 ≤ t0_1.toInt ∧ t0_1.toInt ≤ 4100 := btt0_1; omega)⟩) (by first | with_reducible exact q_fe btt0_4 | exact ⟨(by have t1 : 0 ≤ t0_4.toInt ∧ t0_4.toInt ≤ 1 := btt0_4; omega), (by have t1 : 0 ≤ t0_4.toInt ∧ t0_4.toInt ≤ 1 := btt0_4; omega)⟩) (by first | with_reducible exact q_fe btt0_13 | exact ⟨(by have t1 : 0 ≤ t0_13.toInt ∧ t0_13.toInt ≤ 1 := btt0_13; omega), (by have t1 : 0 ≤ t0_13.toInt ∧ t0_13.toInt ≤ 1 := btt0_13; omega)⟩)
        replace hO31 := (hu85 _ (by decide)).trans hO31
        replace hF := q_us hF hu85 (by simp)
        refine lv_aload_n hx hb d_18_20_60 rfl (lv_at hl 2 rfl) ?_
        refine q_get (ci := 16) (j := 10) (v := .ref (q 156)) C0 V i_TR rfl rfl hO30 (by decide) w_2150 rfl d_18_20_61 ?_
        refine lv_aload_n hx hb d_18_20_64 rfl (lv_at hl 2 rfl) ?_
        refine q_get (ci := 16) (j := 12) (v := .int a81) C0 V i_TR rfl rfl hO30 (by decide) w_2152 rfl d_18_20_65 ?_
        refine q_ldc C0 rfl w_2497 d_18_20_68 ?_
        have ob86 : q_F (0 ≤ a81.toInt) := (by rw [← e82]; have h := hS33; rw [S_TR_half_L7.eq_2] at h; rw [if_pos c37] at h; rw [if_neg c78] at h; exact h.2.1)
        have ob87 : q_F (a81.toInt ≤ 799) := (by rw [← e82]; have h := hS33; rw [S_TR_half_L7.eq_2] at h; rw [if_pos c37] at h; rw [if_neg c78] at h; replace h := q_s2 h; exact h.2.1)
        refine q_iast C0 V hO31 (q_ix (x := a81.toInt) rfl (by first | with_reducible exact q_fe ob86 | (have t1 : 0 ≤ a81.toInt := ob86; omega)) (by have t1 : 0 ≤ a81.toInt := ob86; have t2 : a81.toInt ≤ 799 := ob87; have e9 : (((800 : Int32).toNatClampNeg : Nat) : Int) = 800 := (by decide); omega)) d_18_20_70 (fun H locs w88 hu89 hO31 V => ?_)
        replace hI := n_ai' hI (n_r156 g q).1 hu89 hO31 (q_updB (fun _ => s_bnd) s_bnd)
        replace hO30 := (hu89 _ (by decide)).trans hO30
        replace hF := q_us hF hu89 (by simp)
        obtain ⟨f90, e91⟩ := q_nm (upd lx26 a81.toNatClampNeg 50000000 : (Nat → Int32))
        rw [e91] at hO31
        exact J43 ((a81 : Int32), (f90 : (Nat → Int32))) _ _ _ _ ⟨(show q_F (a81.toInt ≤ 2147483646) from (show a81.toInt ≤ 2147483646 from by have t1 : a81.toInt ≤ 799 := ob87; omega)), (show q_F (t0_9.toInt ≤ a81.toInt) from (show t0_9.toInt ≤ a81.toInt from by have t1 : a81.toInt = t0_9.toInt + 1 := b83; omega)), (show q_F (a81.toInt ≤ t0_9.toInt + 1) from (show a81.toInt ≤ t0_9.toInt + 1 from by have t1 : a81.toInt = t0_9.toInt + 1 := b83; omega)), V, q_lw hl (q_lw1 2 rfl q_lw0), hI, hF, hO30, hO31, (show F_TR_half_J71 (F_TR_half_L7 t0_0 t0_1 t0_2 t0_3 t0_4 t0_5 t0_6 t0_7 t0_8 t0_9 t0_10 t0_11 t0_12 t0_13 t1_0 fm36) t0_0 t0_1 t0_2 t0_3 t0_4 t0_5 t0_6 t0_7 t0_8 t0_9 t0_10 t0_11 t0_12 t0_13 t1_0 lx24 lx25 lx26 a81 f90 = (F_TR_half t0_0 t0_1 t0_2 t0_3 t0_4 t0_5 t0_6 t0_7 t0_8 t0_9 t0_10 t0_11 t0_12 t0_13 t1_0) from Eq.trans (by rw [← e91, ← e82, F_TR_half_L7.eq_2, if_pos c37, if_neg c78]) hR32), (show True ∧ S_TR_half_J71 (S_TR_half_L7 t0_0 t0_1 t0_2 t0_3 t0_4 t0_5 t0_6 t0_7 t0_8 t0_9 t0_10 t0_11 t0_12 t0_13 t1_0 fm36) t0_0 t0_1 t0_2 t0_3 t0_4 t0_5 t0_6 t0_7 t0_8 t0_9 t0_10 t0_11 t0_12 t0_13 t1_0 lx24 lx25 lx26 a81 f90 from (by rw [← e91, ← e82]; have h := hS33; rw [S_TR_half_L7.eq_2] at h; rw [if_pos c37] at h; rw [if_neg c78] at h; replace h := q_s2 h; replace h := q_s2 h; with_reducible exact h))⟩
  ·
    refine lv_aload_n hx hb d_18_20_15 rfl (lv_at hl 2 rfl) ?_
    refine q_get (ci := 16) (j := 10) (v := .ref (q 156)) C0 V i_TR rfl rfl hO30 (by decide) w_2150 rfl d_18_20_16 ?_
    refine lv_iload_n hx hb d_18_20_19 rfl (lv_at hl 0 rfl) ?_
    have ob93 : q_F (0 ≤ lx24.toInt) := (by have h := hS33; rw [S_TR_half_L7.eq_2] at h; rw [if_neg c37] at h; exact h.2.1)
    have ob94 : q_F (lx24.toInt ≤ 799) := (by have h := hS33; rw [S_TR_half_L7.eq_2] at h; rw [if_neg c37] at h; replace h := q_s2 h; exact h.2.1)
    refine q_iald C0 V hO31 (q_ix (x := lx24.toInt) rfl (by first | with_reducible exact q_fe ob93 | (have t1 : 0 ≤ lx24.toInt := ob93; omega)) (by have t1 : 0 ≤ lx24.toInt := ob93; have t2 : lx24.toInt ≤ 799 := ob94; have e9 : (((800 : Int32).toNatClampNeg : Nat) : Int) = 800 := (by decide); omega)) d_18_20_20 ?_
    obtain ⟨a95, e96⟩ := q_nm (lx26 lx24.toNatClampNeg : Int32)
    refine q_ti (v := a95) e96 ?_
    refine lv_iload_n hx hb d_18_20_21 rfl (lv_at hl 1 rfl) ?_
    refine q_ldc C0 rfl w_2496 d_18_20_22 ?_
    refine lv_imul hx hb d_18_20_24 ?_
    obtain ⟨a97, e98⟩ := q_nm (lx25 * 100000000 : Int32)
    refine q_ti (v := a97) e98 ?_
    refine lv_iadd hx hb d_18_20_25 ?_
    obtain ⟨a99, e100⟩ := q_nm (a95 + a97 : Int32)
    refine q_ti (v := a99) e100 ?_
    refine lv_istore_n (lv' := [(3, .int a99), (2, .int lx24), (1, .int lx25), (0, .ref (q 153))]) hx hb d_18_20_26 rfl hl (by decide) rfl (fun ls hl => ?_)
    refine lv_aload_n hx hb d_18_20_27 rfl (lv_at hl 3 rfl) ?_
    refine q_get (ci := 16) (j := 10) (v := .ref (q 156)) C0 V i_TR rfl rfl hO30 (by decide) w_2150 rfl d_18_20_28 ?_
    refine lv_iload_n hx hb d_18_20_31 rfl (lv_at hl 1 rfl) ?_
    refine lv_iload_n hx hb d_18_20_32 rfl (lv_at hl 0 rfl) ?_
    refine lv_iconst (v := 2) hx hb d_18_20_33 (by decide) ?_
    refine lv_idiv hx hb d_18_20_34 (by decide) ?_
    obtain ⟨a101, e102⟩ := q_nm (a99 / 2 : Int32)
    refine q_ti (v := a101) e102 ?_
    refine q_iast C0 V hO31 (q_ix (x := lx24.toInt) rfl (by first | with_reducible exact q_fe ob93 | (have t1 : 0 ≤ lx24.toInt := ob93; omega)) (by have t1 : 0 ≤ lx24.toInt := ob93; have t2 : lx24.toInt ≤ 799 := ob94; have e9 : (((800 : Int32).toNatClampNeg : Nat) : Int) = 800 := (by decide); omega)) d_18_20_35 (fun H locs w104 hu105 hO31 V => ?_)
    replace hI := n_ai' hI (n_r156 g q).1 hu105 hO31 (q_updB (fun _ => s_bnd) s_bnd)
    replace hO30 := (hu105 _ (by decide)).trans hO30
    replace hF := q_us hF hu105 (by simp)
    obtain ⟨f106, e107⟩ := q_nm (upd lx26 lx24.toNatClampNeg a101 : (Nat → Int32))
    rw [e107] at hO31
    refine lv_iload_n hx hb d_18_20_36 rfl (lv_at hl 0 rfl) ?_
    refine lv_iconst (v := 2) hx hb d_18_20_37 (by decide) ?_
    refine lv_irem hx hb d_18_20_38 (by decide) ?_
    obtain ⟨a108, e109⟩ := q_nm (a99 - a99 / 2 * 2 : Int32)
    refine q_ti (v := a108) e109 ?_
    refine lv_istore_n (lv' := [(1, .int a108), (3, .int a99), (2, .int lx24), (0, .ref (q 153))]) hx hb d_18_20_39 rfl hl (by decide) rfl (fun ls hl => ?_)
    obtain ⟨a110, e111⟩ := q_nm (lx24 + 1 : Int32)
    have b112 : q_F (a110.toInt = lx24.toInt + 1) := (by rw [← e111]; exact q_addI (y := 1) rfl (by decide) (by have t1 : 0 ≤ lx24.toInt := ob93; have t2 : lx24.toInt ≤ 799 := ob94; omega) (by have t1 : 0 ≤ lx24.toInt := ob93; have t2 : lx24.toInt ≤ 799 := ob94; omega))
    refine lv_iinc (v := a110) (lv' := [(2, .int a110), (1, .int a108), (3, .int a99), (0, .ref (q 153))]) hx hb d_18_20_40 hl (k := 2) rfl (e111) (by decide) rfl (fun ls hl => ?_)
    refine lv_goto (tgt := 7) hx hb d_18_20_43 (by decide) ?_
    exact ih28 ((a110 : Int32), (a108 : Int32), (f106 : (Nat → Int32))) _ _ _ _ (show (4100 - a110.toInt).toNat < (4100 - lx24.toInt).toNat from by have t1 : a110.toInt = lx24.toInt + 1 := b112; have t2 : lx24.toInt ≤ 799 := ob94; omega) ⟨(show q_F (t0_8.toInt ≤ a110.toInt) from (show t0_8.toInt ≤ a110.toInt from by have t1 : t0_8.toInt ≤ lx24.toInt := i27; have t2 : a110.toInt = lx24.toInt + 1 := b112; omega)), V, q_lw hl (q_lw1 0 rfl (q_lw1 1 rfl (q_lw1 3 rfl q_lw0))), hI, hF, hO30, hO31, ⟨fm36, Nat.lt_of_lt_of_le (show (4100 - a110.toInt).toNat < (4100 - lx24.toInt).toNat from by have t1 : a110.toInt = lx24.toInt + 1 := b112; have t2 : lx24.toInt ≤ 799 := ob94; omega) (Nat.le_of_lt_succ hf35), (show F_TR_half_L7 t0_0 t0_1 t0_2 t0_3 t0_4 t0_5 t0_6 t0_7 t0_8 t0_9 t0_10 t0_11 t0_12 t0_13 t1_0 fm36 a110 a108 f106 = (F_TR_half t0_0 t0_1 t0_2 t0_3 t0_4 t0_5 t0_6 t0_7 t0_8 t0_9 t0_10 t0_11 t0_12 t0_13 t1_0) from Eq.trans (by rw [← e111, ← e109, ← e107, ← e102, ← e100, ← e98, ← e96, F_TR_half_L7.eq_2, if_neg c37]) hR32), (show True ∧ S_TR_half_L7 t0_0 t0_1 t0_2 t0_3 t0_4 t0_5 t0_6 t0_7 t0_8 t0_9 t0_10 t0_11 t0_12 t0_13 t1_0 fm36 a110 a108 f106 from (by rw [← e111, ← e109, ← e107, ← e102, ← e100, ← e98, ← e96]; have h := hS33; rw [S_TR_half_L7.eq_2] at h; rw [if_neg c37] at h; replace h := q_s2 h; replace h := q_s2 h; with_reducible exact h))⟩⟩

