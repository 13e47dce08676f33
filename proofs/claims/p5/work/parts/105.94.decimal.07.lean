theorem d_15_11_0 : decode prog_15_method_11_code 0 = .ok (.aload_n 0, 1) := by decide +kernel
theorem d_15_11_1 : decode prog_15_method_11_code 1 = .ok (.iload_n 1, 1) := by decide +kernel
theorem d_15_11_2 : decode prog_15_method_11_code 2 = .ok (.iload_n 2, 1) := by decide +kernel
theorem d_15_11_3 : decode prog_15_method_11_code 3 = .ok (.invokevirtual 73, 3) := by decide +kernel
set_option maxRecDepth 100000 in
theorem w_2819 : (Cond.code ({ cls := "NumberHouseModel$DecimalRows", name := "grows", desc := "(II)I" } : MethodName) prog_15_method_10_code (7 : Nat) (some .int)) ∈ q_tbl := q_of12 179 rfl (by decide +kernel)
set_option maxRecDepth 100000 in
theorem w_2816 : (Cond.methodLink "NumberHouseModel$DecimalRows" (73 : Nat) ({ cls := "NumberHouseModel$DecimalRows", name := "grows", desc := "(II)I" } : MethodName)) ∈ q_tbl := q_of12 176 rfl (by decide +kernel)
set_option maxRecDepth 100000 in
theorem w_2818 : (Cond.instanceMethod ({ cls := "NumberHouseModel$DecimalRows", name := "grows", desc := "(II)I" } : MethodName)) ∈ q_tbl := q_of12 178 rfl (by decide +kernel)
theorem ws_116 : Cond.selects "NumberHouseModel$DecimalRows" (⟨"NumberHouseModel$DecimalRows", "grows", "(II)I"⟩ : MethodName) (⟨"NumberHouseModel$DecimalRows", "grows", "(II)I"⟩ : MethodName) ∈ q_tbl := q_ofs 116 (by decide +kernel) (by decide +kernel)
theorem LV_DR_73 : q_LV "NumberHouseModel$DecimalRows" 73 y_DR_grows prog_15_method_10_code 7 (some .int) 2 := ⟨w_2819, w_16, w_2816, w_2818, ws_116, ⟨by decide, by decide, by decide +kernel⟩⟩
theorem d_15_11_6 : decode prog_15_method_11_code 6 = .ok (.istore_n 3, 1) := by decide +kernel
theorem d_15_11_7 : decode prog_15_method_11_code 7 = .ok (.iload_n 3, 1) := by decide +kernel
theorem d_15_11_8 : decode prog_15_method_11_code 8 = .ok (.iconst 2, 1) := by decide +kernel
theorem d_15_11_9 : decode prog_15_method_11_code 9 = .ok (.if_icmp .ne 13, 3) := by decide +kernel
theorem d_15_11_22 : decode prog_15_method_11_code 22 = .ok (.aload_n 0, 1) := by decide +kernel
theorem d_15_11_23 : decode prog_15_method_11_code 23 = .ok (.aload_n 0, 1) := by decide +kernel
theorem d_15_11_24 : decode prog_15_method_11_code 24 = .ok (.getfield 48, 3) := by decide +kernel
theorem d_15_11_27 : decode prog_15_method_11_code 27 = .ok (.aload_n 0, 1) := by decide +kernel
theorem d_15_11_28 : decode prog_15_method_11_code 28 = .ok (.getfield 45, 3) := by decide +kernel
theorem d_15_11_31 : decode prog_15_method_11_code 31 = .ok (.iload_n 1, 1) := by decide +kernel
theorem d_15_11_32 : decode prog_15_method_11_code 32 = .ok (.isub, 1) := by decide +kernel
theorem d_15_11_33 : decode prog_15_method_11_code 33 = .ok (.i2l, 1) := by decide +kernel
theorem d_15_11_34 : decode prog_15_method_11_code 34 = .ok (.lsub, 1) := by decide +kernel
theorem d_15_11_35 : decode prog_15_method_11_code 35 = .ok (.putfield 48, 3) := by decide +kernel
theorem d_15_11_38 : decode prog_15_method_11_code 38 = .ok (.aload_n 0, 1) := by decide +kernel
theorem d_15_11_39 : decode prog_15_method_11_code 39 = .ok (.iload_n 1, 1) := by decide +kernel
theorem d_15_11_48 : decode prog_15_method_11_code 48 = .ok (.putfield 45, 3) := by decide +kernel
theorem d_15_11_51 : decode prog_15_method_11_code 51 = .ok (.aload_n 0, 1) := by decide +kernel
theorem d_15_11_52 : decode prog_15_method_11_code 52 = .ok (.iconst 0, 1) := by decide +kernel
theorem d_15_11_53 : decode prog_15_method_11_code 53 = .ok (.putfield 52, 3) := by decide +kernel
theorem d_15_11_56 : decode prog_15_method_11_code 56 = .ok (.aload_n 0, 1) := by decide +kernel
theorem d_15_11_57 : decode prog_15_method_11_code 57 = .ok (.getfield 45, 3) := by decide +kernel
theorem d_15_11_60 : decode prog_15_method_11_code 60 = .ok (.iconst 1, 1) := by decide +kernel
theorem d_15_11_61 : decode prog_15_method_11_code 61 = .ok (.isub, 1) := by decide +kernel
theorem d_15_11_62 : decode prog_15_method_11_code 62 = .ok (.istore 4, 2) := by decide +kernel
theorem d_15_11_64 : decode prog_15_method_11_code 64 = .ok (.iload_n 3, 1) := by decide +kernel
theorem d_15_11_65 : decode prog_15_method_11_code 65 = .ok (.iconst 1, 1) := by decide +kernel
theorem d_15_11_130 : decode prog_15_method_11_code 130 = .ok (.iload_n 3, 1) := by decide +kernel
theorem d_15_11_131 : decode prog_15_method_11_code 131 = .ok (.iconst 1, 1) := by decide +kernel
theorem d_15_11_132 : decode prog_15_method_11_code 132 = .ok (.if_icmp .ne 53, 3) := by decide +kernel
theorem d_15_11_185 : decode prog_15_method_11_code 185 = .ok (.iconst 1, 1) := by decide +kernel
theorem d_15_11_186 : decode prog_15_method_11_code 186 = .ok (.ireturn, 1) := by decide +kernel
theorem d_15_11_135 : decode prog_15_method_11_code 135 = .ok (.aload_n 0, 1) := by decide +kernel
theorem d_15_11_136 : decode prog_15_method_11_code 136 = .ok (.getfield 45, 3) := by decide +kernel
theorem d_15_11_139 : decode prog_15_method_11_code 139 = .ok (.istore 5, 2) := by decide +kernel
theorem d_15_11_141 : decode prog_15_method_11_code 141 = .ok (.iload 5, 2) := by decide +kernel
theorem d_15_11_143 : decode prog_15_method_11_code 143 = .ok (.ifCond .le 25, 3) := by decide +kernel
theorem d_15_11_168 : decode prog_15_method_11_code 168 = .ok (.aload_n 0, 1) := by decide +kernel
theorem d_15_11_169 : decode prog_15_method_11_code 169 = .ok (.getfield 26, 3) := by decide +kernel
theorem d_15_11_172 : decode prog_15_method_11_code 172 = .ok (.iconst 0, 1) := by decide +kernel
theorem d_15_11_173 : decode prog_15_method_11_code 173 = .ok (.iconst 1, 1) := by decide +kernel
theorem d_15_11_174 : decode prog_15_method_11_code 174 = .ok (.iastore, 1) := by decide +kernel
theorem d_15_11_175 : decode prog_15_method_11_code 175 = .ok (.aload_n 0, 1) := by decide +kernel
theorem d_15_11_176 : decode prog_15_method_11_code 176 = .ok (.dup, 1) := by decide +kernel
theorem d_15_11_177 : decode prog_15_method_11_code 177 = .ok (.getfield 45, 3) := by decide +kernel
theorem d_15_11_180 : decode prog_15_method_11_code 180 = .ok (.iconst 1, 1) := by decide +kernel
theorem d_15_11_181 : decode prog_15_method_11_code 181 = .ok (.iadd, 1) := by decide +kernel
theorem d_15_11_182 : decode prog_15_method_11_code 182 = .ok (.putfield 45, 3) := by decide +kernel
theorem d_15_11_146 : decode prog_15_method_11_code 146 = .ok (.aload_n 0, 1) := by decide +kernel
theorem d_15_11_147 : decode prog_15_method_11_code 147 = .ok (.getfield 26, 3) := by decide +kernel
theorem d_15_11_150 : decode prog_15_method_11_code 150 = .ok (.iload 5, 2) := by decide +kernel
theorem d_15_11_152 : decode prog_15_method_11_code 152 = .ok (.aload_n 0, 1) := by decide +kernel
theorem d_15_11_153 : decode prog_15_method_11_code 153 = .ok (.getfield 26, 3) := by decide +kernel
theorem d_15_11_156 : decode prog_15_method_11_code 156 = .ok (.iload 5, 2) := by decide +kernel
theorem d_15_11_158 : decode prog_15_method_11_code 158 = .ok (.iconst 1, 1) := by decide +kernel
theorem d_15_11_159 : decode prog_15_method_11_code 159 = .ok (.isub, 1) := by decide +kernel
theorem d_15_11_160 : decode prog_15_method_11_code 160 = .ok (.iaload, 1) := by decide +kernel
theorem d_15_11_161 : decode prog_15_method_11_code 161 = .ok (.iastore, 1) := by decide +kernel
theorem d_15_11_162 : decode prog_15_method_11_code 162 = .ok (.iinc 5 (-1), 3) := by decide +kernel
theorem d_15_11_165 : decode prog_15_method_11_code 165 = .ok (.goto (-24), 3) := by decide +kernel
theorem d_15_11_66 : decode prog_15_method_11_code 66 = .ok (.if_icmp .ne 64, 3) := by decide +kernel
theorem d_15_11_69 : decode prog_15_method_11_code 69 = .ok (.iload 4, 2) := by decide +kernel
theorem d_15_11_71 : decode prog_15_method_11_code 71 = .ok (.ifCond .lt 59, 3) := by decide +kernel
theorem d_15_11_74 : decode prog_15_method_11_code 74 = .ok (.aload_n 0, 1) := by decide +kernel
theorem d_15_11_75 : decode prog_15_method_11_code 75 = .ok (.getfield 26, 3) := by decide +kernel
theorem d_15_11_78 : decode prog_15_method_11_code 78 = .ok (.iload 4, 2) := by decide +kernel
theorem d_15_11_80 : decode prog_15_method_11_code 80 = .ok (.iaload, 1) := by decide +kernel
theorem d_15_11_81 : decode prog_15_method_11_code 81 = .ok (.bipush 9, 2) := by decide +kernel
theorem d_15_11_91 : decode prog_15_method_11_code 91 = .ok (.istore_n 3, 1) := by decide +kernel
theorem d_15_11_92 : decode prog_15_method_11_code 92 = .ok (.aload_n 0, 1) := by decide +kernel
theorem d_15_11_93 : decode prog_15_method_11_code 93 = .ok (.getfield 26, 3) := by decide +kernel
theorem d_15_11_96 : decode prog_15_method_11_code 96 = .ok (.iload 4, 2) := by decide +kernel
theorem d_15_11_98 : decode prog_15_method_11_code 98 = .ok (.aload_n 0, 1) := by decide +kernel
theorem d_15_11_99 : decode prog_15_method_11_code 99 = .ok (.getfield 26, 3) := by decide +kernel
theorem d_15_11_102 : decode prog_15_method_11_code 102 = .ok (.iload 4, 2) := by decide +kernel
theorem d_15_11_104 : decode prog_15_method_11_code 104 = .ok (.iaload, 1) := by decide +kernel
theorem d_15_11_105 : decode prog_15_method_11_code 105 = .ok (.bipush 9, 2) := by decide +kernel
theorem d_15_11_107 : decode prog_15_method_11_code 107 = .ok (.if_icmp .ne 7, 3) := by decide +kernel
theorem d_15_11_114 : decode prog_15_method_11_code 114 = .ok (.aload_n 0, 1) := by decide +kernel
theorem d_15_11_115 : decode prog_15_method_11_code 115 = .ok (.getfield 26, 3) := by decide +kernel
theorem d_15_11_118 : decode prog_15_method_11_code 118 = .ok (.iload 4, 2) := by decide +kernel
theorem d_15_11_120 : decode prog_15_method_11_code 120 = .ok (.iaload, 1) := by decide +kernel
theorem d_15_11_121 : decode prog_15_method_11_code 121 = .ok (.iconst 1, 1) := by decide +kernel
theorem d_15_11_122 : decode prog_15_method_11_code 122 = .ok (.iadd, 1) := by decide +kernel
theorem d_15_11_123 : decode prog_15_method_11_code 123 = .ok (.iastore, 1) := by decide +kernel
theorem d_15_11_124 : decode prog_15_method_11_code 124 = .ok (.iinc 4 (-1), 3) := by decide +kernel
theorem d_15_11_127 : decode prog_15_method_11_code 127 = .ok (.goto (-63), 3) := by decide +kernel
theorem d_15_11_110 : decode prog_15_method_11_code 110 = .ok (.iconst 0, 1) := by decide +kernel
theorem d_15_11_111 : decode prog_15_method_11_code 111 = .ok (.goto 12, 3) := by decide +kernel
theorem d_15_11_83 : decode prog_15_method_11_code 83 = .ok (.if_icmp .ne 7, 3) := by decide +kernel
theorem d_15_11_90 : decode prog_15_method_11_code 90 = .ok (.iconst 0, 1) := by decide +kernel
theorem d_15_11_86 : decode prog_15_method_11_code 86 = .ok (.iconst 1, 1) := by decide +kernel
theorem d_15_11_87 : decode prog_15_method_11_code 87 = .ok (.goto 4, 3) := by decide +kernel
theorem d_15_11_40 : decode prog_15_method_11_code 40 = .ok (.ifCond .ge 7, 3) := by decide +kernel
theorem d_15_11_47 : decode prog_15_method_11_code 47 = .ok (.iload_n 1, 1) := by decide +kernel
theorem d_15_11_43 : decode prog_15_method_11_code 43 = .ok (.iconst 0, 1) := by decide +kernel
theorem d_15_11_44 : decode prog_15_method_11_code 44 = .ok (.goto 4, 3) := by decide +kernel
theorem d_15_11_12 : decode prog_15_method_11_code 12 = .ok (.aload_n 0, 1) := by decide +kernel
theorem d_15_11_13 : decode prog_15_method_11_code 13 = .ok (.aload_n 0, 1) := by decide +kernel
theorem d_15_11_14 : decode prog_15_method_11_code 14 = .ok (.getfield 66, 3) := by decide +kernel
theorem d_15_11_17 : decode prog_15_method_11_code 17 = .ok (.putfield 41, 3) := by decide +kernel
theorem d_15_11_20 : decode prog_15_method_11_code 20 = .ok (.iconst 0, 1) := by decide +kernel
theorem d_15_11_21 : decode prog_15_method_11_code 21 = .ok (.ireturn, 1) := by decide +kernel
def y_DR_cut : MethodName := ⟨"NumberHouseModel$DecimalRows", "cut", "(II)Z"⟩
def F_DR_cut_L141 (K_F_DR_cut_L64 : Int32 → Int32 → (Nat → Int32) → (Int32 × Int32 × Int32 × Int32 × Int64 × Int32 × Int32 × Int32 × Int32 × Int32 × Int32 × Int32 × (Nat → Int32))) (x2 : Int32) (x3 : Int32) (t0_0 : Int32) (t0_1 : Int32) (t0_2 : Int32) (t0_3 : Int64) (t0_4 : Int32) (t0_5 : Int32) (t0_6 : Int32) (t0_7 : Int32) (t0_8 : Int32) (t0_9 : Int32) (t0_10 : Int32) (t1_0 : (Nat → Int32)) (a23 : Int32) (j35 : Int64) (lx39 : Int32) (lx59 : Int32) (lx60 : Int32) (lx61 : (Nat → Int32)) : Nat → Int32 → (Nat → Int32) → (Int32 × Int32 × Int32 × Int32 × Int64 × Int32 × Int32 × Int32 × Int32 × Int32 × Int32 × Int32 × (Nat → Int32))
  | 0, _, _ => default
  | fm + 1, lx88, lx89 => if lx88 ≤ (0 : Int32) then (((1 : Int32), t0_0, t0_1, (lx39 + 1 : Int32), j35, (0 : Int32), t0_5, t0_6, t0_7, t0_8, t0_9, t0_10, (upd lx89 (0 : Int32).toNatClampNeg 1 : (Nat → Int32)))) else (F_DR_cut_L141 K_F_DR_cut_L64 x2 x3 t0_0 t0_1 t0_2 t0_3 t0_4 t0_5 t0_6 t0_7 t0_8 t0_9 t0_10 t1_0 a23 j35 lx39 lx59 lx60 lx61 fm (lx88 + (-1) : Int32) (upd lx89 lx88.toNatClampNeg (lx89 (lx88 - 1 : Int32).toNatClampNeg : Int32) : (Nat → Int32)))
def F_DR_cut_J130 (K_F_DR_cut_L64 : Int32 → Int32 → (Nat → Int32) → (Int32 × Int32 × Int32 × Int32 × Int64 × Int32 × Int32 × Int32 × Int32 × Int32 × Int32 × Int32 × (Nat → Int32))) (x2 : Int32) (x3 : Int32) (t0_0 : Int32) (t0_1 : Int32) (t0_2 : Int32) (t0_3 : Int64) (t0_4 : Int32) (t0_5 : Int32) (t0_6 : Int32) (t0_7 : Int32) (t0_8 : Int32) (t0_9 : Int32) (t0_10 : Int32) (t1_0 : (Nat → Int32)) (a23 : Int32) (j35 : Int64) (lx39 : Int32) (lx59 : Int32) (lx60 : Int32) (lx61 : (Nat → Int32)) : Int32 × Int32 × Int32 × Int32 × Int64 × Int32 × Int32 × Int32 × Int32 × Int32 × Int32 × Int32 × (Nat → Int32) := if lx60 = (1 : Int32) then (F_DR_cut_L141 K_F_DR_cut_L64 x2 x3 t0_0 t0_1 t0_2 t0_3 t0_4 t0_5 t0_6 t0_7 t0_8 t0_9 t0_10 t1_0 a23 j35 lx39 lx59 lx60 lx61 ((lx39.toInt - ((-1))).toNat + 1) lx39 lx61) else (((1 : Int32), t0_0, t0_1, lx39, j35, (0 : Int32), t0_5, t0_6, t0_7, t0_8, t0_9, t0_10, lx61))
def F_DR_cut_J91 (K_F_DR_cut_L64 : Int32 → Int32 → (Nat → Int32) → (Int32 × Int32 × Int32 × Int32 × Int64 × Int32 × Int32 × Int32 × Int32 × Int32 × Int32 × Int32 × (Nat → Int32))) (x2 : Int32) (x3 : Int32) (t0_0 : Int32) (t0_1 : Int32) (t0_2 : Int32) (t0_3 : Int64) (t0_4 : Int32) (t0_5 : Int32) (t0_6 : Int32) (t0_7 : Int32) (t0_8 : Int32) (t0_9 : Int32) (t0_10 : Int32) (t1_0 : (Nat → Int32)) (a23 : Int32) (j35 : Int64) (lx39 : Int32) (lx59 : Int32) (lx60 : Int32) (lx61 : (Nat → Int32)) (lx135 : Int32) : Int32 × Int32 × Int32 × Int32 × Int64 × Int32 × Int32 × Int32 × Int32 × Int32 × Int32 × Int32 × (Nat → Int32) := if (lx61 lx59.toNatClampNeg : Int32) = (9 : Int32) then (K_F_DR_cut_L64 (lx59 + (-1) : Int32) lx135 (upd lx61 lx59.toNatClampNeg 0 : (Nat → Int32))) else (K_F_DR_cut_L64 (lx59 + (-1) : Int32) lx135 (upd lx61 lx59.toNatClampNeg ((lx61 lx59.toNatClampNeg : Int32) + 1 : Int32) : (Nat → Int32)))
def F_DR_cut_L64 (x2 : Int32) (x3 : Int32) (t0_0 : Int32) (t0_1 : Int32) (t0_2 : Int32) (t0_3 : Int64) (t0_4 : Int32) (t0_5 : Int32) (t0_6 : Int32) (t0_7 : Int32) (t0_8 : Int32) (t0_9 : Int32) (t0_10 : Int32) (t1_0 : (Nat → Int32)) (a23 : Int32) (j35 : Int64) (lx39 : Int32) : Nat → Int32 → Int32 → (Nat → Int32) → (Int32 × Int32 × Int32 × Int32 × Int64 × Int32 × Int32 × Int32 × Int32 × Int32 × Int32 × Int32 × (Nat → Int32))
  | 0, _, _, _ => default
  | fm + 1, lx59, lx60, lx61 => if lx60 = (1 : Int32) then (if lx59 < (0 : Int32) then (F_DR_cut_J130 (F_DR_cut_L64 x2 x3 t0_0 t0_1 t0_2 t0_3 t0_4 t0_5 t0_6 t0_7 t0_8 t0_9 t0_10 t1_0 a23 j35 lx39 fm) x2 x3 t0_0 t0_1 t0_2 t0_3 t0_4 t0_5 t0_6 t0_7 t0_8 t0_9 t0_10 t1_0 a23 j35 lx39 lx59 lx60 lx61) else (if (lx61 lx59.toNatClampNeg : Int32) = (9 : Int32) then (F_DR_cut_J91 (F_DR_cut_L64 x2 x3 t0_0 t0_1 t0_2 t0_3 t0_4 t0_5 t0_6 t0_7 t0_8 t0_9 t0_10 t1_0 a23 j35 lx39 fm) x2 x3 t0_0 t0_1 t0_2 t0_3 t0_4 t0_5 t0_6 t0_7 t0_8 t0_9 t0_10 t1_0 a23 j35 lx39 lx59 lx60 lx61 1) else (F_DR_cut_J91 (F_DR_cut_L64 x2 x3 t0_0 t0_1 t0_2 t0_3 t0_4 t0_5 t0_6 t0_7 t0_8 t0_9 t0_10 t1_0 a23 j35 lx39 fm) x2 x3 t0_0 t0_1 t0_2 t0_3 t0_4 t0_5 t0_6 t0_7 t0_8 t0_9 t0_10 t1_0 a23 j35 lx39 lx59 lx60 lx61 0))) else (F_DR_cut_J130 (F_DR_cut_L64 x2 x3 t0_0 t0_1 t0_2 t0_3 t0_4 t0_5 t0_6 t0_7 t0_8 t0_9 t0_10 t1_0 a23 j35 lx39 fm) x2 x3 t0_0 t0_1 t0_2 t0_3 t0_4 t0_5 t0_6 t0_7 t0_8 t0_9 t0_10 t1_0 a23 j35 lx39 lx59 lx60 lx61)
def F_DR_cut_J48 (x2 : Int32) (x3 : Int32) (t0_0 : Int32) (t0_1 : Int32) (t0_2 : Int32) (t0_3 : Int64) (t0_4 : Int32) (t0_5 : Int32) (t0_6 : Int32) (t0_7 : Int32) (t0_8 : Int32) (t0_9 : Int32) (t0_10 : Int32) (t1_0 : (Nat → Int32)) (a23 : Int32) (j35 : Int64) (lx39 : Int32) : Int32 × Int32 × Int32 × Int32 × Int64 × Int32 × Int32 × Int32 × Int32 × Int32 × Int32 × Int32 × (Nat → Int32) := F_DR_cut_L64 x2 x3 t0_0 t0_1 t0_2 t0_3 t0_4 t0_5 t0_6 t0_7 t0_8 t0_9 t0_10 t1_0 a23 j35 lx39 (((lx39 - 1 : Int32).toInt - ((-1))).toNat + 1) (lx39 - 1 : Int32) a23 t1_0
def F_DR_cut (x2 : Int32) (x3 : Int32) (t0_0 : Int32) (t0_1 : Int32) (t0_2 : Int32) (t0_3 : Int64) (t0_4 : Int32) (t0_5 : Int32) (t0_6 : Int32) (t0_7 : Int32) (t0_8 : Int32) (t0_9 : Int32) (t0_10 : Int32) (t1_0 : (Nat → Int32)) : Int32 × Int32 × Int32 × Int32 × Int64 × Int32 × Int32 × Int32 × Int32 × Int32 × Int32 × Int32 × (Nat → Int32) := if ((F_DR_grows x2 x3 t0_0 t0_1 t0_2 t0_3 t0_4 t0_5 t0_6 t0_7 t0_8 t0_9 t0_10 t1_0) : Int32) = (2 : Int32) then (((0 : Int32), t0_10, t0_1, t0_2, t0_3, t0_4, t0_5, t0_6, t0_7, t0_8, t0_9, t0_10, t1_0)) else (if (0 : Int32) ≤ x2 then (F_DR_cut_J48 x2 x3 t0_0 t0_1 t0_2 t0_3 t0_4 t0_5 t0_6 t0_7 t0_8 t0_9 t0_10 t1_0 ((F_DR_grows x2 x3 t0_0 t0_1 t0_2 t0_3 t0_4 t0_5 t0_6 t0_7 t0_8 t0_9 t0_10 t1_0) : Int32) (t0_3 - ((t0_2 - x2 : Int32).toInt64 : Int64) : Int64) x2) else (F_DR_cut_J48 x2 x3 t0_0 t0_1 t0_2 t0_3 t0_4 t0_5 t0_6 t0_7 t0_8 t0_9 t0_10 t1_0 ((F_DR_grows x2 x3 t0_0 t0_1 t0_2 t0_3 t0_4 t0_5 t0_6 t0_7 t0_8 t0_9 t0_10 t1_0) : Int32) (t0_3 - ((t0_2 - x2 : Int32).toInt64 : Int64) : Int64) 0))
def S_DR_cut_L141 (K_S_DR_cut_L64 : Int32 → Int32 → (Nat → Int32) → Prop) (x2 : Int32) (x3 : Int32) (t0_0 : Int32) (t0_1 : Int32) (t0_2 : Int32) (t0_3 : Int64) (t0_4 : Int32) (t0_5 : Int32) (t0_6 : Int32) (t0_7 : Int32) (t0_8 : Int32) (t0_9 : Int32) (t0_10 : Int32) (t1_0 : (Nat → Int32)) (a23 : Int32) (j35 : Int64) (lx39 : Int32) (lx59 : Int32) (lx60 : Int32) (lx61 : (Nat → Int32)) : Nat → Int32 → (Nat → Int32) → Prop
  | 0, _, _ => False
  | fm + 1, lx88, lx89 => if lx88 ≤ (0 : Int32) then (True) else (((lx88 - 1 : Int32).toInt ≤ 4399) ∧ ((lx88.toInt ≤ 4399) ∧ (S_DR_cut_L141 K_S_DR_cut_L64 x2 x3 t0_0 t0_1 t0_2 t0_3 t0_4 t0_5 t0_6 t0_7 t0_8 t0_9 t0_10 t1_0 a23 j35 lx39 lx59 lx60 lx61 fm (lx88 + (-1) : Int32) (upd lx89 lx88.toNatClampNeg (lx89 (lx88 - 1 : Int32).toNatClampNeg : Int32) : (Nat → Int32)))))
def S_DR_cut_J130 (K_S_DR_cut_L64 : Int32 → Int32 → (Nat → Int32) → Prop) (x2 : Int32) (x3 : Int32) (t0_0 : Int32) (t0_1 : Int32) (t0_2 : Int32) (t0_3 : Int64) (t0_4 : Int32) (t0_5 : Int32) (t0_6 : Int32) (t0_7 : Int32) (t0_8 : Int32) (t0_9 : Int32) (t0_10 : Int32) (t1_0 : (Nat → Int32)) (a23 : Int32) (j35 : Int64) (lx39 : Int32) (lx59 : Int32) (lx60 : Int32) (lx61 : (Nat → Int32)) : Prop := if lx60 = (1 : Int32) then (S_DR_cut_L141 K_S_DR_cut_L64 x2 x3 t0_0 t0_1 t0_2 t0_3 t0_4 t0_5 t0_6 t0_7 t0_8 t0_9 t0_10 t1_0 a23 j35 lx39 lx59 lx60 lx61 ((lx39.toInt - ((-1))).toNat + 1) lx39 lx61) else (True)
def S_DR_cut_J91 (K_S_DR_cut_L64 : Int32 → Int32 → (Nat → Int32) → Prop) (x2 : Int32) (x3 : Int32) (t0_0 : Int32) (t0_1 : Int32) (t0_2 : Int32) (t0_3 : Int64) (t0_4 : Int32) (t0_5 : Int32) (t0_6 : Int32) (t0_7 : Int32) (t0_8 : Int32) (t0_9 : Int32) (t0_10 : Int32) (t1_0 : (Nat → Int32)) (a23 : Int32) (j35 : Int64) (lx39 : Int32) (lx59 : Int32) (lx60 : Int32) (lx61 : (Nat → Int32)) (lx135 : Int32) : Prop := if (lx61 lx59.toNatClampNeg : Int32) = (9 : Int32) then (K_S_DR_cut_L64 (lx59 + (-1) : Int32) lx135 (upd lx61 lx59.toNatClampNeg 0 : (Nat → Int32))) else (K_S_DR_cut_L64 (lx59 + (-1) : Int32) lx135 (upd lx61 lx59.toNatClampNeg ((lx61 lx59.toNatClampNeg : Int32) + 1 : Int32) : (Nat → Int32)))
def S_DR_cut_L64 (x2 : Int32) (x3 : Int32) (t0_0 : Int32) (t0_1 : Int32) (t0_2 : Int32) (t0_3 : Int64) (t0_4 : Int32) (t0_5 : Int32) (t0_6 : Int32) (t0_7 : Int32) (t0_8 : Int32) (t0_9 : Int32) (t0_10 : Int32) (t1_0 : (Nat → Int32)) (a23 : Int32) (j35 : Int64) (lx39 : Int32) : Nat → Int32 → Int32 → (Nat → Int32) → Prop
  | 0, _, _, _ => False
  | fm + 1, lx59, lx60, lx61 => if lx60 = (1 : Int32) then (if lx59 < (0 : Int32) then (S_DR_cut_J130 (S_DR_cut_L64 x2 x3 t0_0 t0_1 t0_2 t0_3 t0_4 t0_5 t0_6 t0_7 t0_8 t0_9 t0_10 t1_0 a23 j35 lx39 fm) x2 x3 t0_0 t0_1 t0_2 t0_3 t0_4 t0_5 t0_6 t0_7 t0_8 t0_9 t0_10 t1_0 a23 j35 lx39 lx59 lx60 lx61) else ((lx59.toInt ≤ 4399) ∧ (if (lx61 lx59.toNatClampNeg : Int32) = (9 : Int32) then (S_DR_cut_J91 (S_DR_cut_L64 x2 x3 t0_0 t0_1 t0_2 t0_3 t0_4 t0_5 t0_6 t0_7 t0_8 t0_9 t0_10 t1_0 a23 j35 lx39 fm) x2 x3 t0_0 t0_1 t0_2 t0_3 t0_4 t0_5 t0_6 t0_7 t0_8 t0_9 t0_10 t1_0 a23 j35 lx39 lx59 lx60 lx61 1) else (S_DR_cut_J91 (S_DR_cut_L64 x2 x3 t0_0 t0_1 t0_2 t0_3 t0_4 t0_5 t0_6 t0_7 t0_8 t0_9 t0_10 t1_0 a23 j35 lx39 fm) x2 x3 t0_0 t0_1 t0_2 t0_3 t0_4 t0_5 t0_6 t0_7 t0_8 t0_9 t0_10 t1_0 a23 j35 lx39 lx59 lx60 lx61 0)))) else (S_DR_cut_J130 (S_DR_cut_L64 x2 x3 t0_0 t0_1 t0_2 t0_3 t0_4 t0_5 t0_6 t0_7 t0_8 t0_9 t0_10 t1_0 a23 j35 lx39 fm) x2 x3 t0_0 t0_1 t0_2 t0_3 t0_4 t0_5 t0_6 t0_7 t0_8 t0_9 t0_10 t1_0 a23 j35 lx39 lx59 lx60 lx61)
def S_DR_cut_J48 (x2 : Int32) (x3 : Int32) (t0_0 : Int32) (t0_1 : Int32) (t0_2 : Int32) (t0_3 : Int64) (t0_4 : Int32) (t0_5 : Int32) (t0_6 : Int32) (t0_7 : Int32) (t0_8 : Int32) (t0_9 : Int32) (t0_10 : Int32) (t1_0 : (Nat → Int32)) (a23 : Int32) (j35 : Int64) (lx39 : Int32) : Prop := S_DR_cut_L64 x2 x3 t0_0 t0_1 t0_2 t0_3 t0_4 t0_5 t0_6 t0_7 t0_8 t0_9 t0_10 t1_0 a23 j35 lx39 (((lx39 - 1 : Int32).toInt - ((-1))).toNat + 1) (lx39 - 1 : Int32) a23 t1_0
def S_DR_cut (x2 : Int32) (x3 : Int32) (t0_0 : Int32) (t0_1 : Int32) (t0_2 : Int32) (t0_3 : Int64) (t0_4 : Int32) (t0_5 : Int32) (t0_6 : Int32) (t0_7 : Int32) (t0_8 : Int32) (t0_9 : Int32) (t0_10 : Int32) (t1_0 : (Nat → Int32)) : Prop := (True ∧ S_DR_grows x2 x3 t0_0 t0_1 t0_2 t0_3 t0_4 t0_5 t0_6 t0_7 t0_8 t0_9 t0_10 t1_0) ∧ (if ((F_DR_grows x2 x3 t0_0 t0_1 t0_2 t0_3 t0_4 t0_5 t0_6 t0_7 t0_8 t0_9 t0_10 t1_0) : Int32) = (2 : Int32) then (True) else (if (0 : Int32) ≤ x2 then (S_DR_cut_J48 x2 x3 t0_0 t0_1 t0_2 t0_3 t0_4 t0_5 t0_6 t0_7 t0_8 t0_9 t0_10 t1_0 ((F_DR_grows x2 x3 t0_0 t0_1 t0_2 t0_3 t0_4 t0_5 t0_6 t0_7 t0_8 t0_9 t0_10 t1_0) : Int32) (t0_3 - ((t0_2 - x2 : Int32).toInt64 : Int64) : Int64) x2) else (S_DR_cut_J48 x2 x3 t0_0 t0_1 t0_2 t0_3 t0_4 t0_5 t0_6 t0_7 t0_8 t0_9 t0_10 t1_0 ((F_DR_grows x2 x3 t0_0 t0_1 t0_2 t0_3 t0_4 t0_5 t0_6 t0_7 t0_8 t0_9 t0_10 t1_0) : Int32) (t0_3 - ((t0_2 - x2 : Int32).toInt64 : Int64) : Int64) 0)))
set_option maxRecDepth 100000 in
set_option maxHeartbeats 4000000 in
theorem X_DR_cut (l : Launch) (D : va_G) (g : Nat → ClassId) (q : Nat → Nat) (ws : va_W) (x2 : Int32) (x3 : Int32) (hI : q_I (msh g q) q ws) (t0_0 : Int32) (t0_1 : Int32) (t0_2 : Int32) (t0_3 : Int64) (t0_4 : Int32) (t0_5 : Int32) (t0_6 : Int32) (t0_7 : Int32) (t0_8 : Int32) (t0_9 : Int32) (t0_10 : Int32) (hT0 : ws[134]? = (some (q 134, .inr (14, [.int t0_0, .ref (q 135), .int t0_1, .ref (q 136), .ref (q 137), .ref (q 138), .ref (q 139), .ref (q 140), .int t0_2, .long t0_3, .int t0_4, .int t0_5, .ref (q 141), .int t0_6, .ref (q 142), .int t0_7, .ref (q 143), .int t0_8, .ref (q 144), .int t0_9, .int t0_10])) : Option (Nat × va_E))) (t1_0 : (Nat → Int32)) (hT1 : ws[140]? = (some (q 140, .inl (g 0, (4400 : Int32).toNatClampNeg, .inl t1_0)) : Option (Nat × va_E))) (hS : True ∧ S_DR_cut x2 x3 t0_0 t0_1 t0_2 t0_3 t0_4 t0_5 t0_6 t0_7 t0_8 t0_9 t0_10 t1_0) : q_mI l y_DR_cut prog_15_method_11_code 6 (.boolean) 3 0 0 D g [.ref (q 134), .int x2, .int x3] ws (fun r u => q_I (msh g q) q u ∧ q_un ws u [134, 140] ∧ ∃ (u0_0 : Int32) (u0_1 : Int32) (u0_2 : Int32) (u0_3 : Int64) (u0_4 : Int32) (u0_5 : Int32) (u0_6 : Int32) (u0_7 : Int32) (u0_8 : Int32) (u0_9 : Int32) (u0_10 : Int32) (u1_0 : (Nat → Int32)), u[134]? = (some (q 134, .inr (14, [.int u0_0, .ref (q 135), .int u0_1, .ref (q 136), .ref (q 137), .ref (q 138), .ref (q 139), .ref (q 140), .int u0_2, .long u0_3, .int u0_4, .int u0_5, .ref (q 141), .int u0_6, .ref (q 142), .int u0_7, .ref (q 143), .int u0_8, .ref (q 144), .int u0_9, .int u0_10])) : Option (Nat × va_E)) ∧ u[140]? = (some (q 140, .inl (g 0, (4400 : Int32).toNatClampNeg, .inl u1_0)) : Option (Nat × va_E)) ∧ (0 ≤ r.toInt) ∧ (r.toInt ≤ 1) ∧ (0 ≤ u0_4.toInt) ∧ (t0_1.toInt ≤ u0_1.toInt) ∧ (u0_1.toInt ≤ t0_1.toInt) ∧ (u0_4.toInt ≤ t0_4.toInt) ∧ (t0_5.toInt ≤ u0_5.toInt) ∧ (u0_5.toInt ≤ t0_5.toInt) ∧ (t0_6.toInt ≤ u0_6.toInt) ∧ (u0_6.toInt ≤ t0_6.toInt) ∧ (t0_7.toInt ≤ u0_7.toInt) ∧ (u0_7.toInt ≤ t0_7.toInt) ∧ (t0_8.toInt ≤ u0_8.toInt) ∧ (u0_8.toInt ≤ t0_8.toInt) ∧ (t0_9.toInt ≤ u0_9.toInt) ∧ (u0_9.toInt ≤ t0_9.toInt) ∧ (t0_10.toInt ≤ u0_10.toInt) ∧ (u0_10.toInt ≤ t0_10.toInt) ∧ (r, u0_0, u0_1, u0_2, u0_3, u0_4, u0_5, u0_6, u0_7, u0_8, u0_9, u0_10, u1_0) = (F_DR_cut x2 x3 t0_0 t0_1 t0_2 t0_3 t0_4 t0_5 t0_6 t0_7 t0_8 t0_9 t0_10 t1_0)) := by
  intro sz
  refine q_into (by decide) (Nat.le_of_ble_eq_true rfl) ?_
  intro p e s m below meth c ls hsz C0 V hl
  have hx := C0.1
  have hb := C0.2.1
  obtain ⟨btt0_1, hZ9⟩ := n_w134 hI hT0
  obtain ⟨btt0_4, hZ9⟩ := hZ9
  obtain ⟨btt0_5, btt0_9⟩ := hZ9
  replace btt0_1 : q_F (0 ≤ t0_1.toInt ∧ t0_1.toInt ≤ 4100) := btt0_1
  replace btt0_4 : q_F (0 ≤ t0_4.toInt ∧ t0_4.toInt ≤ 1) := btt0_4
  replace btt0_5 : q_F (0 ≤ t0_5.toInt ∧ t0_5.toInt ≤ 1) := btt0_5
  replace btt0_9 : q_F (0 ≤ t0_9.toInt ∧ t0_9.toInt ≤ 12200) := btt0_9
  have hF : q_un ws ws [134, 140] := q_u0
  have hl : lv_has ls 6 [(0, .ref (q 134)), (1, .int x2), (2, .int x3)] := hl
  refine lv_aload_n hx hb d_15_11_0 rfl (lv_at hl 0 rfl) ?_
  refine lv_iload_n hx hb d_15_11_1 rfl (lv_at hl 1 rfl) ?_
  refine lv_iload_n hx hb d_15_11_2 rfl (lv_at hl 2 rfl) ?_
  have ob20 : True ∧ S_DR_grows x2 x3 t0_0 t0_1 t0_2 t0_3 t0_4 t0_5 t0_6 t0_7 t0_8 t0_9 t0_10 t1_0 := (by have h := hS; rw [S_DR_cut.eq_1] at h; with_reducible exact h.2.1)
  refine q_goi V (q_runV (As := [.int x2, .int x3]) (rest := []) (d := 2) (mc := 0) (ms := 0) (ci := 14) C0 V rfl LV_DR_73 (X_DR_grows l D g q ws  x2 x3 hI t0_0 t0_1 t0_2 t0_3 t0_4 t0_5 t0_6 t0_7 t0_8 t0_9 t0_10 hT0 t1_0 hT1 ob20 _) rfl rfl hT0 rfl hl.1 rfl (Nat.le_of_ble_eq_true rfl) ⟨by decide, by decide⟩ ⟨Nat.le_of_ble_eq_true rfl, Nat.le_of_ble_eq_true rfl⟩ d_15_11_3) (fun a23 u21 H locs hp22 V => ?_)
  obtain ⟨rfl, b24, b25, hE26⟩ := hp22
  have e27 : a23 = (F_DR_grows x2 x3 t0_0 t0_1 t0_2 t0_3 t0_4 t0_5 t0_6 t0_7 t0_8 t0_9 t0_10 t1_0) := hE26
  replace b24 : q_F (0 ≤ a23.toInt) := b24
  replace b25 : q_F (a23.toInt ≤ 2) := b25
  refine lv_istore_n (lv' := [(3, .int a23), (0, .ref (q 134)), (1, .int x2), (2, .int x3)]) hx hb d_15_11_6 rfl hl (by decide) rfl (fun ls hl => ?_)
  refine lv_iload_n hx hb d_15_11_7 rfl (lv_at hl 0 rfl) ?_
  refine lv_iconst (v := 2) hx hb d_15_11_8 (by decide) ?_
  refine lv_icmp_ne (tgt := 22) hx hb d_15_11_9 (by decide) (fun c28 => ?_) (fun c28 => ?_)
  ·
    have b29 : q_F (a23.toInt ≠ 2) := (q_neI c28)
    refine lv_aload_n hx hb d_15_11_22 rfl (lv_at hl 1 rfl) ?_
    refine lv_aload_n hx hb d_15_11_23 rfl (lv_at hl 1 rfl) ?_
    refine q_get (ci := 14) (j := 9) (v := .long t0_3) C0 V i_DR rfl rfl hT0 (by decide) w_2012 rfl d_15_11_24 ?_
    refine lv_aload_n hx hb d_15_11_27 rfl (lv_at hl 1 rfl) ?_
    refine q_get (ci := 14) (j := 8) (v := .int t0_2) C0 V i_DR rfl rfl hT0 (by decide) w_2011 rfl d_15_11_28 ?_
    refine lv_iload_n hx hb d_15_11_31 rfl (lv_at hl 2 rfl) ?_
    refine lv_isub hx hb d_15_11_32 ?_
    obtain ⟨a30, e31⟩ := q_nm (t0_2 - x2 : Int32)
    refine q_ti (v := a30) e31 ?_
    refine lv_i2l hx hb d_15_11_33 rfl ?_
    obtain ⟨j32, e33⟩ := q_nm (a30.toInt64 : Int64)
    refine q_tl (v := j32) e33 ?_
    refine lv_lsub hx hb d_15_11_34 ?_
    obtain ⟨j35, e36⟩ := q_nm (t0_3 - j32 : Int64)
    refine q_tl (v := j35) e36 ?_
    refine q_put (ci := 14) (j := 9) (v := .long j35) (ty := .long) C0 V i_DR o_DR n_DR rfl rfl hT0 (by decide) w_2012 rfl rfl rfl rfl (Nat.le_of_ble_eq_true rfl) d_15_11_35 (fun H locs w37 hu38 hT0 V => ?_)
    replace hT0 : w37[134]? = (some (q 134, .inr (14, [.int t0_0, .ref (q 135), .int t0_1, .ref (q 136), .ref (q 137), .ref (q 138), .ref (q 139), .ref (q 140), .int t0_2, .long j35, .int t0_4, .int t0_5, .ref (q 141), .int t0_6, .ref (q 142), .int t0_7, .ref (q 143), .int t0_8, .ref (q 144), .int t0_9, .int t0_10])) : Option (Nat × va_E)) := hT0
    replace hI := n_p134 hI hu38 hT0 (by first | with_reducible exact q_fe btt0_1 | exact ⟨(by have t1 : 0 ≤ t0_1.toInt ∧ t0_1.toInt ≤ 4100 := btt0_1; omega), (by have t1 : 0 ≤ t0_1.toInt ∧ t0_1.toInt ≤ 4100 := btt0_1; omega)⟩) (by first | with_reducible exact q_fe btt0_4 | exact ⟨(by have t1 : 0 ≤ t0_4.toInt ∧ t0_4.toInt ≤ 1 := btt0_4; omega), (by have t1 : 0 ≤ t0_4.toInt ∧ t0_4.toInt ≤ 1 := btt0_4; omega)⟩) (by first | with_reducible exact q_fe btt0_5 | exact ⟨(by have t1 : 0 ≤ t0_5.toInt ∧ t0_5.toInt ≤ 1 := btt0_5; omega), (by have t1 : 0 ≤ t0_5.toInt ∧ t0_5.toInt ≤ 1 := btt0_5; omega)⟩) (by first | with_reducible exact q_fe btt0_9 | exact ⟨(by have t1 : 0 ≤ t0_9.toInt ∧ t0_9.toInt ≤ 12200 := btt0_9; omega), (by have t1 : 0 ≤ t0_9.toInt ∧ t0_9.toInt ≤ 12200 := btt0_9; omega)⟩)
    replace hT1 := (hu38 _ (by decide)).trans hT1
    replace hF := q_us hF hu38 (by simp)
    refine lv_aload_n hx hb d_15_11_38 rfl (lv_at hl 1 rfl) ?_
    refine lv_iload_n hx hb d_15_11_39 rfl (lv_at hl 2 rfl) ?_
    refine q_join (X := Int32) (fun z H locs ls _ => q_F (0 ≤ z.toInt) ∧ q_F (x2.toInt ≤ z.toInt) ∧ q_Wd D g (va_A ws sz) s w37 H locs ∧ lv_has ls 6 [(3, .int a23), (0, .ref (q 134))] ∧ F_DR_cut_J48 x2 x3 t0_0 t0_1 t0_2 t0_3 t0_4 t0_5 t0_6 t0_7 t0_8 t0_9 t0_10 t1_0 a23 j35 z = (F_DR_cut x2 x3 t0_0 t0_1 t0_2 t0_3 t0_4 t0_5 t0_6 t0_7 t0_8 t0_9 t0_10 t1_0) ∧ True ∧ S_DR_cut_J48 x2 x3 t0_0 t0_1 t0_2 t0_3 t0_4 t0_5 t0_6 t0_7 t0_8 t0_9 t0_10 t1_0 a23 j35 z) (fun z => [.int z, .ref (q 134)]) 48 0 0 ?_ ?_
    ·
      rintro lx39 H locs ls _ hZ9
      obtain ⟨i43, hZ9⟩ := hZ9
      replace hZ9 := hZ9.2
      obtain ⟨V, hZ9⟩ := hZ9
      obtain ⟨hl, hZ9⟩ := hZ9
      obtain ⟨hR45, hS46⟩ := hZ9
      replace i43 : q_F (0 ≤ lx39.toInt) := i43
      replace hl : lv_has ls 6 [(3, .int a23), (0, .ref (q 134))] := hl
      refine q_put (ci := 14) (j := 8) (v := .int lx39) (ty := .int) C0 V i_DR o_DR n_DR rfl rfl hT0 (by decide) w_2011 rfl rfl rfl rfl (Nat.le_of_ble_eq_true rfl) d_15_11_48 (fun H locs w50 hu51 hT0 V => ?_)
      replace hT0 : w50[134]? = (some (q 134, .inr (14, [.int t0_0, .ref (q 135), .int t0_1, .ref (q 136), .ref (q 137), .ref (q 138), .ref (q 139), .ref (q 140), .int lx39, .long j35, .int t0_4, .int t0_5, .ref (q 141), .int t0_6, .ref (q 142), .int t0_7, .ref (q 143), .int t0_8, .ref (q 144), .int t0_9, .int t0_10])) : Option (Nat × va_E)) := hT0
      replace hI := n_p134 hI hu51 hT0 (by first | with_reducible exact q_fe btt0_1 | exact ⟨(by have t1 : 0 ≤ t0_1.toInt ∧ t0_1.toInt ≤ 4100 := btt0_1; omega), (by have t1 : 0 ≤ t0_1.toInt ∧ t0_1.toInt ≤ 4100 := btt0_1; omega)⟩) (by first | with_reducible exact q_fe btt0_4 | exact ⟨(by have t1 : 0 ≤ t0_4.toInt ∧ t0_4.toInt ≤ 1 := btt0_4; omega), (by have t1 : 0 ≤ t0_4.toInt ∧ t0_4.toInt ≤ 1 := btt0_4; omega)⟩) (by first | with_reducible exact q_fe btt0_5 | exact ⟨(by have t1 : 0 ≤ t0_5.toInt ∧ t0_5.toInt ≤ 1 := btt0_5; omega), (by have t1 : 0 ≤ t0_5.toInt ∧ t0_5.toInt ≤ 1 := btt0_5; omega)⟩) (by first | with_reducible exact q_fe btt0_9 | exact ⟨(by have t1 : 0 ≤ t0_9.toInt ∧ t0_9.toInt ≤ 12200 := btt0_9; omega), (by have t1 : 0 ≤ t0_9.toInt ∧ t0_9.toInt ≤ 12200 := btt0_9; omega)⟩)
      replace hT1 := (hu51 _ (by decide)).trans hT1
      replace hF := q_us hF hu51 (by simp)
      refine lv_aload_n hx hb d_15_11_51 rfl (lv_at hl 1 rfl) ?_
      refine lv_iconst (v := 0) hx hb d_15_11_52 (by decide) ?_
      refine q_put (ci := 14) (j := 10) (v := .int 0) (ty := .boolean) C0 V i_DR o_DR n_DR rfl rfl hT0 (by decide) w_2013 rfl rfl rfl rfl (Nat.le_of_ble_eq_true rfl) d_15_11_53 (fun H locs w52 hu53 hT0 V => ?_)
      replace hT0 : w52[134]? = (some (q 134, .inr (14, [.int t0_0, .ref (q 135), .int t0_1, .ref (q 136), .ref (q 137), .ref (q 138), .ref (q 139), .ref (q 140), .int lx39, .long j35, .int 0, .int t0_5, .ref (q 141), .int t0_6, .ref (q 142), .int t0_7, .ref (q 143), .int t0_8, .ref (q 144), .int t0_9, .int t0_10])) : Option (Nat × va_E)) := hT0
      replace hI := n_p134 hI hu53 hT0 (by first | with_reducible exact q_fe btt0_1 | exact ⟨(by have t1 : 0 ≤ t0_1.toInt ∧ t0_1.toInt ≤ 4100 := btt0_1; omega), (by have t1 : 0 ≤ t0_1.toInt ∧ t0_1.toInt ≤ 4100 := btt0_1; omega)⟩) ⟨(by have z9 : (0 : Int32).toInt = 0 := rfl; omega), (by have z9 : (0 : Int32).toInt = 0 := rfl; omega)⟩ (by first | with_reducible exact q_fe btt0_5 | exact ⟨(by have t1 : 0 ≤ t0_5.toInt ∧ t0_5.toInt ≤ 1 := btt0_5; omega), (by have t1 : 0 ≤ t0_5.toInt ∧ t0_5.toInt ≤ 1 := btt0_5; omega)⟩) (by first | with_reducible exact q_fe btt0_9 | exact ⟨(by have t1 : 0 ≤ t0_9.toInt ∧ t0_9.toInt ≤ 12200 := btt0_9; omega), (by have t1 : 0 ≤ t0_9.toInt ∧ t0_9.toInt ≤ 12200 := btt0_9; omega)⟩)
      replace hT1 := (hu53 _ (by decide)).trans hT1
      replace hF := q_us hF hu53 (by simp)
      refine lv_aload_n hx hb d_15_11_56 rfl (lv_at hl 1 rfl) ?_
      refine q_get (ci := 14) (j := 8) (v := .int lx39) C0 V i_DR rfl rfl hT0 (by decide) w_2011 rfl d_15_11_57 ?_
      refine lv_iconst (v := 1) hx hb d_15_11_60 (by decide) ?_
      refine lv_isub hx hb d_15_11_61 ?_
      obtain ⟨a54, e55⟩ := q_nm (lx39 - 1 : Int32)
      refine q_ti (v := a54) e55 ?_
      have b56 : q_F (a54.toInt = lx39.toInt - 1) := (by rw [← e55]; show (lx39 - 1 : Int32).toInt = lx39.toInt - 1; exact q_subI (x := lx39.toInt) (y := 1) rfl (by decide) (by have t1 : 0 ≤ lx39.toInt := i43; have _ := q_lo32 (x := lx39); have _ := q_hi32 (x := lx39); omega) (by have t1 : 0 ≤ lx39.toInt := i43; have _ := q_lo32 (x := lx39); have _ := q_hi32 (x := lx39); omega))
      refine lv_istore (lv' := [(4, .int a54), (3, .int a23), (0, .ref (q 134))]) hx hb d_15_11_62 hl (by decide) rfl (fun ls hl => ?_)
      refine q_loop (X := Int32 × Int32 × (Nat → Int32)) (fun z H locs ls w68 => q_F (0 ≤ z.2.1.toInt) ∧ q_F (z.2.1.toInt ≤ a23.toInt) ∧ q_F (z.2.1.toInt ≤ z.1.toInt + 2) ∧ q_F (0 ≤ z.1.toInt + z.2.1.toInt + 1) ∧ q_F (z.1.toInt + a23.toInt ≤ z.2.1.toInt + a54.toInt) ∧ q_Wd D g (va_A ws sz) s w68 H locs ∧ lv_has ls 6 [(4, .int z.1), (3, .int z.2.1), (0, .ref (q 134))] ∧ q_I (msh g q) q w68 ∧ q_un ws w68 [134, 140] ∧ w68[134]? = (some (q 134, .inr (14, [.int t0_0, .ref (q 135), .int t0_1, .ref (q 136), .ref (q 137), .ref (q 138), .ref (q 139), .ref (q 140), .int lx39, .long j35, .int 0, .int t0_5, .ref (q 141), .int t0_6, .ref (q 142), .int t0_7, .ref (q 143), .int t0_8, .ref (q 144), .int t0_9, .int t0_10])) : Option (Nat × va_E)) ∧ w68[140]? = (some (q 140, .inl (g 0, (4400 : Int32).toNatClampNeg, .inl z.2.2)) : Option (Nat × va_E)) ∧ (∃ n, (z.1.toInt - ((-1))).toNat < n ∧ F_DR_cut_L64 x2 x3 t0_0 t0_1 t0_2 t0_3 t0_4 t0_5 t0_6 t0_7 t0_8 t0_9 t0_10 t1_0 a23 j35 lx39 n z.1 z.2.1 z.2.2 = (F_DR_cut x2 x3 t0_0 t0_1 t0_2 t0_3 t0_4 t0_5 t0_6 t0_7 t0_8 t0_9 t0_10 t1_0) ∧ True ∧ S_DR_cut_L64 x2 x3 t0_0 t0_1 t0_2 t0_3 t0_4 t0_5 t0_6 t0_7 t0_8 t0_9 t0_10 t1_0 a23 j35 lx39 n z.1 z.2.1 z.2.2)) (fun z => (z.1.toInt - ((-1))).toNat) ?_ ((a54 : Int32), (a23 : Int32), (t1_0 : (Nat → Int32))) _ _ _ w52 ⟨(show q_F (0 ≤ a23.toInt) from (show 0 ≤ a23.toInt from by have t1 : 0 ≤ a23.toInt := b24; omega)), (show q_F (a23.toInt ≤ a23.toInt) from (show a23.toInt ≤ a23.toInt from by omega)), (show q_F (a23.toInt ≤ a54.toInt + 2) from (show a23.toInt ≤ a54.toInt + 2 from by have t1 : a23.toInt ≤ 2 := b25; have t2 : a23.toInt ≠ 2 := b29; have t3 : 0 ≤ lx39.toInt := i43; have t4 : a54.toInt = lx39.toInt - 1 := b56; omega)), (show q_F (0 ≤ a54.toInt + a23.toInt + 1) from (show 0 ≤ a54.toInt + a23.toInt + 1 from by have t1 : 0 ≤ a23.toInt := b24; have t2 : 0 ≤ lx39.toInt := i43; have t3 : a54.toInt = lx39.toInt - 1 := b56; omega)), (show q_F (a54.toInt + a23.toInt ≤ a23.toInt + a54.toInt) from (show a54.toInt + a23.toInt ≤ a23.toInt + a54.toInt from by omega)), V, q_lw hl (q_lw1 0 rfl (q_lw1 1 rfl (q_lw1 2 rfl q_lw0))), hI, hF, hT0, hT1, ⟨((a54.toInt - ((-1))).toNat + 1), Nat.lt_succ_self _, (show F_DR_cut_L64 x2 x3 t0_0 t0_1 t0_2 t0_3 t0_4 t0_5 t0_6 t0_7 t0_8 t0_9 t0_10 t1_0 a23 j35 lx39 ((a54.toInt - ((-1))).toNat + 1) a54 a23 t1_0 = (F_DR_cut x2 x3 t0_0 t0_1 t0_2 t0_3 t0_4 t0_5 t0_6 t0_7 t0_8 t0_9 t0_10 t1_0) from Eq.trans (by rw [← e55, F_DR_cut_J48.eq_1]) hR45), (show True ∧ S_DR_cut_L64 x2 x3 t0_0 t0_1 t0_2 t0_3 t0_4 t0_5 t0_6 t0_7 t0_8 t0_9 t0_10 t1_0 a23 j35 lx39 ((a54.toInt - ((-1))).toNat + 1) a54 a23 t1_0 from (by rw [← e55]; have h := hS46; rw [S_DR_cut_J48.eq_1] at h; with_reducible exact h))⟩⟩
      rintro ⟨lx59, lx60, lx61⟩ H locs ls w68 ⟨i62, i63, i64, i65, i66, V, hl, hI, hF, hO69, hO70, ⟨fu73, hf74, hR71, hS72⟩⟩ ih67
      obtain ⟨fm75, rfl⟩ : ∃ m, fu73 = m + 1 := ⟨fu73 - 1, by omega⟩
      replace i62 : q_F (0 ≤ lx60.toInt) := i62
      replace i63 : q_F (lx60.toInt ≤ a23.toInt) := i63
      replace i64 : q_F (lx60.toInt ≤ lx59.toInt + 2) := i64
      replace i65 : q_F (0 ≤ lx59.toInt + lx60.toInt + 1) := i65
      replace i66 : q_F (lx59.toInt + a23.toInt ≤ lx60.toInt + a54.toInt) := i66
      replace hl : lv_has ls 6 [(4, .int lx59), (3, .int lx60), (0, .ref (q 134))] := hl
      replace hO69 : w68[134]? = (some (q 134, .inr (14, [.int t0_0, .ref (q 135), .int t0_1, .ref (q 136), .ref (q 137), .ref (q 138), .ref (q 139), .ref (q 140), .int lx39, .long j35, .int 0, .int t0_5, .ref (q 141), .int t0_6, .ref (q 142), .int t0_7, .ref (q 143), .int t0_8, .ref (q 144), .int t0_9, .int t0_10])) : Option (Nat × va_E)) := hO69
      replace hO70 : w68[140]? = (some (q 140, .inl (g 0, (4400 : Int32).toNatClampNeg, .inl lx61)) : Option (Nat × va_E)) := hO70
      refine lv_iload_n hx hb d_15_11_64 rfl (lv_at hl 1 rfl) ?_
      refine lv_iconst (v := 1) hx hb d_15_11_65 (by decide) ?_
      refine q_join (X := Unit) (fun z H locs ls _ => q_Wd D g (va_A ws sz) s w68 H locs ∧ lv_has ls 6 [(3, .int lx60), (0, .ref (q 134))] ∧ F_DR_cut_J130 (F_DR_cut_L64 x2 x3 t0_0 t0_1 t0_2 t0_3 t0_4 t0_5 t0_6 t0_7 t0_8 t0_9 t0_10 t1_0 a23 j35 lx39 fm75) x2 x3 t0_0 t0_1 t0_2 t0_3 t0_4 t0_5 t0_6 t0_7 t0_8 t0_9 t0_10 t1_0 a23 j35 lx39 lx59 lx60 lx61 = (F_DR_cut x2 x3 t0_0 t0_1 t0_2 t0_3 t0_4 t0_5 t0_6 t0_7 t0_8 t0_9 t0_10 t1_0) ∧ True ∧ S_DR_cut_J130 (S_DR_cut_L64 x2 x3 t0_0 t0_1 t0_2 t0_3 t0_4 t0_5 t0_6 t0_7 t0_8 t0_9 t0_10 t1_0 a23 j35 lx39 fm75) x2 x3 t0_0 t0_1 t0_2 t0_3 t0_4 t0_5 t0_6 t0_7 t0_8 t0_9 t0_10 t1_0 a23 j35 lx39 lx59 lx60 lx61) (fun z => []) 130 0 0 ?_ ?_
      ·
        rintro _ H locs ls _ ⟨V, hl, hR79, hS80⟩
        replace hl : lv_has ls 6 [(3, .int lx60), (0, .ref (q 134))] := hl
        refine lv_iload_n hx hb d_15_11_130 rfl (lv_at hl 0 rfl) ?_
        refine lv_iconst (v := 1) hx hb d_15_11_131 (by decide) ?_
        refine lv_icmp_ne (tgt := 185) hx hb d_15_11_132 (by decide) (fun c84 => ?_) (fun c84 => ?_)
        ·
          refine lv_iconst (v := 1) hx hb d_15_11_185 (by decide) ?_
          exact q_retz C0 V (by decide) (⟨hI, hF, t0_0, t0_1, lx39, j35, 0, t0_5, t0_6, t0_7, t0_8, t0_9, t0_10, lx61, hO69, hO70, (show 0 ≤ (1 : Int32).toInt from (by have z14 : (1 : Int32).toInt = 1 := rfl; have z19 : (0 : Int32).toInt = 0 := rfl; omega)), (show (1 : Int32).toInt ≤ 1 from (by have z14 : (1 : Int32).toInt = 1 := rfl; have z19 : (0 : Int32).toInt = 0 := rfl; omega)), (show 0 ≤ (0 : Int32).toInt from (by have z14 : (1 : Int32).toInt = 1 := rfl; have z19 : (0 : Int32).toInt = 0 := rfl; omega)), (show t0_1.toInt ≤ t0_1.toInt from (by have z14 : (1 : Int32).toInt = 1 := rfl; have z19 : (0 : Int32).toInt = 0 := rfl; omega)), (show t0_1.toInt ≤ t0_1.toInt from (by have z14 : (1 : Int32).toInt = 1 := rfl; have z19 : (0 : Int32).toInt = 0 := rfl; omega)), (show (0 : Int32).toInt ≤ t0_4.toInt from (by have z14 : (1 : Int32).toInt = 1 := rfl; have z19 : (0 : Int32).toInt = 0 := rfl; have t1 : 0 ≤ t0_4.toInt ∧ t0_4.toInt ≤ 1 := btt0_4; omega)), (show t0_5.toInt ≤ t0_5.toInt from (by have z14 : (1 : Int32).toInt = 1 := rfl; have z19 : (0 : Int32).toInt = 0 := rfl; omega)), (show t0_5.toInt ≤ t0_5.toInt from (by have z14 : (1 : Int32).toInt = 1 := rfl; have z19 : (0 : Int32).toInt = 0 := rfl; omega)), (show t0_6.toInt ≤ t0_6.toInt from (by have z14 : (1 : Int32).toInt = 1 := rfl; have z19 : (0 : Int32).toInt = 0 := rfl; omega)), (show t0_6.toInt ≤ t0_6.toInt from (by have z14 : (1 : Int32).toInt = 1 := rfl; have z19 : (0 : Int32).toInt = 0 := rfl; omega)), (show t0_7.toInt ≤ t0_7.toInt from (by have z14 : (1 : Int32).toInt = 1 := rfl; have z19 : (0 : Int32).toInt = 0 := rfl; omega)), (show t0_7.toInt ≤ t0_7.toInt from (by have z14 : (1 : Int32).toInt = 1 := rfl; have z19 : (0 : Int32).toInt = 0 := rfl; omega)), (show t0_8.toInt ≤ t0_8.toInt from (by have z14 : (1 : Int32).toInt = 1 := rfl; have z19 : (0 : Int32).toInt = 0 := rfl; omega)), (show t0_8.toInt ≤ t0_8.toInt from (by have z14 : (1 : Int32).toInt = 1 := rfl; have z19 : (0 : Int32).toInt = 0 := rfl; omega)), (show t0_9.toInt ≤ t0_9.toInt from (by have z14 : (1 : Int32).toInt = 1 := rfl; have z19 : (0 : Int32).toInt = 0 := rfl; omega)), (show t0_9.toInt ≤ t0_9.toInt from (by have z14 : (1 : Int32).toInt = 1 := rfl; have z19 : (0 : Int32).toInt = 0 := rfl; omega)), (show t0_10.toInt ≤ t0_10.toInt from (by have z14 : (1 : Int32).toInt = 1 := rfl; have z19 : (0 : Int32).toInt = 0 := rfl; omega)), (show t0_10.toInt ≤ t0_10.toInt from (by have z14 : (1 : Int32).toInt = 1 := rfl; have z19 : (0 : Int32).toInt = 0 := rfl; omega)), (show ((1 : Int32), t0_0, t0_1, lx39, j35, (0 : Int32), t0_5, t0_6, t0_7, t0_8, t0_9, t0_10, lx61) = (F_DR_cut x2 x3 t0_0 t0_1 t0_2 t0_3 t0_4 t0_5 t0_6 t0_7 t0_8 t0_9 t0_10 t1_0) from Eq.trans (by rw [F_DR_cut_J130.eq_1, if_neg c84]) hR79)⟩) d_15_11_186
        ·
          refine lv_aload_n hx hb d_15_11_135 rfl (lv_at hl 1 rfl) ?_
          refine q_get (ci := 14) (j := 8) (v := .int lx39) C0 V i_DR rfl rfl hO69 (by decide) w_2011 rfl d_15_11_136 ?_
          refine lv_istore (lv' := [(5, .int lx39), (3, .int lx60), (0, .ref (q 134))]) hx hb d_15_11_139 hl (by decide) rfl (fun ls hl => ?_)
          refine q_loop (X := Int32 × (Nat → Int32)) (fun z H locs ls w93 => q_F (0 ≤ z.1.toInt) ∧ q_F (z.1.toInt ≤ lx39.toInt) ∧ q_Wd D g (va_A ws sz) s w93 H locs ∧ lv_has ls 6 [(5, .int z.1), (0, .ref (q 134))] ∧ q_I (msh g q) q w93 ∧ q_un ws w93 [134, 140] ∧ w93[134]? = (some (q 134, .inr (14, [.int t0_0, .ref (q 135), .int t0_1, .ref (q 136), .ref (q 137), .ref (q 138), .ref (q 139), .ref (q 140), .int lx39, .long j35, .int 0, .int t0_5, .ref (q 141), .int t0_6, .ref (q 142), .int t0_7, .ref (q 143), .int t0_8, .ref (q 144), .int t0_9, .int t0_10])) : Option (Nat × va_E)) ∧ w93[140]? = (some (q 140, .inl (g 0, (4400 : Int32).toNatClampNeg, .inl z.2)) : Option (Nat × va_E)) ∧ (∃ n, (z.1.toInt - ((-1))).toNat < n ∧ F_DR_cut_L141 (F_DR_cut_L64 x2 x3 t0_0 t0_1 t0_2 t0_3 t0_4 t0_5 t0_6 t0_7 t0_8 t0_9 t0_10 t1_0 a23 j35 lx39 fm75) x2 x3 t0_0 t0_1 t0_2 t0_3 t0_4 t0_5 t0_6 t0_7 t0_8 t0_9 t0_10 t1_0 a23 j35 lx39 lx59 lx60 lx61 n z.1 z.2 = (F_DR_cut x2 x3 t0_0 t0_1 t0_2 t0_3 t0_4 t0_5 t0_6 t0_7 t0_8 t0_9 t0_10 t1_0) ∧ True ∧ S_DR_cut_L141 (S_DR_cut_L64 x2 x3 t0_0 t0_1 t0_2 t0_3 t0_4 t0_5 t0_6 t0_7 t0_8 t0_9 t0_10 t1_0 a23 j35 lx39 fm75) x2 x3 t0_0 t0_1 t0_2 t0_3 t0_4 t0_5 t0_6 t0_7 t0_8 t0_9 t0_10 t1_0 a23 j35 lx39 lx59 lx60 lx61 n z.1 z.2)) (fun z => (z.1.toInt - ((-1))).toNat) ?_ ((lx39 : Int32), (lx61 : (Nat → Int32))) _ _ _ w68 ⟨(show q_F (0 ≤ lx39.toInt) from (show 0 ≤ lx39.toInt from by have t1 : 0 ≤ lx39.toInt := i43; omega)), (show q_F (lx39.toInt ≤ lx39.toInt) from (show lx39.toInt ≤ lx39.toInt from by omega)), V, q_lw hl (q_lw1 0 rfl (q_lw1 2 rfl q_lw0)), hI, hF, hO69, hO70, ⟨((lx39.toInt - ((-1))).toNat + 1), Nat.lt_succ_self _, (show F_DR_cut_L141 (F_DR_cut_L64 x2 x3 t0_0 t0_1 t0_2 t0_3 t0_4 t0_5 t0_6 t0_7 t0_8 t0_9 t0_10 t1_0 a23 j35 lx39 fm75) x2 x3 t0_0 t0_1 t0_2 t0_3 t0_4 t0_5 t0_6 t0_7 t0_8 t0_9 t0_10 t1_0 a23 j35 lx39 lx59 lx60 lx61 ((lx39.toInt - ((-1))).toNat + 1) lx39 lx61 = (F_DR_cut x2 x3 t0_0 t0_1 t0_2 t0_3 t0_4 t0_5 t0_6 t0_7 t0_8 t0_9 t0_10 t1_0) from Eq.trans (by rw [F_DR_cut_J130.eq_1, if_pos c84]) hR79), (show True ∧ S_DR_cut_L141 (S_DR_cut_L64 x2 x3 t0_0 t0_1 t0_2 t0_3 t0_4 t0_5 t0_6 t0_7 t0_8 t0_9 t0_10 t1_0 a23 j35 lx39 fm75) x2 x3 t0_0 t0_1 t0_2 t0_3 t0_4 t0_5 t0_6 t0_7 t0_8 t0_9 t0_10 t1_0 a23 j35 lx39 lx59 lx60 lx61 ((lx39.toInt - ((-1))).toNat + 1) lx39 lx61 from (by have h := hS80; rw [S_DR_cut_J130.eq_1] at h; rw [if_pos c84] at h; with_reducible exact h))⟩⟩
          rintro ⟨lx88, lx89⟩ H locs ls w93 ⟨i90, i91, V, hl, hI, hF, hO94, hO95, ⟨fu98, hf99, hR96, hS97⟩⟩ ih92
          obtain ⟨fm100, rfl⟩ : ∃ m, fu98 = m + 1 := ⟨fu98 - 1, by omega⟩
          replace i90 : q_F (0 ≤ lx88.toInt) := i90
          replace i91 : q_F (lx88.toInt ≤ lx39.toInt) := i91
          replace hl : lv_has ls 6 [(5, .int lx88), (0, .ref (q 134))] := hl
          replace hO94 : w93[134]? = (some (q 134, .inr (14, [.int t0_0, .ref (q 135), .int t0_1, .ref (q 136), .ref (q 137), .ref (q 138), .ref (q 139), .ref (q 140), .int lx39, .long j35, .int 0, .int t0_5, .ref (q 141), .int t0_6, .ref (q 142), .int t0_7, .ref (q 143), .int t0_8, .ref (q 144), .int t0_9, .int t0_10])) : Option (Nat × va_E)) := hO94
          replace hO95 : w93[140]? = (some (q 140, .inl (g 0, (4400 : Int32).toNatClampNeg, .inl lx89)) : Option (Nat × va_E)) := hO95
          refine lv_iload hx hb d_15_11_141 (lv_at hl 0 rfl) ?_
          refine lv_if_le (tgt := 168) hx hb d_15_11_143 (by decide) (fun c101 => ?_) (fun c101 => ?_)
          ·
            refine lv_aload_n hx hb d_15_11_168 rfl (lv_at hl 1 rfl) ?_
            refine q_get (ci := 14) (j := 7) (v := .ref (q 140)) C0 V i_DR rfl rfl hO94 (by decide) w_2010 rfl d_15_11_169 ?_
            refine lv_iconst (v := 0) hx hb d_15_11_172 (by decide) ?_
            refine lv_iconst (v := 1) hx hb d_15_11_173 (by decide) ?_
            refine q_iast C0 V hO95 (q_ix (x := 0) (by decide) (by omega) (by have e9 : (((4400 : Int32).toNatClampNeg : Nat) : Int) = 4400 := (by decide); omega)) d_15_11_174 (fun H locs w103 hu104 hO95 V => ?_)
            replace hI := n_ai' hI (n_r140 g q).1 hu104 hO95 (q_updB (fun _ => s_bnd) s_bnd)
            replace hO94 := (hu104 _ (by decide)).trans hO94
            replace hF := q_us hF hu104 (by simp)
            obtain ⟨f105, e106⟩ := q_nm (upd lx89 (0 : Int32).toNatClampNeg 1 : (Nat → Int32))
            rw [e106] at hO95
            refine lv_aload_n hx hb d_15_11_175 rfl (lv_at hl 1 rfl) ?_
            refine lv_dup hx hb d_15_11_176 rfl ?_
            refine q_get (ci := 14) (j := 8) (v := .int lx39) C0 V i_DR rfl rfl hO94 (by decide) w_2011 rfl d_15_11_177 ?_
            refine lv_iconst (v := 1) hx hb d_15_11_180 (by decide) ?_
            refine lv_iadd hx hb d_15_11_181 ?_
            obtain ⟨a107, e108⟩ := q_nm (lx39 + 1 : Int32)
            refine q_ti (v := a107) e108 ?_
            refine q_put (ci := 14) (j := 8) (v := .int a107) (ty := .int) C0 V i_DR o_DR n_DR rfl rfl hO94 (by decide) w_2011 rfl rfl rfl rfl (Nat.le_of_ble_eq_true rfl) d_15_11_182 (fun H locs w109 hu110 hO94 V => ?_)
            replace hO94 : w109[134]? = (some (q 134, .inr (14, [.int t0_0, .ref (q 135), .int t0_1, .ref (q 136), .ref (q 137), .ref (q 138), .ref (q 139), .ref (q 140), .int a107, .long j35, .int 0, .int t0_5, .ref (q 141), .int t0_6, .ref (q 142), .int t0_7, .ref (q 143), .int t0_8, .ref (q 144), .int t0_9, .int t0_10])) : Option (Nat × va_E)) := hO94
            replace hI := n_p134 hI hu110 hO94 (by first | with_reducible exact q_fe btt0_1 | exact ⟨(by have t1 : 0 ≤ t0_1.toInt ∧ t0_1.toInt ≤ 4100 := btt0_1; omega), (by have t1 : 0 ≤ t0_1.toInt ∧ t0_1.toInt ≤ 4100 := btt0_1; omega)⟩) ⟨(by have z9 : (0 : Int32).toInt = 0 := rfl; omega), (by have z9 : (0 : Int32).toInt = 0 := rfl; omega)⟩ (by first | with_reducible exact q_fe btt0_5 | exact ⟨(by have t1 : 0 ≤ t0_5.toInt ∧ t0_5.toInt ≤ 1 := btt0_5; omega), (by have t1 : 0 ≤ t0_5.toInt ∧ t0_5.toInt ≤ 1 := btt0_5; omega)⟩) (by first | with_reducible exact q_fe btt0_9 | exact ⟨(by have t1 : 0 ≤ t0_9.toInt ∧ t0_9.toInt ≤ 12200 := btt0_9; omega), (by have t1 : 0 ≤ t0_9.toInt ∧ t0_9.toInt ≤ 12200 := btt0_9; omega)⟩)
            replace hO95 := (hu110 _ (by decide)).trans hO95
            replace hF := q_us hF hu110 (by simp)
            refine lv_iconst (v := 1) hx hb d_15_11_185 (by decide) ?_
            exact q_retz C0 V (by decide) (⟨hI, hF, t0_0, t0_1, a107, j35, 0, t0_5, t0_6, t0_7, t0_8, t0_9, t0_10, f105, hO94, hO95, (show 0 ≤ (1 : Int32).toInt from (by have z14 : (1 : Int32).toInt = 1 := rfl; have z19 : (0 : Int32).toInt = 0 := rfl; omega)), (show (1 : Int32).toInt ≤ 1 from (by have z14 : (1 : Int32).toInt = 1 := rfl; have z19 : (0 : Int32).toInt = 0 := rfl; omega)), (show 0 ≤ (0 : Int32).toInt from (by have z14 : (1 : Int32).toInt = 1 := rfl; have z19 : (0 : Int32).toInt = 0 := rfl; omega)), (show t0_1.toInt ≤ t0_1.toInt from (by have z14 : (1 : Int32).toInt = 1 := rfl; have z19 : (0 : Int32).toInt = 0 := rfl; omega)), (show t0_1.toInt ≤ t0_1.toInt from (by have z14 : (1 : Int32).toInt = 1 := rfl; have z19 : (0 : Int32).toInt = 0 := rfl; omega)), (show (0 : Int32).toInt ≤ t0_4.toInt from (by have z14 : (1 : Int32).toInt = 1 := rfl; have z19 : (0 : Int32).toInt = 0 := rfl; have t1 : 0 ≤ t0_4.toInt ∧ t0_4.toInt ≤ 1 := btt0_4; omega)), (show t0_5.toInt ≤ t0_5.toInt from (by have z14 : (1 : Int32).toInt = 1 := rfl; have z19 : (0 : Int32).toInt = 0 := rfl; omega)), (show t0_5.toInt ≤ t0_5.toInt from (by have z14 : (1 : Int32).toInt = 1 := rfl; have z19 : (0 : Int32).toInt = 0 := rfl; omega)), (show t0_6.toInt ≤ t0_6.toInt from (by have z14 : (1 : Int32).toInt = 1 := rfl; have z19 : (0 : Int32).toInt = 0 := rfl; omega)), (show t0_6.toInt ≤ t0_6.toInt from (by have z14 : (1 : Int32).toInt = 1 := rfl; have z19 : (0 : Int32).toInt = 0 := rfl; omega)), (show t0_7.toInt ≤ t0_7.toInt from (by have z14 : (1 : Int32).toInt = 1 := rfl; have z19 : (0 : Int32).toInt = 0 := rfl; omega)), (show t0_7.toInt ≤ t0_7.toInt from (by have z14 : (1 : Int32).toInt = 1 := rfl; have z19 : (0 : Int32).toInt = 0 := rfl; omega)), (show t0_8.toInt ≤ t0_8.toInt from (by have z14 : (1 : Int32).toInt = 1 := rfl; have z19 : (0 : Int32).toInt = 0 := rfl; omega)), (show t0_8.toInt ≤ t0_8.toInt from (by have z14 : (1 : Int32).toInt = 1 := rfl; have z19 : (0 : Int32).toInt = 0 := rfl; omega)), (show t0_9.toInt ≤ t0_9.toInt from (by have z14 : (1 : Int32).toInt = 1 := rfl; have z19 : (0 : Int32).toInt = 0 := rfl; omega)), (show t0_9.toInt ≤ t0_9.toInt from (by have z14 : (1 : Int32).toInt = 1 := rfl; have z19 : (0 : Int32).toInt = 0 := rfl; omega)), (show t0_10.toInt ≤ t0_10.toInt from (by have z14 : (1 : Int32).toInt = 1 := rfl; have z19 : (0 : Int32).toInt = 0 := rfl; omega)), (show t0_10.toInt ≤ t0_10.toInt from (by have z14 : (1 : Int32).toInt = 1 := rfl; have z19 : (0 : Int32).toInt = 0 := rfl; omega)), (show ((1 : Int32), t0_0, t0_1, a107, j35, (0 : Int32), t0_5, t0_6, t0_7, t0_8, t0_9, t0_10, f105) = (F_DR_cut x2 x3 t0_0 t0_1 t0_2 t0_3 t0_4 t0_5 t0_6 t0_7 t0_8 t0_9 t0_10 t1_0) from Eq.trans (by rw [← e108, ← e106, F_DR_cut_L141.eq_2, if_pos c101]) hR96)⟩) d_15_11_186
          ·
            have b111 : q_F (0 < lx88.toInt) := (q_nleI c101)
            refine lv_aload_n hx hb d_15_11_146 rfl (lv_at hl 1 rfl) ?_
            refine q_get (ci := 14) (j := 7) (v := .ref (q 140)) C0 V i_DR rfl rfl hO94 (by decide) w_2010 rfl d_15_11_147 ?_
            refine lv_iload hx hb d_15_11_150 (lv_at hl 0 rfl) ?_
            refine lv_aload_n hx hb d_15_11_152 rfl (lv_at hl 1 rfl) ?_
            refine q_get (ci := 14) (j := 7) (v := .ref (q 140)) C0 V i_DR rfl rfl hO94 (by decide) w_2010 rfl d_15_11_153 ?_
            refine lv_iload hx hb d_15_11_156 (lv_at hl 0 rfl) ?_
            refine lv_iconst (v := 1) hx hb d_15_11_158 (by decide) ?_
            refine lv_isub hx hb d_15_11_159 ?_
            obtain ⟨a112, e113⟩ := q_nm (lx88 - 1 : Int32)
            refine q_ti (v := a112) e113 ?_
            have b114 : q_F (a112.toInt = lx88.toInt - 1) := (by rw [← e113]; show (lx88 - 1 : Int32).toInt = lx88.toInt - 1; exact q_subI (x := lx88.toInt) (y := 1) rfl (by decide) (by have t1 : 0 ≤ lx88.toInt := i90; have t2 : lx88.toInt ≤ lx39.toInt := i91; have _ := q_lo32 (x := lx39); have _ := q_hi32 (x := lx39); omega) (by have t1 : 0 ≤ lx88.toInt := i90; have t2 : lx88.toInt ≤ lx39.toInt := i91; have _ := q_lo32 (x := lx39); have _ := q_hi32 (x := lx39); omega))
            have ob115 : q_F (a112.toInt ≤ 4399) := (by rw [← e113]; have h := hS97; rw [S_DR_cut_L141.eq_2] at h; rw [if_neg c101] at h; exact h.2.1)
            refine q_iald C0 V hO95 (q_ix (x := a112.toInt) rfl (by have t1 : 0 < lx88.toInt := b111; have t2 : a112.toInt = lx88.toInt - 1 := b114; omega) (by have t1 : 0 < lx88.toInt := b111; have t2 : a112.toInt = lx88.toInt - 1 := b114; have t3 : a112.toInt ≤ 4399 := ob115; have e9 : (((4400 : Int32).toNatClampNeg : Nat) : Int) = 4400 := (by decide); omega)) d_15_11_160 ?_
            obtain ⟨a116, e117⟩ := q_nm (lx89 a112.toNatClampNeg : Int32)
            refine q_ti (v := a116) e117 ?_
            have ob118 : q_F (lx88.toInt ≤ 4399) := (by have h := hS97; rw [S_DR_cut_L141.eq_2] at h; rw [if_neg c101] at h; replace h := q_s2 h; exact h.2.1)
            refine q_iast C0 V hO95 (q_ix (x := lx88.toInt) rfl (by first | with_reducible exact q_fe i90 | (have t1 : 0 ≤ lx88.toInt := i90; omega)) (by have t1 : 0 ≤ lx88.toInt := i90; have t2 : lx88.toInt ≤ 4399 := ob118; have e9 : (((4400 : Int32).toNatClampNeg : Nat) : Int) = 4400 := (by decide); omega)) d_15_11_161 (fun H locs w119 hu120 hO95 V => ?_)
            replace hI := n_ai' hI (n_r140 g q).1 hu120 hO95 (q_updB (fun _ => s_bnd) s_bnd)
            replace hO94 := (hu120 _ (by decide)).trans hO94
            replace hF := q_us hF hu120 (by simp)
            obtain ⟨f121, e122⟩ := q_nm (upd lx89 lx88.toNatClampNeg a116 : (Nat → Int32))
            rw [e122] at hO95
            obtain ⟨a123, e124⟩ := q_nm (lx88 + (-1) : Int32)
            have b125 : q_F (a123.toInt = lx88.toInt + (-1)) := (by rw [← e124]; exact q_addI (y := (-1)) rfl (by decide) (by have t1 : 0 ≤ lx88.toInt := i90; have t2 : lx88.toInt ≤ 4399 := ob118; omega) (by have t1 : 0 ≤ lx88.toInt := i90; have t2 : lx88.toInt ≤ 4399 := ob118; omega))
            refine lv_iinc (v := a123) (lv' := [(5, .int a123), (0, .ref (q 134))]) hx hb d_15_11_162 hl (k := 0) rfl (e124) (by decide) rfl (fun ls hl => ?_)
            refine lv_goto (tgt := 141) hx hb d_15_11_165 (by decide) ?_
            exact ih92 ((a123 : Int32), (f121 : (Nat → Int32))) _ _ _ _ (show (a123.toInt - ((-1))).toNat < (lx88.toInt - ((-1))).toNat from by have t1 : a123.toInt = lx88.toInt + (-1) := b125; have t2 : 0 ≤ lx88.toInt := i90; omega) ⟨(show q_F (0 ≤ a123.toInt) from (show 0 ≤ a123.toInt from by have t1 : 0 < lx88.toInt := b111; have t2 : a123.toInt = lx88.toInt + (-1) := b125; omega)), (show q_F (a123.toInt ≤ lx39.toInt) from (show a123.toInt ≤ lx39.toInt from by have t1 : lx88.toInt ≤ lx39.toInt := i91; have t2 : a123.toInt = lx88.toInt + (-1) := b125; omega)), V, q_lw hl (q_lw1 0 rfl (q_lw1 1 rfl q_lw0)), hI, hF, hO94, hO95, ⟨fm100, Nat.lt_of_lt_of_le (show (a123.toInt - ((-1))).toNat < (lx88.toInt - ((-1))).toNat from by have t1 : a123.toInt = lx88.toInt + (-1) := b125; have t2 : 0 ≤ lx88.toInt := i90; omega) (Nat.le_of_lt_succ hf99), (show F_DR_cut_L141 (F_DR_cut_L64 x2 x3 t0_0 t0_1 t0_2 t0_3 t0_4 t0_5 t0_6 t0_7 t0_8 t0_9 t0_10 t1_0 a23 j35 lx39 fm75) x2 x3 t0_0 t0_1 t0_2 t0_3 t0_4 t0_5 t0_6 t0_7 t0_8 t0_9 t0_10 t1_0 a23 j35 lx39 lx59 lx60 lx61 fm100 a123 f121 = (F_DR_cut x2 x3 t0_0 t0_1 t0_2 t0_3 t0_4 t0_5 t0_6 t0_7 t0_8 t0_9 t0_10 t1_0) from Eq.trans (by rw [← e124, ← e122, ← e117, ← e113, F_DR_cut_L141.eq_2, if_neg c101]) hR96), (show True ∧ S_DR_cut_L141 (S_DR_cut_L64 x2 x3 t0_0 t0_1 t0_2 t0_3 t0_4 t0_5 t0_6 t0_7 t0_8 t0_9 t0_10 t1_0 a23 j35 lx39 fm75) x2 x3 t0_0 t0_1 t0_2 t0_3 t0_4 t0_5 t0_6 t0_7 t0_8 t0_9 t0_10 t1_0 a23 j35 lx39 lx59 lx60 lx61 fm100 a123 f121 from (by rw [← e124, ← e122, ← e117, ← e113]; have h := hS97; rw [S_DR_cut_L141.eq_2] at h; rw [if_neg c101] at h; replace h := q_s2 h; replace h := q_s2 h; with_reducible exact h))⟩⟩
      ·
        intro J78
        refine lv_icmp_ne (tgt := 130) hx hb d_15_11_66 (by decide) (fun c126 => ?_) (fun c126 => ?_)
        ·
          exact J78 (()) _ _ _ w68 ⟨V, q_lw hl (q_lw1 1 rfl (q_lw1 2 rfl q_lw0)), (show F_DR_cut_J130 (F_DR_cut_L64 x2 x3 t0_0 t0_1 t0_2 t0_3 t0_4 t0_5 t0_6 t0_7 t0_8 t0_9 t0_10 t1_0 a23 j35 lx39 fm75) x2 x3 t0_0 t0_1 t0_2 t0_3 t0_4 t0_5 t0_6 t0_7 t0_8 t0_9 t0_10 t1_0 a23 j35 lx39 lx59 lx60 lx61 = (F_DR_cut x2 x3 t0_0 t0_1 t0_2 t0_3 t0_4 t0_5 t0_6 t0_7 t0_8 t0_9 t0_10 t1_0) from Eq.trans (by rw [F_DR_cut_L64.eq_2, if_neg c126]) hR71), (show True ∧ S_DR_cut_J130 (S_DR_cut_L64 x2 x3 t0_0 t0_1 t0_2 t0_3 t0_4 t0_5 t0_6 t0_7 t0_8 t0_9 t0_10 t1_0 a23 j35 lx39 fm75) x2 x3 t0_0 t0_1 t0_2 t0_3 t0_4 t0_5 t0_6 t0_7 t0_8 t0_9 t0_10 t1_0 a23 j35 lx39 lx59 lx60 lx61 from (by have h := hS72; rw [S_DR_cut_L64.eq_2] at h; rw [if_neg c126] at h; with_reducible exact h))⟩
        ·
          have b128 : q_F (lx60.toInt = 1) := (q_eqI c126)
          refine lv_iload hx hb d_15_11_69 (lv_at hl 0 rfl) ?_
          refine lv_if_lt (tgt := 130) hx hb d_15_11_71 (by decide) (fun c129 => ?_) (fun c129 => ?_)
          ·
            exact J78 (()) _ _ _ w68 ⟨V, q_lw hl (q_lw1 1 rfl (q_lw1 2 rfl q_lw0)), (show F_DR_cut_J130 (F_DR_cut_L64 x2 x3 t0_0 t0_1 t0_2 t0_3 t0_4 t0_5 t0_6 t0_7 t0_8 t0_9 t0_10 t1_0 a23 j35 lx39 fm75) x2 x3 t0_0 t0_1 t0_2 t0_3 t0_4 t0_5 t0_6 t0_7 t0_8 t0_9 t0_10 t1_0 a23 j35 lx39 lx59 lx60 lx61 = (F_DR_cut x2 x3 t0_0 t0_1 t0_2 t0_3 t0_4 t0_5 t0_6 t0_7 t0_8 t0_9 t0_10 t1_0) from Eq.trans (by rw [F_DR_cut_L64.eq_2, if_pos c126, if_pos c129]) hR71), (show True ∧ S_DR_cut_J130 (S_DR_cut_L64 x2 x3 t0_0 t0_1 t0_2 t0_3 t0_4 t0_5 t0_6 t0_7 t0_8 t0_9 t0_10 t1_0 a23 j35 lx39 fm75) x2 x3 t0_0 t0_1 t0_2 t0_3 t0_4 t0_5 t0_6 t0_7 t0_8 t0_9 t0_10 t1_0 a23 j35 lx39 lx59 lx60 lx61 from (by have h := hS72; rw [S_DR_cut_L64.eq_2] at h; rw [if_pos c126] at h; rw [if_pos c129] at h; with_reducible exact h))⟩
          ·
            have b131 : q_F (0 ≤ lx59.toInt) := (q_nltI c129)
            refine lv_aload_n hx hb d_15_11_74 rfl (lv_at hl 2 rfl) ?_
            refine q_get (ci := 14) (j := 7) (v := .ref (q 140)) C0 V i_DR rfl rfl hO69 (by decide) w_2010 rfl d_15_11_75 ?_
            refine lv_iload hx hb d_15_11_78 (lv_at hl 0 rfl) ?_
            have ob132 : q_F (lx59.toInt ≤ 4399) := (by have h := hS72; rw [S_DR_cut_L64.eq_2] at h; rw [if_pos c126] at h; rw [if_neg c129] at h; exact h.2.1)
            refine q_iald C0 V hO70 (q_ix (x := lx59.toInt) rfl (by first | with_reducible exact q_fe b131 | (have t1 : 0 ≤ lx59.toInt := b131; omega)) (by have t1 : 0 ≤ lx59.toInt := b131; have t2 : lx59.toInt ≤ 4399 := ob132; have e9 : (((4400 : Int32).toNatClampNeg : Nat) : Int) = 4400 := (by decide); omega)) d_15_11_80 ?_
            obtain ⟨a133, e134⟩ := q_nm (lx61 lx59.toNatClampNeg : Int32)
            refine q_ti (v := a133) e134 ?_
            refine lv_bipush (v := 9) hx hb d_15_11_81 (by decide) ?_
            refine q_join (X := Int32) (fun z H locs ls _ => q_F (lx60.toInt ≤ z.toInt + 1) ∧ q_F (z.toInt ≤ lx60.toInt) ∧ q_Wd D g (va_A ws sz) s w68 H locs ∧ lv_has ls 6 [(4, .int lx59), (0, .ref (q 134))] ∧ F_DR_cut_J91 (F_DR_cut_L64 x2 x3 t0_0 t0_1 t0_2 t0_3 t0_4 t0_5 t0_6 t0_7 t0_8 t0_9 t0_10 t1_0 a23 j35 lx39 fm75) x2 x3 t0_0 t0_1 t0_2 t0_3 t0_4 t0_5 t0_6 t0_7 t0_8 t0_9 t0_10 t1_0 a23 j35 lx39 lx59 lx60 lx61 z = (F_DR_cut x2 x3 t0_0 t0_1 t0_2 t0_3 t0_4 t0_5 t0_6 t0_7 t0_8 t0_9 t0_10 t1_0) ∧ True ∧ S_DR_cut_J91 (S_DR_cut_L64 x2 x3 t0_0 t0_1 t0_2 t0_3 t0_4 t0_5 t0_6 t0_7 t0_8 t0_9 t0_10 t1_0 a23 j35 lx39 fm75) x2 x3 t0_0 t0_1 t0_2 t0_3 t0_4 t0_5 t0_6 t0_7 t0_8 t0_9 t0_10 t1_0 a23 j35 lx39 lx59 lx60 lx61 z) (fun z => [.int z]) 91 0 0 ?_ ?_
            ·
              rintro lx135 H locs ls _ hZ9
              obtain ⟨i139, hZ9⟩ := hZ9
              obtain ⟨i140, hZ9⟩ := hZ9
              obtain ⟨V, hZ9⟩ := hZ9
              obtain ⟨hl, hZ9⟩ := hZ9
              obtain ⟨hR141, hS142⟩ := hZ9
              replace i139 : q_F (lx60.toInt ≤ lx135.toInt + 1) := i139
              replace i140 : q_F (lx135.toInt ≤ lx60.toInt) := i140
              replace hl : lv_has ls 6 [(4, .int lx59), (0, .ref (q 134))] := hl
              refine lv_istore_n (lv' := [(3, .int lx135), (4, .int lx59), (0, .ref (q 134))]) hx hb d_15_11_91 rfl hl (by decide) rfl (fun ls hl => ?_)
              refine lv_aload_n hx hb d_15_11_92 rfl (lv_at hl 2 rfl) ?_
              refine q_get (ci := 14) (j := 7) (v := .ref (q 140)) C0 V i_DR rfl rfl hO69 (by decide) w_2010 rfl d_15_11_93 ?_
              refine lv_iload hx hb d_15_11_96 (lv_at hl 1 rfl) ?_
              refine lv_aload_n hx hb d_15_11_98 rfl (lv_at hl 2 rfl) ?_
              refine q_get (ci := 14) (j := 7) (v := .ref (q 140)) C0 V i_DR rfl rfl hO69 (by decide) w_2010 rfl d_15_11_99 ?_
              refine lv_iload hx hb d_15_11_102 (lv_at hl 1 rfl) ?_
              refine q_iald C0 V hO70 (q_ix (x := lx59.toInt) rfl (by first | with_reducible exact q_fe b131 | (have t1 : 0 ≤ lx59.toInt := b131; omega)) (by have t1 : 0 ≤ lx59.toInt := b131; have t2 : lx59.toInt ≤ 4399 := ob132; have e9 : (((4400 : Int32).toNatClampNeg : Nat) : Int) = 4400 := (by decide); omega)) d_15_11_104 ?_
              obtain ⟨a146, e147⟩ := q_nm (lx61 lx59.toNatClampNeg : Int32)
              refine q_ti (v := a146) e147 ?_
              refine lv_bipush (v := 9) hx hb d_15_11_105 (by decide) ?_
              refine lv_icmp_ne (tgt := 114) hx hb d_15_11_107 (by decide) (fun c148 => ?_) (fun c148 => ?_)
              ·
                refine lv_aload_n hx hb d_15_11_114 rfl (lv_at hl 2 rfl) ?_
                refine q_get (ci := 14) (j := 7) (v := .ref (q 140)) C0 V i_DR rfl rfl hO69 (by decide) w_2010 rfl d_15_11_115 ?_
                refine lv_iload hx hb d_15_11_118 (lv_at hl 1 rfl) ?_
                refine q_iald C0 V hO70 (q_ix (x := lx59.toInt) rfl (by first | with_reducible exact q_fe b131 | (have t1 : 0 ≤ lx59.toInt := b131; omega)) (by have t1 : 0 ≤ lx59.toInt := b131; have t2 : lx59.toInt ≤ 4399 := ob132; have e9 : (((4400 : Int32).toNatClampNeg : Nat) : Int) = 4400 := (by decide); omega)) d_15_11_120 ?_
                obtain ⟨a150, e151⟩ := q_nm (lx61 lx59.toNatClampNeg : Int32)
                refine q_ti (v := a150) e151 ?_
                refine lv_iconst (v := 1) hx hb d_15_11_121 (by decide) ?_
                refine lv_iadd hx hb d_15_11_122 ?_
                obtain ⟨a152, e153⟩ := q_nm (a150 + 1 : Int32)
                refine q_ti (v := a152) e153 ?_
                refine q_iast C0 V hO70 (q_ix (x := lx59.toInt) rfl (by first | with_reducible exact q_fe b131 | (have t1 : 0 ≤ lx59.toInt := b131; omega)) (by have t1 : 0 ≤ lx59.toInt := b131; have t2 : lx59.toInt ≤ 4399 := ob132; have e9 : (((4400 : Int32).toNatClampNeg : Nat) : Int) = 4400 := (by decide); omega)) d_15_11_123 (fun H locs w154 hu155 hO70 V => ?_)
                replace hI := n_ai' hI (n_r140 g q).1 hu155 hO70 (q_updB (fun _ => s_bnd) s_bnd)
                replace hO69 := (hu155 _ (by decide)).trans hO69
                replace hF := q_us hF hu155 (by simp)
                obtain ⟨f156, e157⟩ := q_nm (upd lx61 lx59.toNatClampNeg a152 : (Nat → Int32))
                rw [e157] at hO70
                obtain ⟨a158, e159⟩ := q_nm (lx59 + (-1) : Int32)
                have b160 : q_F (a158.toInt = lx59.toInt + (-1)) := (by rw [← e159]; exact q_addI (y := (-1)) rfl (by decide) (by have t1 : lx60.toInt ≤ lx59.toInt + 2 := i64; have t2 : 0 ≤ lx59.toInt + lx60.toInt + 1 := i65; have t3 : lx59.toInt ≤ 4399 := ob132; omega) (by have t1 : lx60.toInt ≤ lx59.toInt + 2 := i64; have t2 : 0 ≤ lx59.toInt + lx60.toInt + 1 := i65; have t3 : lx59.toInt ≤ 4399 := ob132; omega))
                refine lv_iinc (v := a158) (lv' := [(4, .int a158), (3, .int lx135), (0, .ref (q 134))]) hx hb d_15_11_124 hl (k := 1) rfl (e159) (by decide) rfl (fun ls hl => ?_)
                refine lv_goto (tgt := 64) hx hb d_15_11_127 (by decide) ?_
                exact ih67 ((a158 : Int32), (lx135 : Int32), (f156 : (Nat → Int32))) _ _ _ _ (show (a158.toInt - ((-1))).toNat < (lx59.toInt - ((-1))).toNat from by have t1 : a158.toInt = lx59.toInt + (-1) := b160; have t2 : lx60.toInt ≤ lx59.toInt + 2 := i64; have t3 : 0 ≤ lx59.toInt + lx60.toInt + 1 := i65; have t4 : 0 ≤ lx59.toInt := b131; omega) ⟨(show q_F (0 ≤ lx135.toInt) from (show 0 ≤ lx135.toInt from by have t1 : lx60.toInt = 1 := b128; have t2 : lx60.toInt ≤ lx135.toInt + 1 := i139; omega)), (show q_F (lx135.toInt ≤ a23.toInt) from (show lx135.toInt ≤ a23.toInt from by have t1 : lx60.toInt ≤ a23.toInt := i63; have t2 : lx135.toInt ≤ lx60.toInt := i140; omega)), (show q_F (lx135.toInt ≤ a158.toInt + 2) from (show lx135.toInt ≤ a158.toInt + 2 from by have t1 : lx60.toInt = 1 := b128; have t2 : 0 ≤ lx59.toInt := b131; have t3 : lx135.toInt ≤ lx60.toInt := i140; have t4 : a158.toInt = lx59.toInt + (-1) := b160; omega)), (show q_F (0 ≤ a158.toInt + lx135.toInt + 1) from (show 0 ≤ a158.toInt + lx135.toInt + 1 from by have t1 : lx60.toInt = 1 := b128; have t2 : 0 ≤ lx59.toInt := b131; have t3 : lx60.toInt ≤ lx135.toInt + 1 := i139; have t4 : a158.toInt = lx59.toInt + (-1) := b160; omega)), (show q_F (a158.toInt + a23.toInt ≤ lx135.toInt + a54.toInt) from (show a158.toInt + a23.toInt ≤ lx135.toInt + a54.toInt from by have t1 : lx59.toInt + a23.toInt ≤ lx60.toInt + a54.toInt := i66; have t2 : lx60.toInt ≤ lx135.toInt + 1 := i139; have t3 : a158.toInt = lx59.toInt + (-1) := b160; omega)), V, q_lw hl (q_lw1 0 rfl (q_lw1 1 rfl (q_lw1 2 rfl q_lw0))), hI, hF, hO69, hO70, ⟨fm75, Nat.lt_of_lt_of_le (show (a158.toInt - ((-1))).toNat < (lx59.toInt - ((-1))).toNat from by have t1 : a158.toInt = lx59.toInt + (-1) := b160; have t2 : lx60.toInt ≤ lx59.toInt + 2 := i64; have t3 : 0 ≤ lx59.toInt + lx60.toInt + 1 := i65; have t4 : 0 ≤ lx59.toInt := b131; omega) (Nat.le_of_lt_succ hf74), (show F_DR_cut_L64 x2 x3 t0_0 t0_1 t0_2 t0_3 t0_4 t0_5 t0_6 t0_7 t0_8 t0_9 t0_10 t1_0 a23 j35 lx39 fm75 a158 lx135 f156 = (F_DR_cut x2 x3 t0_0 t0_1 t0_2 t0_3 t0_4 t0_5 t0_6 t0_7 t0_8 t0_9 t0_10 t1_0) from Eq.trans (by have c148x := c148; rw [← e147] at c148x; rw [← e159, ← e157, ← e153, ← e151, F_DR_cut_J91.eq_1, if_neg c148x]) hR141), (show True ∧ S_DR_cut_L64 x2 x3 t0_0 t0_1 t0_2 t0_3 t0_4 t0_5 t0_6 t0_7 t0_8 t0_9 t0_10 t1_0 a23 j35 lx39 fm75 a158 lx135 f156 from (by rw [← e159, ← e157, ← e153, ← e151]; have h := hS142; rw [S_DR_cut_J91.eq_1] at h; have c148x := c148; rw [← e147] at c148x; rw [if_neg c148x] at h; with_reducible exact h))⟩⟩
              ·
                refine lv_iconst (v := 0) hx hb d_15_11_110 (by decide) ?_
                refine lv_goto (tgt := 123) hx hb d_15_11_111 (by decide) ?_
                refine q_iast C0 V hO70 (q_ix (x := lx59.toInt) rfl (by first | with_reducible exact q_fe b131 | (have t1 : 0 ≤ lx59.toInt := b131; omega)) (by have t1 : 0 ≤ lx59.toInt := b131; have t2 : lx59.toInt ≤ 4399 := ob132; have e9 : (((4400 : Int32).toNatClampNeg : Nat) : Int) = 4400 := (by decide); omega)) d_15_11_123 (fun H locs w162 hu163 hO70 V => ?_)
                replace hI := n_ai' hI (n_r140 g q).1 hu163 hO70 (q_updB (fun _ => s_bnd) s_bnd)
                replace hO69 := (hu163 _ (by decide)).trans hO69
                replace hF := q_us hF hu163 (by simp)
                obtain ⟨f164, e165⟩ := q_nm (upd lx61 lx59.toNatClampNeg 0 : (Nat → Int32))
                rw [e165] at hO70
                obtain ⟨a166, e167⟩ := q_nm (lx59 + (-1) : Int32)
                have b168 : q_F (a166.toInt = lx59.toInt + (-1)) := (by rw [← e167]; exact q_addI (y := (-1)) rfl (by decide) (by have t1 : lx60.toInt ≤ lx59.toInt + 2 := i64; have t2 : 0 ≤ lx59.toInt + lx60.toInt + 1 := i65; have t3 : lx59.toInt ≤ 4399 := ob132; omega) (by have t1 : lx60.toInt ≤ lx59.toInt + 2 := i64; have t2 : 0 ≤ lx59.toInt + lx60.toInt + 1 := i65; have t3 : lx59.toInt ≤ 4399 := ob132; omega))
                refine lv_iinc (v := a166) (lv' := [(4, .int a166), (3, .int lx135), (0, .ref (q 134))]) hx hb d_15_11_124 hl (k := 1) rfl (e167) (by decide) rfl (fun ls hl => ?_)
                refine lv_goto (tgt := 64) hx hb d_15_11_127 (by decide) ?_
                exact ih67 ((a166 : Int32), (lx135 : Int32), (f164 : (Nat → Int32))) _ _ _ _ (show (a166.toInt - ((-1))).toNat < (lx59.toInt - ((-1))).toNat from by have t1 : a166.toInt = lx59.toInt + (-1) := b168; have t2 : lx60.toInt ≤ lx59.toInt + 2 := i64; have t3 : 0 ≤ lx59.toInt + lx60.toInt + 1 := i65; have t4 : 0 ≤ lx59.toInt := b131; omega) ⟨(show q_F (0 ≤ lx135.toInt) from (show 0 ≤ lx135.toInt from by have t1 : lx60.toInt = 1 := b128; have t2 : lx60.toInt ≤ lx135.toInt + 1 := i139; omega)), (show q_F (lx135.toInt ≤ a23.toInt) from (show lx135.toInt ≤ a23.toInt from by have t1 : lx60.toInt ≤ a23.toInt := i63; have t2 : lx135.toInt ≤ lx60.toInt := i140; omega)), (show q_F (lx135.toInt ≤ a166.toInt + 2) from (show lx135.toInt ≤ a166.toInt + 2 from by have t1 : lx60.toInt = 1 := b128; have t2 : 0 ≤ lx59.toInt := b131; have t3 : lx135.toInt ≤ lx60.toInt := i140; have t4 : a166.toInt = lx59.toInt + (-1) := b168; omega)), (show q_F (0 ≤ a166.toInt + lx135.toInt + 1) from (show 0 ≤ a166.toInt + lx135.toInt + 1 from by have t1 : lx60.toInt = 1 := b128; have t2 : 0 ≤ lx59.toInt := b131; have t3 : lx60.toInt ≤ lx135.toInt + 1 := i139; have t4 : a166.toInt = lx59.toInt + (-1) := b168; omega)), (show q_F (a166.toInt + a23.toInt ≤ lx135.toInt + a54.toInt) from (show a166.toInt + a23.toInt ≤ lx135.toInt + a54.toInt from by have t1 : lx59.toInt + a23.toInt ≤ lx60.toInt + a54.toInt := i66; have t2 : lx60.toInt ≤ lx135.toInt + 1 := i139; have t3 : a166.toInt = lx59.toInt + (-1) := b168; omega)), V, q_lw hl (q_lw1 0 rfl (q_lw1 1 rfl (q_lw1 2 rfl q_lw0))), hI, hF, hO69, hO70, ⟨fm75, Nat.lt_of_lt_of_le (show (a166.toInt - ((-1))).toNat < (lx59.toInt - ((-1))).toNat from by have t1 : a166.toInt = lx59.toInt + (-1) := b168; have t2 : lx60.toInt ≤ lx59.toInt + 2 := i64; have t3 : 0 ≤ lx59.toInt + lx60.toInt + 1 := i65; have t4 : 0 ≤ lx59.toInt := b131; omega) (Nat.le_of_lt_succ hf74), (show F_DR_cut_L64 x2 x3 t0_0 t0_1 t0_2 t0_3 t0_4 t0_5 t0_6 t0_7 t0_8 t0_9 t0_10 t1_0 a23 j35 lx39 fm75 a166 lx135 f164 = (F_DR_cut x2 x3 t0_0 t0_1 t0_2 t0_3 t0_4 t0_5 t0_6 t0_7 t0_8 t0_9 t0_10 t1_0) from Eq.trans (by have c148x := c148; rw [← e147] at c148x; rw [← e167, ← e165, F_DR_cut_J91.eq_1, if_pos c148x]) hR141), (show True ∧ S_DR_cut_L64 x2 x3 t0_0 t0_1 t0_2 t0_3 t0_4 t0_5 t0_6 t0_7 t0_8 t0_9 t0_10 t1_0 a23 j35 lx39 fm75 a166 lx135 f164 from (by rw [← e167, ← e165]; have h := hS142; rw [S_DR_cut_J91.eq_1] at h; have c148x := c148; rw [← e147] at c148x; rw [if_pos c148x] at h; with_reducible exact h))⟩⟩
            ·
              intro J138
              refine lv_icmp_ne (tgt := 90) hx hb d_15_11_83 (by decide) (fun c169 => ?_) (fun c169 => ?_)
              ·
                refine lv_iconst (v := 0) hx hb d_15_11_90 (by decide) ?_
                exact J138 ((0 : Int32)) _ _ _ w68 ⟨(show q_F (lx60.toInt ≤ 0 + 1) from (show lx60.toInt ≤ 0 + 1 from by have t1 : lx60.toInt = 1 := b128; omega)), (show q_F (0 ≤ lx60.toInt) from (show 0 ≤ lx60.toInt from by have t1 : 0 ≤ lx60.toInt := i62; omega)), V, q_lw hl (q_lw1 0 rfl (q_lw1 2 rfl q_lw0)), (show F_DR_cut_J91 (F_DR_cut_L64 x2 x3 t0_0 t0_1 t0_2 t0_3 t0_4 t0_5 t0_6 t0_7 t0_8 t0_9 t0_10 t1_0 a23 j35 lx39 fm75) x2 x3 t0_0 t0_1 t0_2 t0_3 t0_4 t0_5 t0_6 t0_7 t0_8 t0_9 t0_10 t1_0 a23 j35 lx39 lx59 lx60 lx61 0 = (F_DR_cut x2 x3 t0_0 t0_1 t0_2 t0_3 t0_4 t0_5 t0_6 t0_7 t0_8 t0_9 t0_10 t1_0) from Eq.trans (by have c169x := c169; rw [← e134] at c169x; rw [F_DR_cut_L64.eq_2, if_pos c126, if_neg c129, if_neg c169x]) hR71), (show True ∧ S_DR_cut_J91 (S_DR_cut_L64 x2 x3 t0_0 t0_1 t0_2 t0_3 t0_4 t0_5 t0_6 t0_7 t0_8 t0_9 t0_10 t1_0 a23 j35 lx39 fm75) x2 x3 t0_0 t0_1 t0_2 t0_3 t0_4 t0_5 t0_6 t0_7 t0_8 t0_9 t0_10 t1_0 a23 j35 lx39 lx59 lx60 lx61 0 from (by have h := hS72; rw [S_DR_cut_L64.eq_2] at h; rw [if_pos c126] at h; rw [if_neg c129] at h; replace h := q_s2 h; have c169x := c169; rw [← e134] at c169x; rw [if_neg c169x] at h; with_reducible exact h))⟩
              ·
                refine lv_iconst (v := 1) hx hb d_15_11_86 (by decide) ?_
                refine lv_goto (tgt := 91) hx hb d_15_11_87 (by decide) ?_
                exact J138 ((1 : Int32)) _ _ _ w68 ⟨(show q_F (lx60.toInt ≤ 1 + 1) from (show lx60.toInt ≤ 1 + 1 from by have t1 : lx60.toInt = 1 := b128; omega)), (show q_F (1 ≤ lx60.toInt) from (show 1 ≤ lx60.toInt from by have t1 : lx60.toInt = 1 := b128; omega)), V, q_lw hl (q_lw1 0 rfl (q_lw1 2 rfl q_lw0)), (show F_DR_cut_J91 (F_DR_cut_L64 x2 x3 t0_0 t0_1 t0_2 t0_3 t0_4 t0_5 t0_6 t0_7 t0_8 t0_9 t0_10 t1_0 a23 j35 lx39 fm75) x2 x3 t0_0 t0_1 t0_2 t0_3 t0_4 t0_5 t0_6 t0_7 t0_8 t0_9 t0_10 t1_0 a23 j35 lx39 lx59 lx60 lx61 1 = (F_DR_cut x2 x3 t0_0 t0_1 t0_2 t0_3 t0_4 t0_5 t0_6 t0_7 t0_8 t0_9 t0_10 t1_0) from Eq.trans (by have c169x := c169; rw [← e134] at c169x; rw [F_DR_cut_L64.eq_2, if_pos c126, if_neg c129, if_pos c169x]) hR71), (show True ∧ S_DR_cut_J91 (S_DR_cut_L64 x2 x3 t0_0 t0_1 t0_2 t0_3 t0_4 t0_5 t0_6 t0_7 t0_8 t0_9 t0_10 t1_0 a23 j35 lx39 fm75) x2 x3 t0_0 t0_1 t0_2 t0_3 t0_4 t0_5 t0_6 t0_7 t0_8 t0_9 t0_10 t1_0 a23 j35 lx39 lx59 lx60 lx61 1 from (by have h := hS72; rw [S_DR_cut_L64.eq_2] at h; rw [if_pos c126] at h; rw [if_neg c129] at h; replace h := q_s2 h; have c169x := c169; rw [← e134] at c169x; rw [if_pos c169x] at h; with_reducible exact h))⟩
    ·
      intro J42
      refine lv_if_ge (tgt := 47) hx hb d_15_11_40 (by decide) (fun c172 => ?_) (fun c172 => ?_)
      ·
        have b173 : q_F (0 ≤ x2.toInt) := (q_leI c172)
        refine lv_iload_n hx hb d_15_11_47 rfl (lv_at hl 2 rfl) ?_
        exact J42 ((x2 : Int32)) _ _ _ w37 ⟨(show q_F (0 ≤ x2.toInt) from (show 0 ≤ x2.toInt from by have t1 : 0 ≤ x2.toInt := b173; omega)), (show q_F (x2.toInt ≤ x2.toInt) from (show x2.toInt ≤ x2.toInt from by omega)), V, q_lw hl (q_lw1 0 rfl (q_lw1 1 rfl q_lw0)), (show F_DR_cut_J48 x2 x3 t0_0 t0_1 t0_2 t0_3 t0_4 t0_5 t0_6 t0_7 t0_8 t0_9 t0_10 t1_0 a23 j35 x2 = (F_DR_cut x2 x3 t0_0 t0_1 t0_2 t0_3 t0_4 t0_5 t0_6 t0_7 t0_8 t0_9 t0_10 t1_0) from (by have c28x := c28; rw [e27] at c28x; rw [← e36, ← e33, ← e31, e27, F_DR_cut.eq_1, if_neg c28x, if_pos c172])), (show True ∧ S_DR_cut_J48 x2 x3 t0_0 t0_1 t0_2 t0_3 t0_4 t0_5 t0_6 t0_7 t0_8 t0_9 t0_10 t1_0 a23 j35 x2 from (by rw [← e36, ← e33, ← e31, e27]; have h := hS; rw [S_DR_cut.eq_1] at h; replace h := q_s2 h; have c28x := c28; rw [e27] at c28x; rw [if_neg c28x] at h; rw [if_pos c172] at h; with_reducible exact h))⟩
      ·
        have b174 : q_F (x2.toInt < 0) := (q_nleI c172)
        refine lv_iconst (v := 0) hx hb d_15_11_43 (by decide) ?_
        refine lv_goto (tgt := 48) hx hb d_15_11_44 (by decide) ?_
        exact J42 ((0 : Int32)) _ _ _ w37 ⟨(show q_F (0 ≤ 0) from (show 0 ≤ 0 from by omega)), (show q_F (x2.toInt ≤ 0) from (show x2.toInt ≤ 0 from by have t1 : x2.toInt < 0 := b174; omega)), V, q_lw hl (q_lw1 0 rfl (q_lw1 1 rfl q_lw0)), (show F_DR_cut_J48 x2 x3 t0_0 t0_1 t0_2 t0_3 t0_4 t0_5 t0_6 t0_7 t0_8 t0_9 t0_10 t1_0 a23 j35 0 = (F_DR_cut x2 x3 t0_0 t0_1 t0_2 t0_3 t0_4 t0_5 t0_6 t0_7 t0_8 t0_9 t0_10 t1_0) from (by have c28x := c28; rw [e27] at c28x; rw [← e36, ← e33, ← e31, e27, F_DR_cut.eq_1, if_neg c28x, if_neg c172])), (show True ∧ S_DR_cut_J48 x2 x3 t0_0 t0_1 t0_2 t0_3 t0_4 t0_5 t0_6 t0_7 t0_8 t0_9 t0_10 t1_0 a23 j35 0 from (by rw [← e36, ← e33, ← e31, e27]; have h := hS; rw [S_DR_cut.eq_1] at h; replace h := q_s2 h; have c28x := c28; rw [e27] at c28x; rw [if_neg c28x] at h; rw [if_neg c172] at h; with_reducible exact h))⟩
  ·
    refine lv_aload_n hx hb d_15_11_12 rfl (lv_at hl 1 rfl) ?_
    refine lv_aload_n hx hb d_15_11_13 rfl (lv_at hl 1 rfl) ?_
    refine q_get (ci := 14) (j := 20) (v := .int t0_10) C0 V i_DR rfl rfl hT0 (by decide) w_2024 rfl d_15_11_14 ?_
    refine q_put (ci := 14) (j := 0) (v := .int t0_10) (ty := .int) C0 V i_DR o_DR n_DR rfl rfl hT0 (by decide) w_1996 rfl rfl rfl rfl (Nat.le_of_ble_eq_true rfl) d_15_11_17 (fun H locs w176 hu177 hT0 V => ?_)
    replace hT0 : w176[134]? = (some (q 134, .inr (14, [.int t0_10, .ref (q 135), .int t0_1, .ref (q 136), .ref (q 137), .ref (q 138), .ref (q 139), .ref (q 140), .int t0_2, .long t0_3, .int t0_4, .int t0_5, .ref (q 141), .int t0_6, .ref (q 142), .int t0_7, .ref (q 143), .int t0_8, .ref (q 144), .int t0_9, .int t0_10])) : Option (Nat × va_E)) := hT0
    replace hI := n_p134 hI hu177 hT0 (by first | with_reducible exact q_fe btt0_1 | exact ⟨(by have t1 : 0 ≤ t0_1.toInt ∧ t0_1.toInt ≤ 4100 := btt0_1; omega), (by have t1 : 0 ≤ t0_1.toInt ∧ t0_1.toInt ≤ 4100 := btt0_1; omega)⟩) (by first | with_reducible exact q_fe btt0_4 | exact ⟨(by have t1 : 0 ≤ t0_4.toInt ∧ t0_4.toInt ≤ 1 := btt0_4; omega), (by have t1 : 0 ≤ t0_4.toInt ∧ t0_4.toInt ≤ 1 := btt0_4; omega)⟩) (by first | with_reducible exact q_fe btt0_5 | exact ⟨(by have t1 : 0 ≤ t0_5.toInt ∧ t0_5.toInt ≤ 1 := btt0_5; omega), (by have t1 : 0 ≤ t0_5.toInt ∧ t0_5.toInt ≤ 1 := btt0_5; omega)⟩) (by first | with_reducible exact q_fe btt0_9 | exact ⟨(by have t1 : 0 ≤ t0_9.toInt ∧ t0_9.toInt ≤ 12200 := btt0_9; omega), (by have t1 : 0 ≤ t0_9.toInt ∧ t0_9.toInt ≤ 12200 := btt0_9; omega)⟩)
    replace hT1 := (hu177 _ (by decide)).trans hT1
    replace hF := q_us hF hu177 (by simp)
    refine lv_iconst (v := 0) hx hb d_15_11_20 (by decide) ?_
    exact q_retz C0 V (by decide) (⟨hI, hF, t0_10, t0_1, t0_2, t0_3, t0_4, t0_5, t0_6, t0_7, t0_8, t0_9, t0_10, t1_0, hT0, hT1, (show 0 ≤ (0 : Int32).toInt from (by have z14 : (0 : Int32).toInt = 0 := rfl; omega)), (show (0 : Int32).toInt ≤ 1 from (by have z14 : (0 : Int32).toInt = 0 := rfl; omega)), (show 0 ≤ t0_4.toInt from (by have z14 : (0 : Int32).toInt = 0 := rfl; have t1 : 0 ≤ t0_4.toInt ∧ t0_4.toInt ≤ 1 := btt0_4; omega)), (show t0_1.toInt ≤ t0_1.toInt from (by have z14 : (0 : Int32).toInt = 0 := rfl; omega)), (show t0_1.toInt ≤ t0_1.toInt from (by have z14 : (0 : Int32).toInt = 0 := rfl; omega)), (show t0_4.toInt ≤ t0_4.toInt from (by have z14 : (0 : Int32).toInt = 0 := rfl; omega)), (show t0_5.toInt ≤ t0_5.toInt from (by have z14 : (0 : Int32).toInt = 0 := rfl; omega)), (show t0_5.toInt ≤ t0_5.toInt from (by have z14 : (0 : Int32).toInt = 0 := rfl; omega)), (show t0_6.toInt ≤ t0_6.toInt from (by have z14 : (0 : Int32).toInt = 0 := rfl; omega)), (show t0_6.toInt ≤ t0_6.toInt from (by have z14 : (0 : Int32).toInt = 0 := rfl; omega)), (show t0_7.toInt ≤ t0_7.toInt from (by have z14 : (0 : Int32).toInt = 0 := rfl; omega)), (show t0_7.toInt ≤ t0_7.toInt from (by have z14 : (0 : Int32).toInt = 0 := rfl; omega)), (show t0_8.toInt ≤ t0_8.toInt from (by have z14 : (0 : Int32).toInt = 0 := rfl; omega)), (show t0_8.toInt ≤ t0_8.toInt from (by have z14 : (0 : Int32).toInt = 0 := rfl; omega)), (show t0_9.toInt ≤ t0_9.toInt from (by have z14 : (0 : Int32).toInt = 0 := rfl; omega)), (show t0_9.toInt ≤ t0_9.toInt from (by have z14 : (0 : Int32).toInt = 0 := rfl; omega)), (show t0_10.toInt ≤ t0_10.toInt from (by have z14 : (0 : Int32).toInt = 0 := rfl; omega)), (show t0_10.toInt ≤ t0_10.toInt from (by have z14 : (0 : Int32).toInt = 0 := rfl; omega)), (show ((0 : Int32), t0_10, t0_1, t0_2, t0_3, t0_4, t0_5, t0_6, t0_7, t0_8, t0_9, t0_10, t1_0) = (F_DR_cut x2 x3 t0_0 t0_1 t0_2 t0_3 t0_4 t0_5 t0_6 t0_7 t0_8 t0_9 t0_10 t1_0) from (by have c28x := c28; rw [e27] at c28x; rw [F_DR_cut.eq_1, if_pos c28x]))⟩) d_15_11_21
theorem d_15_13_0 : decode prog_15_method_13_code 0 = .ok (.aload_n 0, 1) := by decide +kernel
theorem d_15_13_1 : decode prog_15_method_13_code 1 = .ok (.invokevirtual 59, 3) := by decide +kernel
theorem d_15_13_4 : decode prog_15_method_13_code 4 = .ok (.aload_n 0, 1) := by decide +kernel
theorem d_15_13_5 : decode prog_15_method_13_code 5 = .ok (.getfield 26, 3) := by decide +kernel
theorem d_15_13_8 : decode prog_15_method_13_code 8 = .ok (.iconst 0, 1) := by decide +kernel
theorem d_15_13_9 : decode prog_15_method_13_code 9 = .ok (.iaload, 1) := by decide +kernel
theorem d_15_13_28 : decode prog_15_method_13_code 28 = .ok (.lload_n 1, 1) := by decide +kernel
theorem d_15_13_29 : decode prog_15_method_13_code 29 = .ok (.aload_n 0, 1) := by decide +kernel
theorem d_15_13_30 : decode prog_15_method_13_code 30 = .ok (.getfield 48, 3) := by decide +kernel
theorem d_15_13_33 : decode prog_15_method_13_code 33 = .ok (.lcmp, 1) := by decide +kernel
theorem d_15_13_34 : decode prog_15_method_13_code 34 = .ok (.ifCond .lt 38, 3) := by decide +kernel
theorem d_15_13_72 : decode prog_15_method_13_code 72 = .ok (.aload_n 0, 1) := by decide +kernel
theorem d_15_13_73 : decode prog_15_method_13_code 73 = .ok (.getfield 45, 3) := by decide +kernel
theorem d_15_13_76 : decode prog_15_method_13_code 76 = .ok (.i2l, 1) := by decide +kernel
theorem d_15_13_77 : decode prog_15_method_13_code 77 = .ok (.aload_n 0, 1) := by decide +kernel
theorem d_15_13_78 : decode prog_15_method_13_code 78 = .ok (.getfield 48, 3) := by decide +kernel
theorem d_15_13_81 : decode prog_15_method_13_code 81 = .ok (.lload_n 1, 1) := by decide +kernel
theorem d_15_13_82 : decode prog_15_method_13_code 82 = .ok (.lsub, 1) := by decide +kernel
theorem d_15_13_83 : decode prog_15_method_13_code 83 = .ok (.lsub, 1) := by decide +kernel
theorem d_15_13_84 : decode prog_15_method_13_code 84 = .ok (.lstore 5, 2) := by decide +kernel
theorem d_15_13_86 : decode prog_15_method_13_code 86 = .ok (.aload_n 0, 1) := by decide +kernel
theorem d_15_13_87 : decode prog_15_method_13_code 87 = .ok (.lload 5, 2) := by decide +kernel
theorem d_15_13_89 : decode prog_15_method_13_code 89 = .ok (.ldc2_w 83, 3) := by decide +kernel
set_option maxRecDepth 100000 in
theorem w_2811 : (Cond.constantLong "NumberHouseModel$DecimalRows" (83 : Nat) (-1 : Int64)) ∈ q_tbl := q_of12 171 rfl (by decide +kernel)
theorem d_15_13_92 : decode prog_15_method_13_code 92 = .ok (.lcmp, 1) := by decide +kernel
theorem d_15_13_93 : decode prog_15_method_13_code 93 = .ok (.ifCond .ge 7, 3) := by decide +kernel
theorem d_15_13_100 : decode prog_15_method_13_code 100 = .ok (.lload 5, 2) := by decide +kernel
theorem d_15_13_102 : decode prog_15_method_13_code 102 = .ok (.l2i, 1) := by decide +kernel
theorem d_15_13_103 : decode prog_15_method_13_code 103 = .ok (.iload_n 3, 1) := by decide +kernel
theorem d_15_13_104 : decode prog_15_method_13_code 104 = .ok (.invokevirtual 85, 3) := by decide +kernel
set_option maxRecDepth 100000 in
theorem w_2815 : (Cond.code ({ cls := "NumberHouseModel$DecimalRows", name := "cut", desc := "(II)Z" } : MethodName) prog_15_method_11_code (6 : Nat) (some .boolean)) ∈ q_tbl := q_of12 175 rfl (by decide +kernel)
set_option maxRecDepth 100000 in
theorem w_2812 : (Cond.methodLink "NumberHouseModel$DecimalRows" (85 : Nat) ({ cls := "NumberHouseModel$DecimalRows", name := "cut", desc := "(II)Z" } : MethodName)) ∈ q_tbl := q_of12 172 rfl (by decide +kernel)
set_option maxRecDepth 100000 in
theorem w_2814 : (Cond.instanceMethod ({ cls := "NumberHouseModel$DecimalRows", name := "cut", desc := "(II)Z" } : MethodName)) ∈ q_tbl := q_of12 174 rfl (by decide +kernel)
theorem ws_115 : Cond.selects "NumberHouseModel$DecimalRows" (⟨"NumberHouseModel$DecimalRows", "cut", "(II)Z"⟩ : MethodName) (⟨"NumberHouseModel$DecimalRows", "cut", "(II)Z"⟩ : MethodName) ∈ q_tbl := q_ofs 115 (by decide +kernel) (by decide +kernel)
theorem LV_DR_85 : q_LV "NumberHouseModel$DecimalRows" 85 y_DR_cut prog_15_method_11_code 6 (some .boolean) 2 := ⟨w_2815, w_16, w_2812, w_2814, ws_115, ⟨by decide, by decide, by decide +kernel⟩⟩
theorem d_15_13_107 : decode prog_15_method_13_code 107 = .ok (.ifCond .ne 4, 3) := by decide +kernel
theorem d_15_13_111 : decode prog_15_method_13_code 111 = .ok (.aload_n 0, 1) := by decide +kernel
theorem d_15_13_112 : decode prog_15_method_13_code 112 = .ok (.lload_n 1, 1) := by decide +kernel
theorem d_15_13_113 : decode prog_15_method_13_code 113 = .ok (.putfield 48, 3) := by decide +kernel
theorem d_15_13_116 : decode prog_15_method_13_code 116 = .ok (.aload_n 0, 1) := by decide +kernel
theorem d_15_13_117 : decode prog_15_method_13_code 117 = .ok (.iload 4, 2) := by decide +kernel
theorem d_15_13_119 : decode prog_15_method_13_code 119 = .ok (.invokevirtual 89, 3) := by decide +kernel
theorem d_15_13_122 : decode prog_15_method_13_code 122 = .ok (.return_, 1) := by decide +kernel
theorem d_15_13_110 : decode prog_15_method_13_code 110 = .ok (.return_, 1) := by decide +kernel
theorem d_15_13_96 : decode prog_15_method_13_code 96 = .ok (.iconst (-1), 1) := by decide +kernel
theorem d_15_13_97 : decode prog_15_method_13_code 97 = .ok (.goto 6, 3) := by decide +kernel
theorem d_15_13_37 : decode prog_15_method_13_code 37 = .ok (.lload_n 1, 1) := by decide +kernel
theorem d_15_13_38 : decode prog_15_method_13_code 38 = .ok (.aload_n 0, 1) := by decide +kernel
theorem d_15_13_39 : decode prog_15_method_13_code 39 = .ok (.getfield 48, 3) := by decide +kernel
theorem d_15_13_42 : decode prog_15_method_13_code 42 = .ok (.lsub, 1) := by decide +kernel
theorem d_15_13_43 : decode prog_15_method_13_code 43 = .ok (.ldc2_w 77, 3) := by decide +kernel
set_option maxRecDepth 100000 in
theorem w_2802 : (Cond.constantLong "NumberHouseModel$DecimalRows" (77 : Nat) (1000 : Int64)) ∈ q_tbl := q_of12 162 rfl (by decide +kernel)
theorem d_15_13_46 : decode prog_15_method_13_code 46 = .ok (.lcmp, 1) := by decide +kernel
theorem d_15_13_47 : decode prog_15_method_13_code 47 = .ok (.ifCond .le 12, 3) := by decide +kernel
theorem d_15_13_59 : decode prog_15_method_13_code 59 = .ok (.aload_n 0, 1) := by decide +kernel
theorem d_15_13_60 : decode prog_15_method_13_code 60 = .ok (.lload_n 1, 1) := by decide +kernel
theorem d_15_13_61 : decode prog_15_method_13_code 61 = .ok (.aload_n 0, 1) := by decide +kernel
theorem d_15_13_62 : decode prog_15_method_13_code 62 = .ok (.getfield 48, 3) := by decide +kernel
theorem d_15_13_65 : decode prog_15_method_13_code 65 = .ok (.lsub, 1) := by decide +kernel
theorem d_15_13_66 : decode prog_15_method_13_code 66 = .ok (.invokevirtual 79, 3) := by decide +kernel
set_option maxRecDepth 100000 in
theorem w_2810 : (Cond.code ({ cls := "NumberHouseModel$DecimalRows", name := "lengthen", desc := "(J)V" } : MethodName) prog_15_method_12_code (5 : Nat) (none : Option ClassFile.FieldType)) ∈ q_tbl := q_of12 170 rfl (by decide +kernel)
set_option maxRecDepth 100000 in
theorem w_2807 : (Cond.methodLink "NumberHouseModel$DecimalRows" (79 : Nat) ({ cls := "NumberHouseModel$DecimalRows", name := "lengthen", desc := "(J)V" } : MethodName)) ∈ q_tbl := q_of12 167 rfl (by decide +kernel)
set_option maxRecDepth 100000 in
theorem w_2809 : (Cond.instanceMethod ({ cls := "NumberHouseModel$DecimalRows", name := "lengthen", desc := "(J)V" } : MethodName)) ∈ q_tbl := q_of12 169 rfl (by decide +kernel)
theorem ws_114 : Cond.selects "NumberHouseModel$DecimalRows" (⟨"NumberHouseModel$DecimalRows", "lengthen", "(J)V"⟩ : MethodName) (⟨"NumberHouseModel$DecimalRows", "lengthen", "(J)V"⟩ : MethodName) ∈ q_tbl := q_ofs 114 (by decide +kernel) (by decide +kernel)
theorem LV_DR_79 : q_LV "NumberHouseModel$DecimalRows" 79 y_DR_lengthen prog_15_method_12_code 5 none 1 := ⟨w_2810, w_16, w_2807, w_2809, ws_114, ⟨by decide, by decide, by decide +kernel⟩⟩
theorem d_15_13_69 : decode prog_15_method_13_code 69 = .ok (.goto 47, 3) := by decide +kernel
theorem d_15_13_50 : decode prog_15_method_13_code 50 = .ok (.aload_n 0, 1) := by decide +kernel
theorem d_15_13_51 : decode prog_15_method_13_code 51 = .ok (.aload_n 0, 1) := by decide +kernel
theorem d_15_13_52 : decode prog_15_method_13_code 52 = .ok (.getfield 66, 3) := by decide +kernel
theorem d_15_13_55 : decode prog_15_method_13_code 55 = .ok (.putfield 41, 3) := by decide +kernel
theorem d_15_13_58 : decode prog_15_method_13_code 58 = .ok (.return_, 1) := by decide +kernel
theorem d_15_13_10 : decode prog_15_method_13_code 10 = .ok (.ifCond .ne 18, 3) := by decide +kernel
theorem d_15_13_13 : decode prog_15_method_13_code 13 = .ok (.aload_n 0, 1) := by decide +kernel
theorem d_15_13_14 : decode prog_15_method_13_code 14 = .ok (.getfield 52, 3) := by decide +kernel
theorem d_15_13_17 : decode prog_15_method_13_code 17 = .ok (.ifCond .ne 11, 3) := by decide +kernel
theorem d_15_13_20 : decode prog_15_method_13_code 20 = .ok (.aload_n 0, 1) := by decide +kernel
theorem d_15_13_21 : decode prog_15_method_13_code 21 = .ok (.lload_n 1, 1) := by decide +kernel
theorem d_15_13_22 : decode prog_15_method_13_code 22 = .ok (.putfield 48, 3) := by decide +kernel
theorem d_15_13_25 : decode prog_15_method_13_code 25 = .ok (.goto 91, 3) := by decide +kernel
def y_DR_bring : MethodName := ⟨"NumberHouseModel$DecimalRows", "bring", "(JII)V"⟩
def F_DR_bring_c119 (x2 : Int64) (x3 : Int32) (x4 : Int32) (t0_0 : Int32) (t0_1 : Int32) (t0_2 : Int32) (t0_3 : Int64) (t0_4 : Int32) (t0_5 : Int32) (t0_6 : Int32) (t0_7 : Int32) (t0_8 : Int32) (t0_9 : Int32) (t0_10 : Int32) (t1_0 : (Nat → Int32)) (t2_0 : (Nat → Int32)) (t3_0 : (Nat → Int32)) (t4_0 : (Nat → Int32)) (t5_0 : (Nat → Int32)) (p75 : (Int32 × Int32 × Int32 × Int64 × Int32 × Int32 × Int32 × Int32 × Int32 × Int32 × Int32 × (Nat → Int32))) (y36 : Int32) (y37 : Int32) (y38 : Int32) (y39 : Int64) (y40 : Int32) (y41 : Int32) (y42 : Int32) (y43 : Int32) (y44 : Int32) (y45 : Int32) (y46 : Int32) (f47 : (Nat → Int32)) (j118 : Int64) (p165 : (Int32 × Int32 × Int32 × Int32 × Int64 × Int32 × Int32 × Int32 × Int32 × Int32 × Int32 × Int32 × (Nat → Int32))) (p238 : (Int32 × Int32 × Int32 × Int64 × Int32 × Int32 × Int32 × Int32 × Int32 × Int32 × Int32 × (Nat → Int32) × (Nat → Int32) × (Nat → Int32) × (Nat → Int32) × (Nat → Int32))) : Int32 × Int32 × Int32 × Int64 × Int32 × Int32 × Int32 × Int32 × Int32 × Int32 × Int32 × (Nat → Int32) × (Nat → Int32) × (Nat → Int32) × (Nat → Int32) × (Nat → Int32) := ((p238.1 : Int32), (p238.2.1 : Int32), (p238.2.2.1 : Int32), (p238.2.2.2.1 : Int64), (p238.2.2.2.2.1 : Int32), (p238.2.2.2.2.2.1 : Int32), (p238.2.2.2.2.2.2.1 : Int32), (p238.2.2.2.2.2.2.2.1 : Int32), (p238.2.2.2.2.2.2.2.2.1 : Int32), (p238.2.2.2.2.2.2.2.2.2.1 : Int32), (p238.2.2.2.2.2.2.2.2.2.2.1 : Int32), (p238.2.2.2.2.2.2.2.2.2.2.2.1 : (Nat → Int32)), (p238.2.2.2.2.2.2.2.2.2.2.2.2.1 : (Nat → Int32)), (p238.2.2.2.2.2.2.2.2.2.2.2.2.2.1 : (Nat → Int32)), (p238.2.2.2.2.2.2.2.2.2.2.2.2.2.2.1 : (Nat → Int32)), (p238.2.2.2.2.2.2.2.2.2.2.2.2.2.2.2 : (Nat → Int32)))
def F_DR_bring_c104 (x2 : Int64) (x3 : Int32) (x4 : Int32) (t0_0 : Int32) (t0_1 : Int32) (t0_2 : Int32) (t0_3 : Int64) (t0_4 : Int32) (t0_5 : Int32) (t0_6 : Int32) (t0_7 : Int32) (t0_8 : Int32) (t0_9 : Int32) (t0_10 : Int32) (t1_0 : (Nat → Int32)) (t2_0 : (Nat → Int32)) (t3_0 : (Nat → Int32)) (t4_0 : (Nat → Int32)) (t5_0 : (Nat → Int32)) (p75 : (Int32 × Int32 × Int32 × Int64 × Int32 × Int32 × Int32 × Int32 × Int32 × Int32 × Int32 × (Nat → Int32))) (y36 : Int32) (y37 : Int32) (y38 : Int32) (y39 : Int64) (y40 : Int32) (y41 : Int32) (y42 : Int32) (y43 : Int32) (y44 : Int32) (y45 : Int32) (y46 : Int32) (f47 : (Nat → Int32)) (j118 : Int64) (p165 : (Int32 × Int32 × Int32 × Int32 × Int64 × Int32 × Int32 × Int32 × Int32 × Int32 × Int32 × Int32 × (Nat → Int32))) : Int32 × Int32 × Int32 × Int64 × Int32 × Int32 × Int32 × Int32 × Int32 × Int32 × Int32 × (Nat → Int32) × (Nat → Int32) × (Nat → Int32) × (Nat → Int32) × (Nat → Int32) := if (p165.1 : Int32) = (0 : Int32) then (((p165.2.1 : Int32), (p165.2.2.1 : Int32), (p165.2.2.2.1 : Int32), (p165.2.2.2.2.1 : Int64), (p165.2.2.2.2.2.1 : Int32), (p165.2.2.2.2.2.2.1 : Int32), (p165.2.2.2.2.2.2.2.1 : Int32), (p165.2.2.2.2.2.2.2.2.1 : Int32), (p165.2.2.2.2.2.2.2.2.2.1 : Int32), (p165.2.2.2.2.2.2.2.2.2.2.1 : Int32), (p165.2.2.2.2.2.2.2.2.2.2.2.1 : Int32), t1_0, t2_0, t3_0, t4_0, (p165.2.2.2.2.2.2.2.2.2.2.2.2 : (Nat → Int32)))) else (F_DR_bring_c119 x2 x3 x4 t0_0 t0_1 t0_2 t0_3 t0_4 t0_5 t0_6 t0_7 t0_8 t0_9 t0_10 t1_0 t2_0 t3_0 t4_0 t5_0 p75 y36 y37 y38 y39 y40 y41 y42 y43 y44 y45 y46 f47 j118 p165 ((F_DR_store x4 (p165.2.1 : Int32) (p165.2.2.1 : Int32) (p165.2.2.2.1 : Int32) x2 (p165.2.2.2.2.2.1 : Int32) (p165.2.2.2.2.2.2.1 : Int32) (p165.2.2.2.2.2.2.2.1 : Int32) (p165.2.2.2.2.2.2.2.2.1 : Int32) (p165.2.2.2.2.2.2.2.2.2.1 : Int32) (p165.2.2.2.2.2.2.2.2.2.2.1 : Int32) (p165.2.2.2.2.2.2.2.2.2.2.2.1 : Int32) t1_0 t2_0 t3_0 t4_0 (p165.2.2.2.2.2.2.2.2.2.2.2.2 : (Nat → Int32))) : (Int32 × Int32 × Int32 × Int64 × Int32 × Int32 × Int32 × Int32 × Int32 × Int32 × Int32 × (Nat → Int32) × (Nat → Int32) × (Nat → Int32) × (Nat → Int32) × (Nat → Int32))))
def F_DR_bring_c119_6 (x2 : Int64) (x3 : Int32) (x4 : Int32) (t0_0 : Int32) (t0_1 : Int32) (t0_2 : Int32) (t0_3 : Int64) (t0_4 : Int32) (t0_5 : Int32) (t0_6 : Int32) (t0_7 : Int32) (t0_8 : Int32) (t0_9 : Int32) (t0_10 : Int32) (t1_0 : (Nat → Int32)) (t2_0 : (Nat → Int32)) (t3_0 : (Nat → Int32)) (t4_0 : (Nat → Int32)) (t5_0 : (Nat → Int32)) (p75 : (Int32 × Int32 × Int32 × Int64 × Int32 × Int32 × Int32 × Int32 × Int32 × Int32 × Int32 × (Nat → Int32))) (y36 : Int32) (y37 : Int32) (y38 : Int32) (y39 : Int64) (y40 : Int32) (y41 : Int32) (y42 : Int32) (y43 : Int32) (y44 : Int32) (y45 : Int32) (y46 : Int32) (f47 : (Nat → Int32)) (j118 : Int64) (p301 : (Int32 × Int32 × Int32 × Int32 × Int64 × Int32 × Int32 × Int32 × Int32 × Int32 × Int32 × Int32 × (Nat → Int32))) (p374 : (Int32 × Int32 × Int32 × Int64 × Int32 × Int32 × Int32 × Int32 × Int32 × Int32 × Int32 × (Nat → Int32) × (Nat → Int32) × (Nat → Int32) × (Nat → Int32) × (Nat → Int32))) : Int32 × Int32 × Int32 × Int64 × Int32 × Int32 × Int32 × Int32 × Int32 × Int32 × Int32 × (Nat → Int32) × (Nat → Int32) × (Nat → Int32) × (Nat → Int32) × (Nat → Int32) := ((p374.1 : Int32), (p374.2.1 : Int32), (p374.2.2.1 : Int32), (p374.2.2.2.1 : Int64), (p374.2.2.2.2.1 : Int32), (p374.2.2.2.2.2.1 : Int32), (p374.2.2.2.2.2.2.1 : Int32), (p374.2.2.2.2.2.2.2.1 : Int32), (p374.2.2.2.2.2.2.2.2.1 : Int32), (p374.2.2.2.2.2.2.2.2.2.1 : Int32), (p374.2.2.2.2.2.2.2.2.2.2.1 : Int32), (p374.2.2.2.2.2.2.2.2.2.2.2.1 : (Nat → Int32)), (p374.2.2.2.2.2.2.2.2.2.2.2.2.1 : (Nat → Int32)), (p374.2.2.2.2.2.2.2.2.2.2.2.2.2.1 : (Nat → Int32)), (p374.2.2.2.2.2.2.2.2.2.2.2.2.2.2.1 : (Nat → Int32)), (p374.2.2.2.2.2.2.2.2.2.2.2.2.2.2.2 : (Nat → Int32)))
def F_DR_bring_c104_5 (x2 : Int64) (x3 : Int32) (x4 : Int32) (t0_0 : Int32) (t0_1 : Int32) (t0_2 : Int32) (t0_3 : Int64) (t0_4 : Int32) (t0_5 : Int32) (t0_6 : Int32) (t0_7 : Int32) (t0_8 : Int32) (t0_9 : Int32) (t0_10 : Int32) (t1_0 : (Nat → Int32)) (t2_0 : (Nat → Int32)) (t3_0 : (Nat → Int32)) (t4_0 : (Nat → Int32)) (t5_0 : (Nat → Int32)) (p75 : (Int32 × Int32 × Int32 × Int64 × Int32 × Int32 × Int32 × Int32 × Int32 × Int32 × Int32 × (Nat → Int32))) (y36 : Int32) (y37 : Int32) (y38 : Int32) (y39 : Int64) (y40 : Int32) (y41 : Int32) (y42 : Int32) (y43 : Int32) (y44 : Int32) (y45 : Int32) (y46 : Int32) (f47 : (Nat → Int32)) (j118 : Int64) (p301 : (Int32 × Int32 × Int32 × Int32 × Int64 × Int32 × Int32 × Int32 × Int32 × Int32 × Int32 × Int32 × (Nat → Int32))) : Int32 × Int32 × Int32 × Int64 × Int32 × Int32 × Int32 × Int32 × Int32 × Int32 × Int32 × (Nat → Int32) × (Nat → Int32) × (Nat → Int32) × (Nat → Int32) × (Nat → Int32) := if (p301.1 : Int32) = (0 : Int32) then (((p301.2.1 : Int32), (p301.2.2.1 : Int32), (p301.2.2.2.1 : Int32), (p301.2.2.2.2.1 : Int64), (p301.2.2.2.2.2.1 : Int32), (p301.2.2.2.2.2.2.1 : Int32), (p301.2.2.2.2.2.2.2.1 : Int32), (p301.2.2.2.2.2.2.2.2.1 : Int32), (p301.2.2.2.2.2.2.2.2.2.1 : Int32), (p301.2.2.2.2.2.2.2.2.2.2.1 : Int32), (p301.2.2.2.2.2.2.2.2.2.2.2.1 : Int32), t1_0, t2_0, t3_0, t4_0, (p301.2.2.2.2.2.2.2.2.2.2.2.2 : (Nat → Int32)))) else (F_DR_bring_c119_6 x2 x3 x4 t0_0 t0_1 t0_2 t0_3 t0_4 t0_5 t0_6 t0_7 t0_8 t0_9 t0_10 t1_0 t2_0 t3_0 t4_0 t5_0 p75 y36 y37 y38 y39 y40 y41 y42 y43 y44 y45 y46 f47 j118 p301 ((F_DR_store x4 (p301.2.1 : Int32) (p301.2.2.1 : Int32) (p301.2.2.2.1 : Int32) x2 (p301.2.2.2.2.2.1 : Int32) (p301.2.2.2.2.2.2.1 : Int32) (p301.2.2.2.2.2.2.2.1 : Int32) (p301.2.2.2.2.2.2.2.2.1 : Int32) (p301.2.2.2.2.2.2.2.2.2.1 : Int32) (p301.2.2.2.2.2.2.2.2.2.2.1 : Int32) (p301.2.2.2.2.2.2.2.2.2.2.2.1 : Int32) t1_0 t2_0 t3_0 t4_0 (p301.2.2.2.2.2.2.2.2.2.2.2.2 : (Nat → Int32))) : (Int32 × Int32 × Int32 × Int64 × Int32 × Int32 × Int32 × Int32 × Int32 × Int32 × Int32 × (Nat → Int32) × (Nat → Int32) × (Nat → Int32) × (Nat → Int32) × (Nat → Int32))))
def F_DR_bring_c119_8 (x2 : Int64) (x3 : Int32) (x4 : Int32) (t0_0 : Int32) (t0_1 : Int32) (t0_2 : Int32) (t0_3 : Int64) (t0_4 : Int32) (t0_5 : Int32) (t0_6 : Int32) (t0_7 : Int32) (t0_8 : Int32) (t0_9 : Int32) (t0_10 : Int32) (t1_0 : (Nat → Int32)) (t2_0 : (Nat → Int32)) (t3_0 : (Nat → Int32)) (t4_0 : (Nat → Int32)) (t5_0 : (Nat → Int32)) (p75 : (Int32 × Int32 × Int32 × Int64 × Int32 × Int32 × Int32 × Int32 × Int32 × Int32 × Int32 × (Nat → Int32))) (y36 : Int32) (y37 : Int32) (y38 : Int32) (y39 : Int64) (y40 : Int32) (y41 : Int32) (y42 : Int32) (y43 : Int32) (y44 : Int32) (y45 : Int32) (y46 : Int32) (f47 : (Nat → Int32)) (p446 : (Int32 × Int32 × Int32 × Int64 × Int32 × Int32 × Int32 × Int32 × Int32 × Int32 × Int32 × (Nat → Int32))) (p514 : (Int32 × Int32 × Int32 × Int64 × Int32 × Int32 × Int32 × Int32 × Int32 × Int32 × Int32 × (Nat → Int32) × (Nat → Int32) × (Nat → Int32) × (Nat → Int32) × (Nat → Int32))) : Int32 × Int32 × Int32 × Int64 × Int32 × Int32 × Int32 × Int32 × Int32 × Int32 × Int32 × (Nat → Int32) × (Nat → Int32) × (Nat → Int32) × (Nat → Int32) × (Nat → Int32) := ((p514.1 : Int32), (p514.2.1 : Int32), (p514.2.2.1 : Int32), (p514.2.2.2.1 : Int64), (p514.2.2.2.2.1 : Int32), (p514.2.2.2.2.2.1 : Int32), (p514.2.2.2.2.2.2.1 : Int32), (p514.2.2.2.2.2.2.2.1 : Int32), (p514.2.2.2.2.2.2.2.2.1 : Int32), (p514.2.2.2.2.2.2.2.2.2.1 : Int32), (p514.2.2.2.2.2.2.2.2.2.2.1 : Int32), (p514.2.2.2.2.2.2.2.2.2.2.2.1 : (Nat → Int32)), (p514.2.2.2.2.2.2.2.2.2.2.2.2.1 : (Nat → Int32)), (p514.2.2.2.2.2.2.2.2.2.2.2.2.2.1 : (Nat → Int32)), (p514.2.2.2.2.2.2.2.2.2.2.2.2.2.2.1 : (Nat → Int32)), (p514.2.2.2.2.2.2.2.2.2.2.2.2.2.2.2 : (Nat → Int32)))
def F_DR_bring_c66 (x2 : Int64) (x3 : Int32) (x4 : Int32) (t0_0 : Int32) (t0_1 : Int32) (t0_2 : Int32) (t0_3 : Int64) (t0_4 : Int32) (t0_5 : Int32) (t0_6 : Int32) (t0_7 : Int32) (t0_8 : Int32) (t0_9 : Int32) (t0_10 : Int32) (t1_0 : (Nat → Int32)) (t2_0 : (Nat → Int32)) (t3_0 : (Nat → Int32)) (t4_0 : (Nat → Int32)) (t5_0 : (Nat → Int32)) (p75 : (Int32 × Int32 × Int32 × Int64 × Int32 × Int32 × Int32 × Int32 × Int32 × Int32 × Int32 × (Nat → Int32))) (y36 : Int32) (y37 : Int32) (y38 : Int32) (y39 : Int64) (y40 : Int32) (y41 : Int32) (y42 : Int32) (y43 : Int32) (y44 : Int32) (y45 : Int32) (y46 : Int32) (f47 : (Nat → Int32)) (p446 : (Int32 × Int32 × Int32 × Int64 × Int32 × Int32 × Int32 × Int32 × Int32 × Int32 × Int32 × (Nat → Int32))) : Int32 × Int32 × Int32 × Int64 × Int32 × Int32 × Int32 × Int32 × Int32 × Int32 × Int32 × (Nat → Int32) × (Nat → Int32) × (Nat → Int32) × (Nat → Int32) × (Nat → Int32) := F_DR_bring_c119_8 x2 x3 x4 t0_0 t0_1 t0_2 t0_3 t0_4 t0_5 t0_6 t0_7 t0_8 t0_9 t0_10 t1_0 t2_0 t3_0 t4_0 t5_0 p75 y36 y37 y38 y39 y40 y41 y42 y43 y44 y45 y46 f47 p446 ((F_DR_store x4 (p446.1 : Int32) (p446.2.1 : Int32) (p446.2.2.1 : Int32) (p446.2.2.2.1 : Int64) (p446.2.2.2.2.1 : Int32) (p446.2.2.2.2.2.1 : Int32) (p446.2.2.2.2.2.2.1 : Int32) (p446.2.2.2.2.2.2.2.1 : Int32) (p446.2.2.2.2.2.2.2.2.1 : Int32) (p446.2.2.2.2.2.2.2.2.2.1 : Int32) (p446.2.2.2.2.2.2.2.2.2.2.1 : Int32) t1_0 t2_0 t3_0 t4_0 (p446.2.2.2.2.2.2.2.2.2.2.2 : (Nat → Int32))) : (Int32 × Int32 × Int32 × Int64 × Int32 × Int32 × Int32 × Int32 × Int32 × Int32 × Int32 × (Nat → Int32) × (Nat → Int32) × (Nat → Int32) × (Nat → Int32) × (Nat → Int32)))
def F_DR_bring_J28 (x2 : Int64) (x3 : Int32) (x4 : Int32) (t0_0 : Int32) (t0_1 : Int32) (t0_2 : Int32) (t0_3 : Int64) (t0_4 : Int32) (t0_5 : Int32) (t0_6 : Int32) (t0_7 : Int32) (t0_8 : Int32) (t0_9 : Int32) (t0_10 : Int32) (t1_0 : (Nat → Int32)) (t2_0 : (Nat → Int32)) (t3_0 : (Nat → Int32)) (t4_0 : (Nat → Int32)) (t5_0 : (Nat → Int32)) (p75 : (Int32 × Int32 × Int32 × Int64 × Int32 × Int32 × Int32 × Int32 × Int32 × Int32 × Int32 × (Nat → Int32))) (y36 : Int32) (y37 : Int32) (y38 : Int32) (y39 : Int64) (y40 : Int32) (y41 : Int32) (y42 : Int32) (y43 : Int32) (y44 : Int32) (y45 : Int32) (y46 : Int32) (f47 : (Nat → Int32)) : Int32 × Int32 × Int32 × Int64 × Int32 × Int32 × Int32 × Int32 × Int32 × Int32 × Int32 × (Nat → Int32) × (Nat → Int32) × (Nat → Int32) × (Nat → Int32) × (Nat → Int32) := if (lg_cmp x2 y39 : Int32) < (0 : Int32) then (if (0 : Int32) ≤ (lg_cmp ((y38.toInt64 : Int64) - (y39 - x2 : Int64) : Int64) (-1) : Int32) then (F_DR_bring_c104 x2 x3 x4 t0_0 t0_1 t0_2 t0_3 t0_4 t0_5 t0_6 t0_7 t0_8 t0_9 t0_10 t1_0 t2_0 t3_0 t4_0 t5_0 p75 y36 y37 y38 y39 y40 y41 y42 y43 y44 y45 y46 f47 ((y38.toInt64 : Int64) - (y39 - x2 : Int64) : Int64) ((F_DR_cut (((y38.toInt64 : Int64) - (y39 - x2 : Int64) : Int64).toInt32 : Int32) x3 y36 y37 y38 y39 y40 y41 y42 y43 y44 y45 y46 f47) : (Int32 × Int32 × Int32 × Int32 × Int64 × Int32 × Int32 × Int32 × Int32 × Int32 × Int32 × Int32 × (Nat → Int32)))) else (F_DR_bring_c104_5 x2 x3 x4 t0_0 t0_1 t0_2 t0_3 t0_4 t0_5 t0_6 t0_7 t0_8 t0_9 t0_10 t1_0 t2_0 t3_0 t4_0 t5_0 p75 y36 y37 y38 y39 y40 y41 y42 y43 y44 y45 y46 f47 ((y38.toInt64 : Int64) - (y39 - x2 : Int64) : Int64) ((F_DR_cut (-1 : Int32) x3 y36 y37 y38 y39 y40 y41 y42 y43 y44 y45 y46 f47) : (Int32 × Int32 × Int32 × Int32 × Int64 × Int32 × Int32 × Int32 × Int32 × Int32 × Int32 × Int32 × (Nat → Int32))))) else (if (lg_cmp (x2 - y39 : Int64) 1000 : Int32) ≤ (0 : Int32) then (F_DR_bring_c66 x2 x3 x4 t0_0 t0_1 t0_2 t0_3 t0_4 t0_5 t0_6 t0_7 t0_8 t0_9 t0_10 t1_0 t2_0 t3_0 t4_0 t5_0 p75 y36 y37 y38 y39 y40 y41 y42 y43 y44 y45 y46 f47 ((F_DR_lengthen (x2 - y39 : Int64) y36 y37 y38 y39 y40 y41 y42 y43 y44 y45 y46 f47) : (Int32 × Int32 × Int32 × Int64 × Int32 × Int32 × Int32 × Int32 × Int32 × Int32 × Int32 × (Nat → Int32)))) else ((y46, y37, y38, y39, y40, y41, y42, y43, y44, y45, y46, t1_0, t2_0, t3_0, t4_0, f47)))
def F_DR_bring_c119_9 (x2 : Int64) (x3 : Int32) (x4 : Int32) (t0_0 : Int32) (t0_1 : Int32) (t0_2 : Int32) (t0_3 : Int64) (t0_4 : Int32) (t0_5 : Int32) (t0_6 : Int32) (t0_7 : Int32) (t0_8 : Int32) (t0_9 : Int32) (t0_10 : Int32) (t1_0 : (Nat → Int32)) (t2_0 : (Nat → Int32)) (t3_0 : (Nat → Int32)) (t4_0 : (Nat → Int32)) (t5_0 : (Nat → Int32)) (p75 : (Int32 × Int32 × Int32 × Int64 × Int32 × Int32 × Int32 × Int32 × Int32 × Int32 × Int32 × (Nat → Int32))) (p597 : (Int32 × Int32 × Int32 × Int64 × Int32 × Int32 × Int32 × Int32 × Int32 × Int32 × Int32 × (Nat → Int32) × (Nat → Int32) × (Nat → Int32) × (Nat → Int32) × (Nat → Int32))) : Int32 × Int32 × Int32 × Int64 × Int32 × Int32 × Int32 × Int32 × Int32 × Int32 × Int32 × (Nat → Int32) × (Nat → Int32) × (Nat → Int32) × (Nat → Int32) × (Nat → Int32) := ((p597.1 : Int32), (p597.2.1 : Int32), (p597.2.2.1 : Int32), (p597.2.2.2.1 : Int64), (p597.2.2.2.2.1 : Int32), (p597.2.2.2.2.2.1 : Int32), (p597.2.2.2.2.2.2.1 : Int32), (p597.2.2.2.2.2.2.2.1 : Int32), (p597.2.2.2.2.2.2.2.2.1 : Int32), (p597.2.2.2.2.2.2.2.2.2.1 : Int32), (p597.2.2.2.2.2.2.2.2.2.2.1 : Int32), (p597.2.2.2.2.2.2.2.2.2.2.2.1 : (Nat → Int32)), (p597.2.2.2.2.2.2.2.2.2.2.2.2.1 : (Nat → Int32)), (p597.2.2.2.2.2.2.2.2.2.2.2.2.2.1 : (Nat → Int32)), (p597.2.2.2.2.2.2.2.2.2.2.2.2.2.2.1 : (Nat → Int32)), (p597.2.2.2.2.2.2.2.2.2.2.2.2.2.2.2 : (Nat → Int32)))
def F_DR_bring_c1 (x2 : Int64) (x3 : Int32) (x4 : Int32) (t0_0 : Int32) (t0_1 : Int32) (t0_2 : Int32) (t0_3 : Int64) (t0_4 : Int32) (t0_5 : Int32) (t0_6 : Int32) (t0_7 : Int32) (t0_8 : Int32) (t0_9 : Int32) (t0_10 : Int32) (t1_0 : (Nat → Int32)) (t2_0 : (Nat → Int32)) (t3_0 : (Nat → Int32)) (t4_0 : (Nat → Int32)) (t5_0 : (Nat → Int32)) (p75 : (Int32 × Int32 × Int32 × Int64 × Int32 × Int32 × Int32 × Int32 × Int32 × Int32 × Int32 × (Nat → Int32))) : Int32 × Int32 × Int32 × Int64 × Int32 × Int32 × Int32 × Int32 × Int32 × Int32 × Int32 × (Nat → Int32) × (Nat → Int32) × (Nat → Int32) × (Nat → Int32) × (Nat → Int32) := if ((p75.2.2.2.2.2.2.2.2.2.2.2 : (Nat → Int32)) (0 : Int32).toNatClampNeg : Int32) = (0 : Int32) then (if (p75.2.2.2.2.1 : Int32) = (0 : Int32) then (F_DR_bring_c119_9 x2 x3 x4 t0_0 t0_1 t0_2 t0_3 t0_4 t0_5 t0_6 t0_7 t0_8 t0_9 t0_10 t1_0 t2_0 t3_0 t4_0 t5_0 p75 ((F_DR_store x4 (p75.1 : Int32) (p75.2.1 : Int32) (p75.2.2.1 : Int32) x2 (p75.2.2.2.2.1 : Int32) (p75.2.2.2.2.2.1 : Int32) (p75.2.2.2.2.2.2.1 : Int32) (p75.2.2.2.2.2.2.2.1 : Int32) (p75.2.2.2.2.2.2.2.2.1 : Int32) (p75.2.2.2.2.2.2.2.2.2.1 : Int32) (p75.2.2.2.2.2.2.2.2.2.2.1 : Int32) t1_0 t2_0 t3_0 t4_0 (p75.2.2.2.2.2.2.2.2.2.2.2 : (Nat → Int32))) : (Int32 × Int32 × Int32 × Int64 × Int32 × Int32 × Int32 × Int32 × Int32 × Int32 × Int32 × (Nat → Int32) × (Nat → Int32) × (Nat → Int32) × (Nat → Int32) × (Nat → Int32)))) else (F_DR_bring_J28 x2 x3 x4 t0_0 t0_1 t0_2 t0_3 t0_4 t0_5 t0_6 t0_7 t0_8 t0_9 t0_10 t1_0 t2_0 t3_0 t4_0 t5_0 p75 (p75.1 : Int32) (p75.2.1 : Int32) (p75.2.2.1 : Int32) (p75.2.2.2.1 : Int64) (p75.2.2.2.2.1 : Int32) (p75.2.2.2.2.2.1 : Int32) (p75.2.2.2.2.2.2.1 : Int32) (p75.2.2.2.2.2.2.2.1 : Int32) (p75.2.2.2.2.2.2.2.2.1 : Int32) (p75.2.2.2.2.2.2.2.2.2.1 : Int32) (p75.2.2.2.2.2.2.2.2.2.2.1 : Int32) (p75.2.2.2.2.2.2.2.2.2.2.2 : (Nat → Int32)))) else (F_DR_bring_J28 x2 x3 x4 t0_0 t0_1 t0_2 t0_3 t0_4 t0_5 t0_6 t0_7 t0_8 t0_9 t0_10 t1_0 t2_0 t3_0 t4_0 t5_0 p75 (p75.1 : Int32) (p75.2.1 : Int32) (p75.2.2.1 : Int32) (p75.2.2.2.1 : Int64) (p75.2.2.2.2.1 : Int32) (p75.2.2.2.2.2.1 : Int32) (p75.2.2.2.2.2.2.1 : Int32) (p75.2.2.2.2.2.2.2.1 : Int32) (p75.2.2.2.2.2.2.2.2.1 : Int32) (p75.2.2.2.2.2.2.2.2.2.1 : Int32) (p75.2.2.2.2.2.2.2.2.2.2.1 : Int32) (p75.2.2.2.2.2.2.2.2.2.2.2 : (Nat → Int32)))
def F_DR_bring (x2 : Int64) (x3 : Int32) (x4 : Int32) (t0_0 : Int32) (t0_1 : Int32) (t0_2 : Int32) (t0_3 : Int64) (t0_4 : Int32) (t0_5 : Int32) (t0_6 : Int32) (t0_7 : Int32) (t0_8 : Int32) (t0_9 : Int32) (t0_10 : Int32) (t1_0 : (Nat → Int32)) (t2_0 : (Nat → Int32)) (t3_0 : (Nat → Int32)) (t4_0 : (Nat → Int32)) (t5_0 : (Nat → Int32)) : Int32 × Int32 × Int32 × Int64 × Int32 × Int32 × Int32 × Int32 × Int32 × Int32 × Int32 × (Nat → Int32) × (Nat → Int32) × (Nat → Int32) × (Nat → Int32) × (Nat → Int32) := F_DR_bring_c1 x2 x3 x4 t0_0 t0_1 t0_2 t0_3 t0_4 t0_5 t0_6 t0_7 t0_8 t0_9 t0_10 t1_0 t2_0 t3_0 t4_0 t5_0 ((F_DR_trim t0_0 t0_1 t0_2 t0_3 t0_4 t0_5 t0_6 t0_7 t0_8 t0_9 t0_10 t5_0) : (Int32 × Int32 × Int32 × Int64 × Int32 × Int32 × Int32 × Int32 × Int32 × Int32 × Int32 × (Nat → Int32)))
def S_DR_bring_c119 (x2 : Int64) (x3 : Int32) (x4 : Int32) (t0_0 : Int32) (t0_1 : Int32) (t0_2 : Int32) (t0_3 : Int64) (t0_4 : Int32) (t0_5 : Int32) (t0_6 : Int32) (t0_7 : Int32) (t0_8 : Int32) (t0_9 : Int32) (t0_10 : Int32) (t1_0 : (Nat → Int32)) (t2_0 : (Nat → Int32)) (t3_0 : (Nat → Int32)) (t4_0 : (Nat → Int32)) (t5_0 : (Nat → Int32)) (p75 : (Int32 × Int32 × Int32 × Int64 × Int32 × Int32 × Int32 × Int32 × Int32 × Int32 × Int32 × (Nat → Int32))) (y36 : Int32) (y37 : Int32) (y38 : Int32) (y39 : Int64) (y40 : Int32) (y41 : Int32) (y42 : Int32) (y43 : Int32) (y44 : Int32) (y45 : Int32) (y46 : Int32) (f47 : (Nat → Int32)) (j118 : Int64) (p165 : (Int32 × Int32 × Int32 × Int32 × Int64 × Int32 × Int32 × Int32 × Int32 × Int32 × Int32 × Int32 × (Nat → Int32))) (p238 : (Int32 × Int32 × Int32 × Int64 × Int32 × Int32 × Int32 × Int32 × Int32 × Int32 × Int32 × (Nat → Int32) × (Nat → Int32) × (Nat → Int32) × (Nat → Int32) × (Nat → Int32))) : Prop := True
def S_DR_bring_c104 (x2 : Int64) (x3 : Int32) (x4 : Int32) (t0_0 : Int32) (t0_1 : Int32) (t0_2 : Int32) (t0_3 : Int64) (t0_4 : Int32) (t0_5 : Int32) (t0_6 : Int32) (t0_7 : Int32) (t0_8 : Int32) (t0_9 : Int32) (t0_10 : Int32) (t1_0 : (Nat → Int32)) (t2_0 : (Nat → Int32)) (t3_0 : (Nat → Int32)) (t4_0 : (Nat → Int32)) (t5_0 : (Nat → Int32)) (p75 : (Int32 × Int32 × Int32 × Int64 × Int32 × Int32 × Int32 × Int32 × Int32 × Int32 × Int32 × (Nat → Int32))) (y36 : Int32) (y37 : Int32) (y38 : Int32) (y39 : Int64) (y40 : Int32) (y41 : Int32) (y42 : Int32) (y43 : Int32) (y44 : Int32) (y45 : Int32) (y46 : Int32) (f47 : (Nat → Int32)) (j118 : Int64) (p165 : (Int32 × Int32 × Int32 × Int32 × Int64 × Int32 × Int32 × Int32 × Int32 × Int32 × Int32 × Int32 × (Nat → Int32))) : Prop := if (p165.1 : Int32) = (0 : Int32) then (True) else ((True ∧ S_DR_store x4 (p165.2.1 : Int32) (p165.2.2.1 : Int32) (p165.2.2.2.1 : Int32) x2 (p165.2.2.2.2.2.1 : Int32) (p165.2.2.2.2.2.2.1 : Int32) (p165.2.2.2.2.2.2.2.1 : Int32) (p165.2.2.2.2.2.2.2.2.1 : Int32) (p165.2.2.2.2.2.2.2.2.2.1 : Int32) (p165.2.2.2.2.2.2.2.2.2.2.1 : Int32) (p165.2.2.2.2.2.2.2.2.2.2.2.1 : Int32) t1_0 t2_0 t3_0 t4_0 (p165.2.2.2.2.2.2.2.2.2.2.2.2 : (Nat → Int32))) ∧ (S_DR_bring_c119 x2 x3 x4 t0_0 t0_1 t0_2 t0_3 t0_4 t0_5 t0_6 t0_7 t0_8 t0_9 t0_10 t1_0 t2_0 t3_0 t4_0 t5_0 p75 y36 y37 y38 y39 y40 y41 y42 y43 y44 y45 y46 f47 j118 p165 ((F_DR_store x4 (p165.2.1 : Int32) (p165.2.2.1 : Int32) (p165.2.2.2.1 : Int32) x2 (p165.2.2.2.2.2.1 : Int32) (p165.2.2.2.2.2.2.1 : Int32) (p165.2.2.2.2.2.2.2.1 : Int32) (p165.2.2.2.2.2.2.2.2.1 : Int32) (p165.2.2.2.2.2.2.2.2.2.1 : Int32) (p165.2.2.2.2.2.2.2.2.2.2.1 : Int32) (p165.2.2.2.2.2.2.2.2.2.2.2.1 : Int32) t1_0 t2_0 t3_0 t4_0 (p165.2.2.2.2.2.2.2.2.2.2.2.2 : (Nat → Int32))) : (Int32 × Int32 × Int32 × Int64 × Int32 × Int32 × Int32 × Int32 × Int32 × Int32 × Int32 × (Nat → Int32) × (Nat → Int32) × (Nat → Int32) × (Nat → Int32) × (Nat → Int32)))))
def S_DR_bring_c119_6 (x2 : Int64) (x3 : Int32) (x4 : Int32) (t0_0 : Int32) (t0_1 : Int32) (t0_2 : Int32) (t0_3 : Int64) (t0_4 : Int32) (t0_5 : Int32) (t0_6 : Int32) (t0_7 : Int32) (t0_8 : Int32) (t0_9 : Int32) (t0_10 : Int32) (t1_0 : (Nat → Int32)) (t2_0 : (Nat → Int32)) (t3_0 : (Nat → Int32)) (t4_0 : (Nat → Int32)) (t5_0 : (Nat → Int32)) (p75 : (Int32 × Int32 × Int32 × Int64 × Int32 × Int32 × Int32 × Int32 × Int32 × Int32 × Int32 × (Nat → Int32))) (y36 : Int32) (y37 : Int32) (y38 : Int32) (y39 : Int64) (y40 : Int32) (y41 : Int32) (y42 : Int32) (y43 : Int32) (y44 : Int32) (y45 : Int32) (y46 : Int32) (f47 : (Nat → Int32)) (j118 : Int64) (p301 : (Int32 × Int32 × Int32 × Int32 × Int64 × Int32 × Int32 × Int32 × Int32 × Int32 × Int32 × Int32 × (Nat → Int32))) (p374 : (Int32 × Int32 × Int32 × Int64 × Int32 × Int32 × Int32 × Int32 × Int32 × Int32 × Int32 × (Nat → Int32) × (Nat → Int32) × (Nat → Int32) × (Nat → Int32) × (Nat → Int32))) : Prop := True
def S_DR_bring_c104_5 (x2 : Int64) (x3 : Int32) (x4 : Int32) (t0_0 : Int32) (t0_1 : Int32) (t0_2 : Int32) (t0_3 : Int64) (t0_4 : Int32) (t0_5 : Int32) (t0_6 : Int32) (t0_7 : Int32) (t0_8 : Int32) (t0_9 : Int32) (t0_10 : Int32) (t1_0 : (Nat → Int32)) (t2_0 : (Nat → Int32)) (t3_0 : (Nat → Int32)) (t4_0 : (Nat → Int32)) (t5_0 : (Nat → Int32)) (p75 : (Int32 × Int32 × Int32 × Int64 × Int32 × Int32 × Int32 × Int32 × Int32 × Int32 × Int32 × (Nat → Int32))) (y36 : Int32) (y37 : Int32) (y38 : Int32) (y39 : Int64) (y40 : Int32) (y41 : Int32) (y42 : Int32) (y43 : Int32) (y44 : Int32) (y45 : Int32) (y46 : Int32) (f47 : (Nat → Int32)) (j118 : Int64) (p301 : (Int32 × Int32 × Int32 × Int32 × Int64 × Int32 × Int32 × Int32 × Int32 × Int32 × Int32 × Int32 × (Nat → Int32))) : Prop := if (p301.1 : Int32) = (0 : Int32) then (True) else ((True ∧ S_DR_store x4 (p301.2.1 : Int32) (p301.2.2.1 : Int32) (p301.2.2.2.1 : Int32) x2 (p301.2.2.2.2.2.1 : Int32) (p301.2.2.2.2.2.2.1 : Int32) (p301.2.2.2.2.2.2.2.1 : Int32) (p301.2.2.2.2.2.2.2.2.1 : Int32) (p301.2.2.2.2.2.2.2.2.2.1 : Int32) (p301.2.2.2.2.2.2.2.2.2.2.1 : Int32) (p301.2.2.2.2.2.2.2.2.2.2.2.1 : Int32) t1_0 t2_0 t3_0 t4_0 (p301.2.2.2.2.2.2.2.2.2.2.2.2 : (Nat → Int32))) ∧ (S_DR_bring_c119_6 x2 x3 x4 t0_0 t0_1 t0_2 t0_3 t0_4 t0_5 t0_6 t0_7 t0_8 t0_9 t0_10 t1_0 t2_0 t3_0 t4_0 t5_0 p75 y36 y37 y38 y39 y40 y41 y42 y43 y44 y45 y46 f47 j118 p301 ((F_DR_store x4 (p301.2.1 : Int32) (p301.2.2.1 : Int32) (p301.2.2.2.1 : Int32) x2 (p301.2.2.2.2.2.1 : Int32) (p301.2.2.2.2.2.2.1 : Int32) (p301.2.2.2.2.2.2.2.1 : Int32) (p301.2.2.2.2.2.2.2.2.1 : Int32) (p301.2.2.2.2.2.2.2.2.2.1 : Int32) (p301.2.2.2.2.2.2.2.2.2.2.1 : Int32) (p301.2.2.2.2.2.2.2.2.2.2.2.1 : Int32) t1_0 t2_0 t3_0 t4_0 (p301.2.2.2.2.2.2.2.2.2.2.2.2 : (Nat → Int32))) : (Int32 × Int32 × Int32 × Int64 × Int32 × Int32 × Int32 × Int32 × Int32 × Int32 × Int32 × (Nat → Int32) × (Nat → Int32) × (Nat → Int32) × (Nat → Int32) × (Nat → Int32)))))
def S_DR_bring_c119_8 (x2 : Int64) (x3 : Int32) (x4 : Int32) (t0_0 : Int32) (t0_1 : Int32) (t0_2 : Int32) (t0_3 : Int64) (t0_4 : Int32) (t0_5 : Int32) (t0_6 : Int32) (t0_7 : Int32) (t0_8 : Int32) (t0_9 : Int32) (t0_10 : Int32) (t1_0 : (Nat → Int32)) (t2_0 : (Nat → Int32)) (t3_0 : (Nat → Int32)) (t4_0 : (Nat → Int32)) (t5_0 : (Nat → Int32)) (p75 : (Int32 × Int32 × Int32 × Int64 × Int32 × Int32 × Int32 × Int32 × Int32 × Int32 × Int32 × (Nat → Int32))) (y36 : Int32) (y37 : Int32) (y38 : Int32) (y39 : Int64) (y40 : Int32) (y41 : Int32) (y42 : Int32) (y43 : Int32) (y44 : Int32) (y45 : Int32) (y46 : Int32) (f47 : (Nat → Int32)) (p446 : (Int32 × Int32 × Int32 × Int64 × Int32 × Int32 × Int32 × Int32 × Int32 × Int32 × Int32 × (Nat → Int32))) (p514 : (Int32 × Int32 × Int32 × Int64 × Int32 × Int32 × Int32 × Int32 × Int32 × Int32 × Int32 × (Nat → Int32) × (Nat → Int32) × (Nat → Int32) × (Nat → Int32) × (Nat → Int32))) : Prop := True
def S_DR_bring_c66 (x2 : Int64) (x3 : Int32) (x4 : Int32) (t0_0 : Int32) (t0_1 : Int32) (t0_2 : Int32) (t0_3 : Int64) (t0_4 : Int32) (t0_5 : Int32) (t0_6 : Int32) (t0_7 : Int32) (t0_8 : Int32) (t0_9 : Int32) (t0_10 : Int32) (t1_0 : (Nat → Int32)) (t2_0 : (Nat → Int32)) (t3_0 : (Nat → Int32)) (t4_0 : (Nat → Int32)) (t5_0 : (Nat → Int32)) (p75 : (Int32 × Int32 × Int32 × Int64 × Int32 × Int32 × Int32 × Int32 × Int32 × Int32 × Int32 × (Nat → Int32))) (y36 : Int32) (y37 : Int32) (y38 : Int32) (y39 : Int64) (y40 : Int32) (y41 : Int32) (y42 : Int32) (y43 : Int32) (y44 : Int32) (y45 : Int32) (y46 : Int32) (f47 : (Nat → Int32)) (p446 : (Int32 × Int32 × Int32 × Int64 × Int32 × Int32 × Int32 × Int32 × Int32 × Int32 × Int32 × (Nat → Int32))) : Prop := (True ∧ S_DR_store x4 (p446.1 : Int32) (p446.2.1 : Int32) (p446.2.2.1 : Int32) (p446.2.2.2.1 : Int64) (p446.2.2.2.2.1 : Int32) (p446.2.2.2.2.2.1 : Int32) (p446.2.2.2.2.2.2.1 : Int32) (p446.2.2.2.2.2.2.2.1 : Int32) (p446.2.2.2.2.2.2.2.2.1 : Int32) (p446.2.2.2.2.2.2.2.2.2.1 : Int32) (p446.2.2.2.2.2.2.2.2.2.2.1 : Int32) t1_0 t2_0 t3_0 t4_0 (p446.2.2.2.2.2.2.2.2.2.2.2 : (Nat → Int32))) ∧ (S_DR_bring_c119_8 x2 x3 x4 t0_0 t0_1 t0_2 t0_3 t0_4 t0_5 t0_6 t0_7 t0_8 t0_9 t0_10 t1_0 t2_0 t3_0 t4_0 t5_0 p75 y36 y37 y38 y39 y40 y41 y42 y43 y44 y45 y46 f47 p446 ((F_DR_store x4 (p446.1 : Int32) (p446.2.1 : Int32) (p446.2.2.1 : Int32) (p446.2.2.2.1 : Int64) (p446.2.2.2.2.1 : Int32) (p446.2.2.2.2.2.1 : Int32) (p446.2.2.2.2.2.2.1 : Int32) (p446.2.2.2.2.2.2.2.1 : Int32) (p446.2.2.2.2.2.2.2.2.1 : Int32) (p446.2.2.2.2.2.2.2.2.2.1 : Int32) (p446.2.2.2.2.2.2.2.2.2.2.1 : Int32) t1_0 t2_0 t3_0 t4_0 (p446.2.2.2.2.2.2.2.2.2.2.2 : (Nat → Int32))) : (Int32 × Int32 × Int32 × Int64 × Int32 × Int32 × Int32 × Int32 × Int32 × Int32 × Int32 × (Nat → Int32) × (Nat → Int32) × (Nat → Int32) × (Nat → Int32) × (Nat → Int32))))
def S_DR_bring_J28 (x2 : Int64) (x3 : Int32) (x4 : Int32) (t0_0 : Int32) (t0_1 : Int32) (t0_2 : Int32) (t0_3 : Int64) (t0_4 : Int32) (t0_5 : Int32) (t0_6 : Int32) (t0_7 : Int32) (t0_8 : Int32) (t0_9 : Int32) (t0_10 : Int32) (t1_0 : (Nat → Int32)) (t2_0 : (Nat → Int32)) (t3_0 : (Nat → Int32)) (t4_0 : (Nat → Int32)) (t5_0 : (Nat → Int32)) (p75 : (Int32 × Int32 × Int32 × Int64 × Int32 × Int32 × Int32 × Int32 × Int32 × Int32 × Int32 × (Nat → Int32))) (y36 : Int32) (y37 : Int32) (y38 : Int32) (y39 : Int64) (y40 : Int32) (y41 : Int32) (y42 : Int32) (y43 : Int32) (y44 : Int32) (y45 : Int32) (y46 : Int32) (f47 : (Nat → Int32)) : Prop := if (lg_cmp x2 y39 : Int32) < (0 : Int32) then (if (0 : Int32) ≤ (lg_cmp ((y38.toInt64 : Int64) - (y39 - x2 : Int64) : Int64) (-1) : Int32) then ((True ∧ S_DR_cut (((y38.toInt64 : Int64) - (y39 - x2 : Int64) : Int64).toInt32 : Int32) x3 y36 y37 y38 y39 y40 y41 y42 y43 y44 y45 y46 f47) ∧ (S_DR_bring_c104 x2 x3 x4 t0_0 t0_1 t0_2 t0_3 t0_4 t0_5 t0_6 t0_7 t0_8 t0_9 t0_10 t1_0 t2_0 t3_0 t4_0 t5_0 p75 y36 y37 y38 y39 y40 y41 y42 y43 y44 y45 y46 f47 ((y38.toInt64 : Int64) - (y39 - x2 : Int64) : Int64) ((F_DR_cut (((y38.toInt64 : Int64) - (y39 - x2 : Int64) : Int64).toInt32 : Int32) x3 y36 y37 y38 y39 y40 y41 y42 y43 y44 y45 y46 f47) : (Int32 × Int32 × Int32 × Int32 × Int64 × Int32 × Int32 × Int32 × Int32 × Int32 × Int32 × Int32 × (Nat → Int32))))) else ((True ∧ S_DR_cut (-1 : Int32) x3 y36 y37 y38 y39 y40 y41 y42 y43 y44 y45 y46 f47) ∧ (S_DR_bring_c104_5 x2 x3 x4 t0_0 t0_1 t0_2 t0_3 t0_4 t0_5 t0_6 t0_7 t0_8 t0_9 t0_10 t1_0 t2_0 t3_0 t4_0 t5_0 p75 y36 y37 y38 y39 y40 y41 y42 y43 y44 y45 y46 f47 ((y38.toInt64 : Int64) - (y39 - x2 : Int64) : Int64) ((F_DR_cut (-1 : Int32) x3 y36 y37 y38 y39 y40 y41 y42 y43 y44 y45 y46 f47) : (Int32 × Int32 × Int32 × Int32 × Int64 × Int32 × Int32 × Int32 × Int32 × Int32 × Int32 × Int32 × (Nat → Int32)))))) else (if (lg_cmp (x2 - y39 : Int64) 1000 : Int32) ≤ (0 : Int32) then ((True ∧ S_DR_lengthen (x2 - y39 : Int64) y36 y37 y38 y39 y40 y41 y42 y43 y44 y45 y46 f47) ∧ (S_DR_bring_c66 x2 x3 x4 t0_0 t0_1 t0_2 t0_3 t0_4 t0_5 t0_6 t0_7 t0_8 t0_9 t0_10 t1_0 t2_0 t3_0 t4_0 t5_0 p75 y36 y37 y38 y39 y40 y41 y42 y43 y44 y45 y46 f47 ((F_DR_lengthen (x2 - y39 : Int64) y36 y37 y38 y39 y40 y41 y42 y43 y44 y45 y46 f47) : (Int32 × Int32 × Int32 × Int64 × Int32 × Int32 × Int32 × Int32 × Int32 × Int32 × Int32 × (Nat → Int32))))) else (True))
def S_DR_bring_c119_9 (x2 : Int64) (x3 : Int32) (x4 : Int32) (t0_0 : Int32) (t0_1 : Int32) (t0_2 : Int32) (t0_3 : Int64) (t0_4 : Int32) (t0_5 : Int32) (t0_6 : Int32) (t0_7 : Int32) (t0_8 : Int32) (t0_9 : Int32) (t0_10 : Int32) (t1_0 : (Nat → Int32)) (t2_0 : (Nat → Int32)) (t3_0 : (Nat → Int32)) (t4_0 : (Nat → Int32)) (t5_0 : (Nat → Int32)) (p75 : (Int32 × Int32 × Int32 × Int64 × Int32 × Int32 × Int32 × Int32 × Int32 × Int32 × Int32 × (Nat → Int32))) (p597 : (Int32 × Int32 × Int32 × Int64 × Int32 × Int32 × Int32 × Int32 × Int32 × Int32 × Int32 × (Nat → Int32) × (Nat → Int32) × (Nat → Int32) × (Nat → Int32) × (Nat → Int32))) : Prop := True
def S_DR_bring_c1 (x2 : Int64) (x3 : Int32) (x4 : Int32) (t0_0 : Int32) (t0_1 : Int32) (t0_2 : Int32) (t0_3 : Int64) (t0_4 : Int32) (t0_5 : Int32) (t0_6 : Int32) (t0_7 : Int32) (t0_8 : Int32) (t0_9 : Int32) (t0_10 : Int32) (t1_0 : (Nat → Int32)) (t2_0 : (Nat → Int32)) (t3_0 : (Nat → Int32)) (t4_0 : (Nat → Int32)) (t5_0 : (Nat → Int32)) (p75 : (Int32 × Int32 × Int32 × Int64 × Int32 × Int32 × Int32 × Int32 × Int32 × Int32 × Int32 × (Nat → Int32))) : Prop := if ((p75.2.2.2.2.2.2.2.2.2.2.2 : (Nat → Int32)) (0 : Int32).toNatClampNeg : Int32) = (0 : Int32) then (if (p75.2.2.2.2.1 : Int32) = (0 : Int32) then ((True ∧ S_DR_store x4 (p75.1 : Int32) (p75.2.1 : Int32) (p75.2.2.1 : Int32) x2 (p75.2.2.2.2.1 : Int32) (p75.2.2.2.2.2.1 : Int32) (p75.2.2.2.2.2.2.1 : Int32) (p75.2.2.2.2.2.2.2.1 : Int32) (p75.2.2.2.2.2.2.2.2.1 : Int32) (p75.2.2.2.2.2.2.2.2.2.1 : Int32) (p75.2.2.2.2.2.2.2.2.2.2.1 : Int32) t1_0 t2_0 t3_0 t4_0 (p75.2.2.2.2.2.2.2.2.2.2.2 : (Nat → Int32))) ∧ (S_DR_bring_c119_9 x2 x3 x4 t0_0 t0_1 t0_2 t0_3 t0_4 t0_5 t0_6 t0_7 t0_8 t0_9 t0_10 t1_0 t2_0 t3_0 t4_0 t5_0 p75 ((F_DR_store x4 (p75.1 : Int32) (p75.2.1 : Int32) (p75.2.2.1 : Int32) x2 (p75.2.2.2.2.1 : Int32) (p75.2.2.2.2.2.1 : Int32) (p75.2.2.2.2.2.2.1 : Int32) (p75.2.2.2.2.2.2.2.1 : Int32) (p75.2.2.2.2.2.2.2.2.1 : Int32) (p75.2.2.2.2.2.2.2.2.2.1 : Int32) (p75.2.2.2.2.2.2.2.2.2.2.1 : Int32) t1_0 t2_0 t3_0 t4_0 (p75.2.2.2.2.2.2.2.2.2.2.2 : (Nat → Int32))) : (Int32 × Int32 × Int32 × Int64 × Int32 × Int32 × Int32 × Int32 × Int32 × Int32 × Int32 × (Nat → Int32) × (Nat → Int32) × (Nat → Int32) × (Nat → Int32) × (Nat → Int32))))) else (S_DR_bring_J28 x2 x3 x4 t0_0 t0_1 t0_2 t0_3 t0_4 t0_5 t0_6 t0_7 t0_8 t0_9 t0_10 t1_0 t2_0 t3_0 t4_0 t5_0 p75 (p75.1 : Int32) (p75.2.1 : Int32) (p75.2.2.1 : Int32) (p75.2.2.2.1 : Int64) (p75.2.2.2.2.1 : Int32) (p75.2.2.2.2.2.1 : Int32) (p75.2.2.2.2.2.2.1 : Int32) (p75.2.2.2.2.2.2.2.1 : Int32) (p75.2.2.2.2.2.2.2.2.1 : Int32) (p75.2.2.2.2.2.2.2.2.2.1 : Int32) (p75.2.2.2.2.2.2.2.2.2.2.1 : Int32) (p75.2.2.2.2.2.2.2.2.2.2.2 : (Nat → Int32)))) else (S_DR_bring_J28 x2 x3 x4 t0_0 t0_1 t0_2 t0_3 t0_4 t0_5 t0_6 t0_7 t0_8 t0_9 t0_10 t1_0 t2_0 t3_0 t4_0 t5_0 p75 (p75.1 : Int32) (p75.2.1 : Int32) (p75.2.2.1 : Int32) (p75.2.2.2.1 : Int64) (p75.2.2.2.2.1 : Int32) (p75.2.2.2.2.2.1 : Int32) (p75.2.2.2.2.2.2.1 : Int32) (p75.2.2.2.2.2.2.2.1 : Int32) (p75.2.2.2.2.2.2.2.2.1 : Int32) (p75.2.2.2.2.2.2.2.2.2.1 : Int32) (p75.2.2.2.2.2.2.2.2.2.2.1 : Int32) (p75.2.2.2.2.2.2.2.2.2.2.2 : (Nat → Int32)))
def S_DR_bring (x2 : Int64) (x3 : Int32) (x4 : Int32) (t0_0 : Int32) (t0_1 : Int32) (t0_2 : Int32) (t0_3 : Int64) (t0_4 : Int32) (t0_5 : Int32) (t0_6 : Int32) (t0_7 : Int32) (t0_8 : Int32) (t0_9 : Int32) (t0_10 : Int32) (t1_0 : (Nat → Int32)) (t2_0 : (Nat → Int32)) (t3_0 : (Nat → Int32)) (t4_0 : (Nat → Int32)) (t5_0 : (Nat → Int32)) : Prop := (True ∧ S_DR_trim t0_0 t0_1 t0_2 t0_3 t0_4 t0_5 t0_6 t0_7 t0_8 t0_9 t0_10 t5_0) ∧ (S_DR_bring_c1 x2 x3 x4 t0_0 t0_1 t0_2 t0_3 t0_4 t0_5 t0_6 t0_7 t0_8 t0_9 t0_10 t1_0 t2_0 t3_0 t4_0 t5_0 ((F_DR_trim t0_0 t0_1 t0_2 t0_3 t0_4 t0_5 t0_6 t0_7 t0_8 t0_9 t0_10 t5_0) : (Int32 × Int32 × Int32 × Int64 × Int32 × Int32 × Int32 × Int32 × Int32 × Int32 × Int32 × (Nat → Int32))))
set_option maxRecDepth 100000 in
set_option maxHeartbeats 4000000 in
theorem X_DR_bring (l : Launch) (D : va_G) (g : Nat → ClassId) (q : Nat → Nat) (ws : va_W) (x2 : Int64) (x3 : Int32) (x4 : Int32) (hI : q_I (msh g q) q ws) (t0_0 : Int32) (t0_1 : Int32) (t0_2 : Int32) (t0_3 : Int64) (t0_4 : Int32) (t0_5 : Int32) (t0_6 : Int32) (t0_7 : Int32) (t0_8 : Int32) (t0_9 : Int32) (t0_10 : Int32) (hT0 : ws[134]? = (some (q 134, .inr (14, [.int t0_0, .ref (q 135), .int t0_1, .ref (q 136), .ref (q 137), .ref (q 138), .ref (q 139), .ref (q 140), .int t0_2, .long t0_3, .int t0_4, .int t0_5, .ref (q 141), .int t0_6, .ref (q 142), .int t0_7, .ref (q 143), .int t0_8, .ref (q 144), .int t0_9, .int t0_10])) : Option (Nat × va_E))) (t1_0 : (Nat → Int32)) (hT1 : ws[136]? = (some (q 136, .inl (g 0, (10000 : Int32).toNatClampNeg, .inl t1_0)) : Option (Nat × va_E))) (t2_0 : (Nat → Int32)) (hT2 : ws[137]? = (some (q 137, .inl (g 0, (10 : Int32).toNatClampNeg, .inl t2_0)) : Option (Nat × va_E))) (t3_0 : (Nat → Int32)) (hT3 : ws[138]? = (some (q 138, .inl (g 3, 10, .inl t3_0)) : Option (Nat × va_E))) (t4_0 : (Nat → Int32)) (hT4 : ws[139]? = (some (q 139, .inl (g 0, (10 : Int32).toNatClampNeg, .inl t4_0)) : Option (Nat × va_E))) (t5_0 : (Nat → Int32)) (hT5 : ws[140]? = (some (q 140, .inl (g 0, (4400 : Int32).toNatClampNeg, .inl t5_0)) : Option (Nat × va_E))) (hS : True ∧ S_DR_bring x2 x3 x4 t0_0 t0_1 t0_2 t0_3 t0_4 t0_5 t0_6 t0_7 t0_8 t0_9 t0_10 t1_0 t2_0 t3_0 t4_0 t5_0) : q_mV l y_DR_bring prog_15_method_13_code 7 4 0 0 D g [.ref (q 134), .long x2, .int x3, .int x4] ws (fun u => q_I (msh g q) q u ∧ q_un ws u [134, 136, 137, 138, 139, 140] ∧ ∃ (u0_0 : Int32) (u0_1 : Int32) (u0_2 : Int32) (u0_3 : Int64) (u0_4 : Int32) (u0_5 : Int32) (u0_6 : Int32) (u0_7 : Int32) (u0_8 : Int32) (u0_9 : Int32) (u0_10 : Int32) (u1_0 : (Nat → Int32)) (u2_0 : (Nat → Int32)) (u3_0 : (Nat → Int32)) (u4_0 : (Nat → Int32)) (u5_0 : (Nat → Int32)), u[134]? = (some (q 134, .inr (14, [.int u0_0, .ref (q 135), .int u0_1, .ref (q 136), .ref (q 137), .ref (q 138), .ref (q 139), .ref (q 140), .int u0_2, .long u0_3, .int u0_4, .int u0_5, .ref (q 141), .int u0_6, .ref (q 142), .int u0_7, .ref (q 143), .int u0_8, .ref (q 144), .int u0_9, .int u0_10])) : Option (Nat × va_E)) ∧ u[136]? = (some (q 136, .inl (g 0, (10000 : Int32).toNatClampNeg, .inl u1_0)) : Option (Nat × va_E)) ∧ u[137]? = (some (q 137, .inl (g 0, (10 : Int32).toNatClampNeg, .inl u2_0)) : Option (Nat × va_E)) ∧ u[138]? = (some (q 138, .inl (g 3, 10, .inl u3_0)) : Option (Nat × va_E)) ∧ u[139]? = (some (q 139, .inl (g 0, (10 : Int32).toNatClampNeg, .inl u4_0)) : Option (Nat × va_E)) ∧ u[140]? = (some (q 140, .inl (g 0, (4400 : Int32).toNatClampNeg, .inl u5_0)) : Option (Nat × va_E)) ∧ (0 ≤ u0_5.toInt) ∧ (t0_1.toInt ≤ u0_1.toInt) ∧ (u0_1.toInt ≤ t0_1.toInt) ∧ (t0_2.toInt ≤ u0_1.toInt + 24400) ∧ (t0_2.toInt ≤ u0_4.toInt + 24401) ∧ (t0_4.toInt ≤ u0_4.toInt + 1) ∧ (u0_4.toInt ≤ t0_4.toInt) ∧ (t0_2.toInt ≤ u0_5.toInt + 24401) ∧ (u0_5.toInt ≤ t0_5.toInt) ∧ (t0_6.toInt ≤ u0_6.toInt) ∧ (u0_6.toInt ≤ t0_6.toInt) ∧ (t0_7.toInt ≤ u0_7.toInt) ∧ (u0_7.toInt ≤ t0_7.toInt) ∧ (t0_8.toInt ≤ u0_8.toInt) ∧ (u0_8.toInt ≤ t0_8.toInt) ∧ (t0_2.toInt ≤ u0_9.toInt + 24400) ∧ (t0_9.toInt ≤ u0_9.toInt) ∧ (u0_9.toInt ≤ t0_9.toInt) ∧ (t0_10.toInt ≤ u0_10.toInt) ∧ (u0_10.toInt ≤ t0_10.toInt) ∧ (u0_0, u0_1, u0_2, u0_3, u0_4, u0_5, u0_6, u0_7, u0_8, u0_9, u0_10, u1_0, u2_0, u3_0, u4_0, u5_0) = (F_DR_bring x2 x3 x4 t0_0 t0_1 t0_2 t0_3 t0_4 t0_5 t0_6 t0_7 t0_8 t0_9 t0_10 t1_0 t2_0 t3_0 t4_0 t5_0)) := by
  intro sz
  refine q_into (by decide) (Nat.le_of_ble_eq_true rfl) ?_
  intro p e s m below meth c ls hsz C0 V hl
  have hx := C0.1
  have hb := C0.2.1
  obtain ⟨btt0_1, hZ9⟩ := n_w134 hI hT0
  obtain ⟨btt0_4, hZ9⟩ := hZ9
  obtain ⟨btt0_5, btt0_9⟩ := hZ9
  replace btt0_1 : q_F (0 ≤ t0_1.toInt ∧ t0_1.toInt ≤ 4100) := btt0_1
  replace btt0_4 : q_F (0 ≤ t0_4.toInt ∧ t0_4.toInt ≤ 1) := btt0_4
  replace btt0_5 : q_F (0 ≤ t0_5.toInt ∧ t0_5.toInt ≤ 1) := btt0_5
  replace btt0_9 : q_F (0 ≤ t0_9.toInt ∧ t0_9.toInt ≤ 12200) := btt0_9
  have hF : q_un ws ws [134, 136, 137, 138, 139, 140] := q_u0
  have hl : lv_has ls 7 [(0, .ref (q 134)), (1, .long x2), (3, .int x3), (4, .int x4)] := hl
  refine lv_aload_n hx hb d_15_13_0 rfl (lv_at hl 0 rfl) ?_
  have ob32 : True ∧ S_DR_trim t0_0 t0_1 t0_2 t0_3 t0_4 t0_5 t0_6 t0_7 t0_8 t0_9 t0_10 t5_0 := (by have h := hS; rw [S_DR_bring.eq_1] at h; with_reducible exact h.2.1)
  refine q_gov V (q_runV (As := []) (rest := []) (d := 1) (mc := 0) (ms := 0) (ci := 14) C0 V rfl LV_DR_59 (X_DR_trim l D g q ws   hI t0_0 t0_1 t0_2 t0_3 t0_4 t0_5 t0_6 t0_7 t0_8 t0_9 t0_10 hT0 t5_0 hT5 ob32 _) rfl rfl hT0 rfl hl.1 rfl (Nat.le_of_ble_eq_true rfl) ⟨by decide, by decide⟩ ⟨Nat.le_of_ble_eq_true rfl, Nat.le_of_ble_eq_true rfl⟩ d_15_13_1) (fun u33 H locs hp34 V => ?_)
  obtain ⟨hI, hZ9⟩ := hp34
  obtain ⟨hu74, hZ9⟩ := hZ9
  obtain ⟨y36, hZ9⟩ := hZ9
  obtain ⟨y37, hZ9⟩ := hZ9
  obtain ⟨y38, hZ9⟩ := hZ9
  obtain ⟨y39, hZ9⟩ := hZ9
  obtain ⟨y40, hZ9⟩ := hZ9
  obtain ⟨y41, hZ9⟩ := hZ9
  obtain ⟨y42, hZ9⟩ := hZ9
  obtain ⟨y43, hZ9⟩ := hZ9
  obtain ⟨y44, hZ9⟩ := hZ9
  obtain ⟨y45, hZ9⟩ := hZ9
  obtain ⟨y46, hZ9⟩ := hZ9
  obtain ⟨f47, hZ9⟩ := hZ9
  obtain ⟨hO35, hZ9⟩ := hZ9
  obtain ⟨hA48, hZ9⟩ := hZ9
  obtain ⟨b49, hZ9⟩ := hZ9
  replace hZ9 := hZ9.2.2
  obtain ⟨b52, hZ9⟩ := hZ9
  obtain ⟨b53, hZ9⟩ := hZ9
  obtain ⟨b54, hZ9⟩ := hZ9
  replace hZ9 := hZ9.2.2
  obtain ⟨b57, hZ9⟩ := hZ9
  obtain ⟨b58, hZ9⟩ := hZ9
  obtain ⟨b59, hZ9⟩ := hZ9
  obtain ⟨b60, hZ9⟩ := hZ9
  obtain ⟨b61, hZ9⟩ := hZ9
  obtain ⟨b62, hZ9⟩ := hZ9
  obtain ⟨b63, hZ9⟩ := hZ9
  obtain ⟨b64, hZ9⟩ := hZ9
  obtain ⟨b65, hZ9⟩ := hZ9
  obtain ⟨b66, hZ9⟩ := hZ9
  obtain ⟨b67, hZ9⟩ := hZ9
  obtain ⟨b68, hZ9⟩ := hZ9
  obtain ⟨b69, hZ9⟩ := hZ9
  obtain ⟨b70, hZ9⟩ := hZ9
  obtain ⟨b71, hZ9⟩ := hZ9
  obtain ⟨b72, hE73⟩ := hZ9
  replace hO35 : u33[134]? = (some (q 134, .inr (14, [.int y36, .ref (q 135), .int y37, .ref (q 136), .ref (q 137), .ref (q 138), .ref (q 139), .ref (q 140), .int y38, .long y39, .int y40, .int y41, .ref (q 141), .int y42, .ref (q 142), .int y43, .ref (q 143), .int y44, .ref (q 144), .int y45, .int y46])) : Option (Nat × va_E)) := hO35
  replace hA48 : u33[140]? = (some (q 140, .inl (g 0, (4400 : Int32).toNatClampNeg, .inl f47)) : Option (Nat × va_E)) := hA48
  obtain ⟨p75, e76⟩ : ∃ z, z = (F_DR_trim t0_0 t0_1 t0_2 t0_3 t0_4 t0_5 t0_6 t0_7 t0_8 t0_9 t0_10 t5_0) := ⟨_, rfl⟩
  have e77 : y36 = p75.1 := congrArg (fun z => z.1) (hE73.trans e76.symm)
  have e78 : y37 = p75.2.1 := congrArg (fun z => z.2.1) (hE73.trans e76.symm)
  have e79 : y38 = p75.2.2.1 := congrArg (fun z => z.2.2.1) (hE73.trans e76.symm)
  have e80 : y39 = p75.2.2.2.1 := congrArg (fun z => z.2.2.2.1) (hE73.trans e76.symm)
  have e81 : y40 = p75.2.2.2.2.1 := congrArg (fun z => z.2.2.2.2.1) (hE73.trans e76.symm)
  have e82 : y41 = p75.2.2.2.2.2.1 := congrArg (fun z => z.2.2.2.2.2.1) (hE73.trans e76.symm)
  have e83 : y42 = p75.2.2.2.2.2.2.1 := congrArg (fun z => z.2.2.2.2.2.2.1) (hE73.trans e76.symm)
  have e84 : y43 = p75.2.2.2.2.2.2.2.1 := congrArg (fun z => z.2.2.2.2.2.2.2.1) (hE73.trans e76.symm)
  have e85 : y44 = p75.2.2.2.2.2.2.2.2.1 := congrArg (fun z => z.2.2.2.2.2.2.2.2.1) (hE73.trans e76.symm)
  have e86 : y45 = p75.2.2.2.2.2.2.2.2.2.1 := congrArg (fun z => z.2.2.2.2.2.2.2.2.2.1) (hE73.trans e76.symm)
  have e87 : y46 = p75.2.2.2.2.2.2.2.2.2.2.1 := congrArg (fun z => z.2.2.2.2.2.2.2.2.2.2.1) (hE73.trans e76.symm)
  have e88 : f47 = p75.2.2.2.2.2.2.2.2.2.2.2 := congrArg (fun z => z.2.2.2.2.2.2.2.2.2.2.2) (hE73.trans e76.symm)
  replace b49 : q_F (0 ≤ y41.toInt) := b49
  replace b52 : q_F (t0_1.toInt ≤ y37.toInt) := b52
  replace b53 : q_F (y37.toInt ≤ t0_1.toInt) := b53
  replace b54 : q_F (t0_2.toInt ≤ y37.toInt + 24400) := b54
  replace b57 : q_F (t0_2.toInt ≤ y40.toInt + 24400) := b57
  replace b58 : q_F (t0_4.toInt ≤ y40.toInt) := b58
  replace b59 : q_F (y40.toInt ≤ t0_4.toInt) := b59
  replace b60 : q_F (t0_2.toInt ≤ y41.toInt + 24400) := b60
  replace b61 : q_F (y41.toInt ≤ t0_5.toInt) := b61
  replace b62 : q_F (t0_6.toInt ≤ y42.toInt) := b62
  replace b63 : q_F (y42.toInt ≤ t0_6.toInt) := b63
  replace b64 : q_F (t0_7.toInt ≤ y43.toInt) := b64
  replace b65 : q_F (y43.toInt ≤ t0_7.toInt) := b65
  replace b66 : q_F (t0_8.toInt ≤ y44.toInt) := b66
  replace b67 : q_F (y44.toInt ≤ t0_8.toInt) := b67
  replace b68 : q_F (t0_2.toInt ≤ y45.toInt + 24400) := b68
  replace b69 : q_F (t0_9.toInt ≤ y45.toInt) := b69
  replace b70 : q_F (y45.toInt ≤ t0_9.toInt) := b70
  replace b71 : q_F (t0_10.toInt ≤ y46.toInt) := b71
  replace b72 : q_F (y46.toInt ≤ t0_10.toInt) := b72
  replace hT1 := (hu74 _ (by decide)).trans hT1
  replace hT2 := (hu74 _ (by decide)).trans hT2
  replace hT3 := (hu74 _ (by decide)).trans hT3
  replace hT4 := (hu74 _ (by decide)).trans hT4
  replace hF := q_uc hF hu74 (by simp)
  have hR89 := (show F_DR_bring_c1 x2 x3 x4 t0_0 t0_1 t0_2 t0_3 t0_4 t0_5 t0_6 t0_7 t0_8 t0_9 t0_10 t1_0 t2_0 t3_0 t4_0 t5_0 p75 = (F_DR_bring x2 x3 x4 t0_0 t0_1 t0_2 t0_3 t0_4 t0_5 t0_6 t0_7 t0_8 t0_9 t0_10 t1_0 t2_0 t3_0 t4_0 t5_0) from (by rw [e76, F_DR_bring.eq_1]))
  have hS90 := (show True ∧ S_DR_bring_c1 x2 x3 x4 t0_0 t0_1 t0_2 t0_3 t0_4 t0_5 t0_6 t0_7 t0_8 t0_9 t0_10 t1_0 t2_0 t3_0 t4_0 t5_0 p75 from (by rw [e76]; have h := hS; rw [S_DR_bring.eq_1] at h; replace h := q_s2 h; with_reducible exact h))
  refine lv_aload_n hx hb d_15_13_4 rfl (lv_at hl 0 rfl) ?_
  refine q_get (ci := 14) (j := 7) (v := .ref (q 140)) C0 V i_DR rfl rfl hO35 (by decide) w_2010 rfl d_15_13_5 ?_
  refine lv_iconst (v := 0) hx hb d_15_13_8 (by decide) ?_
  refine q_iald C0 V hA48 (q_ix (x := 0) (by decide) (by omega) (by have e9 : (((4400 : Int32).toNatClampNeg : Nat) : Int) = 4400 := (by decide); omega)) d_15_13_9 ?_
  obtain ⟨a94, e95⟩ := q_nm (f47 (0 : Int32).toNatClampNeg : Int32)
  refine q_ti (v := a94) e95 ?_
  refine q_join (X := Unit) (fun z H locs ls _ => q_Wd D g (va_A ws sz) s u33 H locs ∧ lv_has ls 7 [(0, .ref (q 134)), (1, .long x2), (3, .int x3), (4, .int x4)] ∧ F_DR_bring_J28 x2 x3 x4 t0_0 t0_1 t0_2 t0_3 t0_4 t0_5 t0_6 t0_7 t0_8 t0_9 t0_10 t1_0 t2_0 t3_0 t4_0 t5_0 p75 y36 y37 y38 y39 y40 y41 y42 y43 y44 y45 y46 f47 = (F_DR_bring x2 x3 x4 t0_0 t0_1 t0_2 t0_3 t0_4 t0_5 t0_6 t0_7 t0_8 t0_9 t0_10 t1_0 t2_0 t3_0 t4_0 t5_0) ∧ True ∧ S_DR_bring_J28 x2 x3 x4 t0_0 t0_1 t0_2 t0_3 t0_4 t0_5 t0_6 t0_7 t0_8 t0_9 t0_10 t1_0 t2_0 t3_0 t4_0 t5_0 p75 y36 y37 y38 y39 y40 y41 y42 y43 y44 y45 y46 f47) (fun z => []) 28 0 0 ?_ ?_
  ·
    rintro _ H locs ls _ ⟨V, hl, hR103, hS104⟩
    replace hl : lv_has ls 7 [(0, .ref (q 134)), (1, .long x2), (3, .int x3), (4, .int x4)] := hl
    refine lv_lload_n hx hb d_15_13_28 rfl (lv_at hl 1 rfl) ?_
    refine lv_aload_n hx hb d_15_13_29 rfl (lv_at hl 0 rfl) ?_
    refine q_get (ci := 14) (j := 9) (v := .long y39) C0 V i_DR rfl rfl hO35 (by decide) w_2012 rfl d_15_13_30 ?_
    refine W.lcmp hx hb d_15_13_33 ?_
    obtain ⟨a108, e109⟩ := q_nm (lg_cmp x2 y39 : Int32)
    refine q_ti (v := a108) e109 ?_
    refine lv_if_lt (tgt := 72) hx hb d_15_13_34 (by decide) (fun c111 => ?_) (fun c111 => ?_)
    ·
      refine lv_aload_n hx hb d_15_13_72 rfl (lv_at hl 0 rfl) ?_
      refine q_get (ci := 14) (j := 8) (v := .int y38) C0 V i_DR rfl rfl hO35 (by decide) w_2011 rfl d_15_13_73 ?_
      refine lv_i2l hx hb d_15_13_76 rfl ?_
      obtain ⟨j113, e114⟩ := q_nm (y38.toInt64 : Int64)
      refine q_tl (v := j113) e114 ?_
      refine lv_aload_n hx hb d_15_13_77 rfl (lv_at hl 0 rfl) ?_
      refine q_get (ci := 14) (j := 9) (v := .long y39) C0 V i_DR rfl rfl hO35 (by decide) w_2012 rfl d_15_13_78 ?_
      refine lv_lload_n hx hb d_15_13_81 rfl (lv_at hl 1 rfl) ?_
      refine lv_lsub hx hb d_15_13_82 ?_
      obtain ⟨j116, e117⟩ := q_nm (y39 - x2 : Int64)
      refine q_tl (v := j116) e117 ?_
      refine lv_lsub hx hb d_15_13_83 ?_
      obtain ⟨j118, e119⟩ := q_nm (j113 - j116 : Int64)
      refine q_tl (v := j118) e119 ?_
      refine lv_lstore (lv' := [(5, .long j118), (0, .ref (q 134)), (1, .long x2), (3, .int x3), (4, .int x4)]) hx hb d_15_13_84 hl (by decide) rfl (fun ls hl => ?_)
      refine lv_aload_n hx hb d_15_13_86 rfl (lv_at hl 1 rfl) ?_
      refine lv_lload hx hb d_15_13_87 (lv_at hl 0 rfl) ?_
      refine q_ldc2 C0 rfl w_2811 d_15_13_89 ?_
      refine W.lcmp hx hb d_15_13_92 ?_
      obtain ⟨a120, e121⟩ := q_nm (lg_cmp j118 (-1) : Int32)
      refine q_ti (v := a120) e121 ?_
      refine lv_if_ge (tgt := 100) hx hb d_15_13_93 (by decide) (fun c123 => ?_) (fun c123 => ?_)
      ·
        refine lv_lload hx hb d_15_13_100 (lv_at hl 0 rfl) ?_
        refine lv_l2i hx hb d_15_13_102 rfl ?_
        obtain ⟨a125, e126⟩ := q_nm (j118.toInt32 : Int32)
        refine q_ti (v := a125) e126 ?_
        refine lv_iload_n hx hb d_15_13_103 rfl (lv_at hl 3 rfl) ?_
        have ob127 : True ∧ S_DR_cut a125 x3 y36 y37 y38 y39 y40 y41 y42 y43 y44 y45 y46 f47 := (by rw [← e126, ← e119, ← e117, ← e114]; have h := hS104; rw [S_DR_bring_J28.eq_1] at h; have c111x := c111; rw [← e109] at c111x; rw [if_pos c111x] at h; have c123x := c123; rw [← e121, ← e119, ← e117, ← e114] at c123x; rw [if_pos c123x] at h; with_reducible exact h.2.1)
        refine q_goi V (q_runV (As := [.int a125, .int x3]) (rest := []) (d := 3) (mc := 0) (ms := 0) (ci := 14) C0 V rfl LV_DR_85 (X_DR_cut l D g q u33  a125 x3 hI y36 y37 y38 y39 y40 y41 y42 y43 y44 y45 y46 hO35 f47 hA48 ob127 _) rfl rfl hO35 rfl hl.1 rfl (Nat.le_of_ble_eq_true rfl) ⟨by decide, by decide⟩ ⟨Nat.le_of_ble_eq_true rfl, Nat.le_of_ble_eq_true rfl⟩ d_15_13_104) (fun a130 u128 H locs hp129 V => ?_)
        obtain ⟨hI, hZ9⟩ := hp129
        obtain ⟨hu164, hZ9⟩ := hZ9
        obtain ⟨y132, hZ9⟩ := hZ9
        obtain ⟨y133, hZ9⟩ := hZ9
        obtain ⟨y134, hZ9⟩ := hZ9
        obtain ⟨y135, hZ9⟩ := hZ9
        obtain ⟨y136, hZ9⟩ := hZ9
        obtain ⟨y137, hZ9⟩ := hZ9
        obtain ⟨y138, hZ9⟩ := hZ9
        obtain ⟨y139, hZ9⟩ := hZ9
        obtain ⟨y140, hZ9⟩ := hZ9
        obtain ⟨y141, hZ9⟩ := hZ9
        obtain ⟨y142, hZ9⟩ := hZ9
        obtain ⟨f143, hZ9⟩ := hZ9
        obtain ⟨hO131, hZ9⟩ := hZ9
        obtain ⟨hA144, hZ9⟩ := hZ9
        replace hZ9 := hZ9.2.2
        obtain ⟨b147, hZ9⟩ := hZ9
        obtain ⟨b148, hZ9⟩ := hZ9
        obtain ⟨b149, hZ9⟩ := hZ9
        obtain ⟨b150, hZ9⟩ := hZ9
        obtain ⟨b151, hZ9⟩ := hZ9
        obtain ⟨b152, hZ9⟩ := hZ9
        obtain ⟨b153, hZ9⟩ := hZ9
        obtain ⟨b154, hZ9⟩ := hZ9
        obtain ⟨b155, hZ9⟩ := hZ9
        obtain ⟨b156, hZ9⟩ := hZ9
        obtain ⟨b157, hZ9⟩ := hZ9
        obtain ⟨b158, hZ9⟩ := hZ9
        obtain ⟨b159, hZ9⟩ := hZ9
        obtain ⟨b160, hZ9⟩ := hZ9
        obtain ⟨b161, hZ9⟩ := hZ9
        obtain ⟨b162, hE163⟩ := hZ9
        replace hO131 : u128[134]? = (some (q 134, .inr (14, [.int y132, .ref (q 135), .int y133, .ref (q 136), .ref (q 137), .ref (q 138), .ref (q 139), .ref (q 140), .int y134, .long y135, .int y136, .int y137, .ref (q 141), .int y138, .ref (q 142), .int y139, .ref (q 143), .int y140, .ref (q 144), .int y141, .int y142])) : Option (Nat × va_E)) := hO131
        replace hA144 : u128[140]? = (some (q 140, .inl (g 0, (4400 : Int32).toNatClampNeg, .inl f143)) : Option (Nat × va_E)) := hA144
        obtain ⟨p165, e166⟩ : ∃ z, z = (F_DR_cut a125 x3 y36 y37 y38 y39 y40 y41 y42 y43 y44 y45 y46 f47) := ⟨_, rfl⟩
        have e167 : a130 = p165.1 := congrArg (fun z => z.1) (hE163.trans e166.symm)
        have e168 : y132 = p165.2.1 := congrArg (fun z => z.2.1) (hE163.trans e166.symm)
        have e169 : y133 = p165.2.2.1 := congrArg (fun z => z.2.2.1) (hE163.trans e166.symm)
        have e170 : y134 = p165.2.2.2.1 := congrArg (fun z => z.2.2.2.1) (hE163.trans e166.symm)
        have e171 : y135 = p165.2.2.2.2.1 := congrArg (fun z => z.2.2.2.2.1) (hE163.trans e166.symm)
        have e172 : y136 = p165.2.2.2.2.2.1 := congrArg (fun z => z.2.2.2.2.2.1) (hE163.trans e166.symm)
        have e173 : y137 = p165.2.2.2.2.2.2.1 := congrArg (fun z => z.2.2.2.2.2.2.1) (hE163.trans e166.symm)
        have e174 : y138 = p165.2.2.2.2.2.2.2.1 := congrArg (fun z => z.2.2.2.2.2.2.2.1) (hE163.trans e166.symm)
        have e175 : y139 = p165.2.2.2.2.2.2.2.2.1 := congrArg (fun z => z.2.2.2.2.2.2.2.2.1) (hE163.trans e166.symm)
        have e176 : y140 = p165.2.2.2.2.2.2.2.2.2.1 := congrArg (fun z => z.2.2.2.2.2.2.2.2.2.1) (hE163.trans e166.symm)
        have e177 : y141 = p165.2.2.2.2.2.2.2.2.2.2.1 := congrArg (fun z => z.2.2.2.2.2.2.2.2.2.2.1) (hE163.trans e166.symm)
        have e178 : y142 = p165.2.2.2.2.2.2.2.2.2.2.2.1 := congrArg (fun z => z.2.2.2.2.2.2.2.2.2.2.2.1) (hE163.trans e166.symm)
        have e179 : f143 = p165.2.2.2.2.2.2.2.2.2.2.2.2 := congrArg (fun z => z.2.2.2.2.2.2.2.2.2.2.2.2) (hE163.trans e166.symm)
        replace b147 : q_F (0 ≤ y136.toInt) := b147
        replace b148 : q_F (y37.toInt ≤ y133.toInt) := b148
        replace b149 : q_F (y133.toInt ≤ y37.toInt) := b149
        replace b150 : q_F (y136.toInt ≤ y40.toInt) := b150
        replace b151 : q_F (y41.toInt ≤ y137.toInt) := b151
        replace b152 : q_F (y137.toInt ≤ y41.toInt) := b152
        replace b153 : q_F (y42.toInt ≤ y138.toInt) := b153
        replace b154 : q_F (y138.toInt ≤ y42.toInt) := b154
        replace b155 : q_F (y43.toInt ≤ y139.toInt) := b155
        replace b156 : q_F (y139.toInt ≤ y43.toInt) := b156
        replace b157 : q_F (y44.toInt ≤ y140.toInt) := b157
        replace b158 : q_F (y140.toInt ≤ y44.toInt) := b158
        replace b159 : q_F (y45.toInt ≤ y141.toInt) := b159
        replace b160 : q_F (y141.toInt ≤ y45.toInt) := b160
        replace b161 : q_F (y46.toInt ≤ y142.toInt) := b161
        replace b162 : q_F (y142.toInt ≤ y46.toInt) := b162
        replace hT1 := (hu164 _ (by decide)).trans hT1
        replace hT2 := (hu164 _ (by decide)).trans hT2
        replace hT3 := (hu164 _ (by decide)).trans hT3
        replace hT4 := (hu164 _ (by decide)).trans hT4
        replace hF := q_uc hF hu164 (by simp)
        have hR180 := (show F_DR_bring_c104 x2 x3 x4 t0_0 t0_1 t0_2 t0_3 t0_4 t0_5 t0_6 t0_7 t0_8 t0_9 t0_10 t1_0 t2_0 t3_0 t4_0 t5_0 p75 y36 y37 y38 y39 y40 y41 y42 y43 y44 y45 y46 f47 j118 p165 = (F_DR_bring x2 x3 x4 t0_0 t0_1 t0_2 t0_3 t0_4 t0_5 t0_6 t0_7 t0_8 t0_9 t0_10 t1_0 t2_0 t3_0 t4_0 t5_0) from Eq.trans (by have c111x := c111; rw [← e109] at c111x; have c123x := c123; rw [← e121, ← e119, ← e117, ← e114] at c123x; rw [e166, ← e126, ← e119, ← e117, ← e114, F_DR_bring_J28.eq_1, if_pos c111x, if_pos c123x]) hR103)
        have hS181 := (show True ∧ S_DR_bring_c104 x2 x3 x4 t0_0 t0_1 t0_2 t0_3 t0_4 t0_5 t0_6 t0_7 t0_8 t0_9 t0_10 t1_0 t2_0 t3_0 t4_0 t5_0 p75 y36 y37 y38 y39 y40 y41 y42 y43 y44 y45 y46 f47 j118 p165 from (by rw [e166, ← e126, ← e119, ← e117, ← e114]; have h := hS104; rw [S_DR_bring_J28.eq_1] at h; have c111x := c111; rw [← e109] at c111x; rw [if_pos c111x] at h; have c123x := c123; rw [← e121, ← e119, ← e117, ← e114] at c123x; rw [if_pos c123x] at h; replace h := q_s2 h; with_reducible exact h))
        refine lv_if_ne (tgt := 111) hx hb d_15_13_107 (by decide) (fun c185 => ?_) (fun c185 => ?_)
        ·
          refine lv_aload_n hx hb d_15_13_111 rfl (lv_at hl 1 rfl) ?_
          refine lv_lload_n hx hb d_15_13_112 rfl (lv_at hl 2 rfl) ?_
          refine q_put (ci := 14) (j := 9) (v := .long x2) (ty := .long) C0 V i_DR o_DR n_DR rfl rfl hO131 (by decide) w_2012 rfl rfl rfl rfl (Nat.le_of_ble_eq_true rfl) d_15_13_113 (fun H locs w187 hu188 hO131 V => ?_)
          replace hO131 : w187[134]? = (some (q 134, .inr (14, [.int y132, .ref (q 135), .int y133, .ref (q 136), .ref (q 137), .ref (q 138), .ref (q 139), .ref (q 140), .int y134, .long x2, .int y136, .int y137, .ref (q 141), .int y138, .ref (q 142), .int y139, .ref (q 143), .int y140, .ref (q 144), .int y141, .int y142])) : Option (Nat × va_E)) := hO131
          replace hI := n_p134 hI hu188 hO131 ⟨(by have t1 : 0 ≤ t0_1.toInt ∧ t0_1.toInt ≤ 4100 := btt0_1; have t2 : t0_1.toInt ≤ y37.toInt := b52; have t3 : y37.toInt ≤ y133.toInt := b148; omega), (by have t1 : 0 ≤ t0_1.toInt ∧ t0_1.toInt ≤ 4100 := btt0_1; have t2 : y37.toInt ≤ t0_1.toInt := b53; have t3 : y133.toInt ≤ y37.toInt := b149; omega)⟩ ⟨(by first | with_reducible exact q_fe b147 | (have t1 : 0 ≤ y136.toInt := b147; omega)), (by have t1 : 0 ≤ t0_4.toInt ∧ t0_4.toInt ≤ 1 := btt0_4; have t2 : y40.toInt ≤ t0_4.toInt := b59; have t3 : y136.toInt ≤ y40.toInt := b150; omega)⟩ ⟨(by have t1 : 0 ≤ y41.toInt := b49; have t2 : y41.toInt ≤ y137.toInt := b151; omega), (by have t1 : 0 ≤ t0_5.toInt ∧ t0_5.toInt ≤ 1 := btt0_5; have t2 : y41.toInt ≤ t0_5.toInt := b61; have t3 : y137.toInt ≤ y41.toInt := b152; omega)⟩ ⟨(by have t1 : 0 ≤ t0_9.toInt ∧ t0_9.toInt ≤ 12200 := btt0_9; have t2 : t0_9.toInt ≤ y45.toInt := b69; have t3 : y45.toInt ≤ y141.toInt := b159; omega), (by have t1 : 0 ≤ t0_9.toInt ∧ t0_9.toInt ≤ 12200 := btt0_9; have t2 : y45.toInt ≤ t0_9.toInt := b70; have t3 : y141.toInt ≤ y45.toInt := b160; omega)⟩
          replace hT1 := (hu188 _ (by decide)).trans hT1
          replace hT2 := (hu188 _ (by decide)).trans hT2
          replace hT3 := (hu188 _ (by decide)).trans hT3
          replace hT4 := (hu188 _ (by decide)).trans hT4
          replace hA144 := (hu188 _ (by decide)).trans hA144
          replace hF := q_us hF hu188 (by simp)
          refine lv_aload_n hx hb d_15_13_116 rfl (lv_at hl 1 rfl) ?_
          refine lv_iload hx hb d_15_13_117 (lv_at hl 4 rfl) ?_
          have ob189 : True ∧ S_DR_store x4 y132 y133 y134 x2 y136 y137 y138 y139 y140 y141 y142 t1_0 t2_0 t3_0 t4_0 f143 := (by rw [e179, e178, e177, e176, e175, e174, e173, e172, e170, e169, e168]; have h := hS181; rw [S_DR_bring_c104.eq_1] at h; have c185x := c185; rw [e167] at c185x; rw [if_neg c185x] at h; with_reducible exact h.2.1)
          refine q_gov V (q_runV (As := [.int x4]) (rest := []) (d := 2) (mc := 0) (ms := 0) (ci := 14) C0 V rfl LV_DR_89 (X_DR_store l D g q w187  x4 hI y132 y133 y134 x2 y136 y137 y138 y139 y140 y141 y142 hO131 t1_0 hT1 t2_0 hT2 t3_0 hT3 t4_0 hT4 f143 hA144 ob189 _) rfl rfl hO131 rfl hl.1 rfl (Nat.le_of_ble_eq_true rfl) ⟨by decide, by decide⟩ ⟨Nat.le_of_ble_eq_true rfl, Nat.le_of_ble_eq_true rfl⟩ d_15_13_119) (fun u190 H locs hp191 V => ?_)
          obtain ⟨hI, hZ9⟩ := hp191
          obtain ⟨hu237, hZ9⟩ := hZ9
          obtain ⟨y193, hZ9⟩ := hZ9
          obtain ⟨y194, hZ9⟩ := hZ9
          obtain ⟨y195, hZ9⟩ := hZ9
          obtain ⟨y196, hZ9⟩ := hZ9
          obtain ⟨y197, hZ9⟩ := hZ9
          obtain ⟨y198, hZ9⟩ := hZ9
          obtain ⟨y199, hZ9⟩ := hZ9
          obtain ⟨y200, hZ9⟩ := hZ9
          obtain ⟨y201, hZ9⟩ := hZ9
          obtain ⟨y202, hZ9⟩ := hZ9
          obtain ⟨y203, hZ9⟩ := hZ9
          obtain ⟨f204, hZ9⟩ := hZ9
          obtain ⟨f206, hZ9⟩ := hZ9
          obtain ⟨f208, hZ9⟩ := hZ9
          obtain ⟨f210, hZ9⟩ := hZ9
          obtain ⟨f212, hZ9⟩ := hZ9
          obtain ⟨hO192, hZ9⟩ := hZ9
          obtain ⟨hA205, hZ9⟩ := hZ9
          obtain ⟨hA207, hZ9⟩ := hZ9
          obtain ⟨hA209, hZ9⟩ := hZ9
          obtain ⟨hA211, hZ9⟩ := hZ9
          obtain ⟨hA213, hZ9⟩ := hZ9
          obtain ⟨b214, hZ9⟩ := hZ9
          obtain ⟨b215, hZ9⟩ := hZ9
          obtain ⟨b216, hZ9⟩ := hZ9
          replace hZ9 := hZ9.2.2.2.2
          obtain ⟨b221, hZ9⟩ := hZ9
          obtain ⟨b222, hZ9⟩ := hZ9
          replace hZ9 := hZ9.2
          obtain ⟨b224, hZ9⟩ := hZ9
          obtain ⟨b225, hZ9⟩ := hZ9
          obtain ⟨b226, hZ9⟩ := hZ9
          obtain ⟨b227, hZ9⟩ := hZ9
          obtain ⟨b228, hZ9⟩ := hZ9
          obtain ⟨b229, hZ9⟩ := hZ9
          obtain ⟨b230, hZ9⟩ := hZ9
          replace hZ9 := hZ9.2
          obtain ⟨b232, hZ9⟩ := hZ9
          obtain ⟨b233, hZ9⟩ := hZ9
          obtain ⟨b234, hZ9⟩ := hZ9
          obtain ⟨b235, hE236⟩ := hZ9
          replace hO192 : u190[134]? = (some (q 134, .inr (14, [.int y193, .ref (q 135), .int y194, .ref (q 136), .ref (q 137), .ref (q 138), .ref (q 139), .ref (q 140), .int y195, .long y196, .int y197, .int y198, .ref (q 141), .int y199, .ref (q 142), .int y200, .ref (q 143), .int y201, .ref (q 144), .int y202, .int y203])) : Option (Nat × va_E)) := hO192
          replace hA205 : u190[136]? = (some (q 136, .inl (g 0, (10000 : Int32).toNatClampNeg, .inl f204)) : Option (Nat × va_E)) := hA205
          replace hA207 : u190[137]? = (some (q 137, .inl (g 0, (10 : Int32).toNatClampNeg, .inl f206)) : Option (Nat × va_E)) := hA207
          replace hA209 : u190[138]? = (some (q 138, .inl (g 3, 10, .inl f208)) : Option (Nat × va_E)) := hA209
          replace hA211 : u190[139]? = (some (q 139, .inl (g 0, (10 : Int32).toNatClampNeg, .inl f210)) : Option (Nat × va_E)) := hA211
          replace hA213 : u190[140]? = (some (q 140, .inl (g 0, (4400 : Int32).toNatClampNeg, .inl f212)) : Option (Nat × va_E)) := hA213
          obtain ⟨p238, e239⟩ : ∃ z, z = (F_DR_store x4 y132 y133 y134 x2 y136 y137 y138 y139 y140 y141 y142 t1_0 t2_0 t3_0 t4_0 f143) := ⟨_, rfl⟩
          have e240 : y193 = p238.1 := congrArg (fun z => z.1) (hE236.trans e239.symm)
          have e241 : y194 = p238.2.1 := congrArg (fun z => z.2.1) (hE236.trans e239.symm)
          have e242 : y195 = p238.2.2.1 := congrArg (fun z => z.2.2.1) (hE236.trans e239.symm)
          have e243 : y196 = p238.2.2.2.1 := congrArg (fun z => z.2.2.2.1) (hE236.trans e239.symm)
          have e244 : y197 = p238.2.2.2.2.1 := congrArg (fun z => z.2.2.2.2.1) (hE236.trans e239.symm)
          have e245 : y198 = p238.2.2.2.2.2.1 := congrArg (fun z => z.2.2.2.2.2.1) (hE236.trans e239.symm)
          have e246 : y199 = p238.2.2.2.2.2.2.1 := congrArg (fun z => z.2.2.2.2.2.2.1) (hE236.trans e239.symm)
          have e247 : y200 = p238.2.2.2.2.2.2.2.1 := congrArg (fun z => z.2.2.2.2.2.2.2.1) (hE236.trans e239.symm)
          have e248 : y201 = p238.2.2.2.2.2.2.2.2.1 := congrArg (fun z => z.2.2.2.2.2.2.2.2.1) (hE236.trans e239.symm)
          have e249 : y202 = p238.2.2.2.2.2.2.2.2.2.1 := congrArg (fun z => z.2.2.2.2.2.2.2.2.2.1) (hE236.trans e239.symm)
          have e250 : y203 = p238.2.2.2.2.2.2.2.2.2.2.1 := congrArg (fun z => z.2.2.2.2.2.2.2.2.2.2.1) (hE236.trans e239.symm)
          have e251 : f204 = p238.2.2.2.2.2.2.2.2.2.2.2.1 := congrArg (fun z => z.2.2.2.2.2.2.2.2.2.2.2.1) (hE236.trans e239.symm)
          have e252 : f206 = p238.2.2.2.2.2.2.2.2.2.2.2.2.1 := congrArg (fun z => z.2.2.2.2.2.2.2.2.2.2.2.2.1) (hE236.trans e239.symm)
          have e253 : f208 = p238.2.2.2.2.2.2.2.2.2.2.2.2.2.1 := congrArg (fun z => z.2.2.2.2.2.2.2.2.2.2.2.2.2.1) (hE236.trans e239.symm)
          have e254 : f210 = p238.2.2.2.2.2.2.2.2.2.2.2.2.2.2.1 := congrArg (fun z => z.2.2.2.2.2.2.2.2.2.2.2.2.2.2.1) (hE236.trans e239.symm)
          have e255 : f212 = p238.2.2.2.2.2.2.2.2.2.2.2.2.2.2.2 := congrArg (fun z => z.2.2.2.2.2.2.2.2.2.2.2.2.2.2.2) (hE236.trans e239.symm)
          replace b214 : q_F (0 ≤ y198.toInt) := b214
          replace b215 : q_F (y133.toInt ≤ y194.toInt) := b215
          replace b216 : q_F (y194.toInt ≤ y133.toInt) := b216
          replace b221 : q_F (y136.toInt ≤ y197.toInt) := b221
          replace b222 : q_F (y197.toInt ≤ y136.toInt) := b222
          replace b224 : q_F (y198.toInt ≤ y137.toInt) := b224
          replace b225 : q_F (y138.toInt ≤ y199.toInt) := b225
          replace b226 : q_F (y199.toInt ≤ y138.toInt) := b226
          replace b227 : q_F (y139.toInt ≤ y200.toInt) := b227
          replace b228 : q_F (y200.toInt ≤ y139.toInt) := b228
          replace b229 : q_F (y140.toInt ≤ y201.toInt) := b229
          replace b230 : q_F (y201.toInt ≤ y140.toInt) := b230
          replace b232 : q_F (y141.toInt ≤ y202.toInt) := b232
          replace b233 : q_F (y202.toInt ≤ y141.toInt) := b233
          replace b234 : q_F (y142.toInt ≤ y203.toInt) := b234
          replace b235 : q_F (y203.toInt ≤ y142.toInt) := b235
          replace hF := q_uc hF hu237 (by simp)
          have hR256 := (show F_DR_bring_c119 x2 x3 x4 t0_0 t0_1 t0_2 t0_3 t0_4 t0_5 t0_6 t0_7 t0_8 t0_9 t0_10 t1_0 t2_0 t3_0 t4_0 t5_0 p75 y36 y37 y38 y39 y40 y41 y42 y43 y44 y45 y46 f47 j118 p165 p238 = (F_DR_bring x2 x3 x4 t0_0 t0_1 t0_2 t0_3 t0_4 t0_5 t0_6 t0_7 t0_8 t0_9 t0_10 t1_0 t2_0 t3_0 t4_0 t5_0) from Eq.trans (by have c185x := c185; rw [e167] at c185x; rw [e239, e179, e178, e177, e176, e175, e174, e173, e172, e170, e169, e168, F_DR_bring_c104.eq_1, if_neg c185x]) hR180)
          have hS257 := (show True ∧ S_DR_bring_c119 x2 x3 x4 t0_0 t0_1 t0_2 t0_3 t0_4 t0_5 t0_6 t0_7 t0_8 t0_9 t0_10 t1_0 t2_0 t3_0 t4_0 t5_0 p75 y36 y37 y38 y39 y40 y41 y42 y43 y44 y45 y46 f47 j118 p165 p238 from (by rw [e239, e179, e178, e177, e176, e175, e174, e173, e172, e170, e169, e168]; have h := hS181; rw [S_DR_bring_c104.eq_1] at h; have c185x := c185; rw [e167] at c185x; rw [if_neg c185x] at h; replace h := q_s2 h; with_reducible exact h))
          exact q_retv C0 V (⟨hI, hF, y193, y194, y195, y196, y197, y198, y199, y200, y201, y202, y203, f204, f206, f208, f210, f212, hO192, hA205, hA207, hA209, hA211, hA213, (show 0 ≤ y198.toInt from (by first | with_reducible exact q_fe b214 | (have t1 : 0 ≤ y198.toInt := b214; omega))), (show t0_1.toInt ≤ y194.toInt from (by have t1 : t0_1.toInt ≤ y37.toInt := b52; have t2 : y37.toInt ≤ y133.toInt := b148; have t3 : y133.toInt ≤ y194.toInt := b215; omega)), (show y194.toInt ≤ t0_1.toInt from (by have t1 : y37.toInt ≤ t0_1.toInt := b53; have t2 : y133.toInt ≤ y37.toInt := b149; have t3 : y194.toInt ≤ y133.toInt := b216; omega)), (show t0_2.toInt ≤ y194.toInt + 24400 from (by have t1 : t0_2.toInt ≤ y37.toInt + 24400 := b54; have t2 : y37.toInt ≤ y133.toInt := b148; have t3 : y133.toInt ≤ y194.toInt := b215; omega)), (show t0_2.toInt ≤ y197.toInt + 24401 from (by have t1 : 0 ≤ t0_4.toInt ∧ t0_4.toInt ≤ 1 := btt0_4; have t2 : t0_2.toInt ≤ y40.toInt + 24400 := b57; have t3 : y40.toInt ≤ t0_4.toInt := b59; have t4 : 0 ≤ y136.toInt := b147; have t5 : y136.toInt ≤ y197.toInt := b221; omega)), (show t0_4.toInt ≤ y197.toInt + 1 from (by have t1 : 0 ≤ t0_4.toInt ∧ t0_4.toInt ≤ 1 := btt0_4; have t2 : 0 ≤ y136.toInt := b147; have t3 : y136.toInt ≤ y197.toInt := b221; omega)), (show y197.toInt ≤ t0_4.toInt from (by have t1 : y40.toInt ≤ t0_4.toInt := b59; have t2 : y136.toInt ≤ y40.toInt := b150; have t3 : y197.toInt ≤ y136.toInt := b222; omega)), (show t0_2.toInt ≤ y198.toInt + 24401 from (by have t1 : 0 ≤ t0_4.toInt ∧ t0_4.toInt ≤ 1 := btt0_4; have t2 : t0_2.toInt ≤ y40.toInt + 24400 := b57; have t3 : y40.toInt ≤ t0_4.toInt := b59; have t4 : 0 ≤ y198.toInt := b214; omega)), (show y198.toInt ≤ t0_5.toInt from (by have t1 : y41.toInt ≤ t0_5.toInt := b61; have t2 : y137.toInt ≤ y41.toInt := b152; have t3 : y198.toInt ≤ y137.toInt := b224; omega)), (show t0_6.toInt ≤ y199.toInt from (by have t1 : t0_6.toInt ≤ y42.toInt := b62; have t2 : y42.toInt ≤ y138.toInt := b153; have t3 : y138.toInt ≤ y199.toInt := b225; omega)), (show y199.toInt ≤ t0_6.toInt from (by have t1 : y42.toInt ≤ t0_6.toInt := b63; have t2 : y138.toInt ≤ y42.toInt := b154; have t3 : y199.toInt ≤ y138.toInt := b226; omega)), (show t0_7.toInt ≤ y200.toInt from (by have t1 : t0_7.toInt ≤ y43.toInt := b64; have t2 : y43.toInt ≤ y139.toInt := b155; have t3 : y139.toInt ≤ y200.toInt := b227; omega)), (show y200.toInt ≤ t0_7.toInt from (by have t1 : y43.toInt ≤ t0_7.toInt := b65; have t2 : y139.toInt ≤ y43.toInt := b156; have t3 : y200.toInt ≤ y139.toInt := b228; omega)), (show t0_8.toInt ≤ y201.toInt from (by have t1 : t0_8.toInt ≤ y44.toInt := b66; have t2 : y44.toInt ≤ y140.toInt := b157; have t3 : y140.toInt ≤ y201.toInt := b229; omega)), (show y201.toInt ≤ t0_8.toInt from (by have t1 : y44.toInt ≤ t0_8.toInt := b67; have t2 : y140.toInt ≤ y44.toInt := b158; have t3 : y201.toInt ≤ y140.toInt := b230; omega)), (show t0_2.toInt ≤ y202.toInt + 24400 from (by have t1 : t0_2.toInt ≤ y45.toInt + 24400 := b68; have t2 : y45.toInt ≤ y141.toInt := b159; have t3 : y141.toInt ≤ y202.toInt := b232; omega)), (show t0_9.toInt ≤ y202.toInt from (by have t1 : t0_9.toInt ≤ y45.toInt := b69; have t2 : y45.toInt ≤ y141.toInt := b159; have t3 : y141.toInt ≤ y202.toInt := b232; omega)), (show y202.toInt ≤ t0_9.toInt from (by have t1 : y45.toInt ≤ t0_9.toInt := b70; have t2 : y141.toInt ≤ y45.toInt := b160; have t3 : y202.toInt ≤ y141.toInt := b233; omega)), (show t0_10.toInt ≤ y203.toInt from (by have t1 : t0_10.toInt ≤ y46.toInt := b71; have t2 : y46.toInt ≤ y142.toInt := b161; have t3 : y142.toInt ≤ y203.toInt := b234; omega)), (show y203.toInt ≤ t0_10.toInt from (by have t1 : y46.toInt ≤ t0_10.toInt := b72; have t2 : y142.toInt ≤ y46.toInt := b162; have t3 : y203.toInt ≤ y142.toInt := b235; omega)), (show (y193, y194, y195, y196, y197, y198, y199, y200, y201, y202, y203, f204, f206, f208, f210, f212) = (F_DR_bring x2 x3 x4 t0_0 t0_1 t0_2 t0_3 t0_4 t0_5 t0_6 t0_7 t0_8 t0_9 t0_10 t1_0 t2_0 t3_0 t4_0 t5_0) from Eq.trans (by rw [e255, e254, e253, e252, e251, e250, e249, e248, e247, e246, e245, e244, e243, e242, e241, e240, F_DR_bring_c119.eq_1]) hR256)⟩) d_15_13_122
        ·
          exact q_retv C0 V (⟨hI, hF, y132, y133, y134, y135, y136, y137, y138, y139, y140, y141, y142, t1_0, t2_0, t3_0, t4_0, f143, hO131, hT1, hT2, hT3, hT4, hA144, (show 0 ≤ y137.toInt from (by have t1 : 0 ≤ y41.toInt := b49; have t2 : y41.toInt ≤ y137.toInt := b151; omega)), (show t0_1.toInt ≤ y133.toInt from (by have t1 : t0_1.toInt ≤ y37.toInt := b52; have t2 : y37.toInt ≤ y133.toInt := b148; omega)), (show y133.toInt ≤ t0_1.toInt from (by have t1 : y37.toInt ≤ t0_1.toInt := b53; have t2 : y133.toInt ≤ y37.toInt := b149; omega)), (show t0_2.toInt ≤ y133.toInt + 24400 from (by have t1 : t0_2.toInt ≤ y37.toInt + 24400 := b54; have t2 : y37.toInt ≤ y133.toInt := b148; omega)), (show t0_2.toInt ≤ y136.toInt + 24401 from (by have t1 : 0 ≤ t0_4.toInt ∧ t0_4.toInt ≤ 1 := btt0_4; have t2 : t0_2.toInt ≤ y40.toInt + 24400 := b57; have t3 : y40.toInt ≤ t0_4.toInt := b59; have t4 : 0 ≤ y136.toInt := b147; omega)), (show t0_4.toInt ≤ y136.toInt + 1 from (by have t1 : 0 ≤ t0_4.toInt ∧ t0_4.toInt ≤ 1 := btt0_4; have t2 : 0 ≤ y136.toInt := b147; omega)), (show y136.toInt ≤ t0_4.toInt from (by have t1 : y40.toInt ≤ t0_4.toInt := b59; have t2 : y136.toInt ≤ y40.toInt := b150; omega)), (show t0_2.toInt ≤ y137.toInt + 24401 from (by have t1 : t0_2.toInt ≤ y41.toInt + 24400 := b60; have t2 : y41.toInt ≤ y137.toInt := b151; omega)), (show y137.toInt ≤ t0_5.toInt from (by have t1 : y41.toInt ≤ t0_5.toInt := b61; have t2 : y137.toInt ≤ y41.toInt := b152; omega)), (show t0_6.toInt ≤ y138.toInt from (by have t1 : t0_6.toInt ≤ y42.toInt := b62; have t2 : y42.toInt ≤ y138.toInt := b153; omega)), (show y138.toInt ≤ t0_6.toInt from (by have t1 : y42.toInt ≤ t0_6.toInt := b63; have t2 : y138.toInt ≤ y42.toInt := b154; omega)), (show t0_7.toInt ≤ y139.toInt from (by have t1 : t0_7.toInt ≤ y43.toInt := b64; have t2 : y43.toInt ≤ y139.toInt := b155; omega)), (show y139.toInt ≤ t0_7.toInt from (by have t1 : y43.toInt ≤ t0_7.toInt := b65; have t2 : y139.toInt ≤ y43.toInt := b156; omega)), (show t0_8.toInt ≤ y140.toInt from (by have t1 : t0_8.toInt ≤ y44.toInt := b66; have t2 : y44.toInt ≤ y140.toInt := b157; omega)), (show y140.toInt ≤ t0_8.toInt from (by have t1 : y44.toInt ≤ t0_8.toInt := b67; have t2 : y140.toInt ≤ y44.toInt := b158; omega)), (show t0_2.toInt ≤ y141.toInt + 24400 from (by have t1 : t0_2.toInt ≤ y45.toInt + 24400 := b68; have t2 : y45.toInt ≤ y141.toInt := b159; omega)), (show t0_9.toInt ≤ y141.toInt from (by have t1 : t0_9.toInt ≤ y45.toInt := b69; have t2 : y45.toInt ≤ y141.toInt := b159; omega)), (show y141.toInt ≤ t0_9.toInt from (by have t1 : y45.toInt ≤ t0_9.toInt := b70; have t2 : y141.toInt ≤ y45.toInt := b160; omega)), (show t0_10.toInt ≤ y142.toInt from (by have t1 : t0_10.toInt ≤ y46.toInt := b71; have t2 : y46.toInt ≤ y142.toInt := b161; omega)), (show y142.toInt ≤ t0_10.toInt from (by have t1 : y46.toInt ≤ t0_10.toInt := b72; have t2 : y142.toInt ≤ y46.toInt := b162; omega)), (show (y132, y133, y134, y135, y136, y137, y138, y139, y140, y141, y142, t1_0, t2_0, t3_0, t4_0, f143) = (F_DR_bring x2 x3 x4 t0_0 t0_1 t0_2 t0_3 t0_4 t0_5 t0_6 t0_7 t0_8 t0_9 t0_10 t1_0 t2_0 t3_0 t4_0 t5_0) from Eq.trans (by have c185x := c185; rw [e167] at c185x; rw [e179, e178, e177, e176, e175, e174, e173, e172, e171, e170, e169, e168, F_DR_bring_c104.eq_1, if_pos c185x]) hR180)⟩) d_15_13_110
      ·
        refine lv_iconst (v := (-1)) hx hb d_15_13_96 (by decide) ?_
        refine lv_goto (tgt := 103) hx hb d_15_13_97 (by decide) ?_
        refine lv_iload_n hx hb d_15_13_103 rfl (lv_at hl 3 rfl) ?_
        have ob263 : True ∧ S_DR_cut (-1 : Int32) x3 y36 y37 y38 y39 y40 y41 y42 y43 y44 y45 y46 f47 := (by have h := hS104; rw [S_DR_bring_J28.eq_1] at h; have c111x := c111; rw [← e109] at c111x; rw [if_pos c111x] at h; have c123x := c123; rw [← e121, ← e119, ← e117, ← e114] at c123x; rw [if_neg c123x] at h; with_reducible exact h.2.1)
        refine q_goi V (q_runV (As := [.int (-1), .int x3]) (rest := []) (d := 3) (mc := 0) (ms := 0) (ci := 14) C0 V rfl LV_DR_85 (X_DR_cut l D g q u33  (-1) x3 hI y36 y37 y38 y39 y40 y41 y42 y43 y44 y45 y46 hO35 f47 hA48 ob263 _) rfl rfl hO35 rfl hl.1 rfl (Nat.le_of_ble_eq_true rfl) ⟨by decide, by decide⟩ ⟨Nat.le_of_ble_eq_true rfl, Nat.le_of_ble_eq_true rfl⟩ d_15_13_104) (fun a266 u264 H locs hp265 V => ?_)
        obtain ⟨hI, hZ9⟩ := hp265
        obtain ⟨hu300, hZ9⟩ := hZ9
        obtain ⟨y268, hZ9⟩ := hZ9
        obtain ⟨y269, hZ9⟩ := hZ9
        obtain ⟨y270, hZ9⟩ := hZ9
        obtain ⟨y271, hZ9⟩ := hZ9
        obtain ⟨y272, hZ9⟩ := hZ9
        obtain ⟨y273, hZ9⟩ := hZ9
        obtain ⟨y274, hZ9⟩ := hZ9
        obtain ⟨y275, hZ9⟩ := hZ9
        obtain ⟨y276, hZ9⟩ := hZ9
        obtain ⟨y277, hZ9⟩ := hZ9
        obtain ⟨y278, hZ9⟩ := hZ9
        obtain ⟨f279, hZ9⟩ := hZ9
        obtain ⟨hO267, hZ9⟩ := hZ9
        obtain ⟨hA280, hZ9⟩ := hZ9
        replace hZ9 := hZ9.2.2
        obtain ⟨b283, hZ9⟩ := hZ9
        obtain ⟨b284, hZ9⟩ := hZ9
        obtain ⟨b285, hZ9⟩ := hZ9
        obtain ⟨b286, hZ9⟩ := hZ9
        obtain ⟨b287, hZ9⟩ := hZ9
        obtain ⟨b288, hZ9⟩ := hZ9
        obtain ⟨b289, hZ9⟩ := hZ9
        obtain ⟨b290, hZ9⟩ := hZ9
        obtain ⟨b291, hZ9⟩ := hZ9
        obtain ⟨b292, hZ9⟩ := hZ9
        obtain ⟨b293, hZ9⟩ := hZ9
        obtain ⟨b294, hZ9⟩ := hZ9
        obtain ⟨b295, hZ9⟩ := hZ9
        obtain ⟨b296, hZ9⟩ := hZ9
        obtain ⟨b297, hZ9⟩ := hZ9
        obtain ⟨b298, hE299⟩ := hZ9
        replace hO267 : u264[134]? = (some (q 134, .inr (14, [.int y268, .ref (q 135), .int y269, .ref (q 136), .ref (q 137), .ref (q 138), .ref (q 139), .ref (q 140), .int y270, .long y271, .int y272, .int y273, .ref (q 141), .int y274, .ref (q 142), .int y275, .ref (q 143), .int y276, .ref (q 144), .int y277, .int y278])) : Option (Nat × va_E)) := hO267
        replace hA280 : u264[140]? = (some (q 140, .inl (g 0, (4400 : Int32).toNatClampNeg, .inl f279)) : Option (Nat × va_E)) := hA280
        obtain ⟨p301, e302⟩ : ∃ z, z = (F_DR_cut (-1 : Int32) x3 y36 y37 y38 y39 y40 y41 y42 y43 y44 y45 y46 f47) := ⟨_, rfl⟩
        have e303 : a266 = p301.1 := congrArg (fun z => z.1) (hE299.trans e302.symm)
        have e304 : y268 = p301.2.1 := congrArg (fun z => z.2.1) (hE299.trans e302.symm)
        have e305 : y269 = p301.2.2.1 := congrArg (fun z => z.2.2.1) (hE299.trans e302.symm)
        have e306 : y270 = p301.2.2.2.1 := congrArg (fun z => z.2.2.2.1) (hE299.trans e302.symm)
        have e307 : y271 = p301.2.2.2.2.1 := congrArg (fun z => z.2.2.2.2.1) (hE299.trans e302.symm)
        have e308 : y272 = p301.2.2.2.2.2.1 := congrArg (fun z => z.2.2.2.2.2.1) (hE299.trans e302.symm)
        have e309 : y273 = p301.2.2.2.2.2.2.1 := congrArg (fun z => z.2.2.2.2.2.2.1) (hE299.trans e302.symm)
        have e310 : y274 = p301.2.2.2.2.2.2.2.1 := congrArg (fun z => z.2.2.2.2.2.2.2.1) (hE299.trans e302.symm)
        have e311 : y275 = p301.2.2.2.2.2.2.2.2.1 := congrArg (fun z => z.2.2.2.2.2.2.2.2.1) (hE299.trans e302.symm)
        have e312 : y276 = p301.2.2.2.2.2.2.2.2.2.1 := congrArg (fun z => z.2.2.2.2.2.2.2.2.2.1) (hE299.trans e302.symm)
        have e313 : y277 = p301.2.2.2.2.2.2.2.2.2.2.1 := congrArg (fun z => z.2.2.2.2.2.2.2.2.2.2.1) (hE299.trans e302.symm)
        have e314 : y278 = p301.2.2.2.2.2.2.2.2.2.2.2.1 := congrArg (fun z => z.2.2.2.2.2.2.2.2.2.2.2.1) (hE299.trans e302.symm)
        have e315 : f279 = p301.2.2.2.2.2.2.2.2.2.2.2.2 := congrArg (fun z => z.2.2.2.2.2.2.2.2.2.2.2.2) (hE299.trans e302.symm)
        replace b283 : q_F (0 ≤ y272.toInt) := b283
        replace b284 : q_F (y37.toInt ≤ y269.toInt) := b284
        replace b285 : q_F (y269.toInt ≤ y37.toInt) := b285
        replace b286 : q_F (y272.toInt ≤ y40.toInt) := b286
        replace b287 : q_F (y41.toInt ≤ y273.toInt) := b287
        replace b288 : q_F (y273.toInt ≤ y41.toInt) := b288
        replace b289 : q_F (y42.toInt ≤ y274.toInt) := b289
        replace b290 : q_F (y274.toInt ≤ y42.toInt) := b290
        replace b291 : q_F (y43.toInt ≤ y275.toInt) := b291
        replace b292 : q_F (y275.toInt ≤ y43.toInt) := b292
        replace b293 : q_F (y44.toInt ≤ y276.toInt) := b293
        replace b294 : q_F (y276.toInt ≤ y44.toInt) := b294
        replace b295 : q_F (y45.toInt ≤ y277.toInt) := b295
        replace b296 : q_F (y277.toInt ≤ y45.toInt) := b296
        replace b297 : q_F (y46.toInt ≤ y278.toInt) := b297
        replace b298 : q_F (y278.toInt ≤ y46.toInt) := b298
        replace hT1 := (hu300 _ (by decide)).trans hT1
        replace hT2 := (hu300 _ (by decide)).trans hT2
        replace hT3 := (hu300 _ (by decide)).trans hT3
        replace hT4 := (hu300 _ (by decide)).trans hT4
        replace hF := q_uc hF hu300 (by simp)
        have hR316 := (show F_DR_bring_c104_5 x2 x3 x4 t0_0 t0_1 t0_2 t0_3 t0_4 t0_5 t0_6 t0_7 t0_8 t0_9 t0_10 t1_0 t2_0 t3_0 t4_0 t5_0 p75 y36 y37 y38 y39 y40 y41 y42 y43 y44 y45 y46 f47 j118 p301 = (F_DR_bring x2 x3 x4 t0_0 t0_1 t0_2 t0_3 t0_4 t0_5 t0_6 t0_7 t0_8 t0_9 t0_10 t1_0 t2_0 t3_0 t4_0 t5_0) from Eq.trans (by have c111x := c111; rw [← e109] at c111x; have c123x := c123; rw [← e121, ← e119, ← e117, ← e114] at c123x; rw [e302, ← e119, ← e117, ← e114, F_DR_bring_J28.eq_1, if_pos c111x, if_neg c123x]) hR103)
        have hS317 := (show True ∧ S_DR_bring_c104_5 x2 x3 x4 t0_0 t0_1 t0_2 t0_3 t0_4 t0_5 t0_6 t0_7 t0_8 t0_9 t0_10 t1_0 t2_0 t3_0 t4_0 t5_0 p75 y36 y37 y38 y39 y40 y41 y42 y43 y44 y45 y46 f47 j118 p301 from (by rw [e302, ← e119, ← e117, ← e114]; have h := hS104; rw [S_DR_bring_J28.eq_1] at h; have c111x := c111; rw [← e109] at c111x; rw [if_pos c111x] at h; have c123x := c123; rw [← e121, ← e119, ← e117, ← e114] at c123x; rw [if_neg c123x] at h; replace h := q_s2 h; with_reducible exact h))
        refine lv_if_ne (tgt := 111) hx hb d_15_13_107 (by decide) (fun c321 => ?_) (fun c321 => ?_)
        ·
          refine lv_aload_n hx hb d_15_13_111 rfl (lv_at hl 1 rfl) ?_
          refine lv_lload_n hx hb d_15_13_112 rfl (lv_at hl 2 rfl) ?_
          refine q_put (ci := 14) (j := 9) (v := .long x2) (ty := .long) C0 V i_DR o_DR n_DR rfl rfl hO267 (by decide) w_2012 rfl rfl rfl rfl (Nat.le_of_ble_eq_true rfl) d_15_13_113 (fun H locs w323 hu324 hO267 V => ?_)
          replace hO267 : w323[134]? = (some (q 134, .inr (14, [.int y268, .ref (q 135), .int y269, .ref (q 136), .ref (q 137), .ref (q 138), .ref (q 139), .ref (q 140), .int y270, .long x2, .int y272, .int y273, .ref (q 141), .int y274, .ref (q 142), .int y275, .ref (q 143), .int y276, .ref (q 144), .int y277, .int y278])) : Option (Nat × va_E)) := hO267
          replace hI := n_p134 hI hu324 hO267 ⟨(by have t1 : 0 ≤ t0_1.toInt ∧ t0_1.toInt ≤ 4100 := btt0_1; have t2 : t0_1.toInt ≤ y37.toInt := b52; have t3 : y37.toInt ≤ y269.toInt := b284; omega), (by have t1 : 0 ≤ t0_1.toInt ∧ t0_1.toInt ≤ 4100 := btt0_1; have t2 : y37.toInt ≤ t0_1.toInt := b53; have t3 : y269.toInt ≤ y37.toInt := b285; omega)⟩ ⟨(by first | with_reducible exact q_fe b283 | (have t1 : 0 ≤ y272.toInt := b283; omega)), (by have t1 : 0 ≤ t0_4.toInt ∧ t0_4.toInt ≤ 1 := btt0_4; have t2 : y40.toInt ≤ t0_4.toInt := b59; have t3 : y272.toInt ≤ y40.toInt := b286; omega)⟩ ⟨(by have t1 : 0 ≤ y41.toInt := b49; have t2 : y41.toInt ≤ y273.toInt := b287; omega), (by have t1 : 0 ≤ t0_5.toInt ∧ t0_5.toInt ≤ 1 := btt0_5; have t2 : y41.toInt ≤ t0_5.toInt := b61; have t3 : y273.toInt ≤ y41.toInt := b288; omega)⟩ ⟨(by have t1 : 0 ≤ t0_9.toInt ∧ t0_9.toInt ≤ 12200 := btt0_9; have t2 : t0_9.toInt ≤ y45.toInt := b69; have t3 : y45.toInt ≤ y277.toInt := b295; omega), (by have t1 : 0 ≤ t0_9.toInt ∧ t0_9.toInt ≤ 12200 := btt0_9; have t2 : y45.toInt ≤ t0_9.toInt := b70; have t3 : y277.toInt ≤ y45.toInt := b296; omega)⟩
          replace hT1 := (hu324 _ (by decide)).trans hT1
          replace hT2 := (hu324 _ (by decide)).trans hT2
          replace hT3 := (hu324 _ (by decide)).trans hT3
          replace hT4 := (hu324 _ (by decide)).trans hT4
          replace hA280 := (hu324 _ (by decide)).trans hA280
          replace hF := q_us hF hu324 (by simp)
          refine lv_aload_n hx hb d_15_13_116 rfl (lv_at hl 1 rfl) ?_
          refine lv_iload hx hb d_15_13_117 (lv_at hl 4 rfl) ?_
          have ob325 : True ∧ S_DR_store x4 y268 y269 y270 x2 y272 y273 y274 y275 y276 y277 y278 t1_0 t2_0 t3_0 t4_0 f279 := (by rw [e315, e314, e313, e312, e311, e310, e309, e308, e306, e305, e304]; have h := hS317; rw [S_DR_bring_c104_5.eq_1] at h; have c321x := c321; rw [e303] at c321x; rw [if_neg c321x] at h; with_reducible exact h.2.1)
          refine q_gov V (q_runV (As := [.int x4]) (rest := []) (d := 2) (mc := 0) (ms := 0) (ci := 14) C0 V rfl LV_DR_89 (X_DR_store l D g q w323  x4 hI y268 y269 y270 x2 y272 y273 y274 y275 y276 y277 y278 hO267 t1_0 hT1 t2_0 hT2 t3_0 hT3 t4_0 hT4 f279 hA280 ob325 _) rfl rfl hO267 rfl hl.1 rfl (Nat.le_of_ble_eq_true rfl) ⟨by decide, by decide⟩ ⟨Nat.le_of_ble_eq_true rfl, Nat.le_of_ble_eq_true rfl⟩ d_15_13_119) (fun u326 H locs hp327 V => ?_)
          obtain ⟨hI, hZ9⟩ := hp327
          obtain ⟨hu373, hZ9⟩ := hZ9
          obtain ⟨y329, hZ9⟩ := hZ9
          obtain ⟨y330, hZ9⟩ := hZ9
          obtain ⟨y331, hZ9⟩ := hZ9
          obtain ⟨y332, hZ9⟩ := hZ9
          obtain ⟨y333, hZ9⟩ := hZ9
          obtain ⟨y334, hZ9⟩ := hZ9
          obtain ⟨y335, hZ9⟩ := hZ9
          obtain ⟨y336, hZ9⟩ := hZ9
          obtain ⟨y337, hZ9⟩ := hZ9
          obtain ⟨y338, hZ9⟩ := hZ9
          obtain ⟨y339, hZ9⟩ := hZ9
          obtain ⟨f340, hZ9⟩ := hZ9
          obtain ⟨f342, hZ9⟩ := hZ9
          obtain ⟨f344, hZ9⟩ := hZ9
          obtain ⟨f346, hZ9⟩ := hZ9
          obtain ⟨f348, hZ9⟩ := hZ9
          obtain ⟨hO328, hZ9⟩ := hZ9
          obtain ⟨hA341, hZ9⟩ := hZ9
          obtain ⟨hA343, hZ9⟩ := hZ9
          obtain ⟨hA345, hZ9⟩ := hZ9
          obtain ⟨hA347, hZ9⟩ := hZ9
          obtain ⟨hA349, hZ9⟩ := hZ9
          obtain ⟨b350, hZ9⟩ := hZ9
          obtain ⟨b351, hZ9⟩ := hZ9
          obtain ⟨b352, hZ9⟩ := hZ9
          replace hZ9 := hZ9.2.2.2.2
          obtain ⟨b357, hZ9⟩ := hZ9
          obtain ⟨b358, hZ9⟩ := hZ9
          replace hZ9 := hZ9.2
          obtain ⟨b360, hZ9⟩ := hZ9
          obtain ⟨b361, hZ9⟩ := hZ9
          obtain ⟨b362, hZ9⟩ := hZ9
          obtain ⟨b363, hZ9⟩ := hZ9
          obtain ⟨b364, hZ9⟩ := hZ9
          obtain ⟨b365, hZ9⟩ := hZ9
          obtain ⟨b366, hZ9⟩ := hZ9
          replace hZ9 := hZ9.2
          obtain ⟨b368, hZ9⟩ := hZ9
          obtain ⟨b369, hZ9⟩ := hZ9
          obtain ⟨b370, hZ9⟩ := hZ9
          obtain ⟨b371, hE372⟩ := hZ9
          replace hO328 : u326[134]? = (some (q 134, .inr (14, [.int y329, .ref (q 135), .int y330, .ref (q 136), .ref (q 137), .ref (q 138), .ref (q 139), .ref (q 140), .int y331, .long y332, .int y333, .int y334, .ref (q 141), .int y335, .ref (q 142), .int y336, .ref (q 143), .int y337, .ref (q 144), .int y338, .int y339])) : Option (Nat × va_E)) := hO328
          replace hA341 : u326[136]? = (some (q 136, .inl (g 0, (10000 : Int32).toNatClampNeg, .inl f340)) : Option (Nat × va_E)) := hA341
          replace hA343 : u326[137]? = (some (q 137, .inl (g 0, (10 : Int32).toNatClampNeg, .inl f342)) : Option (Nat × va_E)) := hA343
          replace hA345 : u326[138]? = (some (q 138, .inl (g 3, 10, .inl f344)) : Option (Nat × va_E)) := hA345
          replace hA347 : u326[139]? = (some (q 139, .inl (g 0, (10 : Int32).toNatClampNeg, .inl f346)) : Option (Nat × va_E)) := hA347
          replace hA349 : u326[140]? = (some (q 140, .inl (g 0, (4400 : Int32).toNatClampNeg, .inl f348)) : Option (Nat × va_E)) := hA349
          obtain ⟨p374, e375⟩ : ∃ z, z = (F_DR_store x4 y268 y269 y270 x2 y272 y273 y274 y275 y276 y277 y278 t1_0 t2_0 t3_0 t4_0 f279) := ⟨_, rfl⟩
          have e376 : y329 = p374.1 := congrArg (fun z => z.1) (hE372.trans e375.symm)
          have e377 : y330 = p374.2.1 := congrArg (fun z => z.2.1) (hE372.trans e375.symm)
          have e378 : y331 = p374.2.2.1 := congrArg (fun z => z.2.2.1) (hE372.trans e375.symm)
          have e379 : y332 = p374.2.2.2.1 := congrArg (fun z => z.2.2.2.1) (hE372.trans e375.symm)
          have e380 : y333 = p374.2.2.2.2.1 := congrArg (fun z => z.2.2.2.2.1) (hE372.trans e375.symm)
          have e381 : y334 = p374.2.2.2.2.2.1 := congrArg (fun z => z.2.2.2.2.2.1) (hE372.trans e375.symm)
          have e382 : y335 = p374.2.2.2.2.2.2.1 := congrArg (fun z => z.2.2.2.2.2.2.1) (hE372.trans e375.symm)
          have e383 : y336 = p374.2.2.2.2.2.2.2.1 := congrArg (fun z => z.2.2.2.2.2.2.2.1) (hE372.trans e375.symm)
          have e384 : y337 = p374.2.2.2.2.2.2.2.2.1 := congrArg (fun z => z.2.2.2.2.2.2.2.2.1) (hE372.trans e375.symm)
          have e385 : y338 = p374.2.2.2.2.2.2.2.2.2.1 := congrArg (fun z => z.2.2.2.2.2.2.2.2.2.1) (hE372.trans e375.symm)
          have e386 : y339 = p374.2.2.2.2.2.2.2.2.2.2.1 := congrArg (fun z => z.2.2.2.2.2.2.2.2.2.2.1) (hE372.trans e375.symm)
          have e387 : f340 = p374.2.2.2.2.2.2.2.2.2.2.2.1 := congrArg (fun z => z.2.2.2.2.2.2.2.2.2.2.2.1) (hE372.trans e375.symm)
          have e388 : f342 = p374.2.2.2.2.2.2.2.2.2.2.2.2.1 := congrArg (fun z => z.2.2.2.2.2.2.2.2.2.2.2.2.1) (hE372.trans e375.symm)
          have e389 : f344 = p374.2.2.2.2.2.2.2.2.2.2.2.2.2.1 := congrArg (fun z => z.2.2.2.2.2.2.2.2.2.2.2.2.2.1) (hE372.trans e375.symm)
          have e390 : f346 = p374.2.2.2.2.2.2.2.2.2.2.2.2.2.2.1 := congrArg (fun z => z.2.2.2.2.2.2.2.2.2.2.2.2.2.2.1) (hE372.trans e375.symm)
          have e391 : f348 = p374.2.2.2.2.2.2.2.2.2.2.2.2.2.2.2 := congrArg (fun z => z.2.2.2.2.2.2.2.2.2.2.2.2.2.2.2) (hE372.trans e375.symm)
          replace b350 : q_F (0 ≤ y334.toInt) := b350
          replace b351 : q_F (y269.toInt ≤ y330.toInt) := b351
          replace b352 : q_F (y330.toInt ≤ y269.toInt) := b352
          replace b357 : q_F (y272.toInt ≤ y333.toInt) := b357
          replace b358 : q_F (y333.toInt ≤ y272.toInt) := b358
          replace b360 : q_F (y334.toInt ≤ y273.toInt) := b360
          replace b361 : q_F (y274.toInt ≤ y335.toInt) := b361
          replace b362 : q_F (y335.toInt ≤ y274.toInt) := b362
          replace b363 : q_F (y275.toInt ≤ y336.toInt) := b363
          replace b364 : q_F (y336.toInt ≤ y275.toInt) := b364
          replace b365 : q_F (y276.toInt ≤ y337.toInt) := b365
          replace b366 : q_F (y337.toInt ≤ y276.toInt) := b366
          replace b368 : q_F (y277.toInt ≤ y338.toInt) := b368
          replace b369 : q_F (y338.toInt ≤ y277.toInt) := b369
          replace b370 : q_F (y278.toInt ≤ y339.toInt) := b370
          replace b371 : q_F (y339.toInt ≤ y278.toInt) := b371
          replace hF := q_uc hF hu373 (by simp)
          have hR392 := (show F_DR_bring_c119_6 x2 x3 x4 t0_0 t0_1 t0_2 t0_3 t0_4 t0_5 t0_6 t0_7 t0_8 t0_9 t0_10 t1_0 t2_0 t3_0 t4_0 t5_0 p75 y36 y37 y38 y39 y40 y41 y42 y43 y44 y45 y46 f47 j118 p301 p374 = (F_DR_bring x2 x3 x4 t0_0 t0_1 t0_2 t0_3 t0_4 t0_5 t0_6 t0_7 t0_8 t0_9 t0_10 t1_0 t2_0 t3_0 t4_0 t5_0) from Eq.trans (by have c321x := c321; rw [e303] at c321x; rw [e375, e315, e314, e313, e312, e311, e310, e309, e308, e306, e305, e304, F_DR_bring_c104_5.eq_1, if_neg c321x]) hR316)
          have hS393 := (show True ∧ S_DR_bring_c119_6 x2 x3 x4 t0_0 t0_1 t0_2 t0_3 t0_4 t0_5 t0_6 t0_7 t0_8 t0_9 t0_10 t1_0 t2_0 t3_0 t4_0 t5_0 p75 y36 y37 y38 y39 y40 y41 y42 y43 y44 y45 y46 f47 j118 p301 p374 from (by rw [e375, e315, e314, e313, e312, e311, e310, e309, e308, e306, e305, e304]; have h := hS317; rw [S_DR_bring_c104_5.eq_1] at h; have c321x := c321; rw [e303] at c321x; rw [if_neg c321x] at h; replace h := q_s2 h; with_reducible exact h))
          exact q_retv C0 V (⟨hI, hF, y329, y330, y331, y332, y333, y334, y335, y336, y337, y338, y339, f340, f342, f344, f346, f348, hO328, hA341, hA343, hA345, hA347, hA349, (show 0 ≤ y334.toInt from (by first | with_reducible exact q_fe b350 | (have t1 : 0 ≤ y334.toInt := b350; omega))), (show t0_1.toInt ≤ y330.toInt from (by have t1 : t0_1.toInt ≤ y37.toInt := b52; have t2 : y37.toInt ≤ y269.toInt := b284; have t3 : y269.toInt ≤ y330.toInt := b351; omega)), (show y330.toInt ≤ t0_1.toInt from (by have t1 : y37.toInt ≤ t0_1.toInt := b53; have t2 : y269.toInt ≤ y37.toInt := b285; have t3 : y330.toInt ≤ y269.toInt := b352; omega)), (show t0_2.toInt ≤ y330.toInt + 24400 from (by have t1 : t0_2.toInt ≤ y37.toInt + 24400 := b54; have t2 : y37.toInt ≤ y269.toInt := b284; have t3 : y269.toInt ≤ y330.toInt := b351; omega)), (show t0_2.toInt ≤ y333.toInt + 24401 from (by have t1 : 0 ≤ t0_4.toInt ∧ t0_4.toInt ≤ 1 := btt0_4; have t2 : t0_2.toInt ≤ y40.toInt + 24400 := b57; have t3 : y40.toInt ≤ t0_4.toInt := b59; have t4 : 0 ≤ y272.toInt := b283; have t5 : y272.toInt ≤ y333.toInt := b357; omega)), (show t0_4.toInt ≤ y333.toInt + 1 from (by have t1 : 0 ≤ t0_4.toInt ∧ t0_4.toInt ≤ 1 := btt0_4; have t2 : 0 ≤ y272.toInt := b283; have t3 : y272.toInt ≤ y333.toInt := b357; omega)), (show y333.toInt ≤ t0_4.toInt from (by have t1 : y40.toInt ≤ t0_4.toInt := b59; have t2 : y272.toInt ≤ y40.toInt := b286; have t3 : y333.toInt ≤ y272.toInt := b358; omega)), (show t0_2.toInt ≤ y334.toInt + 24401 from (by have t1 : 0 ≤ t0_4.toInt ∧ t0_4.toInt ≤ 1 := btt0_4; have t2 : t0_2.toInt ≤ y40.toInt + 24400 := b57; have t3 : y40.toInt ≤ t0_4.toInt := b59; have t4 : 0 ≤ y334.toInt := b350; omega)), (show y334.toInt ≤ t0_5.toInt from (by have t1 : y41.toInt ≤ t0_5.toInt := b61; have t2 : y273.toInt ≤ y41.toInt := b288; have t3 : y334.toInt ≤ y273.toInt := b360; omega)), (show t0_6.toInt ≤ y335.toInt from (by have t1 : t0_6.toInt ≤ y42.toInt := b62; have t2 : y42.toInt ≤ y274.toInt := b289; have t3 : y274.toInt ≤ y335.toInt := b361; omega)), (show y335.toInt ≤ t0_6.toInt from (by have t1 : y42.toInt ≤ t0_6.toInt := b63; have t2 : y274.toInt ≤ y42.toInt := b290; have t3 : y335.toInt ≤ y274.toInt := b362; omega)), (show t0_7.toInt ≤ y336.toInt from (by have t1 : t0_7.toInt ≤ y43.toInt := b64; have t2 : y43.toInt ≤ y275.toInt := b291; have t3 : y275.toInt ≤ y336.toInt := b363; omega)), (show y336.toInt ≤ t0_7.toInt from (by have t1 : y43.toInt ≤ t0_7.toInt := b65; have t2 : y275.toInt ≤ y43.toInt := b292; have t3 : y336.toInt ≤ y275.toInt := b364; omega)), (show t0_8.toInt ≤ y337.toInt from (by have t1 : t0_8.toInt ≤ y44.toInt := b66; have t2 : y44.toInt ≤ y276.toInt := b293; have t3 : y276.toInt ≤ y337.toInt := b365; omega)), (show y337.toInt ≤ t0_8.toInt from (by have t1 : y44.toInt ≤ t0_8.toInt := b67; have t2 : y276.toInt ≤ y44.toInt := b294; have t3 : y337.toInt ≤ y276.toInt := b366; omega)), (show t0_2.toInt ≤ y338.toInt + 24400 from (by have t1 : t0_2.toInt ≤ y45.toInt + 24400 := b68; have t2 : y45.toInt ≤ y277.toInt := b295; have t3 : y277.toInt ≤ y338.toInt := b368; omega)), (show t0_9.toInt ≤ y338.toInt from (by have t1 : t0_9.toInt ≤ y45.toInt := b69; have t2 : y45.toInt ≤ y277.toInt := b295; have t3 : y277.toInt ≤ y338.toInt := b368; omega)), (show y338.toInt ≤ t0_9.toInt from (by have t1 : y45.toInt ≤ t0_9.toInt := b70; have t2 : y277.toInt ≤ y45.toInt := b296; have t3 : y338.toInt ≤ y277.toInt := b369; omega)), (show t0_10.toInt ≤ y339.toInt from (by have t1 : t0_10.toInt ≤ y46.toInt := b71; have t2 : y46.toInt ≤ y278.toInt := b297; have t3 : y278.toInt ≤ y339.toInt := b370; omega)), (show y339.toInt ≤ t0_10.toInt from (by have t1 : y46.toInt ≤ t0_10.toInt := b72; have t2 : y278.toInt ≤ y46.toInt := b298; have t3 : y339.toInt ≤ y278.toInt := b371; omega)), (show (y329, y330, y331, y332, y333, y334, y335, y336, y337, y338, y339, f340, f342, f344, f346, f348) = (F_DR_bring x2 x3 x4 t0_0 t0_1 t0_2 t0_3 t0_4 t0_5 t0_6 t0_7 t0_8 t0_9 t0_10 t1_0 t2_0 t3_0 t4_0 t5_0) from Eq.trans (by rw [e391, e390, e389, e388, e387, e386, e385, e384, e383, e382, e381, e380, e379, e378, e377, e376, F_DR_bring_c119_6.eq_1]) hR392)⟩) d_15_13_122
        ·
          exact q_retv C0 V (⟨hI, hF, y268, y269, y270, y271, y272, y273, y274, y275, y276, y277, y278, t1_0, t2_0, t3_0, t4_0, f279, hO267, hT1, hT2, hT3, hT4, hA280, (show 0 ≤ y273.toInt from (by have t1 : 0 ≤ y41.toInt := b49; have t2 : y41.toInt ≤ y273.toInt := b287; omega)), (show t0_1.toInt ≤ y269.toInt from (by have t1 : t0_1.toInt ≤ y37.toInt := b52; have t2 : y37.toInt ≤ y269.toInt := b284; omega)), (show y269.toInt ≤ t0_1.toInt from (by have t1 : y37.toInt ≤ t0_1.toInt := b53; have t2 : y269.toInt ≤ y37.toInt := b285; omega)), (show t0_2.toInt ≤ y269.toInt + 24400 from (by have t1 : t0_2.toInt ≤ y37.toInt + 24400 := b54; have t2 : y37.toInt ≤ y269.toInt := b284; omega)), (show t0_2.toInt ≤ y272.toInt + 24401 from (by have t1 : 0 ≤ t0_4.toInt ∧ t0_4.toInt ≤ 1 := btt0_4; have t2 : t0_2.toInt ≤ y40.toInt + 24400 := b57; have t3 : y40.toInt ≤ t0_4.toInt := b59; have t4 : 0 ≤ y272.toInt := b283; omega)), (show t0_4.toInt ≤ y272.toInt + 1 from (by have t1 : 0 ≤ t0_4.toInt ∧ t0_4.toInt ≤ 1 := btt0_4; have t2 : 0 ≤ y272.toInt := b283; omega)), (show y272.toInt ≤ t0_4.toInt from (by have t1 : y40.toInt ≤ t0_4.toInt := b59; have t2 : y272.toInt ≤ y40.toInt := b286; omega)), (show t0_2.toInt ≤ y273.toInt + 24401 from (by have t1 : t0_2.toInt ≤ y41.toInt + 24400 := b60; have t2 : y41.toInt ≤ y273.toInt := b287; omega)), (show y273.toInt ≤ t0_5.toInt from (by have t1 : y41.toInt ≤ t0_5.toInt := b61; have t2 : y273.toInt ≤ y41.toInt := b288; omega)), (show t0_6.toInt ≤ y274.toInt from (by have t1 : t0_6.toInt ≤ y42.toInt := b62; have t2 : y42.toInt ≤ y274.toInt := b289; omega)), (show y274.toInt ≤ t0_6.toInt from (by have t1 : y42.toInt ≤ t0_6.toInt := b63; have t2 : y274.toInt ≤ y42.toInt := b290; omega)), (show t0_7.toInt ≤ y275.toInt from (by have t1 : t0_7.toInt ≤ y43.toInt := b64; have t2 : y43.toInt ≤ y275.toInt := b291; omega)), (show y275.toInt ≤ t0_7.toInt from (by have t1 : y43.toInt ≤ t0_7.toInt := b65; have t2 : y275.toInt ≤ y43.toInt := b292; omega)), (show t0_8.toInt ≤ y276.toInt from (by have t1 : t0_8.toInt ≤ y44.toInt := b66; have t2 : y44.toInt ≤ y276.toInt := b293; omega)), (show y276.toInt ≤ t0_8.toInt from (by have t1 : y44.toInt ≤ t0_8.toInt := b67; have t2 : y276.toInt ≤ y44.toInt := b294; omega)), (show t0_2.toInt ≤ y277.toInt + 24400 from (by have t1 : t0_2.toInt ≤ y45.toInt + 24400 := b68; have t2 : y45.toInt ≤ y277.toInt := b295; omega)), (show t0_9.toInt ≤ y277.toInt from (by have t1 : t0_9.toInt ≤ y45.toInt := b69; have t2 : y45.toInt ≤ y277.toInt := b295; omega)), (show y277.toInt ≤ t0_9.toInt from (by have t1 : y45.toInt ≤ t0_9.toInt := b70; have t2 : y277.toInt ≤ y45.toInt := b296; omega)), (show t0_10.toInt ≤ y278.toInt from (by have t1 : t0_10.toInt ≤ y46.toInt := b71; have t2 : y46.toInt ≤ y278.toInt := b297; omega)), (show y278.toInt ≤ t0_10.toInt from (by have t1 : y46.toInt ≤ t0_10.toInt := b72; have t2 : y278.toInt ≤ y46.toInt := b298; omega)), (show (y268, y269, y270, y271, y272, y273, y274, y275, y276, y277, y278, t1_0, t2_0, t3_0, t4_0, f279) = (F_DR_bring x2 x3 x4 t0_0 t0_1 t0_2 t0_3 t0_4 t0_5 t0_6 t0_7 t0_8 t0_9 t0_10 t1_0 t2_0 t3_0 t4_0 t5_0) from Eq.trans (by have c321x := c321; rw [e303] at c321x; rw [e315, e314, e313, e312, e311, e310, e309, e308, e307, e306, e305, e304, F_DR_bring_c104_5.eq_1, if_pos c321x]) hR316)⟩) d_15_13_110
    ·
      refine lv_lload_n hx hb d_15_13_37 rfl (lv_at hl 1 rfl) ?_
      refine lv_aload_n hx hb d_15_13_38 rfl (lv_at hl 0 rfl) ?_
      refine q_get (ci := 14) (j := 9) (v := .long y39) C0 V i_DR rfl rfl hO35 (by decide) w_2012 rfl d_15_13_39 ?_
      refine lv_lsub hx hb d_15_13_42 ?_
      obtain ⟨j399, e400⟩ := q_nm (x2 - y39 : Int64)
      refine q_tl (v := j399) e400 ?_
      refine q_ldc2 C0 rfl w_2802 d_15_13_43 ?_
      refine W.lcmp hx hb d_15_13_46 ?_
      obtain ⟨a401, e402⟩ := q_nm (lg_cmp j399 1000 : Int32)
      refine q_ti (v := a401) e402 ?_
      refine lv_if_le (tgt := 59) hx hb d_15_13_47 (by decide) (fun c404 => ?_) (fun c404 => ?_)
      ·
        refine lv_aload_n hx hb d_15_13_59 rfl (lv_at hl 0 rfl) ?_
        refine lv_lload_n hx hb d_15_13_60 rfl (lv_at hl 1 rfl) ?_
        refine lv_aload_n hx hb d_15_13_61 rfl (lv_at hl 0 rfl) ?_
        refine q_get (ci := 14) (j := 9) (v := .long y39) C0 V i_DR rfl rfl hO35 (by decide) w_2012 rfl d_15_13_62 ?_
        refine lv_lsub hx hb d_15_13_65 ?_
        obtain ⟨j406, e407⟩ := q_nm (x2 - y39 : Int64)
        refine q_tl (v := j406) e407 ?_
        have ob408 : True ∧ S_DR_lengthen j406 y36 y37 y38 y39 y40 y41 y42 y43 y44 y45 y46 f47 := (by rw [← e407]; have h := hS104; rw [S_DR_bring_J28.eq_1] at h; have c111x := c111; rw [← e109] at c111x; rw [if_neg c111x] at h; have c404x := c404; rw [← e402, ← e400] at c404x; rw [if_pos c404x] at h; with_reducible exact h.2.1)
        refine q_gov V (q_runV (As := [.long j406]) (rest := []) (d := 1) (mc := 0) (ms := 0) (ci := 14) C0 V rfl LV_DR_79 (X_DR_lengthen l D g q u33  j406 hI y36 y37 y38 y39 y40 y41 y42 y43 y44 y45 y46 hO35 f47 hA48 ob408 _) rfl rfl hO35 rfl hl.1 rfl (Nat.le_of_ble_eq_true rfl) ⟨by decide, by decide⟩ ⟨Nat.le_of_ble_eq_true rfl, Nat.le_of_ble_eq_true rfl⟩ d_15_13_66) (fun u409 H locs hp410 V => ?_)
        obtain ⟨hI, hZ9⟩ := hp410
        obtain ⟨hu445, hZ9⟩ := hZ9
        obtain ⟨y412, hZ9⟩ := hZ9
        obtain ⟨y413, hZ9⟩ := hZ9
        obtain ⟨y414, hZ9⟩ := hZ9
        obtain ⟨y415, hZ9⟩ := hZ9
        obtain ⟨y416, hZ9⟩ := hZ9
        obtain ⟨y417, hZ9⟩ := hZ9
        obtain ⟨y418, hZ9⟩ := hZ9
        obtain ⟨y419, hZ9⟩ := hZ9
        obtain ⟨y420, hZ9⟩ := hZ9
        obtain ⟨y421, hZ9⟩ := hZ9
        obtain ⟨y422, hZ9⟩ := hZ9
        obtain ⟨f423, hZ9⟩ := hZ9
        obtain ⟨hO411, hZ9⟩ := hZ9
        obtain ⟨hA424, hZ9⟩ := hZ9
        replace hZ9 := hZ9.2.2
        obtain ⟨b427, hZ9⟩ := hZ9
        obtain ⟨b428, hZ9⟩ := hZ9
        replace hZ9 := hZ9.2
        obtain ⟨b430, hZ9⟩ := hZ9
        obtain ⟨b431, hZ9⟩ := hZ9
        replace hZ9 := hZ9.2
        obtain ⟨b433, hZ9⟩ := hZ9
        obtain ⟨b434, hZ9⟩ := hZ9
        obtain ⟨b435, hZ9⟩ := hZ9
        obtain ⟨b436, hZ9⟩ := hZ9
        obtain ⟨b437, hZ9⟩ := hZ9
        obtain ⟨b438, hZ9⟩ := hZ9
        obtain ⟨b439, hZ9⟩ := hZ9
        obtain ⟨b440, hZ9⟩ := hZ9
        obtain ⟨b441, hZ9⟩ := hZ9
        obtain ⟨b442, hZ9⟩ := hZ9
        obtain ⟨b443, hE444⟩ := hZ9
        replace hO411 : u409[134]? = (some (q 134, .inr (14, [.int y412, .ref (q 135), .int y413, .ref (q 136), .ref (q 137), .ref (q 138), .ref (q 139), .ref (q 140), .int y414, .long y415, .int y416, .int y417, .ref (q 141), .int y418, .ref (q 142), .int y419, .ref (q 143), .int y420, .ref (q 144), .int y421, .int y422])) : Option (Nat × va_E)) := hO411
        replace hA424 : u409[140]? = (some (q 140, .inl (g 0, (4400 : Int32).toNatClampNeg, .inl f423)) : Option (Nat × va_E)) := hA424
        obtain ⟨p446, e447⟩ : ∃ z, z = (F_DR_lengthen j406 y36 y37 y38 y39 y40 y41 y42 y43 y44 y45 y46 f47) := ⟨_, rfl⟩
        have e448 : y412 = p446.1 := congrArg (fun z => z.1) (hE444.trans e447.symm)
        have e449 : y413 = p446.2.1 := congrArg (fun z => z.2.1) (hE444.trans e447.symm)
        have e450 : y414 = p446.2.2.1 := congrArg (fun z => z.2.2.1) (hE444.trans e447.symm)
        have e451 : y415 = p446.2.2.2.1 := congrArg (fun z => z.2.2.2.1) (hE444.trans e447.symm)
        have e452 : y416 = p446.2.2.2.2.1 := congrArg (fun z => z.2.2.2.2.1) (hE444.trans e447.symm)
        have e453 : y417 = p446.2.2.2.2.2.1 := congrArg (fun z => z.2.2.2.2.2.1) (hE444.trans e447.symm)
        have e454 : y418 = p446.2.2.2.2.2.2.1 := congrArg (fun z => z.2.2.2.2.2.2.1) (hE444.trans e447.symm)
        have e455 : y419 = p446.2.2.2.2.2.2.2.1 := congrArg (fun z => z.2.2.2.2.2.2.2.1) (hE444.trans e447.symm)
        have e456 : y420 = p446.2.2.2.2.2.2.2.2.1 := congrArg (fun z => z.2.2.2.2.2.2.2.2.1) (hE444.trans e447.symm)
        have e457 : y421 = p446.2.2.2.2.2.2.2.2.2.1 := congrArg (fun z => z.2.2.2.2.2.2.2.2.2.1) (hE444.trans e447.symm)
        have e458 : y422 = p446.2.2.2.2.2.2.2.2.2.2.1 := congrArg (fun z => z.2.2.2.2.2.2.2.2.2.2.1) (hE444.trans e447.symm)
        have e459 : f423 = p446.2.2.2.2.2.2.2.2.2.2.2 := congrArg (fun z => z.2.2.2.2.2.2.2.2.2.2.2) (hE444.trans e447.symm)
        replace b427 : q_F (y37.toInt ≤ y413.toInt) := b427
        replace b428 : q_F (y413.toInt ≤ y37.toInt) := b428
        replace b430 : q_F (y40.toInt ≤ y416.toInt) := b430
        replace b431 : q_F (y416.toInt ≤ y40.toInt) := b431
        replace b433 : q_F (y417.toInt ≤ y41.toInt) := b433
        replace b434 : q_F (y42.toInt ≤ y418.toInt) := b434
        replace b435 : q_F (y418.toInt ≤ y42.toInt) := b435
        replace b436 : q_F (y43.toInt ≤ y419.toInt) := b436
        replace b437 : q_F (y419.toInt ≤ y43.toInt) := b437
        replace b438 : q_F (y44.toInt ≤ y420.toInt) := b438
        replace b439 : q_F (y420.toInt ≤ y44.toInt) := b439
        replace b440 : q_F (y45.toInt ≤ y421.toInt) := b440
        replace b441 : q_F (y421.toInt ≤ y45.toInt) := b441
        replace b442 : q_F (y46.toInt ≤ y422.toInt) := b442
        replace b443 : q_F (y422.toInt ≤ y46.toInt) := b443
        replace hT1 := (hu445 _ (by decide)).trans hT1
        replace hT2 := (hu445 _ (by decide)).trans hT2
        replace hT3 := (hu445 _ (by decide)).trans hT3
        replace hT4 := (hu445 _ (by decide)).trans hT4
        replace hF := q_uc hF hu445 (by simp)
        have hR460 := (show F_DR_bring_c66 x2 x3 x4 t0_0 t0_1 t0_2 t0_3 t0_4 t0_5 t0_6 t0_7 t0_8 t0_9 t0_10 t1_0 t2_0 t3_0 t4_0 t5_0 p75 y36 y37 y38 y39 y40 y41 y42 y43 y44 y45 y46 f47 p446 = (F_DR_bring x2 x3 x4 t0_0 t0_1 t0_2 t0_3 t0_4 t0_5 t0_6 t0_7 t0_8 t0_9 t0_10 t1_0 t2_0 t3_0 t4_0 t5_0) from Eq.trans (by have c111x := c111; rw [← e109] at c111x; have c404x := c404; rw [← e402, ← e400] at c404x; rw [e447, ← e407, F_DR_bring_J28.eq_1, if_neg c111x, if_pos c404x]) hR103)
        have hS461 := (show True ∧ S_DR_bring_c66 x2 x3 x4 t0_0 t0_1 t0_2 t0_3 t0_4 t0_5 t0_6 t0_7 t0_8 t0_9 t0_10 t1_0 t2_0 t3_0 t4_0 t5_0 p75 y36 y37 y38 y39 y40 y41 y42 y43 y44 y45 y46 f47 p446 from (by rw [e447, ← e407]; have h := hS104; rw [S_DR_bring_J28.eq_1] at h; have c111x := c111; rw [← e109] at c111x; rw [if_neg c111x] at h; have c404x := c404; rw [← e402, ← e400] at c404x; rw [if_pos c404x] at h; replace h := q_s2 h; with_reducible exact h))
        refine lv_goto (tgt := 116) hx hb d_15_13_69 (by decide) ?_
        refine lv_aload_n hx hb d_15_13_116 rfl (lv_at hl 0 rfl) ?_
        refine lv_iload hx hb d_15_13_117 (lv_at hl 3 rfl) ?_
        have ob465 : True ∧ S_DR_store x4 y412 y413 y414 y415 y416 y417 y418 y419 y420 y421 y422 t1_0 t2_0 t3_0 t4_0 f423 := (by rw [e459, e458, e457, e456, e455, e454, e453, e452, e451, e450, e449, e448]; have h := hS461; rw [S_DR_bring_c66.eq_1] at h; with_reducible exact h.2.1)
        refine q_gov V (q_runV (As := [.int x4]) (rest := []) (d := 2) (mc := 0) (ms := 0) (ci := 14) C0 V rfl LV_DR_89 (X_DR_store l D g q u409  x4 hI y412 y413 y414 y415 y416 y417 y418 y419 y420 y421 y422 hO411 t1_0 hT1 t2_0 hT2 t3_0 hT3 t4_0 hT4 f423 hA424 ob465 _) rfl rfl hO411 rfl hl.1 rfl (Nat.le_of_ble_eq_true rfl) ⟨by decide, by decide⟩ ⟨Nat.le_of_ble_eq_true rfl, Nat.le_of_ble_eq_true rfl⟩ d_15_13_119) (fun u466 H locs hp467 V => ?_)
        obtain ⟨hI, hZ9⟩ := hp467
        obtain ⟨hu513, hZ9⟩ := hZ9
        obtain ⟨y469, hZ9⟩ := hZ9
        obtain ⟨y470, hZ9⟩ := hZ9
        obtain ⟨y471, hZ9⟩ := hZ9
        obtain ⟨y472, hZ9⟩ := hZ9
        obtain ⟨y473, hZ9⟩ := hZ9
        obtain ⟨y474, hZ9⟩ := hZ9
        obtain ⟨y475, hZ9⟩ := hZ9
        obtain ⟨y476, hZ9⟩ := hZ9
        obtain ⟨y477, hZ9⟩ := hZ9
        obtain ⟨y478, hZ9⟩ := hZ9
        obtain ⟨y479, hZ9⟩ := hZ9
        obtain ⟨f480, hZ9⟩ := hZ9
        obtain ⟨f482, hZ9⟩ := hZ9
        obtain ⟨f484, hZ9⟩ := hZ9
        obtain ⟨f486, hZ9⟩ := hZ9
        obtain ⟨f488, hZ9⟩ := hZ9
        obtain ⟨hO468, hZ9⟩ := hZ9
        obtain ⟨hA481, hZ9⟩ := hZ9
        obtain ⟨hA483, hZ9⟩ := hZ9
        obtain ⟨hA485, hZ9⟩ := hZ9
        obtain ⟨hA487, hZ9⟩ := hZ9
        obtain ⟨hA489, hZ9⟩ := hZ9
        obtain ⟨b490, hZ9⟩ := hZ9
        obtain ⟨b491, hZ9⟩ := hZ9
        obtain ⟨b492, hZ9⟩ := hZ9
        replace hZ9 := hZ9.2.2.2.2
        obtain ⟨b497, hZ9⟩ := hZ9
        obtain ⟨b498, hZ9⟩ := hZ9
        replace hZ9 := hZ9.2
        obtain ⟨b500, hZ9⟩ := hZ9
        obtain ⟨b501, hZ9⟩ := hZ9
        obtain ⟨b502, hZ9⟩ := hZ9
        obtain ⟨b503, hZ9⟩ := hZ9
        obtain ⟨b504, hZ9⟩ := hZ9
        obtain ⟨b505, hZ9⟩ := hZ9
        obtain ⟨b506, hZ9⟩ := hZ9
        replace hZ9 := hZ9.2
        obtain ⟨b508, hZ9⟩ := hZ9
        obtain ⟨b509, hZ9⟩ := hZ9
        obtain ⟨b510, hZ9⟩ := hZ9
        obtain ⟨b511, hE512⟩ := hZ9
        replace hO468 : u466[134]? = (some (q 134, .inr (14, [.int y469, .ref (q 135), .int y470, .ref (q 136), .ref (q 137), .ref (q 138), .ref (q 139), .ref (q 140), .int y471, .long y472, .int y473, .int y474, .ref (q 141), .int y475, .ref (q 142), .int y476, .ref (q 143), .int y477, .ref (q 144), .int y478, .int y479])) : Option (Nat × va_E)) := hO468
        replace hA481 : u466[136]? = (some (q 136, .inl (g 0, (10000 : Int32).toNatClampNeg, .inl f480)) : Option (Nat × va_E)) := hA481
        replace hA483 : u466[137]? = (some (q 137, .inl (g 0, (10 : Int32).toNatClampNeg, .inl f482)) : Option (Nat × va_E)) := hA483
        replace hA485 : u466[138]? = (some (q 138, .inl (g 3, 10, .inl f484)) : Option (Nat × va_E)) := hA485
        replace hA487 : u466[139]? = (some (q 139, .inl (g 0, (10 : Int32).toNatClampNeg, .inl f486)) : Option (Nat × va_E)) := hA487
        replace hA489 : u466[140]? = (some (q 140, .inl (g 0, (4400 : Int32).toNatClampNeg, .inl f488)) : Option (Nat × va_E)) := hA489
        obtain ⟨p514, e515⟩ : ∃ z, z = (F_DR_store x4 y412 y413 y414 y415 y416 y417 y418 y419 y420 y421 y422 t1_0 t2_0 t3_0 t4_0 f423) := ⟨_, rfl⟩
        have e516 : y469 = p514.1 := congrArg (fun z => z.1) (hE512.trans e515.symm)
        have e517 : y470 = p514.2.1 := congrArg (fun z => z.2.1) (hE512.trans e515.symm)
        have e518 : y471 = p514.2.2.1 := congrArg (fun z => z.2.2.1) (hE512.trans e515.symm)
        have e519 : y472 = p514.2.2.2.1 := congrArg (fun z => z.2.2.2.1) (hE512.trans e515.symm)
        have e520 : y473 = p514.2.2.2.2.1 := congrArg (fun z => z.2.2.2.2.1) (hE512.trans e515.symm)
        have e521 : y474 = p514.2.2.2.2.2.1 := congrArg (fun z => z.2.2.2.2.2.1) (hE512.trans e515.symm)
        have e522 : y475 = p514.2.2.2.2.2.2.1 := congrArg (fun z => z.2.2.2.2.2.2.1) (hE512.trans e515.symm)
        have e523 : y476 = p514.2.2.2.2.2.2.2.1 := congrArg (fun z => z.2.2.2.2.2.2.2.1) (hE512.trans e515.symm)
        have e524 : y477 = p514.2.2.2.2.2.2.2.2.1 := congrArg (fun z => z.2.2.2.2.2.2.2.2.1) (hE512.trans e515.symm)
        have e525 : y478 = p514.2.2.2.2.2.2.2.2.2.1 := congrArg (fun z => z.2.2.2.2.2.2.2.2.2.1) (hE512.trans e515.symm)
        have e526 : y479 = p514.2.2.2.2.2.2.2.2.2.2.1 := congrArg (fun z => z.2.2.2.2.2.2.2.2.2.2.1) (hE512.trans e515.symm)
        have e527 : f480 = p514.2.2.2.2.2.2.2.2.2.2.2.1 := congrArg (fun z => z.2.2.2.2.2.2.2.2.2.2.2.1) (hE512.trans e515.symm)
        have e528 : f482 = p514.2.2.2.2.2.2.2.2.2.2.2.2.1 := congrArg (fun z => z.2.2.2.2.2.2.2.2.2.2.2.2.1) (hE512.trans e515.symm)
        have e529 : f484 = p514.2.2.2.2.2.2.2.2.2.2.2.2.2.1 := congrArg (fun z => z.2.2.2.2.2.2.2.2.2.2.2.2.2.1) (hE512.trans e515.symm)
        have e530 : f486 = p514.2.2.2.2.2.2.2.2.2.2.2.2.2.2.1 := congrArg (fun z => z.2.2.2.2.2.2.2.2.2.2.2.2.2.2.1) (hE512.trans e515.symm)
        have e531 : f488 = p514.2.2.2.2.2.2.2.2.2.2.2.2.2.2.2 := congrArg (fun z => z.2.2.2.2.2.2.2.2.2.2.2.2.2.2.2) (hE512.trans e515.symm)
        replace b490 : q_F (0 ≤ y474.toInt) := b490
        replace b491 : q_F (y413.toInt ≤ y470.toInt) := b491
        replace b492 : q_F (y470.toInt ≤ y413.toInt) := b492
        replace b497 : q_F (y416.toInt ≤ y473.toInt) := b497
        replace b498 : q_F (y473.toInt ≤ y416.toInt) := b498
        replace b500 : q_F (y474.toInt ≤ y417.toInt) := b500
        replace b501 : q_F (y418.toInt ≤ y475.toInt) := b501
        replace b502 : q_F (y475.toInt ≤ y418.toInt) := b502
        replace b503 : q_F (y419.toInt ≤ y476.toInt) := b503
        replace b504 : q_F (y476.toInt ≤ y419.toInt) := b504
        replace b505 : q_F (y420.toInt ≤ y477.toInt) := b505
        replace b506 : q_F (y477.toInt ≤ y420.toInt) := b506
        replace b508 : q_F (y421.toInt ≤ y478.toInt) := b508
        replace b509 : q_F (y478.toInt ≤ y421.toInt) := b509
        replace b510 : q_F (y422.toInt ≤ y479.toInt) := b510
        replace b511 : q_F (y479.toInt ≤ y422.toInt) := b511
        replace hF := q_uc hF hu513 (by simp)
        have hR532 := (show F_DR_bring_c119_8 x2 x3 x4 t0_0 t0_1 t0_2 t0_3 t0_4 t0_5 t0_6 t0_7 t0_8 t0_9 t0_10 t1_0 t2_0 t3_0 t4_0 t5_0 p75 y36 y37 y38 y39 y40 y41 y42 y43 y44 y45 y46 f47 p446 p514 = (F_DR_bring x2 x3 x4 t0_0 t0_1 t0_2 t0_3 t0_4 t0_5 t0_6 t0_7 t0_8 t0_9 t0_10 t1_0 t2_0 t3_0 t4_0 t5_0) from Eq.trans (by rw [e515, e459, e458, e457, e456, e455, e454, e453, e452, e451, e450, e449, e448, F_DR_bring_c66.eq_1]) hR460)
        have hS533 := (show True ∧ S_DR_bring_c119_8 x2 x3 x4 t0_0 t0_1 t0_2 t0_3 t0_4 t0_5 t0_6 t0_7 t0_8 t0_9 t0_10 t1_0 t2_0 t3_0 t4_0 t5_0 p75 y36 y37 y38 y39 y40 y41 y42 y43 y44 y45 y46 f47 p446 p514 from (by rw [e515, e459, e458, e457, e456, e455, e454, e453, e452, e451, e450, e449, e448]; have h := hS461; rw [S_DR_bring_c66.eq_1] at h; replace h := q_s2 h; with_reducible exact h))
        exact q_retv C0 V (⟨hI, hF, y469, y470, y471, y472, y473, y474, y475, y476, y477, y478, y479, f480, f482, f484, f486, f488, hO468, hA481, hA483, hA485, hA487, hA489, (show 0 ≤ y474.toInt from (by first | with_reducible exact q_fe b490 | (have t1 : 0 ≤ y474.toInt := b490; omega))), (show t0_1.toInt ≤ y470.toInt from (by have t1 : t0_1.toInt ≤ y37.toInt := b52; have t2 : y37.toInt ≤ y413.toInt := b427; have t3 : y413.toInt ≤ y470.toInt := b491; omega)), (show y470.toInt ≤ t0_1.toInt from (by have t1 : y37.toInt ≤ t0_1.toInt := b53; have t2 : y413.toInt ≤ y37.toInt := b428; have t3 : y470.toInt ≤ y413.toInt := b492; omega)), (show t0_2.toInt ≤ y470.toInt + 24400 from (by have t1 : t0_2.toInt ≤ y37.toInt + 24400 := b54; have t2 : y37.toInt ≤ y413.toInt := b427; have t3 : y413.toInt ≤ y470.toInt := b491; omega)), (show t0_2.toInt ≤ y473.toInt + 24401 from (by have t1 : t0_2.toInt ≤ y40.toInt + 24400 := b57; have t2 : y40.toInt ≤ y416.toInt := b430; have t3 : y416.toInt ≤ y473.toInt := b497; omega)), (show t0_4.toInt ≤ y473.toInt + 1 from (by have t1 : t0_4.toInt ≤ y40.toInt := b58; have t2 : y40.toInt ≤ y416.toInt := b430; have t3 : y416.toInt ≤ y473.toInt := b497; omega)), (show y473.toInt ≤ t0_4.toInt from (by have t1 : y40.toInt ≤ t0_4.toInt := b59; have t2 : y416.toInt ≤ y40.toInt := b431; have t3 : y473.toInt ≤ y416.toInt := b498; omega)), (show t0_2.toInt ≤ y474.toInt + 24401 from (by have t1 : 0 ≤ t0_4.toInt ∧ t0_4.toInt ≤ 1 := btt0_4; have t2 : t0_2.toInt ≤ y40.toInt + 24400 := b57; have t3 : y40.toInt ≤ t0_4.toInt := b59; have t4 : 0 ≤ y474.toInt := b490; omega)), (show y474.toInt ≤ t0_5.toInt from (by have t1 : y41.toInt ≤ t0_5.toInt := b61; have t2 : y417.toInt ≤ y41.toInt := b433; have t3 : y474.toInt ≤ y417.toInt := b500; omega)), (show t0_6.toInt ≤ y475.toInt from (by have t1 : t0_6.toInt ≤ y42.toInt := b62; have t2 : y42.toInt ≤ y418.toInt := b434; have t3 : y418.toInt ≤ y475.toInt := b501; omega)), (show y475.toInt ≤ t0_6.toInt from (by have t1 : y42.toInt ≤ t0_6.toInt := b63; have t2 : y418.toInt ≤ y42.toInt := b435; have t3 : y475.toInt ≤ y418.toInt := b502; omega)), (show t0_7.toInt ≤ y476.toInt from (by have t1 : t0_7.toInt ≤ y43.toInt := b64; have t2 : y43.toInt ≤ y419.toInt := b436; have t3 : y419.toInt ≤ y476.toInt := b503; omega)), (show y476.toInt ≤ t0_7.toInt from (by have t1 : y43.toInt ≤ t0_7.toInt := b65; have t2 : y419.toInt ≤ y43.toInt := b437; have t3 : y476.toInt ≤ y419.toInt := b504; omega)), (show t0_8.toInt ≤ y477.toInt from (by have t1 : t0_8.toInt ≤ y44.toInt := b66; have t2 : y44.toInt ≤ y420.toInt := b438; have t3 : y420.toInt ≤ y477.toInt := b505; omega)), (show y477.toInt ≤ t0_8.toInt from (by have t1 : y44.toInt ≤ t0_8.toInt := b67; have t2 : y420.toInt ≤ y44.toInt := b439; have t3 : y477.toInt ≤ y420.toInt := b506; omega)), (show t0_2.toInt ≤ y478.toInt + 24400 from (by have t1 : t0_2.toInt ≤ y45.toInt + 24400 := b68; have t2 : y45.toInt ≤ y421.toInt := b440; have t3 : y421.toInt ≤ y478.toInt := b508; omega)), (show t0_9.toInt ≤ y478.toInt from (by have t1 : t0_9.toInt ≤ y45.toInt := b69; have t2 : y45.toInt ≤ y421.toInt := b440; have t3 : y421.toInt ≤ y478.toInt := b508; omega)), (show y478.toInt ≤ t0_9.toInt from (by have t1 : y45.toInt ≤ t0_9.toInt := b70; have t2 : y421.toInt ≤ y45.toInt := b441; have t3 : y478.toInt ≤ y421.toInt := b509; omega)), (show t0_10.toInt ≤ y479.toInt from (by have t1 : t0_10.toInt ≤ y46.toInt := b71; have t2 : y46.toInt ≤ y422.toInt := b442; have t3 : y422.toInt ≤ y479.toInt := b510; omega)), (show y479.toInt ≤ t0_10.toInt from (by have t1 : y46.toInt ≤ t0_10.toInt := b72; have t2 : y422.toInt ≤ y46.toInt := b443; have t3 : y479.toInt ≤ y422.toInt := b511; omega)), (show (y469, y470, y471, y472, y473, y474, y475, y476, y477, y478, y479, f480, f482, f484, f486, f488) = (F_DR_bring x2 x3 x4 t0_0 t0_1 t0_2 t0_3 t0_4 t0_5 t0_6 t0_7 t0_8 t0_9 t0_10 t1_0 t2_0 t3_0 t4_0 t5_0) from Eq.trans (by rw [e531, e530, e529, e528, e527, e526, e525, e524, e523, e522, e521, e520, e519, e518, e517, e516, F_DR_bring_c119_8.eq_1]) hR532)⟩) d_15_13_122
      ·
        refine lv_aload_n hx hb d_15_13_50 rfl (lv_at hl 0 rfl) ?_
        refine lv_aload_n hx hb d_15_13_51 rfl (lv_at hl 0 rfl) ?_
        refine q_get (ci := 14) (j := 20) (v := .int y46) C0 V i_DR rfl rfl hO35 (by decide) w_2024 rfl d_15_13_52 ?_
        refine q_put (ci := 14) (j := 0) (v := .int y46) (ty := .int) C0 V i_DR o_DR n_DR rfl rfl hO35 (by decide) w_1996 rfl rfl rfl rfl (Nat.le_of_ble_eq_true rfl) d_15_13_55 (fun H locs w538 hu539 hO35 V => ?_)
        replace hO35 : w538[134]? = (some (q 134, .inr (14, [.int y46, .ref (q 135), .int y37, .ref (q 136), .ref (q 137), .ref (q 138), .ref (q 139), .ref (q 140), .int y38, .long y39, .int y40, .int y41, .ref (q 141), .int y42, .ref (q 142), .int y43, .ref (q 143), .int y44, .ref (q 144), .int y45, .int y46])) : Option (Nat × va_E)) := hO35
        replace hI := n_p134 hI hu539 hO35 ⟨(by have t1 : 0 ≤ t0_1.toInt ∧ t0_1.toInt ≤ 4100 := btt0_1; have t2 : t0_1.toInt ≤ y37.toInt := b52; omega), (by have t1 : 0 ≤ t0_1.toInt ∧ t0_1.toInt ≤ 4100 := btt0_1; have t2 : y37.toInt ≤ t0_1.toInt := b53; omega)⟩ ⟨(by have t1 : 0 ≤ t0_4.toInt ∧ t0_4.toInt ≤ 1 := btt0_4; have t2 : t0_4.toInt ≤ y40.toInt := b58; omega), (by have t1 : 0 ≤ t0_4.toInt ∧ t0_4.toInt ≤ 1 := btt0_4; have t2 : y40.toInt ≤ t0_4.toInt := b59; omega)⟩ ⟨(by first | with_reducible exact q_fe b49 | (have t1 : 0 ≤ y41.toInt := b49; omega)), (by have t1 : 0 ≤ t0_5.toInt ∧ t0_5.toInt ≤ 1 := btt0_5; have t2 : y41.toInt ≤ t0_5.toInt := b61; omega)⟩ ⟨(by have t1 : 0 ≤ t0_9.toInt ∧ t0_9.toInt ≤ 12200 := btt0_9; have t2 : t0_9.toInt ≤ y45.toInt := b69; omega), (by have t1 : 0 ≤ t0_9.toInt ∧ t0_9.toInt ≤ 12200 := btt0_9; have t2 : y45.toInt ≤ t0_9.toInt := b70; omega)⟩
        replace hT1 := (hu539 _ (by decide)).trans hT1
        replace hT2 := (hu539 _ (by decide)).trans hT2
        replace hT3 := (hu539 _ (by decide)).trans hT3
        replace hT4 := (hu539 _ (by decide)).trans hT4
        replace hA48 := (hu539 _ (by decide)).trans hA48
        replace hF := q_us hF hu539 (by simp)
        exact q_retv C0 V (⟨hI, hF, y46, y37, y38, y39, y40, y41, y42, y43, y44, y45, y46, t1_0, t2_0, t3_0, t4_0, f47, hO35, hT1, hT2, hT3, hT4, hA48, (show 0 ≤ y41.toInt from (by first | with_reducible exact q_fe b49 | (have t1 : 0 ≤ y41.toInt := b49; omega))), (show t0_1.toInt ≤ y37.toInt from (by first | with_reducible exact q_fe b52 | (have t1 : t0_1.toInt ≤ y37.toInt := b52; omega))), (show y37.toInt ≤ t0_1.toInt from (by first | with_reducible exact q_fe b53 | (have t1 : y37.toInt ≤ t0_1.toInt := b53; omega))), (show t0_2.toInt ≤ y37.toInt + 24400 from (by first | with_reducible exact q_fe b54 | (have t1 : t0_2.toInt ≤ y37.toInt + 24400 := b54; omega))), (show t0_2.toInt ≤ y40.toInt + 24401 from (by first | with_reducible exact q_fe b57 | (have t1 : t0_2.toInt ≤ y40.toInt + 24400 := b57; omega))), (show t0_4.toInt ≤ y40.toInt + 1 from (by first | with_reducible exact q_fe b58 | (have t1 : t0_4.toInt ≤ y40.toInt := b58; omega))), (show y40.toInt ≤ t0_4.toInt from (by first | with_reducible exact q_fe b59 | (have t1 : y40.toInt ≤ t0_4.toInt := b59; omega))), (show t0_2.toInt ≤ y41.toInt + 24401 from (by first | with_reducible exact q_fe b60 | (have t1 : t0_2.toInt ≤ y41.toInt + 24400 := b60; omega))), (show y41.toInt ≤ t0_5.toInt from (by first | with_reducible exact q_fe b61 | (have t1 : y41.toInt ≤ t0_5.toInt := b61; omega))), (show t0_6.toInt ≤ y42.toInt from (by first | with_reducible exact q_fe b62 | (have t1 : t0_6.toInt ≤ y42.toInt := b62; omega))), (show y42.toInt ≤ t0_6.toInt from (by first | with_reducible exact q_fe b63 | (have t1 : y42.toInt ≤ t0_6.toInt := b63; omega))), (show t0_7.toInt ≤ y43.toInt from (by first | with_reducible exact q_fe b64 | (have t1 : t0_7.toInt ≤ y43.toInt := b64; omega))), (show y43.toInt ≤ t0_7.toInt from (by first | with_reducible exact q_fe b65 | (have t1 : y43.toInt ≤ t0_7.toInt := b65; omega))), (show t0_8.toInt ≤ y44.toInt from (by first | with_reducible exact q_fe b66 | (have t1 : t0_8.toInt ≤ y44.toInt := b66; omega))), (show y44.toInt ≤ t0_8.toInt from (by first | with_reducible exact q_fe b67 | (have t1 : y44.toInt ≤ t0_8.toInt := b67; omega))), (show t0_2.toInt ≤ y45.toInt + 24400 from (by first | with_reducible exact q_fe b68 | (have t1 : t0_2.toInt ≤ y45.toInt + 24400 := b68; omega))), (show t0_9.toInt ≤ y45.toInt from (by first | with_reducible exact q_fe b69 | (have t1 : t0_9.toInt ≤ y45.toInt := b69; omega))), (show y45.toInt ≤ t0_9.toInt from (by first | with_reducible exact q_fe b70 | (have t1 : y45.toInt ≤ t0_9.toInt := b70; omega))), (show t0_10.toInt ≤ y46.toInt from (by first | with_reducible exact q_fe b71 | (have t1 : t0_10.toInt ≤ y46.toInt := b71; omega))), (show y46.toInt ≤ t0_10.toInt from (by first | with_reducible exact q_fe b72 | (have t1 : y46.toInt ≤ t0_10.toInt := b72; omega))), (show (y46, y37, y38, y39, y40, y41, y42, y43, y44, y45, y46, t1_0, t2_0, t3_0, t4_0, f47) = (F_DR_bring x2 x3 x4 t0_0 t0_1 t0_2 t0_3 t0_4 t0_5 t0_6 t0_7 t0_8 t0_9 t0_10 t1_0 t2_0 t3_0 t4_0 t5_0) from Eq.trans (by have c111x := c111; rw [← e109] at c111x; have c404x := c404; rw [← e402, ← e400] at c404x; rw [F_DR_bring_J28.eq_1, if_neg c111x, if_neg c404x]) hR103)⟩) d_15_13_58
  ·
    intro J102
    refine lv_if_ne (tgt := 28) hx hb d_15_13_10 (by decide) (fun c540 => ?_) (fun c540 => ?_)
    ·
      exact J102 (()) _ _ _ u33 ⟨V, q_lw hl (q_lw1 0 rfl (q_lw1 1 rfl (q_lw1 2 rfl (q_lw1 3 rfl q_lw0)))), (show F_DR_bring_J28 x2 x3 x4 t0_0 t0_1 t0_2 t0_3 t0_4 t0_5 t0_6 t0_7 t0_8 t0_9 t0_10 t1_0 t2_0 t3_0 t4_0 t5_0 p75 y36 y37 y38 y39 y40 y41 y42 y43 y44 y45 y46 f47 = (F_DR_bring x2 x3 x4 t0_0 t0_1 t0_2 t0_3 t0_4 t0_5 t0_6 t0_7 t0_8 t0_9 t0_10 t1_0 t2_0 t3_0 t4_0 t5_0) from Eq.trans (by have c540x := c540; rw [← e95, e88] at c540x; rw [e88, e87, e86, e85, e84, e83, e82, e81, e80, e79, e78, e77, F_DR_bring_c1.eq_1, if_neg c540x]) hR89), (show True ∧ S_DR_bring_J28 x2 x3 x4 t0_0 t0_1 t0_2 t0_3 t0_4 t0_5 t0_6 t0_7 t0_8 t0_9 t0_10 t1_0 t2_0 t3_0 t4_0 t5_0 p75 y36 y37 y38 y39 y40 y41 y42 y43 y44 y45 y46 f47 from (by rw [e88, e87, e86, e85, e84, e83, e82, e81, e80, e79, e78, e77]; have h := hS90; rw [S_DR_bring_c1.eq_1] at h; have c540x := c540; rw [← e95, e88] at c540x; rw [if_neg c540x] at h; with_reducible exact h))⟩
    ·
      refine lv_aload_n hx hb d_15_13_13 rfl (lv_at hl 0 rfl) ?_
      refine q_get (ci := 14) (j := 10) (v := .int y40) C0 V i_DR rfl rfl hO35 (by decide) w_2013 rfl d_15_13_14 ?_
      refine lv_if_ne (tgt := 28) hx hb d_15_13_17 (by decide) (fun c543 => ?_) (fun c543 => ?_)
      ·
        exact J102 (()) _ _ _ u33 ⟨V, q_lw hl (q_lw1 0 rfl (q_lw1 1 rfl (q_lw1 2 rfl (q_lw1 3 rfl q_lw0)))), (show F_DR_bring_J28 x2 x3 x4 t0_0 t0_1 t0_2 t0_3 t0_4 t0_5 t0_6 t0_7 t0_8 t0_9 t0_10 t1_0 t2_0 t3_0 t4_0 t5_0 p75 y36 y37 y38 y39 y40 y41 y42 y43 y44 y45 y46 f47 = (F_DR_bring x2 x3 x4 t0_0 t0_1 t0_2 t0_3 t0_4 t0_5 t0_6 t0_7 t0_8 t0_9 t0_10 t1_0 t2_0 t3_0 t4_0 t5_0) from Eq.trans (by have c540x := c540; rw [← e95, e88] at c540x; have c543x := c543; rw [e81] at c543x; rw [e88, e87, e86, e85, e84, e83, e82, e81, e80, e79, e78, e77, F_DR_bring_c1.eq_1, if_pos c540x, if_neg c543x]) hR89), (show True ∧ S_DR_bring_J28 x2 x3 x4 t0_0 t0_1 t0_2 t0_3 t0_4 t0_5 t0_6 t0_7 t0_8 t0_9 t0_10 t1_0 t2_0 t3_0 t4_0 t5_0 p75 y36 y37 y38 y39 y40 y41 y42 y43 y44 y45 y46 f47 from (by rw [e88, e87, e86, e85, e84, e83, e82, e81, e80, e79, e78, e77]; have h := hS90; rw [S_DR_bring_c1.eq_1] at h; have c540x := c540; rw [← e95, e88] at c540x; rw [if_pos c540x] at h; have c543x := c543; rw [e81] at c543x; rw [if_neg c543x] at h; with_reducible exact h))⟩
      ·
        have b545 : q_F (y40.toInt = 0) := (q_eqI c543)
        refine lv_aload_n hx hb d_15_13_20 rfl (lv_at hl 0 rfl) ?_
        refine lv_lload_n hx hb d_15_13_21 rfl (lv_at hl 1 rfl) ?_
        refine q_put (ci := 14) (j := 9) (v := .long x2) (ty := .long) C0 V i_DR o_DR n_DR rfl rfl hO35 (by decide) w_2012 rfl rfl rfl rfl (Nat.le_of_ble_eq_true rfl) d_15_13_22 (fun H locs w546 hu547 hO35 V => ?_)
        replace hO35 : w546[134]? = (some (q 134, .inr (14, [.int y36, .ref (q 135), .int y37, .ref (q 136), .ref (q 137), .ref (q 138), .ref (q 139), .ref (q 140), .int y38, .long x2, .int y40, .int y41, .ref (q 141), .int y42, .ref (q 142), .int y43, .ref (q 143), .int y44, .ref (q 144), .int y45, .int y46])) : Option (Nat × va_E)) := hO35
        replace hI := n_p134 hI hu547 hO35 ⟨(by have t1 : 0 ≤ t0_1.toInt ∧ t0_1.toInt ≤ 4100 := btt0_1; have t2 : t0_1.toInt ≤ y37.toInt := b52; omega), (by have t1 : 0 ≤ t0_1.toInt ∧ t0_1.toInt ≤ 4100 := btt0_1; have t2 : y37.toInt ≤ t0_1.toInt := b53; omega)⟩ ⟨(by first | with_reducible exact q_fe b545 | (have t1 : y40.toInt = 0 := b545; omega)), (by first | with_reducible exact q_fe b545 | (have t1 : y40.toInt = 0 := b545; omega))⟩ ⟨(by first | with_reducible exact q_fe b49 | (have t1 : 0 ≤ y41.toInt := b49; omega)), (by have t1 : 0 ≤ t0_5.toInt ∧ t0_5.toInt ≤ 1 := btt0_5; have t2 : y41.toInt ≤ t0_5.toInt := b61; omega)⟩ ⟨(by have t1 : 0 ≤ t0_9.toInt ∧ t0_9.toInt ≤ 12200 := btt0_9; have t2 : t0_9.toInt ≤ y45.toInt := b69; omega), (by have t1 : 0 ≤ t0_9.toInt ∧ t0_9.toInt ≤ 12200 := btt0_9; have t2 : y45.toInt ≤ t0_9.toInt := b70; omega)⟩
        replace hT1 := (hu547 _ (by decide)).trans hT1
        replace hT2 := (hu547 _ (by decide)).trans hT2
        replace hT3 := (hu547 _ (by decide)).trans hT3
        replace hT4 := (hu547 _ (by decide)).trans hT4
        replace hA48 := (hu547 _ (by decide)).trans hA48
        replace hF := q_us hF hu547 (by simp)
        refine lv_goto (tgt := 116) hx hb d_15_13_25 (by decide) ?_
        refine lv_aload_n hx hb d_15_13_116 rfl (lv_at hl 0 rfl) ?_
        refine lv_iload hx hb d_15_13_117 (lv_at hl 3 rfl) ?_
        have ob548 : True ∧ S_DR_store x4 y36 y37 y38 x2 y40 y41 y42 y43 y44 y45 y46 t1_0 t2_0 t3_0 t4_0 f47 := (by rw [e88, e87, e86, e85, e84, e83, e82, e81, e79, e78, e77]; have h := hS90; rw [S_DR_bring_c1.eq_1] at h; have c540x := c540; rw [← e95, e88] at c540x; rw [if_pos c540x] at h; have c543x := c543; rw [e81] at c543x; rw [if_pos c543x] at h; with_reducible exact h.2.1)
        refine q_gov V (q_runV (As := [.int x4]) (rest := []) (d := 2) (mc := 0) (ms := 0) (ci := 14) C0 V rfl LV_DR_89 (X_DR_store l D g q w546  x4 hI y36 y37 y38 x2 y40 y41 y42 y43 y44 y45 y46 hO35 t1_0 hT1 t2_0 hT2 t3_0 hT3 t4_0 hT4 f47 hA48 ob548 _) rfl rfl hO35 rfl hl.1 rfl (Nat.le_of_ble_eq_true rfl) ⟨by decide, by decide⟩ ⟨Nat.le_of_ble_eq_true rfl, Nat.le_of_ble_eq_true rfl⟩ d_15_13_119) (fun u549 H locs hp550 V => ?_)
        obtain ⟨hI, hZ9⟩ := hp550
        obtain ⟨hu596, hZ9⟩ := hZ9
        obtain ⟨y552, hZ9⟩ := hZ9
        obtain ⟨y553, hZ9⟩ := hZ9
        obtain ⟨y554, hZ9⟩ := hZ9
        obtain ⟨y555, hZ9⟩ := hZ9
        obtain ⟨y556, hZ9⟩ := hZ9
        obtain ⟨y557, hZ9⟩ := hZ9
        obtain ⟨y558, hZ9⟩ := hZ9
        obtain ⟨y559, hZ9⟩ := hZ9
        obtain ⟨y560, hZ9⟩ := hZ9
        obtain ⟨y561, hZ9⟩ := hZ9
        obtain ⟨y562, hZ9⟩ := hZ9
        obtain ⟨f563, hZ9⟩ := hZ9
        obtain ⟨f565, hZ9⟩ := hZ9
        obtain ⟨f567, hZ9⟩ := hZ9
        obtain ⟨f569, hZ9⟩ := hZ9
        obtain ⟨f571, hZ9⟩ := hZ9
        obtain ⟨hO551, hZ9⟩ := hZ9
        obtain ⟨hA564, hZ9⟩ := hZ9
        obtain ⟨hA566, hZ9⟩ := hZ9
        obtain ⟨hA568, hZ9⟩ := hZ9
        obtain ⟨hA570, hZ9⟩ := hZ9
        obtain ⟨hA572, hZ9⟩ := hZ9
        obtain ⟨b573, hZ9⟩ := hZ9
        obtain ⟨b574, hZ9⟩ := hZ9
        obtain ⟨b575, hZ9⟩ := hZ9
        replace hZ9 := hZ9.2.2.2.2
        obtain ⟨b580, hZ9⟩ := hZ9
        obtain ⟨b581, hZ9⟩ := hZ9
        replace hZ9 := hZ9.2
        obtain ⟨b583, hZ9⟩ := hZ9
        obtain ⟨b584, hZ9⟩ := hZ9
        obtain ⟨b585, hZ9⟩ := hZ9
        obtain ⟨b586, hZ9⟩ := hZ9
        obtain ⟨b587, hZ9⟩ := hZ9
        obtain ⟨b588, hZ9⟩ := hZ9
        obtain ⟨b589, hZ9⟩ := hZ9
        replace hZ9 := hZ9.2
        obtain ⟨b591, hZ9⟩ := hZ9
        obtain ⟨b592, hZ9⟩ := hZ9
        obtain ⟨b593, hZ9⟩ := hZ9
        obtain ⟨b594, hE595⟩ := hZ9
        replace hO551 : u549[134]? = (some (q 134, .inr (14, [.int y552, .ref (q 135), .int y553, .ref (q 136), .ref (q 137), .ref (q 138), .ref (q 139), .ref (q 140), .int y554, .long y555, .int y556, .int y557, .ref (q 141), .int y558, .ref (q 142), .int y559, .ref (q 143), .int y560, .ref (q 144), .int y561, .int y562])) : Option (Nat × va_E)) := hO551
        replace hA564 : u549[136]? = (some (q 136, .inl (g 0, (10000 : Int32).toNatClampNeg, .inl f563)) : Option (Nat × va_E)) := hA564
        replace hA566 : u549[137]? = (some (q 137, .inl (g 0, (10 : Int32).toNatClampNeg, .inl f565)) : Option (Nat × va_E)) := hA566
        replace hA568 : u549[138]? = (some (q 138, .inl (g 3, 10, .inl f567)) : Option (Nat × va_E)) := hA568
        replace hA570 : u549[139]? = (some (q 139, .inl (g 0, (10 : Int32).toNatClampNeg, .inl f569)) : Option (Nat × va_E)) := hA570
        replace hA572 : u549[140]? = (some (q 140, .inl (g 0, (4400 : Int32).toNatClampNeg, .inl f571)) : Option (Nat × va_E)) := hA572
        obtain ⟨p597, e598⟩ : ∃ z, z = (F_DR_store x4 y36 y37 y38 x2 y40 y41 y42 y43 y44 y45 y46 t1_0 t2_0 t3_0 t4_0 f47) := ⟨_, rfl⟩
        have e599 : y552 = p597.1 := congrArg (fun z => z.1) (hE595.trans e598.symm)
        have e600 : y553 = p597.2.1 := congrArg (fun z => z.2.1) (hE595.trans e598.symm)
        have e601 : y554 = p597.2.2.1 := congrArg (fun z => z.2.2.1) (hE595.trans e598.symm)
        have e602 : y555 = p597.2.2.2.1 := congrArg (fun z => z.2.2.2.1) (hE595.trans e598.symm)
        have e603 : y556 = p597.2.2.2.2.1 := congrArg (fun z => z.2.2.2.2.1) (hE595.trans e598.symm)
        have e604 : y557 = p597.2.2.2.2.2.1 := congrArg (fun z => z.2.2.2.2.2.1) (hE595.trans e598.symm)
        have e605 : y558 = p597.2.2.2.2.2.2.1 := congrArg (fun z => z.2.2.2.2.2.2.1) (hE595.trans e598.symm)
        have e606 : y559 = p597.2.2.2.2.2.2.2.1 := congrArg (fun z => z.2.2.2.2.2.2.2.1) (hE595.trans e598.symm)
        have e607 : y560 = p597.2.2.2.2.2.2.2.2.1 := congrArg (fun z => z.2.2.2.2.2.2.2.2.1) (hE595.trans e598.symm)
        have e608 : y561 = p597.2.2.2.2.2.2.2.2.2.1 := congrArg (fun z => z.2.2.2.2.2.2.2.2.2.1) (hE595.trans e598.symm)
        have e609 : y562 = p597.2.2.2.2.2.2.2.2.2.2.1 := congrArg (fun z => z.2.2.2.2.2.2.2.2.2.2.1) (hE595.trans e598.symm)
        have e610 : f563 = p597.2.2.2.2.2.2.2.2.2.2.2.1 := congrArg (fun z => z.2.2.2.2.2.2.2.2.2.2.2.1) (hE595.trans e598.symm)
        have e611 : f565 = p597.2.2.2.2.2.2.2.2.2.2.2.2.1 := congrArg (fun z => z.2.2.2.2.2.2.2.2.2.2.2.2.1) (hE595.trans e598.symm)
        have e612 : f567 = p597.2.2.2.2.2.2.2.2.2.2.2.2.2.1 := congrArg (fun z => z.2.2.2.2.2.2.2.2.2.2.2.2.2.1) (hE595.trans e598.symm)
        have e613 : f569 = p597.2.2.2.2.2.2.2.2.2.2.2.2.2.2.1 := congrArg (fun z => z.2.2.2.2.2.2.2.2.2.2.2.2.2.2.1) (hE595.trans e598.symm)
        have e614 : f571 = p597.2.2.2.2.2.2.2.2.2.2.2.2.2.2.2 := congrArg (fun z => z.2.2.2.2.2.2.2.2.2.2.2.2.2.2.2) (hE595.trans e598.symm)
        replace b573 : q_F (0 ≤ y557.toInt) := b573
        replace b574 : q_F (y37.toInt ≤ y553.toInt) := b574
        replace b575 : q_F (y553.toInt ≤ y37.toInt) := b575
        replace b580 : q_F (y40.toInt ≤ y556.toInt) := b580
        replace b581 : q_F (y556.toInt ≤ y40.toInt) := b581
        replace b583 : q_F (y557.toInt ≤ y41.toInt) := b583
        replace b584 : q_F (y42.toInt ≤ y558.toInt) := b584
        replace b585 : q_F (y558.toInt ≤ y42.toInt) := b585
        replace b586 : q_F (y43.toInt ≤ y559.toInt) := b586
        replace b587 : q_F (y559.toInt ≤ y43.toInt) := b587
        replace b588 : q_F (y44.toInt ≤ y560.toInt) := b588
        replace b589 : q_F (y560.toInt ≤ y44.toInt) := b589
        replace b591 : q_F (y45.toInt ≤ y561.toInt) := b591
        replace b592 : q_F (y561.toInt ≤ y45.toInt) := b592
        replace b593 : q_F (y46.toInt ≤ y562.toInt) := b593
        replace b594 : q_F (y562.toInt ≤ y46.toInt) := b594
        replace hF := q_uc hF hu596 (by simp)
        have hR615 := (show F_DR_bring_c119_9 x2 x3 x4 t0_0 t0_1 t0_2 t0_3 t0_4 t0_5 t0_6 t0_7 t0_8 t0_9 t0_10 t1_0 t2_0 t3_0 t4_0 t5_0 p75 p597 = (F_DR_bring x2 x3 x4 t0_0 t0_1 t0_2 t0_3 t0_4 t0_5 t0_6 t0_7 t0_8 t0_9 t0_10 t1_0 t2_0 t3_0 t4_0 t5_0) from Eq.trans (by have c540x := c540; rw [← e95, e88] at c540x; have c543x := c543; rw [e81] at c543x; rw [e598, e88, e87, e86, e85, e84, e83, e82, e81, e79, e78, e77, F_DR_bring_c1.eq_1, if_pos c540x, if_pos c543x]) hR89)
        have hS616 := (show True ∧ S_DR_bring_c119_9 x2 x3 x4 t0_0 t0_1 t0_2 t0_3 t0_4 t0_5 t0_6 t0_7 t0_8 t0_9 t0_10 t1_0 t2_0 t3_0 t4_0 t5_0 p75 p597 from (by rw [e598, e88, e87, e86, e85, e84, e83, e82, e81, e79, e78, e77]; have h := hS90; rw [S_DR_bring_c1.eq_1] at h; have c540x := c540; rw [← e95, e88] at c540x; rw [if_pos c540x] at h; have c543x := c543; rw [e81] at c543x; rw [if_pos c543x] at h; replace h := q_s2 h; with_reducible exact h))
        exact q_retv C0 V (⟨hI, hF, y552, y553, y554, y555, y556, y557, y558, y559, y560, y561, y562, f563, f565, f567, f569, f571, hO551, hA564, hA566, hA568, hA570, hA572, (show 0 ≤ y557.toInt from (by first | with_reducible exact q_fe b573 | (have t1 : 0 ≤ y557.toInt := b573; omega))), (show t0_1.toInt ≤ y553.toInt from (by have t1 : t0_1.toInt ≤ y37.toInt := b52; have t2 : y37.toInt ≤ y553.toInt := b574; omega)), (show y553.toInt ≤ t0_1.toInt from (by have t1 : y37.toInt ≤ t0_1.toInt := b53; have t2 : y553.toInt ≤ y37.toInt := b575; omega)), (show t0_2.toInt ≤ y553.toInt + 24400 from (by have t1 : t0_2.toInt ≤ y37.toInt + 24400 := b54; have t2 : y37.toInt ≤ y553.toInt := b574; omega)), (show t0_2.toInt ≤ y556.toInt + 24401 from (by have t1 : t0_2.toInt ≤ y40.toInt + 24400 := b57; have t2 : y40.toInt ≤ y556.toInt := b580; omega)), (show t0_4.toInt ≤ y556.toInt + 1 from (by have t1 : t0_4.toInt ≤ y40.toInt := b58; have t2 : y40.toInt ≤ y556.toInt := b580; omega)), (show y556.toInt ≤ t0_4.toInt from (by have t1 : y40.toInt ≤ t0_4.toInt := b59; have t2 : y556.toInt ≤ y40.toInt := b581; omega)), (show t0_2.toInt ≤ y557.toInt + 24401 from (by have t1 : t0_2.toInt ≤ y40.toInt + 24400 := b57; have t2 : y40.toInt = 0 := b545; have t3 : 0 ≤ y557.toInt := b573; omega)), (show y557.toInt ≤ t0_5.toInt from (by have t1 : y41.toInt ≤ t0_5.toInt := b61; have t2 : y557.toInt ≤ y41.toInt := b583; omega)), (show t0_6.toInt ≤ y558.toInt from (by have t1 : t0_6.toInt ≤ y42.toInt := b62; have t2 : y42.toInt ≤ y558.toInt := b584; omega)), (show y558.toInt ≤ t0_6.toInt from (by have t1 : y42.toInt ≤ t0_6.toInt := b63; have t2 : y558.toInt ≤ y42.toInt := b585; omega)), (show t0_7.toInt ≤ y559.toInt from (by have t1 : t0_7.toInt ≤ y43.toInt := b64; have t2 : y43.toInt ≤ y559.toInt := b586; omega)), (show y559.toInt ≤ t0_7.toInt from (by have t1 : y43.toInt ≤ t0_7.toInt := b65; have t2 : y559.toInt ≤ y43.toInt := b587; omega)), (show t0_8.toInt ≤ y560.toInt from (by have t1 : t0_8.toInt ≤ y44.toInt := b66; have t2 : y44.toInt ≤ y560.toInt := b588; omega)), (show y560.toInt ≤ t0_8.toInt from (by have t1 : y44.toInt ≤ t0_8.toInt := b67; have t2 : y560.toInt ≤ y44.toInt := b589; omega)), (show t0_2.toInt ≤ y561.toInt + 24400 from (by have t1 : t0_2.toInt ≤ y45.toInt + 24400 := b68; have t2 : y45.toInt ≤ y561.toInt := b591; omega)), (show t0_9.toInt ≤ y561.toInt from (by have t1 : t0_9.toInt ≤ y45.toInt := b69; have t2 : y45.toInt ≤ y561.toInt := b591; omega)), (show y561.toInt ≤ t0_9.toInt from (by have t1 : y45.toInt ≤ t0_9.toInt := b70; have t2 : y561.toInt ≤ y45.toInt := b592; omega)), (show t0_10.toInt ≤ y562.toInt from (by have t1 : t0_10.toInt ≤ y46.toInt := b71; have t2 : y46.toInt ≤ y562.toInt := b593; omega)), (show y562.toInt ≤ t0_10.toInt from (by have t1 : y46.toInt ≤ t0_10.toInt := b72; have t2 : y562.toInt ≤ y46.toInt := b594; omega)), (show (y552, y553, y554, y555, y556, y557, y558, y559, y560, y561, y562, f563, f565, f567, f569, f571) = (F_DR_bring x2 x3 x4 t0_0 t0_1 t0_2 t0_3 t0_4 t0_5 t0_6 t0_7 t0_8 t0_9 t0_10 t1_0 t2_0 t3_0 t4_0 t5_0) from Eq.trans (by rw [e614, e613, e612, e611, e610, e609, e608, e607, e606, e605, e604, e603, e602, e601, e600, e599, F_DR_bring_c119_9.eq_1]) hR615)⟩) d_15_13_122

