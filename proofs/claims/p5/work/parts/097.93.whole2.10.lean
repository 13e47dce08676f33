theorem d_19_42_0 : decode prog_19_method_42_code 0 = .ok (.aload_n 0, 1) := by decide +kernel
theorem d_19_42_1 : decode prog_19_method_42_code 1 = .ok (.iload_n 1, 1) := by decide +kernel
theorem d_19_42_2 : decode prog_19_method_42_code 2 = .ok (.invokestatic 91, 3) := by decide +kernel
theorem d_19_42_24 : decode prog_19_method_42_code 24 = .ok (.putfield 53, 3) := by decide +kernel
theorem d_19_42_27 : decode prog_19_method_42_code 27 = .ok (.aload_n 0, 1) := by decide +kernel
theorem d_19_42_28 : decode prog_19_method_42_code 28 = .ok (.getfield 53, 3) := by decide +kernel
theorem d_19_42_31 : decode prog_19_method_42_code 31 = .ok (.ifCond .le 5, 3) := by decide +kernel
theorem d_19_42_36 : decode prog_19_method_42_code 36 = .ok (.aload_n 0, 1) := by decide +kernel
theorem d_19_42_37 : decode prog_19_method_42_code 37 = .ok (.iload_n 1, 1) := by decide +kernel
theorem d_19_42_38 : decode prog_19_method_42_code 38 = .ok (.aload_n 0, 1) := by decide +kernel
theorem d_19_42_39 : decode prog_19_method_42_code 39 = .ok (.getfield 35, 3) := by decide +kernel
theorem d_19_42_42 : decode prog_19_method_42_code 42 = .ok (.invokevirtual 107, 3) := by decide +kernel
theorem d_19_42_45 : decode prog_19_method_42_code 45 = .ok (.aload_n 0, 1) := by decide +kernel
theorem d_19_42_46 : decode prog_19_method_42_code 46 = .ok (.iconst 0, 1) := by decide +kernel
theorem d_19_42_47 : decode prog_19_method_42_code 47 = .ok (.putfield 155, 3) := by decide +kernel
set_option maxRecDepth 100000 in
theorem w_1945 : (Cond.fieldLink "NumberHouseModel$WholeRows" (155 : Nat) "NumberHouseModel$WholeRows" "printed" "I") ∈ q_tbl := q_of9 25 rfl (by decide +kernel)
theorem d_19_42_50 : decode prog_19_method_42_code 50 = .ok (.aload_n 0, 1) := by decide +kernel
theorem d_19_42_51 : decode prog_19_method_42_code 51 = .ok (.getfield 35, 3) := by decide +kernel
theorem d_19_42_54 : decode prog_19_method_42_code 54 = .ok (.invokestatic 59, 3) := by decide +kernel
theorem d_19_42_67 : decode prog_19_method_42_code 67 = .ok (.aload_n 0, 1) := by decide +kernel
theorem d_19_42_68 : decode prog_19_method_42_code 68 = .ok (.getfield 35, 3) := by decide +kernel
theorem d_19_42_71 : decode prog_19_method_42_code 71 = .ok (.iload_n 2, 1) := by decide +kernel
theorem d_19_42_72 : decode prog_19_method_42_code 72 = .ok (.invokestatic 158, 3) := by decide +kernel
set_option maxRecDepth 100000 in
theorem w_2953 : (Cond.code ({ cls := "NumberHouseModel$WholeRows", name := "shrink", desc := "([II)I" } : MethodName) prog_19_method_12_code (5 : Nat) (some .int)) ∈ q_tbl := q_of13 73 rfl (by decide +kernel)
set_option maxRecDepth 100000 in
theorem w_2951 : (Cond.methodLink "NumberHouseModel$WholeRows" (158 : Nat) ({ cls := "NumberHouseModel$WholeRows", name := "shrink", desc := "([II)I" } : MethodName)) ∈ q_tbl := q_of13 71 rfl (by decide +kernel)
set_option maxRecDepth 100000 in
theorem w_2952 : (Cond.static ({ cls := "NumberHouseModel$WholeRows", name := "shrink", desc := "([II)I" } : MethodName)) ∈ q_tbl := q_of13 72 rfl (by decide +kernel)
theorem LS_WR_158 : q_LS "NumberHouseModel$WholeRows" 158 y_WR_shrink prog_19_method_12_code 5 (some .int) 2 := ⟨w_2953, w_15, w_2951, w_2952, ⟨by decide, by decide, by decide +kernel⟩⟩
theorem d_19_42_75 : decode prog_19_method_42_code 75 = .ok (.istore_n 3, 1) := by decide +kernel
theorem d_19_42_76 : decode prog_19_method_42_code 76 = .ok (.aload_n 0, 1) := by decide +kernel
theorem d_19_42_77 : decode prog_19_method_42_code 77 = .ok (.getfield 50, 3) := by decide +kernel
theorem d_19_42_80 : decode prog_19_method_42_code 80 = .ok (.aload_n 0, 1) := by decide +kernel
theorem d_19_42_81 : decode prog_19_method_42_code 81 = .ok (.getfield 155, 3) := by decide +kernel
theorem d_19_42_84 : decode prog_19_method_42_code 84 = .ok (.iload_n 3, 1) := by decide +kernel
theorem d_19_42_85 : decode prog_19_method_42_code 85 = .ok (.bipush 10, 2) := by decide +kernel
theorem d_19_42_87 : decode prog_19_method_42_code 87 = .ok (.if_icmp .ge 10, 3) := by decide +kernel
theorem d_19_42_97 : decode prog_19_method_42_code 97 = .ok (.bipush 97, 2) := by decide +kernel
theorem d_19_42_99 : decode prog_19_method_42_code 99 = .ok (.iload_n 3, 1) := by decide +kernel
theorem d_19_42_100 : decode prog_19_method_42_code 100 = .ok (.iadd, 1) := by decide +kernel
theorem d_19_42_101 : decode prog_19_method_42_code 101 = .ok (.bipush 10, 2) := by decide +kernel
theorem d_19_42_103 : decode prog_19_method_42_code 103 = .ok (.isub, 1) := by decide +kernel
theorem d_19_42_104 : decode prog_19_method_42_code 104 = .ok (.iastore, 1) := by decide +kernel
theorem d_19_42_105 : decode prog_19_method_42_code 105 = .ok (.aload_n 0, 1) := by decide +kernel
theorem d_19_42_106 : decode prog_19_method_42_code 106 = .ok (.dup, 1) := by decide +kernel
theorem d_19_42_107 : decode prog_19_method_42_code 107 = .ok (.getfield 155, 3) := by decide +kernel
theorem d_19_42_110 : decode prog_19_method_42_code 110 = .ok (.iconst 1, 1) := by decide +kernel
theorem d_19_42_111 : decode prog_19_method_42_code 111 = .ok (.iadd, 1) := by decide +kernel
theorem d_19_42_112 : decode prog_19_method_42_code 112 = .ok (.putfield 155, 3) := by decide +kernel
theorem d_19_42_115 : decode prog_19_method_42_code 115 = .ok (.goto (-65), 3) := by decide +kernel
theorem d_19_42_90 : decode prog_19_method_42_code 90 = .ok (.bipush 48, 2) := by decide +kernel
theorem d_19_42_92 : decode prog_19_method_42_code 92 = .ok (.iload_n 3, 1) := by decide +kernel
theorem d_19_42_93 : decode prog_19_method_42_code 93 = .ok (.iadd, 1) := by decide +kernel
theorem d_19_42_94 : decode prog_19_method_42_code 94 = .ok (.goto 10, 3) := by decide +kernel
theorem d_19_42_57 : decode prog_19_method_42_code 57 = .ok (.ifCond .gt 10, 3) := by decide +kernel
theorem d_19_42_60 : decode prog_19_method_42_code 60 = .ok (.aload_n 0, 1) := by decide +kernel
theorem d_19_42_61 : decode prog_19_method_42_code 61 = .ok (.getfield 155, 3) := by decide +kernel
theorem d_19_42_64 : decode prog_19_method_42_code 64 = .ok (.ifCond .ne 54, 3) := by decide +kernel
theorem d_19_42_118 : decode prog_19_method_42_code 118 = .ok (.aload_n 0, 1) := by decide +kernel
theorem d_19_42_119 : decode prog_19_method_42_code 119 = .ok (.getfield 16, 3) := by decide +kernel
theorem d_19_42_122 : decode prog_19_method_42_code 122 = .ok (.iload_n 1, 1) := by decide +kernel
theorem d_19_42_123 : decode prog_19_method_42_code 123 = .ok (.baload, 1) := by decide +kernel
theorem d_19_42_148 : decode prog_19_method_42_code 148 = .ok (.iconst 0, 1) := by decide +kernel
theorem d_19_42_149 : decode prog_19_method_42_code 149 = .ok (.istore_n 3, 1) := by decide +kernel
theorem d_19_42_150 : decode prog_19_method_42_code 150 = .ok (.aload_n 0, 1) := by decide +kernel
theorem d_19_42_151 : decode prog_19_method_42_code 151 = .ok (.getfield 155, 3) := by decide +kernel
theorem d_19_42_154 : decode prog_19_method_42_code 154 = .ok (.iconst 1, 1) := by decide +kernel
theorem d_19_42_155 : decode prog_19_method_42_code 155 = .ok (.isub, 1) := by decide +kernel
theorem d_19_42_156 : decode prog_19_method_42_code 156 = .ok (.istore 4, 2) := by decide +kernel
theorem d_19_42_158 : decode prog_19_method_42_code 158 = .ok (.iload_n 3, 1) := by decide +kernel
theorem d_19_42_159 : decode prog_19_method_42_code 159 = .ok (.iload 4, 2) := by decide +kernel
theorem d_19_42_161 : decode prog_19_method_42_code 161 = .ok (.if_icmp .ge 42, 3) := by decide +kernel
theorem d_19_42_203 : decode prog_19_method_42_code 203 = .ok (.aload_n 0, 1) := by decide +kernel
theorem d_19_42_204 : decode prog_19_method_42_code 204 = .ok (.getfield 155, 3) := by decide +kernel
theorem d_19_42_207 : decode prog_19_method_42_code 207 = .ok (.ireturn, 1) := by decide +kernel
theorem d_19_42_164 : decode prog_19_method_42_code 164 = .ok (.aload_n 0, 1) := by decide +kernel
theorem d_19_42_165 : decode prog_19_method_42_code 165 = .ok (.getfield 50, 3) := by decide +kernel
theorem d_19_42_168 : decode prog_19_method_42_code 168 = .ok (.iload_n 3, 1) := by decide +kernel
theorem d_19_42_169 : decode prog_19_method_42_code 169 = .ok (.iaload, 1) := by decide +kernel
theorem d_19_42_170 : decode prog_19_method_42_code 170 = .ok (.istore 5, 2) := by decide +kernel
theorem d_19_42_172 : decode prog_19_method_42_code 172 = .ok (.aload_n 0, 1) := by decide +kernel
theorem d_19_42_173 : decode prog_19_method_42_code 173 = .ok (.getfield 50, 3) := by decide +kernel
theorem d_19_42_176 : decode prog_19_method_42_code 176 = .ok (.iload_n 3, 1) := by decide +kernel
theorem d_19_42_177 : decode prog_19_method_42_code 177 = .ok (.aload_n 0, 1) := by decide +kernel
theorem d_19_42_178 : decode prog_19_method_42_code 178 = .ok (.getfield 50, 3) := by decide +kernel
theorem d_19_42_181 : decode prog_19_method_42_code 181 = .ok (.iload 4, 2) := by decide +kernel
theorem d_19_42_183 : decode prog_19_method_42_code 183 = .ok (.iaload, 1) := by decide +kernel
theorem d_19_42_184 : decode prog_19_method_42_code 184 = .ok (.iastore, 1) := by decide +kernel
theorem d_19_42_185 : decode prog_19_method_42_code 185 = .ok (.aload_n 0, 1) := by decide +kernel
theorem d_19_42_186 : decode prog_19_method_42_code 186 = .ok (.getfield 50, 3) := by decide +kernel
theorem d_19_42_189 : decode prog_19_method_42_code 189 = .ok (.iload 4, 2) := by decide +kernel
theorem d_19_42_191 : decode prog_19_method_42_code 191 = .ok (.iload 5, 2) := by decide +kernel
theorem d_19_42_193 : decode prog_19_method_42_code 193 = .ok (.iastore, 1) := by decide +kernel
theorem d_19_42_194 : decode prog_19_method_42_code 194 = .ok (.iinc 3 1, 3) := by decide +kernel
theorem d_19_42_197 : decode prog_19_method_42_code 197 = .ok (.iinc 4 (-1), 3) := by decide +kernel
theorem d_19_42_200 : decode prog_19_method_42_code 200 = .ok (.goto (-42), 3) := by decide +kernel
theorem d_19_42_124 : decode prog_19_method_42_code 124 = .ok (.ifCond .eq 24, 3) := by decide +kernel
theorem d_19_42_127 : decode prog_19_method_42_code 127 = .ok (.aload_n 0, 1) := by decide +kernel
theorem d_19_42_128 : decode prog_19_method_42_code 128 = .ok (.getfield 50, 3) := by decide +kernel
theorem d_19_42_131 : decode prog_19_method_42_code 131 = .ok (.aload_n 0, 1) := by decide +kernel
theorem d_19_42_132 : decode prog_19_method_42_code 132 = .ok (.getfield 155, 3) := by decide +kernel
theorem d_19_42_135 : decode prog_19_method_42_code 135 = .ok (.bipush 45, 2) := by decide +kernel
theorem d_19_42_137 : decode prog_19_method_42_code 137 = .ok (.iastore, 1) := by decide +kernel
theorem d_19_42_138 : decode prog_19_method_42_code 138 = .ok (.aload_n 0, 1) := by decide +kernel
theorem d_19_42_139 : decode prog_19_method_42_code 139 = .ok (.dup, 1) := by decide +kernel
theorem d_19_42_140 : decode prog_19_method_42_code 140 = .ok (.getfield 155, 3) := by decide +kernel
theorem d_19_42_143 : decode prog_19_method_42_code 143 = .ok (.iconst 1, 1) := by decide +kernel
theorem d_19_42_144 : decode prog_19_method_42_code 144 = .ok (.iadd, 1) := by decide +kernel
theorem d_19_42_145 : decode prog_19_method_42_code 145 = .ok (.putfield 155, 3) := by decide +kernel
theorem d_19_42_34 : decode prog_19_method_42_code 34 = .ok (.iconst 0, 1) := by decide +kernel
theorem d_19_42_35 : decode prog_19_method_42_code 35 = .ok (.ireturn, 1) := by decide +kernel
theorem d_19_42_19 : decode prog_19_method_42_code 19 = .ok (.iconst 1, 1) := by decide +kernel
theorem d_19_42_20 : decode prog_19_method_42_code 20 = .ok (.goto 4, 3) := by decide +kernel
theorem d_19_42_5 : decode prog_19_method_42_code 5 = .ok (.ifCond .ne 14, 3) := by decide +kernel
theorem d_19_42_8 : decode prog_19_method_42_code 8 = .ok (.iload_n 2, 1) := by decide +kernel
theorem d_19_42_9 : decode prog_19_method_42_code 9 = .ok (.iconst 2, 1) := by decide +kernel
theorem d_19_42_10 : decode prog_19_method_42_code 10 = .ok (.if_icmp .lt 9, 3) := by decide +kernel
theorem d_19_42_13 : decode prog_19_method_42_code 13 = .ok (.iload_n 2, 1) := by decide +kernel
theorem d_19_42_14 : decode prog_19_method_42_code 14 = .ok (.bipush 36, 2) := by decide +kernel
theorem d_19_42_16 : decode prog_19_method_42_code 16 = .ok (.if_icmp .le 7, 3) := by decide +kernel
theorem d_19_42_23 : decode prog_19_method_42_code 23 = .ok (.iconst 0, 1) := by decide +kernel
def y_WR_written : MethodName := ⟨"NumberHouseModel$WholeRows", "written", "(II)I"⟩
def F_WR_written_c72 (K_F_WR_written_L50 : Int32 → (Nat → Int32) → (Nat → Int32) → (Int32 × Int32 × Int32 × Int32 × Int32 × Int32 × Int32 × Int32 × (Nat → Int32) × (Nat → Int32))) (x2 : Int32) (x3 : Int32) (t0_0 : Int32) (t0_1 : Int32) (t0_2 : Int32) (t0_3 : Int32) (t0_4 : Int32) (t0_5 : Int32) (t0_6 : Int32) (t1_0 : (Nat → Int32)) (t2_0 : (Nat → Int32)) (t3_0 : (Nat → Int32)) (t4_0 : (Nat → Int32)) (lx33 : Int32) (lx61 : Int32) (lx62 : (Nat → Int32)) (lx63 : (Nat → Int32)) (p104 : (Int32 × (Nat → Int32))) : Int32 × Int32 × Int32 × Int32 × Int32 × Int32 × Int32 × Int32 × (Nat → Int32) × (Nat → Int32) := if (10 : Int32) ≤ (p104.1 : Int32) then (K_F_WR_written_L50 (lx61 + 1 : Int32) (p104.2 : (Nat → Int32)) (upd lx63 lx61.toNatClampNeg ((97 + (p104.1 : Int32) : Int32) - 10 : Int32) : (Nat → Int32))) else (K_F_WR_written_L50 (lx61 + 1 : Int32) (p104.2 : (Nat → Int32)) (upd lx63 lx61.toNatClampNeg (48 + (p104.1 : Int32) : Int32) : (Nat → Int32)))
def F_WR_written_J67 (K_F_WR_written_L50 : Int32 → (Nat → Int32) → (Nat → Int32) → (Int32 × Int32 × Int32 × Int32 × Int32 × Int32 × Int32 × Int32 × (Nat → Int32) × (Nat → Int32))) (x2 : Int32) (x3 : Int32) (t0_0 : Int32) (t0_1 : Int32) (t0_2 : Int32) (t0_3 : Int32) (t0_4 : Int32) (t0_5 : Int32) (t0_6 : Int32) (t1_0 : (Nat → Int32)) (t2_0 : (Nat → Int32)) (t3_0 : (Nat → Int32)) (t4_0 : (Nat → Int32)) (lx33 : Int32) (lx61 : Int32) (lx62 : (Nat → Int32)) (lx63 : (Nat → Int32)) : Int32 × Int32 × Int32 × Int32 × Int32 × Int32 × Int32 × Int32 × (Nat → Int32) × (Nat → Int32) := F_WR_written_c72 K_F_WR_written_L50 x2 x3 t0_0 t0_1 t0_2 t0_3 t0_4 t0_5 t0_6 t1_0 t2_0 t3_0 t4_0 lx33 lx61 lx62 lx63 ((F_WR_shrink (264 : Int32) x3 lx62) : (Int32 × (Nat → Int32)))
def F_WR_written_L158 (K_F_WR_written_L50 : Int32 → (Nat → Int32) → (Nat → Int32) → (Int32 × Int32 × Int32 × Int32 × Int32 × Int32 × Int32 × Int32 × (Nat → Int32) × (Nat → Int32))) (x2 : Int32) (x3 : Int32) (t0_0 : Int32) (t0_1 : Int32) (t0_2 : Int32) (t0_3 : Int32) (t0_4 : Int32) (t0_5 : Int32) (t0_6 : Int32) (t1_0 : (Nat → Int32)) (t2_0 : (Nat → Int32)) (t3_0 : (Nat → Int32)) (t4_0 : (Nat → Int32)) (lx33 : Int32) (lx61 : Int32) (lx62 : (Nat → Int32)) (lx63 : (Nat → Int32)) (lx152 : Int32) (lx153 : (Nat → Int32)) : Nat → Int32 → Int32 → (Nat → Int32) → (Int32 × Int32 × Int32 × Int32 × Int32 × Int32 × Int32 × Int32 × (Nat → Int32) × (Nat → Int32))
  | 0, _, _, _ => default
  | fm + 1, lx174, lx175, lx176 => if lx174 ≤ lx175 then ((lx152, lx33, t0_1, t0_2, t0_3, t0_4, t0_5, lx152, lx62, lx176)) else (F_WR_written_L158 K_F_WR_written_L50 x2 x3 t0_0 t0_1 t0_2 t0_3 t0_4 t0_5 t0_6 t1_0 t2_0 t3_0 t4_0 lx33 lx61 lx62 lx63 lx152 lx153 fm (lx174 + (-1) : Int32) (lx175 + 1 : Int32) (upd (upd lx176 lx175.toNatClampNeg (lx176 lx174.toNatClampNeg : Int32) : (Nat → Int32)) lx174.toNatClampNeg (lx176 lx175.toNatClampNeg : Int32) : (Nat → Int32)))
def F_WR_written_J148 (K_F_WR_written_L50 : Int32 → (Nat → Int32) → (Nat → Int32) → (Int32 × Int32 × Int32 × Int32 × Int32 × Int32 × Int32 × Int32 × (Nat → Int32) × (Nat → Int32))) (x2 : Int32) (x3 : Int32) (t0_0 : Int32) (t0_1 : Int32) (t0_2 : Int32) (t0_3 : Int32) (t0_4 : Int32) (t0_5 : Int32) (t0_6 : Int32) (t1_0 : (Nat → Int32)) (t2_0 : (Nat → Int32)) (t3_0 : (Nat → Int32)) (t4_0 : (Nat → Int32)) (lx33 : Int32) (lx61 : Int32) (lx62 : (Nat → Int32)) (lx63 : (Nat → Int32)) (lx152 : Int32) (lx153 : (Nat → Int32)) : Int32 × Int32 × Int32 × Int32 × Int32 × Int32 × Int32 × Int32 × (Nat → Int32) × (Nat → Int32) := F_WR_written_L158 K_F_WR_written_L50 x2 x3 t0_0 t0_1 t0_2 t0_3 t0_4 t0_5 t0_6 t1_0 t2_0 t3_0 t4_0 lx33 lx61 lx62 lx63 lx152 lx153 (((lx152 - 1 : Int32).toInt - ((-1))).toNat + 1) (lx152 - 1 : Int32) 0 lx153
def F_WR_written_L50 (x2 : Int32) (x3 : Int32) (t0_0 : Int32) (t0_1 : Int32) (t0_2 : Int32) (t0_3 : Int32) (t0_4 : Int32) (t0_5 : Int32) (t0_6 : Int32) (t1_0 : (Nat → Int32)) (t2_0 : (Nat → Int32)) (t3_0 : (Nat → Int32)) (t4_0 : (Nat → Int32)) (lx33 : Int32) : Nat → Int32 → (Nat → Int32) → (Nat → Int32) → (Int32 × Int32 × Int32 × Int32 × Int32 × Int32 × Int32 × Int32 × (Nat → Int32) × (Nat → Int32))
  | 0, _, _, _ => default
  | fm + 1, lx61, lx62, lx63 => if (0 : Int32) < ((F_WR_size (264 : Int32) lx62) : Int32) then (F_WR_written_J67 (F_WR_written_L50 x2 x3 t0_0 t0_1 t0_2 t0_3 t0_4 t0_5 t0_6 t1_0 t2_0 t3_0 t4_0 lx33 fm) x2 x3 t0_0 t0_1 t0_2 t0_3 t0_4 t0_5 t0_6 t1_0 t2_0 t3_0 t4_0 lx33 lx61 lx62 lx63) else (if lx61 = (0 : Int32) then (F_WR_written_J67 (F_WR_written_L50 x2 x3 t0_0 t0_1 t0_2 t0_3 t0_4 t0_5 t0_6 t1_0 t2_0 t3_0 t4_0 lx33 fm) x2 x3 t0_0 t0_1 t0_2 t0_3 t0_4 t0_5 t0_6 t1_0 t2_0 t3_0 t4_0 lx33 lx61 lx62 lx63) else (if (t2_0 x2.toNatClampNeg : Int32) = (0 : Int32) then (F_WR_written_J148 (F_WR_written_L50 x2 x3 t0_0 t0_1 t0_2 t0_3 t0_4 t0_5 t0_6 t1_0 t2_0 t3_0 t4_0 lx33 fm) x2 x3 t0_0 t0_1 t0_2 t0_3 t0_4 t0_5 t0_6 t1_0 t2_0 t3_0 t4_0 lx33 lx61 lx62 lx63 lx61 lx63) else (F_WR_written_J148 (F_WR_written_L50 x2 x3 t0_0 t0_1 t0_2 t0_3 t0_4 t0_5 t0_6 t1_0 t2_0 t3_0 t4_0 lx33 fm) x2 x3 t0_0 t0_1 t0_2 t0_3 t0_4 t0_5 t0_6 t1_0 t2_0 t3_0 t4_0 lx33 lx61 lx62 lx63 (lx61 + 1 : Int32) (upd lx63 lx61.toNatClampNeg 45 : (Nat → Int32)))))
def F_WR_written_J24 (x2 : Int32) (x3 : Int32) (t0_0 : Int32) (t0_1 : Int32) (t0_2 : Int32) (t0_3 : Int32) (t0_4 : Int32) (t0_5 : Int32) (t0_6 : Int32) (t1_0 : (Nat → Int32)) (t2_0 : (Nat → Int32)) (t3_0 : (Nat → Int32)) (t4_0 : (Nat → Int32)) (lx33 : Int32) : Int32 × Int32 × Int32 × Int32 × Int32 × Int32 × Int32 × Int32 × (Nat → Int32) × (Nat → Int32) := if lx33 ≤ (0 : Int32) then (F_WR_written_L50 x2 x3 t0_0 t0_1 t0_2 t0_3 t0_4 t0_5 t0_6 t1_0 t2_0 t3_0 t4_0 lx33 ((2100 - (0 : Int32).toInt).toNat + 1) 0 ((F_WR_take x2 (264 : Int32) lx33 t0_1 t0_2 t0_3 t0_4 t0_5 t0_6 t1_0 t3_0) : (Nat → Int32)) t4_0) else (((0 : Int32), lx33, t0_1, t0_2, t0_3, t0_4, t0_5, t0_6, t3_0, t4_0))
def F_WR_written_J19 (x2 : Int32) (x3 : Int32) (t0_0 : Int32) (t0_1 : Int32) (t0_2 : Int32) (t0_3 : Int32) (t0_4 : Int32) (t0_5 : Int32) (t0_6 : Int32) (t1_0 : (Nat → Int32)) (t2_0 : (Nat → Int32)) (t3_0 : (Nat → Int32)) (t4_0 : (Nat → Int32)) : Int32 × Int32 × Int32 × Int32 × Int32 × Int32 × Int32 × Int32 × (Nat → Int32) × (Nat → Int32) := F_WR_written_J24 x2 x3 t0_0 t0_1 t0_2 t0_3 t0_4 t0_5 t0_6 t1_0 t2_0 t3_0 t4_0 1
def F_WR_written (x2 : Int32) (x3 : Int32) (t0_0 : Int32) (t0_1 : Int32) (t0_2 : Int32) (t0_3 : Int32) (t0_4 : Int32) (t0_5 : Int32) (t0_6 : Int32) (t1_0 : (Nat → Int32)) (t2_0 : (Nat → Int32)) (t3_0 : (Nat → Int32)) (t4_0 : (Nat → Int32)) : Int32 × Int32 × Int32 × Int32 × Int32 × Int32 × Int32 × Int32 × (Nat → Int32) × (Nat → Int32) := if ((F_WR_no x2) : Int32) = (0 : Int32) then (if x3 < (2 : Int32) then (F_WR_written_J19 x2 x3 t0_0 t0_1 t0_2 t0_3 t0_4 t0_5 t0_6 t1_0 t2_0 t3_0 t4_0) else (if x3 ≤ (36 : Int32) then (F_WR_written_J24 x2 x3 t0_0 t0_1 t0_2 t0_3 t0_4 t0_5 t0_6 t1_0 t2_0 t3_0 t4_0 0) else (F_WR_written_J19 x2 x3 t0_0 t0_1 t0_2 t0_3 t0_4 t0_5 t0_6 t1_0 t2_0 t3_0 t4_0))) else (F_WR_written_J19 x2 x3 t0_0 t0_1 t0_2 t0_3 t0_4 t0_5 t0_6 t1_0 t2_0 t3_0 t4_0)
def S_WR_written_c72 (K_S_WR_written_L50 : Int32 → (Nat → Int32) → (Nat → Int32) → Prop) (x2 : Int32) (x3 : Int32) (t0_0 : Int32) (t0_1 : Int32) (t0_2 : Int32) (t0_3 : Int32) (t0_4 : Int32) (t0_5 : Int32) (t0_6 : Int32) (t1_0 : (Nat → Int32)) (t2_0 : (Nat → Int32)) (t3_0 : (Nat → Int32)) (t4_0 : (Nat → Int32)) (lx33 : Int32) (lx61 : Int32) (lx62 : (Nat → Int32)) (lx63 : (Nat → Int32)) (p104 : (Int32 × (Nat → Int32))) : Prop := if (10 : Int32) ≤ (p104.1 : Int32) then ((lx61.toInt ≤ 2099) ∧ (K_S_WR_written_L50 (lx61 + 1 : Int32) (p104.2 : (Nat → Int32)) (upd lx63 lx61.toNatClampNeg ((97 + (p104.1 : Int32) : Int32) - 10 : Int32) : (Nat → Int32)))) else ((lx61.toInt ≤ 2099) ∧ (K_S_WR_written_L50 (lx61 + 1 : Int32) (p104.2 : (Nat → Int32)) (upd lx63 lx61.toNatClampNeg (48 + (p104.1 : Int32) : Int32) : (Nat → Int32))))
def S_WR_written_J67 (K_S_WR_written_L50 : Int32 → (Nat → Int32) → (Nat → Int32) → Prop) (x2 : Int32) (x3 : Int32) (t0_0 : Int32) (t0_1 : Int32) (t0_2 : Int32) (t0_3 : Int32) (t0_4 : Int32) (t0_5 : Int32) (t0_6 : Int32) (t1_0 : (Nat → Int32)) (t2_0 : (Nat → Int32)) (t3_0 : (Nat → Int32)) (t4_0 : (Nat → Int32)) (lx33 : Int32) (lx61 : Int32) (lx62 : (Nat → Int32)) (lx63 : (Nat → Int32)) : Prop := (True ∧ S_WR_shrink (264 : Int32) x3 lx62) ∧ (S_WR_written_c72 K_S_WR_written_L50 x2 x3 t0_0 t0_1 t0_2 t0_3 t0_4 t0_5 t0_6 t1_0 t2_0 t3_0 t4_0 lx33 lx61 lx62 lx63 ((F_WR_shrink (264 : Int32) x3 lx62) : (Int32 × (Nat → Int32))))
def S_WR_written_L158 (K_S_WR_written_L50 : Int32 → (Nat → Int32) → (Nat → Int32) → Prop) (x2 : Int32) (x3 : Int32) (t0_0 : Int32) (t0_1 : Int32) (t0_2 : Int32) (t0_3 : Int32) (t0_4 : Int32) (t0_5 : Int32) (t0_6 : Int32) (t1_0 : (Nat → Int32)) (t2_0 : (Nat → Int32)) (t3_0 : (Nat → Int32)) (t4_0 : (Nat → Int32)) (lx33 : Int32) (lx61 : Int32) (lx62 : (Nat → Int32)) (lx63 : (Nat → Int32)) (lx152 : Int32) (lx153 : (Nat → Int32)) : Nat → Int32 → Int32 → (Nat → Int32) → Prop
  | 0, _, _, _ => False
  | fm + 1, lx174, lx175, lx176 => if lx174 ≤ lx175 then (True) else ((lx174.toInt ≤ 2099) ∧ (S_WR_written_L158 K_S_WR_written_L50 x2 x3 t0_0 t0_1 t0_2 t0_3 t0_4 t0_5 t0_6 t1_0 t2_0 t3_0 t4_0 lx33 lx61 lx62 lx63 lx152 lx153 fm (lx174 + (-1) : Int32) (lx175 + 1 : Int32) (upd (upd lx176 lx175.toNatClampNeg (lx176 lx174.toNatClampNeg : Int32) : (Nat → Int32)) lx174.toNatClampNeg (lx176 lx175.toNatClampNeg : Int32) : (Nat → Int32))))
def S_WR_written_J148 (K_S_WR_written_L50 : Int32 → (Nat → Int32) → (Nat → Int32) → Prop) (x2 : Int32) (x3 : Int32) (t0_0 : Int32) (t0_1 : Int32) (t0_2 : Int32) (t0_3 : Int32) (t0_4 : Int32) (t0_5 : Int32) (t0_6 : Int32) (t1_0 : (Nat → Int32)) (t2_0 : (Nat → Int32)) (t3_0 : (Nat → Int32)) (t4_0 : (Nat → Int32)) (lx33 : Int32) (lx61 : Int32) (lx62 : (Nat → Int32)) (lx63 : (Nat → Int32)) (lx152 : Int32) (lx153 : (Nat → Int32)) : Prop := S_WR_written_L158 K_S_WR_written_L50 x2 x3 t0_0 t0_1 t0_2 t0_3 t0_4 t0_5 t0_6 t1_0 t2_0 t3_0 t4_0 lx33 lx61 lx62 lx63 lx152 lx153 (((lx152 - 1 : Int32).toInt - ((-1))).toNat + 1) (lx152 - 1 : Int32) 0 lx153
def S_WR_written_L50 (x2 : Int32) (x3 : Int32) (t0_0 : Int32) (t0_1 : Int32) (t0_2 : Int32) (t0_3 : Int32) (t0_4 : Int32) (t0_5 : Int32) (t0_6 : Int32) (t1_0 : (Nat → Int32)) (t2_0 : (Nat → Int32)) (t3_0 : (Nat → Int32)) (t4_0 : (Nat → Int32)) (lx33 : Int32) : Nat → Int32 → (Nat → Int32) → (Nat → Int32) → Prop
  | 0, _, _, _ => False
  | fm + 1, lx61, lx62, lx63 => if (0 : Int32) < ((F_WR_size (264 : Int32) lx62) : Int32) then (S_WR_written_J67 (S_WR_written_L50 x2 x3 t0_0 t0_1 t0_2 t0_3 t0_4 t0_5 t0_6 t1_0 t2_0 t3_0 t4_0 lx33 fm) x2 x3 t0_0 t0_1 t0_2 t0_3 t0_4 t0_5 t0_6 t1_0 t2_0 t3_0 t4_0 lx33 lx61 lx62 lx63) else (if lx61 = (0 : Int32) then (S_WR_written_J67 (S_WR_written_L50 x2 x3 t0_0 t0_1 t0_2 t0_3 t0_4 t0_5 t0_6 t1_0 t2_0 t3_0 t4_0 lx33 fm) x2 x3 t0_0 t0_1 t0_2 t0_3 t0_4 t0_5 t0_6 t1_0 t2_0 t3_0 t4_0 lx33 lx61 lx62 lx63) else ((0 ≤ x2.toInt) ∧ ((x2.toInt ≤ 10) ∧ (if (t2_0 x2.toNatClampNeg : Int32) = (0 : Int32) then (S_WR_written_J148 (S_WR_written_L50 x2 x3 t0_0 t0_1 t0_2 t0_3 t0_4 t0_5 t0_6 t1_0 t2_0 t3_0 t4_0 lx33 fm) x2 x3 t0_0 t0_1 t0_2 t0_3 t0_4 t0_5 t0_6 t1_0 t2_0 t3_0 t4_0 lx33 lx61 lx62 lx63 lx61 lx63) else ((lx61.toInt ≤ 2099) ∧ (S_WR_written_J148 (S_WR_written_L50 x2 x3 t0_0 t0_1 t0_2 t0_3 t0_4 t0_5 t0_6 t1_0 t2_0 t3_0 t4_0 lx33 fm) x2 x3 t0_0 t0_1 t0_2 t0_3 t0_4 t0_5 t0_6 t1_0 t2_0 t3_0 t4_0 lx33 lx61 lx62 lx63 (lx61 + 1 : Int32) (upd lx63 lx61.toNatClampNeg 45 : (Nat → Int32))))))))
def S_WR_written_J24 (x2 : Int32) (x3 : Int32) (t0_0 : Int32) (t0_1 : Int32) (t0_2 : Int32) (t0_3 : Int32) (t0_4 : Int32) (t0_5 : Int32) (t0_6 : Int32) (t1_0 : (Nat → Int32)) (t2_0 : (Nat → Int32)) (t3_0 : (Nat → Int32)) (t4_0 : (Nat → Int32)) (lx33 : Int32) : Prop := if lx33 ≤ (0 : Int32) then ((True ∧ S_WR_take x2 (264 : Int32) lx33 t0_1 t0_2 t0_3 t0_4 t0_5 t0_6 t1_0 t3_0) ∧ (S_WR_written_L50 x2 x3 t0_0 t0_1 t0_2 t0_3 t0_4 t0_5 t0_6 t1_0 t2_0 t3_0 t4_0 lx33 ((2100 - (0 : Int32).toInt).toNat + 1) 0 ((F_WR_take x2 (264 : Int32) lx33 t0_1 t0_2 t0_3 t0_4 t0_5 t0_6 t1_0 t3_0) : (Nat → Int32)) t4_0)) else (True)
def S_WR_written_J19 (x2 : Int32) (x3 : Int32) (t0_0 : Int32) (t0_1 : Int32) (t0_2 : Int32) (t0_3 : Int32) (t0_4 : Int32) (t0_5 : Int32) (t0_6 : Int32) (t1_0 : (Nat → Int32)) (t2_0 : (Nat → Int32)) (t3_0 : (Nat → Int32)) (t4_0 : (Nat → Int32)) : Prop := S_WR_written_J24 x2 x3 t0_0 t0_1 t0_2 t0_3 t0_4 t0_5 t0_6 t1_0 t2_0 t3_0 t4_0 1
def S_WR_written (x2 : Int32) (x3 : Int32) (t0_0 : Int32) (t0_1 : Int32) (t0_2 : Int32) (t0_3 : Int32) (t0_4 : Int32) (t0_5 : Int32) (t0_6 : Int32) (t1_0 : (Nat → Int32)) (t2_0 : (Nat → Int32)) (t3_0 : (Nat → Int32)) (t4_0 : (Nat → Int32)) : Prop := if ((F_WR_no x2) : Int32) = (0 : Int32) then (if x3 < (2 : Int32) then (S_WR_written_J19 x2 x3 t0_0 t0_1 t0_2 t0_3 t0_4 t0_5 t0_6 t1_0 t2_0 t3_0 t4_0) else (if x3 ≤ (36 : Int32) then (S_WR_written_J24 x2 x3 t0_0 t0_1 t0_2 t0_3 t0_4 t0_5 t0_6 t1_0 t2_0 t3_0 t4_0 0) else (S_WR_written_J19 x2 x3 t0_0 t0_1 t0_2 t0_3 t0_4 t0_5 t0_6 t1_0 t2_0 t3_0 t4_0))) else (S_WR_written_J19 x2 x3 t0_0 t0_1 t0_2 t0_3 t0_4 t0_5 t0_6 t1_0 t2_0 t3_0 t4_0)
set_option maxRecDepth 100000 in
set_option maxHeartbeats 4000000 in
theorem X_WR_written (l : Launch) (D : va_G) (g : Nat → ClassId) (q : Nat → Nat) (ws : va_W) (x2 : Int32) (x3 : Int32) (hI : q_I (msh g q) q ws) (t0_0 : Int32) (t0_1 : Int32) (t0_2 : Int32) (t0_3 : Int32) (t0_4 : Int32) (t0_5 : Int32) (t0_6 : Int32) (hT0 : ws[119]? = (some (q 119, .inr (13, [.int t0_0, .int t0_1, .ref (q 120), .int t0_2, .ref (q 121), .ref (q 122), .ref (q 123), .int t0_3, .ref (q 124), .ref (q 125), .ref (q 126), .ref (q 127), .ref (q 128), .ref (q 129), .ref (q 130), .ref (q 131), .int t0_4, .int t0_5, .ref (q 132), .ref (q 133), .int t0_6])) : Option (Nat × va_E))) (t1_0 : (Nat → Int32)) (hT1 : ws[121]? = (some (q 121, .inl (g 0, (1408 : Int32).toNatClampNeg, .inl t1_0)) : Option (Nat × va_E))) (t2_0 : (Nat → Int32)) (hT2 : ws[122]? = (some (q 122, .inl (g 3, 11, .inl t2_0)) : Option (Nat × va_E))) (t3_0 : (Nat → Int32)) (hT3 : ws[128]? = (some (q 128, .inl (g 0, (264 : Int32).toNatClampNeg, .inl t3_0)) : Option (Nat × va_E))) (t4_0 : (Nat → Int32)) (hT4 : ws[133]? = (some (q 133, .inl (g 0, (2100 : Int32).toNatClampNeg, .inl t4_0)) : Option (Nat × va_E))) (hS : True ∧ S_WR_written x2 x3 t0_0 t0_1 t0_2 t0_3 t0_4 t0_5 t0_6 t1_0 t2_0 t3_0 t4_0) : q_mI l y_WR_written prog_19_method_42_code 6 (.int) 3 0 0 D g [.ref (q 119), .int x2, .int x3] ws (fun r u => q_I (msh g q) q u ∧ q_un ws u [119, 128, 133] ∧ ∃ (u0_0 : Int32) (u0_1 : Int32) (u0_2 : Int32) (u0_3 : Int32) (u0_4 : Int32) (u0_5 : Int32) (u0_6 : Int32) (u3_0 : (Nat → Int32)) (u4_0 : (Nat → Int32)), u[119]? = (some (q 119, .inr (13, [.int u0_0, .int u0_1, .ref (q 120), .int u0_2, .ref (q 121), .ref (q 122), .ref (q 123), .int u0_3, .ref (q 124), .ref (q 125), .ref (q 126), .ref (q 127), .ref (q 128), .ref (q 129), .ref (q 130), .ref (q 131), .int u0_4, .int u0_5, .ref (q 132), .ref (q 133), .int u0_6])) : Option (Nat × va_E)) ∧ u[128]? = (some (q 128, .inl (g 0, (264 : Int32).toNatClampNeg, .inl u3_0)) : Option (Nat × va_E)) ∧ u[133]? = (some (q 133, .inl (g 0, (2100 : Int32).toNatClampNeg, .inl u4_0)) : Option (Nat × va_E)) ∧ (0 ≤ r.toInt) ∧ (0 ≤ u0_0.toInt) ∧ (u0_0.toInt ≤ 1) ∧ (u0_6.toInt ≤ 2100) ∧ (t0_1.toInt ≤ u0_1.toInt) ∧ (u0_1.toInt ≤ t0_1.toInt) ∧ (t0_2.toInt ≤ u0_2.toInt) ∧ (u0_2.toInt ≤ t0_2.toInt) ∧ (t0_3.toInt ≤ u0_3.toInt) ∧ (u0_3.toInt ≤ t0_3.toInt) ∧ (t0_4.toInt ≤ u0_4.toInt) ∧ (u0_4.toInt ≤ t0_4.toInt) ∧ (t0_5.toInt ≤ u0_5.toInt) ∧ (u0_5.toInt ≤ t0_5.toInt) ∧ (t0_6.toInt ≤ u0_6.toInt + 2099) ∧ (r.toInt ≤ u0_6.toInt) ∧ (r, u0_0, u0_1, u0_2, u0_3, u0_4, u0_5, u0_6, u3_0, u4_0) = (F_WR_written x2 x3 t0_0 t0_1 t0_2 t0_3 t0_4 t0_5 t0_6 t1_0 t2_0 t3_0 t4_0)) := by
  intro sz
  refine q_into (by decide) (Nat.le_of_ble_eq_true rfl) ?_
  intro p e s m below meth c ls hsz C0 V hl
  have hx := C0.1
  have hb := C0.2.1
  obtain ⟨btt0_2, hZ9⟩ := n_w119 hI hT0
  obtain ⟨btt0_3, hZ9⟩ := hZ9
  obtain ⟨btt0_4, hZ9⟩ := hZ9
  obtain ⟨btt0_5, btt0_6⟩ := hZ9
  replace btt0_2 : q_F (0 ≤ t0_2.toInt ∧ t0_2.toInt ≤ 4100) := btt0_2
  replace btt0_3 : q_F (0 ≤ t0_3.toInt ∧ t0_3.toInt ≤ 1) := btt0_3
  replace btt0_4 : q_F (0 ≤ t0_4.toInt ∧ t0_4.toInt ≤ 1) := btt0_4
  replace btt0_5 : q_F (0 ≤ t0_5.toInt ∧ t0_5.toInt ≤ 1) := btt0_5
  replace btt0_6 : q_F (0 ≤ t0_6.toInt ∧ t0_6.toInt ≤ 2100) := btt0_6
  have hF : q_un ws ws [119, 128, 133] := q_u0
  have hl : lv_has ls 6 [(0, .ref (q 119)), (1, .int x2), (2, .int x3)] := hl
  refine lv_aload_n hx hb d_19_42_0 rfl (lv_at hl 0 rfl) ?_
  refine lv_iload_n hx hb d_19_42_1 rfl (lv_at hl 1 rfl) ?_
  refine q_goi V (q_runS (As := [.int x2]) (rest := [.ref (q 119)]) (d := 1) (mc := 0) (ms := 0) C0 V rfl LS_WR_91 (X_WR_no l D g q ws  x2 hI   _) rfl hl.1 rfl (Nat.le_of_ble_eq_true rfl) ⟨by decide, by decide⟩ ⟨Nat.le_of_ble_eq_true rfl, Nat.le_of_ble_eq_true rfl⟩ d_19_42_2) (fun a28 u26 H locs hp27 V => ?_)
  obtain ⟨rfl, b29, b30, hE31⟩ := hp27
  have e32 : a28 = (F_WR_no x2) := hE31
  clear b29
  clear b30
  refine q_join (X := Int32) (fun z H locs ls _ => q_F (0 ≤ z.toInt) ∧ q_F (z.toInt ≤ 1) ∧ q_Wd D g (va_A ws sz) s ws H locs ∧ lv_has ls 6 [(0, .ref (q 119)), (1, .int x2), (2, .int x3)] ∧ F_WR_written_J24 x2 x3 t0_0 t0_1 t0_2 t0_3 t0_4 t0_5 t0_6 t1_0 t2_0 t3_0 t4_0 z = (F_WR_written x2 x3 t0_0 t0_1 t0_2 t0_3 t0_4 t0_5 t0_6 t1_0 t2_0 t3_0 t4_0) ∧ True ∧ S_WR_written_J24 x2 x3 t0_0 t0_1 t0_2 t0_3 t0_4 t0_5 t0_6 t1_0 t2_0 t3_0 t4_0 z) (fun z => [.int z, .ref (q 119)]) 24 0 0 ?_ ?_
  ·
    rintro lx33 H locs ls _ hZ9
    obtain ⟨i40, hZ9⟩ := hZ9
    obtain ⟨i41, hZ9⟩ := hZ9
    obtain ⟨V, hZ9⟩ := hZ9
    obtain ⟨hl, hZ9⟩ := hZ9
    obtain ⟨hR42, hS43⟩ := hZ9
    replace i40 : q_F (0 ≤ lx33.toInt) := i40
    replace i41 : q_F (lx33.toInt ≤ 1) := i41
    replace hl : lv_has ls 6 [(0, .ref (q 119)), (1, .int x2), (2, .int x3)] := hl
    refine q_put (ci := 13) (j := 0) (v := .int lx33) (ty := .int) C0 V i_WR o_WR n_WR rfl rfl hT0 (by decide) w_1921 rfl rfl rfl rfl (Nat.le_of_ble_eq_true rfl) d_19_42_24 (fun H locs w47 hu48 hT0 V => ?_)
    replace hT0 : w47[119]? = (some (q 119, .inr (13, [.int lx33, .int t0_1, .ref (q 120), .int t0_2, .ref (q 121), .ref (q 122), .ref (q 123), .int t0_3, .ref (q 124), .ref (q 125), .ref (q 126), .ref (q 127), .ref (q 128), .ref (q 129), .ref (q 130), .ref (q 131), .int t0_4, .int t0_5, .ref (q 132), .ref (q 133), .int t0_6])) : Option (Nat × va_E)) := hT0
    replace hI := n_p119 hI hu48 hT0 (by first | with_reducible exact q_fe btt0_2 | exact ⟨(by have t1 : 0 ≤ t0_2.toInt ∧ t0_2.toInt ≤ 4100 := btt0_2; omega), (by have t1 : 0 ≤ t0_2.toInt ∧ t0_2.toInt ≤ 4100 := btt0_2; omega)⟩) (by first | with_reducible exact q_fe btt0_3 | exact ⟨(by have t1 : 0 ≤ t0_3.toInt ∧ t0_3.toInt ≤ 1 := btt0_3; omega), (by have t1 : 0 ≤ t0_3.toInt ∧ t0_3.toInt ≤ 1 := btt0_3; omega)⟩) (by first | with_reducible exact q_fe btt0_4 | exact ⟨(by have t1 : 0 ≤ t0_4.toInt ∧ t0_4.toInt ≤ 1 := btt0_4; omega), (by have t1 : 0 ≤ t0_4.toInt ∧ t0_4.toInt ≤ 1 := btt0_4; omega)⟩) (by first | with_reducible exact q_fe btt0_5 | exact ⟨(by have t1 : 0 ≤ t0_5.toInt ∧ t0_5.toInt ≤ 1 := btt0_5; omega), (by have t1 : 0 ≤ t0_5.toInt ∧ t0_5.toInt ≤ 1 := btt0_5; omega)⟩) (by first | with_reducible exact q_fe btt0_6 | exact ⟨(by have t1 : 0 ≤ t0_6.toInt ∧ t0_6.toInt ≤ 2100 := btt0_6; omega), (by have t1 : 0 ≤ t0_6.toInt ∧ t0_6.toInt ≤ 2100 := btt0_6; omega)⟩)
    replace hT1 := (hu48 _ (by decide)).trans hT1
    replace hT2 := (hu48 _ (by decide)).trans hT2
    replace hT3 := (hu48 _ (by decide)).trans hT3
    replace hT4 := (hu48 _ (by decide)).trans hT4
    replace hF := q_us hF hu48 (by simp)
    refine lv_aload_n hx hb d_19_42_27 rfl (lv_at hl 0 rfl) ?_
    refine q_get (ci := 13) (j := 0) (v := .int lx33) C0 V i_WR rfl rfl hT0 (by decide) w_1921 rfl d_19_42_28 ?_
    refine lv_if_le (tgt := 36) hx hb d_19_42_31 (by decide) (fun c49 => ?_) (fun c49 => ?_)
    ·
      have b50 : q_F (lx33.toInt ≤ 0) := (q_leI c49)
      refine lv_aload_n hx hb d_19_42_36 rfl (lv_at hl 0 rfl) ?_
      refine lv_iload_n hx hb d_19_42_37 rfl (lv_at hl 1 rfl) ?_
      refine lv_aload_n hx hb d_19_42_38 rfl (lv_at hl 0 rfl) ?_
      refine q_get (ci := 13) (j := 12) (v := .ref (q 128)) C0 V i_WR rfl rfl hT0 (by decide) w_1936 rfl d_19_42_39 ?_
      have ob51 : True ∧ S_WR_take x2 (264 : Int32) lx33 t0_1 t0_2 t0_3 t0_4 t0_5 t0_6 t1_0 t3_0 := (by have h := hS43; rw [S_WR_written_J24.eq_1] at h; rw [if_pos c49] at h; with_reducible exact h.2.1)
      refine q_gov V (q_runV (As := [.int x2, .ref (q 128)]) (rest := []) (d := 1) (mc := 0) (ms := 0) (ci := 13) C0 V rfl LV_WR_107 (X_WR_take l D g q w47 128 264 (n_r128 g q) x2 (by decide) hI lx33 t0_1 t0_2 t0_3 t0_4 t0_5 t0_6 hT0 t1_0 hT1 t3_0 hT3 ob51 _) rfl rfl hT0 rfl hl.1 rfl (Nat.le_of_ble_eq_true rfl) ⟨by decide, by decide⟩ ⟨Nat.le_of_ble_eq_true rfl, Nat.le_of_ble_eq_true rfl⟩ d_19_42_42) (fun u52 H locs hp53 V => ?_)
      obtain ⟨hI, hu57, f54, hA55, hE56⟩ := hp53
      replace hA55 : u52[128]? = (some (q 128, .inl (g 0, (264 : Int32).toNatClampNeg, .inl f54)) : Option (Nat × va_E)) := hA55
      have e58 : f54 = (F_WR_take x2 (264 : Int32) lx33 t0_1 t0_2 t0_3 t0_4 t0_5 t0_6 t1_0 t3_0) := hE56
      replace hT0 := (hu57 _ (by decide)).trans hT0
      replace hT1 := (hu57 _ (by decide)).trans hT1
      replace hT2 := (hu57 _ (by decide)).trans hT2
      replace hT4 := (hu57 _ (by decide)).trans hT4
      replace hF := q_uc hF hu57 (by simp)
      refine lv_aload_n hx hb d_19_42_45 rfl (lv_at hl 0 rfl) ?_
      refine lv_iconst (v := 0) hx hb d_19_42_46 (by decide) ?_
      refine q_put (ci := 13) (j := 20) (v := .int 0) (ty := .int) C0 V i_WR o_WR n_WR rfl rfl hT0 (by decide) w_1945 rfl rfl rfl rfl (Nat.le_of_ble_eq_true rfl) d_19_42_47 (fun H locs w59 hu60 hT0 V => ?_)
      replace hT0 : w59[119]? = (some (q 119, .inr (13, [.int lx33, .int t0_1, .ref (q 120), .int t0_2, .ref (q 121), .ref (q 122), .ref (q 123), .int t0_3, .ref (q 124), .ref (q 125), .ref (q 126), .ref (q 127), .ref (q 128), .ref (q 129), .ref (q 130), .ref (q 131), .int t0_4, .int t0_5, .ref (q 132), .ref (q 133), .int 0])) : Option (Nat × va_E)) := hT0
      replace hI := n_p119 hI hu60 hT0 (by first | with_reducible exact q_fe btt0_2 | exact ⟨(by have t1 : 0 ≤ t0_2.toInt ∧ t0_2.toInt ≤ 4100 := btt0_2; omega), (by have t1 : 0 ≤ t0_2.toInt ∧ t0_2.toInt ≤ 4100 := btt0_2; omega)⟩) (by first | with_reducible exact q_fe btt0_3 | exact ⟨(by have t1 : 0 ≤ t0_3.toInt ∧ t0_3.toInt ≤ 1 := btt0_3; omega), (by have t1 : 0 ≤ t0_3.toInt ∧ t0_3.toInt ≤ 1 := btt0_3; omega)⟩) (by first | with_reducible exact q_fe btt0_4 | exact ⟨(by have t1 : 0 ≤ t0_4.toInt ∧ t0_4.toInt ≤ 1 := btt0_4; omega), (by have t1 : 0 ≤ t0_4.toInt ∧ t0_4.toInt ≤ 1 := btt0_4; omega)⟩) (by first | with_reducible exact q_fe btt0_5 | exact ⟨(by have t1 : 0 ≤ t0_5.toInt ∧ t0_5.toInt ≤ 1 := btt0_5; omega), (by have t1 : 0 ≤ t0_5.toInt ∧ t0_5.toInt ≤ 1 := btt0_5; omega)⟩) ⟨(by have z9 : (0 : Int32).toInt = 0 := rfl; omega), (by have z9 : (0 : Int32).toInt = 0 := rfl; omega)⟩
      replace hT1 := (hu60 _ (by decide)).trans hT1
      replace hT2 := (hu60 _ (by decide)).trans hT2
      replace hA55 := (hu60 _ (by decide)).trans hA55
      replace hT4 := (hu60 _ (by decide)).trans hT4
      replace hF := q_us hF hu60 (by simp)
      refine q_loop (X := Int32 × (Nat → Int32) × (Nat → Int32)) (fun z H locs ls w67 => q_F (z.1.toInt ≤ 2100) ∧ q_F (lx33.toInt ≤ z.1.toInt) ∧ q_Wd D g (va_A ws sz) s w67 H locs ∧ lv_has ls 6 [(0, .ref (q 119)), (1, .int x2), (2, .int x3)] ∧ q_I (msh g q) q w67 ∧ q_un ws w67 [119, 128, 133] ∧ w67[119]? = (some (q 119, .inr (13, [.int lx33, .int t0_1, .ref (q 120), .int t0_2, .ref (q 121), .ref (q 122), .ref (q 123), .int t0_3, .ref (q 124), .ref (q 125), .ref (q 126), .ref (q 127), .ref (q 128), .ref (q 129), .ref (q 130), .ref (q 131), .int t0_4, .int t0_5, .ref (q 132), .ref (q 133), .int z.1])) : Option (Nat × va_E)) ∧ w67[121]? = (some (q 121, .inl (g 0, (1408 : Int32).toNatClampNeg, .inl t1_0)) : Option (Nat × va_E)) ∧ w67[122]? = (some (q 122, .inl (g 3, 11, .inl t2_0)) : Option (Nat × va_E)) ∧ w67[128]? = (some (q 128, .inl (g 0, (264 : Int32).toNatClampNeg, .inl z.2.1)) : Option (Nat × va_E)) ∧ w67[133]? = (some (q 133, .inl (g 0, (2100 : Int32).toNatClampNeg, .inl z.2.2)) : Option (Nat × va_E)) ∧ (∃ n, (2100 - z.1.toInt).toNat < n ∧ F_WR_written_L50 x2 x3 t0_0 t0_1 t0_2 t0_3 t0_4 t0_5 t0_6 t1_0 t2_0 t3_0 t4_0 lx33 n z.1 z.2.1 z.2.2 = (F_WR_written x2 x3 t0_0 t0_1 t0_2 t0_3 t0_4 t0_5 t0_6 t1_0 t2_0 t3_0 t4_0) ∧ True ∧ S_WR_written_L50 x2 x3 t0_0 t0_1 t0_2 t0_3 t0_4 t0_5 t0_6 t1_0 t2_0 t3_0 t4_0 lx33 n z.1 z.2.1 z.2.2)) (fun z => (2100 - z.1.toInt).toNat) ?_ ((0 : Int32), (f54 : (Nat → Int32)), (t4_0 : (Nat → Int32))) _ _ _ w59 ⟨(show q_F (0 ≤ 2100) from (show 0 ≤ 2100 from by omega)), (show q_F (lx33.toInt ≤ 0) from (show lx33.toInt ≤ 0 from by have t1 : lx33.toInt ≤ 0 := b50; omega)), V, q_lw hl (q_lw1 0 rfl (q_lw1 1 rfl (q_lw1 2 rfl q_lw0))), hI, hF, hT0, hT1, hT2, hA55, hT4, ⟨((2100 - (0 : Int32).toInt).toNat + 1), Nat.lt_succ_self _, (show F_WR_written_L50 x2 x3 t0_0 t0_1 t0_2 t0_3 t0_4 t0_5 t0_6 t1_0 t2_0 t3_0 t4_0 lx33 ((2100 - (0 : Int32).toInt).toNat + 1) 0 f54 t4_0 = (F_WR_written x2 x3 t0_0 t0_1 t0_2 t0_3 t0_4 t0_5 t0_6 t1_0 t2_0 t3_0 t4_0) from Eq.trans (by rw [e58, F_WR_written_J24.eq_1, if_pos c49]) hR42), (show True ∧ S_WR_written_L50 x2 x3 t0_0 t0_1 t0_2 t0_3 t0_4 t0_5 t0_6 t1_0 t2_0 t3_0 t4_0 lx33 ((2100 - (0 : Int32).toInt).toNat + 1) 0 f54 t4_0 from (by rw [e58]; have h := hS43; rw [S_WR_written_J24.eq_1] at h; rw [if_pos c49] at h; replace h := q_s2 h; with_reducible exact h))⟩⟩
      rintro ⟨lx61, lx62, lx63⟩ H locs ls w67 ⟨i64, i65, V, hl, hI, hF, hO68, hO69, hO70, hO71, hO72, ⟨fu75, hf76, hR73, hS74⟩⟩ ih66
      obtain ⟨fm77, rfl⟩ : ∃ m, fu75 = m + 1 := ⟨fu75 - 1, by omega⟩
      replace i64 : q_F (lx61.toInt ≤ 2100) := i64
      replace i65 : q_F (lx33.toInt ≤ lx61.toInt) := i65
      replace hl : lv_has ls 6 [(0, .ref (q 119)), (1, .int x2), (2, .int x3)] := hl
      replace hO68 : w67[119]? = (some (q 119, .inr (13, [.int lx33, .int t0_1, .ref (q 120), .int t0_2, .ref (q 121), .ref (q 122), .ref (q 123), .int t0_3, .ref (q 124), .ref (q 125), .ref (q 126), .ref (q 127), .ref (q 128), .ref (q 129), .ref (q 130), .ref (q 131), .int t0_4, .int t0_5, .ref (q 132), .ref (q 133), .int lx61])) : Option (Nat × va_E)) := hO68
      replace hO69 : w67[121]? = (some (q 121, .inl (g 0, (1408 : Int32).toNatClampNeg, .inl t1_0)) : Option (Nat × va_E)) := hO69
      replace hO70 : w67[122]? = (some (q 122, .inl (g 3, 11, .inl t2_0)) : Option (Nat × va_E)) := hO70
      replace hO71 : w67[128]? = (some (q 128, .inl (g 0, (264 : Int32).toNatClampNeg, .inl lx62)) : Option (Nat × va_E)) := hO71
      replace hO72 : w67[133]? = (some (q 133, .inl (g 0, (2100 : Int32).toNatClampNeg, .inl lx63)) : Option (Nat × va_E)) := hO72
      refine lv_aload_n hx hb d_19_42_50 rfl (lv_at hl 0 rfl) ?_
      refine q_get (ci := 13) (j := 12) (v := .ref (q 128)) C0 V i_WR rfl rfl hO68 (by decide) w_1936 rfl d_19_42_51 ?_
      refine q_goi V (q_runS (As := [.ref (q 128)]) (rest := []) (d := 1) (mc := 0) (ms := 0) C0 V rfl LS_WR_59 (X_WR_size l D g q w67 128 264 (n_r128 g q)  hI lx62 hO71  _) rfl hl.1 rfl (Nat.le_of_ble_eq_true rfl) ⟨by decide, by decide⟩ ⟨Nat.le_of_ble_eq_true rfl, Nat.le_of_ble_eq_true rfl⟩ d_19_42_54) (fun a80 u78 H locs hp79 V => ?_)
      obtain ⟨rfl, b81, b82, hE83⟩ := hp79
      have e84 : a80 = (F_WR_size (264 : Int32) lx62) := hE83
      clear b81
      clear b82
      refine q_join (X := Unit) (fun z H locs ls _ => q_Wd D g (va_A ws sz) s w67 H locs ∧ lv_has ls 6 [(0, .ref (q 119)), (1, .int x2), (2, .int x3)] ∧ F_WR_written_J67 (F_WR_written_L50 x2 x3 t0_0 t0_1 t0_2 t0_3 t0_4 t0_5 t0_6 t1_0 t2_0 t3_0 t4_0 lx33 fm77) x2 x3 t0_0 t0_1 t0_2 t0_3 t0_4 t0_5 t0_6 t1_0 t2_0 t3_0 t4_0 lx33 lx61 lx62 lx63 = (F_WR_written x2 x3 t0_0 t0_1 t0_2 t0_3 t0_4 t0_5 t0_6 t1_0 t2_0 t3_0 t4_0) ∧ True ∧ S_WR_written_J67 (S_WR_written_L50 x2 x3 t0_0 t0_1 t0_2 t0_3 t0_4 t0_5 t0_6 t1_0 t2_0 t3_0 t4_0 lx33 fm77) x2 x3 t0_0 t0_1 t0_2 t0_3 t0_4 t0_5 t0_6 t1_0 t2_0 t3_0 t4_0 lx33 lx61 lx62 lx63) (fun z => []) 67 0 0 ?_ ?_
      ·
        rintro _ H locs ls _ ⟨V, hl, hR91, hS92⟩
        replace hl : lv_has ls 6 [(0, .ref (q 119)), (1, .int x2), (2, .int x3)] := hl
        refine lv_aload_n hx hb d_19_42_67 rfl (lv_at hl 0 rfl) ?_
        refine q_get (ci := 13) (j := 12) (v := .ref (q 128)) C0 V i_WR rfl rfl hO68 (by decide) w_1936 rfl d_19_42_68 ?_
        refine lv_iload_n hx hb d_19_42_71 rfl (lv_at hl 2 rfl) ?_
        have ob96 : True ∧ S_WR_shrink (264 : Int32) x3 lx62 := (by have h := hS92; rw [S_WR_written_J67.eq_1] at h; with_reducible exact h.2.1)
        refine q_goi V (q_runS (As := [.ref (q 128), .int x3]) (rest := []) (d := 2) (mc := 0) (ms := 0) C0 V rfl LS_WR_158 (X_WR_shrink l D g q w67 128 264 (n_r128 g q) x3 hI lx62 hO71 ob96 _) rfl hl.1 rfl (Nat.le_of_ble_eq_true rfl) ⟨by decide, by decide⟩ ⟨Nat.le_of_ble_eq_true rfl, Nat.le_of_ble_eq_true rfl⟩ d_19_42_72) (fun a99 u97 H locs hp98 V => ?_)
        obtain ⟨hI, hu103, f100, hA101, hE102⟩ := hp98
        replace hA101 : u97[128]? = (some (q 128, .inl (g 0, (264 : Int32).toNatClampNeg, .inl f100)) : Option (Nat × va_E)) := hA101
        obtain ⟨p104, e105⟩ : ∃ z, z = (F_WR_shrink (264 : Int32) x3 lx62) := ⟨_, rfl⟩
        have e106 : a99 = p104.1 := congrArg (fun z => z.1) (hE102.trans e105.symm)
        have e107 : f100 = p104.2 := congrArg (fun z => z.2) (hE102.trans e105.symm)
        replace hO68 := (hu103 _ (by decide)).trans hO68
        replace hO69 := (hu103 _ (by decide)).trans hO69
        replace hO70 := (hu103 _ (by decide)).trans hO70
        replace hO72 := (hu103 _ (by decide)).trans hO72
        replace hF := q_uc hF hu103 (by simp)
        have hR108 := (show F_WR_written_c72 (F_WR_written_L50 x2 x3 t0_0 t0_1 t0_2 t0_3 t0_4 t0_5 t0_6 t1_0 t2_0 t3_0 t4_0 lx33 fm77) x2 x3 t0_0 t0_1 t0_2 t0_3 t0_4 t0_5 t0_6 t1_0 t2_0 t3_0 t4_0 lx33 lx61 lx62 lx63 p104 = (F_WR_written x2 x3 t0_0 t0_1 t0_2 t0_3 t0_4 t0_5 t0_6 t1_0 t2_0 t3_0 t4_0) from Eq.trans (by rw [e105, F_WR_written_J67.eq_1]) hR91)
        have hS109 := (show True ∧ S_WR_written_c72 (S_WR_written_L50 x2 x3 t0_0 t0_1 t0_2 t0_3 t0_4 t0_5 t0_6 t1_0 t2_0 t3_0 t4_0 lx33 fm77) x2 x3 t0_0 t0_1 t0_2 t0_3 t0_4 t0_5 t0_6 t1_0 t2_0 t3_0 t4_0 lx33 lx61 lx62 lx63 p104 from (by rw [e105]; have h := hS92; rw [S_WR_written_J67.eq_1] at h; replace h := q_s2 h; with_reducible exact h))
        refine lv_istore_n (lv' := [(3, .int a99), (0, .ref (q 119)), (1, .int x2), (2, .int x3)]) hx hb d_19_42_75 rfl hl (by decide) rfl (fun ls hl => ?_)
        refine lv_aload_n hx hb d_19_42_76 rfl (lv_at hl 1 rfl) ?_
        refine q_get (ci := 13) (j := 19) (v := .ref (q 133)) C0 V i_WR rfl rfl hO68 (by decide) w_1943 rfl d_19_42_77 ?_
        refine lv_aload_n hx hb d_19_42_80 rfl (lv_at hl 1 rfl) ?_
        refine q_get (ci := 13) (j := 20) (v := .int lx61) C0 V i_WR rfl rfl hO68 (by decide) w_1945 rfl d_19_42_81 ?_
        refine lv_iload_n hx hb d_19_42_84 rfl (lv_at hl 0 rfl) ?_
        refine lv_bipush (v := 10) hx hb d_19_42_85 (by decide) ?_
        refine lv_icmp_ge (tgt := 97) hx hb d_19_42_87 (by decide) (fun c113 => ?_) (fun c113 => ?_)
        ·
          refine lv_bipush (v := 97) hx hb d_19_42_97 (by decide) ?_
          refine lv_iload_n hx hb d_19_42_99 rfl (lv_at hl 0 rfl) ?_
          refine lv_iadd hx hb d_19_42_100 ?_
          obtain ⟨a115, e116⟩ := q_nm (97 + a99 : Int32)
          refine q_ti (v := a115) e116 ?_
          refine lv_bipush (v := 10) hx hb d_19_42_101 (by decide) ?_
          refine lv_isub hx hb d_19_42_103 ?_
          obtain ⟨a117, e118⟩ := q_nm (a115 - 10 : Int32)
          refine q_ti (v := a117) e118 ?_
          have ob119 : q_F (lx61.toInt ≤ 2099) := (by have h := hS109; rw [S_WR_written_c72.eq_1] at h; have c113x := c113; rw [e106] at c113x; rw [if_pos c113x] at h; exact h.2.1)
          refine q_iast C0 V hO72 (q_ix (x := lx61.toInt) rfl (by have t1 : 0 ≤ lx33.toInt := i40; have t2 : lx33.toInt ≤ lx61.toInt := i65; omega) (by have t1 : 0 ≤ lx33.toInt := i40; have t2 : lx33.toInt ≤ lx61.toInt := i65; have t3 : lx61.toInt ≤ 2099 := ob119; have e9 : (((2100 : Int32).toNatClampNeg : Nat) : Int) = 2100 := (by decide); omega)) d_19_42_104 (fun H locs w120 hu121 hO72 V => ?_)
          replace hI := n_ai' hI (n_r133 g q).1 hu121 hO72 (q_updB (fun _ => s_bnd) s_bnd)
          replace hO68 := (hu121 _ (by decide)).trans hO68
          replace hO69 := (hu121 _ (by decide)).trans hO69
          replace hO70 := (hu121 _ (by decide)).trans hO70
          replace hA101 := (hu121 _ (by decide)).trans hA101
          replace hF := q_us hF hu121 (by simp)
          obtain ⟨f122, e123⟩ := q_nm (upd lx63 lx61.toNatClampNeg a117 : (Nat → Int32))
          rw [e123] at hO72
          refine lv_aload_n hx hb d_19_42_105 rfl (lv_at hl 1 rfl) ?_
          refine lv_dup hx hb d_19_42_106 rfl ?_
          refine q_get (ci := 13) (j := 20) (v := .int lx61) C0 V i_WR rfl rfl hO68 (by decide) w_1945 rfl d_19_42_107 ?_
          refine lv_iconst (v := 1) hx hb d_19_42_110 (by decide) ?_
          refine lv_iadd hx hb d_19_42_111 ?_
          obtain ⟨a124, e125⟩ := q_nm (lx61 + 1 : Int32)
          refine q_ti (v := a124) e125 ?_
          have b126 : q_F (a124.toInt = lx61.toInt + 1) := (by rw [← e125]; show (lx61 + 1 : Int32).toInt = lx61.toInt + 1; exact q_addI (x := lx61.toInt) (y := 1) rfl (by decide) (by have t1 : lx33.toInt ≤ lx61.toInt := i65; have _ := q_lo32 (x := lx33); have _ := q_hi32 (x := lx33); have t2 : lx61.toInt ≤ 2100 := i64; omega) (by have t1 : lx33.toInt ≤ lx61.toInt := i65; have _ := q_lo32 (x := lx33); have _ := q_hi32 (x := lx33); have t2 : lx61.toInt ≤ 2100 := i64; omega))
          refine q_put (ci := 13) (j := 20) (v := .int a124) (ty := .int) C0 V i_WR o_WR n_WR rfl rfl hO68 (by decide) w_1945 rfl rfl rfl rfl (Nat.le_of_ble_eq_true rfl) d_19_42_112 (fun H locs w127 hu128 hO68 V => ?_)
          replace hO68 : w127[119]? = (some (q 119, .inr (13, [.int lx33, .int t0_1, .ref (q 120), .int t0_2, .ref (q 121), .ref (q 122), .ref (q 123), .int t0_3, .ref (q 124), .ref (q 125), .ref (q 126), .ref (q 127), .ref (q 128), .ref (q 129), .ref (q 130), .ref (q 131), .int t0_4, .int t0_5, .ref (q 132), .ref (q 133), .int a124])) : Option (Nat × va_E)) := hO68
          replace hI := n_p119 hI hu128 hO68 (by first | with_reducible exact q_fe btt0_2 | exact ⟨(by have t1 : 0 ≤ t0_2.toInt ∧ t0_2.toInt ≤ 4100 := btt0_2; omega), (by have t1 : 0 ≤ t0_2.toInt ∧ t0_2.toInt ≤ 4100 := btt0_2; omega)⟩) (by first | with_reducible exact q_fe btt0_3 | exact ⟨(by have t1 : 0 ≤ t0_3.toInt ∧ t0_3.toInt ≤ 1 := btt0_3; omega), (by have t1 : 0 ≤ t0_3.toInt ∧ t0_3.toInt ≤ 1 := btt0_3; omega)⟩) (by first | with_reducible exact q_fe btt0_4 | exact ⟨(by have t1 : 0 ≤ t0_4.toInt ∧ t0_4.toInt ≤ 1 := btt0_4; omega), (by have t1 : 0 ≤ t0_4.toInt ∧ t0_4.toInt ≤ 1 := btt0_4; omega)⟩) (by first | with_reducible exact q_fe btt0_5 | exact ⟨(by have t1 : 0 ≤ t0_5.toInt ∧ t0_5.toInt ≤ 1 := btt0_5; omega), (by have t1 : 0 ≤ t0_5.toInt ∧ t0_5.toInt ≤ 1 := btt0_5; omega)⟩) ⟨(by have t1 : 0 ≤ lx33.toInt := i40; have t2 : lx33.toInt ≤ lx61.toInt := i65; have t3 : a124.toInt = lx61.toInt + 1 := b126; omega), (by have t1 : lx61.toInt ≤ 2099 := ob119; have t2 : a124.toInt = lx61.toInt + 1 := b126; omega)⟩
          replace hO69 := (hu128 _ (by decide)).trans hO69
          replace hO70 := (hu128 _ (by decide)).trans hO70
          replace hA101 := (hu128 _ (by decide)).trans hA101
          replace hO72 := (hu128 _ (by decide)).trans hO72
          replace hF := q_us hF hu128 (by simp)
          refine lv_goto (tgt := 50) hx hb d_19_42_115 (by decide) ?_
          exact ih66 ((a124 : Int32), (f100 : (Nat → Int32)), (f122 : (Nat → Int32))) _ _ _ _ (show (2100 - a124.toInt).toNat < (2100 - lx61.toInt).toNat from by have t1 : a124.toInt = lx61.toInt + 1 := b126; have t2 : lx61.toInt ≤ 2100 := i64; have t3 : lx61.toInt ≤ 2099 := ob119; omega) ⟨(show q_F (a124.toInt ≤ 2100) from (show a124.toInt ≤ 2100 from by have t1 : lx61.toInt ≤ 2099 := ob119; have t2 : a124.toInt = lx61.toInt + 1 := b126; omega)), (show q_F (lx33.toInt ≤ a124.toInt) from (show lx33.toInt ≤ a124.toInt from by have t1 : lx33.toInt ≤ lx61.toInt := i65; have t2 : a124.toInt = lx61.toInt + 1 := b126; omega)), V, q_lw hl (q_lw1 1 rfl (q_lw1 2 rfl (q_lw1 3 rfl q_lw0))), hI, hF, hO68, hO69, hO70, hA101, hO72, ⟨fm77, Nat.lt_of_lt_of_le (show (2100 - a124.toInt).toNat < (2100 - lx61.toInt).toNat from by have t1 : a124.toInt = lx61.toInt + 1 := b126; have t2 : lx61.toInt ≤ 2100 := i64; have t3 : lx61.toInt ≤ 2099 := ob119; omega) (Nat.le_of_lt_succ hf76), (show F_WR_written_L50 x2 x3 t0_0 t0_1 t0_2 t0_3 t0_4 t0_5 t0_6 t1_0 t2_0 t3_0 t4_0 lx33 fm77 a124 f100 f122 = (F_WR_written x2 x3 t0_0 t0_1 t0_2 t0_3 t0_4 t0_5 t0_6 t1_0 t2_0 t3_0 t4_0) from Eq.trans (by have c113x := c113; rw [e106] at c113x; rw [← e125, ← e123, ← e118, ← e116, e107, e106, F_WR_written_c72.eq_1, if_pos c113x]) hR108), (show True ∧ S_WR_written_L50 x2 x3 t0_0 t0_1 t0_2 t0_3 t0_4 t0_5 t0_6 t1_0 t2_0 t3_0 t4_0 lx33 fm77 a124 f100 f122 from (by rw [← e125, ← e123, ← e118, ← e116, e107, e106]; have h := hS109; rw [S_WR_written_c72.eq_1] at h; have c113x := c113; rw [e106] at c113x; rw [if_pos c113x] at h; replace h := q_s2 h; with_reducible exact h))⟩⟩
        ·
          refine lv_bipush (v := 48) hx hb d_19_42_90 (by decide) ?_
          refine lv_iload_n hx hb d_19_42_92 rfl (lv_at hl 0 rfl) ?_
          refine lv_iadd hx hb d_19_42_93 ?_
          obtain ⟨a130, e131⟩ := q_nm (48 + a99 : Int32)
          refine q_ti (v := a130) e131 ?_
          refine lv_goto (tgt := 104) hx hb d_19_42_94 (by decide) ?_
          have ob133 : q_F (lx61.toInt ≤ 2099) := (by have h := hS109; rw [S_WR_written_c72.eq_1] at h; have c113x := c113; rw [e106] at c113x; rw [if_neg c113x] at h; exact h.2.1)
          refine q_iast C0 V hO72 (q_ix (x := lx61.toInt) rfl (by have t1 : 0 ≤ lx33.toInt := i40; have t2 : lx33.toInt ≤ lx61.toInt := i65; omega) (by have t1 : 0 ≤ lx33.toInt := i40; have t2 : lx33.toInt ≤ lx61.toInt := i65; have t3 : lx61.toInt ≤ 2099 := ob133; have e9 : (((2100 : Int32).toNatClampNeg : Nat) : Int) = 2100 := (by decide); omega)) d_19_42_104 (fun H locs w134 hu135 hO72 V => ?_)
          replace hI := n_ai' hI (n_r133 g q).1 hu135 hO72 (q_updB (fun _ => s_bnd) s_bnd)
          replace hO68 := (hu135 _ (by decide)).trans hO68
          replace hO69 := (hu135 _ (by decide)).trans hO69
          replace hO70 := (hu135 _ (by decide)).trans hO70
          replace hA101 := (hu135 _ (by decide)).trans hA101
          replace hF := q_us hF hu135 (by simp)
          obtain ⟨f136, e137⟩ := q_nm (upd lx63 lx61.toNatClampNeg a130 : (Nat → Int32))
          rw [e137] at hO72
          refine lv_aload_n hx hb d_19_42_105 rfl (lv_at hl 1 rfl) ?_
          refine lv_dup hx hb d_19_42_106 rfl ?_
          refine q_get (ci := 13) (j := 20) (v := .int lx61) C0 V i_WR rfl rfl hO68 (by decide) w_1945 rfl d_19_42_107 ?_
          refine lv_iconst (v := 1) hx hb d_19_42_110 (by decide) ?_
          refine lv_iadd hx hb d_19_42_111 ?_
          obtain ⟨a138, e139⟩ := q_nm (lx61 + 1 : Int32)
          refine q_ti (v := a138) e139 ?_
          have b140 : q_F (a138.toInt = lx61.toInt + 1) := (by rw [← e139]; show (lx61 + 1 : Int32).toInt = lx61.toInt + 1; exact q_addI (x := lx61.toInt) (y := 1) rfl (by decide) (by have t1 : lx33.toInt ≤ lx61.toInt := i65; have _ := q_lo32 (x := lx33); have _ := q_hi32 (x := lx33); have t2 : lx61.toInt ≤ 2100 := i64; omega) (by have t1 : lx33.toInt ≤ lx61.toInt := i65; have _ := q_lo32 (x := lx33); have _ := q_hi32 (x := lx33); have t2 : lx61.toInt ≤ 2100 := i64; omega))
          refine q_put (ci := 13) (j := 20) (v := .int a138) (ty := .int) C0 V i_WR o_WR n_WR rfl rfl hO68 (by decide) w_1945 rfl rfl rfl rfl (Nat.le_of_ble_eq_true rfl) d_19_42_112 (fun H locs w141 hu142 hO68 V => ?_)
          replace hO68 : w141[119]? = (some (q 119, .inr (13, [.int lx33, .int t0_1, .ref (q 120), .int t0_2, .ref (q 121), .ref (q 122), .ref (q 123), .int t0_3, .ref (q 124), .ref (q 125), .ref (q 126), .ref (q 127), .ref (q 128), .ref (q 129), .ref (q 130), .ref (q 131), .int t0_4, .int t0_5, .ref (q 132), .ref (q 133), .int a138])) : Option (Nat × va_E)) := hO68
          replace hI := n_p119 hI hu142 hO68 (by first | with_reducible exact q_fe btt0_2 | exact ⟨(by have t1 : 0 ≤ t0_2.toInt ∧ t0_2.toInt ≤ 4100 := btt0_2; omega), (by have t1 : 0 ≤ t0_2.toInt ∧ t0_2.toInt ≤ 4100 := btt0_2; omega)⟩) (by first | with_reducible exact q_fe btt0_3 | exact ⟨(by have t1 : 0 ≤ t0_3.toInt ∧ t0_3.toInt ≤ 1 := btt0_3; omega), (by have t1 : 0 ≤ t0_3.toInt ∧ t0_3.toInt ≤ 1 := btt0_3; omega)⟩) (by first | with_reducible exact q_fe btt0_4 | exact ⟨(by have t1 : 0 ≤ t0_4.toInt ∧ t0_4.toInt ≤ 1 := btt0_4; omega), (by have t1 : 0 ≤ t0_4.toInt ∧ t0_4.toInt ≤ 1 := btt0_4; omega)⟩) (by first | with_reducible exact q_fe btt0_5 | exact ⟨(by have t1 : 0 ≤ t0_5.toInt ∧ t0_5.toInt ≤ 1 := btt0_5; omega), (by have t1 : 0 ≤ t0_5.toInt ∧ t0_5.toInt ≤ 1 := btt0_5; omega)⟩) ⟨(by have t1 : 0 ≤ lx33.toInt := i40; have t2 : lx33.toInt ≤ lx61.toInt := i65; have t3 : a138.toInt = lx61.toInt + 1 := b140; omega), (by have t1 : lx61.toInt ≤ 2099 := ob133; have t2 : a138.toInt = lx61.toInt + 1 := b140; omega)⟩
          replace hO69 := (hu142 _ (by decide)).trans hO69
          replace hO70 := (hu142 _ (by decide)).trans hO70
          replace hA101 := (hu142 _ (by decide)).trans hA101
          replace hO72 := (hu142 _ (by decide)).trans hO72
          replace hF := q_us hF hu142 (by simp)
          refine lv_goto (tgt := 50) hx hb d_19_42_115 (by decide) ?_
          exact ih66 ((a138 : Int32), (f100 : (Nat → Int32)), (f136 : (Nat → Int32))) _ _ _ _ (show (2100 - a138.toInt).toNat < (2100 - lx61.toInt).toNat from by have t1 : a138.toInt = lx61.toInt + 1 := b140; have t2 : lx61.toInt ≤ 2100 := i64; have t3 : lx61.toInt ≤ 2099 := ob133; omega) ⟨(show q_F (a138.toInt ≤ 2100) from (show a138.toInt ≤ 2100 from by have t1 : lx61.toInt ≤ 2099 := ob133; have t2 : a138.toInt = lx61.toInt + 1 := b140; omega)), (show q_F (lx33.toInt ≤ a138.toInt) from (show lx33.toInt ≤ a138.toInt from by have t1 : lx33.toInt ≤ lx61.toInt := i65; have t2 : a138.toInt = lx61.toInt + 1 := b140; omega)), V, q_lw hl (q_lw1 1 rfl (q_lw1 2 rfl (q_lw1 3 rfl q_lw0))), hI, hF, hO68, hO69, hO70, hA101, hO72, ⟨fm77, Nat.lt_of_lt_of_le (show (2100 - a138.toInt).toNat < (2100 - lx61.toInt).toNat from by have t1 : a138.toInt = lx61.toInt + 1 := b140; have t2 : lx61.toInt ≤ 2100 := i64; have t3 : lx61.toInt ≤ 2099 := ob133; omega) (Nat.le_of_lt_succ hf76), (show F_WR_written_L50 x2 x3 t0_0 t0_1 t0_2 t0_3 t0_4 t0_5 t0_6 t1_0 t2_0 t3_0 t4_0 lx33 fm77 a138 f100 f136 = (F_WR_written x2 x3 t0_0 t0_1 t0_2 t0_3 t0_4 t0_5 t0_6 t1_0 t2_0 t3_0 t4_0) from Eq.trans (by have c113x := c113; rw [e106] at c113x; rw [← e139, ← e137, ← e131, e107, e106, F_WR_written_c72.eq_1, if_neg c113x]) hR108), (show True ∧ S_WR_written_L50 x2 x3 t0_0 t0_1 t0_2 t0_3 t0_4 t0_5 t0_6 t1_0 t2_0 t3_0 t4_0 lx33 fm77 a138 f100 f136 from (by rw [← e139, ← e137, ← e131, e107, e106]; have h := hS109; rw [S_WR_written_c72.eq_1] at h; have c113x := c113; rw [e106] at c113x; rw [if_neg c113x] at h; replace h := q_s2 h; with_reducible exact h))⟩⟩
      ·
        intro J90
        refine lv_if_gt (tgt := 67) hx hb d_19_42_57 (by decide) (fun c143 => ?_) (fun c143 => ?_)
        ·
          exact J90 (()) _ _ _ w67 ⟨V, q_lw hl (q_lw1 0 rfl (q_lw1 1 rfl (q_lw1 2 rfl q_lw0))), (show F_WR_written_J67 (F_WR_written_L50 x2 x3 t0_0 t0_1 t0_2 t0_3 t0_4 t0_5 t0_6 t1_0 t2_0 t3_0 t4_0 lx33 fm77) x2 x3 t0_0 t0_1 t0_2 t0_3 t0_4 t0_5 t0_6 t1_0 t2_0 t3_0 t4_0 lx33 lx61 lx62 lx63 = (F_WR_written x2 x3 t0_0 t0_1 t0_2 t0_3 t0_4 t0_5 t0_6 t1_0 t2_0 t3_0 t4_0) from Eq.trans (by have c143x := c143; rw [e84] at c143x; rw [F_WR_written_L50.eq_2, if_pos c143x]) hR73), (show True ∧ S_WR_written_J67 (S_WR_written_L50 x2 x3 t0_0 t0_1 t0_2 t0_3 t0_4 t0_5 t0_6 t1_0 t2_0 t3_0 t4_0 lx33 fm77) x2 x3 t0_0 t0_1 t0_2 t0_3 t0_4 t0_5 t0_6 t1_0 t2_0 t3_0 t4_0 lx33 lx61 lx62 lx63 from (by have h := hS74; rw [S_WR_written_L50.eq_2] at h; have c143x := c143; rw [e84] at c143x; rw [if_pos c143x] at h; with_reducible exact h))⟩
        ·
          refine lv_aload_n hx hb d_19_42_60 rfl (lv_at hl 0 rfl) ?_
          refine q_get (ci := 13) (j := 20) (v := .int lx61) C0 V i_WR rfl rfl hO68 (by decide) w_1945 rfl d_19_42_61 ?_
          refine lv_if_ne (tgt := 118) hx hb d_19_42_64 (by decide) (fun c146 => ?_) (fun c146 => ?_)
          ·
            have b147 : q_F (lx61.toInt ≠ 0) := (q_neI c146)
            refine lv_aload_n hx hb d_19_42_118 rfl (lv_at hl 0 rfl) ?_
            refine q_get (ci := 13) (j := 5) (v := .ref (q 122)) C0 V i_WR rfl rfl hO68 (by decide) w_1929 rfl d_19_42_119 ?_
            refine lv_iload_n hx hb d_19_42_122 rfl (lv_at hl 1 rfl) ?_
            have ob148 : q_F (0 ≤ x2.toInt) := (by have h := hS74; rw [S_WR_written_L50.eq_2] at h; have c143x := c143; rw [e84] at c143x; rw [if_neg c143x] at h; rw [if_neg c146] at h; exact h.2.1)
            have ob149 : q_F (x2.toInt ≤ 10) := (by have h := hS74; rw [S_WR_written_L50.eq_2] at h; have c143x := c143; rw [e84] at c143x; rw [if_neg c143x] at h; rw [if_neg c146] at h; replace h := q_s2 h; exact h.2.1)
            refine q_zald C0 V hO70 (q_ix (x := x2.toInt) rfl (by first | with_reducible exact q_fe ob148 | (have t1 : 0 ≤ x2.toInt := ob148; omega)) (by have t1 : 0 ≤ x2.toInt := ob148; have t2 : x2.toInt ≤ 10 := ob149; omega)) d_19_42_123 ?_
            obtain ⟨a150, e151⟩ := q_nm (t2_0 x2.toNatClampNeg : Int32)
            refine q_ti (v := a150) e151 ?_
            refine q_join (X := Int32 × (Nat → Int32)) (fun z H locs ls w163 => q_F (z.1.toInt ≤ lx33.toInt + 2100) ∧ q_F (lx61.toInt ≤ z.1.toInt) ∧ q_F (z.1.toInt ≤ lx61.toInt + 1) ∧ q_Wd D g (va_A ws sz) s w163 H locs ∧ lv_has ls 6 [(0, .ref (q 119))] ∧ q_I (msh g q) q w163 ∧ q_un ws w163 [119, 128, 133] ∧ w163[119]? = (some (q 119, .inr (13, [.int lx33, .int t0_1, .ref (q 120), .int t0_2, .ref (q 121), .ref (q 122), .ref (q 123), .int t0_3, .ref (q 124), .ref (q 125), .ref (q 126), .ref (q 127), .ref (q 128), .ref (q 129), .ref (q 130), .ref (q 131), .int t0_4, .int t0_5, .ref (q 132), .ref (q 133), .int z.1])) : Option (Nat × va_E)) ∧ w163[121]? = (some (q 121, .inl (g 0, (1408 : Int32).toNatClampNeg, .inl t1_0)) : Option (Nat × va_E)) ∧ w163[122]? = (some (q 122, .inl (g 3, 11, .inl t2_0)) : Option (Nat × va_E)) ∧ w163[128]? = (some (q 128, .inl (g 0, (264 : Int32).toNatClampNeg, .inl lx62)) : Option (Nat × va_E)) ∧ w163[133]? = (some (q 133, .inl (g 0, (2100 : Int32).toNatClampNeg, .inl z.2)) : Option (Nat × va_E)) ∧ F_WR_written_J148 (F_WR_written_L50 x2 x3 t0_0 t0_1 t0_2 t0_3 t0_4 t0_5 t0_6 t1_0 t2_0 t3_0 t4_0 lx33 fm77) x2 x3 t0_0 t0_1 t0_2 t0_3 t0_4 t0_5 t0_6 t1_0 t2_0 t3_0 t4_0 lx33 lx61 lx62 lx63 z.1 z.2 = (F_WR_written x2 x3 t0_0 t0_1 t0_2 t0_3 t0_4 t0_5 t0_6 t1_0 t2_0 t3_0 t4_0) ∧ True ∧ S_WR_written_J148 (S_WR_written_L50 x2 x3 t0_0 t0_1 t0_2 t0_3 t0_4 t0_5 t0_6 t1_0 t2_0 t3_0 t4_0 lx33 fm77) x2 x3 t0_0 t0_1 t0_2 t0_3 t0_4 t0_5 t0_6 t1_0 t2_0 t3_0 t4_0 lx33 lx61 lx62 lx63 z.1 z.2) (fun z => []) 148 0 0 ?_ ?_
            ·
              rintro ⟨lx152, lx153⟩ H locs ls w163 ⟨i160, i161, i162, V, hl, hI, hF, hO154, hA155, hA156, hA157, hA158, hR164, hS165⟩
              replace i160 : q_F (lx152.toInt ≤ lx33.toInt + 2100) := i160
              replace i161 : q_F (lx61.toInt ≤ lx152.toInt) := i161
              clear i162
              replace hl : lv_has ls 6 [(0, .ref (q 119))] := hl
              replace hO154 : w163[119]? = (some (q 119, .inr (13, [.int lx33, .int t0_1, .ref (q 120), .int t0_2, .ref (q 121), .ref (q 122), .ref (q 123), .int t0_3, .ref (q 124), .ref (q 125), .ref (q 126), .ref (q 127), .ref (q 128), .ref (q 129), .ref (q 130), .ref (q 131), .int t0_4, .int t0_5, .ref (q 132), .ref (q 133), .int lx152])) : Option (Nat × va_E)) := hO154
              replace hA155 : w163[121]? = (some (q 121, .inl (g 0, (1408 : Int32).toNatClampNeg, .inl t1_0)) : Option (Nat × va_E)) := hA155
              replace hA156 : w163[122]? = (some (q 122, .inl (g 3, 11, .inl t2_0)) : Option (Nat × va_E)) := hA156
              replace hA157 : w163[128]? = (some (q 128, .inl (g 0, (264 : Int32).toNatClampNeg, .inl lx62)) : Option (Nat × va_E)) := hA157
              replace hA158 : w163[133]? = (some (q 133, .inl (g 0, (2100 : Int32).toNatClampNeg, .inl lx153)) : Option (Nat × va_E)) := hA158
              refine lv_iconst (v := 0) hx hb d_19_42_148 (by decide) ?_
              refine lv_istore_n (lv' := [(3, .int 0), (0, .ref (q 119))]) hx hb d_19_42_149 rfl hl (by decide) rfl (fun ls hl => ?_)
              refine lv_aload_n hx hb d_19_42_150 rfl (lv_at hl 1 rfl) ?_
              refine q_get (ci := 13) (j := 20) (v := .int lx152) C0 V i_WR rfl rfl hO154 (by decide) w_1945 rfl d_19_42_151 ?_
              refine lv_iconst (v := 1) hx hb d_19_42_154 (by decide) ?_
              refine lv_isub hx hb d_19_42_155 ?_
              obtain ⟨a169, e170⟩ := q_nm (lx152 - 1 : Int32)
              refine q_ti (v := a169) e170 ?_
              have b171 : q_F (a169.toInt = lx152.toInt - 1) := (by rw [← e170]; show (lx152 - 1 : Int32).toInt = lx152.toInt - 1; exact q_subI (x := lx152.toInt) (y := 1) rfl (by decide) (by have t1 : 0 ≤ lx33.toInt := i40; have t2 : lx33.toInt ≤ lx61.toInt := i65; have t3 : lx61.toInt ≤ lx152.toInt := i161; have _ := q_lo32 (x := lx152); have _ := q_hi32 (x := lx152); omega) (by have t1 : 0 ≤ lx33.toInt := i40; have t2 : lx33.toInt ≤ lx61.toInt := i65; have t3 : lx61.toInt ≤ lx152.toInt := i161; have _ := q_lo32 (x := lx152); have _ := q_hi32 (x := lx152); omega))
              refine lv_istore (lv' := [(4, .int a169), (3, .int 0), (0, .ref (q 119))]) hx hb d_19_42_156 hl (by decide) rfl (fun ls hl => ?_)
              refine q_loop (X := Int32 × Int32 × (Nat → Int32)) (fun z H locs ls w182 => q_F (z.2.1.toInt + 1 ≤ lx152.toInt) ∧ q_F (a169.toInt ≤ z.1.toInt + z.2.1.toInt) ∧ q_F (z.1.toInt + z.2.1.toInt ≤ a169.toInt) ∧ q_F (z.1.toInt ≤ z.2.1.toInt + a169.toInt) ∧ q_Wd D g (va_A ws sz) s w182 H locs ∧ lv_has ls 6 [(4, .int z.1), (3, .int z.2.1), (0, .ref (q 119))] ∧ q_I (msh g q) q w182 ∧ q_un ws w182 [119, 128, 133] ∧ w182[119]? = (some (q 119, .inr (13, [.int lx33, .int t0_1, .ref (q 120), .int t0_2, .ref (q 121), .ref (q 122), .ref (q 123), .int t0_3, .ref (q 124), .ref (q 125), .ref (q 126), .ref (q 127), .ref (q 128), .ref (q 129), .ref (q 130), .ref (q 131), .int t0_4, .int t0_5, .ref (q 132), .ref (q 133), .int lx152])) : Option (Nat × va_E)) ∧ w182[121]? = (some (q 121, .inl (g 0, (1408 : Int32).toNatClampNeg, .inl t1_0)) : Option (Nat × va_E)) ∧ w182[122]? = (some (q 122, .inl (g 3, 11, .inl t2_0)) : Option (Nat × va_E)) ∧ w182[128]? = (some (q 128, .inl (g 0, (264 : Int32).toNatClampNeg, .inl lx62)) : Option (Nat × va_E)) ∧ w182[133]? = (some (q 133, .inl (g 0, (2100 : Int32).toNatClampNeg, .inl z.2.2)) : Option (Nat × va_E)) ∧ (∃ n, (z.1.toInt - ((-1))).toNat < n ∧ F_WR_written_L158 (F_WR_written_L50 x2 x3 t0_0 t0_1 t0_2 t0_3 t0_4 t0_5 t0_6 t1_0 t2_0 t3_0 t4_0 lx33 fm77) x2 x3 t0_0 t0_1 t0_2 t0_3 t0_4 t0_5 t0_6 t1_0 t2_0 t3_0 t4_0 lx33 lx61 lx62 lx63 lx152 lx153 n z.1 z.2.1 z.2.2 = (F_WR_written x2 x3 t0_0 t0_1 t0_2 t0_3 t0_4 t0_5 t0_6 t1_0 t2_0 t3_0 t4_0) ∧ True ∧ S_WR_written_L158 (S_WR_written_L50 x2 x3 t0_0 t0_1 t0_2 t0_3 t0_4 t0_5 t0_6 t1_0 t2_0 t3_0 t4_0 lx33 fm77) x2 x3 t0_0 t0_1 t0_2 t0_3 t0_4 t0_5 t0_6 t1_0 t2_0 t3_0 t4_0 lx33 lx61 lx62 lx63 lx152 lx153 n z.1 z.2.1 z.2.2)) (fun z => (z.1.toInt - ((-1))).toNat) ?_ ((a169 : Int32), (0 : Int32), (lx153 : (Nat → Int32))) _ _ _ w163 ⟨(show q_F (0 + 1 ≤ lx152.toInt) from (show 0 + 1 ≤ lx152.toInt from by have t1 : 0 ≤ lx33.toInt := i40; have t2 : lx33.toInt ≤ lx61.toInt := i65; have t3 : lx61.toInt ≠ 0 := b147; have t4 : lx61.toInt ≤ lx152.toInt := i161; omega)), (show q_F (a169.toInt ≤ a169.toInt + 0) from (show a169.toInt ≤ a169.toInt + 0 from by omega)), (show q_F (a169.toInt + 0 ≤ a169.toInt) from (show a169.toInt + 0 ≤ a169.toInt from by omega)), (show q_F (a169.toInt ≤ 0 + a169.toInt) from (show a169.toInt ≤ 0 + a169.toInt from by omega)), V, q_lw hl (q_lw1 0 rfl (q_lw1 1 rfl (q_lw1 2 rfl q_lw0))), hI, hF, hO154, hA155, hA156, hA157, hA158, ⟨((a169.toInt - ((-1))).toNat + 1), Nat.lt_succ_self _, (show F_WR_written_L158 (F_WR_written_L50 x2 x3 t0_0 t0_1 t0_2 t0_3 t0_4 t0_5 t0_6 t1_0 t2_0 t3_0 t4_0 lx33 fm77) x2 x3 t0_0 t0_1 t0_2 t0_3 t0_4 t0_5 t0_6 t1_0 t2_0 t3_0 t4_0 lx33 lx61 lx62 lx63 lx152 lx153 ((a169.toInt - ((-1))).toNat + 1) a169 0 lx153 = (F_WR_written x2 x3 t0_0 t0_1 t0_2 t0_3 t0_4 t0_5 t0_6 t1_0 t2_0 t3_0 t4_0) from Eq.trans (by rw [← e170, F_WR_written_J148.eq_1]) hR164), (show True ∧ S_WR_written_L158 (S_WR_written_L50 x2 x3 t0_0 t0_1 t0_2 t0_3 t0_4 t0_5 t0_6 t1_0 t2_0 t3_0 t4_0 lx33 fm77) x2 x3 t0_0 t0_1 t0_2 t0_3 t0_4 t0_5 t0_6 t1_0 t2_0 t3_0 t4_0 lx33 lx61 lx62 lx63 lx152 lx153 ((a169.toInt - ((-1))).toNat + 1) a169 0 lx153 from (by rw [← e170]; have h := hS165; rw [S_WR_written_J148.eq_1] at h; with_reducible exact h))⟩⟩
              rintro ⟨lx174, lx175, lx176⟩ H locs ls w182 ⟨i177, i178, i179, i180, V, hl, hI, hF, hO183, hO184, hO185, hO186, hO187, ⟨fu190, hf191, hR188, hS189⟩⟩ ih181
              obtain ⟨fm192, rfl⟩ : ∃ m, fu190 = m + 1 := ⟨fu190 - 1, by omega⟩
              replace i177 : q_F (lx175.toInt + 1 ≤ lx152.toInt) := i177
              replace i178 : q_F (a169.toInt ≤ lx174.toInt + lx175.toInt) := i178
              replace i179 : q_F (lx174.toInt + lx175.toInt ≤ a169.toInt) := i179
              replace i180 : q_F (lx174.toInt ≤ lx175.toInt + a169.toInt) := i180
              replace hl : lv_has ls 6 [(4, .int lx174), (3, .int lx175), (0, .ref (q 119))] := hl
              replace hO183 : w182[119]? = (some (q 119, .inr (13, [.int lx33, .int t0_1, .ref (q 120), .int t0_2, .ref (q 121), .ref (q 122), .ref (q 123), .int t0_3, .ref (q 124), .ref (q 125), .ref (q 126), .ref (q 127), .ref (q 128), .ref (q 129), .ref (q 130), .ref (q 131), .int t0_4, .int t0_5, .ref (q 132), .ref (q 133), .int lx152])) : Option (Nat × va_E)) := hO183
              replace hO184 : w182[121]? = (some (q 121, .inl (g 0, (1408 : Int32).toNatClampNeg, .inl t1_0)) : Option (Nat × va_E)) := hO184
              replace hO185 : w182[122]? = (some (q 122, .inl (g 3, 11, .inl t2_0)) : Option (Nat × va_E)) := hO185
              replace hO186 : w182[128]? = (some (q 128, .inl (g 0, (264 : Int32).toNatClampNeg, .inl lx62)) : Option (Nat × va_E)) := hO186
              replace hO187 : w182[133]? = (some (q 133, .inl (g 0, (2100 : Int32).toNatClampNeg, .inl lx176)) : Option (Nat × va_E)) := hO187
              refine lv_iload_n hx hb d_19_42_158 rfl (lv_at hl 1 rfl) ?_
              refine lv_iload hx hb d_19_42_159 (lv_at hl 0 rfl) ?_
              refine lv_icmp_ge (tgt := 203) hx hb d_19_42_161 (by decide) (fun c193 => ?_) (fun c193 => ?_)
              ·
                refine lv_aload_n hx hb d_19_42_203 rfl (lv_at hl 2 rfl) ?_
                refine q_get (ci := 13) (j := 20) (v := .int lx152) C0 V i_WR rfl rfl hO183 (by decide) w_1945 rfl d_19_42_204 ?_
                exact q_reti C0 V (⟨hI, hF, lx33, t0_1, t0_2, t0_3, t0_4, t0_5, lx152, lx62, lx176, hO183, hO186, hO187, (show 0 ≤ lx152.toInt from (by have t1 : 0 ≤ lx33.toInt := i40; have t2 : lx33.toInt ≤ lx61.toInt := i65; have t3 : lx61.toInt ≤ lx152.toInt := i161; omega)), (show 0 ≤ lx33.toInt from (by first | with_reducible exact q_fe i40 | (have t1 : 0 ≤ lx33.toInt := i40; omega))), (show lx33.toInt ≤ 1 from (by first | with_reducible exact q_fe i41 | (have t1 : lx33.toInt ≤ 1 := i41; omega))), (show lx152.toInt ≤ 2100 from (by have t1 : lx33.toInt ≤ 0 := b50; have t2 : lx152.toInt ≤ lx33.toInt + 2100 := i160; omega)), (show t0_1.toInt ≤ t0_1.toInt from (by omega)), (show t0_1.toInt ≤ t0_1.toInt from (by omega)), (show t0_2.toInt ≤ t0_2.toInt from (by omega)), (show t0_2.toInt ≤ t0_2.toInt from (by omega)), (show t0_3.toInt ≤ t0_3.toInt from (by omega)), (show t0_3.toInt ≤ t0_3.toInt from (by omega)), (show t0_4.toInt ≤ t0_4.toInt from (by omega)), (show t0_4.toInt ≤ t0_4.toInt from (by omega)), (show t0_5.toInt ≤ t0_5.toInt from (by omega)), (show t0_5.toInt ≤ t0_5.toInt from (by omega)), (show t0_6.toInt ≤ lx152.toInt + 2099 from (by have t1 : 0 ≤ t0_6.toInt ∧ t0_6.toInt ≤ 2100 := btt0_6; have t2 : 0 ≤ lx33.toInt := i40; have t3 : lx33.toInt ≤ lx61.toInt := i65; have t4 : lx61.toInt ≠ 0 := b147; have t5 : lx61.toInt ≤ lx152.toInt := i161; omega)), (show lx152.toInt ≤ lx152.toInt from (by omega)), (show (lx152, lx33, t0_1, t0_2, t0_3, t0_4, t0_5, lx152, lx62, lx176) = (F_WR_written x2 x3 t0_0 t0_1 t0_2 t0_3 t0_4 t0_5 t0_6 t1_0 t2_0 t3_0 t4_0) from Eq.trans (by rw [F_WR_written_L158.eq_2, if_pos c193]) hR188)⟩) d_19_42_207
              ·
                have b195 : q_F (lx175.toInt < lx174.toInt) := (q_nleI c193)
                refine lv_aload_n hx hb d_19_42_164 rfl (lv_at hl 2 rfl) ?_
                refine q_get (ci := 13) (j := 19) (v := .ref (q 133)) C0 V i_WR rfl rfl hO183 (by decide) w_1943 rfl d_19_42_165 ?_
                refine lv_iload_n hx hb d_19_42_168 rfl (lv_at hl 1 rfl) ?_
                refine q_iald C0 V hO187 (q_ix (x := lx175.toInt) rfl (by have t1 : a169.toInt ≤ lx174.toInt + lx175.toInt := i178; have t2 : lx174.toInt ≤ lx175.toInt + a169.toInt := i180; omega) (by have t1 : a169.toInt ≤ lx174.toInt + lx175.toInt := i178; have t2 : lx174.toInt ≤ lx175.toInt + a169.toInt := i180; have t3 : lx33.toInt ≤ 0 := b50; have t4 : lx152.toInt ≤ lx33.toInt + 2100 := i160; have t5 : lx175.toInt + 1 ≤ lx152.toInt := i177; have e9 : (((2100 : Int32).toNatClampNeg : Nat) : Int) = 2100 := (by decide); omega)) d_19_42_169 ?_
                obtain ⟨a196, e197⟩ := q_nm (lx176 lx175.toNatClampNeg : Int32)
                refine q_ti (v := a196) e197 ?_
                refine lv_istore (lv' := [(5, .int a196), (4, .int lx174), (3, .int lx175), (0, .ref (q 119))]) hx hb d_19_42_170 hl (by decide) rfl (fun ls hl => ?_)
                refine lv_aload_n hx hb d_19_42_172 rfl (lv_at hl 3 rfl) ?_
                refine q_get (ci := 13) (j := 19) (v := .ref (q 133)) C0 V i_WR rfl rfl hO183 (by decide) w_1943 rfl d_19_42_173 ?_
                refine lv_iload_n hx hb d_19_42_176 rfl (lv_at hl 2 rfl) ?_
                refine lv_aload_n hx hb d_19_42_177 rfl (lv_at hl 3 rfl) ?_
                refine q_get (ci := 13) (j := 19) (v := .ref (q 133)) C0 V i_WR rfl rfl hO183 (by decide) w_1943 rfl d_19_42_178 ?_
                refine lv_iload hx hb d_19_42_181 (lv_at hl 1 rfl) ?_
                have ob198 : q_F (lx174.toInt ≤ 2099) := (by have h := hS189; rw [S_WR_written_L158.eq_2] at h; rw [if_neg c193] at h; exact h.2.1)
                refine q_iald C0 V hO187 (q_ix (x := lx174.toInt) rfl (by have t1 : a169.toInt ≤ lx174.toInt + lx175.toInt := i178; have t2 : lx174.toInt ≤ lx175.toInt + a169.toInt := i180; have t3 : lx175.toInt < lx174.toInt := b195; omega) (by have t1 : a169.toInt ≤ lx174.toInt + lx175.toInt := i178; have t2 : lx174.toInt ≤ lx175.toInt + a169.toInt := i180; have t3 : lx175.toInt < lx174.toInt := b195; have t4 : lx174.toInt ≤ 2099 := ob198; have e9 : (((2100 : Int32).toNatClampNeg : Nat) : Int) = 2100 := (by decide); omega)) d_19_42_183 ?_
                obtain ⟨a199, e200⟩ := q_nm (lx176 lx174.toNatClampNeg : Int32)
                refine q_ti (v := a199) e200 ?_
                refine q_iast C0 V hO187 (q_ix (x := lx175.toInt) rfl (by have t1 : a169.toInt ≤ lx174.toInt + lx175.toInt := i178; have t2 : lx174.toInt ≤ lx175.toInt + a169.toInt := i180; omega) (by have t1 : a169.toInt ≤ lx174.toInt + lx175.toInt := i178; have t2 : lx174.toInt ≤ lx175.toInt + a169.toInt := i180; have t3 : lx175.toInt < lx174.toInt := b195; have t4 : lx174.toInt ≤ 2099 := ob198; have e9 : (((2100 : Int32).toNatClampNeg : Nat) : Int) = 2100 := (by decide); omega)) d_19_42_184 (fun H locs w201 hu202 hO187 V => ?_)
                replace hI := n_ai' hI (n_r133 g q).1 hu202 hO187 (q_updB (fun _ => s_bnd) s_bnd)
                replace hO183 := (hu202 _ (by decide)).trans hO183
                replace hO184 := (hu202 _ (by decide)).trans hO184
                replace hO185 := (hu202 _ (by decide)).trans hO185
                replace hO186 := (hu202 _ (by decide)).trans hO186
                replace hF := q_us hF hu202 (by simp)
                obtain ⟨f203, e204⟩ := q_nm (upd lx176 lx175.toNatClampNeg a199 : (Nat → Int32))
                rw [e204] at hO187
                refine lv_aload_n hx hb d_19_42_185 rfl (lv_at hl 3 rfl) ?_
                refine q_get (ci := 13) (j := 19) (v := .ref (q 133)) C0 V i_WR rfl rfl hO183 (by decide) w_1943 rfl d_19_42_186 ?_
                refine lv_iload hx hb d_19_42_189 (lv_at hl 1 rfl) ?_
                refine lv_iload hx hb d_19_42_191 (lv_at hl 0 rfl) ?_
                refine q_iast C0 V hO187 (q_ix (x := lx174.toInt) rfl (by have t1 : a169.toInt ≤ lx174.toInt + lx175.toInt := i178; have t2 : lx174.toInt ≤ lx175.toInt + a169.toInt := i180; have t3 : lx175.toInt < lx174.toInt := b195; omega) (by have t1 : a169.toInt ≤ lx174.toInt + lx175.toInt := i178; have t2 : lx174.toInt ≤ lx175.toInt + a169.toInt := i180; have t3 : lx175.toInt < lx174.toInt := b195; have t4 : lx174.toInt ≤ 2099 := ob198; have e9 : (((2100 : Int32).toNatClampNeg : Nat) : Int) = 2100 := (by decide); omega)) d_19_42_193 (fun H locs w205 hu206 hO187 V => ?_)
                replace hI := n_ai' hI (n_r133 g q).1 hu206 hO187 (q_updB (fun _ => s_bnd) s_bnd)
                replace hO183 := (hu206 _ (by decide)).trans hO183
                replace hO184 := (hu206 _ (by decide)).trans hO184
                replace hO185 := (hu206 _ (by decide)).trans hO185
                replace hO186 := (hu206 _ (by decide)).trans hO186
                replace hF := q_us hF hu206 (by simp)
                obtain ⟨f207, e208⟩ := q_nm (upd f203 lx174.toNatClampNeg a196 : (Nat → Int32))
                rw [e208] at hO187
                obtain ⟨a209, e210⟩ := q_nm (lx175 + 1 : Int32)
                have b211 : q_F (a209.toInt = lx175.toInt + 1) := (by rw [← e210]; exact q_addI (y := 1) rfl (by decide) (by have t1 : a169.toInt ≤ lx174.toInt + lx175.toInt := i178; have t2 : lx174.toInt ≤ lx175.toInt + a169.toInt := i180; have t3 : lx174.toInt + lx175.toInt ≤ a169.toInt := i179; have t4 : lx175.toInt < lx174.toInt := b195; have _ := q_lo32 (x := a169); have _ := q_hi32 (x := a169); omega) (by have t1 : a169.toInt ≤ lx174.toInt + lx175.toInt := i178; have t2 : lx174.toInt ≤ lx175.toInt + a169.toInt := i180; have t3 : lx174.toInt + lx175.toInt ≤ a169.toInt := i179; have t4 : lx175.toInt < lx174.toInt := b195; have _ := q_lo32 (x := a169); have _ := q_hi32 (x := a169); omega))
                refine lv_iinc (v := a209) (lv' := [(3, .int a209), (5, .int a196), (4, .int lx174), (0, .ref (q 119))]) hx hb d_19_42_194 hl (k := 2) rfl (e210) (by decide) rfl (fun ls hl => ?_)
                obtain ⟨a212, e213⟩ := q_nm (lx174 + (-1) : Int32)
                have b214 : q_F (a212.toInt = lx174.toInt + (-1)) := (by rw [← e213]; exact q_addI (y := (-1)) rfl (by decide) (by have t1 : a169.toInt ≤ lx174.toInt + lx175.toInt := i178; have t2 : lx174.toInt ≤ lx175.toInt + a169.toInt := i180; have t3 : lx175.toInt < lx174.toInt := b195; have t4 : lx174.toInt ≤ 2099 := ob198; omega) (by have t1 : a169.toInt ≤ lx174.toInt + lx175.toInt := i178; have t2 : lx174.toInt ≤ lx175.toInt + a169.toInt := i180; have t3 : lx175.toInt < lx174.toInt := b195; have t4 : lx174.toInt ≤ 2099 := ob198; omega))
                refine lv_iinc (v := a212) (lv' := [(4, .int a212), (3, .int a209), (5, .int a196), (0, .ref (q 119))]) hx hb d_19_42_197 hl (k := 2) rfl (e213) (by decide) rfl (fun ls hl => ?_)
                refine lv_goto (tgt := 158) hx hb d_19_42_200 (by decide) ?_
                exact ih181 ((a212 : Int32), (a209 : Int32), (f207 : (Nat → Int32))) _ _ _ _ (show (a212.toInt - ((-1))).toNat < (lx174.toInt - ((-1))).toNat from by have t1 : a212.toInt = lx174.toInt + (-1) := b214; have t2 : a169.toInt ≤ lx174.toInt + lx175.toInt := i178; have t3 : lx174.toInt ≤ lx175.toInt + a169.toInt := i180; have t4 : lx175.toInt < lx174.toInt := b195; omega) ⟨(show q_F (a209.toInt + 1 ≤ lx152.toInt) from (show a209.toInt + 1 ≤ lx152.toInt from by have t1 : 0 ≤ lx33.toInt := i40; have t2 : lx33.toInt ≤ lx61.toInt := i65; have t3 : lx61.toInt ≠ 0 := b147; have t4 : lx61.toInt ≤ lx152.toInt := i161; have t5 : a169.toInt = lx152.toInt - 1 := b171; have t6 : lx174.toInt + lx175.toInt ≤ a169.toInt := i179; have t7 : lx175.toInt < lx174.toInt := b195; have t8 : a209.toInt = lx175.toInt + 1 := b211; omega)), (show q_F (a169.toInt ≤ a212.toInt + a209.toInt) from (show a169.toInt ≤ a212.toInt + a209.toInt from by have t1 : a169.toInt ≤ lx174.toInt + lx175.toInt := i178; have t2 : a209.toInt = lx175.toInt + 1 := b211; have t3 : a212.toInt = lx174.toInt + (-1) := b214; omega)), (show q_F (a212.toInt + a209.toInt ≤ a169.toInt) from (show a212.toInt + a209.toInt ≤ a169.toInt from by have t1 : lx174.toInt + lx175.toInt ≤ a169.toInt := i179; have t2 : a209.toInt = lx175.toInt + 1 := b211; have t3 : a212.toInt = lx174.toInt + (-1) := b214; omega)), (show q_F (a212.toInt ≤ a209.toInt + a169.toInt) from (show a212.toInt ≤ a209.toInt + a169.toInt from by have t1 : lx174.toInt ≤ lx175.toInt + a169.toInt := i180; have t2 : a209.toInt = lx175.toInt + 1 := b211; have t3 : a212.toInt = lx174.toInt + (-1) := b214; omega)), V, q_lw hl (q_lw1 0 rfl (q_lw1 1 rfl (q_lw1 3 rfl q_lw0))), hI, hF, hO183, hO184, hO185, hO186, hO187, ⟨fm192, Nat.lt_of_lt_of_le (show (a212.toInt - ((-1))).toNat < (lx174.toInt - ((-1))).toNat from by have t1 : a212.toInt = lx174.toInt + (-1) := b214; have t2 : a169.toInt ≤ lx174.toInt + lx175.toInt := i178; have t3 : lx174.toInt ≤ lx175.toInt + a169.toInt := i180; have t4 : lx175.toInt < lx174.toInt := b195; omega) (Nat.le_of_lt_succ hf191), (show F_WR_written_L158 (F_WR_written_L50 x2 x3 t0_0 t0_1 t0_2 t0_3 t0_4 t0_5 t0_6 t1_0 t2_0 t3_0 t4_0 lx33 fm77) x2 x3 t0_0 t0_1 t0_2 t0_3 t0_4 t0_5 t0_6 t1_0 t2_0 t3_0 t4_0 lx33 lx61 lx62 lx63 lx152 lx153 fm192 a212 a209 f207 = (F_WR_written x2 x3 t0_0 t0_1 t0_2 t0_3 t0_4 t0_5 t0_6 t1_0 t2_0 t3_0 t4_0) from Eq.trans (by rw [← e213, ← e210, ← e208, ← e204, ← e200, ← e197, F_WR_written_L158.eq_2, if_neg c193]) hR188), (show True ∧ S_WR_written_L158 (S_WR_written_L50 x2 x3 t0_0 t0_1 t0_2 t0_3 t0_4 t0_5 t0_6 t1_0 t2_0 t3_0 t4_0 lx33 fm77) x2 x3 t0_0 t0_1 t0_2 t0_3 t0_4 t0_5 t0_6 t1_0 t2_0 t3_0 t4_0 lx33 lx61 lx62 lx63 lx152 lx153 fm192 a212 a209 f207 from (by rw [← e213, ← e210, ← e208, ← e204, ← e200, ← e197]; have h := hS189; rw [S_WR_written_L158.eq_2] at h; rw [if_neg c193] at h; replace h := q_s2 h; with_reducible exact h))⟩⟩
            ·
              intro J159
              refine lv_if_eq (tgt := 148) hx hb d_19_42_124 (by decide) (fun c215 => ?_) (fun c215 => ?_)
              ·
                exact J159 ((lx61 : Int32), (lx63 : (Nat → Int32))) _ _ _ _ ⟨(show q_F (lx61.toInt ≤ lx33.toInt + 2100) from (show lx61.toInt ≤ lx33.toInt + 2100 from by have t1 : 0 ≤ lx33.toInt := i40; have t2 : lx61.toInt ≤ 2100 := i64; omega)), (show q_F (lx61.toInt ≤ lx61.toInt) from (show lx61.toInt ≤ lx61.toInt from by omega)), (show q_F (lx61.toInt ≤ lx61.toInt + 1) from (show lx61.toInt ≤ lx61.toInt + 1 from by omega)), V, q_lw hl (q_lw1 0 rfl q_lw0), hI, hF, hO68, hO69, hO70, hO71, hO72, (show F_WR_written_J148 (F_WR_written_L50 x2 x3 t0_0 t0_1 t0_2 t0_3 t0_4 t0_5 t0_6 t1_0 t2_0 t3_0 t4_0 lx33 fm77) x2 x3 t0_0 t0_1 t0_2 t0_3 t0_4 t0_5 t0_6 t1_0 t2_0 t3_0 t4_0 lx33 lx61 lx62 lx63 lx61 lx63 = (F_WR_written x2 x3 t0_0 t0_1 t0_2 t0_3 t0_4 t0_5 t0_6 t1_0 t2_0 t3_0 t4_0) from Eq.trans (by have c143x := c143; rw [e84] at c143x; have c215x := c215; rw [← e151] at c215x; rw [F_WR_written_L50.eq_2, if_neg c143x, if_neg c146, if_pos c215x]) hR73), (show True ∧ S_WR_written_J148 (S_WR_written_L50 x2 x3 t0_0 t0_1 t0_2 t0_3 t0_4 t0_5 t0_6 t1_0 t2_0 t3_0 t4_0 lx33 fm77) x2 x3 t0_0 t0_1 t0_2 t0_3 t0_4 t0_5 t0_6 t1_0 t2_0 t3_0 t4_0 lx33 lx61 lx62 lx63 lx61 lx63 from (by have h := hS74; rw [S_WR_written_L50.eq_2] at h; have c143x := c143; rw [e84] at c143x; rw [if_neg c143x] at h; rw [if_neg c146] at h; replace h := q_s2 h; replace h := q_s2 h; have c215x := c215; rw [← e151] at c215x; rw [if_pos c215x] at h; with_reducible exact h))⟩
              ·
                refine lv_aload_n hx hb d_19_42_127 rfl (lv_at hl 0 rfl) ?_
                refine q_get (ci := 13) (j := 19) (v := .ref (q 133)) C0 V i_WR rfl rfl hO68 (by decide) w_1943 rfl d_19_42_128 ?_
                refine lv_aload_n hx hb d_19_42_131 rfl (lv_at hl 0 rfl) ?_
                refine q_get (ci := 13) (j := 20) (v := .int lx61) C0 V i_WR rfl rfl hO68 (by decide) w_1945 rfl d_19_42_132 ?_
                refine lv_bipush (v := 45) hx hb d_19_42_135 (by decide) ?_
                have ob218 : q_F (lx61.toInt ≤ 2099) := (by have h := hS74; rw [S_WR_written_L50.eq_2] at h; have c143x := c143; rw [e84] at c143x; rw [if_neg c143x] at h; rw [if_neg c146] at h; replace h := q_s2 h; replace h := q_s2 h; have c215x := c215; rw [← e151] at c215x; rw [if_neg c215x] at h; exact h.2.1)
                refine q_iast C0 V hO72 (q_ix (x := lx61.toInt) rfl (by have t1 : 0 ≤ lx33.toInt := i40; have t2 : lx33.toInt ≤ lx61.toInt := i65; omega) (by have t1 : 0 ≤ lx33.toInt := i40; have t2 : lx33.toInt ≤ lx61.toInt := i65; have t3 : lx61.toInt ≤ 2099 := ob218; have e9 : (((2100 : Int32).toNatClampNeg : Nat) : Int) = 2100 := (by decide); omega)) d_19_42_137 (fun H locs w219 hu220 hO72 V => ?_)
                replace hI := n_ai' hI (n_r133 g q).1 hu220 hO72 (q_updB (fun _ => s_bnd) s_bnd)
                replace hO68 := (hu220 _ (by decide)).trans hO68
                replace hO69 := (hu220 _ (by decide)).trans hO69
                replace hO70 := (hu220 _ (by decide)).trans hO70
                replace hO71 := (hu220 _ (by decide)).trans hO71
                replace hF := q_us hF hu220 (by simp)
                obtain ⟨f221, e222⟩ := q_nm (upd lx63 lx61.toNatClampNeg 45 : (Nat → Int32))
                rw [e222] at hO72
                refine lv_aload_n hx hb d_19_42_138 rfl (lv_at hl 0 rfl) ?_
                refine lv_dup hx hb d_19_42_139 rfl ?_
                refine q_get (ci := 13) (j := 20) (v := .int lx61) C0 V i_WR rfl rfl hO68 (by decide) w_1945 rfl d_19_42_140 ?_
                refine lv_iconst (v := 1) hx hb d_19_42_143 (by decide) ?_
                refine lv_iadd hx hb d_19_42_144 ?_
                obtain ⟨a223, e224⟩ := q_nm (lx61 + 1 : Int32)
                refine q_ti (v := a223) e224 ?_
                have b225 : q_F (a223.toInt = lx61.toInt + 1) := (by rw [← e224]; show (lx61 + 1 : Int32).toInt = lx61.toInt + 1; exact q_addI (x := lx61.toInt) (y := 1) rfl (by decide) (by have t1 : lx33.toInt ≤ lx61.toInt := i65; have _ := q_lo32 (x := lx33); have _ := q_hi32 (x := lx33); have t2 : lx61.toInt ≤ 2100 := i64; omega) (by have t1 : lx33.toInt ≤ lx61.toInt := i65; have _ := q_lo32 (x := lx33); have _ := q_hi32 (x := lx33); have t2 : lx61.toInt ≤ 2100 := i64; omega))
                refine q_put (ci := 13) (j := 20) (v := .int a223) (ty := .int) C0 V i_WR o_WR n_WR rfl rfl hO68 (by decide) w_1945 rfl rfl rfl rfl (Nat.le_of_ble_eq_true rfl) d_19_42_145 (fun H locs w226 hu227 hO68 V => ?_)
                replace hO68 : w226[119]? = (some (q 119, .inr (13, [.int lx33, .int t0_1, .ref (q 120), .int t0_2, .ref (q 121), .ref (q 122), .ref (q 123), .int t0_3, .ref (q 124), .ref (q 125), .ref (q 126), .ref (q 127), .ref (q 128), .ref (q 129), .ref (q 130), .ref (q 131), .int t0_4, .int t0_5, .ref (q 132), .ref (q 133), .int a223])) : Option (Nat × va_E)) := hO68
                replace hI := n_p119 hI hu227 hO68 (by first | with_reducible exact q_fe btt0_2 | exact ⟨(by have t1 : 0 ≤ t0_2.toInt ∧ t0_2.toInt ≤ 4100 := btt0_2; omega), (by have t1 : 0 ≤ t0_2.toInt ∧ t0_2.toInt ≤ 4100 := btt0_2; omega)⟩) (by first | with_reducible exact q_fe btt0_3 | exact ⟨(by have t1 : 0 ≤ t0_3.toInt ∧ t0_3.toInt ≤ 1 := btt0_3; omega), (by have t1 : 0 ≤ t0_3.toInt ∧ t0_3.toInt ≤ 1 := btt0_3; omega)⟩) (by first | with_reducible exact q_fe btt0_4 | exact ⟨(by have t1 : 0 ≤ t0_4.toInt ∧ t0_4.toInt ≤ 1 := btt0_4; omega), (by have t1 : 0 ≤ t0_4.toInt ∧ t0_4.toInt ≤ 1 := btt0_4; omega)⟩) (by first | with_reducible exact q_fe btt0_5 | exact ⟨(by have t1 : 0 ≤ t0_5.toInt ∧ t0_5.toInt ≤ 1 := btt0_5; omega), (by have t1 : 0 ≤ t0_5.toInt ∧ t0_5.toInt ≤ 1 := btt0_5; omega)⟩) ⟨(by have t1 : 0 ≤ lx33.toInt := i40; have t2 : lx33.toInt ≤ lx61.toInt := i65; have t3 : a223.toInt = lx61.toInt + 1 := b225; omega), (by have t1 : lx61.toInt ≤ 2099 := ob218; have t2 : a223.toInt = lx61.toInt + 1 := b225; omega)⟩
                replace hO69 := (hu227 _ (by decide)).trans hO69
                replace hO70 := (hu227 _ (by decide)).trans hO70
                replace hO71 := (hu227 _ (by decide)).trans hO71
                replace hO72 := (hu227 _ (by decide)).trans hO72
                replace hF := q_us hF hu227 (by simp)
                exact J159 ((a223 : Int32), (f221 : (Nat → Int32))) _ _ _ _ ⟨(show q_F (a223.toInt ≤ lx33.toInt + 2100) from (show a223.toInt ≤ lx33.toInt + 2100 from by have t1 : 0 ≤ lx33.toInt := i40; have t2 : lx61.toInt ≤ 2099 := ob218; have t3 : a223.toInt = lx61.toInt + 1 := b225; omega)), (show q_F (lx61.toInt ≤ a223.toInt) from (show lx61.toInt ≤ a223.toInt from by have t1 : a223.toInt = lx61.toInt + 1 := b225; omega)), (show q_F (a223.toInt ≤ lx61.toInt + 1) from (show a223.toInt ≤ lx61.toInt + 1 from by have t1 : a223.toInt = lx61.toInt + 1 := b225; omega)), V, q_lw hl (q_lw1 0 rfl q_lw0), hI, hF, hO68, hO69, hO70, hO71, hO72, (show F_WR_written_J148 (F_WR_written_L50 x2 x3 t0_0 t0_1 t0_2 t0_3 t0_4 t0_5 t0_6 t1_0 t2_0 t3_0 t4_0 lx33 fm77) x2 x3 t0_0 t0_1 t0_2 t0_3 t0_4 t0_5 t0_6 t1_0 t2_0 t3_0 t4_0 lx33 lx61 lx62 lx63 a223 f221 = (F_WR_written x2 x3 t0_0 t0_1 t0_2 t0_3 t0_4 t0_5 t0_6 t1_0 t2_0 t3_0 t4_0) from Eq.trans (by have c143x := c143; rw [e84] at c143x; have c215x := c215; rw [← e151] at c215x; rw [← e224, ← e222, F_WR_written_L50.eq_2, if_neg c143x, if_neg c146, if_neg c215x]) hR73), (show True ∧ S_WR_written_J148 (S_WR_written_L50 x2 x3 t0_0 t0_1 t0_2 t0_3 t0_4 t0_5 t0_6 t1_0 t2_0 t3_0 t4_0 lx33 fm77) x2 x3 t0_0 t0_1 t0_2 t0_3 t0_4 t0_5 t0_6 t1_0 t2_0 t3_0 t4_0 lx33 lx61 lx62 lx63 a223 f221 from (by rw [← e224, ← e222]; have h := hS74; rw [S_WR_written_L50.eq_2] at h; have c143x := c143; rw [e84] at c143x; rw [if_neg c143x] at h; rw [if_neg c146] at h; replace h := q_s2 h; replace h := q_s2 h; have c215x := c215; rw [← e151] at c215x; rw [if_neg c215x] at h; replace h := q_s2 h; with_reducible exact h))⟩
          ·
            exact J90 (()) _ _ _ w67 ⟨V, q_lw hl (q_lw1 0 rfl (q_lw1 1 rfl (q_lw1 2 rfl q_lw0))), (show F_WR_written_J67 (F_WR_written_L50 x2 x3 t0_0 t0_1 t0_2 t0_3 t0_4 t0_5 t0_6 t1_0 t2_0 t3_0 t4_0 lx33 fm77) x2 x3 t0_0 t0_1 t0_2 t0_3 t0_4 t0_5 t0_6 t1_0 t2_0 t3_0 t4_0 lx33 lx61 lx62 lx63 = (F_WR_written x2 x3 t0_0 t0_1 t0_2 t0_3 t0_4 t0_5 t0_6 t1_0 t2_0 t3_0 t4_0) from Eq.trans (by have c143x := c143; rw [e84] at c143x; rw [F_WR_written_L50.eq_2, if_neg c143x, if_pos c146]) hR73), (show True ∧ S_WR_written_J67 (S_WR_written_L50 x2 x3 t0_0 t0_1 t0_2 t0_3 t0_4 t0_5 t0_6 t1_0 t2_0 t3_0 t4_0 lx33 fm77) x2 x3 t0_0 t0_1 t0_2 t0_3 t0_4 t0_5 t0_6 t1_0 t2_0 t3_0 t4_0 lx33 lx61 lx62 lx63 from (by have h := hS74; rw [S_WR_written_L50.eq_2] at h; have c143x := c143; rw [e84] at c143x; rw [if_neg c143x] at h; rw [if_pos c146] at h; with_reducible exact h))⟩
    ·
      refine lv_iconst (v := 0) hx hb d_19_42_34 (by decide) ?_
      exact q_reti C0 V (⟨hI, hF, lx33, t0_1, t0_2, t0_3, t0_4, t0_5, t0_6, t3_0, t4_0, hT0, hT3, hT4, (show 0 ≤ (0 : Int32).toInt from (by have z13 : (0 : Int32).toInt = 0 := rfl; omega)), (show 0 ≤ lx33.toInt from (by have z13 : (0 : Int32).toInt = 0 := rfl; have t1 : 0 ≤ lx33.toInt := i40; omega)), (show lx33.toInt ≤ 1 from (by have z13 : (0 : Int32).toInt = 0 := rfl; have t1 : lx33.toInt ≤ 1 := i41; omega)), (show t0_6.toInt ≤ 2100 from (by have z13 : (0 : Int32).toInt = 0 := rfl; have t1 : 0 ≤ t0_6.toInt ∧ t0_6.toInt ≤ 2100 := btt0_6; omega)), (show t0_1.toInt ≤ t0_1.toInt from (by have z13 : (0 : Int32).toInt = 0 := rfl; omega)), (show t0_1.toInt ≤ t0_1.toInt from (by have z13 : (0 : Int32).toInt = 0 := rfl; omega)), (show t0_2.toInt ≤ t0_2.toInt from (by have z13 : (0 : Int32).toInt = 0 := rfl; omega)), (show t0_2.toInt ≤ t0_2.toInt from (by have z13 : (0 : Int32).toInt = 0 := rfl; omega)), (show t0_3.toInt ≤ t0_3.toInt from (by have z13 : (0 : Int32).toInt = 0 := rfl; omega)), (show t0_3.toInt ≤ t0_3.toInt from (by have z13 : (0 : Int32).toInt = 0 := rfl; omega)), (show t0_4.toInt ≤ t0_4.toInt from (by have z13 : (0 : Int32).toInt = 0 := rfl; omega)), (show t0_4.toInt ≤ t0_4.toInt from (by have z13 : (0 : Int32).toInt = 0 := rfl; omega)), (show t0_5.toInt ≤ t0_5.toInt from (by have z13 : (0 : Int32).toInt = 0 := rfl; omega)), (show t0_5.toInt ≤ t0_5.toInt from (by have z13 : (0 : Int32).toInt = 0 := rfl; omega)), (show t0_6.toInt ≤ t0_6.toInt + 2099 from (by have z13 : (0 : Int32).toInt = 0 := rfl; omega)), (show (0 : Int32).toInt ≤ t0_6.toInt from (by have z13 : (0 : Int32).toInt = 0 := rfl; have t1 : 0 ≤ t0_6.toInt ∧ t0_6.toInt ≤ 2100 := btt0_6; omega)), (show ((0 : Int32), lx33, t0_1, t0_2, t0_3, t0_4, t0_5, t0_6, t3_0, t4_0) = (F_WR_written x2 x3 t0_0 t0_1 t0_2 t0_3 t0_4 t0_5 t0_6 t1_0 t2_0 t3_0 t4_0) from Eq.trans (by rw [F_WR_written_J24.eq_1, if_neg c49]) hR42)⟩) d_19_42_35
  ·
    intro J39
    refine q_join (X := Unit) (fun z H locs ls _ => q_Wd D g (va_A ws sz) s ws H locs ∧ lv_has ls 6 [(0, .ref (q 119)), (1, .int x2), (2, .int x3)] ∧ F_WR_written_J19 x2 x3 t0_0 t0_1 t0_2 t0_3 t0_4 t0_5 t0_6 t1_0 t2_0 t3_0 t4_0 = (F_WR_written x2 x3 t0_0 t0_1 t0_2 t0_3 t0_4 t0_5 t0_6 t1_0 t2_0 t3_0 t4_0) ∧ True ∧ S_WR_written_J19 x2 x3 t0_0 t0_1 t0_2 t0_3 t0_4 t0_5 t0_6 t1_0 t2_0 t3_0 t4_0) (fun z => [.ref (q 119)]) 19 0 0 ?_ ?_
    ·
      rintro _ H locs ls _ ⟨V, hl, hR236, hS237⟩
      replace hl : lv_has ls 6 [(0, .ref (q 119)), (1, .int x2), (2, .int x3)] := hl
      refine lv_iconst (v := 1) hx hb d_19_42_19 (by decide) ?_
      refine lv_goto (tgt := 24) hx hb d_19_42_20 (by decide) ?_
      exact J39 ((1 : Int32)) _ _ _ ws ⟨(show q_F (0 ≤ 1) from (show 0 ≤ 1 from by omega)), (show q_F (1 ≤ 1) from (show 1 ≤ 1 from by omega)), V, q_lw hl (q_lw1 0 rfl (q_lw1 1 rfl (q_lw1 2 rfl q_lw0))), (show F_WR_written_J24 x2 x3 t0_0 t0_1 t0_2 t0_3 t0_4 t0_5 t0_6 t1_0 t2_0 t3_0 t4_0 1 = (F_WR_written x2 x3 t0_0 t0_1 t0_2 t0_3 t0_4 t0_5 t0_6 t1_0 t2_0 t3_0 t4_0) from Eq.trans (by rw [F_WR_written_J19.eq_1]) hR236), (show True ∧ S_WR_written_J24 x2 x3 t0_0 t0_1 t0_2 t0_3 t0_4 t0_5 t0_6 t1_0 t2_0 t3_0 t4_0 1 from (by have h := hS237; rw [S_WR_written_J19.eq_1] at h; with_reducible exact h))⟩
    ·
      intro J235
      refine lv_if_ne (tgt := 19) hx hb d_19_42_5 (by decide) (fun c241 => ?_) (fun c241 => ?_)
      ·
        exact J235 (()) _ _ _ ws ⟨V, q_lw hl (q_lw1 0 rfl (q_lw1 1 rfl (q_lw1 2 rfl q_lw0))), (show F_WR_written_J19 x2 x3 t0_0 t0_1 t0_2 t0_3 t0_4 t0_5 t0_6 t1_0 t2_0 t3_0 t4_0 = (F_WR_written x2 x3 t0_0 t0_1 t0_2 t0_3 t0_4 t0_5 t0_6 t1_0 t2_0 t3_0 t4_0) from (by have c241x := c241; rw [e32] at c241x; rw [F_WR_written.eq_1, if_neg c241x])), (show True ∧ S_WR_written_J19 x2 x3 t0_0 t0_1 t0_2 t0_3 t0_4 t0_5 t0_6 t1_0 t2_0 t3_0 t4_0 from (by have h := hS; rw [S_WR_written.eq_1] at h; have c241x := c241; rw [e32] at c241x; rw [if_neg c241x] at h; with_reducible exact h))⟩
      ·
        refine lv_iload_n hx hb d_19_42_8 rfl (lv_at hl 2 rfl) ?_
        refine lv_iconst (v := 2) hx hb d_19_42_9 (by decide) ?_
        refine lv_icmp_lt (tgt := 19) hx hb d_19_42_10 (by decide) (fun c244 => ?_) (fun c244 => ?_)
        ·
          exact J235 (()) _ _ _ ws ⟨V, q_lw hl (q_lw1 0 rfl (q_lw1 1 rfl (q_lw1 2 rfl q_lw0))), (show F_WR_written_J19 x2 x3 t0_0 t0_1 t0_2 t0_3 t0_4 t0_5 t0_6 t1_0 t2_0 t3_0 t4_0 = (F_WR_written x2 x3 t0_0 t0_1 t0_2 t0_3 t0_4 t0_5 t0_6 t1_0 t2_0 t3_0 t4_0) from (by have c241x := c241; rw [e32] at c241x; rw [F_WR_written.eq_1, if_pos c241x, if_pos c244])), (show True ∧ S_WR_written_J19 x2 x3 t0_0 t0_1 t0_2 t0_3 t0_4 t0_5 t0_6 t1_0 t2_0 t3_0 t4_0 from (by have h := hS; rw [S_WR_written.eq_1] at h; have c241x := c241; rw [e32] at c241x; rw [if_pos c241x] at h; rw [if_pos c244] at h; with_reducible exact h))⟩
        ·
          refine lv_iload_n hx hb d_19_42_13 rfl (lv_at hl 2 rfl) ?_
          refine lv_bipush (v := 36) hx hb d_19_42_14 (by decide) ?_
          refine lv_icmp_le (tgt := 23) hx hb d_19_42_16 (by decide) (fun c247 => ?_) (fun c247 => ?_)
          ·
            refine lv_iconst (v := 0) hx hb d_19_42_23 (by decide) ?_
            exact J39 ((0 : Int32)) _ _ _ ws ⟨(show q_F (0 ≤ 0) from (show 0 ≤ 0 from by omega)), (show q_F (0 ≤ 1) from (show 0 ≤ 1 from by omega)), V, q_lw hl (q_lw1 0 rfl (q_lw1 1 rfl (q_lw1 2 rfl q_lw0))), (show F_WR_written_J24 x2 x3 t0_0 t0_1 t0_2 t0_3 t0_4 t0_5 t0_6 t1_0 t2_0 t3_0 t4_0 0 = (F_WR_written x2 x3 t0_0 t0_1 t0_2 t0_3 t0_4 t0_5 t0_6 t1_0 t2_0 t3_0 t4_0) from (by have c241x := c241; rw [e32] at c241x; rw [F_WR_written.eq_1, if_pos c241x, if_neg c244, if_pos c247])), (show True ∧ S_WR_written_J24 x2 x3 t0_0 t0_1 t0_2 t0_3 t0_4 t0_5 t0_6 t1_0 t2_0 t3_0 t4_0 0 from (by have h := hS; rw [S_WR_written.eq_1] at h; have c241x := c241; rw [e32] at c241x; rw [if_pos c241x] at h; rw [if_neg c244] at h; rw [if_pos c247] at h; with_reducible exact h))⟩
          ·
            exact J235 (()) _ _ _ ws ⟨V, q_lw hl (q_lw1 0 rfl (q_lw1 1 rfl (q_lw1 2 rfl q_lw0))), (show F_WR_written_J19 x2 x3 t0_0 t0_1 t0_2 t0_3 t0_4 t0_5 t0_6 t1_0 t2_0 t3_0 t4_0 = (F_WR_written x2 x3 t0_0 t0_1 t0_2 t0_3 t0_4 t0_5 t0_6 t1_0 t2_0 t3_0 t4_0) from (by have c241x := c241; rw [e32] at c241x; rw [F_WR_written.eq_1, if_pos c241x, if_neg c244, if_neg c247])), (show True ∧ S_WR_written_J19 x2 x3 t0_0 t0_1 t0_2 t0_3 t0_4 t0_5 t0_6 t1_0 t2_0 t3_0 t4_0 from (by have h := hS; rw [S_WR_written.eq_1] at h; have c241x := c241; rw [e32] at c241x; rw [if_pos c241x] at h; rw [if_neg c244] at h; rw [if_neg c247] at h; with_reducible exact h))⟩

/-! the reference's rows of 16 bits: their value -/
def wV (f : Nat → Int32) : Nat → Int
  | 0 => 0
  | n + 1 => wV f n + (f n).toInt * 65536 ^ n
def wO (f : Nat → Int32) (n : Nat) : Prop := ∀ i, i < n → 0 ≤ (f i).toInt ∧ (f i).toInt < 65536
theorem wO.mono {f : Nat → Int32} {n m : Nat} (h : wO f n) (hm : m ≤ n) : wO f m := fun i hi => h i (by omega)
theorem w_pos (n : Nat) : (0 : Int) < 65536 ^ n := Int.pow_pos (by decide)
theorem w_pw (n : Nat) : (65536 : Int) ^ (n + 1) = 65536 ^ n * 65536 := Int.pow_succ _ _
theorem w_nn {f : Nat → Int32} : ∀ {n : Nat}, wO f n → 0 ≤ wV f n
  | 0, _ => Int.le_refl 0
  | n + 1, h => by
    have h1 := w_nn (f := f) (n := n) (h.mono (by omega))
    have h2 := Int.mul_nonneg (h n (by omega)).1 (Int.le_of_lt (w_pos n))
    show 0 ≤ wV f n + _
    omega
theorem w_lt {f : Nat → Int32} : ∀ {n : Nat}, wO f n → wV f n < 65536 ^ n
  | 0, _ => by show (0 : Int) < 1; decide
  | n + 1, h => by
    have h1 := w_lt (f := f) (n := n) (h.mono (by omega))
    have h2 := (h n (by omega)).2
    have h3 : (f n).toInt * 65536 ^ n ≤ 65535 * 65536 ^ n := Int.mul_le_mul_of_nonneg_right (by omega) (Int.le_of_lt (w_pos n))
    have h4 := w_pw n
    show wV f n + _ < _
    rw [h4]
    omega
theorem w_ext {f g : Nat → Int32} : ∀ {n : Nat}, (∀ i, i < n → f i = g i) → wV f n = wV g n
  | 0, _ => rfl
  | n + 1, h => by
    show wV f n + _ = wV g n + _
    rw [w_ext (n := n) (fun i hi => h i (by omega)), h n (by omega)]
theorem w_zer {f : Nat → Int32} {k : Nat} : ∀ {n : Nat}, k ≤ n → (∀ i, k ≤ i → i < n → f i = 0) → wV f n = wV f k
  | 0, hk, _ => by have : k = 0 := by omega
                   subst this; rfl
  | n + 1, hk, h => by
    by_cases e : k = n + 1
    · subst e; rfl
    · have h0 : (0 : Int32).toInt = 0 := rfl
      show wV f n + _ = _
      rw [w_zer (n := n) (by omega) (fun i a b => h i a (by omega)), h n (by omega) (by omega), h0]
      omega
theorem w_upd_ge {f : Nat → Int32} {i : Nat} {x : Int32} : ∀ {n : Nat}, n ≤ i → wV (upd f i x) n = wV f n
  | 0, _ => rfl
  | n + 1, h => by
    show wV (upd f i x) n + _ = wV f n + _
    rw [w_upd_ge (n := n) (by omega), v_ne (by omega)]
theorem w_upd {f : Nat → Int32} {i : Nat} {x : Int32} : ∀ {n : Nat}, i < n → wV (upd f i x) n = wV f n + (x.toInt - (f i).toInt) * 65536 ^ i
  | 0, h => by omega
  | n + 1, h => by
    show wV (upd f i x) n + _ = wV f n + _ + _
    by_cases e : n = i
    · subst e
      rw [w_upd_ge (Nat.le_refl _), v_eq, Int.sub_mul]
      omega
    · rw [w_upd (n := n) (by omega), v_ne e]
      omega
theorem wO_upd {f : Nat → Int32} {n i : Nat} {x : Int32} (h : wO f n) (hx : 0 ≤ x.toInt ∧ x.toInt < 65536) : wO (upd f i x) n := fun j hj => by
  by_cases e : j = i
  · subst e; rw [v_eq]; exact hx
  · rw [v_ne e]; exact h j hj
theorem w_ge {f : Nat → Int32} {k : Nat} : ∀ {n : Nat}, wO f n → k < n → f k ≠ 0 → (65536 : Int) ^ k ≤ wV f n
  | 0, _, h, _ => by omega
  | n + 1, ho, h, hk => by
    show _ ≤ wV f n + _
    have h1 := w_nn (f := f) (n := n) (ho.mono (by omega))
    have h2 := Int.mul_nonneg (ho n (by omega)).1 (Int.le_of_lt (w_pos n))
    by_cases e : k = n
    · subst e
      have h3 := (ho k (by omega)).1
      have h4 : (f k).toInt ≠ 0 := fun e => hk (Int32.toInt_inj.mp (by rw [e]; rfl))
      have h5 := Int.mul_le_mul_of_nonneg_right (show 1 ≤ (f k).toInt by omega) (Int.le_of_lt (w_pos k))
      omega
    · have := w_ge (n := n) (ho.mono (by omega)) (by omega) hk
      omega
/-- sixteen bits of a signed number, and the rest -/
theorem w_and {x : Int64} : (x &&& 65535).toInt = x.toInt % 65536 := by
  have h4 : (x &&& 65535).toBitVec.toNat = x.toBitVec.toNat % 65536 := by
    rw [Int64.toBitVec_and, BitVec.toNat_and]
    exact Nat.and_two_pow_sub_one_eq_mod _ 16
  have h5 := s_ofL h4 (by omega)
  rw [h5]
  have h6 : x.toInt = x.toBitVec.toInt := rfl
  rw [h6, BitVec.toInt_eq_toNat_cond]
  split <;> omega
theorem w_shr {x : Int64} : (x >>> ((16 : Int32).toInt64 &&& 63)).toInt = x.toInt / 65536 := by
  have hc : ((16 : Int32).toInt64 &&& 63).toBitVec.smod 64 = BitVec.ofNat 64 16 := by decide
  show (x >>> ((16 : Int32).toInt64 &&& 63)).toBitVec.toInt = _
  rw [Int64.toBitVec_shiftRight, hc, BitVec.sshiftRight_eq', BitVec.toInt_sshiftRight, Int.shiftRight_eq_div_pow]
  rfl
theorem w_and' {x : Int64} : ((x &&& 65535).toInt32).toInt = x.toInt % 65536 := by
  have h := w_and (x := x)
  have h1 := Int.emod_nonneg x.toInt (show (65536 : Int) ≠ 0 by decide)
  have h2 := Int.emod_lt_of_pos x.toInt (show (0 : Int) < 65536 by decide)
  rw [s_l2i (by omega) (by omega), h]
theorem w_shl {x : Int64} (h : 0 ≤ x.toInt) (h2 : x.toInt < 4294967296) : (x <<< ((16 : Int32).toInt64 &&& 63)).toInt = x.toInt * 65536 := by
  obtain ⟨h1, h3, -⟩ := s_nnL h
  have hc : ((16 : Int32).toInt64 &&& 63).toBitVec.smod 64 = BitVec.ofNat 64 16 := by decide
  have e : (x <<< ((16 : Int32).toInt64 &&& 63)).toBitVec.toNat = x.toBitVec.toNat * 65536 := by
    rw [Int64.toBitVec_shiftLeft, hc, BitVec.shiftLeft_eq', BitVec.toNat_shiftLeft, Nat.shiftLeft_eq]
    show x.toBitVec.toNat * 65536 % 18446744073709551616 = _
    omega
  have h5 := s_ofL e (by omega)
  rw [h5, h1]
  omega
theorem w_or {x : Int64} {y : Int32} (h : 0 ≤ x.toInt) (h2 : x.toInt < 140737488355328) (hm : x.toInt % 65536 = 0) (hy : 0 ≤ y.toInt ∧ y.toInt < 65536) : (x ||| y.toInt64).toInt = x.toInt + y.toInt := by
  obtain ⟨h1, h3, -⟩ := s_nnL h
  have ey : y.toInt64.toInt = y.toInt := q_i2l rfl
  obtain ⟨y1, y3, -⟩ := s_nnL (x := y.toInt64) (by omega)
  have e : (x ||| y.toInt64).toBitVec.toNat = x.toBitVec.toNat + y.toInt64.toBitVec.toNat := by
    rw [Int64.toBitVec_or, BitVec.toNat_or]
    have hx : x.toBitVec.toNat = 65536 * (x.toBitVec.toNat / 65536) := by omega
    rw [hx]
    have := Nat.two_pow_add_eq_or_of_lt (i := 16) (b := y.toInt64.toBitVec.toNat) (by omega) (x.toBitVec.toNat / 65536)
    exact this.symm
  have h5 := s_ofL e (by omega)
  rw [h5]
  omega
/-- the length of a row -/
theorem w_sizeL {N : Int32} {f : Nat → Int32} : ∀ (n : Nat) (k : Int32), 0 ≤ k.toInt → k.toInt ≤ N.toInt → k.toInt < n → (∀ i : Nat, k.toInt ≤ i → (i : Int) < N.toInt → f i = 0) →
    0 ≤ (F_WR_size_L3 N f n k).toInt ∧ (F_WR_size_L3 N f n k).toInt ≤ N.toInt ∧ (∀ i : Nat, (F_WR_size_L3 N f n k).toInt ≤ i → (i : Int) < N.toInt → f i = 0) ∧ (0 < (F_WR_size_L3 N f n k).toInt → f ((F_WR_size_L3 N f n k).toNatClampNeg - 1) ≠ 0) := by
  intro n
  induction n with
  | zero => intro k h0 h1 h2 h3; omega
  | succ n ih =>
    intro k h0 h1 h2 h3
    have e0 : (0 : Int32).toInt = 0 := rfl
    have hN := Int32.toInt_lt N
    rw [F_WR_size_L3.eq_2]
    by_cases c : k ≤ 0
    · rw [if_pos c]
      have := q_leI c
      exact ⟨h0, h1, h3, fun h => by omega⟩
    · rw [if_neg c]
      have c2 := q_nleI c
      have e1 : (k - 1 : Int32).toInt = k.toInt - 1 := q_subI (y := 1) rfl (by decide) (by omega) (by omega)
      have e2 : (k + (-1) : Int32).toInt = k.toInt + (-1) := q_addI (y := -1) rfl (by decide) (by omega) (by omega)
      have ek := q_clI (i := k) rfl h0
      have e3 := q_clI (i := k - 1) e1 (by omega)
      have e4 : (k - 1 : Int32).toNatClampNeg = k.toNatClampNeg - 1 := by omega
      rw [e4]
      by_cases z : f (k.toNatClampNeg - 1) = 0
      · rw [if_pos z]
        refine ih _ (by omega) (by omega) (by omega) fun i a b => ?_
        by_cases e : i = k.toNatClampNeg - 1
        · rw [e]; exact z
        · exact h3 i (by omega) b
      · rw [if_neg z]
        exact ⟨h0, h1, h3, fun _ => z⟩
def wS (N : Int32) (f : Nat → Int32) (z : Int32) : Prop := 0 ≤ z.toInt ∧ z.toInt ≤ N.toInt ∧ (∀ i : Nat, z.toInt ≤ i → (i : Int) < N.toInt → f i = 0) ∧ (0 < z.toInt → f (z.toNatClampNeg - 1) ≠ 0)
theorem R_size {N : Int32} {f : Nat → Int32} (h : 0 ≤ N.toInt) : wS N f (F_WR_size N f) := w_sizeL _ _ h (Int.le_refl _) (by omega) (fun i a b => by omega)
theorem wS.val {N z : Int32} {f : Nat → Int32} (h : wS N f z) : wV f N.toNatClampNeg = wV f z.toNatClampNeg := by
  obtain ⟨h0, h1, h2, -⟩ := h
  have e1 := q_clI (i := z) rfl h0
  have e2 := q_clI (i := N) rfl (by omega)
  exact w_zer (by omega) (fun i a b => h2 i (by omega) (by omega))
theorem wS.lt {N z : Int32} {f : Nat → Int32} (h : wS N f z) (ho : wO f N.toNatClampNeg) : wV f N.toNatClampNeg < 65536 ^ z.toNatClampNeg := by
  rw [h.val]
  have e1 := q_clI (i := z) rfl h.1
  have e2 := q_clI (i := N) rfl (by have := h.1; have := h.2.1; omega)
  exact w_lt (ho.mono (by have := h.2.1; omega))
theorem wS.ge {N z : Int32} {f : Nat → Int32} (h : wS N f z) (ho : wO f N.toNatClampNeg) (hz : 0 < z.toInt) : 65536 ^ (z.toNatClampNeg - 1) ≤ wV f N.toNatClampNeg := by
  have e1 := q_clI (i := z) rfl h.1
  have e2 := q_clI (i := N) rfl (by have := h.1; have := h.2.1; omega)
  exact w_ge ho (by have := h.2.1; omega) (h.2.2.2 hz)
/-- clear, copy -/
theorem w_clearL {N : Int32} {f0 : Nat → Int32} : ∀ (n : Nat) (k : Int32) (f : Nat → Int32), 0 ≤ k.toInt → k.toInt ≤ N.toInt → N.toInt - k.toInt < n → (∀ i : Nat, (i : Int) < k.toInt → f i = 0) → ∀ i : Nat, (i : Int) < N.toInt → F_WR_clear_L2 N f0 n k f i = 0 := by
  intro n
  induction n with
  | zero => intro k f h0 hk h1 h2 i hi; omega
  | succ n ih =>
    intro k f h0 hk h1 h2 i hi
    rw [F_WR_clear_L2.eq_2]
    have hN := Int32.toInt_lt N
    by_cases c : N ≤ k
    · rw [if_pos c]
      have := q_leI c
      exact h2 i (by omega)
    · rw [if_neg c]
      have c2 := q_nleI c
      have e1 : (k + 1 : Int32).toInt = k.toInt + 1 := q_addI (y := 1) rfl (by decide) (by omega) (by omega)
      have ek := q_clI (i := k) rfl h0
      refine ih _ _ (by omega) (by omega) (by omega) (fun j hj => ?_) i hi
      by_cases e : j = k.toNatClampNeg
      · rw [e, v_eq]
      · rw [v_ne e]; exact h2 j (by omega)
theorem R_clear {N : Int32} {f : Nat → Int32} (h0 : 0 ≤ N.toInt) (hN : N.toInt ≤ 20200) : ∀ i : Nat, (i : Int) < N.toInt → F_WR_clear N f i = 0 := w_clearL _ _ _ (by decide) h0 (by have : (0 : Int32).toInt = 0 := rfl; omega) (fun i hi => by have : (0 : Int32).toInt = 0 := rfl; omega)
theorem w_copyL {N1 N2 : Int32} {f g0 : Nat → Int32} : ∀ (n : Nat) (k : Int32) (g : Nat → Int32), 0 ≤ k.toInt → k.toInt ≤ N2.toInt → N2.toInt - k.toInt < n → (∀ i : Nat, (i : Int) < k.toInt → g i = if (i : Int) < N1.toInt then f i else 0) → ∀ i : Nat, (i : Int) < N2.toInt → F_WR_copy_L2 N1 N2 f g0 n k g i = if (i : Int) < N1.toInt then f i else 0 := by
  intro n
  induction n with
  | zero => intro k f h0 hk h1 h2 i hi; omega
  | succ n ih =>
    intro k g h0 hk h1 h2 i hi
    rw [F_WR_copy_L2.eq_2]
    have hN := Int32.toInt_lt N2
    by_cases c : N2 ≤ k
    · rw [if_pos c]
      have := q_leI c
      exact h2 i (by omega)
    · rw [if_neg c]
      have c2 := q_nleI c
      have e1 : (k + 1 : Int32).toInt = k.toInt + 1 := q_addI (y := 1) rfl (by decide) (by omega) (by omega)
      have ek := q_clI (i := k) rfl h0
      by_cases d : N1 ≤ k
      · rw [if_pos d]
        have d2 := q_leI d
        refine ih _ _ (by omega) (by omega) (by omega) (fun j hj => ?_) i hi
        by_cases e : j = k.toNatClampNeg
        · rw [e, v_eq, if_neg (by omega)]
        · rw [v_ne e]; exact h2 j (by omega)
      · rw [if_neg d]
        have d2 := q_nleI d
        refine ih _ _ (by omega) (by omega) (by omega) (fun j hj => ?_) i hi
        by_cases e : j = k.toNatClampNeg
        · rw [e, v_eq, if_pos (by omega)]
        · rw [v_ne e]; exact h2 j (by omega)
theorem R_copy {N1 N2 : Int32} {f g : Nat → Int32} (h0 : 0 ≤ N2.toInt) (hN : N2.toInt ≤ 20200) : ∀ i : Nat, (i : Int) < N2.toInt → F_WR_copy N1 N2 f g i = if (i : Int) < N1.toInt then f i else 0 := w_copyL _ _ _ (by decide) h0 (by have : (0 : Int32).toInt = 0 := rfl; omega) (fun i hi => by have : (0 : Int32).toInt = 0 := rfl; omega)

/-! the reference's rows: compare -/
/-- an equation that is kept out of sight -/
def wE (a b : Int) : Prop := a = b
theorem w_cmpId {F G Fj Gj a b P : Int} (h : F - (Fj + a * P) = G - (Gj + b * P)) (l2 : Gj < P) (l3 : 0 ≤ Fj) (y : b + 1 ≤ a) (hp : 0 < P) : G < F := by
  have y3 := Int.mul_le_mul_of_nonneg_right y (Int.le_of_lt hp)
  rw [Int.add_mul] at y3
  omega
theorem w_cmpL {N M : Int32} {f g : Nat → Int32} {A B : Int} (hM : N.toInt ≤ M.toInt) (hf : wO f N.toNatClampNeg) (hg : wO g N.toNatClampNeg) : ∀ (n K : Nat) (k : Int32), (K : Int) = k.toInt + 1 → k.toInt < N.toInt → k.toInt + 1 < n → wE (A - wV f K) (B - wV g K) →
    S_WR_compareRows_L5 N M f g n k ∧ ((F_WR_compareRows_L5 N M f g n k = 0 ∧ A = B) ∨ (F_WR_compareRows_L5 N M f g n k = 1 ∧ B < A) ∨ (F_WR_compareRows_L5 N M f g n k = -1 ∧ A < B)) := by
  intro n
  induction n with
  | zero => intro K k h0 h1 h2 h3; omega
  | succ n ih =>
    intro K k h0 h1 h2 h3
    have e0 : (0 : Int32).toInt = 0 := rfl
    have hN := Int32.toInt_lt N
    have eN := q_clI (i := N) rfl (by omega)
    rw [S_WR_compareRows_L5.eq_2, F_WR_compareRows_L5.eq_2]
    by_cases c : k < 0
    · rw [if_pos c, if_pos c]
      have c2 := q_ltI c
      have e1 : K = 0 := by omega
      rw [e1] at h3
      refine ⟨trivial, Or.inl ⟨rfl, ?_⟩⟩
      have h4 : A - 0 = B - 0 := h3
      omega
    · rw [if_neg c, if_neg c]
      have c2 := q_nltI c
      have ek := q_clI (i := k) rfl (by omega)
      have e2 : (k + (-1) : Int32).toInt = k.toInt + (-1) := q_addI (y := -1) rfl (by decide) (by omega) (by omega)
      obtain ⟨j, ej⟩ : ∃ j, k.toNatClampNeg = j := ⟨_, rfl⟩
      have e3 : K = j + 1 := by omega
      subst e3
      rw [ej] at ek ⊢
      have jN : j < N.toNatClampNeg := by omega
      have h3 : A - (wV f j + (f j).toInt * 65536 ^ j) = B - (wV g j + (g j).toInt * 65536 ^ j) := h3
      have l1 := w_lt (hf.mono (Nat.le_of_lt jN))
      have l2 := w_lt (hg.mono (Nat.le_of_lt jN))
      have l3 := w_nn (hf.mono (Nat.le_of_lt jN))
      have l4 := w_nn (hg.mono (Nat.le_of_lt jN))
      have hp := w_pos j
      refine v_cons (by clear h3 l1 l2 l3 l4 hp; omega) ?_
      by_cases z : f j = g j
      · rw [if_pos z, if_pos z]
        refine ih j _ (by clear h3 l1 l2 l3 l4 hp; omega) (by clear h3 l1 l2 l3 l4 hp; omega) (by clear h3 l1 l2 l3 l4 hp; omega) ?_
        rw [z] at h3
        show A - wV f j = B - wV g j
        generalize wV f j = u1 at *
        generalize wV g j = u2 at *
        generalize (g j).toInt * 65536 ^ j = u3 at *
        clear ih l1 l2 l3 l4
        omega
      · rw [if_neg z, if_neg z]
        by_cases y : g j ≤ f j
        · rw [if_pos y, if_pos y]
          have y1 := q_leI y
          have y2 : (f j).toInt ≠ (g j).toInt := fun e => z (Int32.toInt_inj.mp e)
          exact ⟨trivial, Or.inr (Or.inl ⟨rfl, w_cmpId h3 l2 l3 (by clear h3 l1 l2 l3 l4 hp; omega) hp⟩)⟩
        · rw [if_neg y, if_neg y]
          have y1 := q_nleI y
          exact ⟨trivial, Or.inr (Or.inr ⟨rfl, w_cmpId h3.symm l1 l4 (by clear h3 l1 l2 l3 l4 hp; omega) hp⟩)⟩
def wC (c : Int32) (a b : Int) : Prop := (c = 0 ∧ a = b) ∨ (c = 1 ∧ b < a) ∨ (c = -1 ∧ a < b)
theorem R_cmp {N M : Int32} {f g : Nat → Int32} (h0 : 0 ≤ N.toInt) (hM : N.toInt ≤ M.toInt) (hf : wO f N.toNatClampNeg) (hg : wO g N.toNatClampNeg) : S_WR_compareRows N M f g ∧ wC (F_WR_compareRows N M f g) (wV f N.toNatClampNeg) (wV g N.toNatClampNeg) := by
  have hN := Int32.toInt_lt N
  have e1 : (N - 1 : Int32).toInt = N.toInt - 1 := q_subI (y := 1) rfl (by decide) (by omega) (by omega)
  have eN := q_clI (i := N) rfl h0
  unfold S_WR_compareRows F_WR_compareRows
  refine w_cmpL hM hf hg _ N.toNatClampNeg _ (by omega) (by omega) (by omega) ?_
  show _ - _ = _ - _
  rw [Int.sub_self, Int.sub_self]

/-! the reference's rows: join -/
/-- a row of n limbs that holds T, up to its room -/
def wJ (n : Nat) (T : Int) (h : Nat → Int32) : Prop := wO h n ∧ wV h n = T % 65536 ^ n
theorem w_mod {v q P T : Int} (h0 : 0 ≤ v) (h1 : v < P) (h : v + q * P = T) : v = T % P := by
  rw [← h, Int.add_mul_emod_self_right, Int.emod_eq_of_lt h0 h1]
theorem wJ.mk {n : Nat} {T q : Int} {h : Nat → Int32} (ho : wO h n) (e : wV h n + q * 65536 ^ n = T) : wJ n T h := ⟨ho, w_mod (w_nn ho) (w_lt ho) e⟩
theorem wJ.val {n : Nat} {T : Int} {h : Nat → Int32} (w : wJ n T h) (h0 : 0 ≤ T) (h1 : T < 65536 ^ n) : wV h n = T := by rw [w.2, Int.emod_eq_of_lt h0 h1]
theorem w_negL {a : Int64} {x : Int} (ha : a.toInt = x) (h : -9223372036854775807 ≤ x) : (-a).toInt = -x := by
  have h1 := Int64.toInt_lt a
  rw [Int64.toInt_neg, ha]
  exact q_bmL (by omega) (by omega)
/-- the rest of a row -/
def wT (g : Nat → Int32) (s k : Nat) : Int := if k < s then wV g s - wV g k else 0
theorem wT_s {g : Nat → Int32} {s k : Nat} (h : k < s) : wT g s k = (g k).toInt * 65536 ^ k + wT g s (k + 1) := by
  unfold wT
  rw [if_pos h]
  have e : wV g (k + 1) = wV g k + (g k).toInt * 65536 ^ k := rfl
  by_cases h2 : k + 1 < s
  · rw [if_pos h2, e]
    generalize wV g s = u1
    generalize wV g k = u2
    generalize (g k).toInt * 65536 ^ k = u3
    omega
  · rw [if_neg h2]
    have : s = k + 1 := by omega
    subst this
    rw [e]
    generalize wV g k = u2
    generalize (g k).toInt * 65536 ^ k = u3
    omega
theorem wT_0 {g : Nat → Int32} {s k : Nat} (h : s ≤ k) : wT g s k = 0 := by unfold wT; rw [if_neg (by omega)]
theorem wT_a {g : Nat → Int32} {s : Nat} : wT g s 0 = wV g s := by
  unfold wT
  split
  · show _ - 0 = _; rw [Int.sub_zero]
  · have : s = 0 := by omega
    rw [this]; rfl
theorem w_joinId {V a c x m k P t : Int} (h : m + 65536 * k = c + a + x) : V + (m - a) * P + k * (P * 65536) + t = V + c * P + (x * P + t) := by
  have h2 : (m + 65536 * k) * P = (c + a + x) * P := by rw [h]
  simp only [Int.add_mul, Int.sub_mul] at h2 ⊢
  have e : k * (P * 65536) = 65536 * k * P := by rw [Int.mul_comm P, ← Int.mul_assoc, Int.mul_comm k]
  omega
theorem w_joinL {N M s : Int32} {y : Int64} {x5 : Int32} {f0 g : Nat → Int32} {σ T : Int} (hσ : σ = if x5 = 0 then 1 else -1) (h0 : 0 ≤ N.toInt) (hN : N.toInt ≤ 20200) (hs : 0 ≤ s.toInt) (hsN : s.toInt ≤ N.toInt) (hsM : s.toInt ≤ M.toInt) (hg : wO g s.toNatClampNeg) (hy : 0 ≤ y.toInt ∧ y.toInt ≤ 8589934592) : ∀ (n : Nat) (k : Int32) (c : Int64) (f : Nat → Int32), 0 ≤ k.toInt → k.toInt ≤ N.toInt → N.toInt - k.toInt < n → -17179869184 ≤ c.toInt → c.toInt ≤ 17179869184 → wO f N.toNatClampNeg → wE (wV f N.toNatClampNeg + c.toInt * 65536 ^ k.toNatClampNeg + σ * (y.toInt * wT g s.toNatClampNeg k.toNatClampNeg)) T →
    S_WR_join_L6 N M s y x5 f0 g n k c f ∧ wJ N.toNatClampNeg T (F_WR_join_L6 N M s y x5 f0 g n k c f) := by
  intro n
  induction n with
  | zero => intro k c f k0 k1 k2 c0 c1 ho hT; omega
  | succ n ih =>
    intro k c f k0 k1 k2 c0 c1 ho hT
    have eN := q_clI (i := N) rfl h0
    have es := q_clI (i := s) rfl hs
    have ek := q_clI (i := k) rfl k0
    rw [S_WR_join_L6.eq_2, F_WR_join_L6.eq_2]
    by_cases d : N ≤ k
    · rw [if_pos d, if_pos d]
      have d2 := q_leI d
      have e1 : k.toNatClampNeg = N.toNatClampNeg := by omega
      refine ⟨trivial, wJ.mk ho (q := c.toInt) ?_⟩
      have hT : _ = _ := hT
      rw [← hT, e1, wT_0 (by omega), Int.mul_zero, Int.mul_zero, Int.add_zero]
    · rw [if_neg d, if_neg d]
      have d2 := q_nleI d
      have e1 : (k + 1 : Int32).toInt = k.toInt + 1 := q_addI (y := 1) rfl (by decide) (by omega) (by omega)
      have ek1 := q_clI (i := k + 1) e1 (by omega)
      have ekk : (k + 1 : Int32).toNatClampNeg = k.toNatClampNeg + 1 := by omega
      have ekN : k.toNatClampNeg < N.toNatClampNeg := by omega
      obtain ⟨a, ea⟩ := q_nm (f k.toNatClampNeg)
      have ha : 0 ≤ a.toInt ∧ a.toInt < 65536 := by rw [← ea]; exact ho _ ekN
      have go : ∀ (x : Int64) (X : Int), x.toInt = X → -562949953421312 ≤ X → X ≤ 562949953421312 → wE (σ * (y.toInt * wT g s.toNatClampNeg k.toNatClampNeg)) (X * 65536 ^ k.toNatClampNeg + σ * (y.toInt * wT g s.toNatClampNeg (k.toNatClampNeg + 1))) →
          S_WR_join_L6 N M s y x5 f0 g n (k + 1) ((c + a.toInt64 + x) >>> ((16 : Int32).toInt64 &&& 63)) (upd f k.toNatClampNeg ((c + a.toInt64 + x) &&& 65535).toInt32) ∧ wJ N.toNatClampNeg T (F_WR_join_L6 N M s y x5 f0 g n (k + 1) ((c + a.toInt64 + x) >>> ((16 : Int32).toInt64 &&& 63)) (upd f k.toNatClampNeg ((c + a.toInt64 + x) &&& 65535).toInt32)) := by
        intro x X hx x1 x2 hX
        have u1 : (c + a.toInt64 : Int64).toInt = c.toInt + a.toInt := q_addL rfl (q_i2l rfl) (by omega) (by omega)
        have u2 : (c + a.toInt64 + x : Int64).toInt = c.toInt + a.toInt + X := q_addL u1 hx (by omega) (by omega)
        generalize (c + a.toInt64 + x : Int64) = w at u2 ⊢
        have w1 := w_and' (x := w)
        have w2 := w_shr (x := w)
        rw [u2] at w1 w2
        generalize ((w &&& 65535).toInt32 : Int32) = m at w1 ⊢
        generalize (w >>> ((16 : Int32).toInt64 &&& 63) : Int64) = c' at w2 ⊢
        have m1 : 0 ≤ m.toInt ∧ m.toInt < 65536 := by rw [w1]; exact ⟨Int.emod_nonneg _ (by decide), Int.emod_lt_of_pos _ (by decide)⟩
        have m2 : m.toInt + 65536 * c'.toInt = c.toInt + a.toInt + X := by rw [w1, w2]; exact Int.emod_add_mul_ediv _ _
        refine ih (k + 1) c' (upd f k.toNatClampNeg m) (by omega) (by omega) (by omega) (by omega) (by omega) (wO_upd ho m1) ?_
        have hT : _ = _ := hT
        have hX : _ = _ := hX
        show _ = _
        rw [← hT, hX, ekk, w_upd ekN, ea, w_pw]
        exact w_joinId m2
      by_cases d3 : k < s
      · rw [if_pos d3, if_pos d3]
        have d4 := q_ltI d3
        have d5 : ¬ s ≤ k := fun h => by have := q_leI h; omega
        have eks : k.toNatClampNeg < s.toNatClampNeg := by omega
        unfold S_WR_join_J26 F_WR_join_J26
        rw [if_neg d5, if_neg d5]
        refine v_cons (by omega) ?_
        obtain ⟨b, eb⟩ := q_nm (g k.toNatClampNeg)
        have hb : 0 ≤ b.toInt ∧ b.toInt < 65536 := by rw [← eb]; exact hg _ eks
        have n1 : 0 ≤ b.toInt * y.toInt := Int.mul_nonneg hb.1 hy.1
        have n2 : b.toInt * y.toInt ≤ 65535 * 8589934592 := Int.mul_le_mul (by omega) hy.2 hy.1 (by decide)
        have n3 : (b.toInt64 * y : Int64).toInt = b.toInt * y.toInt := q_mulL (q_i2l rfl) rfl (by omega) (by omega)
        have n4 : wE (y.toInt * wT g s.toNatClampNeg k.toNatClampNeg) (b.toInt * y.toInt * 65536 ^ k.toNatClampNeg + y.toInt * wT g s.toNatClampNeg (k.toNatClampNeg + 1)) := by
          show _ = _
          rw [wT_s eks, eb, Int.mul_add, ← Int.mul_assoc, Int.mul_comm y.toInt b.toInt]
        rw [eb]
        generalize (b.toInt64 * y : Int64) = x at n3 ⊢
        unfold S_WR_join_J43 F_WR_join_J43
        rw [ea]
        by_cases w : x5 = 0
        · rw [if_pos w, if_pos w]
          rw [if_pos w] at hσ
          unfold S_WR_join_J66 F_WR_join_J66
          refine go x _ n3 (by omega) (by omega) ?_
          have n4 : _ = _ := n4
          show _ = _
          rw [hσ, n4, Int.one_mul, Int.one_mul]
        · rw [if_neg w, if_neg w]
          rw [if_neg w] at hσ
          unfold S_WR_join_J66 F_WR_join_J66
          refine go (-x) (-(b.toInt * y.toInt)) (w_negL n3 (by omega)) (by omega) (by omega) ?_
          have n4 : _ = _ := n4
          show _ = _
          rw [hσ, n4, Int.neg_mul, Int.one_mul, Int.neg_mul, Int.neg_mul, Int.one_mul, Int.neg_add]
      · rw [if_neg d3, if_neg d3]
        have d4 := q_nltI d3
        have d5 : s ≤ k := q_Ile rfl rfl (by omega)
        have t0 : wE (wT g s.toNatClampNeg k.toNatClampNeg) 0 := wT_0 (by omega)
        have t1 : wE (wT g s.toNatClampNeg (k.toNatClampNeg + 1)) 0 := wT_0 (by omega)
        have tt : wE (σ * (y.toInt * wT g s.toNatClampNeg k.toNatClampNeg)) (0 * 65536 ^ k.toNatClampNeg + σ * (y.toInt * wT g s.toNatClampNeg (k.toNatClampNeg + 1))) := by
          have t0 : _ = _ := t0
          have t1 : _ = _ := t1
          show _ = _
          rw [t0, t1, Int.mul_zero, Int.mul_zero, Int.zero_mul, Int.zero_add]
        by_cases z : lg_cmp c 0 = 0
        · rw [if_pos z, if_pos z]
          have z2 : c.toInt = 0 := v_cmp0 z
          refine ⟨trivial, wJ.mk ho (q := 0) ?_⟩
          have hT : _ = _ := hT
          have t0 : _ = _ := t0
          rw [← hT, t0, z2, Int.mul_zero, Int.mul_zero, Int.zero_mul, Int.zero_mul]
          simp only [Int.add_zero]
        · rw [if_neg z, if_neg z]
          unfold S_WR_join_J26 F_WR_join_J26
          rw [if_pos d5, if_pos d5]
          unfold S_WR_join_J43 F_WR_join_J43
          rw [ea]
          by_cases w : x5 = 0
          · rw [if_pos w, if_pos w]
            unfold S_WR_join_J66 F_WR_join_J66
            exact go 0 0 rfl (by omega) (by omega) tt
          · rw [if_neg w, if_neg w]
            unfold S_WR_join_J66 F_WR_join_J66
            exact go (-0) 0 rfl (by omega) (by omega) tt
/-- a row and a multiple of another, added or taken away, up to the row's room -/
theorem R_join {N M s : Int32} {y : Int64} {x5 : Int32} {f g : Nat → Int32} {σ : Int} (hσ : σ = if x5 = 0 then 1 else -1) (h0 : 0 ≤ N.toInt) (hN : N.toInt ≤ 20200) (hs : 0 ≤ s.toInt) (hsN : s.toInt ≤ N.toInt) (hsM : s.toInt ≤ M.toInt) (hg : wO g s.toNatClampNeg) (hy : 0 ≤ y.toInt ∧ y.toInt ≤ 8589934592) (ho : wO f N.toNatClampNeg) :
    S_WR_join N M s y x5 f g ∧ wJ N.toNatClampNeg (wV f N.toNatClampNeg + σ * (y.toInt * wV g s.toNatClampNeg)) (F_WR_join N M s y x5 f g) := by
  have e0 : (0 : Int32).toInt = 0 := rfl
  unfold S_WR_join F_WR_join
  refine w_joinL (M := M) (x5 := x5) (f0 := f) hσ h0 hN hs hsN hsM hg hy ((20200 - (0 : Int32).toInt).toNat + 1) 0 0 f (by decide) (by omega) (by omega) (by decide) (by decide) ho ?_
  show _ + 0 * _ + σ * (y.toInt * wT g s.toNatClampNeg 0) = _
  rw [wT_a, Int.zero_mul, Int.add_zero]

/-! the reference's rows: grow, shrink -/
theorem w_growId {A a c m k P S y : Int} (h : m + 65536 * k = c + a * y) : (A + m * P) + y * (S - (A + a * P)) + k * (P * 65536) = A + y * (S - A) + c * P := by
  have h2 : (m + 65536 * k) * P = (c + a * y) * P := by rw [h]
  simp only [Int.mul_sub, Int.mul_add, Int.add_mul] at h2 ⊢
  have e1 : y * (a * P) = a * y * P := by rw [Int.mul_comm a y, Int.mul_assoc]
  have e2 : k * (P * 65536) = 65536 * k * P := by rw [Int.mul_comm P, ← Int.mul_assoc, Int.mul_comm k]
  omega
theorem w_growL {N y x3 z : Int32} {f0 : Nat → Int32} {T : Int} (h0 : 0 ≤ N.toInt) (hN : N.toInt ≤ 20200) (hy : 0 ≤ y.toInt ∧ y.toInt ≤ 65536) (hz : z.toInt ≤ N.toInt) : ∀ (n : Nat) (k : Int32) (c : Int64) (f : Nat → Int32), 0 ≤ k.toInt → k.toInt ≤ N.toInt → N.toInt - k.toInt < n → 0 ≤ c.toInt → c.toInt ≤ 65536 → wO f N.toNatClampNeg → (∀ i : Nat, k.toInt ≤ i → z.toInt ≤ i → (i : Int) < N.toInt → f i = 0) → wE (wV f k.toNatClampNeg + y.toInt * (wV f N.toNatClampNeg - wV f k.toNatClampNeg) + c.toInt * 65536 ^ k.toNatClampNeg) T →
    wJ N.toNatClampNeg T (F_WR_grow_L12 N y x3 f0 z n k c f) := by
  intro n
  induction n with
  | zero => intro k c f k0 k1 k2 c0 c1 ho hf hT; omega
  | succ n ih =>
    intro k c f k0 k1 k2 c0 c1 ho hf hT
    have eN := q_clI (i := N) rfl h0
    have ek := q_clI (i := k) rfl k0
    rw [F_WR_grow_L12.eq_2]
    have go : wJ N.toNatClampNeg T (F_WR_grow_J25 (F_WR_grow_L12 N y x3 f0 z n) N y x3 f0 z k c f) := by
      unfold F_WR_grow_J25
      by_cases d : k < N
      · rw [if_pos d]
        have d2 := q_ltI d
        have e1 : (k + 1 : Int32).toInt = k.toInt + 1 := q_addI (y := 1) rfl (by decide) (by omega) (by omega)
        have ek1 := q_clI (i := k + 1) e1 (by omega)
        have ekk : (k + 1 : Int32).toNatClampNeg = k.toNatClampNeg + 1 := by omega
        have ekN : k.toNatClampNeg < N.toNatClampNeg := by omega
        obtain ⟨a, ea⟩ := q_nm (f k.toNatClampNeg)
        have ha : 0 ≤ a.toInt ∧ a.toInt < 65536 := by rw [← ea]; exact ho _ ekN
        rw [ea]
        have n1 : 0 ≤ a.toInt * y.toInt := Int.mul_nonneg ha.1 hy.1
        have n2 : a.toInt * y.toInt ≤ 65535 * 65536 := Int.mul_le_mul (by omega) hy.2 hy.1 (by decide)
        have n3 : (a.toInt64 * y.toInt64 : Int64).toInt = a.toInt * y.toInt := q_mulL (q_i2l rfl) (q_i2l rfl) (by omega) (by omega)
        have u2 : (c + a.toInt64 * y.toInt64 : Int64).toInt = c.toInt + a.toInt * y.toInt := q_addL rfl n3 (by omega) (by omega)
        generalize (c + a.toInt64 * y.toInt64 : Int64) = w at u2 ⊢
        have w1 := w_and' (x := w)
        have w2 := w_shr (x := w)
        rw [u2] at w1 w2
        generalize ((w &&& 65535).toInt32 : Int32) = m at w1 ⊢
        generalize (w >>> ((16 : Int32).toInt64 &&& 63) : Int64) = c' at w2 ⊢
        have m1 : 0 ≤ m.toInt ∧ m.toInt < 65536 := by rw [w1]; exact ⟨Int.emod_nonneg _ (by decide), Int.emod_lt_of_pos _ (by decide)⟩
        have m2 : m.toInt + 65536 * c'.toInt = c.toInt + a.toInt * y.toInt := by rw [w1, w2]; exact Int.emod_add_mul_ediv _ _
        refine ih (k + 1) c' (upd f k.toNatClampNeg m) (by omega) (by omega) (by omega) (by omega) (by omega) (wO_upd ho m1) (fun i i1 i2 i3 => by rw [v_ne (by omega)]; exact hf i (by omega) i2 i3) ?_
        have hT : _ = _ := hT
        show _ = _
        have s1 : wV (upd f k.toNatClampNeg m) (k.toNatClampNeg + 1) = wV f k.toNatClampNeg + m.toInt * 65536 ^ k.toNatClampNeg := by
          show wV (upd f k.toNatClampNeg m) k.toNatClampNeg + _ = _
          rw [w_upd_ge (Nat.le_refl _), v_eq]
        rw [← hT, ekk, s1, w_upd ekN, w_pw, ea, ← w_growId (A := wV f k.toNatClampNeg) (P := 65536 ^ k.toNatClampNeg) (S := wV f N.toNatClampNeg) m2]
        generalize wV f N.toNatClampNeg = u1
        generalize wV f k.toNatClampNeg = u2
        rw [Int.sub_mul]
        generalize (65536 : Int) ^ k.toNatClampNeg = P
        have e5 : u1 + (m.toInt * P - a.toInt * P) - (u2 + m.toInt * P) = u1 - (u2 + a.toInt * P) := by clear ih hf hT; omega
        rw [e5]
      · rw [if_neg d]
        have d2 := q_nltI d
        have e1 : k.toNatClampNeg = N.toNatClampNeg := by omega
        refine wJ.mk ho (q := c.toInt) ?_
        have hT : _ = _ := hT
        rw [← hT, e1, Int.sub_self, Int.mul_zero, Int.add_zero]
    by_cases c1 : k < z
    · rw [if_pos c1]; exact go
    · rw [if_neg c1]
      have c2 := q_nltI c1
      by_cases zc : lg_cmp c 0 = 0
      · rw [if_pos zc]
        have z2 : c.toInt = 0 := v_cmp0 zc
        refine wJ.mk ho (q := 0) ?_
        have ekN : k.toNatClampNeg ≤ N.toNatClampNeg := by omega
        have e5 : wV f N.toNatClampNeg = wV f k.toNatClampNeg := w_zer ekN (fun i a b => hf i (by omega) (by omega) (by omega))
        have hT : _ = _ := hT
        rw [← hT, e5, z2, Int.sub_self, Int.mul_zero, Int.zero_mul, Int.zero_mul]
        simp only [Int.add_zero]
      · rw [if_neg zc]; exact go
/-- times a small number, and a small number more, up to the row's room -/
theorem R_grow {N y x : Int32} {f : Nat → Int32} (h0 : 0 ≤ N.toInt) (hN : N.toInt ≤ 20200) (hy : 0 ≤ y.toInt ∧ y.toInt ≤ 65536) (hx : 0 ≤ x.toInt ∧ x.toInt ≤ 65536) (ho : wO f N.toNatClampNeg) :
    wJ N.toNatClampNeg (y.toInt * wV f N.toNatClampNeg + x.toInt) (F_WR_grow N y x f) := by
  have e0 : (0 : Int32).toInt = 0 := rfl
  have hs := R_size (f := f) h0
  have ex : x.toInt64.toInt = x.toInt := q_i2l rfl
  unfold F_WR_grow
  refine w_growL (x3 := x) (f0 := f) h0 hN hy hs.2.1 ((20200 - (0 : Int32).toInt).toNat + 1) 0 x.toInt64 f (by decide) (by omega) (by omega) (by omega) (by omega) ho (fun i _ a b => hs.2.2.1 i a b) ?_
  show 0 + y.toInt * (_ - 0) + x.toInt64.toInt * 1 = _
  rw [Int.sub_zero, ex, Int.mul_one, Int.zero_add]
theorem w_shrId {V A a c m k P y : Int} (h : c * 65536 + a = k * y + m) : (V + (k - a) * P - A) * y + (m * P + A) = (V - (A + a * P)) * y + (c * (P * 65536) + (A + a * P)) := by
  have h2 : (c * 65536 + a) * P = (k * y + m) * P := by rw [h]
  simp only [Int.mul_sub, Int.sub_mul, Int.mul_add, Int.add_mul] at h2 ⊢
  have e1 : k * P * y = k * y * P := by rw [Int.mul_assoc, Int.mul_comm P, ← Int.mul_assoc]
  have e2 : c * (P * 65536) = c * 65536 * P := by rw [Int.mul_comm P, ← Int.mul_assoc]
  omega
theorem w_divL {a : Int64} {y : Int} {b : Int64} (h : 0 ≤ a.toInt) (hb : b.toInt = y) (hy : 0 < y) : (a / b).toInt = a.toInt / y := by
  have h1 : a.toInt.tdiv y = a.toInt / y := Int.tdiv_eq_ediv_of_nonneg h
  have h5 : a.toInt / y ≤ a.toInt := Int.ediv_le_self y h
  have h4 : 0 ≤ a.toInt / y := Int.ediv_nonneg h (by omega)
  have h6 := Int64.toInt_lt a
  rw [Int64.toInt_div, hb, h1]
  exact q_bmL (by omega) (by omega)
/-- divided by a small number: what is left, and the quotient -/
def wH (n : Nat) (y T : Int) (r : Int32 × (Nat → Int32)) : Prop := wO r.2 n ∧ 0 ≤ r.1.toInt ∧ r.1.toInt < y ∧ wE (wV r.2 n * y + r.1.toInt) T
theorem w_shrinkL {N y : Int32} {f0 : Nat → Int32} {T : Int} (h0 : 0 ≤ N.toInt) (hN : N.toInt ≤ 20200) (hy : 0 < y.toInt ∧ y.toInt ≤ 65536) : ∀ (n K : Nat) (k : Int32) (c : Int64) (f : Nat → Int32), (K : Int) = k.toInt + 1 → k.toInt < N.toInt → k.toInt + 1 < n → 0 ≤ c.toInt → c.toInt < y.toInt → wO f N.toNatClampNeg → wE ((wV f N.toNatClampNeg - wV f K) * y.toInt + (c.toInt * 65536 ^ K + wV f K)) T →
    S_WR_shrink_L10 N y f0 n k c f ∧ wH N.toNatClampNeg y.toInt T (F_WR_shrink_L10 N y f0 n k c f) := by
  intro n
  induction n with
  | zero => intro K k c f k0 k1 k2 c0 c1 ho hT; omega
  | succ n ih =>
    intro K k c f k0 k1 k2 c0 c1 ho hT
    have e0 : (0 : Int32).toInt = 0 := rfl
    have eN := q_clI (i := N) rfl h0
    rw [S_WR_shrink_L10.eq_2, F_WR_shrink_L10.eq_2]
    by_cases d : k < 0
    · rw [if_pos d, if_pos d]
      have d2 := q_ltI d
      have ec : c.toInt32.toInt = c.toInt := s_l2i (by omega) (by omega)
      have e1 : K = 0 := by omega
      refine ⟨trivial, ho, ?_, ?_, ?_⟩
      · show 0 ≤ c.toInt32.toInt; omega
      · show c.toInt32.toInt < _; omega
      · show wV f N.toNatClampNeg * y.toInt + c.toInt32.toInt = _
        have hT : _ = _ := hT
        rw [← hT, e1, ec]
        show _ = (_ - 0) * _ + (_ * 1 + 0)
        rw [Int.sub_zero, Int.mul_one, Int.add_zero]
    · rw [if_neg d, if_neg d]
      have d2 := q_nltI d
      have ek := q_clI (i := k) rfl (by omega)
      have e2 : (k + (-1) : Int32).toInt = k.toInt + (-1) := q_addI (y := -1) rfl (by decide) (by omega) (by omega)
      obtain ⟨j, ej⟩ : ∃ j, k.toNatClampNeg = j := ⟨_, rfl⟩
      have e3 : K = j + 1 := by omega
      subst e3
      rw [ej] at ek ⊢
      have jN : j < N.toNatClampNeg := by omega
      have ey : y.toInt64.toInt = y.toInt := q_i2l rfl
      obtain ⟨a, ea⟩ := q_nm (f j)
      have ha : 0 ≤ a.toInt ∧ a.toInt < 65536 := by rw [← ea]; exact ho _ jN
      rw [ea]
      have u1 : (c <<< ((16 : Int32).toInt64 &&& 63)).toInt = c.toInt * 65536 := w_shl c0 (by omega)
      have u2 := w_or (x := c <<< ((16 : Int32).toInt64 &&& 63)) (y := a) (by omega) (by omega) (by omega) ha
      rw [u1] at u2
      generalize ((c <<< ((16 : Int32).toInt64 &&& 63)) ||| a.toInt64 : Int64) = w at u2 ⊢
      have w1 := w_divL (a := w) (b := y.toInt64) (by omega) ey hy.1
      rw [u2] at w1
      have q1 := Int.mul_ediv_self_le (x := c.toInt * 65536 + a.toInt) (k := y.toInt) (by omega)
      have q2 := Int.lt_mul_ediv_self_add (x := c.toInt * 65536 + a.toInt) (k := y.toInt) hy.1
      have q3 : 0 ≤ (c.toInt * 65536 + a.toInt) / y.toInt := Int.ediv_nonneg (by omega) (by omega)
      have q4 : (c.toInt * 65536 + a.toInt) / y.toInt < 65536 := Int.ediv_lt_of_lt_mul hy.1 (by
        have : (c.toInt + 1) * 65536 ≤ y.toInt * 65536 := Int.mul_le_mul_of_nonneg_right (by omega) (by decide)
        omega)
      rw [← w1] at q1 q2 q3 q4
      generalize (w / y.toInt64 : Int64) = Q at q1 q2 q3 q4 ⊢
      have q5 : 0 ≤ Q.toInt * y.toInt := Int.mul_nonneg q3 (by omega)
      have q6 : y.toInt * Q.toInt = Q.toInt * y.toInt := Int.mul_comm _ _
      have w2 : (Q * y.toInt64 : Int64).toInt = Q.toInt * y.toInt := q_mulL rfl ey (by omega) (by omega)
      have w3 : (w - Q * y.toInt64 : Int64).toInt = (c.toInt * 65536 + a.toInt) - Q.toInt * y.toInt := q_subL u2 w2 (by omega) (by omega)
      have w4 : Q.toInt32.toInt = Q.toInt := s_l2i (by omega) (by omega)
      generalize (w - Q * y.toInt64 : Int64) = c' at w3 ⊢
      refine v_cons (by omega) ?_
      refine ih j (k + (-1)) c' (upd f j Q.toInt32) (by omega) (by omega) (by omega) (by omega) (by omega) (wO_upd ho (by omega)) ?_
      have hT : (wV f N.toNatClampNeg - (wV f j + (f j).toInt * 65536 ^ j)) * y.toInt + (c.toInt * 65536 ^ (j + 1) + (wV f j + (f j).toInt * 65536 ^ j)) = T := hT
      show _ = _
      rw [← hT, w_upd jN, w_upd_ge (Nat.le_refl _), ea, w4, w_pw]
      exact w_shrId (by clear hT; omega)
theorem R_shrink {N y : Int32} {f : Nat → Int32} (h0 : 0 ≤ N.toInt) (hN : N.toInt ≤ 20200) (hy : 0 < y.toInt ∧ y.toInt ≤ 65536) (ho : wO f N.toNatClampNeg) :
    S_WR_shrink N y f ∧ wH N.toNatClampNeg y.toInt (wV f N.toNatClampNeg) (F_WR_shrink N y f) := by
  have hs := R_size (f := f) h0
  unfold S_WR_shrink F_WR_shrink
  generalize F_WR_size N f = z at hs ⊢
  have hz0 := hs.1
  have hz1 := hs.2.1
  have e1 : (z - 1 : Int32).toInt = z.toInt - 1 := q_subI (y := 1) rfl (by decide) (by omega) (by omega)
  have ez := q_clI (i := z) rfl hz0
  refine w_shrinkL (f0 := f) h0 hN hy (((z - 1 : Int32).toInt - (-1)).toNat + 1) z.toNatClampNeg (z - 1) 0 f (by omega) (by omega) (by omega) (by decide) hy.1 ho ?_
  show (_ - _) * _ + (0 * _ + _) = _
  rw [hs.val, Int.sub_self, Int.zero_mul, Int.zero_mul, Int.zero_add, Int.zero_add]

/-! the reference's rows: products -/
theorem w_mulL35 {N2 : Int32} {N3 : Int32} {N4 : Int32} {t0_0 : Int32} {t0_1 : Int32} {t0_2 : Int32} {t0_3 : Int32} {t0_4 : Int32} {t0_5 : Int32} {t0_6 : Int32} {t1_0 : Nat → Int32} {t2_0 : Nat → Int32} {t3_0 : Nat → Int32} {t4_0 : Nat → Int32} {ma na i : Int32} {p0 : Nat → Int32} {KF : Int32 → (Nat → Int32) → ((Nat → Int32) × (Nat → Int32))} {KS : Int32 → (Nat → Int32) → Prop} {Q : (Nat → Int32) × (Nat → Int32) → Prop} (hi : 0 ≤ i.toInt ∧ i.toInt ≤ 263) (hm : 0 ≤ ma.toInt ∧ ma.toInt ≤ 264) (hb : wO t3_0 ma.toNatClampNeg) (ha : 0 ≤ (t2_0 i.toNatClampNeg).toInt ∧ (t2_0 i.toNatClampNeg).toInt < 65536) {T : Int}
    (hK : ∀ p : Nat → Int32, wO p 528 → (∀ t : Nat, i.toInt + 1 + ma.toInt ≤ t → t < 528 → p t = 0) → wE (wV p 528) T → KS (i + 1) p ∧ Q (KF (i + 1) p)) :
    ∀ (n : Nat) (j : Int32) (c : Int64) (p : Nat → Int32), 0 ≤ j.toInt → j.toInt ≤ ma.toInt + 1 → ma.toInt + 1 - j.toInt < n → 0 ≤ c.toInt → c.toInt ≤ 65535 → (j.toInt = ma.toInt + 1 → c.toInt = 0) → wO p 528 → (∀ t : Nat, i.toInt + ma.toInt ≤ t → i.toInt + j.toInt ≤ t → t < 528 → p t = 0) →
      wE (wV p 528 + c.toInt * 65536 ^ (i.toNatClampNeg + j.toNatClampNeg) + (t2_0 i.toNatClampNeg).toInt * (65536 ^ i.toNatClampNeg * wT t3_0 ma.toNatClampNeg j.toNatClampNeg)) T →
      S_WR_multiplyRows_L35 KS N2 N3 N4 t0_0 t0_1 t0_2 t0_3 t0_4 t0_5 t0_6 t1_0 t2_0 t3_0 t4_0 ma na i p0 n j c p ∧ Q (F_WR_multiplyRows_L35 KF N2 N3 N4 t0_0 t0_1 t0_2 t0_3 t0_4 t0_5 t0_6 t1_0 t2_0 t3_0 t4_0 ma na i p0 n j c p) := by
  intro n
  induction n with
  | zero => intro j c p j0 j1 j2 c0 c1 c2 ho hz hT; omega
  | succ n ih =>
    intro j c p j0 j1 j2 c0 c1 c2 ho hz hT
    have ei := q_clI (i := i) rfl hi.1
    have ej := q_clI (i := j) rfl j0
    have em := q_clI (i := ma) rfl hm.1
    have eij : (i + j : Int32).toInt = i.toInt + j.toInt := q_addI rfl rfl (by omega) (by omega)
    have eijn := q_clI (i := i + j) eij (by omega)
    have enn : (i + j : Int32).toNatClampNeg = i.toNatClampNeg + j.toNatClampNeg := by omega
    have e1 : (j + 1 : Int32).toInt = j.toInt + 1 := q_addI (y := 1) rfl (by decide) (by omega) (by omega)
    have ej1 := q_clI (i := j + 1) e1 (by omega)
    have ejj : (j + 1 : Int32).toNatClampNeg = j.toNatClampNeg + 1 := by omega
    rw [S_WR_multiplyRows_L35.eq_2, F_WR_multiplyRows_L35.eq_2]
    have go : ∀ (x : Int64) (X : Int), j.toInt ≤ ma.toInt → x.toInt = X → 0 ≤ X → X ≤ 65535 * 65535 → (j.toInt = ma.toInt → X = 0) → wE ((t2_0 i.toNatClampNeg).toInt * (65536 ^ i.toNatClampNeg * wT t3_0 ma.toNatClampNeg j.toNatClampNeg)) (X * 65536 ^ (i.toNatClampNeg + j.toNatClampNeg) + (t2_0 i.toNatClampNeg).toInt * (65536 ^ i.toNatClampNeg * wT t3_0 ma.toNatClampNeg (j.toNatClampNeg + 1))) →
        S_WR_multiplyRows_J85 KS (S_WR_multiplyRows_L35 KS N2 N3 N4 t0_0 t0_1 t0_2 t0_3 t0_4 t0_5 t0_6 t1_0 t2_0 t3_0 t4_0 ma na i p0 n) N2 N3 N4 t0_0 t0_1 t0_2 t0_3 t0_4 t0_5 t0_6 t1_0 t2_0 t3_0 t4_0 ma na i p0 j c p (c + ((p (i + j : Int32).toNatClampNeg).toInt64)) x ∧ Q (F_WR_multiplyRows_J85 KF (F_WR_multiplyRows_L35 KF N2 N3 N4 t0_0 t0_1 t0_2 t0_3 t0_4 t0_5 t0_6 t1_0 t2_0 t3_0 t4_0 ma na i p0 n) N2 N3 N4 t0_0 t0_1 t0_2 t0_3 t0_4 t0_5 t0_6 t1_0 t2_0 t3_0 t4_0 ma na i p0 j c p (c + ((p (i + j : Int32).toNatClampNeg).toInt64)) x) := by
      intro x X hj hx x0 x1 x2 hX
      unfold S_WR_multiplyRows_J85 F_WR_multiplyRows_J85
      have lt28 : i.toNatClampNeg + j.toNatClampNeg < 528 := by omega
      rw [enn]
      obtain ⟨a, ea⟩ := q_nm (p (i.toNatClampNeg + j.toNatClampNeg))
      have ha : 0 ≤ a.toInt ∧ a.toInt < 65536 := by rw [← ea]; exact ho _ (by omega)
      have az : j.toInt = ma.toInt → a.toInt = 0 := fun h => by rw [← ea, hz _ (by omega) (by omega) (by omega)]; rfl
      rw [ea]
      have u1 : (c + a.toInt64 : Int64).toInt = c.toInt + a.toInt := q_addL rfl (q_i2l rfl) (by omega) (by omega)
      have u2 : (c + a.toInt64 + x : Int64).toInt = c.toInt + a.toInt + X := q_addL u1 hx (by omega) (by omega)
      generalize (c + a.toInt64 + x : Int64) = w at u2 ⊢
      have w1 := w_and' (x := w)
      have w2 := w_shr (x := w)
      rw [u2] at w1 w2
      generalize ((w &&& 65535).toInt32 : Int32) = m at w1 ⊢
      generalize (w >>> ((16 : Int32).toInt64 &&& 63) : Int64) = c' at w2 ⊢
      have m1 : 0 ≤ m.toInt ∧ m.toInt < 65536 := by rw [w1]; exact ⟨Int.emod_nonneg _ (by decide), Int.emod_lt_of_pos _ (by decide)⟩
      have m2 : m.toInt + 65536 * c'.toInt = c.toInt + a.toInt + X := by rw [w1, w2]; exact Int.emod_add_mul_ediv _ _
      refine ih (j + 1) c' (upd p (i.toNatClampNeg + j.toNatClampNeg) m) (by omega) (by omega) (by omega) (by omega) (by omega) (fun h => ?_) (wO_upd ho m1) (fun t t1 t2 t3 => ?_) ?_
      · have := az (by omega)
        have := x2 (by omega)
        omega
      · rw [v_ne (by omega)]
        exact hz t t1 (by omega) t3
      · have hT : _ = _ := hT
        have hX : _ = _ := hX
        show _ = _
        rw [← hT, hX, ejj, w_upd lt28, ea]
        show _ + c'.toInt * 65536 ^ (i.toNatClampNeg + j.toNatClampNeg + 1) + _ = _
        rw [w_pw]
        exact w_joinId m2
    have goJ : j.toInt ≤ ma.toInt → S_WR_multiplyRows_J49 KS (S_WR_multiplyRows_L35 KS N2 N3 N4 t0_0 t0_1 t0_2 t0_3 t0_4 t0_5 t0_6 t1_0 t2_0 t3_0 t4_0 ma na i p0 n) N2 N3 N4 t0_0 t0_1 t0_2 t0_3 t0_4 t0_5 t0_6 t1_0 t2_0 t3_0 t4_0 ma na i p0 j c p ∧ Q (F_WR_multiplyRows_J49 KF (F_WR_multiplyRows_L35 KF N2 N3 N4 t0_0 t0_1 t0_2 t0_3 t0_4 t0_5 t0_6 t1_0 t2_0 t3_0 t4_0 ma na i p0 n) N2 N3 N4 t0_0 t0_1 t0_2 t0_3 t0_4 t0_5 t0_6 t1_0 t2_0 t3_0 t4_0 ma na i p0 j c p) := by
      intro hj
      unfold S_WR_multiplyRows_J49 F_WR_multiplyRows_J49
      refine v_cons (by omega) ?_
      by_cases d : ma ≤ j
      · rw [if_pos d, if_pos d]
        have d2 := q_leI d
        refine go 0 0 hj rfl (by omega) (by omega) (fun _ => rfl) ?_
        show _ = _
        rw [wT_0 (by omega), wT_0 (by omega), Int.mul_zero, Int.mul_zero, Int.zero_mul, Int.add_zero]
      · rw [if_neg d, if_neg d]
        have d2 := q_nleI d
        have ejm : j.toNatClampNeg < ma.toNatClampNeg := by omega
        obtain ⟨b, eb⟩ := q_nm (t3_0 j.toNatClampNeg)
        have hbj : 0 ≤ b.toInt ∧ b.toInt < 65536 := by rw [← eb]; exact hb _ (by omega)
        rw [eb]
        obtain ⟨a, ea⟩ := q_nm (t2_0 i.toNatClampNeg)
        rw [ea] at ha go ⊢
        have n1 : 0 ≤ a.toInt * b.toInt := Int.mul_nonneg ha.1 hbj.1
        have n2 : a.toInt * b.toInt ≤ 65535 * 65535 := Int.mul_le_mul (by omega) (by omega) hbj.1 (by decide)
        refine go (a.toInt64 * b.toInt64) (a.toInt * b.toInt) hj (q_mulL (q_i2l rfl) (q_i2l rfl) (by omega) (by omega)) n1 n2 (fun h => by omega) ?_
        show _ = _
        rw [wT_s ejm, eb, Int.pow_add]
        simp only [Int.mul_add, Int.mul_assoc, Int.mul_comm, Int.mul_left_comm]
    by_cases d : j < ma
    · rw [if_pos d, if_pos d]
      have d2 := q_ltI d
      exact goJ (by omega)
    · rw [if_neg d, if_neg d]
      have d2 := q_nltI d
      by_cases z : lg_cmp c 0 = 0
      · rw [if_pos z, if_pos z]
        have z2 : c.toInt = 0 := v_cmp0 z
        refine hK p ho (fun t t1 t2 => hz t (by omega) (by omega) t2) ?_
        have hT : _ = _ := hT
        show _ = _
        rw [← hT, z2, wT_0 (by omega), Int.mul_zero, Int.mul_zero, Int.zero_mul]
        simp only [Int.add_zero]
      · rw [if_neg z, if_neg z]
        have z2 : c.toInt ≠ 0 := q_k10 z
        refine goJ ?_
        by_cases e : j.toInt = ma.toInt + 1
        · exact absurd (c2 e) z2
        · omega
def wM (N : Int32) (v : Int) (r : (Nat → Int32) × (Nat → Int32)) : Prop := wO r.1 528 ∧ wE (wV r.1 528) v ∧ ∀ i : Nat, (i : Int) < N.toInt → r.2 i = if (i : Int) < 528 then r.1 i else 0
theorem w_mulL22 {N2 : Int32} {N3 : Int32} {N4 : Int32} {t0_0 : Int32} {t0_1 : Int32} {t0_2 : Int32} {t0_3 : Int32} {t0_4 : Int32} {t0_5 : Int32} {t0_6 : Int32} {t1_0 : Nat → Int32} {t2_0 : Nat → Int32} {t3_0 : Nat → Int32} {t4_0 : Nat → Int32} {ma na : Int32} (hto : 0 ≤ N4.toInt ∧ N4.toInt ≤ 264) (hm : 0 ≤ ma.toInt ∧ ma.toInt ≤ 264) (hn : 0 ≤ na.toInt ∧ na.toInt ≤ 264) (hb : wO t3_0 ma.toNatClampNeg) (ha : wO t2_0 na.toNatClampNeg) :
    ∀ (n : Nat) (i : Int32) (p : Nat → Int32), 0 ≤ i.toInt → i.toInt ≤ na.toInt → na.toInt - i.toInt < n → wO p 528 → (∀ t : Nat, i.toInt + ma.toInt ≤ t → t < 528 → p t = 0) → wE (wV p 528) (wV t2_0 i.toNatClampNeg * wV t3_0 ma.toNatClampNeg) →
      S_WR_multiplyRows_L22 N2 N3 N4 t0_0 t0_1 t0_2 t0_3 t0_4 t0_5 t0_6 t1_0 t2_0 t3_0 t4_0 ma na n i p ∧ wM N4 (wV t2_0 na.toNatClampNeg * wV t3_0 ma.toNatClampNeg) (F_WR_multiplyRows_L22 N2 N3 N4 t0_0 t0_1 t0_2 t0_3 t0_4 t0_5 t0_6 t1_0 t2_0 t3_0 t4_0 ma na n i p) := by
  intro n
  induction n with
  | zero => intro i p i0 i1 i2 ho hz hT; omega
  | succ n ih =>
    intro i p i0 i1 i2 ho hz hT
    have e0 : (0 : Int32).toInt = 0 := rfl
    have ei := q_clI (i := i) rfl i0
    have en := q_clI (i := na) rfl hn.1
    rw [S_WR_multiplyRows_L22.eq_2, F_WR_multiplyRows_L22.eq_2]
    by_cases d : na ≤ i
    · rw [if_pos d, if_pos d]
      have d2 := q_leI d
      have e1 : i.toNatClampNeg = na.toNatClampNeg := by omega
      rw [e1] at hT
      exact ⟨trivial, ho, hT, R_copy (N1 := 528) hto.1 (by omega)⟩
    · rw [if_neg d, if_neg d]
      have d2 := q_nleI d
      have e1 : (i + 1 : Int32).toInt = i.toInt + 1 := q_addI (y := 1) rfl (by decide) (by omega) (by omega)
      have ei1 := q_clI (i := i + 1) e1 (by omega)
      have eii : (i + 1 : Int32).toNatClampNeg = i.toNatClampNeg + 1 := by omega
      refine w_mulL35 (by omega) hm hb (ha _ (by omega)) (T := wV t2_0 (i.toNatClampNeg + 1) * wV t3_0 ma.toNatClampNeg) (fun p' q1 q2 q3 => ih (i + 1) p' (by omega) (by omega) (by omega) q1 (fun t t1 t2 => q2 t (by omega) t2) (by rw [eii]; exact q3)) ((2100 - (0 : Int32).toInt).toNat + 1) 0 0 p (by decide) (by omega) (by omega) (by decide) (by decide) (fun _ => rfl) ho (fun t t1 t2 t3 => hz t (by omega) t3) ?_
      have hT : _ = _ := hT
      show _ + 0 * _ + _ * (_ * wT t3_0 ma.toNatClampNeg 0) = (wV t2_0 i.toNatClampNeg + (t2_0 i.toNatClampNeg).toInt * 65536 ^ i.toNatClampNeg) * _
      rw [hT, wT_a, Int.add_mul, Int.zero_mul, Int.mul_assoc, Int.add_zero]
theorem R_mul {N2 : Int32} {N3 : Int32} {N4 : Int32} {t0_0 : Int32} {t0_1 : Int32} {t0_2 : Int32} {t0_3 : Int32} {t0_4 : Int32} {t0_5 : Int32} {t0_6 : Int32} {t1_0 : Nat → Int32} {t2_0 : Nat → Int32} {t3_0 : Nat → Int32} {t4_0 : Nat → Int32} (hto : 0 ≤ N4.toInt ∧ N4.toInt ≤ 264) (h2 : 0 ≤ N2.toInt ∧ N2.toInt ≤ 264) (h3 : 0 ≤ N3.toInt ∧ N3.toInt ≤ 264) (oA : wO t2_0 N2.toNatClampNeg) (oB : wO t3_0 N3.toNatClampNeg) : S_WR_multiplyRows N2 N3 N4 t0_0 t0_1 t0_2 t0_3 t0_4 t0_5 t0_6 t1_0 t2_0 t3_0 t4_0 ∧ wM N4 (wV t2_0 N2.toNatClampNeg * wV t3_0 N3.toNatClampNeg) (F_WR_multiplyRows N2 N3 N4 t0_0 t0_1 t0_2 t0_3 t0_4 t0_5 t0_6 t1_0 t2_0 t3_0 t4_0) := by
  have e0 : (0 : Int32).toInt = 0 := rfl
  have sA := R_size (N := N2) (f := t2_0) h2.1
  have sB := R_size (N := N3) (f := t3_0) h3.1
  have cl := R_clear (N := 528) (f := t1_0) (by decide) (by decide)
  have e528 : (528 : Int32).toInt = 528 := rfl
  unfold S_WR_multiplyRows F_WR_multiplyRows
  rw [sA.val, sB.val]
  generalize F_WR_size N2 t2_0 = zzA at sA ⊢
  generalize F_WR_size N3 t3_0 = zzB at sB ⊢
  generalize F_WR_clear 528 t1_0 = p at cl ⊢
  have zA := sA.2.1
  have zB := sB.2.1
  have nA := q_clI (i := zzA) rfl sA.1
  have nB := q_clI (i := zzB) rfl sB.1
  have mA := q_clI (i := N2) rfl h2.1
  have mB := q_clI (i := N3) rfl h3.1
  refine w_mulL22 hto ⟨sB.1, by omega⟩ ⟨sA.1, by omega⟩ (oB.mono (by omega)) (oA.mono (by omega)) ((20200 - (0 : Int32).toInt).toNat + 1) 0 p (by decide) (by omega) (by omega) (fun t ht => ?_) (fun t _ t2 => cl t (by omega)) ?_
  · rw [cl t (by omega)]; decide
  · show _ = _
    rw [w_zer (k := 0) (n := 528) (by omega) (fun i _ h => cl i (by omega))]
    show 0 = 0 * _
    rw [Int.zero_mul]

theorem w_mulL35_a {N2 : Int32} {N3 : Int32} {t0_0 : Int32} {t0_1 : Int32} {t0_2 : Int32} {t0_3 : Int32} {t0_4 : Int32} {t0_5 : Int32} {t0_6 : Int32} {t1_0 : Nat → Int32} {t2_0 : Nat → Int32} {t3_0 : Nat → Int32} {ma na i : Int32} {p0 : Nat → Int32} {KF : Int32 → (Nat → Int32) → ((Nat → Int32) × (Nat → Int32))} {KS : Int32 → (Nat → Int32) → Prop} {Q : (Nat → Int32) × (Nat → Int32) → Prop} (hi : 0 ≤ i.toInt ∧ i.toInt ≤ 263) (hm : 0 ≤ ma.toInt ∧ ma.toInt ≤ 264) (hb : wO t3_0 ma.toNatClampNeg) (ha : 0 ≤ (t2_0 i.toNatClampNeg).toInt ∧ (t2_0 i.toNatClampNeg).toInt < 65536) {T : Int}
    (hK : ∀ p : Nat → Int32, wO p 528 → (∀ t : Nat, i.toInt + 1 + ma.toInt ≤ t → t < 528 → p t = 0) → wE (wV p 528) T → KS (i + 1) p ∧ Q (KF (i + 1) p)) :
    ∀ (n : Nat) (j : Int32) (c : Int64) (p : Nat → Int32), 0 ≤ j.toInt → j.toInt ≤ ma.toInt + 1 → ma.toInt + 1 - j.toInt < n → 0 ≤ c.toInt → c.toInt ≤ 65535 → (j.toInt = ma.toInt + 1 → c.toInt = 0) → wO p 528 → (∀ t : Nat, i.toInt + ma.toInt ≤ t → i.toInt + j.toInt ≤ t → t < 528 → p t = 0) →
      wE (wV p 528 + c.toInt * 65536 ^ (i.toNatClampNeg + j.toNatClampNeg) + (t2_0 i.toNatClampNeg).toInt * (65536 ^ i.toNatClampNeg * wT t3_0 ma.toNatClampNeg j.toNatClampNeg)) T →
      S_WR_multiplyRows_a_L35 KS N2 N3 t0_0 t0_1 t0_2 t0_3 t0_4 t0_5 t0_6 t1_0 t2_0 t3_0 ma na i p0 n j c p ∧ Q (F_WR_multiplyRows_a_L35 KF N2 N3 t0_0 t0_1 t0_2 t0_3 t0_4 t0_5 t0_6 t1_0 t2_0 t3_0 ma na i p0 n j c p) := by
  intro n
  induction n with
  | zero => intro j c p j0 j1 j2 c0 c1 c2 ho hz hT; omega
  | succ n ih =>
    intro j c p j0 j1 j2 c0 c1 c2 ho hz hT
    have ei := q_clI (i := i) rfl hi.1
    have ej := q_clI (i := j) rfl j0
    have em := q_clI (i := ma) rfl hm.1
    have eij : (i + j : Int32).toInt = i.toInt + j.toInt := q_addI rfl rfl (by omega) (by omega)
    have eijn := q_clI (i := i + j) eij (by omega)
    have enn : (i + j : Int32).toNatClampNeg = i.toNatClampNeg + j.toNatClampNeg := by omega
    have e1 : (j + 1 : Int32).toInt = j.toInt + 1 := q_addI (y := 1) rfl (by decide) (by omega) (by omega)
    have ej1 := q_clI (i := j + 1) e1 (by omega)
    have ejj : (j + 1 : Int32).toNatClampNeg = j.toNatClampNeg + 1 := by omega
    rw [S_WR_multiplyRows_a_L35.eq_2, F_WR_multiplyRows_a_L35.eq_2]
    have go : ∀ (x : Int64) (X : Int), j.toInt ≤ ma.toInt → x.toInt = X → 0 ≤ X → X ≤ 65535 * 65535 → (j.toInt = ma.toInt → X = 0) → wE ((t2_0 i.toNatClampNeg).toInt * (65536 ^ i.toNatClampNeg * wT t3_0 ma.toNatClampNeg j.toNatClampNeg)) (X * 65536 ^ (i.toNatClampNeg + j.toNatClampNeg) + (t2_0 i.toNatClampNeg).toInt * (65536 ^ i.toNatClampNeg * wT t3_0 ma.toNatClampNeg (j.toNatClampNeg + 1))) →
        S_WR_multiplyRows_a_J85 KS (S_WR_multiplyRows_a_L35 KS N2 N3 t0_0 t0_1 t0_2 t0_3 t0_4 t0_5 t0_6 t1_0 t2_0 t3_0 ma na i p0 n) N2 N3 t0_0 t0_1 t0_2 t0_3 t0_4 t0_5 t0_6 t1_0 t2_0 t3_0 ma na i p0 j c p (c + ((p (i + j : Int32).toNatClampNeg).toInt64)) x ∧ Q (F_WR_multiplyRows_a_J85 KF (F_WR_multiplyRows_a_L35 KF N2 N3 t0_0 t0_1 t0_2 t0_3 t0_4 t0_5 t0_6 t1_0 t2_0 t3_0 ma na i p0 n) N2 N3 t0_0 t0_1 t0_2 t0_3 t0_4 t0_5 t0_6 t1_0 t2_0 t3_0 ma na i p0 j c p (c + ((p (i + j : Int32).toNatClampNeg).toInt64)) x) := by
      intro x X hj hx x0 x1 x2 hX
      unfold S_WR_multiplyRows_a_J85 F_WR_multiplyRows_a_J85
      have lt28 : i.toNatClampNeg + j.toNatClampNeg < 528 := by omega
      rw [enn]
      obtain ⟨a, ea⟩ := q_nm (p (i.toNatClampNeg + j.toNatClampNeg))
      have ha : 0 ≤ a.toInt ∧ a.toInt < 65536 := by rw [← ea]; exact ho _ (by omega)
      have az : j.toInt = ma.toInt → a.toInt = 0 := fun h => by rw [← ea, hz _ (by omega) (by omega) (by omega)]; rfl
      rw [ea]
      have u1 : (c + a.toInt64 : Int64).toInt = c.toInt + a.toInt := q_addL rfl (q_i2l rfl) (by omega) (by omega)
      have u2 : (c + a.toInt64 + x : Int64).toInt = c.toInt + a.toInt + X := q_addL u1 hx (by omega) (by omega)
      generalize (c + a.toInt64 + x : Int64) = w at u2 ⊢
      have w1 := w_and' (x := w)
      have w2 := w_shr (x := w)
      rw [u2] at w1 w2
      generalize ((w &&& 65535).toInt32 : Int32) = m at w1 ⊢
      generalize (w >>> ((16 : Int32).toInt64 &&& 63) : Int64) = c' at w2 ⊢
      have m1 : 0 ≤ m.toInt ∧ m.toInt < 65536 := by rw [w1]; exact ⟨Int.emod_nonneg _ (by decide), Int.emod_lt_of_pos _ (by decide)⟩
      have m2 : m.toInt + 65536 * c'.toInt = c.toInt + a.toInt + X := by rw [w1, w2]; exact Int.emod_add_mul_ediv _ _
      refine ih (j + 1) c' (upd p (i.toNatClampNeg + j.toNatClampNeg) m) (by omega) (by omega) (by omega) (by omega) (by omega) (fun h => ?_) (wO_upd ho m1) (fun t t1 t2 t3 => ?_) ?_
      · have := az (by omega)
        have := x2 (by omega)
        omega
      · rw [v_ne (by omega)]
        exact hz t t1 (by omega) t3
      · have hT : _ = _ := hT
        have hX : _ = _ := hX
        show _ = _
        rw [← hT, hX, ejj, w_upd lt28, ea]
        show _ + c'.toInt * 65536 ^ (i.toNatClampNeg + j.toNatClampNeg + 1) + _ = _
        rw [w_pw]
        exact w_joinId m2
    have goJ : j.toInt ≤ ma.toInt → S_WR_multiplyRows_a_J49 KS (S_WR_multiplyRows_a_L35 KS N2 N3 t0_0 t0_1 t0_2 t0_3 t0_4 t0_5 t0_6 t1_0 t2_0 t3_0 ma na i p0 n) N2 N3 t0_0 t0_1 t0_2 t0_3 t0_4 t0_5 t0_6 t1_0 t2_0 t3_0 ma na i p0 j c p ∧ Q (F_WR_multiplyRows_a_J49 KF (F_WR_multiplyRows_a_L35 KF N2 N3 t0_0 t0_1 t0_2 t0_3 t0_4 t0_5 t0_6 t1_0 t2_0 t3_0 ma na i p0 n) N2 N3 t0_0 t0_1 t0_2 t0_3 t0_4 t0_5 t0_6 t1_0 t2_0 t3_0 ma na i p0 j c p) := by
      intro hj
      unfold S_WR_multiplyRows_a_J49 F_WR_multiplyRows_a_J49
      refine v_cons (by omega) ?_
      by_cases d : ma ≤ j
      · rw [if_pos d, if_pos d]
        have d2 := q_leI d
        refine go 0 0 hj rfl (by omega) (by omega) (fun _ => rfl) ?_
        show _ = _
        rw [wT_0 (by omega), wT_0 (by omega), Int.mul_zero, Int.mul_zero, Int.zero_mul, Int.add_zero]
      · rw [if_neg d, if_neg d]
        have d2 := q_nleI d
        have ejm : j.toNatClampNeg < ma.toNatClampNeg := by omega
        obtain ⟨b, eb⟩ := q_nm (t3_0 j.toNatClampNeg)
        have hbj : 0 ≤ b.toInt ∧ b.toInt < 65536 := by rw [← eb]; exact hb _ (by omega)
        rw [eb]
        obtain ⟨a, ea⟩ := q_nm (t2_0 i.toNatClampNeg)
        rw [ea] at ha go ⊢
        have n1 : 0 ≤ a.toInt * b.toInt := Int.mul_nonneg ha.1 hbj.1
        have n2 : a.toInt * b.toInt ≤ 65535 * 65535 := Int.mul_le_mul (by omega) (by omega) hbj.1 (by decide)
        refine go (a.toInt64 * b.toInt64) (a.toInt * b.toInt) hj (q_mulL (q_i2l rfl) (q_i2l rfl) (by omega) (by omega)) n1 n2 (fun h => by omega) ?_
        show _ = _
        rw [wT_s ejm, eb, Int.pow_add]
        simp only [Int.mul_add, Int.mul_assoc, Int.mul_comm, Int.mul_left_comm]
    by_cases d : j < ma
    · rw [if_pos d, if_pos d]
      have d2 := q_ltI d
      exact goJ (by omega)
    · rw [if_neg d, if_neg d]
      have d2 := q_nltI d
      by_cases z : lg_cmp c 0 = 0
      · rw [if_pos z, if_pos z]
        have z2 : c.toInt = 0 := v_cmp0 z
        refine hK p ho (fun t t1 t2 => hz t (by omega) (by omega) t2) ?_
        have hT : _ = _ := hT
        show _ = _
        rw [← hT, z2, wT_0 (by omega), Int.mul_zero, Int.mul_zero, Int.zero_mul]
        simp only [Int.add_zero]
      · rw [if_neg z, if_neg z]
        have z2 : c.toInt ≠ 0 := q_k10 z
        refine goJ ?_
        by_cases e : j.toInt = ma.toInt + 1
        · exact absurd (c2 e) z2
        · omega
def wM_a (N : Int32) (v : Int) (r : (Nat → Int32) × (Nat → Int32)) : Prop := wO r.1 528 ∧ wE (wV r.1 528) v ∧ ∀ i : Nat, (i : Int) < N.toInt → r.2 i = if (i : Int) < 528 then r.1 i else 0
theorem w_mulL22_a {N2 : Int32} {N3 : Int32} {t0_0 : Int32} {t0_1 : Int32} {t0_2 : Int32} {t0_3 : Int32} {t0_4 : Int32} {t0_5 : Int32} {t0_6 : Int32} {t1_0 : Nat → Int32} {t2_0 : Nat → Int32} {t3_0 : Nat → Int32} {ma na : Int32} (hto : 0 ≤ N2.toInt ∧ N2.toInt ≤ 264) (hm : 0 ≤ ma.toInt ∧ ma.toInt ≤ 264) (hn : 0 ≤ na.toInt ∧ na.toInt ≤ 264) (hb : wO t3_0 ma.toNatClampNeg) (ha : wO t2_0 na.toNatClampNeg) :
    ∀ (n : Nat) (i : Int32) (p : Nat → Int32), 0 ≤ i.toInt → i.toInt ≤ na.toInt → na.toInt - i.toInt < n → wO p 528 → (∀ t : Nat, i.toInt + ma.toInt ≤ t → t < 528 → p t = 0) → wE (wV p 528) (wV t2_0 i.toNatClampNeg * wV t3_0 ma.toNatClampNeg) →
      S_WR_multiplyRows_a_L22 N2 N3 t0_0 t0_1 t0_2 t0_3 t0_4 t0_5 t0_6 t1_0 t2_0 t3_0 ma na n i p ∧ wM_a N2 (wV t2_0 na.toNatClampNeg * wV t3_0 ma.toNatClampNeg) (F_WR_multiplyRows_a_L22 N2 N3 t0_0 t0_1 t0_2 t0_3 t0_4 t0_5 t0_6 t1_0 t2_0 t3_0 ma na n i p) := by
  intro n
  induction n with
  | zero => intro i p i0 i1 i2 ho hz hT; omega
  | succ n ih =>
    intro i p i0 i1 i2 ho hz hT
    have e0 : (0 : Int32).toInt = 0 := rfl
    have ei := q_clI (i := i) rfl i0
    have en := q_clI (i := na) rfl hn.1
    rw [S_WR_multiplyRows_a_L22.eq_2, F_WR_multiplyRows_a_L22.eq_2]
    by_cases d : na ≤ i
    · rw [if_pos d, if_pos d]
      have d2 := q_leI d
      have e1 : i.toNatClampNeg = na.toNatClampNeg := by omega
      rw [e1] at hT
      exact ⟨trivial, ho, hT, R_copy (N1 := 528) hto.1 (by omega)⟩
    · rw [if_neg d, if_neg d]
      have d2 := q_nleI d
      have e1 : (i + 1 : Int32).toInt = i.toInt + 1 := q_addI (y := 1) rfl (by decide) (by omega) (by omega)
      have ei1 := q_clI (i := i + 1) e1 (by omega)
      have eii : (i + 1 : Int32).toNatClampNeg = i.toNatClampNeg + 1 := by omega
      refine w_mulL35_a (by omega) hm hb (ha _ (by omega)) (T := wV t2_0 (i.toNatClampNeg + 1) * wV t3_0 ma.toNatClampNeg) (fun p' q1 q2 q3 => ih (i + 1) p' (by omega) (by omega) (by omega) q1 (fun t t1 t2 => q2 t (by omega) t2) (by rw [eii]; exact q3)) ((2100 - (0 : Int32).toInt).toNat + 1) 0 0 p (by decide) (by omega) (by omega) (by decide) (by decide) (fun _ => rfl) ho (fun t t1 t2 t3 => hz t (by omega) t3) ?_
      have hT : _ = _ := hT
      show _ + 0 * _ + _ * (_ * wT t3_0 ma.toNatClampNeg 0) = (wV t2_0 i.toNatClampNeg + (t2_0 i.toNatClampNeg).toInt * 65536 ^ i.toNatClampNeg) * _
      rw [hT, wT_a, Int.add_mul, Int.zero_mul, Int.mul_assoc, Int.add_zero]
theorem R_mul_a {N2 : Int32} {N3 : Int32} {t0_0 : Int32} {t0_1 : Int32} {t0_2 : Int32} {t0_3 : Int32} {t0_4 : Int32} {t0_5 : Int32} {t0_6 : Int32} {t1_0 : Nat → Int32} {t2_0 : Nat → Int32} {t3_0 : Nat → Int32} (hto : 0 ≤ N2.toInt ∧ N2.toInt ≤ 264) (h2 : 0 ≤ N2.toInt ∧ N2.toInt ≤ 264) (h3 : 0 ≤ N3.toInt ∧ N3.toInt ≤ 264) (oA : wO t2_0 N2.toNatClampNeg) (oB : wO t3_0 N3.toNatClampNeg) : S_WR_multiplyRows_a N2 N3 t0_0 t0_1 t0_2 t0_3 t0_4 t0_5 t0_6 t1_0 t2_0 t3_0 ∧ wM_a N2 (wV t2_0 N2.toNatClampNeg * wV t3_0 N3.toNatClampNeg) (F_WR_multiplyRows_a N2 N3 t0_0 t0_1 t0_2 t0_3 t0_4 t0_5 t0_6 t1_0 t2_0 t3_0) := by
  have e0 : (0 : Int32).toInt = 0 := rfl
  have sA := R_size (N := N2) (f := t2_0) h2.1
  have sB := R_size (N := N3) (f := t3_0) h3.1
  have cl := R_clear (N := 528) (f := t1_0) (by decide) (by decide)
  have e528 : (528 : Int32).toInt = 528 := rfl
  unfold S_WR_multiplyRows_a F_WR_multiplyRows_a
  rw [sA.val, sB.val]
  generalize F_WR_size N2 t2_0 = zzA at sA ⊢
  generalize F_WR_size N3 t3_0 = zzB at sB ⊢
  generalize F_WR_clear 528 t1_0 = p at cl ⊢
  have zA := sA.2.1
  have zB := sB.2.1
  have nA := q_clI (i := zzA) rfl sA.1
  have nB := q_clI (i := zzB) rfl sB.1
  have mA := q_clI (i := N2) rfl h2.1
  have mB := q_clI (i := N3) rfl h3.1
  refine w_mulL22_a hto ⟨sB.1, by omega⟩ ⟨sA.1, by omega⟩ (oB.mono (by omega)) (oA.mono (by omega)) ((20200 - (0 : Int32).toInt).toNat + 1) 0 p (by decide) (by omega) (by omega) (fun t ht => ?_) (fun t _ t2 => cl t (by omega)) ?_
  · rw [cl t (by omega)]; decide
  · show _ = _
    rw [w_zer (k := 0) (n := 528) (by omega) (fun i _ h => cl i (by omega))]
    show 0 = 0 * _
    rw [Int.zero_mul]

theorem w_mulL35_b {N2 : Int32} {N4 : Int32} {t0_0 : Int32} {t0_1 : Int32} {t0_2 : Int32} {t0_3 : Int32} {t0_4 : Int32} {t0_5 : Int32} {t0_6 : Int32} {t1_0 : Nat → Int32} {t2_0 : Nat → Int32} {t3_0 : Nat → Int32} {ma na i : Int32} {p0 : Nat → Int32} {KF : Int32 → (Nat → Int32) → ((Nat → Int32) × (Nat → Int32))} {KS : Int32 → (Nat → Int32) → Prop} {Q : (Nat → Int32) × (Nat → Int32) → Prop} (hi : 0 ≤ i.toInt ∧ i.toInt ≤ 263) (hm : 0 ≤ ma.toInt ∧ ma.toInt ≤ 264) (hb : wO t2_0 ma.toNatClampNeg) (ha : 0 ≤ (t2_0 i.toNatClampNeg).toInt ∧ (t2_0 i.toNatClampNeg).toInt < 65536) {T : Int}
    (hK : ∀ p : Nat → Int32, wO p 528 → (∀ t : Nat, i.toInt + 1 + ma.toInt ≤ t → t < 528 → p t = 0) → wE (wV p 528) T → KS (i + 1) p ∧ Q (KF (i + 1) p)) :
    ∀ (n : Nat) (j : Int32) (c : Int64) (p : Nat → Int32), 0 ≤ j.toInt → j.toInt ≤ ma.toInt + 1 → ma.toInt + 1 - j.toInt < n → 0 ≤ c.toInt → c.toInt ≤ 65535 → (j.toInt = ma.toInt + 1 → c.toInt = 0) → wO p 528 → (∀ t : Nat, i.toInt + ma.toInt ≤ t → i.toInt + j.toInt ≤ t → t < 528 → p t = 0) →
      wE (wV p 528 + c.toInt * 65536 ^ (i.toNatClampNeg + j.toNatClampNeg) + (t2_0 i.toNatClampNeg).toInt * (65536 ^ i.toNatClampNeg * wT t2_0 ma.toNatClampNeg j.toNatClampNeg)) T →
      S_WR_multiplyRows_b_L35 KS N2 N4 t0_0 t0_1 t0_2 t0_3 t0_4 t0_5 t0_6 t1_0 t2_0 t3_0 ma na i p0 n j c p ∧ Q (F_WR_multiplyRows_b_L35 KF N2 N4 t0_0 t0_1 t0_2 t0_3 t0_4 t0_5 t0_6 t1_0 t2_0 t3_0 ma na i p0 n j c p) := by
  intro n
  induction n with
  | zero => intro j c p j0 j1 j2 c0 c1 c2 ho hz hT; omega
  | succ n ih =>
    intro j c p j0 j1 j2 c0 c1 c2 ho hz hT
    have ei := q_clI (i := i) rfl hi.1
    have ej := q_clI (i := j) rfl j0
    have em := q_clI (i := ma) rfl hm.1
    have eij : (i + j : Int32).toInt = i.toInt + j.toInt := q_addI rfl rfl (by omega) (by omega)
    have eijn := q_clI (i := i + j) eij (by omega)
    have enn : (i + j : Int32).toNatClampNeg = i.toNatClampNeg + j.toNatClampNeg := by omega
    have e1 : (j + 1 : Int32).toInt = j.toInt + 1 := q_addI (y := 1) rfl (by decide) (by omega) (by omega)
    have ej1 := q_clI (i := j + 1) e1 (by omega)
    have ejj : (j + 1 : Int32).toNatClampNeg = j.toNatClampNeg + 1 := by omega
    rw [S_WR_multiplyRows_b_L35.eq_2, F_WR_multiplyRows_b_L35.eq_2]
    have go : ∀ (x : Int64) (X : Int), j.toInt ≤ ma.toInt → x.toInt = X → 0 ≤ X → X ≤ 65535 * 65535 → (j.toInt = ma.toInt → X = 0) → wE ((t2_0 i.toNatClampNeg).toInt * (65536 ^ i.toNatClampNeg * wT t2_0 ma.toNatClampNeg j.toNatClampNeg)) (X * 65536 ^ (i.toNatClampNeg + j.toNatClampNeg) + (t2_0 i.toNatClampNeg).toInt * (65536 ^ i.toNatClampNeg * wT t2_0 ma.toNatClampNeg (j.toNatClampNeg + 1))) →
        S_WR_multiplyRows_b_J85 KS (S_WR_multiplyRows_b_L35 KS N2 N4 t0_0 t0_1 t0_2 t0_3 t0_4 t0_5 t0_6 t1_0 t2_0 t3_0 ma na i p0 n) N2 N4 t0_0 t0_1 t0_2 t0_3 t0_4 t0_5 t0_6 t1_0 t2_0 t3_0 ma na i p0 j c p (c + ((p (i + j : Int32).toNatClampNeg).toInt64)) x ∧ Q (F_WR_multiplyRows_b_J85 KF (F_WR_multiplyRows_b_L35 KF N2 N4 t0_0 t0_1 t0_2 t0_3 t0_4 t0_5 t0_6 t1_0 t2_0 t3_0 ma na i p0 n) N2 N4 t0_0 t0_1 t0_2 t0_3 t0_4 t0_5 t0_6 t1_0 t2_0 t3_0 ma na i p0 j c p (c + ((p (i + j : Int32).toNatClampNeg).toInt64)) x) := by
      intro x X hj hx x0 x1 x2 hX
      unfold S_WR_multiplyRows_b_J85 F_WR_multiplyRows_b_J85
      have lt28 : i.toNatClampNeg + j.toNatClampNeg < 528 := by omega
      rw [enn]
      obtain ⟨a, ea⟩ := q_nm (p (i.toNatClampNeg + j.toNatClampNeg))
      have ha : 0 ≤ a.toInt ∧ a.toInt < 65536 := by rw [← ea]; exact ho _ (by omega)
      have az : j.toInt = ma.toInt → a.toInt = 0 := fun h => by rw [← ea, hz _ (by omega) (by omega) (by omega)]; rfl
      rw [ea]
      have u1 : (c + a.toInt64 : Int64).toInt = c.toInt + a.toInt := q_addL rfl (q_i2l rfl) (by omega) (by omega)
      have u2 : (c + a.toInt64 + x : Int64).toInt = c.toInt + a.toInt + X := q_addL u1 hx (by omega) (by omega)
      generalize (c + a.toInt64 + x : Int64) = w at u2 ⊢
      have w1 := w_and' (x := w)
      have w2 := w_shr (x := w)
      rw [u2] at w1 w2
      generalize ((w &&& 65535).toInt32 : Int32) = m at w1 ⊢
      generalize (w >>> ((16 : Int32).toInt64 &&& 63) : Int64) = c' at w2 ⊢
      have m1 : 0 ≤ m.toInt ∧ m.toInt < 65536 := by rw [w1]; exact ⟨Int.emod_nonneg _ (by decide), Int.emod_lt_of_pos _ (by decide)⟩
      have m2 : m.toInt + 65536 * c'.toInt = c.toInt + a.toInt + X := by rw [w1, w2]; exact Int.emod_add_mul_ediv _ _
      refine ih (j + 1) c' (upd p (i.toNatClampNeg + j.toNatClampNeg) m) (by omega) (by omega) (by omega) (by omega) (by omega) (fun h => ?_) (wO_upd ho m1) (fun t t1 t2 t3 => ?_) ?_
      · have := az (by omega)
        have := x2 (by omega)
        omega
      · rw [v_ne (by omega)]
        exact hz t t1 (by omega) t3
      · have hT : _ = _ := hT
        have hX : _ = _ := hX
        show _ = _
        rw [← hT, hX, ejj, w_upd lt28, ea]
        show _ + c'.toInt * 65536 ^ (i.toNatClampNeg + j.toNatClampNeg + 1) + _ = _
        rw [w_pw]
        exact w_joinId m2
    have goJ : j.toInt ≤ ma.toInt → S_WR_multiplyRows_b_J49 KS (S_WR_multiplyRows_b_L35 KS N2 N4 t0_0 t0_1 t0_2 t0_3 t0_4 t0_5 t0_6 t1_0 t2_0 t3_0 ma na i p0 n) N2 N4 t0_0 t0_1 t0_2 t0_3 t0_4 t0_5 t0_6 t1_0 t2_0 t3_0 ma na i p0 j c p ∧ Q (F_WR_multiplyRows_b_J49 KF (F_WR_multiplyRows_b_L35 KF N2 N4 t0_0 t0_1 t0_2 t0_3 t0_4 t0_5 t0_6 t1_0 t2_0 t3_0 ma na i p0 n) N2 N4 t0_0 t0_1 t0_2 t0_3 t0_4 t0_5 t0_6 t1_0 t2_0 t3_0 ma na i p0 j c p) := by
      intro hj
      unfold S_WR_multiplyRows_b_J49 F_WR_multiplyRows_b_J49
      refine v_cons (by omega) ?_
      by_cases d : ma ≤ j
      · rw [if_pos d, if_pos d]
        have d2 := q_leI d
        refine go 0 0 hj rfl (by omega) (by omega) (fun _ => rfl) ?_
        show _ = _
        rw [wT_0 (by omega), wT_0 (by omega), Int.mul_zero, Int.mul_zero, Int.zero_mul, Int.add_zero]
      · rw [if_neg d, if_neg d]
        have d2 := q_nleI d
        have ejm : j.toNatClampNeg < ma.toNatClampNeg := by omega
        obtain ⟨b, eb⟩ := q_nm (t2_0 j.toNatClampNeg)
        have hbj : 0 ≤ b.toInt ∧ b.toInt < 65536 := by rw [← eb]; exact hb _ (by omega)
        rw [eb]
        obtain ⟨a, ea⟩ := q_nm (t2_0 i.toNatClampNeg)
        rw [ea] at ha go ⊢
        have n1 : 0 ≤ a.toInt * b.toInt := Int.mul_nonneg ha.1 hbj.1
        have n2 : a.toInt * b.toInt ≤ 65535 * 65535 := Int.mul_le_mul (by omega) (by omega) hbj.1 (by decide)
        refine go (a.toInt64 * b.toInt64) (a.toInt * b.toInt) hj (q_mulL (q_i2l rfl) (q_i2l rfl) (by omega) (by omega)) n1 n2 (fun h => by omega) ?_
        show _ = _
        rw [wT_s ejm, eb, Int.pow_add]
        simp only [Int.mul_add, Int.mul_assoc, Int.mul_comm, Int.mul_left_comm]
    by_cases d : j < ma
    · rw [if_pos d, if_pos d]
      have d2 := q_ltI d
      exact goJ (by omega)
    · rw [if_neg d, if_neg d]
      have d2 := q_nltI d
      by_cases z : lg_cmp c 0 = 0
      · rw [if_pos z, if_pos z]
        have z2 : c.toInt = 0 := v_cmp0 z
        refine hK p ho (fun t t1 t2 => hz t (by omega) (by omega) t2) ?_
        have hT : _ = _ := hT
        show _ = _
        rw [← hT, z2, wT_0 (by omega), Int.mul_zero, Int.mul_zero, Int.zero_mul]
        simp only [Int.add_zero]
      · rw [if_neg z, if_neg z]
        have z2 : c.toInt ≠ 0 := q_k10 z
        refine goJ ?_
        by_cases e : j.toInt = ma.toInt + 1
        · exact absurd (c2 e) z2
        · omega
def wM_b (N : Int32) (v : Int) (r : (Nat → Int32) × (Nat → Int32)) : Prop := wO r.1 528 ∧ wE (wV r.1 528) v ∧ ∀ i : Nat, (i : Int) < N.toInt → r.2 i = if (i : Int) < 528 then r.1 i else 0
theorem w_mulL22_b {N2 : Int32} {N4 : Int32} {t0_0 : Int32} {t0_1 : Int32} {t0_2 : Int32} {t0_3 : Int32} {t0_4 : Int32} {t0_5 : Int32} {t0_6 : Int32} {t1_0 : Nat → Int32} {t2_0 : Nat → Int32} {t3_0 : Nat → Int32} {ma na : Int32} (hto : 0 ≤ N4.toInt ∧ N4.toInt ≤ 264) (hm : 0 ≤ ma.toInt ∧ ma.toInt ≤ 264) (hn : 0 ≤ na.toInt ∧ na.toInt ≤ 264) (hb : wO t2_0 ma.toNatClampNeg) (ha : wO t2_0 na.toNatClampNeg) :
    ∀ (n : Nat) (i : Int32) (p : Nat → Int32), 0 ≤ i.toInt → i.toInt ≤ na.toInt → na.toInt - i.toInt < n → wO p 528 → (∀ t : Nat, i.toInt + ma.toInt ≤ t → t < 528 → p t = 0) → wE (wV p 528) (wV t2_0 i.toNatClampNeg * wV t2_0 ma.toNatClampNeg) →
      S_WR_multiplyRows_b_L22 N2 N4 t0_0 t0_1 t0_2 t0_3 t0_4 t0_5 t0_6 t1_0 t2_0 t3_0 ma na n i p ∧ wM_b N4 (wV t2_0 na.toNatClampNeg * wV t2_0 ma.toNatClampNeg) (F_WR_multiplyRows_b_L22 N2 N4 t0_0 t0_1 t0_2 t0_3 t0_4 t0_5 t0_6 t1_0 t2_0 t3_0 ma na n i p) := by
  intro n
  induction n with
  | zero => intro i p i0 i1 i2 ho hz hT; omega
  | succ n ih =>
    intro i p i0 i1 i2 ho hz hT
    have e0 : (0 : Int32).toInt = 0 := rfl
    have ei := q_clI (i := i) rfl i0
    have en := q_clI (i := na) rfl hn.1
    rw [S_WR_multiplyRows_b_L22.eq_2, F_WR_multiplyRows_b_L22.eq_2]
    by_cases d : na ≤ i
    · rw [if_pos d, if_pos d]
      have d2 := q_leI d
      have e1 : i.toNatClampNeg = na.toNatClampNeg := by omega
      rw [e1] at hT
      exact ⟨trivial, ho, hT, R_copy (N1 := 528) hto.1 (by omega)⟩
    · rw [if_neg d, if_neg d]
      have d2 := q_nleI d
      have e1 : (i + 1 : Int32).toInt = i.toInt + 1 := q_addI (y := 1) rfl (by decide) (by omega) (by omega)
      have ei1 := q_clI (i := i + 1) e1 (by omega)
      have eii : (i + 1 : Int32).toNatClampNeg = i.toNatClampNeg + 1 := by omega
      refine w_mulL35_b (by omega) hm hb (ha _ (by omega)) (T := wV t2_0 (i.toNatClampNeg + 1) * wV t2_0 ma.toNatClampNeg) (fun p' q1 q2 q3 => ih (i + 1) p' (by omega) (by omega) (by omega) q1 (fun t t1 t2 => q2 t (by omega) t2) (by rw [eii]; exact q3)) ((2100 - (0 : Int32).toInt).toNat + 1) 0 0 p (by decide) (by omega) (by omega) (by decide) (by decide) (fun _ => rfl) ho (fun t t1 t2 t3 => hz t (by omega) t3) ?_
      have hT : _ = _ := hT
      show _ + 0 * _ + _ * (_ * wT t2_0 ma.toNatClampNeg 0) = (wV t2_0 i.toNatClampNeg + (t2_0 i.toNatClampNeg).toInt * 65536 ^ i.toNatClampNeg) * _
      rw [hT, wT_a, Int.add_mul, Int.zero_mul, Int.mul_assoc, Int.add_zero]
theorem R_mul_b {N2 : Int32} {N4 : Int32} {t0_0 : Int32} {t0_1 : Int32} {t0_2 : Int32} {t0_3 : Int32} {t0_4 : Int32} {t0_5 : Int32} {t0_6 : Int32} {t1_0 : Nat → Int32} {t2_0 : Nat → Int32} {t3_0 : Nat → Int32} (hto : 0 ≤ N4.toInt ∧ N4.toInt ≤ 264) (h2 : 0 ≤ N2.toInt ∧ N2.toInt ≤ 264) (oA : wO t2_0 N2.toNatClampNeg) : S_WR_multiplyRows_b N2 N4 t0_0 t0_1 t0_2 t0_3 t0_4 t0_5 t0_6 t1_0 t2_0 t3_0 ∧ wM_b N4 (wV t2_0 N2.toNatClampNeg * wV t2_0 N2.toNatClampNeg) (F_WR_multiplyRows_b N2 N4 t0_0 t0_1 t0_2 t0_3 t0_4 t0_5 t0_6 t1_0 t2_0 t3_0) := by
  have e0 : (0 : Int32).toInt = 0 := rfl
  have h3 := h2
  have oB := oA
  have sA := R_size (N := N2) (f := t2_0) h2.1
  have sB := R_size (N := N2) (f := t2_0) h3.1
  have cl := R_clear (N := 528) (f := t1_0) (by decide) (by decide)
  have e528 : (528 : Int32).toInt = 528 := rfl
  unfold S_WR_multiplyRows_b F_WR_multiplyRows_b
  rw [sA.val]
  generalize F_WR_size N2 t2_0 = zzA at sA sB ⊢
  generalize F_WR_clear 528 t1_0 = p at cl ⊢
  have zA := sA.2.1
  have zB := sB.2.1
  have nA := q_clI (i := zzA) rfl sA.1
  have nB := q_clI (i := zzA) rfl sB.1
  have mA := q_clI (i := N2) rfl h2.1
  have mB := q_clI (i := N2) rfl h3.1
  refine w_mulL22_b hto ⟨sB.1, by omega⟩ ⟨sA.1, by omega⟩ (oB.mono (by omega)) (oA.mono (by omega)) ((20200 - (0 : Int32).toInt).toNat + 1) 0 p (by decide) (by omega) (by omega) (fun t ht => ?_) (fun t _ t2 => cl t (by omega)) ?_
  · rw [cl t (by omega)]; decide
  · show _ = _
    rw [w_zer (k := 0) (n := 528) (by omega) (fun i _ h => cl i (by omega))]
    show 0 = 0 * _
    rw [Int.zero_mul]

/-! the reference's rows: division -/
def wL (a b : Int) : Prop := a < b
theorem w_orG {x : Int64} {y : Int32} (h : 0 ≤ x.toInt) (h2 : x.toInt < 4611686018427387904) (hm : x.toInt % 65536 = 0) (hy : 0 ≤ y.toInt ∧ y.toInt < 65536) : (x ||| y.toInt64).toInt = x.toInt + y.toInt := by
  obtain ⟨h1, h3, -⟩ := s_nnL h
  have ey : y.toInt64.toInt = y.toInt := q_i2l rfl
  obtain ⟨y1, y3, -⟩ := s_nnL (x := y.toInt64) (by omega)
  have e : (x ||| y.toInt64).toBitVec.toNat = x.toBitVec.toNat + y.toInt64.toBitVec.toNat := by
    rw [Int64.toBitVec_or, BitVec.toNat_or]
    have hx : x.toBitVec.toNat = 65536 * (x.toBitVec.toNat / 65536) := by omega
    rw [hx]
    have := Nat.two_pow_add_eq_or_of_lt (i := 16) (b := y.toInt64.toBitVec.toNat) (by omega) (x.toBitVec.toNat / 65536)
    exact this.symm
  have h5 := s_ofL e (by omega)
  rw [h5]
  omega
/-- a row moved up by one -/
theorem w_up {f g : Nat → Int32} : ∀ {n : Nat}, (∀ t, t < n → g (t + 1) = f t) → wV g (n + 1) = (g 0).toInt + 65536 * wV f n
  | 0, _ => by
    show 0 + (g 0).toInt * 1 = (g 0).toInt + 65536 * 0
    omega
  | n + 1, h => by
    have h1 := w_up (f := f) (g := g) (n := n) (fun t ht => h t (by omega))
    show wV g (n + 1) + (g (n + 1)).toInt * 65536 ^ (n + 1) = (g 0).toInt + 65536 * (wV f n + (f n).toInt * 65536 ^ n)
    rw [h1, h n (by omega), w_pw]
    generalize (65536 : Int) ^ n = P
    generalize wV f n = u
    have e : (f n).toInt * (P * 65536) = 65536 * ((f n).toInt * P) := by rw [← Int.mul_assoc, Int.mul_comm]
    rw [e, Int.mul_add]
    omega
theorem w_pwle {k i : Nat} (h : k ≤ i) : (65536 : Int) ^ k ≤ 65536 ^ i := by
  obtain ⟨d, rfl⟩ := Nat.exists_eq_add_of_le h
  rw [Int.pow_add]
  have h1 := w_pos k
  have h2 := w_pos d
  have h3 := Int.mul_le_mul_of_nonneg_left (show 1 ≤ (65536 : Int) ^ d by omega) (Int.le_of_lt h1)
  rw [Int.mul_one] at h3
  exact h3
/-- limbs behind a value's length are 0 -/
theorem w_top {f : Nat → Int32} {k n : Nat} (ho : wO f n) (h : wV f n < 65536 ^ k) : ∀ i, k ≤ i → i < n → f i = 0 := fun i h1 h2 => by
  by_cases e : f i = 0
  · exact e
  · have a := w_ge ho h2 e
    have b : (65536 : Int) ^ k ≤ 65536 ^ i := w_pwle h1
    exact absurd h (by omega)
theorem w_est2 {s hd tp P Vb Vr : Int} (h0 : 0 ≤ s) (h : s * (hd + 1) ≤ tp) (hb : Vb ≤ (hd + 1) * P) (hr : tp * P ≤ Vr) (hP : 0 < P) : s * Vb ≤ Vr := by
  have h1 := Int.mul_le_mul_of_nonneg_left hb h0
  have h2 := Int.mul_le_mul_of_nonneg_right h (Int.le_of_lt hP)
  rw [Int.mul_assoc] at h2
  omega
theorem w_est1 {s hd tp Vb Vr : Int} (h0 : 0 ≤ s) (h : s * (hd + 1) ≤ tp) (hb : Vb * 65536 = hd) (hr : tp = Vr * 65536) : s * Vb ≤ Vr := by
  rw [← hb, hr, Int.mul_add, ← Int.mul_assoc] at h
  omega
def wHd (b : Nat → Int32) (m : Nat) : Int := (b (m - 1)).toInt * 65536 + (if m ≤ 1 then 0 else (b (m - 2)).toInt)
def wTp (r : Nat → Int32) (m : Nat) : Int := ((r m).toInt * 65536 + (r (m - 1)).toInt) * 65536 + (if m ≤ 1 then 0 else (r (m - 2)).toInt)
/-- the first limbs guess low -/
theorem w_est {b r : Nat → Int32} {m : Nat} {s : Int} (hm : 1 ≤ m) (hb : wO b m) (hr : wO r (m + 1)) (h0 : 0 ≤ s) (h : s * (wHd b m + 1) ≤ wTp r m) : s * wV b m ≤ wV r (m + 1) := by
  unfold wHd wTp at h
  by_cases e : m = 1
  · subst e
    rw [if_pos (by decide), if_pos (by decide)] at h
    refine w_est1 h0 h ?_ ?_
    · show (0 + (b 0).toInt * 1) * 65536 = (b 0).toInt * 65536 + 0
      omega
    · show ((r 1).toInt * 65536 + (r 0).toInt) * 65536 + 0 = (0 + (r 0).toInt * 1 + (r 1).toInt * 65536) * 65536
      omega
  · obtain ⟨k, rfl⟩ : ∃ k, m = k + 2 := ⟨m - 2, by omega⟩
    rw [if_neg (by omega), if_neg (by omega)] at h
    have e1 : k + 2 - 1 = k + 1 := by omega
    have e2 : k + 2 - 2 = k := by omega
    rw [e1, e2] at h
    have l1 := w_lt (hb.mono (show k ≤ k + 2 by omega))
    have l2 := w_nn (hr.mono (show k ≤ k + 2 + 1 by omega))
    refine w_est2 h0 h ?_ ?_ (w_pos k)
    · show wV b k + (b k).toInt * 65536 ^ k + (b (k + 1)).toInt * 65536 ^ (k + 1) ≤ _
      rw [w_pw, Int.add_mul, Int.add_mul]
      generalize (65536 : Int) ^ k = P at l1 ⊢
      generalize wV b k = u at l1 ⊢
      have e3 : (b (k + 1)).toInt * 65536 * P = (b (k + 1)).toInt * (P * 65536) := by rw [Int.mul_assoc, Int.mul_comm P]
      rw [e3]
      clear h hb hr
      omega
    · show _ ≤ wV r k + (r k).toInt * 65536 ^ k + (r (k + 1)).toInt * 65536 ^ (k + 1) + (r (k + 2)).toInt * 65536 ^ (k + 2)
      have e4 : (65536 : Int) ^ (k + 2) = 65536 ^ k * 65536 * 65536 := by rw [w_pw, w_pw]
      rw [e4, w_pw]
      generalize (65536 : Int) ^ k = P at l2 ⊢
      generalize wV r k = u at l2 ⊢
      simp only [Int.add_mul]
      have e3 : (r (k + 1)).toInt * 65536 * P = (r (k + 1)).toInt * (P * 65536) := by rw [Int.mul_assoc, Int.mul_comm P]
      have e5 : (r (k + 2)).toInt * 65536 * 65536 * P = (r (k + 2)).toInt * (P * 65536 * 65536) := by rw [Int.mul_assoc, Int.mul_assoc, Int.mul_comm P, Int.mul_assoc, Int.mul_comm P]
      rw [e3, e5]
      clear h hb hr
      omega
/-- what a division holds between two figures: figures from K on are found -/
def wDv (Va Vb : Int) (a : Nat → Int32) (K : Nat) (r q : Nat → Int32) : Prop := wO r 264 ∧ wO q 264 ∧ (∀ t, t < K → q t = 0) ∧ wE (wV q 264 * Vb + (wV r 264 * 65536 ^ K + wV a K)) Va ∧ wL (wV r 264) Vb
/-- and within one -/
def wDw (Va Vb : Int) (a : Nat → Int32) (K : Nat) (r q : Nat → Int32) : Prop := wO r 264 ∧ wO q 264 ∧ (∀ t, t < K → q t = 0) ∧ wE (wV q 264 * Vb + (wV r 264 * 65536 ^ K + wV a K)) Va ∧ wL ((q K).toInt * Vb + wV r 264) (65536 * Vb)
theorem w_dwId {q s B r P v : Int} : (q + s * P) * B + ((r - s * B) * P + v) = q * B + (r * P + v) := by
  rw [Int.add_mul, Int.sub_mul]
  have : s * P * B = s * B * P := by rw [Int.mul_assoc, Int.mul_comm P, ← Int.mul_assoc]
  omega
theorem w_fuel {r s B n : Int} (h : r < (n + 1) * B) (hs : 1 ≤ s) (hB : 0 < B) : r - s * B < n * B := by
  have h1 := Int.mul_le_mul_of_nonneg_right hs (Int.le_of_lt hB)
  rw [Int.add_mul] at h
  omega
theorem w_dLt {d B r s : Int} (h : d * B + r < 65536 * B) (hr : s * B ≤ r) (hB : 0 < B) : d + s < 65536 := by
  by_cases c : d + s < 65536
  · exact c
  · have h1 := Int.mul_le_mul_of_nonneg_right (show 65536 ≤ d + s by omega) (Int.le_of_lt hB)
    rw [Int.add_mul] at h1
    omega
theorem w_divL155 {N2 : Int32} {N3 : Int32} {t0_0 : Int32} {t0_1 : Int32} {t0_2 : Int32} {t0_3 : Int32} {t0_4 : Int32} {t0_5 : Int32} {t0_6 : Int32} {t1_0 : Nat → Int32} {t2_0 : Nat → Int32} {t3_0 : Nat → Int32} {t4_0 : Nat → Int32} {a35 : Int32} {a28 : Int32} {f49 : Nat → Int32} {f42 : Nat → Int32} {lx54 : Int32} {lx70 : Int32} {lx71 : Nat → Int32} {lx92 : Int32} {lx93 : Nat → Int32} {lx94 : Nat → Int32} {lx113 : Int32} {lx114 : Nat → Int32} {j147 : Int64} {f136 : Nat → Int32} {lx149 : Int32} {j164 : Int64} {KF47 : Int32 → (Nat → Int32) → ((Nat → Int32) × (Nat → Int32))} {KS47 : Int32 → (Nat → Int32) → Prop} {KF79 : Int32 → (Nat → Int32) → (Nat → Int32) → ((Nat → Int32) × (Nat → Int32))} {KS79 : Int32 → (Nat → Int32) → (Nat → Int32) → Prop} {KF88 : Int32 → (Nat → Int32) → ((Nat → Int32) × (Nat → Int32))} {KS88 : Int32 → (Nat → Int32) → Prop} {Q : ((Nat → Int32) × (Nat → Int32)) → Prop} {Va : Int} {m K : Nat} (hN3 : N3 = 264) (hm : a35.toInt = m) (m1 : 1 ≤ m) (m2 : m ≤ 263) (hk : lx92.toInt = K) (k2 : K ≤ 263) (hb : wO t4_0 264) (sB : wS 264 t4_0 a35) (hh : j164.toInt = wHd t4_0 m)
    (hK : ∀ r q : Nat → Int32, wDv Va (wV t4_0 264) t3_0 K r q → KS79 (lx92 + (-1)) r q ∧ Q (KF79 (lx92 + (-1)) r q)) :
    ∀ (n : Nat) (r q : Nat → Int32), wL (wV r 264) (n * wV t4_0 264) → wDw Va (wV t4_0 264) t3_0 K r q → S_WR_divideRows_L155 KS47 KS79 KS88 N2 N3 t0_0 t0_1 t0_2 t0_3 t0_4 t0_5 t0_6 t1_0 t2_0 t3_0 t4_0 a35 a28 f49 f42 lx54 lx70 lx71 lx92 lx93 lx94 lx113 lx114 j147 f136 lx149 j164 n r q ∧ Q (F_WR_divideRows_L155 KF47 KF79 KF88 N2 N3 t0_0 t0_1 t0_2 t0_3 t0_4 t0_5 t0_6 t1_0 t2_0 t3_0 t4_0 a35 a28 f49 f42 lx54 lx70 lx71 lx92 lx93 lx94 lx113 lx114 j147 f136 lx149 j164 n r q) := by
  subst hN3
  have e264 : (264 : Int32).toInt = 264 := rfl
  have n264 : (264 : Int32).toNatClampNeg = 264 := rfl
  have em : a35.toNatClampNeg = m := by have := q_clI (i := a35) hm (by omega); omega
  have ek : lx92.toNatClampNeg = K := by have := q_clI (i := lx92) hk (by omega); omega
  have e1 : (a35 - 1 : Int32).toInt = (m : Int) - 1 := q_subI (y := 1) hm (by decide) (by omega) (by omega)
  have em1 : (a35 - 1 : Int32).toNatClampNeg = m - 1 := by have := q_clI (i := a35 - 1) e1 (by omega); omega
  have vb := sB.val
  rw [n264, em] at vb
  have bg := sB.ge (by rw [n264]; exact hb) (by omega)
  rw [n264, em] at bg
  have bp : wL 0 (wV t4_0 264) := by show 0 < _; have := w_pos (m - 1); omega
  have bl : wL (wV t4_0 264) (65536 ^ m) := by
    show _ < _
    rw [vb]; exact w_lt (hb.mono (by omega))
  have hb1 : t4_0 (m - 1) ≠ 0 := by have := sB.2.2.2 (by omega); rw [em] at this; exact this
  have hbh : 1 ≤ (t4_0 (m - 1)).toInt := by
    have h1 := (hb (m - 1) (by omega)).1
    have h2 : (t4_0 (m - 1)).toInt ≠ 0 := fun e => hb1 (Int32.toInt_inj.mp (by rw [e]; rfl))
    omega
  have hdl : 65536 ≤ wHd t4_0 m ∧ wHd t4_0 m < 4294967296 := by
    unfold wHd
    have h1 := (hb (m - 1) (by omega)).2
    split
    · omega
    · have h2 := hb (m - 2) (by omega)
      omega
  have hd1 : (j164 + 1 : Int64).toInt = wHd t4_0 m + 1 := q_addL (y := 1) hh (by decide) (by omega) (by omega)
  clear vb bg
  intro n
  induction n with
  | zero =>
    intro r q hf hw
    have h1 : wV r 264 < 0 * wV t4_0 264 := hf
    have h2 := w_nn hw.1
    rw [Int.zero_mul] at h1
    exact absurd h1 (by omega)
  | succ n ih =>
    intro r q hf hw
    obtain ⟨or, oq, zq, hv, hl⟩ := hw
    have hc := R_cmp (N := 264) (M := 264) (f := r) (g := t4_0) (by decide) (by decide) or hb
    rw [S_WR_divideRows_L155.eq_2, F_WR_divideRows_L155.eq_2]
    refine v_owe hc.1 ?_
    have hc2 := hc.2
    rw [n264] at hc2
    generalize F_WR_compareRows 264 264 r t4_0 = cc at hc2 ⊢
    by_cases cz : cc < 0
    · rw [if_pos cz, if_pos cz]
      refine hK r q ⟨or, oq, zq, hv, ?_⟩
      rcases hc2 with ⟨h, -⟩ | ⟨h, -⟩ | ⟨-, h⟩
      · rw [h] at cz; exact absurd cz (by decide)
      · rw [h] at cz; exact absurd cz (by decide)
      · exact h
    · rw [if_neg cz, if_neg cz]
      have ge : wL (wV t4_0 264 - 1) (wV r 264) := by
        show _ < _
        rcases hc2 with ⟨-, h⟩ | ⟨-, h⟩ | ⟨h, -⟩
        · rw [h]; omega
        · omega
        · rw [h] at cz; exact absurd (by decide) cz
      refine v_cons (by omega) ?_
      -- the first limbs
      have rl : wV r 264 < 65536 ^ (m + 1) := by
        have h1 : _ < _ := hl
        have h2 := Int.mul_nonneg (oq K (by omega)).1 (w_nn hb)
        have h3 : wV t4_0 264 < 65536 ^ m := bl
        rw [w_pw]
        generalize (65536 : Int) ^ m = u1 at *
        generalize wV t4_0 264 = u2 at *
        generalize wV r 264 = u3 at *
        generalize (q K).toInt * u2 = u4 at *
        clear ih hK
        omega
      have rz := w_top or rl
      have rv : wV r 264 = wV r (m + 1) := w_zer (by omega) (fun i a b => rz i a b)
      have rm := or m (by omega)
      have rm1 := or (m - 1) (by omega)
      have u1 : ((r m).toInt64 <<< ((16 : Int32).toInt64 &&& 63)).toInt = (r m).toInt * 65536 := by
        have h := w_shl (x := (r m).toInt64) (by rw [q_i2l rfl]; exact rm.1) (by rw [q_i2l rfl]; omega)
        rw [q_i2l rfl] at h; exact h
      have u2 := w_orG (x := (r m).toInt64 <<< ((16 : Int32).toInt64 &&& 63)) (y := r (m - 1)) (by rw [u1]; omega) (by rw [u1]; omega) (by rw [u1]; omega) rm1
      rw [u1] at u2
      have u3 := w_shl (x := ((r m).toInt64 <<< ((16 : Int32).toInt64 &&& 63)) ||| (r (m - 1)).toInt64) (by rw [u2]; omega) (by rw [u2]; omega)
      rw [u2] at u3
      have hbm : wO t4_0 m := hb.mono (by omega)
      have hrm : wO r (m + 1) := or.mono (by omega)
      have bval : wV t4_0 264 = wV t4_0 m := by have := sB.val; rw [n264, em] at this; exact this
      -- one turn
      have turn : ∀ (s : Int64), 1 ≤ s.toInt → s.toInt ≤ 8589934592 → wL (s.toInt * wV t4_0 264 - 1) (wV r 264) → ∀ (j214 : Int64) (lx216 : Int32), S_WR_divideRows_J236 KS47 KS79 KS88 (S_WR_divideRows_L155 KS47 KS79 KS88 N2 264 t0_0 t0_1 t0_2 t0_3 t0_4 t0_5 t0_6 t1_0 t2_0 t3_0 t4_0 a35 a28 f49 f42 lx54 lx70 lx71 lx92 lx93 lx94 lx113 lx114 j147 f136 lx149 j164 n) N2 264 t0_0 t0_1 t0_2 t0_3 t0_4 t0_5 t0_6 t1_0 t2_0 t3_0 t4_0 a35 a28 f49 f42 lx54 lx70 lx71 lx92 lx93 lx94 lx113 lx114 j147 f136 lx149 j164 r q j214 lx216 s ∧ Q (F_WR_divideRows_J236 KF47 KF79 KF88 (F_WR_divideRows_L155 KF47 KF79 KF88 N2 264 t0_0 t0_1 t0_2 t0_3 t0_4 t0_5 t0_6 t1_0 t2_0 t3_0 t4_0 a35 a28 f49 f42 lx54 lx70 lx71 lx92 lx93 lx94 lx113 lx114 j147 f136 lx149 j164 n) N2 264 t0_0 t0_1 t0_2 t0_3 t0_4 t0_5 t0_6 t1_0 t2_0 t3_0 t4_0 a35 a28 f49 f42 lx54 lx70 lx71 lx92 lx93 lx94 lx113 lx114 j147 f136 lx149 j164 r q j214 lx216 s) := by
        intro s s1 s2 s3 j214 lx216
        have s3 : s.toInt * wV t4_0 264 - 1 < wV r 264 := s3
        have hj := R_join (N := 264) (M := 264) (s := a35) (y := s) (x5 := 1) (f := r) (g := t4_0) (σ := -1) (by rw [if_neg (by decide)]) (by decide) (by decide) (by omega) (by omega) (by omega) (by rw [em]; exact hbm) ⟨by omega, s2⟩ or
        rw [n264, em, ← bval] at hj
        unfold S_WR_divideRows_J236 F_WR_divideRows_J236
        refine v_owe hj.1 ?_
        refine v_cons (by omega) ?_
        have hj2 := hj.2
        generalize F_WR_join 264 264 a35 s 1 r t4_0 = r' at hj2 ⊢
        have bp' : 0 < wV t4_0 264 := bp
        have sB0 := Int.mul_nonneg (show 0 ≤ s.toInt by omega) (Int.le_of_lt bp')
        have rl' : wV r 264 < 65536 ^ 264 := w_lt or
        have jv := hj2.val (by rw [Int.neg_mul, Int.one_mul]; omega) (by rw [Int.neg_mul, Int.one_mul]; omega)
        have jv : wV r' 264 = wV r 264 - s.toInt * wV t4_0 264 := by rw [jv, Int.neg_mul, Int.one_mul]; rfl
        have dl : (q K).toInt + s.toInt < 65536 := w_dLt (B := wV t4_0 264) (r := wV r 264) hl (by omega) bp'
        have qk := oq K (by omega)
        have es : s.toInt32.toInt = s.toInt := s_l2i (by clear jv; omega) (by clear jv; omega)
        have eq : ((q K) + s.toInt32 : Int32).toInt = (q K).toInt + s.toInt := q_addI rfl es (by clear jv; omega) (by clear jv; omega)
        rw [ek]
        refine ih r' (upd q K (q K + s.toInt32)) ?_ ⟨hj2.1, wO_upd oq (by rw [eq]; clear jv; omega), fun t ht => by rw [v_ne (by omega)]; exact zq t ht, ?_, ?_⟩
        · show _ < _
          rw [jv]
          refine w_fuel ?_ s1 bp'
          have hf : _ < _ := hf
          rw [← Int.natCast_succ]
          exact hf
        · show _ = _
          have hv : _ = _ := hv
          rw [jv, w_upd (by omega), eq, ← hv]
          have e9 : (q K).toInt + s.toInt - (q K).toInt = s.toInt := by omega
          rw [e9]
          exact w_dwId
        · show _ < _
          have hl : _ < _ := hl
          rw [jv, v_eq, eq, Int.add_mul]
          omega
      have top : ∀ (j214 : Int64) (lx216 : Int32), j214.toInt = ((r m).toInt * 65536 + (r (m - 1)).toInt) * 65536 → lx216.toInt = (if m ≤ 1 then 0 else (r (m - 2)).toInt) → S_WR_divideRows_J210 KS47 KS79 KS88 (S_WR_divideRows_L155 KS47 KS79 KS88 N2 264 t0_0 t0_1 t0_2 t0_3 t0_4 t0_5 t0_6 t1_0 t2_0 t3_0 t4_0 a35 a28 f49 f42 lx54 lx70 lx71 lx92 lx93 lx94 lx113 lx114 j147 f136 lx149 j164 n) N2 264 t0_0 t0_1 t0_2 t0_3 t0_4 t0_5 t0_6 t1_0 t2_0 t3_0 t4_0 a35 a28 f49 f42 lx54 lx70 lx71 lx92 lx93 lx94 lx113 lx114 j147 f136 lx149 j164 r q j214 lx216 ∧ Q (F_WR_divideRows_J210 KF47 KF79 KF88 (F_WR_divideRows_L155 KF47 KF79 KF88 N2 264 t0_0 t0_1 t0_2 t0_3 t0_4 t0_5 t0_6 t1_0 t2_0 t3_0 t4_0 a35 a28 f49 f42 lx54 lx70 lx71 lx92 lx93 lx94 lx113 lx114 j147 f136 lx149 j164 n) N2 264 t0_0 t0_1 t0_2 t0_3 t0_4 t0_5 t0_6 t1_0 t2_0 t3_0 t4_0 a35 a28 f49 f42 lx54 lx70 lx71 lx92 lx93 lx94 lx113 lx114 j147 f136 lx149 j164 r q j214 lx216) := by
        intro j214 lx216 hj hx
        unfold S_WR_divideRows_J210 F_WR_divideRows_J210
        refine v_cons (by rw [hd1]; omega) ?_
        have lxb : 0 ≤ lx216.toInt ∧ lx216.toInt < 65536 := by
          rw [hx]
          split
          · omega
          · exact or (m - 2) (by omega)
        have tv := w_orG (x := j214) (y := lx216) (by rw [hj]; omega) (by rw [hj]; omega) (by rw [hj]; omega) lxb
        have tv : (j214 ||| lx216.toInt64).toInt = wTp r m := by rw [tv, hj, hx]; rfl
        have tb : 0 ≤ wTp r m ∧ wTp r m < 281474976710656 := by
          have : wTp r m = ((r m).toInt * 65536 + (r (m - 1)).toInt) * 65536 + lx216.toInt := by rw [hx]; rfl
          omega
        have dv := w_divL (a := j214 ||| lx216.toInt64) (b := j164 + 1) (by rw [tv]; exact tb.1) hd1 (by omega)
        rw [tv] at dv
        generalize ((j214 ||| lx216.toInt64) / (j164 + 1) : Int64) = s at dv ⊢
        have d1 := Int.mul_ediv_self_le (x := wTp r m) (k := wHd t4_0 m + 1) (by omega)
        have d3 : 0 ≤ wTp r m / (wHd t4_0 m + 1) := Int.ediv_nonneg tb.1 (by omega)
        have d4 : wTp r m / (wHd t4_0 m + 1) < 8589934592 := Int.ediv_lt_of_lt_mul (by omega) (by omega)
        rw [← dv] at d1 d3 d4
        by_cases c : (0 : Int32) ≤ lg_cmp s 1
        · rw [if_pos c, if_pos c]
          have c2 : 1 ≤ s.toInt := by
            have h1 := q_leI c
            have h2 := s_lcmp (a := s) (b := 1)
            have e0 : (0 : Int32).toInt = 0 := rfl
            have e9 : (1 : Int64).toInt = 1 := rfl
            omega
          refine turn s c2 (by omega) ?_ j214 lx216
          have := w_est (s := s.toInt) m1 hbm hrm d3 (by rw [Int.mul_comm]; exact d1)
          rw [← bval, ← rv] at this
          show _ < _
          clear rl rz rv bval d1 d3 d4
          omega
        · rw [if_neg c, if_neg c]
          refine turn 1 (by decide) (by decide) ?_ j214 lx216
          show 1 * wV t4_0 264 - 1 < _
          rw [Int.one_mul]
          exact ge
      rw [em, em1]
      by_cases c : a35 ≤ 1
      · rw [if_pos c, if_pos c]
        have c2 := q_leI c
        have e9 : (1 : Int32).toInt = 1 := rfl
        refine top _ _ u3 ?_
        rw [if_pos (by omega)]
        rfl
      · rw [if_neg c, if_neg c]
        have c2 := q_nleI c
        have e9 : (1 : Int32).toInt = 1 := rfl
        have e2 : (a35 - 2 : Int32).toInt = (m : Int) - 2 := q_subI (y := 2) hm (by decide) (by omega) (by omega)
        have em2 : (a35 - 2 : Int32).toNatClampNeg = m - 2 := by have := q_clI (i := a35 - 2) e2 (by omega); omega
        rw [em2]
        refine top _ _ u3 ?_
        rw [if_neg (by omega)]

/-! the reference's rows: division, its outer loops -/
theorem w_shN {Vb R B a : Int} (h : R < Vb) (ha : a < 65536) : a + 65536 * R < 65536 * Vb := by omega
theorem w_dvStep {q Vb r P v a : Int} : q * Vb + ((a + 65536 * r) * P + v) = q * Vb + (r * (P * 65536) + (v + a * P)) := by
  have e : 65536 * r * P = r * (P * 65536) := by rw [Int.mul_comm 65536 r, Int.mul_assoc, Int.mul_comm 65536 P]
  rw [Int.add_mul, e]
  omega
theorem w_divL88 {N2 : Int32} {N3 : Int32} {t0_0 : Int32} {t0_1 : Int32} {t0_2 : Int32} {t0_3 : Int32} {t0_4 : Int32} {t0_5 : Int32} {t0_6 : Int32} {t1_0 : Nat → Int32} {t2_0 : Nat → Int32} {t3_0 : Nat → Int32} {t4_0 : Nat → Int32} {a35 : Int32} {a28 : Int32} {f49 : Nat → Int32} {f42 : Nat → Int32} {lx54 : Int32} {lx70 : Int32} {lx71 : Nat → Int32} {lx92 : Int32} {lx93 : Nat → Int32} {lx94 : Nat → Int32} {KF47 : Int32 → (Nat → Int32) → ((Nat → Int32) × (Nat → Int32))} {KS47 : Int32 → (Nat → Int32) → Prop} {KF79 : Int32 → (Nat → Int32) → (Nat → Int32) → ((Nat → Int32) × (Nat → Int32))} {KS79 : Int32 → (Nat → Int32) → (Nat → Int32) → Prop} {Q : ((Nat → Int32) × (Nat → Int32)) → Prop} {Va : Int} {m K : Nat} {r0 : Nat → Int32} (hN3 : N3 = 264) (hN2 : N2.toInt ≤ 264) (hm : a35.toInt = m) (m1 : 1 ≤ m) (m2 : m ≤ 263) (hk : lx92.toInt = K) (k2 : (K : Int) < N2.toInt) (hb : wO t4_0 264) (sB : wS 264 t4_0 a35) (ha : 0 ≤ (t3_0 K).toInt ∧ (t3_0 K).toInt < 65536)
    (h0 : wDv Va (wV t4_0 264) t3_0 (K + 1) r0 lx94)
    (hK : ∀ r q : Nat → Int32, wDv Va (wV t4_0 264) t3_0 K r q → KS79 (lx92 + (-1)) r q ∧ Q (KF79 (lx92 + (-1)) r q)) :
    ∀ (n : Nat) (j : Int32) (r : Nat → Int32), 0 ≤ j.toInt → j.toInt ≤ m → j.toInt < n → (∀ t : Nat, (t : Int) ≤ j.toInt → r t = r0 t) → (∀ t : Nat, j.toInt < t → t ≤ m → r t = r0 (t - 1)) → (∀ t : Nat, m < t → t < 264 → r t = 0) →
      S_WR_divideRows_L88 KS47 KS79 N2 N3 t0_0 t0_1 t0_2 t0_3 t0_4 t0_5 t0_6 t1_0 t2_0 t3_0 t4_0 a35 a28 f49 f42 lx54 lx70 lx71 lx92 lx93 lx94 n j r ∧ Q (F_WR_divideRows_L88 KF47 KF79 N2 N3 t0_0 t0_1 t0_2 t0_3 t0_4 t0_5 t0_6 t1_0 t2_0 t3_0 t4_0 a35 a28 f49 f42 lx54 lx70 lx71 lx92 lx93 lx94 n j r) := by
  have ek : lx92.toNatClampNeg = K := by have := q_clI (i := lx92) hk (by omega); omega
  have e1 : (a35 - 1 : Int32).toInt = (m : Int) - 1 := q_subI (y := 1) hm (by decide) (by omega) (by omega)
  have em1 : (a35 - 1 : Int32).toNatClampNeg = m - 1 := by have := q_clI (i := a35 - 1) e1 (by omega); omega
  have e0 : (0 : Int32).toInt = 0 := rfl
  have n0 : (0 : Int32).toNatClampNeg = 0 := rfl
  intro n
  induction n with
  | zero => intro j r j0 j1 j2 h1 h2 h3; omega
  | succ n ih =>
    intro j r j0 j1 j2 h1 h2 h3
    rw [S_WR_divideRows_L88.eq_2, F_WR_divideRows_L88.eq_2]
    by_cases c : j ≤ 0
    · rw [if_pos c, if_pos c]
      have c2 := q_leI c
      refine v_cons (by rw [hk]; omega) ?_
      refine v_cons (by omega) ?_
      obtain ⟨or, oq, zq, hv, hl⟩ := h0
      have bl : wV t4_0 264 < 65536 ^ m := by
        have h := sB.lt hb
        have em : a35.toNatClampNeg = m := by have := q_clI (i := a35) hm (by omega); omega
        rw [em] at h
        exact h
      have rz := w_top or (show wV r0 264 < 65536 ^ m from Int.lt_trans hl bl)
      have r0v : wV r0 264 = wV r0 m := w_zer (by omega) (fun i a b => rz i a b)
      rw [ek, n0, em1]
      obtain ⟨r1, er1⟩ := q_nm (upd r 0 (t3_0 K))
      have r10 : r1 0 = t3_0 K := by rw [← er1, v_eq]
      have r1s : ∀ t : Nat, 0 < t → r1 t = r t := fun t ht => by rw [← er1, v_ne (by omega)]
      rw [er1]
      have r1o : wO r1 264 := fun t ht => by
        by_cases e : t = 0
        · rw [e, r10]; exact ha
        · rw [r1s t (by omega)]
          by_cases e2 : t ≤ m
          · rw [h2 t (by omega) e2]; exact or (t - 1) (by omega)
          · rw [h3 t (by omega) ht]; exact ⟨by decide, by decide⟩
      have r1v : wV r1 264 = (t3_0 K).toInt + 65536 * wV r0 264 := by
        have h4 : wV r1 264 = wV r1 (m + 1) := w_zer (by omega) (fun i a b => by rw [r1s i (by omega)]; exact h3 i (by omega) b)
        rw [h4, w_up (f := r0) (fun t ht => by rw [r1s (t + 1) (by omega), h2 (t + 1) (by omega) (by omega)]; rfl), r10, r0v]
      have hw : wDw Va (wV t4_0 264) t3_0 K r1 lx94 := by
        refine ⟨r1o, oq, fun t ht => zq t (by omega), ?_, ?_⟩
        · show _ = _
          have hv : _ = _ := hv
          rw [← hv, r1v, w_pw]
          show _ = _ + (_ + (wV t3_0 K + (t3_0 K).toInt * 65536 ^ K))
          exact w_dvStep
        · show _ < _
          have hl : _ < _ := hl
          rw [zq K (by omega), r1v, e0, Int.zero_mul, Int.zero_add]
          exact w_shN (B := 0) hl ha.2
      have fu : wL (wV r1 264) ((1000000 : Nat) * wV t4_0 264) := by
        have hl : _ < _ := hl
        have h5 := w_nn hb
        show _ < _
        rw [r1v]
        generalize wV r0 264 = u1 at *
        generalize wV t4_0 264 = u2 at *
        clear ih hK
        omega
      have hbm := hb (m - 1) (by omega)
      have b1 : ((t4_0 (m - 1)).toInt64 <<< ((16 : Int32).toInt64 &&& 63)).toInt = (t4_0 (m - 1)).toInt * 65536 := by
        have h := w_shl (x := (t4_0 (m - 1)).toInt64) (by rw [q_i2l rfl]; exact hbm.1) (by rw [q_i2l rfl]; omega)
        rw [q_i2l rfl] at h; exact h
      have goJ : ∀ (lx149 : Int32), lx149.toInt = (if m ≤ 1 then 0 else (t4_0 (m - 2)).toInt) → S_WR_divideRows_J151 KS47 KS79 (S_WR_divideRows_L88 KS47 KS79 N2 N3 t0_0 t0_1 t0_2 t0_3 t0_4 t0_5 t0_6 t1_0 t2_0 t3_0 t4_0 a35 a28 f49 f42 lx54 lx70 lx71 lx92 lx93 lx94 n) N2 N3 t0_0 t0_1 t0_2 t0_3 t0_4 t0_5 t0_6 t1_0 t2_0 t3_0 t4_0 a35 a28 f49 f42 lx54 lx70 lx71 lx92 lx93 lx94 j r ((t4_0 (m - 1)).toInt64 <<< ((16 : Int32).toInt64 &&& 63)) r1 lx149 ∧ Q (F_WR_divideRows_J151 KF47 KF79 (F_WR_divideRows_L88 KF47 KF79 N2 N3 t0_0 t0_1 t0_2 t0_3 t0_4 t0_5 t0_6 t1_0 t2_0 t3_0 t4_0 a35 a28 f49 f42 lx54 lx70 lx71 lx92 lx93 lx94 n) N2 N3 t0_0 t0_1 t0_2 t0_3 t0_4 t0_5 t0_6 t1_0 t2_0 t3_0 t4_0 a35 a28 f49 f42 lx54 lx70 lx71 lx92 lx93 lx94 j r ((t4_0 (m - 1)).toInt64 <<< ((16 : Int32).toInt64 &&& 63)) r1 lx149) := by
        intro lx149 hx
        unfold S_WR_divideRows_J151 F_WR_divideRows_J151
        have lxb : 0 ≤ lx149.toInt ∧ lx149.toInt < 65536 := by
          rw [hx]
          split
          · omega
          · exact hb (m - 2) (by omega)
        have hv := w_orG (x := (t4_0 (m - 1)).toInt64 <<< ((16 : Int32).toInt64 &&& 63)) (y := lx149) (by rw [b1]; omega) (by rw [b1]; omega) (by rw [b1]; omega) lxb
        rw [b1, hx] at hv
        exact w_divL155 hN3 hm m1 m2 hk (by omega) hb sB hv hK 1000000 r1 lx94 fu hw
      by_cases c3 : a35 ≤ 1
      · rw [if_pos c3, if_pos c3]
        have c4 := q_leI c3
        have e9 : (1 : Int32).toInt = 1 := rfl
        refine goJ 0 ?_
        rw [if_pos (by omega)]
        rfl
      · rw [if_neg c3, if_neg c3]
        have c4 := q_nleI c3
        have e9 : (1 : Int32).toInt = 1 := rfl
        have e2 : (a35 - 2 : Int32).toInt = (m : Int) - 2 := q_subI (y := 2) hm (by decide) (by omega) (by omega)
        have em2 : (a35 - 2 : Int32).toNatClampNeg = m - 2 := by have := q_clI (i := a35 - 2) e2 (by omega); omega
        rw [em2]
        refine goJ _ ?_
        rw [if_neg (by omega)]
    · rw [if_neg c, if_neg c]
      have c2 := q_nleI c
      have f1 : (j - 1 : Int32).toInt = j.toInt - 1 := q_subI (y := 1) rfl (by decide) (by omega) (by omega)
      have fj := q_clI (i := j) rfl j0
      obtain ⟨j', ej'⟩ := q_nm (j - 1)
      rw [ej'] at f1 ⊢
      have fj1 : j'.toNatClampNeg = j.toNatClampNeg - 1 := by have := q_clI (i := j') f1 (by omega); omega
      have f2 : (j + (-1) : Int32).toInt = j.toInt + (-1) := q_addI (y := -1) rfl (by decide) (by omega) (by omega)
      obtain ⟨j2, ej2⟩ := q_nm (j + (-1))
      rw [ej2] at f2 ⊢
      refine v_cons (by omega) ?_
      refine v_cons (by omega) ?_
      rw [fj1]
      refine ih _ _ (by omega) (by omega) (by omega) (fun t ht => ?_) (fun t t1 t2 => ?_) (fun t t1 t2 => ?_)
      · rw [v_ne (by omega)]; exact h1 t (by omega)
      · by_cases e : t = j.toNatClampNeg
        · rw [e, v_eq]; exact h1 _ (by omega)
        · rw [v_ne e]; exact h2 t (by omega) t2
      · rw [v_ne (by omega)]; exact h3 t t1 t2
def wDq (Va Vb : Int) (p : (Nat → Int32) × (Nat → Int32)) : Prop := wO p.1 264 ∧ wO p.2 264 ∧ wE (wV p.2 264 * Vb + wV p.1 264) Va ∧ wL (wV p.1 264) Vb
theorem w_divL79 {N2 : Int32} {N3 : Int32} {t0_0 : Int32} {t0_1 : Int32} {t0_2 : Int32} {t0_3 : Int32} {t0_4 : Int32} {t0_5 : Int32} {t0_6 : Int32} {t1_0 : Nat → Int32} {t2_0 : Nat → Int32} {t3_0 : Nat → Int32} {t4_0 : Nat → Int32} {a35 : Int32} {a28 : Int32} {f49 : Nat → Int32} {f42 : Nat → Int32} {lx54 : Int32} {lx70 : Int32} {lx71 : Nat → Int32} {KF47 : Int32 → (Nat → Int32) → ((Nat → Int32) × (Nat → Int32))} {KS47 : Int32 → (Nat → Int32) → Prop} {Va : Int} {m : Nat} (hN3 : N3 = 264) (hN2 : N2.toInt ≤ 264) (hm : a35.toInt = m) (m1 : 1 ≤ m) (m2 : m ≤ 263) (hb : wO t4_0 264) (sB : wS 264 t4_0 a35) (ha : wO t3_0 N2.toNatClampNeg) :
    ∀ (n K : Nat) (k : Int32) (r q : Nat → Int32), (K : Int) = k.toInt + 1 → k.toInt < N2.toInt → K < n → wDv Va (wV t4_0 264) t3_0 K r q → S_WR_divideRows_L79 KS47 N2 N3 t0_0 t0_1 t0_2 t0_3 t0_4 t0_5 t0_6 t1_0 t2_0 t3_0 t4_0 a35 a28 f49 f42 lx54 lx70 lx71 n k r q ∧ wDq Va (wV t4_0 264) (F_WR_divideRows_L79 KF47 N2 N3 t0_0 t0_1 t0_2 t0_3 t0_4 t0_5 t0_6 t1_0 t2_0 t3_0 t4_0 a35 a28 f49 f42 lx54 lx70 lx71 n k r q) := by
  have e0 : (0 : Int32).toInt = 0 := rfl
  intro n
  induction n with
  | zero => intro K k r q k0 k1 k2 hw; omega
  | succ n ih =>
    intro K k r q k0 k1 k2 hw
    rw [S_WR_divideRows_L79.eq_2, F_WR_divideRows_L79.eq_2]
    by_cases c : k < 0
    · rw [if_pos c, if_pos c]
      have c2 := q_ltI c
      have : K = 0 := by omega
      subst this
      obtain ⟨or, oq, zq, hv, hl⟩ := hw
      refine ⟨trivial, or, oq, ?_, hl⟩
      have hv : _ = _ := hv
      have h0 : wV t3_0 0 = 0 := rfl
      rw [Int.pow_zero, h0, Int.mul_one, Int.add_zero] at hv
      exact hv
    · rw [if_neg c, if_neg c]
      have c2 := q_nltI c
      obtain ⟨J, rfl⟩ : ∃ J, K = J + 1 := ⟨K - 1, by omega⟩
      have eN := q_clI (i := N2) rfl (by omega)
      have f2 : (k + (-1) : Int32).toInt = k.toInt + (-1) := q_addI (y := -1) rfl (by decide) (by omega) (by omega)
      have rz : ∀ t : Nat, m < t → t < 264 → r t = 0 := fun t t1 t2 => by
        have bl : wV t4_0 264 < 65536 ^ m := by
          have h := sB.lt hb
          have em : a35.toNatClampNeg = m := by have := q_clI (i := a35) hm (by omega); omega
          rw [em] at h
          exact h
        exact w_top hw.1 (show wV r 264 < 65536 ^ m from Int.lt_trans hw.2.2.2.2 bl) t (by omega) t2
      exact w_divL88 (r0 := r) hN3 hN2 hm m1 m2 (K := J) (by omega) (by omega) hb sB (ha J (by omega)) hw (fun r' q' h => ih J (k + (-1)) r' q' (by omega) (by omega) (by omega) h) ((a35.toInt - (-1)).toNat + 1) a35 r (by omega) (by omega) (by omega) (fun t _ => rfl) (fun t t1 t2 => by omega) rz
theorem w_divL47 {N2 : Int32} {N3 : Int32} {t0_0 : Int32} {t0_1 : Int32} {t0_2 : Int32} {t0_3 : Int32} {t0_4 : Int32} {t0_5 : Int32} {t0_6 : Int32} {t1_0 : Nat → Int32} {t2_0 : Nat → Int32} {t3_0 : Nat → Int32} {t4_0 : Nat → Int32} {a35 : Int32} {a28 : Int32} {f49 : Nat → Int32} {f42 : Nat → Int32} {lx54 : Int32} {m : Nat} {K : Nat} {k0 : Nat} (hN3 : N3 = 264) (hN2 : N2.toInt ≤ 264) (hm : a35.toInt = m) (m1 : 1 ≤ m) (m2 : m ≤ 263) (hb : wO t4_0 264) (sB : wS 264 t4_0 a35) (ha : wO t3_0 N2.toNatClampNeg) (sA : wS N2 t3_0 a28) (hf : lx54.toInt = K) (hfn : a28.toInt - lx54.toInt ≤ m - 1) (hfz : lx54.toInt ≤ a28.toInt) (zf : ∀ t, t < 264 → f42 t = 0) :
    ∀ (n : Nat) (k : Int32) (r : Nat → Int32), lx54.toInt ≤ k.toInt → k.toInt ≤ a28.toInt → a28.toInt - k.toInt < n → wO r 264 → (∀ t : Nat, k.toInt - lx54.toInt ≤ t → t < 264 → r t = 0) → wE (wV r 264 * 65536 ^ K + wV t3_0 K) (wV t3_0 k.toNatClampNeg) → S_WR_divideRows_L47 N2 N3 t0_0 t0_1 t0_2 t0_3 t0_4 t0_5 t0_6 t1_0 t2_0 t3_0 t4_0 a35 a28 f49 f42 lx54 n k r ∧ wDq (wV t3_0 N2.toNatClampNeg) (wV t4_0 264) (F_WR_divideRows_L47 N2 N3 t0_0 t0_1 t0_2 t0_3 t0_4 t0_5 t0_6 t1_0 t2_0 t3_0 t4_0 a35 a28 f49 f42 lx54 n k r) := by
  have e0 : (0 : Int32).toInt = 0 := rfl
  have sn := sA.1
  have sN := sA.2.1
  have eN := q_clI (i := N2) rfl (by omega)
  have en := q_clI (i := a28) rfl sn
  intro n
  induction n with
  | zero => intro k r h1 h2 h3 or rz hv; omega
  | succ n ih =>
    intro k r h1 h2 h3 or rz hv
    have ek := q_clI (i := k) rfl (by omega)
    rw [S_WR_divideRows_L47.eq_2, F_WR_divideRows_L47.eq_2]
    by_cases c : a28 ≤ k
    · rw [if_pos c, if_pos c]
      have c2 := q_leI c
      have ekn : k.toNatClampNeg = a28.toNatClampNeg := by omega
      have f1 : (lx54 - 1 : Int32).toInt = lx54.toInt - 1 := q_subI (y := 1) rfl (by decide) (by omega) (by omega)
      refine w_divL79 hN3 hN2 hm m1 m2 hb sB ha _ K (lx54 - 1) r f42 (by omega) (by omega) (by omega) ⟨or, fun t ht => by rw [zf t ht]; exact ⟨by decide, by decide⟩, fun t ht => zf t (by omega), ?_, ?_⟩
      · show _ = _
        have hv : _ = _ := hv
        rw [w_zer (f := f42) (k := 0) (n := 264) (by omega) (fun i _ h => zf i h), hv, ekn, sA.val]
        show 0 * _ + _ = _
        rw [Int.zero_mul, Int.zero_add]
      · show _ < _
        have bg := sB.ge hb (by omega)
        have em : a35.toNatClampNeg = m := by have := q_clI (i := a35) hm (by omega); omega
        rw [em] at bg
        have r1 : wV r 264 = wV r (m - 1) := w_zer (by omega) (fun i a b => rz i (by omega) b)
        have r2 := w_lt (or.mono (show m - 1 ≤ 264 by omega))
        rw [r1]
        exact Int.lt_of_lt_of_le r2 bg
    · rw [if_neg c, if_neg c]
      have c2 := q_nleI c
      have f1 : (k - lx54 : Int32).toInt = k.toInt - lx54.toInt := q_subI rfl rfl (by omega) (by omega)
      have fk := q_clI (i := k - lx54) f1 (by omega)
      have f2 : (k + 1 : Int32).toInt = k.toInt + 1 := q_addI (y := 1) rfl (by decide) (by omega) (by omega)
      have fk1 := q_clI (i := k + 1) f2 (by omega)
      have fkk : (k + 1 : Int32).toNatClampNeg = k.toNatClampNeg + 1 := by omega
      refine v_cons (by omega) ?_
      obtain ⟨d, ed⟩ : ∃ d, (k - lx54 : Int32).toNatClampNeg = d := ⟨_, rfl⟩
      rw [ed] at fk ⊢
      have hkd : k.toNatClampNeg = d + K := by omega
      refine ih _ _ (by omega) (by omega) (by omega) (wO_upd or (ha _ (by omega))) (fun t t1 t2 => by rw [v_ne (by omega)]; exact rz t (by omega) t2) ?_
      show _ = _
      have hv : _ = _ := hv
      rw [fkk, w_upd (by omega), rz d (by omega) (by omega), e0, Int.sub_zero, Int.add_mul]
      show _ = wV t3_0 k.toNatClampNeg + (t3_0 k.toNatClampNeg).toInt * 65536 ^ k.toNatClampNeg
      rw [← hv, hkd, Int.pow_add, ← Int.mul_assoc]
      generalize wV r 264 * 65536 ^ K = u1
      generalize wV t3_0 K = u2
      generalize (t3_0 (d + K)).toInt * 65536 ^ d * 65536 ^ K = u3
      clear hv ih
      omega
/-- the division: what is left, and the quotient -/
theorem R_div {N2 : Int32} {N3 : Int32} {t0_0 : Int32} {t0_1 : Int32} {t0_2 : Int32} {t0_3 : Int32} {t0_4 : Int32} {t0_5 : Int32} {t0_6 : Int32} {t1_0 : Nat → Int32} {t2_0 : Nat → Int32} {t3_0 : Nat → Int32} {t4_0 : Nat → Int32} (hN3 : N3 = 264) (hN2 : 0 ≤ N2.toInt ∧ N2.toInt ≤ 264) (ha : wO t3_0 N2.toNatClampNeg) (hb : wO t4_0 264) (hb0 : wL 0 (wV t4_0 264)) (hb1 : wL (wV t4_0 264) (65536 ^ 263)) : S_WR_divideRows N2 N3 t0_0 t0_1 t0_2 t0_3 t0_4 t0_5 t0_6 t1_0 t2_0 t3_0 t4_0 ∧ wDq (wV t3_0 N2.toNatClampNeg) (wV t4_0 264) (F_WR_divideRows N2 N3 t0_0 t0_1 t0_2 t0_3 t0_4 t0_5 t0_6 t1_0 t2_0 t3_0 t4_0) := by
  subst hN3
  have e0 : (0 : Int32).toInt = 0 := rfl
  have e264 : (264 : Int32).toInt = 264 := rfl
  have sA := R_size (N := N2) (f := t3_0) hN2.1
  have sB := R_size (N := 264) (f := t4_0) (by decide)
  have c1 := R_clear (N := 264) (f := t1_0) (by decide) (by decide)
  have c2 := R_clear (N := 264) (f := t2_0) (by decide) (by decide)
  unfold S_WR_divideRows F_WR_divideRows
  generalize F_WR_size N2 t3_0 = a28 at sA ⊢
  generalize F_WR_size 264 t4_0 = a35 at sB ⊢
  generalize F_WR_clear 264 t1_0 = f49 at c1 ⊢
  generalize F_WR_clear 264 t2_0 = f42 at c2 ⊢
  have sA0 := sA.1
  have sA1 := sA.2.1
  have sB0 := sB.1
  have sB1 := sB.2.1
  have eb := q_clI (i := a35) rfl sB0
  have m1 : 1 ≤ a35.toInt := by
    by_cases h : 1 ≤ a35.toInt
    · exact h
    · have h1 := sB.lt hb
      have h2 : a35.toNatClampNeg = 0 := by omega
      rw [h2] at h1
      have h3 : 0 < wV t4_0 264 := hb0
      have h4 : wV t4_0 264 < 1 := h1
      exact absurd h4 (by omega)
  have m2 : a35.toInt ≤ 263 := by
    by_cases h : a35.toInt ≤ 263
    · exact h
    · have h1 := sB.ge hb (by omega)
      have h2 : a35.toNatClampNeg - 1 = 263 := by omega
      rw [h2] at h1
      have h3 : wV t4_0 264 < 65536 ^ 263 := hb1
      have h4 : (65536 : Int) ^ 263 ≤ wV t4_0 264 := h1
      exact absurd h3 (Int.not_lt.mpr h4)
  have zf : ∀ t : Nat, t < 264 → f42 t = 0 := fun t ht => c2 t (by omega)
  have go : ∀ lx54 : Int32, 0 ≤ lx54.toInt → lx54.toInt ≤ a28.toInt → a28.toInt - lx54.toInt ≤ a35.toInt - 1 → S_WR_divideRows_J41 N2 264 t0_0 t0_1 t0_2 t0_3 t0_4 t0_5 t0_6 t1_0 t2_0 t3_0 t4_0 a35 a28 f49 f42 lx54 ∧ wDq (wV t3_0 N2.toNatClampNeg) (wV t4_0 264) (F_WR_divideRows_J41 N2 264 t0_0 t0_1 t0_2 t0_3 t0_4 t0_5 t0_6 t1_0 t2_0 t3_0 t4_0 a35 a28 f49 f42 lx54) := by
    intro lx54 h1 h2 h3
    unfold S_WR_divideRows_J41 F_WR_divideRows_J41
    have el := q_clI (i := lx54) rfl h1
    refine w_divL47 (m := a35.toNatClampNeg) (K := lx54.toNatClampNeg) (k0 := 0) rfl hN2.2 (by omega) (by omega) (by omega) hb sB ha sA (by omega) (by omega) h2 zf ((20200 - lx54.toInt).toNat + 1) lx54 f49 (Int.le_refl _) h2 (by omega) (fun t ht => by rw [c1 t (by omega)]; exact ⟨by decide, by decide⟩) (fun t _ ht => c1 t (by omega)) ?_
    show _ = _
    rw [w_zer (f := f49) (k := 0) (n := 264) (by omega) (fun i _ h => c1 i (by omega))]
    show 0 * _ + _ = _
    rw [Int.zero_mul, Int.zero_add]
  by_cases c : a35 ≤ a28
  · rw [if_pos c, if_pos c]
    have c3 := q_leI c
    have f1 : (a28 - a35 : Int32).toInt = a28.toInt - a35.toInt := q_subI rfl rfl (by omega) (by omega)
    have f2 : (a28 - a35 + 1 : Int32).toInt = (a28.toInt - a35.toInt) + 1 := q_addI (y := 1) f1 (by decide) (by omega) (by omega)
    exact go _ (by omega) (by omega) (by omega)
  · rw [if_neg c, if_neg c]
    have c3 := q_nleI c
    exact go 0 (by decide) (by omega) (by omega)

/-! the reference's registers of whole numbers: take, isZero, store -/
def wVk (k : Nat → Int32) (x : Int32) : Int := wV (fun i => k (128 * x.toNatClampNeg + i)) 128
theorem w_ix {x k : Int32} (hx : 0 ≤ x.toInt ∧ x.toInt ≤ 10) (hk : 0 ≤ k.toInt ∧ k.toInt ≤ 128) : ((128 * x) + k : Int32).toInt = 128 * x.toInt + k.toInt ∧ ((128 * x) + k : Int32).toNatClampNeg = 128 * x.toNatClampNeg + k.toNatClampNeg := by
  have e1 : (128 * x : Int32).toInt = 128 * x.toInt := q_mulI (x := 128) (by decide) rfl (by omega) (by omega)
  have e2 : ((128 * x) + k : Int32).toInt = 128 * x.toInt + k.toInt := q_addI e1 rfl (by omega) (by omega)
  have e3 := q_clI (i := (128 * x) + k) e2 (by omega)
  have e4 := q_clI (i := x) rfl hx.1
  have e5 := q_clI (i := k) rfl hk.1
  exact ⟨e2, by omega⟩
theorem w_takeL {x2 N3 t0_0 t0_1 t0_2 t0_3 t0_4 t0_5 t0_6 : Int32} {t1_0 t2_0 : Nat → Int32} (hx : 0 ≤ x2.toInt ∧ x2.toInt ≤ 10) : ∀ (n : Nat) (k : Int32) (g : Nat → Int32), 0 ≤ k.toInt → k.toInt ≤ N3.toInt → N3.toInt - k.toInt < n → (∀ i : Nat, (i : Int) < k.toInt → g i = if i < 128 then t1_0 (128 * x2.toNatClampNeg + i) else 0) →
    S_WR_take_L2 x2 N3 t0_0 t0_1 t0_2 t0_3 t0_4 t0_5 t0_6 t1_0 t2_0 n k g ∧ ∀ i : Nat, (i : Int) < N3.toInt → F_WR_take_L2 x2 N3 t0_0 t0_1 t0_2 t0_3 t0_4 t0_5 t0_6 t1_0 t2_0 n k g i = if i < 128 then t1_0 (128 * x2.toNatClampNeg + i) else 0 := by
  intro n
  induction n with
  | zero => intro k g h0 hk h1 h2; omega
  | succ n ih =>
    intro k g h0 hk h1 h2
    rw [S_WR_take_L2.eq_2, F_WR_take_L2.eq_2]
    have hN := Int32.toInt_lt N3
    have e8 : (128 : Int32).toInt = 128 := rfl
    by_cases c : N3 ≤ k
    · rw [if_pos c, if_pos c]
      have := q_leI c
      exact ⟨trivial, fun i hi => h2 i (by omega)⟩
    · rw [if_neg c, if_neg c]
      have c2 := q_nleI c
      have e1 : (k + 1 : Int32).toInt = k.toInt + 1 := q_addI (y := 1) rfl (by decide) (by omega) (by omega)
      have ek := q_clI (i := k) rfl h0
      by_cases d : (128 : Int32) ≤ k
      · rw [if_pos d, if_pos d]
        have d2 := q_leI d
        refine ih _ _ (by omega) (by omega) (by omega) (fun j hj => ?_)
        by_cases e : j = k.toNatClampNeg
        · rw [e, v_eq, if_neg (by omega)]
        · rw [v_ne e]; exact h2 j (by omega)
      · rw [if_neg d, if_neg d]
        have d2 := q_nleI d
        obtain ⟨i1, i2⟩ := w_ix hx ⟨h0, by omega⟩
        refine v_cons (by omega) (v_cons (by omega) ?_)
        rw [i2]
        refine ih _ _ (by omega) (by omega) (by omega) (fun j hj => ?_)
        by_cases e : j = k.toNatClampNeg
        · rw [e, v_eq, if_pos (by omega)]
        · rw [v_ne e]; exact h2 j (by omega)
/-- a register in a row at work -/
def wK (v : Int) (r : Nat → Int32) : Prop := wO r 264 ∧ wE (wV r 264) v
theorem R_take {x2 t0_0 t0_1 t0_2 t0_3 t0_4 t0_5 t0_6 : Int32} {t1_0 t2_0 : Nat → Int32} (hx : 0 ≤ x2.toInt ∧ x2.toInt ≤ 10) (ho : wO t1_0 1408) : S_WR_take x2 264 t0_0 t0_1 t0_2 t0_3 t0_4 t0_5 t0_6 t1_0 t2_0 ∧ wK (wVk t1_0 x2) (F_WR_take x2 264 t0_0 t0_1 t0_2 t0_3 t0_4 t0_5 t0_6 t1_0 t2_0) := by
  have e0 : (0 : Int32).toInt = 0 := rfl
  have e264 : (264 : Int32).toInt = 264 := rfl
  unfold S_WR_take F_WR_take
  have ex := q_clI (i := x2) rfl hx.1
  obtain ⟨h1, h2⟩ := w_takeL (N3 := 264) (t0_0 := t0_0) (t0_1 := t0_1) (t0_2 := t0_2) (t0_3 := t0_3) (t0_4 := t0_4) (t0_5 := t0_5) (t0_6 := t0_6) (t1_0 := t1_0) (t2_0 := t2_0) hx ((20200 - (0 : Int32).toInt).toNat + 1) 0 t2_0 (by decide) (by decide) (by omega) (fun i hi => by omega)
  refine ⟨h1, fun i hi => ?_, ?_⟩
  · rw [h2 i (by omega)]
    split
    · exact ho _ (by omega)
    · exact ⟨by decide, by decide⟩
  · show _ = _
    rw [w_zer (k := 128) (n := 264) (by omega) (fun i a b => by rw [h2 i (by omega), if_neg (by omega)])]
    exact w_ext (fun i hi => by rw [h2 i (by omega), if_pos hi])
theorem wVk_nn {k : Nat → Int32} {x : Int32} (hx : 0 ≤ x.toInt ∧ x.toInt ≤ 10) (ho : wO k 1408) : 0 ≤ wVk k x ∧ wVk k x < 65536 ^ 128 := by
  have ex := q_clI (i := x) rfl hx.1
  have h : wO (fun i => k (128 * x.toNatClampNeg + i)) 128 := fun i hi => ho _ (by omega)
  exact ⟨w_nn h, w_lt h⟩
theorem w_isZL {x2 t0_0 t0_1 t0_2 t0_3 t0_4 t0_5 t0_6 : Int32} {t1_0 : Nat → Int32} (hx : 0 ≤ x2.toInt ∧ x2.toInt ≤ 10) : ∀ (n : Nat) (k b : Int32), 0 ≤ k.toInt → k.toInt ≤ 128 → 128 - k.toInt < n → ((b = 1 ∧ ∀ i : Nat, (i : Int) < k.toInt → t1_0 (128 * x2.toNatClampNeg + i) = 0) ∨ (b = 0 ∧ ∃ i : Nat, i < 128 ∧ t1_0 (128 * x2.toNatClampNeg + i) ≠ 0)) →
    S_WR_isZero_L4 x2 t0_0 t0_1 t0_2 t0_3 t0_4 t0_5 t0_6 t1_0 n k b ∧ ((F_WR_isZero_L4 x2 t0_0 t0_1 t0_2 t0_3 t0_4 t0_5 t0_6 t1_0 n k b = 1 ∧ ∀ i : Nat, i < 128 → t1_0 (128 * x2.toNatClampNeg + i) = 0) ∨ (F_WR_isZero_L4 x2 t0_0 t0_1 t0_2 t0_3 t0_4 t0_5 t0_6 t1_0 n k b = 0 ∧ ∃ i : Nat, i < 128 ∧ t1_0 (128 * x2.toNatClampNeg + i) ≠ 0)) := by
  intro n
  induction n with
  | zero => intro k b h0 hk h1 h2; omega
  | succ n ih =>
    intro k b h0 hk h1 h2
    rw [S_WR_isZero_L4.eq_2, F_WR_isZero_L4.eq_2]
    have e8 : (128 : Int32).toInt = 128 := rfl
    by_cases c : (128 : Int32) ≤ k
    · rw [if_pos c, if_pos c]
      have := q_leI c
      refine ⟨trivial, ?_⟩
      rcases h2 with ⟨a, h⟩ | ⟨a, h⟩
      · exact Or.inl ⟨a, fun i hi => h i (by omega)⟩
      · exact Or.inr ⟨a, h⟩
    · rw [if_neg c, if_neg c]
      have c2 := q_nleI c
      have e1 : (k + 1 : Int32).toInt = k.toInt + 1 := q_addI (y := 1) rfl (by decide) (by omega) (by omega)
      have ek := q_clI (i := k) rfl h0
      obtain ⟨i1, i2⟩ := w_ix hx ⟨h0, by omega⟩
      by_cases d : b = 0
      · rw [if_pos d, if_pos d]
        refine ih _ _ (by omega) (by omega) (by omega) (Or.inr ⟨rfl, ?_⟩)
        rcases h2 with ⟨a, -⟩ | ⟨-, h⟩
        · rw [d] at a; exact absurd a (by decide)
        · exact h
      · rw [if_neg d, if_neg d]
        refine v_cons (by omega) (v_cons (by omega) ?_)
        rw [i2]
        have hz : ∀ i : Nat, (i : Int) < k.toInt → t1_0 (128 * x2.toNatClampNeg + i) = 0 := by
          rcases h2 with ⟨-, h⟩ | ⟨a, -⟩
          · exact h
          · exact absurd a d
        by_cases z : t1_0 (128 * x2.toNatClampNeg + k.toNatClampNeg) = 0
        · rw [if_pos z, if_pos z]
          refine ih _ _ (by omega) (by omega) (by omega) (Or.inl ⟨rfl, fun i hi => ?_⟩)
          by_cases e : i = k.toNatClampNeg
          · rw [e]; exact z
          · exact hz i (by omega)
        · rw [if_neg z, if_neg z]
          exact ih _ _ (by omega) (by omega) (by omega) (Or.inr ⟨rfl, k.toNatClampNeg, by omega, z⟩)
def wZ (v : Int) (b : Int32) : Prop := (b = 1 ∧ v = 0) ∨ (b = 0 ∧ 0 < v)
theorem R_isZero {x2 t0_0 t0_1 t0_2 t0_3 t0_4 t0_5 t0_6 : Int32} {t1_0 : Nat → Int32} (hx : 0 ≤ x2.toInt ∧ x2.toInt ≤ 10) (ho : wO t1_0 1408) : S_WR_isZero x2 t0_0 t0_1 t0_2 t0_3 t0_4 t0_5 t0_6 t1_0 ∧ wZ (wVk t1_0 x2) (F_WR_isZero x2 t0_0 t0_1 t0_2 t0_3 t0_4 t0_5 t0_6 t1_0) := by
  have e0 : (0 : Int32).toInt = 0 := rfl
  unfold S_WR_isZero F_WR_isZero
  have ex := q_clI (i := x2) rfl hx.1
  obtain ⟨h1, h2⟩ := w_isZL (t0_0 := t0_0) (t0_1 := t0_1) (t0_2 := t0_2) (t0_3 := t0_3) (t0_4 := t0_4) (t0_5 := t0_5) (t0_6 := t0_6) (t1_0 := t1_0) hx ((128 - (0 : Int32).toInt).toNat + 1) 0 1 (by decide) (by decide) (by omega) (Or.inl ⟨rfl, fun i hi => by omega⟩)
  refine ⟨h1, ?_⟩
  have h : wO (fun i => t1_0 (128 * x2.toNatClampNeg + i)) 128 := fun i hi => ho _ (by omega)
  rcases h2 with ⟨a, h3⟩ | ⟨a, i, h3, h4⟩
  · exact Or.inl ⟨a, w_zer (k := 0) (n := 128) (f := fun i => t1_0 (128 * x2.toNatClampNeg + i)) (by omega) (fun i _ b => h3 i b)⟩
  · have h5 := w_ge h h3 h4
    have h6 := w_pos i
    exact Or.inr ⟨a, Int.lt_of_lt_of_le h6 h5⟩
/-- the registers: limbs and signs -/
def wR (k m : Nat → Int32) : Prop := wO k 1408 ∧ ∀ i, i < 11 → 0 ≤ (m i).toInt ∧ (m i).toInt ≤ 1
theorem wR.mi {k m : Nat → Int32} {x : Int32} (h : wR k m) (hx : 0 ≤ x.toInt ∧ x.toInt ≤ 10) : 0 ≤ (m x.toNatClampNeg).toInt ∧ (m x.toNatClampNeg).toInt ≤ 1 := h.2 _ (by have := q_clI (i := x) rfl hx.1; omega)
def wSt (to : Int32) (k0 m0 row : Nat → Int32) (p : Int32 × Int32 × Int32 × Int32 × Int32 × Int32 × Int32 × (Nat → Int32) × (Nat → Int32)) : Prop :=
  (∀ i, p.2.2.2.2.2.2.2.1 i = if 128 * to.toNatClampNeg ≤ i ∧ i < 128 * to.toNatClampNeg + 128 then row (i - 128 * to.toNatClampNeg) else k0 i) ∧ ∃ b : Int32, (b = 0 ∨ b = 1) ∧ p.2.2.2.2.2.2.2.2 = upd m0 to.toNatClampNeg b
theorem w_storeL {x2 t0_0 t0_1 t0_2 t0_3 t0_4 t0_5 t0_6 : Int32} {t1_0 t2_0 t3_0 : Nat → Int32} (hx : 0 ≤ x2.toInt ∧ x2.toInt ≤ 10) : ∀ (n : Nat) (k b : Int32) (g : Nat → Int32), 0 ≤ k.toInt → k.toInt ≤ 128 → 128 - k.toInt < n → (∀ i : Nat, g i = if 128 * x2.toNatClampNeg ≤ i ∧ i < 128 * x2.toNatClampNeg + k.toNatClampNeg then t3_0 (i - 128 * x2.toNatClampNeg) else t1_0 i) →
    S_WR_store_L26 x2 t0_0 t0_1 t0_2 t0_3 t0_4 t0_5 t0_6 t1_0 t2_0 t3_0 n k b g ∧ wSt x2 t1_0 t2_0 t3_0 (F_WR_store_L26 x2 t0_0 t0_1 t0_2 t0_3 t0_4 t0_5 t0_6 t1_0 t2_0 t3_0 n k b g) := by
  intro n
  induction n with
  | zero => intro k b g h0 hk h1 h2; omega
  | succ n ih =>
    intro k b g h0 hk h1 h2
    have z0 : (vp_nar .boolean 0 : Int32) = 0 := by decide
    have z1 : (vp_nar .boolean 1 : Int32) = 1 := by decide
    rw [S_WR_store_L26.eq_2, F_WR_store_L26.eq_2]
    have e8 : (128 : Int32).toInt = 128 := rfl
    have ek := q_clI (i := k) rfl h0
    by_cases c : (128 : Int32) ≤ k
    · rw [if_pos c, if_pos c]
      have c2 := q_leI c
      have e9 : k.toNatClampNeg = 128 := by omega
      rw [e9] at h2
      by_cases d : t0_3 = 0
      · rw [if_pos d, if_pos d]
        exact ⟨⟨hx.1, hx.2, trivial⟩, h2, 0, Or.inl rfl, by rw [z0]⟩
      · rw [if_neg d, if_neg d]
        by_cases d2 : b = 0
        · rw [if_pos d2, if_pos d2]
          exact ⟨⟨hx.1, hx.2, trivial⟩, h2, 0, Or.inl rfl, by rw [z0]⟩
        · rw [if_neg d2, if_neg d2]
          exact ⟨⟨hx.1, hx.2, trivial⟩, h2, 1, Or.inr rfl, by rw [z1]⟩
    · rw [if_neg c, if_neg c]
      have c2 := q_nleI c
      have e1 : (k + 1 : Int32).toInt = k.toInt + 1 := q_addI (y := 1) rfl (by decide) (by omega) (by omega)
      have ek1 := q_clI (i := k + 1) e1 (by omega)
      obtain ⟨i1, i2⟩ := w_ix hx ⟨h0, by omega⟩
      refine v_cons (by omega) (v_cons (by omega) ?_)
      rw [i2]
      have go : ∀ i : Nat, upd g (128 * x2.toNatClampNeg + k.toNatClampNeg) (t3_0 k.toNatClampNeg) i = if 128 * x2.toNatClampNeg ≤ i ∧ i < 128 * x2.toNatClampNeg + (k + 1 : Int32).toNatClampNeg then t3_0 (i - 128 * x2.toNatClampNeg) else t1_0 i := fun i => by
        by_cases e : i = 128 * x2.toNatClampNeg + k.toNatClampNeg
        · have e5 : i - 128 * x2.toNatClampNeg = k.toNatClampNeg := by omega
          rw [if_pos (by omega), e5, e, v_eq]
        · rw [v_ne e, h2 i]
          by_cases e6 : 128 * x2.toNatClampNeg ≤ i ∧ i < 128 * x2.toNatClampNeg + k.toNatClampNeg
          · rw [if_pos e6, if_pos (by omega)]
          · rw [if_neg e6, if_neg (by omega)]
      by_cases d : b = 0
      · rw [if_pos d, if_pos d]
        by_cases d2 : t3_0 k.toNatClampNeg = 0
        · rw [if_pos d2, if_pos d2]
          exact ih _ _ _ (by omega) (by omega) (by omega) go
        · rw [if_neg d2, if_neg d2]
          exact ih _ _ _ (by omega) (by omega) (by omega) go
      · rw [if_neg d, if_neg d]
        exact ih _ _ _ (by omega) (by omega) (by omega) go
/-- what a store leaves: the registers keep their form -/
theorem R_store {x2 t0_0 t0_1 t0_2 t0_3 t0_4 t0_5 t0_6 : Int32} {t1_0 t2_0 t3_0 : Nat → Int32} (hx : 0 ≤ x2.toInt ∧ x2.toInt ≤ 10) (hr : wR t1_0 t2_0) (ho : wO t3_0 264) : S_WR_store x2 t0_0 t0_1 t0_2 t0_3 t0_4 t0_5 t0_6 t1_0 t2_0 t3_0 ∧ wR (F_WR_store x2 t0_0 t0_1 t0_2 t0_3 t0_4 t0_5 t0_6 t1_0 t2_0 t3_0).2.2.2.2.2.2.2.1 (F_WR_store x2 t0_0 t0_1 t0_2 t0_3 t0_4 t0_5 t0_6 t1_0 t2_0 t3_0).2.2.2.2.2.2.2.2 := by
  have e0 : (0 : Int32).toInt = 0 := rfl
  have n0 : (0 : Int32).toNatClampNeg = 0 := rfl
  have ex := q_clI (i := x2) rfl hx.1
  unfold S_WR_store F_WR_store
  by_cases c : F_WR_size 264 t3_0 ≤ 128
  · rw [if_pos c, if_pos c]
    obtain ⟨h1, h2, b, h3, h4⟩ := w_storeL (t0_0 := t0_0) (t0_1 := t0_1) (t0_2 := t0_2) (t0_3 := t0_3) (t0_4 := t0_4) (t0_5 := t0_5) (t0_6 := t0_6) (t1_0 := t1_0) (t2_0 := t2_0) (t3_0 := t3_0) hx ((128 - (0 : Int32).toInt).toNat + 1) 0 0 t1_0 (by decide) (by decide) (by omega) (fun i => by rw [if_neg (by omega)])
    refine ⟨h1, fun i hi => ?_, fun i hi => ?_⟩
    · rw [h2 i]
      split
      · exact ho _ (by omega)
      · exact hr.1 i hi
    · rw [h4]
      by_cases e : i = x2.toNatClampNeg
      · rw [e, v_eq]
        rcases h3 with rfl | rfl <;> exact ⟨by decide, by decide⟩
      · rw [v_ne e]; exact hr.2 i hi
  · rw [if_neg c, if_neg c]
    exact ⟨trivial, hr.1, hr.2⟩

/-! the reference's rows: sum, reduce, setOne, limb; Euclid's turns -/
theorem w_no {x : Int32} (h : F_WR_no x = 0) : 0 ≤ x.toInt ∧ x.toInt ≤ 10 := by
  have e0 : (0 : Int32).toInt = 0 := rfl
  have e1 : (11 : Int32).toInt = 11 := rfl
  unfold F_WR_no at h
  by_cases h1 : x < 0
  · rw [if_pos h1] at h
    exact absurd h (by decide)
  · rw [if_neg h1] at h
    by_cases h2 : x < 11
    · have a := q_nltI h1
      have b := q_ltI h2
      omega
    · rw [if_neg h2] at h
      exact absurd h (by decide)
theorem R_copy4 {f g : Nat → Int32} {v : Int} (h : wK v f) : wK v (F_WR_copy 264 264 f g) := by
  have e264 : (264 : Int32).toInt = 264 := rfl
  have hc : ∀ i, i < 264 → F_WR_copy 264 264 f g i = f i := fun i hi => by rw [R_copy (by decide) (by decide) i (by omega), if_pos (by omega)]
  refine ⟨fun i hi => by rw [hc i hi]; exact h.1 i hi, ?_⟩
  show _ = _
  rw [w_ext hc]
  exact h.2
theorem R_clear4 {f : Nat → Int32} : wK 0 (F_WR_clear 264 f) := by
  have e264 : (264 : Int32).toInt = 264 := rfl
  have hc := R_clear (N := 264) (f := f) (by decide) (by decide)
  refine ⟨fun i hi => by rw [hc i (by omega)]; exact ⟨by decide, by decide⟩, ?_⟩
  show _ = _
  rw [w_zer (k := 0) (n := 264) (by omega) (fun i _ h => hc i (by omega))]
  rfl
theorem R_setOne {t0_0 t0_1 t0_2 t0_3 t0_4 t0_5 t0_6 : Int32} {f : Nat → Int32} : S_WR_setOne 264 t0_0 t0_1 t0_2 t0_3 t0_4 t0_5 t0_6 f ∧ wK 1 (F_WR_setOne 264 t0_0 t0_1 t0_2 t0_3 t0_4 t0_5 t0_6 f) := by
  unfold S_WR_setOne F_WR_setOne
  have h := R_clear4 (f := f)
  generalize F_WR_clear 264 f = r at h ⊢
  have hc : r 0 = 0 := by
    have h1 := h.1 0 (by decide)
    have h2 : wV r 264 = 0 := h.2
    by_cases e : r 0 = 0
    · exact e
    · have := w_ge h.1 (show 0 < 264 by decide) e
      rw [h2] at this
      exact absurd this (by decide)
  refine ⟨⟨by decide, trivial⟩, wO_upd h.1 ⟨by decide, by decide⟩, ?_⟩
  have h2 : wV r 264 = 0 := h.2
  show wV (upd r 0 1) 264 = 1
  rw [w_upd (by decide), h2, hc]
  rfl
theorem R_size4 {f : Nat → Int32} : 0 ≤ (F_WR_size 264 f).toInt ∧ (F_WR_size 264 f).toInt ≤ 264 := by
  have h := R_size (N := 264) (f := f) (by decide)
  exact ⟨h.1, h.2.1⟩
/-- a row of 264 joined with another -/
theorem R_join4 {y : Int64} {x5 : Int32} {f g : Nat → Int32} (hy : 0 ≤ y.toInt ∧ y.toInt ≤ 8589934592) (hf : wO f 264) (hg : wO g 264) : S_WR_join 264 264 (F_WR_size 264 g) y x5 f g ∧ wO (F_WR_join 264 264 (F_WR_size 264 g) y x5 f g) 264 := by
  have hs := R_size4 (f := g)
  have e264 : (264 : Int32).toInt = 264 := rfl
  generalize F_WR_size 264 g = z at hs ⊢
  have ez := q_clI (i := z) rfl hs.1
  have h := R_join (N := 264) (M := 264) (s := z) (y := y) (x5 := x5) (f := f) (g := g) (σ := if x5 = 0 then 1 else -1) rfl (by decide) (by decide) hs.1 (by omega) (by omega) (hg.mono (by omega)) hy hf
  exact ⟨h.1, h.2.1⟩
theorem R_sum {x3 x5 t0_0 t0_1 t0_2 t0_3 t0_4 t0_5 t0_6 : Int32} {t1_0 t2_0 t3_0 : Nat → Int32} (hf : wO t2_0 264) (hg : wO t3_0 264) : S_WR_sum 264 x3 264 x5 t0_0 t0_1 t0_2 t0_3 t0_4 t0_5 t0_6 t1_0 t2_0 t3_0 ∧ wO (F_WR_sum 264 x3 264 x5 t0_0 t0_1 t0_2 t0_3 t0_4 t0_5 t0_6 t1_0 t2_0 t3_0).2.2.2.2.2.2.2 264 := by
  have cf := (R_copy4 (g := t1_0) (⟨hf, rfl⟩ : wK (wV t2_0 264) t2_0)).1
  have cg := (R_copy4 (g := t1_0) (⟨hg, rfl⟩ : wK (wV t3_0 264) t3_0)).1
  have hc := (R_cmp (N := 264) (M := 264) (f := t2_0) (g := t3_0) (by decide) (by decide) hf hg).1
  have j1 := R_join4 (y := 1) (x5 := 0) (by decide) cf hg
  have j2 := R_join4 (y := 1) (x5 := 1) (by decide) cg hf
  have j3 := R_join4 (y := 1) (x5 := 1) (by decide) cf hg
  unfold S_WR_sum F_WR_sum
  by_cases c : x3 = x5
  · rw [if_pos c, if_pos c]
    exact ⟨⟨⟨trivial, j1.1⟩, trivial⟩, j1.2⟩
  · rw [if_neg c, if_neg c]
    refine v_owe hc ?_
    by_cases d : F_WR_compareRows 264 264 t2_0 t3_0 < 0
    · rw [if_pos d, if_pos d]
      exact ⟨⟨⟨trivial, j2.1⟩, trivial⟩, j2.2⟩
    · rw [if_neg d, if_neg d]
      exact ⟨⟨⟨trivial, j3.1⟩, trivial⟩, j3.2⟩
/-- a divisor: not 0, and a limb of room -/
def wN (r : Nat → Int32) : Prop := wO r 264 ∧ wL 0 (wV r 264) ∧ wL (wV r 264) (65536 ^ 263)
theorem R_div4 {t0_0 t0_1 t0_2 t0_3 t0_4 t0_5 t0_6 : Int32} {t1_0 t2_0 t3_0 t4_0 : Nat → Int32} (ha : wO t3_0 264) (hb : wN t4_0) : S_WR_divideRows 264 264 t0_0 t0_1 t0_2 t0_3 t0_4 t0_5 t0_6 t1_0 t2_0 t3_0 t4_0 ∧ wDq (wV t3_0 264) (wV t4_0 264) (F_WR_divideRows 264 264 t0_0 t0_1 t0_2 t0_3 t0_4 t0_5 t0_6 t1_0 t2_0 t3_0 t4_0) := R_div rfl (by decide) ha hb.1 hb.2.1 hb.2.2
theorem R_mul4 {t0_0 t0_1 t0_2 t0_3 t0_4 t0_5 t0_6 : Int32} {t1_0 t2_0 t3_0 t4_0 : Nat → Int32} (ha : wO t2_0 264) (hb : wO t3_0 264) : S_WR_multiplyRows 264 264 264 t0_0 t0_1 t0_2 t0_3 t0_4 t0_5 t0_6 t1_0 t2_0 t3_0 t4_0 ∧ wO (F_WR_multiplyRows 264 264 264 t0_0 t0_1 t0_2 t0_3 t0_4 t0_5 t0_6 t1_0 t2_0 t3_0 t4_0).2 264 := by
  have h := R_mul (N2 := 264) (N3 := 264) (N4 := 264) (t0_0 := t0_0) (t0_1 := t0_1) (t0_2 := t0_2) (t0_3 := t0_3) (t0_4 := t0_4) (t0_5 := t0_5) (t0_6 := t0_6) (t1_0 := t1_0) (t2_0 := t2_0) (t3_0 := t3_0) (t4_0 := t4_0) (by decide) (by decide) (by decide) ha hb
  have e264 : (264 : Int32).toInt = 264 := rfl
  refine ⟨h.1, fun i hi => ?_⟩
  rw [h.2.2.2 i (by omega), if_pos (by omega)]
  exact h.2.1 i (by omega)
theorem R_mul4a {t0_0 t0_1 t0_2 t0_3 t0_4 t0_5 t0_6 : Int32} {t1_0 t2_0 t3_0 : Nat → Int32} (ha : wO t2_0 264) (hb : wO t3_0 264) : S_WR_multiplyRows_a 264 264 t0_0 t0_1 t0_2 t0_3 t0_4 t0_5 t0_6 t1_0 t2_0 t3_0 ∧ wO (F_WR_multiplyRows_a 264 264 t0_0 t0_1 t0_2 t0_3 t0_4 t0_5 t0_6 t1_0 t2_0 t3_0).2 264 := by
  have h := R_mul_a (N2 := 264) (N3 := 264) (t0_0 := t0_0) (t0_1 := t0_1) (t0_2 := t0_2) (t0_3 := t0_3) (t0_4 := t0_4) (t0_5 := t0_5) (t0_6 := t0_6) (t1_0 := t1_0) (t2_0 := t2_0) (t3_0 := t3_0) (by decide) (by decide) (by decide) ha hb
  have e264 : (264 : Int32).toInt = 264 := rfl
  refine ⟨h.1, fun i hi => ?_⟩
  rw [h.2.2.2 i (by omega), if_pos (by omega)]
  exact h.2.1 i (by omega)
theorem R_mul4b {t0_0 t0_1 t0_2 t0_3 t0_4 t0_5 t0_6 : Int32} {t1_0 t2_0 t3_0 : Nat → Int32} (ha : wO t2_0 264) : S_WR_multiplyRows_b 264 264 t0_0 t0_1 t0_2 t0_3 t0_4 t0_5 t0_6 t1_0 t2_0 t3_0 ∧ wO (F_WR_multiplyRows_b 264 264 t0_0 t0_1 t0_2 t0_3 t0_4 t0_5 t0_6 t1_0 t2_0 t3_0).2 264 := by
  have h := R_mul_b (N2 := 264) (N4 := 264) (t0_0 := t0_0) (t0_1 := t0_1) (t0_2 := t0_2) (t0_3 := t0_3) (t0_4 := t0_4) (t0_5 := t0_5) (t0_6 := t0_6) (t1_0 := t1_0) (t2_0 := t2_0) (t3_0 := t3_0) (by decide) (by decide) ha
  have e264 : (264 : Int32).toInt = 264 := rfl
  refine ⟨h.1, fun i hi => ?_⟩
  rw [h.2.2.2 i (by omega), if_pos (by omega)]
  exact h.2.1 i (by omega)
/-- a register below 0 is not, above 0 is a divisor -/
theorem R_isAbove0 {x2 t0_0 t0_1 t0_2 t0_3 t0_4 t0_5 t0_6 : Int32} {t1_0 t2_0 : Nat → Int32} (hx : 0 ≤ x2.toInt ∧ x2.toInt ≤ 10) (hr : wR t1_0 t2_0) : S_WR_isAbove0 x2 t0_0 t0_1 t0_2 t0_3 t0_4 t0_5 t0_6 t1_0 t2_0 ∧ (F_WR_isAbove0 x2 t0_0 t0_1 t0_2 t0_3 t0_4 t0_5 t0_6 t1_0 t2_0 ≠ 0 → wL 0 (wVk t1_0 x2)) := by
  have hz := R_isZero (t0_0 := t0_0) (t0_1 := t0_1) (t0_2 := t0_2) (t0_3 := t0_3) (t0_4 := t0_4) (t0_5 := t0_5) (t0_6 := t0_6) hx hr.1
  unfold S_WR_isAbove0 F_WR_isAbove0
  refine v_cons (by omega) (v_cons (by omega) ?_)
  by_cases c : t2_0 x2.toNatClampNeg = 0
  · rw [if_pos c, if_pos c]
    refine v_owe hz.1 ?_
    by_cases d : F_WR_isZero x2 t0_0 t0_1 t0_2 t0_3 t0_4 t0_5 t0_6 t1_0 = 0
    · rw [if_pos d, if_pos d]
      refine ⟨trivial, fun _ => ?_⟩
      rcases hz.2 with ⟨a, -⟩ | ⟨-, a⟩
      · rw [d] at a; exact absurd a (by decide)
      · exact a
    · rw [if_neg d, if_neg d]
      exact ⟨trivial, fun h => absurd rfl h⟩
  · rw [if_neg c, if_neg c]
    exact ⟨trivial, fun h => absurd rfl h⟩
theorem w_reg {k : Nat → Int32} {x : Int32} {r : Nat → Int32} (hx : 0 ≤ x.toInt ∧ x.toInt ≤ 10) (ho : wO k 1408) (h : wK (wVk k x) r) (h0 : wL 0 (wVk k x)) : wN r := by
  have h1 : wV r 264 = wVk k x := h.2
  refine ⟨h.1, by rw [h1]; exact h0, ?_⟩
  show _ < _
  rw [h1]
  exact Int.lt_of_lt_of_le (wVk_nn hx ho).2 (w_pwle (by decide))
theorem R_redJ {f g r : Nat → Int32} (hf : wO f 264) (hg : wO g 264) : S_WR_join 264 264 (F_WR_size 264 f) 1 1 g f ∧ wO (F_WR_copy 264 264 (F_WR_join 264 264 (F_WR_size 264 f) 1 1 g f) r) 264 := by
  have j := R_join4 (y := 1) (x5 := 1) (f := g) (g := f) (by decide) hg hf
  exact ⟨j.1, (R_copy4 (v := wV (F_WR_join 264 264 (F_WR_size 264 f) 1 1 g f) 264) ⟨j.2, rfl⟩).1⟩
theorem R_red12 {x2 t0_0 t0_1 t0_2 t0_3 t0_4 t0_5 t0_6 : Int32} {t1_0 t2_0 t3_0 t4_0 t5_0 t6_0 t7_0 f : Nat → Int32} {p : (Nat → Int32) × (Nat → Int32)} (hx : 0 ≤ x2.toInt ∧ x2.toInt ≤ 10) (hp : wO p.1 264) (hm : wO t6_0 264) : S_WR_reduce_c12 x2 264 t0_0 t0_1 t0_2 t0_3 t0_4 t0_5 t0_6 t1_0 t2_0 t3_0 t4_0 t5_0 t6_0 t7_0 f p ∧ wO (F_WR_reduce_c12 x2 264 t0_0 t0_1 t0_2 t0_3 t0_4 t0_5 t0_6 t1_0 t2_0 t3_0 t4_0 t5_0 t6_0 t7_0 f p).2.2.2 264 := by
  unfold S_WR_reduce_c12 F_WR_reduce_c12
  have c1 := (R_copy4 (g := f) (v := wV p.1 264) ⟨hp, rfl⟩).1
  have c2 := (R_copy4 (g := t3_0) (v := wV t6_0 264) ⟨hm, rfl⟩).1
  generalize F_WR_copy 264 264 p.1 f = u at c1 ⊢
  generalize F_WR_copy 264 264 t6_0 t3_0 = w at c2 ⊢
  obtain ⟨ja, jb⟩ := R_redJ (r := u) c1 c2
  refine v_cons (by omega) (v_cons (by omega) ?_)
  by_cases c : t2_0 x2.toNatClampNeg = 0
  · rw [if_pos c, if_pos c]
    exact ⟨trivial, c1⟩
  · rw [if_neg c, if_neg c]
    by_cases d : F_WR_size 264 u ≤ 0
    · rw [if_pos d, if_pos d]
      exact ⟨trivial, c1⟩
    · rw [if_neg d, if_neg d]
      refine v_owe ja ⟨trivial, ?_⟩
      dsimp only
      exact jb
theorem R_reduce {x2 t0_0 t0_1 t0_2 t0_3 t0_4 t0_5 t0_6 : Int32} {t1_0 t2_0 t3_0 t4_0 t5_0 t6_0 t7_0 : Nat → Int32} (hx : 0 ≤ x2.toInt ∧ x2.toInt ≤ 10) (hr : wR t1_0 t2_0) (hm : wN t6_0) : S_WR_reduce x2 264 t0_0 t0_1 t0_2 t0_3 t0_4 t0_5 t0_6 t1_0 t2_0 t3_0 t4_0 t5_0 t6_0 t7_0 ∧ wO (F_WR_reduce x2 264 t0_0 t0_1 t0_2 t0_3 t0_4 t0_5 t0_6 t1_0 t2_0 t3_0 t4_0 t5_0 t6_0 t7_0).2.2.2 264 := by
  have ht := R_take (t0_0 := t0_0) (t0_1 := t0_1) (t0_2 := t0_2) (t0_3 := t0_3) (t0_4 := t0_4) (t0_5 := t0_5) (t0_6 := t0_6) (t2_0 := t7_0) hx hr.1
  unfold S_WR_reduce F_WR_reduce
  refine v_owe ht.1 ?_
  have ht2 := ht.2.1
  generalize F_WR_take x2 264 t0_0 t0_1 t0_2 t0_3 t0_4 t0_5 t0_6 t1_0 t7_0 = f at ht2 ⊢
  have hd := R_div4 (t0_0 := t0_0) (t0_1 := t0_1) (t0_2 := t0_2) (t0_3 := t0_3) (t0_4 := t0_4) (t0_5 := t0_5) (t0_6 := t0_6) (t1_0 := t4_0) (t2_0 := t5_0) ht2 hm
  refine v_owe hd.1 ?_
  have hd2 := hd.2.1
  generalize F_WR_divideRows 264 264 t0_0 t0_1 t0_2 t0_3 t0_4 t0_5 t0_6 t4_0 t5_0 f t6_0 = p at hd2 ⊢
  exact R_red12 hx hd2 hm.1
/-- Euclid's turns -/
def wM2 (a b : Int) : Int := if a < b then 2 * (a * b) else a * b
theorem w_euc {a b q r : Int} (ha : 0 ≤ a) (hb : 0 < b) (h : q * b + r = a) (hr : 0 ≤ r) (hr2 : r < b) : 2 * wM2 b r ≤ wM2 a b := by
  unfold wM2
  rw [if_neg (show ¬ b < r by omega)]
  by_cases c : a < b
  · rw [if_pos c]
    have hq : q = 0 := by
      by_cases q0 : q ≤ 0
      · by_cases q1 : q < 0
        · have := Int.mul_le_mul_of_nonneg_right (show q ≤ -1 by omega) (Int.le_of_lt hb)
          omega
        · omega
      · have := Int.mul_le_mul_of_nonneg_right (show 1 ≤ q by omega) (Int.le_of_lt hb)
        omega
    subst hq
    rw [Int.zero_mul, Int.zero_add] at h
    subst h
    rw [Int.mul_comm b r]
    omega
  · rw [if_neg c]
    have hq : 1 ≤ q := by
      by_cases q1 : 1 ≤ q
      · exact q1
      · have := Int.mul_le_mul_of_nonneg_right (show q ≤ 0 by omega) (Int.le_of_lt hb)
        omega
    have h1 := Int.mul_le_mul_of_nonneg_right hq (Int.le_of_lt hb)
    have h2 : 2 * r ≤ a := by omega
    have h3 := Int.mul_le_mul_of_nonneg_right h2 (Int.le_of_lt hb)
    have h4 : 2 * r * b = 2 * (b * r) := by rw [Int.mul_assoc, Int.mul_comm r b]
    omega
/-- enough turns are left -/
def wEu (n : Nat) (a b : Int) : Prop := (b = 0 ∧ 1 ≤ n) ∨ (0 < b ∧ ∃ k : Nat, n = k + 2 ∧ wM2 a b < 2 ^ k)
theorem wEu.ge {n : Nat} {a b : Int} (h : wEu n a b) : 1 ≤ n := by
  rcases h with ⟨-, h⟩ | ⟨-, k, h, -⟩ <;> omega
theorem wEu.step {n : Nat} {a b q r : Int} (h : wEu (n + 1) a b) (ha : 0 ≤ a) (hb : 0 < b) (e : q * b + r = a) (hr : 0 ≤ r) (hr2 : r < b) : wEu n b r := by
  rcases h with ⟨h, -⟩ | ⟨-, k, hk, hM⟩
  · omega
  · by_cases r0 : r = 0
    · exact Or.inl ⟨r0, by omega⟩
    · have h1 := w_euc ha hb e hr hr2
      have h2 : 1 ≤ wM2 b r := by
        unfold wM2
        rw [if_neg (show ¬ b < r by omega)]
        have := Int.mul_le_mul (show 1 ≤ b by omega) (show 1 ≤ r by omega) (by decide) (by omega)
        omega
      cases k with
      | zero => exact absurd hM (by rw [Int.pow_zero]; omega)
      | succ k =>
        refine Or.inr ⟨by omega, k, by omega, ?_⟩
        rw [Int.pow_succ] at hM
        omega
theorem w_2pw {k i : Nat} (h : k ≤ i) : (2 : Int) ^ k ≤ 2 ^ i := by
  obtain ⟨d, rfl⟩ := Nat.exists_eq_add_of_le h
  rw [Int.pow_add]
  have h1 : (0 : Int) < 2 ^ k := Int.pow_pos (by decide)
  have h2 : (0 : Int) < 2 ^ d := Int.pow_pos (by decide)
  have h3 := Int.mul_le_mul_of_nonneg_left (show 1 ≤ (2 : Int) ^ d by omega) (Int.le_of_lt h1)
  rw [Int.mul_one] at h3
  exact h3
theorem w_p16 (n : Nat) : (65536 : Int) ^ n = 2 ^ (16 * n) := by
  rw [Int.pow_mul]
  rfl
theorem wEu.start {n : Nat} {a b : Int} (hn : 9000 ≤ n) (ha : 0 ≤ a) (ha2 : a < 65536 ^ 264) (hb : 0 ≤ b) (hb2 : b < 65536 ^ 264) : wEu n a b := by
  by_cases b0 : b = 0
  · exact Or.inl ⟨b0, by omega⟩
  · obtain ⟨k, rfl⟩ : ∃ k, n = k + 2 := ⟨n - 2, by omega⟩
    refine Or.inr ⟨by omega, k, rfl, ?_⟩
    have h1 : a * b ≤ 65536 ^ 264 * 65536 ^ 264 := Int.mul_le_mul (Int.le_of_lt ha2) (Int.le_of_lt hb2) hb (Int.le_of_lt (w_pos _))
    have h2 : 0 ≤ a * b := Int.mul_nonneg ha hb
    have h3 : (2 : Int) * (65536 ^ 264 * 65536 ^ 264) < 2 ^ 8450 := by
      rw [← Int.pow_add, w_p16]
      have e : (2 : Int) ^ 8450 = 2 ^ (16 * (264 + 264)) * 4 := by
        rw [show (8450 : Nat) = 16 * (264 + 264) + 2 from rfl, Int.pow_add]
        rfl
      have hp : (0 : Int) < 2 ^ (16 * (264 + 264)) := Int.pow_pos (by decide)
      rw [e]
      generalize (2 : Int) ^ (16 * (264 + 264)) = u at hp ⊢
      omega
    have h4 : (2 : Int) ^ 8450 ≤ 2 ^ k := w_2pw (by omega)
    refine Int.lt_of_lt_of_le ?_ h4
    refine Int.lt_of_le_of_lt ?_ h3
    unfold wM2
    generalize (65536 : Int) ^ 264 * 65536 ^ 264 = u at h1 ⊢
    generalize a * b = v at h1 h2 ⊢
    clear h3 h4 ha2 hb2
    split <;> omega
theorem w_sz1 {f : Nat → Int32} (ho : wO f 264) (h : ¬ F_WR_size 264 f ≤ 0) : wL 0 (wV f 264) := by
  have hs := R_size (N := 264) (f := f) (by decide)
  have e0 : (0 : Int32).toInt = 0 := rfl
  have h1 := q_nleI h
  have h2 := hs.ge ho (by omega)
  exact Int.lt_of_lt_of_le (w_pos _) h2

/-! WholeRows: what its calls owe holds -/
theorem w_wz {v : Int} {b : Int32} (g : b = 0) (h : wZ v b) : wL 0 v := by
  rcases h with ⟨a, -⟩ | ⟨-, a⟩
  · rw [g] at a; exact absurd a (by decide)
  · exact a
theorem wR.o {k m : Nat → Int32} (h : wR k m) : wO k 1408 := h.1
theorem w_ab {P : Prop} {b : Int32} (g : ¬ b = 0) (h : b ≠ 0 → P) : P := h g
theorem R_cp {f g : Nat → Int32} (h : wO f 264) : wO (F_WR_copy 264 264 f g) 264 := (R_copy4 (v := wV f 264) ⟨h, rfl⟩).1
theorem R_cl {f : Nat → Int32} : wO (F_WR_clear 264 f) 264 := R_clear4.1
def Q_WR_add (p : Int32 × Int32 × Int32 × Int32 × Int32 × Int32 × Int32 × (Nat → Int32) × (Nat → Int32) × (Nat → Int32) × (Nat → Int32) × (Nat → Int32)) : Prop := wR p.2.2.2.2.2.2.2.1 p.2.2.2.2.2.2.2.2.1
theorem T_WR_add {x2 : Int32} {x3 : Int32} {x4 : Int32} {x5 : Int32} {t0_0 : Int32} {t0_1 : Int32} {t0_2 : Int32} {t0_3 : Int32} {t0_4 : Int32} {t0_5 : Int32} {t0_6 : Int32} {t1_0 : (Nat → Int32)} {t2_0 : (Nat → Int32)} {t3_0 : (Nat → Int32)} {t4_0 : (Nat → Int32)} {t5_0 : (Nat → Int32)} (hr : wR t1_0 t2_0) : (S_WR_add x2 x3 x4 x5 t0_0 t0_1 t0_2 t0_3 t0_4 t0_5 t0_6 t1_0 t2_0 t3_0 t4_0 t5_0) ∧ Q_WR_add (F_WR_add x2 x3 x4 x5 t0_0 t0_1 t0_2 t0_3 t0_4 t0_5 t0_6 t1_0 t2_0 t3_0 t4_0 t5_0) := by
  unfold S_WR_add F_WR_add
  by_cases g1 : ((F_WR_no x2) : Int32) = (0 : Int32)
  ·
    rw [if_pos g1, if_pos g1]
    have g1r := w_no g1
    by_cases g2 : ((F_WR_no x3) : Int32) = (0 : Int32)
    ·
      rw [if_pos g2, if_pos g2]
      have g2r := w_no g2
      by_cases g3 : ((F_WR_no x4) : Int32) = (0 : Int32)
      ·
        rw [if_pos g3, if_pos g3]
        have g3r := w_no g3
        unfold S_WR_add_J27 F_WR_add_J27
        have g4 : ((0 : Int32) ≤ (0 : Int32)) := (by decide)
        rw [if_pos g4, if_pos g4]
        have h5 := R_take  (x2 := x2) (t0_0 := (0 : Int32)) (t0_1 := (2 : Int32)) (t0_2 := t0_2) (t0_3 := t0_3) (t0_4 := t0_4) (t0_5 := t0_5) (t0_6 := t0_6) (t1_0 := t1_0) (t2_0 := t4_0) (by first | with_reducible assumption | with_reducible exact R_cl | (with_reducible apply R_cp; first | with_reducible assumption | with_reducible exact R_cl) | (with_reducible apply wR.mi <;> with_reducible assumption) | omega | decide) (wR.o (by with_reducible assumption))
        have h5k := h5.2.1
        have h5v := h5.2
        with_reducible refine v_owe h5.1 ?_
        have h6 := R_take  (x2 := x3) (t0_0 := (0 : Int32)) (t0_1 := (2 : Int32)) (t0_2 := t0_2) (t0_3 := t0_3) (t0_4 := t0_4) (t0_5 := t0_5) (t0_6 := t0_6) (t1_0 := t1_0) (t2_0 := t5_0) (by first | with_reducible assumption | with_reducible exact R_cl | (with_reducible apply R_cp; first | with_reducible assumption | with_reducible exact R_cl) | (with_reducible apply wR.mi <;> with_reducible assumption) | omega | decide) (wR.o (by with_reducible assumption))
        have h6k := h6.2.1
        have h6v := h6.2
        with_reducible refine v_owe h6.1 ?_
        refine v_cons (by omega) ?_
        refine v_cons (by omega) ?_
        refine v_cons (by omega) ?_
        refine v_cons (by omega) ?_
        by_cases g7 : (t2_0 x3.toNatClampNeg : Int32) = x5
        ·
          rw [if_pos g7, if_pos g7]
          refine v_cons (by first | omega | exact (wR.mi (by with_reducible assumption) (by with_reducible assumption)).1 | exact (wR.mi (by with_reducible assumption) (by with_reducible assumption)).2) ?_
          refine v_cons (by first | omega | exact (wR.mi (by with_reducible assumption) (by with_reducible assumption)).1 | exact (wR.mi (by with_reducible assumption) (by with_reducible assumption)).2) ?_
          have h8 := R_sum  (x3 := (t2_0 x2.toNatClampNeg : Int32)) (x5 := (0 : Int32)) (t0_0 := (0 : Int32)) (t0_1 := (2 : Int32)) (t0_2 := t0_2) (t0_3 := t0_3) (t0_4 := t0_4) (t0_5 := t0_5) (t0_6 := t0_6) (t1_0 := t3_0) (t2_0 := ((F_WR_take x2 (264 : Int32) (0 : Int32) (2 : Int32) t0_2 t0_3 t0_4 t0_5 t0_6 t1_0 t4_0) : (Nat → Int32))) (t3_0 := ((F_WR_take x3 (264 : Int32) (0 : Int32) (2 : Int32) t0_2 t0_3 t0_4 t0_5 t0_6 t1_0 t5_0) : (Nat → Int32))) (by first | with_reducible assumption | with_reducible exact R_cl | (with_reducible apply R_cp; first | with_reducible assumption | with_reducible exact R_cl) | (with_reducible apply wR.mi <;> with_reducible assumption) | omega | decide) (by first | with_reducible assumption | with_reducible exact R_cl | (with_reducible apply R_cp; first | with_reducible assumption | with_reducible exact R_cl) | (with_reducible apply wR.mi <;> with_reducible assumption) | omega | decide)
          have h8k := h8.2
          with_reducible refine v_owe h8.1 ?_
          replace h8 := h8.2
          generalize F_WR_sum (264 : Int32) (t2_0 x2.toNatClampNeg : Int32) (264 : Int32) (0 : Int32) (0 : Int32) (2 : Int32) t0_2 t0_3 t0_4 t0_5 t0_6 t3_0 ((F_WR_take x2 (264 : Int32) (0 : Int32) (2 : Int32) t0_2 t0_3 t0_4 t0_5 t0_6 t1_0 t4_0) : (Nat → Int32)) ((F_WR_take x3 (264 : Int32) (0 : Int32) (2 : Int32) t0_2 t0_3 t0_4 t0_5 t0_6 t1_0 t5_0) : (Nat → Int32)) = p114 at *
          replace h6 := h6.2
          generalize F_WR_take x3 (264 : Int32) (0 : Int32) (2 : Int32) t0_2 t0_3 t0_4 t0_5 t0_6 t1_0 t5_0 = f68 at *
          replace h5 := h5.2
          generalize F_WR_take x2 (264 : Int32) (0 : Int32) (2 : Int32) t0_2 t0_3 t0_4 t0_5 t0_6 t1_0 t4_0 = f60 at *
          unfold S_WR_add_c92 F_WR_add_c92
          have h9 := R_store  (x2 := x4) (t0_0 := (p114.1 : Int32)) (t0_1 := (p114.2.1 : Int32)) (t0_2 := (p114.2.2.1 : Int32)) (t0_3 := (p114.2.2.2.1 : Int32)) (t0_4 := (p114.2.2.2.2.1 : Int32)) (t0_5 := (p114.2.2.2.2.2.1 : Int32)) (t0_6 := (p114.2.2.2.2.2.2.1 : Int32)) (t1_0 := t1_0) (t2_0 := t2_0) (t3_0 := (p114.2.2.2.2.2.2.2 : (Nat → Int32))) (by first | with_reducible assumption | with_reducible exact R_cl | (with_reducible apply R_cp; first | with_reducible assumption | with_reducible exact R_cl) | (with_reducible apply wR.mi <;> with_reducible assumption) | omega | decide) (by first | with_reducible assumption | with_reducible exact R_cl | (with_reducible apply R_cp; first | with_reducible assumption | with_reducible exact R_cl) | (with_reducible apply wR.mi <;> with_reducible assumption) | omega | decide) (by first | with_reducible assumption | with_reducible exact R_cl | (with_reducible apply R_cp; first | with_reducible assumption | with_reducible exact R_cl) | (with_reducible apply wR.mi <;> with_reducible assumption) | omega | decide)
          have h9r := h9.2
          with_reducible refine v_owe h9.1 ?_
          replace h9 := h9.2
          generalize F_WR_store x4 (p114.1 : Int32) (p114.2.1 : Int32) (p114.2.2.1 : Int32) (p114.2.2.2.1 : Int32) (p114.2.2.2.2.1 : Int32) (p114.2.2.2.2.2.1 : Int32) (p114.2.2.2.2.2.2.1 : Int32) t1_0 t2_0 (p114.2.2.2.2.2.2.2 : (Nat → Int32)) = p158 at *
          unfold S_WR_add_c97 F_WR_add_c97
          refine ⟨trivial, ?_⟩
          (unfold Q_WR_add; dsimp only; first | with_reducible assumption | exact hr)
        ·
          rw [if_neg g7, if_neg g7]
          refine v_cons (by first | omega | exact (wR.mi (by with_reducible assumption) (by with_reducible assumption)).1 | exact (wR.mi (by with_reducible assumption) (by with_reducible assumption)).2) ?_
          refine v_cons (by first | omega | exact (wR.mi (by with_reducible assumption) (by with_reducible assumption)).1 | exact (wR.mi (by with_reducible assumption) (by with_reducible assumption)).2) ?_
          have h10 := R_sum  (x3 := (t2_0 x2.toNatClampNeg : Int32)) (x5 := (1 : Int32)) (t0_0 := (0 : Int32)) (t0_1 := (2 : Int32)) (t0_2 := t0_2) (t0_3 := t0_3) (t0_4 := t0_4) (t0_5 := t0_5) (t0_6 := t0_6) (t1_0 := t3_0) (t2_0 := ((F_WR_take x2 (264 : Int32) (0 : Int32) (2 : Int32) t0_2 t0_3 t0_4 t0_5 t0_6 t1_0 t4_0) : (Nat → Int32))) (t3_0 := ((F_WR_take x3 (264 : Int32) (0 : Int32) (2 : Int32) t0_2 t0_3 t0_4 t0_5 t0_6 t1_0 t5_0) : (Nat → Int32))) (by first | with_reducible assumption | with_reducible exact R_cl | (with_reducible apply R_cp; first | with_reducible assumption | with_reducible exact R_cl) | (with_reducible apply wR.mi <;> with_reducible assumption) | omega | decide) (by first | with_reducible assumption | with_reducible exact R_cl | (with_reducible apply R_cp; first | with_reducible assumption | with_reducible exact R_cl) | (with_reducible apply wR.mi <;> with_reducible assumption) | omega | decide)
          have h10k := h10.2
          with_reducible refine v_owe h10.1 ?_
          replace h10 := h10.2
          generalize F_WR_sum (264 : Int32) (t2_0 x2.toNatClampNeg : Int32) (264 : Int32) (1 : Int32) (0 : Int32) (2 : Int32) t0_2 t0_3 t0_4 t0_5 t0_6 t3_0 ((F_WR_take x2 (264 : Int32) (0 : Int32) (2 : Int32) t0_2 t0_3 t0_4 t0_5 t0_6 t1_0 t4_0) : (Nat → Int32)) ((F_WR_take x3 (264 : Int32) (0 : Int32) (2 : Int32) t0_2 t0_3 t0_4 t0_5 t0_6 t1_0 t5_0) : (Nat → Int32)) = p206 at *
          replace h6 := h6.2
          generalize F_WR_take x3 (264 : Int32) (0 : Int32) (2 : Int32) t0_2 t0_3 t0_4 t0_5 t0_6 t1_0 t5_0 = f68 at *
          replace h5 := h5.2
          generalize F_WR_take x2 (264 : Int32) (0 : Int32) (2 : Int32) t0_2 t0_3 t0_4 t0_5 t0_6 t1_0 t4_0 = f60 at *
          unfold S_WR_add_c92_4 F_WR_add_c92_4
          have h11 := R_store  (x2 := x4) (t0_0 := (p206.1 : Int32)) (t0_1 := (p206.2.1 : Int32)) (t0_2 := (p206.2.2.1 : Int32)) (t0_3 := (p206.2.2.2.1 : Int32)) (t0_4 := (p206.2.2.2.2.1 : Int32)) (t0_5 := (p206.2.2.2.2.2.1 : Int32)) (t0_6 := (p206.2.2.2.2.2.2.1 : Int32)) (t1_0 := t1_0) (t2_0 := t2_0) (t3_0 := (p206.2.2.2.2.2.2.2 : (Nat → Int32))) (by first | with_reducible assumption | with_reducible exact R_cl | (with_reducible apply R_cp; first | with_reducible assumption | with_reducible exact R_cl) | (with_reducible apply wR.mi <;> with_reducible assumption) | omega | decide) (by first | with_reducible assumption | with_reducible exact R_cl | (with_reducible apply R_cp; first | with_reducible assumption | with_reducible exact R_cl) | (with_reducible apply wR.mi <;> with_reducible assumption) | omega | decide) (by first | with_reducible assumption | with_reducible exact R_cl | (with_reducible apply R_cp; first | with_reducible assumption | with_reducible exact R_cl) | (with_reducible apply wR.mi <;> with_reducible assumption) | omega | decide)
          have h11r := h11.2
          with_reducible refine v_owe h11.1 ?_
          replace h11 := h11.2
          generalize F_WR_store x4 (p206.1 : Int32) (p206.2.1 : Int32) (p206.2.2.1 : Int32) (p206.2.2.2.1 : Int32) (p206.2.2.2.2.1 : Int32) (p206.2.2.2.2.2.1 : Int32) (p206.2.2.2.2.2.2.1 : Int32) t1_0 t2_0 (p206.2.2.2.2.2.2.2 : (Nat → Int32)) = p250 at *
          unfold S_WR_add_c97_5 F_WR_add_c97_5
          refine ⟨trivial, ?_⟩
          (unfold Q_WR_add; dsimp only; first | with_reducible assumption | exact hr)
      ·
        rw [if_neg g3, if_neg g3]
        unfold S_WR_add_J22 F_WR_add_J22
        unfold S_WR_add_J27 F_WR_add_J27
        have g12 : ¬ ((1 : Int32) ≤ (0 : Int32)) := (by decide)
        rw [if_neg g12, if_neg g12]
        refine ⟨trivial, ?_⟩
        (unfold Q_WR_add; dsimp only; first | with_reducible assumption | exact hr)
    ·
      rw [if_neg g2, if_neg g2]
      unfold S_WR_add_J22 F_WR_add_J22
      unfold S_WR_add_J27 F_WR_add_J27
      have g13 : ¬ ((1 : Int32) ≤ (0 : Int32)) := (by decide)
      rw [if_neg g13, if_neg g13]
      refine ⟨trivial, ?_⟩
      (unfold Q_WR_add; dsimp only; first | with_reducible assumption | exact hr)
  ·
    rw [if_neg g1, if_neg g1]
    unfold S_WR_add_J22 F_WR_add_J22
    unfold S_WR_add_J27 F_WR_add_J27
    have g14 : ¬ ((1 : Int32) ≤ (0 : Int32)) := (by decide)
    rw [if_neg g14, if_neg g14]
    refine ⟨trivial, ?_⟩
    (unfold Q_WR_add; dsimp only; first | with_reducible assumption | exact hr)
def Q_WR_multiply (p : Int32 × Int32 × Int32 × Int32 × Int32 × Int32 × Int32 × (Nat → Int32) × (Nat → Int32) × (Nat → Int32) × (Nat → Int32) × (Nat → Int32) × (Nat → Int32)) : Prop := wR p.2.2.2.2.2.2.2.1 p.2.2.2.2.2.2.2.2.1
theorem T_WR_multiply {x2 : Int32} {x3 : Int32} {x4 : Int32} {t0_0 : Int32} {t0_1 : Int32} {t0_2 : Int32} {t0_3 : Int32} {t0_4 : Int32} {t0_5 : Int32} {t0_6 : Int32} {t1_0 : (Nat → Int32)} {t2_0 : (Nat → Int32)} {t3_0 : (Nat → Int32)} {t4_0 : (Nat → Int32)} {t5_0 : (Nat → Int32)} {t6_0 : (Nat → Int32)} (hr : wR t1_0 t2_0) : (S_WR_multiply x2 x3 x4 t0_0 t0_1 t0_2 t0_3 t0_4 t0_5 t0_6 t1_0 t2_0 t3_0 t4_0 t5_0 t6_0) ∧ Q_WR_multiply (F_WR_multiply x2 x3 x4 t0_0 t0_1 t0_2 t0_3 t0_4 t0_5 t0_6 t1_0 t2_0 t3_0 t4_0 t5_0 t6_0) := by
  unfold S_WR_multiply F_WR_multiply
  by_cases g1 : ((F_WR_no x2) : Int32) = (0 : Int32)
  ·
    rw [if_pos g1, if_pos g1]
    have g1r := w_no g1
    by_cases g2 : ((F_WR_no x3) : Int32) = (0 : Int32)
    ·
      rw [if_pos g2, if_pos g2]
      have g2r := w_no g2
      by_cases g3 : ((F_WR_no x4) : Int32) = (0 : Int32)
      ·
        rw [if_pos g3, if_pos g3]
        have g3r := w_no g3
        unfold S_WR_multiply_J27 F_WR_multiply_J27
        have g4 : ((0 : Int32) ≤ (0 : Int32)) := (by decide)
        rw [if_pos g4, if_pos g4]
        have h5 := R_take  (x2 := x2) (t0_0 := (0 : Int32)) (t0_1 := (2 : Int32)) (t0_2 := t0_2) (t0_3 := t0_3) (t0_4 := t0_4) (t0_5 := t0_5) (t0_6 := t0_6) (t1_0 := t1_0) (t2_0 := t5_0) (by first | with_reducible assumption | with_reducible exact R_cl | (with_reducible apply R_cp; first | with_reducible assumption | with_reducible exact R_cl) | (with_reducible apply wR.mi <;> with_reducible assumption) | omega | decide) (wR.o (by with_reducible assumption))
        have h5k := h5.2.1
        have h5v := h5.2
        with_reducible refine v_owe h5.1 ?_
        have h6 := R_take  (x2 := x3) (t0_0 := (0 : Int32)) (t0_1 := (2 : Int32)) (t0_2 := t0_2) (t0_3 := t0_3) (t0_4 := t0_4) (t0_5 := t0_5) (t0_6 := t0_6) (t1_0 := t1_0) (t2_0 := t6_0) (by first | with_reducible assumption | with_reducible exact R_cl | (with_reducible apply R_cp; first | with_reducible assumption | with_reducible exact R_cl) | (with_reducible apply wR.mi <;> with_reducible assumption) | omega | decide) (wR.o (by with_reducible assumption))
        have h6k := h6.2.1
        have h6v := h6.2
        with_reducible refine v_owe h6.1 ?_
        have h7 := R_mul4  (t0_0 := (0 : Int32)) (t0_1 := (2 : Int32)) (t0_2 := t0_2) (t0_3 := t0_3) (t0_4 := t0_4) (t0_5 := t0_5) (t0_6 := t0_6) (t1_0 := t4_0) (t2_0 := ((F_WR_take x2 (264 : Int32) (0 : Int32) (2 : Int32) t0_2 t0_3 t0_4 t0_5 t0_6 t1_0 t5_0) : (Nat → Int32))) (t3_0 := ((F_WR_take x3 (264 : Int32) (0 : Int32) (2 : Int32) t0_2 t0_3 t0_4 t0_5 t0_6 t1_0 t6_0) : (Nat → Int32))) (t4_0 := t3_0) (by first | with_reducible assumption | with_reducible exact R_cl | (with_reducible apply R_cp; first | with_reducible assumption | with_reducible exact R_cl) | (with_reducible apply wR.mi <;> with_reducible assumption) | omega | decide) (by first | with_reducible assumption | with_reducible exact R_cl | (with_reducible apply R_cp; first | with_reducible assumption | with_reducible exact R_cl) | (with_reducible apply wR.mi <;> with_reducible assumption) | omega | decide)
        have h7k := h7.2
        with_reducible refine v_owe h7.1 ?_
        replace h7 := h7.2
        generalize F_WR_multiplyRows (264 : Int32) (264 : Int32) (264 : Int32) (0 : Int32) (2 : Int32) t0_2 t0_3 t0_4 t0_5 t0_6 t4_0 ((F_WR_take x2 (264 : Int32) (0 : Int32) (2 : Int32) t0_2 t0_3 t0_4 t0_5 t0_6 t1_0 t5_0) : (Nat → Int32)) ((F_WR_take x3 (264 : Int32) (0 : Int32) (2 : Int32) t0_2 t0_3 t0_4 t0_5 t0_6 t1_0 t6_0) : (Nat → Int32)) t3_0 = p86 at *
        replace h6 := h6.2
        generalize F_WR_take x3 (264 : Int32) (0 : Int32) (2 : Int32) t0_2 t0_3 t0_4 t0_5 t0_6 t1_0 t6_0 = f72 at *
        replace h5 := h5.2
        generalize F_WR_take x2 (264 : Int32) (0 : Int32) (2 : Int32) t0_2 t0_3 t0_4 t0_5 t0_6 t1_0 t5_0 = f64 at *
        unfold S_WR_multiply_c74 F_WR_multiply_c74
        refine v_cons (by omega) ?_
        refine v_cons (by omega) ?_
        refine v_cons (by omega) ?_
        refine v_cons (by omega) ?_
        by_cases g8 : (t2_0 x2.toNatClampNeg : Int32) = (t2_0 x3.toNatClampNeg : Int32)
        ·
          rw [if_pos g8, if_pos g8]
          have h9 := R_store  (x2 := x4) (t0_0 := (0 : Int32)) (t0_1 := (2 : Int32)) (t0_2 := t0_2) (t0_3 := (0 : Int32)) (t0_4 := t0_4) (t0_5 := t0_5) (t0_6 := t0_6) (t1_0 := t1_0) (t2_0 := t2_0) (t3_0 := (p86.2 : (Nat → Int32))) (by first | with_reducible assumption | with_reducible exact R_cl | (with_reducible apply R_cp; first | with_reducible assumption | with_reducible exact R_cl) | (with_reducible apply wR.mi <;> with_reducible assumption) | omega | decide) (by first | with_reducible assumption | with_reducible exact R_cl | (with_reducible apply R_cp; first | with_reducible assumption | with_reducible exact R_cl) | (with_reducible apply wR.mi <;> with_reducible assumption) | omega | decide) (by first | with_reducible assumption | with_reducible exact R_cl | (with_reducible apply R_cp; first | with_reducible assumption | with_reducible exact R_cl) | (with_reducible apply wR.mi <;> with_reducible assumption) | omega | decide)
          have h9r := h9.2
          with_reducible refine v_owe h9.1 ?_
          replace h9 := h9.2
          generalize F_WR_store x4 (0 : Int32) (2 : Int32) t0_2 (0 : Int32) t0_4 t0_5 t0_6 t1_0 t2_0 (p86.2 : (Nat → Int32)) = p136 at *
          unfold S_WR_multiply_c103 F_WR_multiply_c103
          refine ⟨trivial, ?_⟩
          (unfold Q_WR_multiply; dsimp only; first | with_reducible assumption | exact hr)
        ·
          rw [if_neg g8, if_neg g8]
          have h10 := R_store  (x2 := x4) (t0_0 := (0 : Int32)) (t0_1 := (2 : Int32)) (t0_2 := t0_2) (t0_3 := (1 : Int32)) (t0_4 := t0_4) (t0_5 := t0_5) (t0_6 := t0_6) (t1_0 := t1_0) (t2_0 := t2_0) (t3_0 := (p86.2 : (Nat → Int32))) (by first | with_reducible assumption | with_reducible exact R_cl | (with_reducible apply R_cp; first | with_reducible assumption | with_reducible exact R_cl) | (with_reducible apply wR.mi <;> with_reducible assumption) | omega | decide) (by first | with_reducible assumption | with_reducible exact R_cl | (with_reducible apply R_cp; first | with_reducible assumption | with_reducible exact R_cl) | (with_reducible apply wR.mi <;> with_reducible assumption) | omega | decide) (by first | with_reducible assumption | with_reducible exact R_cl | (with_reducible apply R_cp; first | with_reducible assumption | with_reducible exact R_cl) | (with_reducible apply wR.mi <;> with_reducible assumption) | omega | decide)
          have h10r := h10.2
          with_reducible refine v_owe h10.1 ?_
          replace h10 := h10.2
          generalize F_WR_store x4 (0 : Int32) (2 : Int32) t0_2 (1 : Int32) t0_4 t0_5 t0_6 t1_0 t2_0 (p86.2 : (Nat → Int32)) = p184 at *
          unfold S_WR_multiply_c103_4 F_WR_multiply_c103_4
          refine ⟨trivial, ?_⟩
          (unfold Q_WR_multiply; dsimp only; first | with_reducible assumption | exact hr)
      ·
        rw [if_neg g3, if_neg g3]
        unfold S_WR_multiply_J22 F_WR_multiply_J22
        unfold S_WR_multiply_J27 F_WR_multiply_J27
        have g11 : ¬ ((1 : Int32) ≤ (0 : Int32)) := (by decide)
        rw [if_neg g11, if_neg g11]
        refine ⟨trivial, ?_⟩
        (unfold Q_WR_multiply; dsimp only; first | with_reducible assumption | exact hr)
    ·
      rw [if_neg g2, if_neg g2]
      unfold S_WR_multiply_J22 F_WR_multiply_J22
      unfold S_WR_multiply_J27 F_WR_multiply_J27
      have g12 : ¬ ((1 : Int32) ≤ (0 : Int32)) := (by decide)
      rw [if_neg g12, if_neg g12]
      refine ⟨trivial, ?_⟩
      (unfold Q_WR_multiply; dsimp only; first | with_reducible assumption | exact hr)
  ·
    rw [if_neg g1, if_neg g1]
    unfold S_WR_multiply_J22 F_WR_multiply_J22
    unfold S_WR_multiply_J27 F_WR_multiply_J27
    have g13 : ¬ ((1 : Int32) ≤ (0 : Int32)) := (by decide)
    rw [if_neg g13, if_neg g13]
    refine ⟨trivial, ?_⟩
    (unfold Q_WR_multiply; dsimp only; first | with_reducible assumption | exact hr)
def Q_WR_divide (p : Int32 × Int32 × Int32 × Int32 × Int32 × Int32 × Int32 × (Nat → Int32) × (Nat → Int32) × (Nat → Int32) × (Nat → Int32) × (Nat → Int32) × (Nat → Int32) × (Nat → Int32)) : Prop := wR p.2.2.2.2.2.2.2.1 p.2.2.2.2.2.2.2.2.1
theorem T_WR_divide {x2 : Int32} {x3 : Int32} {x4 : Int32} {x5 : Int32} {t0_0 : Int32} {t0_1 : Int32} {t0_2 : Int32} {t0_3 : Int32} {t0_4 : Int32} {t0_5 : Int32} {t0_6 : Int32} {t1_0 : (Nat → Int32)} {t2_0 : (Nat → Int32)} {t3_0 : (Nat → Int32)} {t4_0 : (Nat → Int32)} {t5_0 : (Nat → Int32)} {t6_0 : (Nat → Int32)} {t7_0 : (Nat → Int32)} (hr : wR t1_0 t2_0) : (S_WR_divide x2 x3 x4 x5 t0_0 t0_1 t0_2 t0_3 t0_4 t0_5 t0_6 t1_0 t2_0 t3_0 t4_0 t5_0 t6_0 t7_0) ∧ Q_WR_divide (F_WR_divide x2 x3 x4 x5 t0_0 t0_1 t0_2 t0_3 t0_4 t0_5 t0_6 t1_0 t2_0 t3_0 t4_0 t5_0 t6_0 t7_0) := by
  unfold S_WR_divide F_WR_divide
  by_cases g1 : ((F_WR_no x2) : Int32) = (0 : Int32)
  ·
    rw [if_pos g1, if_pos g1]
    have g1r := w_no g1
    by_cases g2 : ((F_WR_no x3) : Int32) = (0 : Int32)
    ·
      rw [if_pos g2, if_pos g2]
      have g2r := w_no g2
      by_cases g3 : ((F_WR_no x4) : Int32) = (0 : Int32)
      ·
        rw [if_pos g3, if_pos g3]
        have g3r := w_no g3
        by_cases g4 : ((F_WR_no x5) : Int32) = (0 : Int32)
        ·
          rw [if_pos g4, if_pos g4]
          have g4r := w_no g4
          have h5 := R_isZero  (x2 := x3) (t0_0 := t0_0) (t0_1 := t0_1) (t0_2 := t0_2) (t0_3 := t0_3) (t0_4 := t0_4) (t0_5 := t0_5) (t0_6 := t0_6) (t1_0 := t1_0) (by first | with_reducible assumption | with_reducible exact R_cl | (with_reducible apply R_cp; first | with_reducible assumption | with_reducible exact R_cl) | (with_reducible apply wR.mi <;> with_reducible assumption) | omega | decide) (wR.o (by with_reducible assumption))
          have h5z := h5.2
          with_reducible refine v_owe h5.1 ?_
          by_cases g6 : ((F_WR_isZero x3 t0_0 t0_1 t0_2 t0_3 t0_4 t0_5 t0_6 t1_0) : Int32) = (0 : Int32)
          ·
            rw [if_pos g6, if_pos g6]
            have g6z := w_wz g6 (by with_reducible assumption)
            unfold S_WR_divide_J47 F_WR_divide_J47
            have g7 : ((0 : Int32) ≤ (0 : Int32)) := (by decide)
            rw [if_pos g7, if_pos g7]
            have h8 := R_take  (x2 := x2) (t0_0 := (0 : Int32)) (t0_1 := t0_1) (t0_2 := t0_2) (t0_3 := t0_3) (t0_4 := t0_4) (t0_5 := t0_5) (t0_6 := t0_6) (t1_0 := t1_0) (t2_0 := t6_0) (by first | with_reducible assumption | with_reducible exact R_cl | (with_reducible apply R_cp; first | with_reducible assumption | with_reducible exact R_cl) | (with_reducible apply wR.mi <;> with_reducible assumption) | omega | decide) (wR.o (by with_reducible assumption))
            have h8k := h8.2.1
            have h8v := h8.2
            with_reducible refine v_owe h8.1 ?_
            have h9 := R_take  (x2 := x3) (t0_0 := (0 : Int32)) (t0_1 := t0_1) (t0_2 := t0_2) (t0_3 := t0_3) (t0_4 := t0_4) (t0_5 := t0_5) (t0_6 := t0_6) (t1_0 := t1_0) (t2_0 := t7_0) (by first | with_reducible assumption | with_reducible exact R_cl | (with_reducible apply R_cp; first | with_reducible assumption | with_reducible exact R_cl) | (with_reducible apply wR.mi <;> with_reducible assumption) | omega | decide) (wR.o (by with_reducible assumption))
            have h9k := h9.2.1
            have h9v := h9.2
            with_reducible refine v_owe h9.1 ?_
            refine v_cons (by omega) ?_
            refine v_cons (by omega) ?_
            refine v_cons (by omega) ?_
            refine v_cons (by omega) ?_
            by_cases g10 : (t2_0 x2.toNatClampNeg : Int32) = (t2_0 x3.toNatClampNeg : Int32)
            ·
              rw [if_pos g10, if_pos g10]
              replace h9 := h9.2
              generalize F_WR_take x3 (264 : Int32) (0 : Int32) t0_1 t0_2 t0_3 t0_4 t0_5 t0_6 t1_0 t7_0 = f74 at *
              replace h8 := h8.2
              generalize F_WR_take x2 (264 : Int32) (0 : Int32) t0_1 t0_2 t0_3 t0_4 t0_5 t0_6 t1_0 t6_0 = f66 at *
              unfold S_WR_divide_J104 F_WR_divide_J104
              have h11 := R_div4  (t0_0 := (0 : Int32)) (t0_1 := t0_1) (t0_2 := t0_2) (t0_3 := t0_3) (t0_4 := t0_4) (t0_5 := t0_5) (t0_6 := t0_6) (t1_0 := t4_0) (t2_0 := t5_0) (t3_0 := f66) (t4_0 := f74) (by first | with_reducible assumption | with_reducible exact R_cl | (with_reducible apply R_cp; first | with_reducible assumption | with_reducible exact R_cl) | (with_reducible apply wR.mi <;> with_reducible assumption) | omega | decide) (by first | with_reducible assumption | (refine w_reg ?_ (wR.o (by with_reducible assumption)) (by with_reducible assumption) ?_ <;> with_reducible assumption))
              have h11k := h11.2.1
              have h11q := h11.2.2.1
              have h11d := h11.2
              with_reducible refine v_owe h11.1 ?_
              replace h11 := h11.2
              generalize F_WR_divideRows (264 : Int32) (264 : Int32) (0 : Int32) t0_1 t0_2 t0_3 t0_4 t0_5 t0_6 t4_0 t5_0 f66 f74 = p115 at *
              unfold S_WR_divide_c115 F_WR_divide_c115
              have h12 := R_store  (x2 := x4) (t0_0 := (0 : Int32)) (t0_1 := t0_1) (t0_2 := t0_2) (t0_3 := (0 : Int32)) (t0_4 := t0_4) (t0_5 := t0_5) (t0_6 := t0_6) (t1_0 := t1_0) (t2_0 := t2_0) (t3_0 := ((F_WR_copy (264 : Int32) (264 : Int32) (p115.2 : (Nat → Int32)) t3_0) : (Nat → Int32))) (by first | with_reducible assumption | with_reducible exact R_cl | (with_reducible apply R_cp; first | with_reducible assumption | with_reducible exact R_cl) | (with_reducible apply wR.mi <;> with_reducible assumption) | omega | decide) (by first | with_reducible assumption | with_reducible exact R_cl | (with_reducible apply R_cp; first | with_reducible assumption | with_reducible exact R_cl) | (with_reducible apply wR.mi <;> with_reducible assumption) | omega | decide) (by first | with_reducible assumption | with_reducible exact R_cl | (with_reducible apply R_cp; first | with_reducible assumption | with_reducible exact R_cl) | (with_reducible apply wR.mi <;> with_reducible assumption) | omega | decide)
              have h12r := h12.2
              with_reducible refine v_owe h12.1 ?_
              replace h12 := h12.2
              generalize F_WR_store x4 (0 : Int32) t0_1 t0_2 (0 : Int32) t0_4 t0_5 t0_6 t1_0 t2_0 ((F_WR_copy (264 : Int32) (264 : Int32) (p115.2 : (Nat → Int32)) t3_0) : (Nat → Int32)) = p162 at *
              generalize F_WR_copy (264 : Int32) (264 : Int32) (p115.2 : (Nat → Int32)) t3_0 = f126 at *
              unfold S_WR_divide_c137 F_WR_divide_c137
              refine v_cons (by first | omega | exact (wR.mi (by with_reducible assumption) (by with_reducible assumption)).1 | exact (wR.mi (by with_reducible assumption) (by with_reducible assumption)).2) ?_
              refine v_cons (by first | omega | exact (wR.mi (by with_reducible assumption) (by with_reducible assumption)).1 | exact (wR.mi (by with_reducible assumption) (by with_reducible assumption)).2) ?_
              have h13 := R_store  (x2 := x5) (t0_0 := (p162.1 : Int32)) (t0_1 := (p162.2.1 : Int32)) (t0_2 := (p162.2.2.1 : Int32)) (t0_3 := (t2_0 x2.toNatClampNeg : Int32)) (t0_4 := (p162.2.2.2.2.1 : Int32)) (t0_5 := (p162.2.2.2.2.2.1 : Int32)) (t0_6 := (p162.2.2.2.2.2.2.1 : Int32)) (t1_0 := (p162.2.2.2.2.2.2.2.1 : (Nat → Int32))) (t2_0 := (p162.2.2.2.2.2.2.2.2 : (Nat → Int32))) (t3_0 := ((F_WR_copy (264 : Int32) (264 : Int32) (p115.1 : (Nat → Int32)) f126) : (Nat → Int32))) (by first | with_reducible assumption | with_reducible exact R_cl | (with_reducible apply R_cp; first | with_reducible assumption | with_reducible exact R_cl) | (with_reducible apply wR.mi <;> with_reducible assumption) | omega | decide) (by first | with_reducible assumption | with_reducible exact R_cl | (with_reducible apply R_cp; first | with_reducible assumption | with_reducible exact R_cl) | (with_reducible apply wR.mi <;> with_reducible assumption) | omega | decide) (by first | with_reducible assumption | with_reducible exact R_cl | (with_reducible apply R_cp; first | with_reducible assumption | with_reducible exact R_cl) | (with_reducible apply wR.mi <;> with_reducible assumption) | omega | decide)
              have h13r := h13.2
              with_reducible refine v_owe h13.1 ?_
              replace h13 := h13.2
              generalize F_WR_store x5 (p162.1 : Int32) (p162.2.1 : Int32) (p162.2.2.1 : Int32) (t2_0 x2.toNatClampNeg : Int32) (p162.2.2.2.2.1 : Int32) (p162.2.2.2.2.2.1 : Int32) (p162.2.2.2.2.2.2.1 : Int32) (p162.2.2.2.2.2.2.2.1 : (Nat → Int32)) (p162.2.2.2.2.2.2.2.2 : (Nat → Int32)) ((F_WR_copy (264 : Int32) (264 : Int32) (p115.1 : (Nat → Int32)) f126) : (Nat → Int32)) = p218 at *
              generalize F_WR_copy (264 : Int32) (264 : Int32) (p115.1 : (Nat → Int32)) f126 = f180 at *
              unfold S_WR_divide_c160 F_WR_divide_c160
              refine ⟨trivial, ?_⟩
              (unfold Q_WR_divide; dsimp only; first | with_reducible assumption | exact hr)
            ·
              rw [if_neg g10, if_neg g10]
              replace h9 := h9.2
              generalize F_WR_take x3 (264 : Int32) (0 : Int32) t0_1 t0_2 t0_3 t0_4 t0_5 t0_6 t1_0 t7_0 = f74 at *
              replace h8 := h8.2
              generalize F_WR_take x2 (264 : Int32) (0 : Int32) t0_1 t0_2 t0_3 t0_4 t0_5 t0_6 t1_0 t6_0 = f66 at *
              unfold S_WR_divide_J104 F_WR_divide_J104
              have h14 := R_div4  (t0_0 := (0 : Int32)) (t0_1 := t0_1) (t0_2 := t0_2) (t0_3 := t0_3) (t0_4 := t0_4) (t0_5 := t0_5) (t0_6 := t0_6) (t1_0 := t4_0) (t2_0 := t5_0) (t3_0 := f66) (t4_0 := f74) (by first | with_reducible assumption | with_reducible exact R_cl | (with_reducible apply R_cp; first | with_reducible assumption | with_reducible exact R_cl) | (with_reducible apply wR.mi <;> with_reducible assumption) | omega | decide) (by first | with_reducible assumption | (refine w_reg ?_ (wR.o (by with_reducible assumption)) (by with_reducible assumption) ?_ <;> with_reducible assumption))
              have h14k := h14.2.1
              have h14q := h14.2.2.1
              have h14d := h14.2
              with_reducible refine v_owe h14.1 ?_
              replace h14 := h14.2
              generalize F_WR_divideRows (264 : Int32) (264 : Int32) (0 : Int32) t0_1 t0_2 t0_3 t0_4 t0_5 t0_6 t4_0 t5_0 f66 f74 = p115 at *
              unfold S_WR_divide_c115 F_WR_divide_c115
              have h15 := R_store  (x2 := x4) (t0_0 := (0 : Int32)) (t0_1 := t0_1) (t0_2 := t0_2) (t0_3 := (1 : Int32)) (t0_4 := t0_4) (t0_5 := t0_5) (t0_6 := t0_6) (t1_0 := t1_0) (t2_0 := t2_0) (t3_0 := ((F_WR_copy (264 : Int32) (264 : Int32) (p115.2 : (Nat → Int32)) t3_0) : (Nat → Int32))) (by first | with_reducible assumption | with_reducible exact R_cl | (with_reducible apply R_cp; first | with_reducible assumption | with_reducible exact R_cl) | (with_reducible apply wR.mi <;> with_reducible assumption) | omega | decide) (by first | with_reducible assumption | with_reducible exact R_cl | (with_reducible apply R_cp; first | with_reducible assumption | with_reducible exact R_cl) | (with_reducible apply wR.mi <;> with_reducible assumption) | omega | decide) (by first | with_reducible assumption | with_reducible exact R_cl | (with_reducible apply R_cp; first | with_reducible assumption | with_reducible exact R_cl) | (with_reducible apply wR.mi <;> with_reducible assumption) | omega | decide)
              have h15r := h15.2
              with_reducible refine v_owe h15.1 ?_
              replace h15 := h15.2
              generalize F_WR_store x4 (0 : Int32) t0_1 t0_2 (1 : Int32) t0_4 t0_5 t0_6 t1_0 t2_0 ((F_WR_copy (264 : Int32) (264 : Int32) (p115.2 : (Nat → Int32)) t3_0) : (Nat → Int32)) = p162 at *
              generalize F_WR_copy (264 : Int32) (264 : Int32) (p115.2 : (Nat → Int32)) t3_0 = f126 at *
              unfold S_WR_divide_c137 F_WR_divide_c137
              refine v_cons (by first | omega | exact (wR.mi (by with_reducible assumption) (by with_reducible assumption)).1 | exact (wR.mi (by with_reducible assumption) (by with_reducible assumption)).2) ?_
              refine v_cons (by first | omega | exact (wR.mi (by with_reducible assumption) (by with_reducible assumption)).1 | exact (wR.mi (by with_reducible assumption) (by with_reducible assumption)).2) ?_
              have h16 := R_store  (x2 := x5) (t0_0 := (p162.1 : Int32)) (t0_1 := (p162.2.1 : Int32)) (t0_2 := (p162.2.2.1 : Int32)) (t0_3 := (t2_0 x2.toNatClampNeg : Int32)) (t0_4 := (p162.2.2.2.2.1 : Int32)) (t0_5 := (p162.2.2.2.2.2.1 : Int32)) (t0_6 := (p162.2.2.2.2.2.2.1 : Int32)) (t1_0 := (p162.2.2.2.2.2.2.2.1 : (Nat → Int32))) (t2_0 := (p162.2.2.2.2.2.2.2.2 : (Nat → Int32))) (t3_0 := ((F_WR_copy (264 : Int32) (264 : Int32) (p115.1 : (Nat → Int32)) f126) : (Nat → Int32))) (by first | with_reducible assumption | with_reducible exact R_cl | (with_reducible apply R_cp; first | with_reducible assumption | with_reducible exact R_cl) | (with_reducible apply wR.mi <;> with_reducible assumption) | omega | decide) (by first | with_reducible assumption | with_reducible exact R_cl | (with_reducible apply R_cp; first | with_reducible assumption | with_reducible exact R_cl) | (with_reducible apply wR.mi <;> with_reducible assumption) | omega | decide) (by first | with_reducible assumption | with_reducible exact R_cl | (with_reducible apply R_cp; first | with_reducible assumption | with_reducible exact R_cl) | (with_reducible apply wR.mi <;> with_reducible assumption) | omega | decide)
              have h16r := h16.2
              with_reducible refine v_owe h16.1 ?_
              replace h16 := h16.2
              generalize F_WR_store x5 (p162.1 : Int32) (p162.2.1 : Int32) (p162.2.2.1 : Int32) (t2_0 x2.toNatClampNeg : Int32) (p162.2.2.2.2.1 : Int32) (p162.2.2.2.2.2.1 : Int32) (p162.2.2.2.2.2.2.1 : Int32) (p162.2.2.2.2.2.2.2.1 : (Nat → Int32)) (p162.2.2.2.2.2.2.2.2 : (Nat → Int32)) ((F_WR_copy (264 : Int32) (264 : Int32) (p115.1 : (Nat → Int32)) f126) : (Nat → Int32)) = p218 at *
              generalize F_WR_copy (264 : Int32) (264 : Int32) (p115.1 : (Nat → Int32)) f126 = f180 at *
              unfold S_WR_divide_c160 F_WR_divide_c160
              refine ⟨trivial, ?_⟩
              (unfold Q_WR_divide; dsimp only; first | with_reducible assumption | exact hr)
          ·
            rw [if_neg g6, if_neg g6]
            unfold S_WR_divide_J47 F_WR_divide_J47
            have g17 : ¬ ((2 : Int32) ≤ (0 : Int32)) := (by decide)
            rw [if_neg g17, if_neg g17]
            refine ⟨trivial, ?_⟩
            (unfold Q_WR_divide; dsimp only; first | with_reducible assumption | exact hr)
        ·
          rw [if_neg g4, if_neg g4]
          unfold S_WR_divide_J30 F_WR_divide_J30
          unfold S_WR_divide_J47 F_WR_divide_J47
          have g18 : ¬ ((1 : Int32) ≤ (0 : Int32)) := (by decide)
          rw [if_neg g18, if_neg g18]
          refine ⟨trivial, ?_⟩
          (unfold Q_WR_divide; dsimp only; first | with_reducible assumption | exact hr)
      ·
        rw [if_neg g3, if_neg g3]
        unfold S_WR_divide_J30 F_WR_divide_J30
        unfold S_WR_divide_J47 F_WR_divide_J47
        have g19 : ¬ ((1 : Int32) ≤ (0 : Int32)) := (by decide)
        rw [if_neg g19, if_neg g19]
        refine ⟨trivial, ?_⟩
        (unfold Q_WR_divide; dsimp only; first | with_reducible assumption | exact hr)
    ·
      rw [if_neg g2, if_neg g2]
      unfold S_WR_divide_J30 F_WR_divide_J30
      unfold S_WR_divide_J47 F_WR_divide_J47
      have g20 : ¬ ((1 : Int32) ≤ (0 : Int32)) := (by decide)
      rw [if_neg g20, if_neg g20]
      refine ⟨trivial, ?_⟩
      (unfold Q_WR_divide; dsimp only; first | with_reducible assumption | exact hr)
  ·
    rw [if_neg g1, if_neg g1]
    unfold S_WR_divide_J30 F_WR_divide_J30
    unfold S_WR_divide_J47 F_WR_divide_J47
    have g21 : ¬ ((1 : Int32) ≤ (0 : Int32)) := (by decide)
    rw [if_neg g21, if_neg g21]
    refine ⟨trivial, ?_⟩
    (unfold Q_WR_divide; dsimp only; first | with_reducible assumption | exact hr)
def Q_WR_modulo (p : Int32 × Int32 × Int32 × Int32 × Int32 × Int32 × Int32 × (Nat → Int32) × (Nat → Int32) × (Nat → Int32) × (Nat → Int32) × (Nat → Int32) × (Nat → Int32) × (Nat → Int32)) : Prop := wR p.2.2.2.2.2.2.2.1 p.2.2.2.2.2.2.2.2.1
theorem T_WR_modulo {x2 : Int32} {x3 : Int32} {x4 : Int32} {t0_0 : Int32} {t0_1 : Int32} {t0_2 : Int32} {t0_3 : Int32} {t0_4 : Int32} {t0_5 : Int32} {t0_6 : Int32} {t1_0 : (Nat → Int32)} {t2_0 : (Nat → Int32)} {t3_0 : (Nat → Int32)} {t4_0 : (Nat → Int32)} {t5_0 : (Nat → Int32)} {t6_0 : (Nat → Int32)} {t7_0 : (Nat → Int32)} (hr : wR t1_0 t2_0) : (S_WR_modulo x2 x3 x4 t0_0 t0_1 t0_2 t0_3 t0_4 t0_5 t0_6 t1_0 t2_0 t3_0 t4_0 t5_0 t6_0 t7_0) ∧ Q_WR_modulo (F_WR_modulo x2 x3 x4 t0_0 t0_1 t0_2 t0_3 t0_4 t0_5 t0_6 t1_0 t2_0 t3_0 t4_0 t5_0 t6_0 t7_0) := by
  unfold S_WR_modulo F_WR_modulo
  by_cases g1 : ((F_WR_no x2) : Int32) = (0 : Int32)
  ·
    rw [if_pos g1, if_pos g1]
    have g1r := w_no g1
    by_cases g2 : ((F_WR_no x3) : Int32) = (0 : Int32)
    ·
      rw [if_pos g2, if_pos g2]
      have g2r := w_no g2
      by_cases g3 : ((F_WR_no x4) : Int32) = (0 : Int32)
      ·
        rw [if_pos g3, if_pos g3]
        have g3r := w_no g3
        have h4 := R_isAbove0  (x2 := x3) (t0_0 := t0_0) (t0_1 := t0_1) (t0_2 := t0_2) (t0_3 := t0_3) (t0_4 := t0_4) (t0_5 := t0_5) (t0_6 := t0_6) (t1_0 := t1_0) (t2_0 := t2_0) (by first | with_reducible assumption | with_reducible exact R_cl | (with_reducible apply R_cp; first | with_reducible assumption | with_reducible exact R_cl) | (with_reducible apply wR.mi <;> with_reducible assumption) | omega | decide) (by first | with_reducible assumption | with_reducible exact R_cl | (with_reducible apply R_cp; first | with_reducible assumption | with_reducible exact R_cl) | (with_reducible apply wR.mi <;> with_reducible assumption) | omega | decide)
        have h4a := h4.2
        with_reducible refine v_owe h4.1 ?_
        by_cases g5 : ((F_WR_isAbove0 x3 t0_0 t0_1 t0_2 t0_3 t0_4 t0_5 t0_6 t1_0 t2_0) : Int32) = (0 : Int32)
        ·
          rw [if_pos g5, if_pos g5]
          unfold S_WR_modulo_J39 F_WR_modulo_J39
          have g6 : ¬ ((2 : Int32) ≤ (0 : Int32)) := (by decide)
          rw [if_neg g6, if_neg g6]
          refine ⟨trivial, ?_⟩
          (unfold Q_WR_modulo; dsimp only; first | with_reducible assumption | exact hr)
        ·
          rw [if_neg g5, if_neg g5]
          have g5z := w_ab g5 (by with_reducible assumption)
          unfold S_WR_modulo_J39 F_WR_modulo_J39
          have g7 : ((0 : Int32) ≤ (0 : Int32)) := (by decide)
          rw [if_pos g7, if_pos g7]
          have h8 := R_take  (x2 := x3) (t0_0 := (0 : Int32)) (t0_1 := t0_1) (t0_2 := t0_2) (t0_3 := t0_3) (t0_4 := t0_4) (t0_5 := t0_5) (t0_6 := t0_6) (t1_0 := t1_0) (t2_0 := t7_0) (by first | with_reducible assumption | with_reducible exact R_cl | (with_reducible apply R_cp; first | with_reducible assumption | with_reducible exact R_cl) | (with_reducible apply wR.mi <;> with_reducible assumption) | omega | decide) (wR.o (by with_reducible assumption))
          have h8k := h8.2.1
          have h8v := h8.2
          with_reducible refine v_owe h8.1 ?_
          have h9 := R_reduce  (x2 := x2) (t0_0 := (0 : Int32)) (t0_1 := t0_1) (t0_2 := t0_2) (t0_3 := t0_3) (t0_4 := t0_4) (t0_5 := t0_5) (t0_6 := t0_6) (t1_0 := t1_0) (t2_0 := t2_0) (t3_0 := t3_0) (t4_0 := t4_0) (t5_0 := t5_0) (t6_0 := ((F_WR_take x3 (264 : Int32) (0 : Int32) t0_1 t0_2 t0_3 t0_4 t0_5 t0_6 t1_0 t7_0) : (Nat → Int32))) (t7_0 := t6_0) (by first | with_reducible assumption | with_reducible exact R_cl | (with_reducible apply R_cp; first | with_reducible assumption | with_reducible exact R_cl) | (with_reducible apply wR.mi <;> with_reducible assumption) | omega | decide) (by first | with_reducible assumption | with_reducible exact R_cl | (with_reducible apply R_cp; first | with_reducible assumption | with_reducible exact R_cl) | (with_reducible apply wR.mi <;> with_reducible assumption) | omega | decide) (by first | with_reducible assumption | (refine w_reg ?_ (wR.o (by with_reducible assumption)) (by with_reducible assumption) ?_ <;> with_reducible assumption))
          have h9k := h9.2
          with_reducible refine v_owe h9.1 ?_
          replace h9 := h9.2
          generalize F_WR_reduce x2 (264 : Int32) (0 : Int32) t0_1 t0_2 t0_3 t0_4 t0_5 t0_6 t1_0 t2_0 t3_0 t4_0 t5_0 ((F_WR_take x3 (264 : Int32) (0 : Int32) t0_1 t0_2 t0_3 t0_4 t0_5 t0_6 t1_0 t7_0) : (Nat → Int32)) t6_0 = p84 at *
          replace h8 := h8.2
          generalize F_WR_take x3 (264 : Int32) (0 : Int32) t0_1 t0_2 t0_3 t0_4 t0_5 t0_6 t1_0 t7_0 = f66 at *
          unfold S_WR_modulo_c65 F_WR_modulo_c65
          have h10 := R_store  (x2 := x4) (t0_0 := (0 : Int32)) (t0_1 := t0_1) (t0_2 := t0_2) (t0_3 := (0 : Int32)) (t0_4 := t0_4) (t0_5 := t0_5) (t0_6 := t0_6) (t1_0 := t1_0) (t2_0 := t2_0) (t3_0 := ((F_WR_copy (264 : Int32) (264 : Int32) (p84.2.2.2 : (Nat → Int32)) (p84.1 : (Nat → Int32))) : (Nat → Int32))) (by first | with_reducible assumption | with_reducible exact R_cl | (with_reducible apply R_cp; first | with_reducible assumption | with_reducible exact R_cl) | (with_reducible apply wR.mi <;> with_reducible assumption) | omega | decide) (by first | with_reducible assumption | with_reducible exact R_cl | (with_reducible apply R_cp; first | with_reducible assumption | with_reducible exact R_cl) | (with_reducible apply wR.mi <;> with_reducible assumption) | omega | decide) (by first | with_reducible assumption | with_reducible exact R_cl | (with_reducible apply R_cp; first | with_reducible assumption | with_reducible exact R_cl) | (with_reducible apply wR.mi <;> with_reducible assumption) | omega | decide)
          have h10r := h10.2
          with_reducible refine v_owe h10.1 ?_
          replace h10 := h10.2
          generalize F_WR_store x4 (0 : Int32) t0_1 t0_2 (0 : Int32) t0_4 t0_5 t0_6 t1_0 t2_0 ((F_WR_copy (264 : Int32) (264 : Int32) (p84.2.2.2 : (Nat → Int32)) (p84.1 : (Nat → Int32))) : (Nat → Int32)) = p133 at *
          generalize F_WR_copy (264 : Int32) (264 : Int32) (p84.2.2.2 : (Nat → Int32)) (p84.1 : (Nat → Int32)) = f97 at *
          unfold S_WR_modulo_c86 F_WR_modulo_c86
          refine ⟨trivial, ?_⟩
          (unfold Q_WR_modulo; dsimp only; first | with_reducible assumption | exact hr)
      ·
        rw [if_neg g3, if_neg g3]
        unfold S_WR_modulo_J22 F_WR_modulo_J22
        unfold S_WR_modulo_J39 F_WR_modulo_J39
        have g11 : ¬ ((1 : Int32) ≤ (0 : Int32)) := (by decide)
        rw [if_neg g11, if_neg g11]
        refine ⟨trivial, ?_⟩
        (unfold Q_WR_modulo; dsimp only; first | with_reducible assumption | exact hr)
    ·
      rw [if_neg g2, if_neg g2]
      unfold S_WR_modulo_J22 F_WR_modulo_J22
      unfold S_WR_modulo_J39 F_WR_modulo_J39
      have g12 : ¬ ((1 : Int32) ≤ (0 : Int32)) := (by decide)
      rw [if_neg g12, if_neg g12]
      refine ⟨trivial, ?_⟩
      (unfold Q_WR_modulo; dsimp only; first | with_reducible assumption | exact hr)
  ·
    rw [if_neg g1, if_neg g1]
    unfold S_WR_modulo_J22 F_WR_modulo_J22
    unfold S_WR_modulo_J39 F_WR_modulo_J39
    have g13 : ¬ ((1 : Int32) ≤ (0 : Int32)) := (by decide)
    rw [if_neg g13, if_neg g13]
    refine ⟨trivial, ?_⟩
    (unfold Q_WR_modulo; dsimp only; first | with_reducible assumption | exact hr)

