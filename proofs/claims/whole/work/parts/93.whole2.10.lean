theorem d_19_42_0 : decode prog_19_method_42_code 0 = .ok (.aload_n 0, 1) := by decide +kernel
theorem d_19_42_1 : decode prog_19_method_42_code 1 = .ok (.iload_n 1, 1) := by decide +kernel
theorem d_19_42_2 : decode prog_19_method_42_code 2 = .ok (.invokestatic 91, 3) := by decide +kernel
theorem d_19_42_24 : decode prog_19_method_42_code 24 = .ok (.putfield 53, 3) := by decide +kernel
theorem d_19_42_27 : decode prog_19_method_42_code 27 = .ok (.aload_n 0, 1) := by decide +kernel
theorem d_19_42_28 : decode prog_19_method_42_code 28 = .ok (.getfield 53, 3) := by decide +kernel
theorem d_19_42_31 : decode prog_19_method_42_code 31 = .ok (.ifCond .le 5, 3) := by decide +kernel
theorem d_19_42_36 : decode prog_19_method_42_code 36 = .ok (.aload_n 0, 1) := by decide +kernel
theorem d_19_42_37 : decode prog_19_method_42_code 37 = .ok (.iload_n 1, 1) := by decide +kernel
theorem d_19_42_38 : decode prog_19_method_42_code 38 = .ok (.aload_n 0, 1) := by decide +kernel
theorem d_19_42_39 : decode prog_19_method_42_code 39 = .ok (.getfield 35, 3) := by decide +kernel
theorem d_19_42_42 : decode prog_19_method_42_code 42 = .ok (.invokevirtual 107, 3) := by decide +kernel
theorem d_19_42_45 : decode prog_19_method_42_code 45 = .ok (.aload_n 0, 1) := by decide +kernel
theorem d_19_42_46 : decode prog_19_method_42_code 46 = .ok (.iconst 0, 1) := by decide +kernel
theorem d_19_42_47 : decode prog_19_method_42_code 47 = .ok (.putfield 155, 3) := by decide +kernel
set_option maxRecDepth 100000 in
theorem w_1945 : (Cond.fieldLink "NumberHouseModel$WholeRows" (155 : Nat) "NumberHouseModel$WholeRows" "printed" "I") ∈ q_tbl := q_of9 25 rfl (by decide +kernel)
theorem d_19_42_50 : decode prog_19_method_42_code 50 = .ok (.aload_n 0, 1) := by decide +kernel
theorem d_19_42_51 : decode prog_19_method_42_code 51 = .ok (.getfield 35, 3) := by decide +kernel
theorem d_19_42_54 : decode prog_19_method_42_code 54 = .ok (.invokestatic 59, 3) := by decide +kernel
theorem d_19_42_67 : decode prog_19_method_42_code 67 = .ok (.aload_n 0, 1) := by decide +kernel
theorem d_19_42_68 : decode prog_19_method_42_code 68 = .ok (.getfield 35, 3) := by decide +kernel
theorem d_19_42_71 : decode prog_19_method_42_code 71 = .ok (.iload_n 2, 1) := by decide +kernel
theorem d_19_42_72 : decode prog_19_method_42_code 72 = .ok (.invokestatic 158, 3) := by decide +kernel
set_option maxRecDepth 100000 in
theorem w_2953 : (Cond.code ({ cls := "NumberHouseModel$WholeRows", name := "shrink", desc := "([II)I" } : MethodName) prog_19_method_12_code (5 : Nat) (some .int)) ∈ q_tbl := q_of13 73 rfl (by decide +kernel)
set_option maxRecDepth 100000 in
theorem w_2951 : (Cond.methodLink "NumberHouseModel$WholeRows" (158 : Nat) ({ cls := "NumberHouseModel$WholeRows", name := "shrink", desc := "([II)I" } : MethodName)) ∈ q_tbl := q_of13 71 rfl (by decide +kernel)
set_option maxRecDepth 100000 in
theorem w_2952 : (Cond.static ({ cls := "NumberHouseModel$WholeRows", name := "shrink", desc := "([II)I" } : MethodName)) ∈ q_tbl := q_of13 72 rfl (by decide +kernel)
theorem LS_WR_158 : q_LS "NumberHouseModel$WholeRows" 158 y_WR_shrink prog_19_method_12_code 5 (some .int) 2 := ⟨w_2953, w_15, w_2951, w_2952, ⟨by decide, by decide, by decide +kernel⟩⟩
theorem d_19_42_75 : decode prog_19_method_42_code 75 = .ok (.istore_n 3, 1) := by decide +kernel
theorem d_19_42_76 : decode prog_19_method_42_code 76 = .ok (.aload_n 0, 1) := by decide +kernel
theorem d_19_42_77 : decode prog_19_method_42_code 77 = .ok (.getfield 50, 3) := by decide +kernel
theorem d_19_42_80 : decode prog_19_method_42_code 80 = .ok (.aload_n 0, 1) := by decide +kernel
theorem d_19_42_81 : decode prog_19_method_42_code 81 = .ok (.getfield 155, 3) := by decide +kernel
theorem d_19_42_84 : decode prog_19_method_42_code 84 = .ok (.iload_n 3, 1) := by decide +kernel
theorem d_19_42_85 : decode prog_19_method_42_code 85 = .ok (.bipush 10, 2) := by decide +kernel
theorem d_19_42_87 : decode prog_19_method_42_code 87 = .ok (.if_icmp .ge 10, 3) := by decide +kernel
theorem d_19_42_97 : decode prog_19_method_42_code 97 = .ok (.bipush 97, 2) := by decide +kernel
theorem d_19_42_99 : decode prog_19_method_42_code 99 = .ok (.iload_n 3, 1) := by decide +kernel
theorem d_19_42_100 : decode prog_19_method_42_code 100 = .ok (.iadd, 1) := by decide +kernel
theorem d_19_42_101 : decode prog_19_method_42_code 101 = .ok (.bipush 10, 2) := by decide +kernel
theorem d_19_42_103 : decode prog_19_method_42_code 103 = .ok (.isub, 1) := by decide +kernel
theorem d_19_42_104 : decode prog_19_method_42_code 104 = .ok (.iastore, 1) := by decide +kernel
theorem d_19_42_105 : decode prog_19_method_42_code 105 = .ok (.aload_n 0, 1) := by decide +kernel
theorem d_19_42_106 : decode prog_19_method_42_code 106 = .ok (.dup, 1) := by decide +kernel
theorem d_19_42_107 : decode prog_19_method_42_code 107 = .ok (.getfield 155, 3) := by decide +kernel
theorem d_19_42_110 : decode prog_19_method_42_code 110 = .ok (.iconst 1, 1) := by decide +kernel
theorem d_19_42_111 : decode prog_19_method_42_code 111 = .ok (.iadd, 1) := by decide +kernel
theorem d_19_42_112 : decode prog_19_method_42_code 112 = .ok (.putfield 155, 3) := by decide +kernel
theorem d_19_42_115 : decode prog_19_method_42_code 115 = .ok (.goto (-65), 3) := by decide +kernel
theorem d_19_42_90 : decode prog_19_method_42_code 90 = .ok (.bipush 48, 2) := by decide +kernel
theorem d_19_42_92 : decode prog_19_method_42_code 92 = .ok (.iload_n 3, 1) := by decide +kernel
theorem d_19_42_93 : decode prog_19_method_42_code 93 = .ok (.iadd, 1) := by decide +kernel
theorem d_19_42_94 : decode prog_19_method_42_code 94 = .ok (.goto 10, 3) := by decide +kernel
theorem d_19_42_57 : decode prog_19_method_42_code 57 = .ok (.ifCond .gt 10, 3) := by decide +kernel
theorem d_19_42_60 : decode prog_19_method_42_code 60 = .ok (.aload_n 0, 1) := by decide +kernel
theorem d_19_42_61 : decode prog_19_method_42_code 61 = .ok (.getfield 155, 3) := by decide +kernel
theorem d_19_42_64 : decode prog_19_method_42_code 64 = .ok (.ifCond .ne 54, 3) := by decide +kernel
theorem d_19_42_118 : decode prog_19_method_42_code 118 = .ok (.aload_n 0, 1) := by decide +kernel
theorem d_19_42_119 : decode prog_19_method_42_code 119 = .ok (.getfield 16, 3) := by decide +kernel
theorem d_19_42_122 : decode prog_19_method_42_code 122 = .ok (.iload_n 1, 1) := by decide +kernel
theorem d_19_42_123 : decode prog_19_method_42_code 123 = .ok (.baload, 1) := by decide +kernel
theorem d_19_42_148 : decode prog_19_method_42_code 148 = .ok (.iconst 0, 1) := by decide +kernel
theorem d_19_42_149 : decode prog_19_method_42_code 149 = .ok (.istore_n 3, 1) := by decide +kernel
theorem d_19_42_150 : decode prog_19_method_42_code 150 = .ok (.aload_n 0, 1) := by decide +kernel
theorem d_19_42_151 : decode prog_19_method_42_code 151 = .ok (.getfield 155, 3) := by decide +kernel
theorem d_19_42_154 : decode prog_19_method_42_code 154 = .ok (.iconst 1, 1) := by decide +kernel
theorem d_19_42_155 : decode prog_19_method_42_code 155 = .ok (.isub, 1) := by decide +kernel
theorem d_19_42_156 : decode prog_19_method_42_code 156 = .ok (.istore 4, 2) := by decide +kernel
theorem d_19_42_158 : decode prog_19_method_42_code 158 = .ok (.iload_n 3, 1) := by decide +kernel
theorem d_19_42_159 : decode prog_19_method_42_code 159 = .ok (.iload 4, 2) := by decide +kernel
theorem d_19_42_161 : decode prog_19_method_42_code 161 = .ok (.if_icmp .ge 42, 3) := by decide +kernel
theorem d_19_42_203 : decode prog_19_method_42_code 203 = .ok (.aload_n 0, 1) := by decide +kernel
theorem d_19_42_204 : decode prog_19_method_42_code 204 = .ok (.getfield 155, 3) := by decide +kernel
theorem d_19_42_207 : decode prog_19_method_42_code 207 = .ok (.ireturn, 1) := by decide +kernel
theorem d_19_42_164 : decode prog_19_method_42_code 164 = .ok (.aload_n 0, 1) := by decide +kernel
theorem d_19_42_165 : decode prog_19_method_42_code 165 = .ok (.getfield 50, 3) := by decide +kernel
theorem d_19_42_168 : decode prog_19_method_42_code 168 = .ok (.iload_n 3, 1) := by decide +kernel
theorem d_19_42_169 : decode prog_19_method_42_code 169 = .ok (.iaload, 1) := by decide +kernel
theorem d_19_42_170 : decode prog_19_method_42_code 170 = .ok (.istore 5, 2) := by decide +kernel
theorem d_19_42_172 : decode prog_19_method_42_code 172 = .ok (.aload_n 0, 1) := by decide +kernel
theorem d_19_42_173 : decode prog_19_method_42_code 173 = .ok (.getfield 50, 3) := by decide +kernel
theorem d_19_42_176 : decode prog_19_method_42_code 176 = .ok (.iload_n 3, 1) := by decide +kernel
theorem d_19_42_177 : decode prog_19_method_42_code 177 = .ok (.aload_n 0, 1) := by decide +kernel
theorem d_19_42_178 : decode prog_19_method_42_code 178 = .ok (.getfield 50, 3) := by decide +kernel
theorem d_19_42_181 : decode prog_19_method_42_code 181 = .ok (.iload 4, 2) := by decide +kernel
theorem d_19_42_183 : decode prog_19_method_42_code 183 = .ok (.iaload, 1) := by decide +kernel
theorem d_19_42_184 : decode prog_19_method_42_code 184 = .ok (.iastore, 1) := by decide +kernel
theorem d_19_42_185 : decode prog_19_method_42_code 185 = .ok (.aload_n 0, 1) := by decide +kernel
theorem d_19_42_186 : decode prog_19_method_42_code 186 = .ok (.getfield 50, 3) := by decide +kernel
theorem d_19_42_189 : decode prog_19_method_42_code 189 = .ok (.iload 4, 2) := by decide +kernel
theorem d_19_42_191 : decode prog_19_method_42_code 191 = .ok (.iload 5, 2) := by decide +kernel
theorem d_19_42_193 : decode prog_19_method_42_code 193 = .ok (.iastore, 1) := by decide +kernel
theorem d_19_42_194 : decode prog_19_method_42_code 194 = .ok (.iinc 3 1, 3) := by decide +kernel
theorem d_19_42_197 : decode prog_19_method_42_code 197 = .ok (.iinc 4 (-1), 3) := by decide +kernel
theorem d_19_42_200 : decode prog_19_method_42_code 200 = .ok (.goto (-42), 3) := by decide +kernel
theorem d_19_42_124 : decode prog_19_method_42_code 124 = .ok (.ifCond .eq 24, 3) := by decide +kernel
theorem d_19_42_127 : decode prog_19_method_42_code 127 = .ok (.aload_n 0, 1) := by decide +kernel
theorem d_19_42_128 : decode prog_19_method_42_code 128 = .ok (.getfield 50, 3) := by decide +kernel
theorem d_19_42_131 : decode prog_19_method_42_code 131 = .ok (.aload_n 0, 1) := by decide +kernel
theorem d_19_42_132 : decode prog_19_method_42_code 132 = .ok (.getfield 155, 3) := by decide +kernel
theorem d_19_42_135 : decode prog_19_method_42_code 135 = .ok (.bipush 45, 2) := by decide +kernel
theorem d_19_42_137 : decode prog_19_method_42_code 137 = .ok (.iastore, 1) := by decide +kernel
theorem d_19_42_138 : decode prog_19_method_42_code 138 = .ok (.aload_n 0, 1) := by decide +kernel
theorem d_19_42_139 : decode prog_19_method_42_code 139 = .ok (.dup, 1) := by decide +kernel
theorem d_19_42_140 : decode prog_19_method_42_code 140 = .ok (.getfield 155, 3) := by decide +kernel
theorem d_19_42_143 : decode prog_19_method_42_code 143 = .ok (.iconst 1, 1) := by decide +kernel
theorem d_19_42_144 : decode prog_19_method_42_code 144 = .ok (.iadd, 1) := by decide +kernel
theorem d_19_42_145 : decode prog_19_method_42_code 145 = .ok (.putfield 155, 3) := by decide +kernel
theorem d_19_42_34 : decode prog_19_method_42_code 34 = .ok (.iconst 0, 1) := by decide +kernel
theorem d_19_42_35 : decode prog_19_method_42_code 35 = .ok (.ireturn, 1) := by decide +kernel
theorem d_19_42_19 : decode prog_19_method_42_code 19 = .ok (.iconst 1, 1) := by decide +kernel
theorem d_19_42_20 : decode prog_19_method_42_code 20 = .ok (.goto 4, 3) := by decide +kernel
theorem d_19_42_5 : decode prog_19_method_42_code 5 = .ok (.ifCond .ne 14, 3) := by decide +kernel
theorem d_19_42_8 : decode prog_19_method_42_code 8 = .ok (.iload_n 2, 1) := by decide +kernel
theorem d_19_42_9 : decode prog_19_method_42_code 9 = .ok (.iconst 2, 1) := by decide +kernel
theorem d_19_42_10 : decode prog_19_method_42_code 10 = .ok (.if_icmp .lt 9, 3) := by decide +kernel
theorem d_19_42_13 : decode prog_19_method_42_code 13 = .ok (.iload_n 2, 1) := by decide +kernel
theorem d_19_42_14 : decode prog_19_method_42_code 14 = .ok (.bipush 36, 2) := by decide +kernel
theorem d_19_42_16 : decode prog_19_method_42_code 16 = .ok (.if_icmp .le 7, 3) := by decide +kernel
theorem d_19_42_23 : decode prog_19_method_42_code 23 = .ok (.iconst 0, 1) := by decide +kernel
def y_WR_written : MethodName := ⟨"NumberHouseModel$WholeRows", "written", "(II)I"⟩
def F_WR_written_c72 (K_F_WR_written_L50 : Int32 → (Nat → Int32) → (Nat → Int32) → (Int32 × Int32 × Int32 × Int32 × Int32 × Int32 × Int32 × Int32 × (Nat → Int32) × (Nat → Int32))) (x2 : Int32) (x3 : Int32) (t0_0 : Int32) (t0_1 : Int32) (t0_2 : Int32) (t0_3 : Int32) (t0_4 : Int32) (t0_5 : Int32) (t0_6 : Int32) (t1_0 : (Nat → Int32)) (t2_0 : (Nat → Int32)) (t3_0 : (Nat → Int32)) (t4_0 : (Nat → Int32)) (lx33 : Int32) (lx61 : Int32) (lx62 : (Nat → Int32)) (lx63 : (Nat → Int32)) (p104 : (Int32 × (Nat → Int32))) : Int32 × Int32 × Int32 × Int32 × Int32 × Int32 × Int32 × Int32 × (Nat → Int32) × (Nat → Int32) := if (10 : Int32) ≤ (p104.1 : Int32) then (K_F_WR_written_L50 (lx61 + 1 : Int32) (p104.2 : (Nat → Int32)) (upd lx63 lx61.toNatClampNeg ((97 + (p104.1 : Int32) : Int32) - 10 : Int32) : (Nat → Int32))) else (K_F_WR_written_L50 (lx61 + 1 : Int32) (p104.2 : (Nat → Int32)) (upd lx63 lx61.toNatClampNeg (48 + (p104.1 : Int32) : Int32) : (Nat → Int32)))
def F_WR_written_J67 (K_F_WR_written_L50 : Int32 → (Nat → Int32) → (Nat → Int32) → (Int32 × Int32 × Int32 × Int32 × Int32 × Int32 × Int32 × Int32 × (Nat → Int32) × (Nat → Int32))) (x2 : Int32) (x3 : Int32) (t0_0 : Int32) (t0_1 : Int32) (t0_2 : Int32) (t0_3 : Int32) (t0_4 : Int32) (t0_5 : Int32) (t0_6 : Int32) (t1_0 : (Nat → Int32)) (t2_0 : (Nat → Int32)) (t3_0 : (Nat → Int32)) (t4_0 : (Nat → Int32)) (lx33 : Int32) (lx61 : Int32) (lx62 : (Nat → Int32)) (lx63 : (Nat → Int32)) : Int32 × Int32 × Int32 × Int32 × Int32 × Int32 × Int32 × Int32 × (Nat → Int32) × (Nat → Int32) := F_WR_written_c72 K_F_WR_written_L50 x2 x3 t0_0 t0_1 t0_2 t0_3 t0_4 t0_5 t0_6 t1_0 t2_0 t3_0 t4_0 lx33 lx61 lx62 lx63 ((F_WR_shrink (264 : Int32) x3 lx62) : (Int32 × (Nat → Int32)))
def F_WR_written_L158 (K_F_WR_written_L50 : Int32 → (Nat → Int32) → (Nat → Int32) → (Int32 × Int32 × Int32 × Int32 × Int32 × Int32 × Int32 × Int32 × (Nat → Int32) × (Nat → Int32))) (x2 : Int32) (x3 : Int32) (t0_0 : Int32) (t0_1 : Int32) (t0_2 : Int32) (t0_3 : Int32) (t0_4 : Int32) (t0_5 : Int32) (t0_6 : Int32) (t1_0 : (Nat → Int32)) (t2_0 : (Nat → Int32)) (t3_0 : (Nat → Int32)) (t4_0 : (Nat → Int32)) (lx33 : Int32) (lx61 : Int32) (lx62 : (Nat → Int32)) (lx63 : (Nat → Int32)) (lx152 : Int32) (lx153 : (Nat → Int32)) : Nat → Int32 → Int32 → (Nat → Int32) → (Int32 × Int32 × Int32 × Int32 × Int32 × Int32 × Int32 × Int32 × (Nat → Int32) × (Nat → Int32))
  | 0, _, _, _ => default
  | fm + 1, lx174, lx175, lx176 => if lx174 ≤ lx175 then ((lx152, lx33, t0_1, t0_2, t0_3, t0_4, t0_5, lx152, lx62, lx176)) else (F_WR_written_L158 K_F_WR_written_L50 x2 x3 t0_0 t0_1 t0_2 t0_3 t0_4 t0_5 t0_6 t1_0 t2_0 t3_0 t4_0 lx33 lx61 lx62 lx63 lx152 lx153 fm (lx174 + (-1) : Int32) (lx175 + 1 : Int32) (upd (upd lx176 lx175.toNatClampNeg (lx176 lx174.toNatClampNeg : Int32) : (Nat → Int32)) lx174.toNatClampNeg (lx176 lx175.toNatClampNeg : Int32) : (Nat → Int32)))
def F_WR_written_J148 (K_F_WR_written_L50 : Int32 → (Nat → Int32) → (Nat → Int32) → (Int32 × Int32 × Int32 × Int32 × Int32 × Int32 × Int32 × Int32 × (Nat → Int32) × (Nat → Int32))) (x2 : Int32) (x3 : Int32) (t0_0 : Int32) (t0_1 : Int32) (t0_2 : Int32) (t0_3 : Int32) (t0_4 : Int32) (t0_5 : Int32) (t0_6 : Int32) (t1_0 : (Nat → Int32)) (t2_0 : (Nat → Int32)) (t3_0 : (Nat → Int32)) (t4_0 : (Nat → Int32)) (lx33 : Int32) (lx61 : Int32) (lx62 : (Nat → Int32)) (lx63 : (Nat → Int32)) (lx152 : Int32) (lx153 : (Nat → Int32)) : Int32 × Int32 × Int32 × Int32 × Int32 × Int32 × Int32 × Int32 × (Nat → Int32) × (Nat → Int32) := F_WR_written_L158 K_F_WR_written_L50 x2 x3 t0_0 t0_1 t0_2 t0_3 t0_4 t0_5 t0_6 t1_0 t2_0 t3_0 t4_0 lx33 lx61 lx62 lx63 lx152 lx153 (((lx152 - 1 : Int32).toInt - ((-1))).toNat + 1) (lx152 - 1 : Int32) 0 lx153
def F_WR_written_L50 (x2 : Int32) (x3 : Int32) (t0_0 : Int32) (t0_1 : Int32) (t0_2 : Int32) (t0_3 : Int32) (t0_4 : Int32) (t0_5 : Int32) (t0_6 : Int32) (t1_0 : (Nat → Int32)) (t2_0 : (Nat → Int32)) (t3_0 : (Nat → Int32)) (t4_0 : (Nat → Int32)) (lx33 : Int32) : Nat → Int32 → (Nat → Int32) → (Nat → Int32) → (Int32 × Int32 × Int32 × Int32 × Int32 × Int32 × Int32 × Int32 × (Nat → Int32) × (Nat → Int32))
  | 0, _, _, _ => default
  | fm + 1, lx61, lx62, lx63 => if (0 : Int32) < ((F_WR_size (264 : Int32) lx62) : Int32) then (F_WR_written_J67 (F_WR_written_L50 x2 x3 t0_0 t0_1 t0_2 t0_3 t0_4 t0_5 t0_6 t1_0 t2_0 t3_0 t4_0 lx33 fm) x2 x3 t0_0 t0_1 t0_2 t0_3 t0_4 t0_5 t0_6 t1_0 t2_0 t3_0 t4_0 lx33 lx61 lx62 lx63) else (if lx61 = (0 : Int32) then (F_WR_written_J67 (F_WR_written_L50 x2 x3 t0_0 t0_1 t0_2 t0_3 t0_4 t0_5 t0_6 t1_0 t2_0 t3_0 t4_0 lx33 fm) x2 x3 t0_0 t0_1 t0_2 t0_3 t0_4 t0_5 t0_6 t1_0 t2_0 t3_0 t4_0 lx33 lx61 lx62 lx63) else (if (t2_0 x2.toNatClampNeg : Int32) = (0 : Int32) then (F_WR_written_J148 (F_WR_written_L50 x2 x3 t0_0 t0_1 t0_2 t0_3 t0_4 t0_5 t0_6 t1_0 t2_0 t3_0 t4_0 lx33 fm) x2 x3 t0_0 t0_1 t0_2 t0_3 t0_4 t0_5 t0_6 t1_0 t2_0 t3_0 t4_0 lx33 lx61 lx62 lx63 lx61 lx63) else (F_WR_written_J148 (F_WR_written_L50 x2 x3 t0_0 t0_1 t0_2 t0_3 t0_4 t0_5 t0_6 t1_0 t2_0 t3_0 t4_0 lx33 fm) x2 x3 t0_0 t0_1 t0_2 t0_3 t0_4 t0_5 t0_6 t1_0 t2_0 t3_0 t4_0 lx33 lx61 lx62 lx63 (lx61 + 1 : Int32) (upd lx63 lx61.toNatClampNeg 45 : (Nat → Int32)))))
def F_WR_written_J24 (x2 : Int32) (x3 : Int32) (t0_0 : Int32) (t0_1 : Int32) (t0_2 : Int32) (t0_3 : Int32) (t0_4 : Int32) (t0_5 : Int32) (t0_6 : Int32) (t1_0 : (Nat → Int32)) (t2_0 : (Nat → Int32)) (t3_0 : (Nat → Int32)) (t4_0 : (Nat → Int32)) (lx33 : Int32) : Int32 × Int32 × Int32 × Int32 × Int32 × Int32 × Int32 × Int32 × (Nat → Int32) × (Nat → Int32) := if lx33 ≤ (0 : Int32) then (F_WR_written_L50 x2 x3 t0_0 t0_1 t0_2 t0_3 t0_4 t0_5 t0_6 t1_0 t2_0 t3_0 t4_0 lx33 ((2100 - (0 : Int32).toInt).toNat + 1) 0 ((F_WR_take x2 (264 : Int32) lx33 t0_1 t0_2 t0_3 t0_4 t0_5 t0_6 t1_0 t3_0) : (Nat → Int32)) t4_0) else (((0 : Int32), lx33, t0_1, t0_2, t0_3, t0_4, t0_5, t0_6, t3_0, t4_0))
def F_WR_written_J19 (x2 : Int32) (x3 : Int32) (t0_0 : Int32) (t0_1 : Int32) (t0_2 : Int32) (t0_3 : Int32) (t0_4 : Int32) (t0_5 : Int32) (t0_6 : Int32) (t1_0 : (Nat → Int32)) (t2_0 : (Nat → Int32)) (t3_0 : (Nat → Int32)) (t4_0 : (Nat → Int32)) : Int32 × Int32 × Int32 × Int32 × Int32 × Int32 × Int32 × Int32 × (Nat → Int32) × (Nat → Int32) := F_WR_written_J24 x2 x3 t0_0 t0_1 t0_2 t0_3 t0_4 t0_5 t0_6 t1_0 t2_0 t3_0 t4_0 1
def F_WR_written (x2 : Int32) (x3 : Int32) (t0_0 : Int32) (t0_1 : Int32) (t0_2 : Int32) (t0_3 : Int32) (t0_4 : Int32) (t0_5 : Int32) (t0_6 : Int32) (t1_0 : (Nat → Int32)) (t2_0 : (Nat → Int32)) (t3_0 : (Nat → Int32)) (t4_0 : (Nat → Int32)) : Int32 × Int32 × Int32 × Int32 × Int32 × Int32 × Int32 × Int32 × (Nat → Int32) × (Nat → Int32) := if ((F_WR_no x2) : Int32) = (0 : Int32) then (if x3 < (2 : Int32) then (F_WR_written_J19 x2 x3 t0_0 t0_1 t0_2 t0_3 t0_4 t0_5 t0_6 t1_0 t2_0 t3_0 t4_0) else (if x3 ≤ (36 : Int32) then (F_WR_written_J24 x2 x3 t0_0 t0_1 t0_2 t0_3 t0_4 t0_5 t0_6 t1_0 t2_0 t3_0 t4_0 0) else (F_WR_written_J19 x2 x3 t0_0 t0_1 t0_2 t0_3 t0_4 t0_5 t0_6 t1_0 t2_0 t3_0 t4_0))) else (F_WR_written_J19 x2 x3 t0_0 t0_1 t0_2 t0_3 t0_4 t0_5 t0_6 t1_0 t2_0 t3_0 t4_0)
def S_WR_written_c72 (K_S_WR_written_L50 : Int32 → (Nat → Int32) → (Nat → Int32) → Prop) (x2 : Int32) (x3 : Int32) (t0_0 : Int32) (t0_1 : Int32) (t0_2 : Int32) (t0_3 : Int32) (t0_4 : Int32) (t0_5 : Int32) (t0_6 : Int32) (t1_0 : (Nat → Int32)) (t2_0 : (Nat → Int32)) (t3_0 : (Nat → Int32)) (t4_0 : (Nat → Int32)) (lx33 : Int32) (lx61 : Int32) (lx62 : (Nat → Int32)) (lx63 : (Nat → Int32)) (p104 : (Int32 × (Nat → Int32))) : Prop := if (10 : Int32) ≤ (p104.1 : Int32) then ((lx61.toInt ≤ 2099) ∧ (K_S_WR_written_L50 (lx61 + 1 : Int32) (p104.2 : (Nat → Int32)) (upd lx63 lx61.toNatClampNeg ((97 + (p104.1 : Int32) : Int32) - 10 : Int32) : (Nat → Int32)))) else ((lx61.toInt ≤ 2099) ∧ (K_S_WR_written_L50 (lx61 + 1 : Int32) (p104.2 : (Nat → Int32)) (upd lx63 lx61.toNatClampNeg (48 + (p104.1 : Int32) : Int32) : (Nat → Int32))))
def S_WR_written_J67 (K_S_WR_written_L50 : Int32 → (Nat → Int32) → (Nat → Int32) → Prop) (x2 : Int32) (x3 : Int32) (t0_0 : Int32) (t0_1 : Int32) (t0_2 : Int32) (t0_3 : Int32) (t0_4 : Int32) (t0_5 : Int32) (t0_6 : Int32) (t1_0 : (Nat → Int32)) (t2_0 : (Nat → Int32)) (t3_0 : (Nat → Int32)) (t4_0 : (Nat → Int32)) (lx33 : Int32) (lx61 : Int32) (lx62 : (Nat → Int32)) (lx63 : (Nat → Int32)) : Prop := (True ∧ S_WR_shrink (264 : Int32) x3 lx62) ∧ (S_WR_written_c72 K_S_WR_written_L50 x2 x3 t0_0 t0_1 t0_2 t0_3 t0_4 t0_5 t0_6 t1_0 t2_0 t3_0 t4_0 lx33 lx61 lx62 lx63 ((F_WR_shrink (264 : Int32) x3 lx62) : (Int32 × (Nat → Int32))))
def S_WR_written_L158 (K_S_WR_written_L50 : Int32 → (Nat → Int32) → (Nat → Int32) → Prop) (x2 : Int32) (x3 : Int32) (t0_0 : Int32) (t0_1 : Int32) (t0_2 : Int32) (t0_3 : Int32) (t0_4 : Int32) (t0_5 : Int32) (t0_6 : Int32) (t1_0 : (Nat → Int32)) (t2_0 : (Nat → Int32)) (t3_0 : (Nat → Int32)) (t4_0 : (Nat → Int32)) (lx33 : Int32) (lx61 : Int32) (lx62 : (Nat → Int32)) (lx63 : (Nat → Int32)) (lx152 : Int32) (lx153 : (Nat → Int32)) : Nat → Int32 → Int32 → (Nat → Int32) → Prop
  | 0, _, _, _ => False
  | fm + 1, lx174, lx175, lx176 => if lx174 ≤ lx175 then (True) else ((lx174.toInt ≤ 2099) ∧ (S_WR_written_L158 K_S_WR_written_L50 x2 x3 t0_0 t0_1 t0_2 t0_3 t0_4 t0_5 t0_6 t1_0 t2_0 t3_0 t4_0 lx33 lx61 lx62 lx63 lx152 lx153 fm (lx174 + (-1) : Int32) (lx175 + 1 : Int32) (upd (upd lx176 lx175.toNatClampNeg (lx176 lx174.toNatClampNeg : Int32) : (Nat → Int32)) lx174.toNatClampNeg (lx176 lx175.toNatClampNeg : Int32) : (Nat → Int32))))
def S_WR_written_J148 (K_S_WR_written_L50 : Int32 → (Nat → Int32) → (Nat → Int32) → Prop) (x2 : Int32) (x3 : Int32) (t0_0 : Int32) (t0_1 : Int32) (t0_2 : Int32) (t0_3 : Int32) (t0_4 : Int32) (t0_5 : Int32) (t0_6 : Int32) (t1_0 : (Nat → Int32)) (t2_0 : (Nat → Int32)) (t3_0 : (Nat → Int32)) (t4_0 : (Nat → Int32)) (lx33 : Int32) (lx61 : Int32) (lx62 : (Nat → Int32)) (lx63 : (Nat → Int32)) (lx152 : Int32) (lx153 : (Nat → Int32)) : Prop := S_WR_written_L158 K_S_WR_written_L50 x2 x3 t0_0 t0_1 t0_2 t0_3 t0_4 t0_5 t0_6 t1_0 t2_0 t3_0 t4_0 lx33 lx61 lx62 lx63 lx152 lx153 (((lx152 - 1 : Int32).toInt - ((-1))).toNat + 1) (lx152 - 1 : Int32) 0 lx153
def S_WR_written_L50 (x2 : Int32) (x3 : Int32) (t0_0 : Int32) (t0_1 : Int32) (t0_2 : Int32) (t0_3 : Int32) (t0_4 : Int32) (t0_5 : Int32) (t0_6 : Int32) (t1_0 : (Nat → Int32)) (t2_0 : (Nat → Int32)) (t3_0 : (Nat → Int32)) (t4_0 : (Nat → Int32)) (lx33 : Int32) : Nat → Int32 → (Nat → Int32) → (Nat → Int32) → Prop
  | 0, _, _, _ => False
  | fm + 1, lx61, lx62, lx63 => if (0 : Int32) < ((F_WR_size (264 : Int32) lx62) : Int32) then (S_WR_written_J67 (S_WR_written_L50 x2 x3 t0_0 t0_1 t0_2 t0_3 t0_4 t0_5 t0_6 t1_0 t2_0 t3_0 t4_0 lx33 fm) x2 x3 t0_0 t0_1 t0_2 t0_3 t0_4 t0_5 t0_6 t1_0 t2_0 t3_0 t4_0 lx33 lx61 lx62 lx63) else (if lx61 = (0 : Int32) then (S_WR_written_J67 (S_WR_written_L50 x2 x3 t0_0 t0_1 t0_2 t0_3 t0_4 t0_5 t0_6 t1_0 t2_0 t3_0 t4_0 lx33 fm) x2 x3 t0_0 t0_1 t0_2 t0_3 t0_4 t0_5 t0_6 t1_0 t2_0 t3_0 t4_0 lx33 lx61 lx62 lx63) else ((0 ≤ x2.toInt) ∧ ((x2.toInt ≤ 10) ∧ (if (t2_0 x2.toNatClampNeg : Int32) = (0 : Int32) then (S_WR_written_J148 (S_WR_written_L50 x2 x3 t0_0 t0_1 t0_2 t0_3 t0_4 t0_5 t0_6 t1_0 t2_0 t3_0 t4_0 lx33 fm) x2 x3 t0_0 t0_1 t0_2 t0_3 t0_4 t0_5 t0_6 t1_0 t2_0 t3_0 t4_0 lx33 lx61 lx62 lx63 lx61 lx63) else ((lx61.toInt ≤ 2099) ∧ (S_WR_written_J148 (S_WR_written_L50 x2 x3 t0_0 t0_1 t0_2 t0_3 t0_4 t0_5 t0_6 t1_0 t2_0 t3_0 t4_0 lx33 fm) x2 x3 t0_0 t0_1 t0_2 t0_3 t0_4 t0_5 t0_6 t1_0 t2_0 t3_0 t4_0 lx33 lx61 lx62 lx63 (lx61 + 1 : Int32) (upd lx63 lx61.toNatClampNeg 45 : (Nat → Int32))))))))
def S_WR_written_J24 (x2 : Int32) (x3 : Int32) (t0_0 : Int32) (t0_1 : Int32) (t0_2 : Int32) (t0_3 : Int32) (t0_4 : Int32) (t0_5 : Int32) (t0_6 : Int32) (t1_0 : (Nat → Int32)) (t2_0 : (Nat → Int32)) (t3_0 : (Nat → Int32)) (t4_0 : (Nat → Int32)) (lx33 : Int32) : Prop := if lx33 ≤ (0 : Int32) then ((True ∧ S_WR_take x2 (264 : Int32) lx33 t0_1 t0_2 t0_3 t0_4 t0_5 t0_6 t1_0 t3_0) ∧ (S_WR_written_L50 x2 x3 t0_0 t0_1 t0_2 t0_3 t0_4 t0_5 t0_6 t1_0 t2_0 t3_0 t4_0 lx33 ((2100 - (0 : Int32).toInt).toNat + 1) 0 ((F_WR_take x2 (264 : Int32) lx33 t0_1 t0_2 t0_3 t0_4 t0_5 t0_6 t1_0 t3_0) : (Nat → Int32)) t4_0)) else (True)
def S_WR_written_J19 (x2 : Int32) (x3 : Int32) (t0_0 : Int32) (t0_1 : Int32) (t0_2 : Int32) (t0_3 : Int32) (t0_4 : Int32) (t0_5 : Int32) (t0_6 : Int32) (t1_0 : (Nat → Int32)) (t2_0 : (Nat → Int32)) (t3_0 : (Nat → Int32)) (t4_0 : (Nat → Int32)) : Prop := S_WR_written_J24 x2 x3 t0_0 t0_1 t0_2 t0_3 t0_4 t0_5 t0_6 t1_0 t2_0 t3_0 t4_0 1
def S_WR_written (x2 : Int32) (x3 : Int32) (t0_0 : Int32) (t0_1 : Int32) (t0_2 : Int32) (t0_3 : Int32) (t0_4 : Int32) (t0_5 : Int32) (t0_6 : Int32) (t1_0 : (Nat → Int32)) (t2_0 : (Nat → Int32)) (t3_0 : (Nat → Int32)) (t4_0 : (Nat → Int32)) : Prop := if ((F_WR_no x2) : Int32) = (0 : Int32) then (if x3 < (2 : Int32) then (S_WR_written_J19 x2 x3 t0_0 t0_1 t0_2 t0_3 t0_4 t0_5 t0_6 t1_0 t2_0 t3_0 t4_0) else (if x3 ≤ (36 : Int32) then (S_WR_written_J24 x2 x3 t0_0 t0_1 t0_2 t0_3 t0_4 t0_5 t0_6 t1_0 t2_0 t3_0 t4_0 0) else (S_WR_written_J19 x2 x3 t0_0 t0_1 t0_2 t0_3 t0_4 t0_5 t0_6 t1_0 t2_0 t3_0 t4_0))) else (S_WR_written_J19 x2 x3 t0_0 t0_1 t0_2 t0_3 t0_4 t0_5 t0_6 t1_0 t2_0 t3_0 t4_0)
set_option maxRecDepth 100000 in
set_option maxHeartbeats 4000000 in
theorem X_WR_written (l : Launch) (D : va_G) (g : Nat → ClassId) (q : Nat → Nat) (ws : va_W) (x2 : Int32) (x3 : Int32) (hI : q_I (msh g q) q ws) (t0_0 : Int32) (t0_1 : Int32) (t0_2 : Int32) (t0_3 : Int32) (t0_4 : Int32) (t0_5 : Int32) (t0_6 : Int32) (hT0 : ws[119]? = (some (q 119, .inr (13, [.int t0_0, .int t0_1, .ref (q 120), .int t0_2, .ref (q 121), .ref (q 122), .ref (q 123), .int t0_3, .ref (q 124), .ref (q 125), .ref (q 126), .ref (q 127), .ref (q 128), .ref (q 129), .ref (q 130), .ref (q 131), .int t0_4, .int t0_5, .ref (q 132), .ref (q 133), .int t0_6])) : Option (Nat × va_E))) (t1_0 : (Nat → Int32)) (hT1 : ws[121]? = (some (q 121, .inl (g 0, (1408 : Int32).toNatClampNeg, .inl t1_0)) : Option (Nat × va_E))) (t2_0 : (Nat → Int32)) (hT2 : ws[122]? = (some (q 122, .inl (g 3, 11, .inl t2_0)) : Option (Nat × va_E))) (t3_0 : (Nat → Int32)) (hT3 : ws[128]? = (some (q 128, .inl (g 0, (264 : Int32).toNatClampNeg, .inl t3_0)) : Option (Nat × va_E))) (t4_0 : (Nat → Int32)) (hT4 : ws[133]? = (some (q 133, .inl (g 0, (2100 : Int32).toNatClampNeg, .inl t4_0)) : Option (Nat × va_E))) (hS : True ∧ S_WR_written x2 x3 t0_0 t0_1 t0_2 t0_3 t0_4 t0_5 t0_6 t1_0 t2_0 t3_0 t4_0) : q_mI l y_WR_written prog_19_method_42_code 6 (.int) 3 0 0 D g [.ref (q 119), .int x2, .int x3] ws (fun r u => q_I (msh g q) q u ∧ q_un ws u [119, 128, 133] ∧ ∃ (u0_0 : Int32) (u0_1 : Int32) (u0_2 : Int32) (u0_3 : Int32) (u0_4 : Int32) (u0_5 : Int32) (u0_6 : Int32) (u3_0 : (Nat → Int32)) (u4_0 : (Nat → Int32)), u[119]? = (some (q 119, .inr (13, [.int u0_0, .int u0_1, .ref (q 120), .int u0_2, .ref (q 121), .ref (q 122), .ref (q 123), .int u0_3, .ref (q 124), .ref (q 125), .ref (q 126), .ref (q 127), .ref (q 128), .ref (q 129), .ref (q 130), .ref (q 131), .int u0_4, .int u0_5, .ref (q 132), .ref (q 133), .int u0_6])) : Option (Nat × va_E)) ∧ u[128]? = (some (q 128, .inl (g 0, (264 : Int32).toNatClampNeg, .inl u3_0)) : Option (Nat × va_E)) ∧ u[133]? = (some (q 133, .inl (g 0, (2100 : Int32).toNatClampNeg, .inl u4_0)) : Option (Nat × va_E)) ∧ (0 ≤ r.toInt) ∧ (0 ≤ u0_0.toInt) ∧ (u0_0.toInt ≤ 1) ∧ (u0_6.toInt ≤ 2100) ∧ (t0_1.toInt ≤ u0_1.toInt) ∧ (u0_1.toInt ≤ t0_1.toInt) ∧ (t0_2.toInt ≤ u0_2.toInt) ∧ (u0_2.toInt ≤ t0_2.toInt) ∧ (t0_3.toInt ≤ u0_3.toInt) ∧ (u0_3.toInt ≤ t0_3.toInt) ∧ (t0_4.toInt ≤ u0_4.toInt) ∧ (u0_4.toInt ≤ t0_4.toInt) ∧ (t0_5.toInt ≤ u0_5.toInt) ∧ (u0_5.toInt ≤ t0_5.toInt) ∧ (t0_6.toInt ≤ u0_6.toInt + 2099) ∧ (r.toInt ≤ u0_6.toInt) ∧ (r, u0_0, u0_1, u0_2, u0_3, u0_4, u0_5, u0_6, u3_0, u4_0) = (F_WR_written x2 x3 t0_0 t0_1 t0_2 t0_3 t0_4 t0_5 t0_6 t1_0 t2_0 t3_0 t4_0)) := by
  intro sz
  refine q_into (by decide) (Nat.le_of_ble_eq_true rfl) ?_
  intro p e s m below meth c ls hsz C0 V hl
  have hx := C0.1
  have hb := C0.2.1
  obtain ⟨yy0_0, yy0_1, yy0_2, yy0_3, yy0_4, yy0_5, yy0_6, hh0, btt0_2, btt0_3, btt0_4, btt0_5, btt0_6⟩ := n_o119 hI
  obtain ⟨rfl, rfl, rfl, rfl, rfl, rfl, rfl⟩ : t0_0 = yy0_0 ∧ t0_1 = yy0_1 ∧ t0_2 = yy0_2 ∧ t0_3 = yy0_3 ∧ t0_4 = yy0_4 ∧ t0_5 = yy0_5 ∧ t0_6 = yy0_6 := by have z := Option.some.inj (hT0.symm.trans hh0); simpa using z
  replace btt0_2 : q_F (0 ≤ t0_2.toInt ∧ t0_2.toInt ≤ 4100) := btt0_2
  replace btt0_3 : q_F (0 ≤ t0_3.toInt ∧ t0_3.toInt ≤ 1) := btt0_3
  replace btt0_4 : q_F (0 ≤ t0_4.toInt ∧ t0_4.toInt ≤ 1) := btt0_4
  replace btt0_5 : q_F (0 ≤ t0_5.toInt ∧ t0_5.toInt ≤ 1) := btt0_5
  replace btt0_6 : q_F (0 ≤ t0_6.toInt ∧ t0_6.toInt ≤ 2100) := btt0_6
  have hF : q_un ws ws [119, 128, 133] := q_u0
  have hl : lv_has ls 6 [(0, .ref (q 119)), (1, .int x2), (2, .int x3)] := hl
  refine lv_aload_n hx hb d_19_42_0 rfl (lv_at hl 0 rfl) ?_
  refine lv_iload_n hx hb d_19_42_1 rfl (lv_at hl 1 rfl) ?_
  refine q_goi V (q_runS (As := [.int x2]) (rest := [.ref (q 119)]) (d := 1) (mc := 0) (ms := 0) C0 V rfl LS_WR_91 (X_WR_no l D g q ws  x2 hI   _) rfl hl.1 rfl (Nat.le_of_ble_eq_true rfl) ⟨by decide, by decide⟩ ⟨Nat.le_of_ble_eq_true rfl, Nat.le_of_ble_eq_true rfl⟩ d_19_42_2) (fun a28 u26 H locs hp27 V => ?_)
  obtain ⟨rfl, b29, b30, hE31⟩ := hp27
  have e32 : a28 = (F_WR_no x2) := hE31
  replace b29 : q_F (0 ≤ a28.toInt) := b29
  replace b30 : q_F (a28.toInt ≤ 1) := b30
  refine q_join (X := Int32) (fun z H locs ls _ => q_F (0 ≤ z.toInt) ∧ q_F (z.toInt ≤ 1) ∧ q_Wd D g (va_A ws sz) s ws H locs ∧ lv_has ls 6 [(0, .ref (q 119)), (1, .int x2), (2, .int x3)] ∧ F_WR_written_J24 x2 x3 t0_0 t0_1 t0_2 t0_3 t0_4 t0_5 t0_6 t1_0 t2_0 t3_0 t4_0 z = (F_WR_written x2 x3 t0_0 t0_1 t0_2 t0_3 t0_4 t0_5 t0_6 t1_0 t2_0 t3_0 t4_0) ∧ True ∧ S_WR_written_J24 x2 x3 t0_0 t0_1 t0_2 t0_3 t0_4 t0_5 t0_6 t1_0 t2_0 t3_0 t4_0 z) (fun z => [.int z, .ref (q 119)]) 24 0 0 ?_ ?_
  ·
    rintro lx33 H locs ls _ ⟨i40, i41, V, hl, hR42, hS43⟩
    replace i40 : q_F (0 ≤ lx33.toInt) := i40
    replace i41 : q_F (lx33.toInt ≤ 1) := i41
    replace hl : lv_has ls 6 [(0, .ref (q 119)), (1, .int x2), (2, .int x3)] := hl
    refine q_put (ci := 13) (j := 0) (v := .int lx33) (ty := .int) C0 V i_WR o_WR n_WR rfl rfl hT0 (by decide) w_1921 rfl rfl rfl rfl (Nat.le_of_ble_eq_true rfl) d_19_42_24 (fun H locs w47 hu48 hT0 V => ?_)
    replace hT0 : w47[119]? = (some (q 119, .inr (13, [.int lx33, .int t0_1, .ref (q 120), .int t0_2, .ref (q 121), .ref (q 122), .ref (q 123), .int t0_3, .ref (q 124), .ref (q 125), .ref (q 126), .ref (q 127), .ref (q 128), .ref (q 129), .ref (q 130), .ref (q 131), .int t0_4, .int t0_5, .ref (q 132), .ref (q 133), .int t0_6])) : Option (Nat × va_E)) := hT0
    replace hI := n_p119 hI hu48 hT0 ⟨(by have t1 : 0 ≤ t0_2.toInt ∧ t0_2.toInt ≤ 4100 := btt0_2; omega), (by have t1 : 0 ≤ t0_2.toInt ∧ t0_2.toInt ≤ 4100 := btt0_2; omega)⟩ ⟨(by have t1 : 0 ≤ t0_3.toInt ∧ t0_3.toInt ≤ 1 := btt0_3; omega), (by have t1 : 0 ≤ t0_3.toInt ∧ t0_3.toInt ≤ 1 := btt0_3; omega)⟩ ⟨(by have t1 : 0 ≤ t0_4.toInt ∧ t0_4.toInt ≤ 1 := btt0_4; omega), (by have t1 : 0 ≤ t0_4.toInt ∧ t0_4.toInt ≤ 1 := btt0_4; omega)⟩ ⟨(by have t1 : 0 ≤ t0_5.toInt ∧ t0_5.toInt ≤ 1 := btt0_5; omega), (by have t1 : 0 ≤ t0_5.toInt ∧ t0_5.toInt ≤ 1 := btt0_5; omega)⟩ ⟨(by have t1 : 0 ≤ t0_6.toInt ∧ t0_6.toInt ≤ 2100 := btt0_6; omega), (by have t1 : 0 ≤ t0_6.toInt ∧ t0_6.toInt ≤ 2100 := btt0_6; omega)⟩
    replace hT1 := (hu48 _ (by decide)).trans hT1
    replace hT2 := (hu48 _ (by decide)).trans hT2
    replace hT3 := (hu48 _ (by decide)).trans hT3
    replace hT4 := (hu48 _ (by decide)).trans hT4
    replace hF := q_us hF hu48 (by simp)
    refine lv_aload_n hx hb d_19_42_27 rfl (lv_at hl 0 rfl) ?_
    refine q_get (ci := 13) (j := 0) (v := .int lx33) C0 V i_WR rfl rfl hT0 (by decide) w_1921 rfl d_19_42_28 ?_
    refine lv_if_le (tgt := 36) hx hb d_19_42_31 (by decide) (fun c49 => ?_) (fun c49 => ?_)
    ·
      have b50 : q_F (lx33.toInt ≤ 0) := (q_leI c49)
      refine lv_aload_n hx hb d_19_42_36 rfl (lv_at hl 0 rfl) ?_
      refine lv_iload_n hx hb d_19_42_37 rfl (lv_at hl 1 rfl) ?_
      refine lv_aload_n hx hb d_19_42_38 rfl (lv_at hl 0 rfl) ?_
      refine q_get (ci := 13) (j := 12) (v := .ref (q 128)) C0 V i_WR rfl rfl hT0 (by decide) w_1936 rfl d_19_42_39 ?_
      have ob51 : True ∧ S_WR_take x2 (264 : Int32) lx33 t0_1 t0_2 t0_3 t0_4 t0_5 t0_6 t1_0 t3_0 := (by have h := hS43; rw [S_WR_written_J24.eq_1] at h; rw [if_pos c49] at h; with_reducible exact h.2.1)
      refine q_gov V (q_runV (As := [.int x2, .ref (q 128)]) (rest := []) (d := 1) (mc := 0) (ms := 0) (ci := 13) C0 V rfl LV_WR_107 (X_WR_take l D g q w47 128 264 (n_r128 g q) x2 (by decide) hI lx33 t0_1 t0_2 t0_3 t0_4 t0_5 t0_6 hT0 t1_0 hT1 t3_0 hT3 ob51 _) rfl rfl hT0 rfl hl.1 rfl (Nat.le_of_ble_eq_true rfl) ⟨by decide, by decide⟩ ⟨Nat.le_of_ble_eq_true rfl, Nat.le_of_ble_eq_true rfl⟩ d_19_42_42) (fun u52 H locs hp53 V => ?_)
      obtain ⟨hI, hu57, f54, hA55, hE56⟩ := hp53
      replace hA55 : u52[128]? = (some (q 128, .inl (g 0, (264 : Int32).toNatClampNeg, .inl f54)) : Option (Nat × va_E)) := hA55
      have e58 : f54 = (F_WR_take x2 (264 : Int32) lx33 t0_1 t0_2 t0_3 t0_4 t0_5 t0_6 t1_0 t3_0) := hE56
      replace hT0 := (hu57 _ (by decide)).trans hT0
      replace hT1 := (hu57 _ (by decide)).trans hT1
      replace hT2 := (hu57 _ (by decide)).trans hT2
      replace hT4 := (hu57 _ (by decide)).trans hT4
      replace hF := q_uc hF hu57 (by simp)
      refine lv_aload_n hx hb d_19_42_45 rfl (lv_at hl 0 rfl) ?_
      refine lv_iconst (v := 0) hx hb d_19_42_46 (by decide) ?_
      refine q_put (ci := 13) (j := 20) (v := .int 0) (ty := .int) C0 V i_WR o_WR n_WR rfl rfl hT0 (by decide) w_1945 rfl rfl rfl rfl (Nat.le_of_ble_eq_true rfl) d_19_42_47 (fun H locs w59 hu60 hT0 V => ?_)
      replace hT0 : w59[119]? = (some (q 119, .inr (13, [.int lx33, .int t0_1, .ref (q 120), .int t0_2, .ref (q 121), .ref (q 122), .ref (q 123), .int t0_3, .ref (q 124), .ref (q 125), .ref (q 126), .ref (q 127), .ref (q 128), .ref (q 129), .ref (q 130), .ref (q 131), .int t0_4, .int t0_5, .ref (q 132), .ref (q 133), .int 0])) : Option (Nat × va_E)) := hT0
      replace hI := n_p119 hI hu60 hT0 ⟨(by have t1 : 0 ≤ t0_2.toInt ∧ t0_2.toInt ≤ 4100 := btt0_2; omega), (by have t1 : 0 ≤ t0_2.toInt ∧ t0_2.toInt ≤ 4100 := btt0_2; omega)⟩ ⟨(by have t1 : 0 ≤ t0_3.toInt ∧ t0_3.toInt ≤ 1 := btt0_3; omega), (by have t1 : 0 ≤ t0_3.toInt ∧ t0_3.toInt ≤ 1 := btt0_3; omega)⟩ ⟨(by have t1 : 0 ≤ t0_4.toInt ∧ t0_4.toInt ≤ 1 := btt0_4; omega), (by have t1 : 0 ≤ t0_4.toInt ∧ t0_4.toInt ≤ 1 := btt0_4; omega)⟩ ⟨(by have t1 : 0 ≤ t0_5.toInt ∧ t0_5.toInt ≤ 1 := btt0_5; omega), (by have t1 : 0 ≤ t0_5.toInt ∧ t0_5.toInt ≤ 1 := btt0_5; omega)⟩ ⟨(by have z9 : (0 : Int32).toInt = 0 := rfl; omega), (by have z9 : (0 : Int32).toInt = 0 := rfl; omega)⟩
      replace hT1 := (hu60 _ (by decide)).trans hT1
      replace hT2 := (hu60 _ (by decide)).trans hT2
      replace hA55 := (hu60 _ (by decide)).trans hA55
      replace hT4 := (hu60 _ (by decide)).trans hT4
      replace hF := q_us hF hu60 (by simp)
      refine q_loop (X := Int32 × (Nat → Int32) × (Nat → Int32)) (fun z H locs ls w67 => q_F (z.1.toInt ≤ 2100) ∧ q_F (lx33.toInt ≤ z.1.toInt) ∧ q_Wd D g (va_A ws sz) s w67 H locs ∧ lv_has ls 6 [(0, .ref (q 119)), (1, .int x2), (2, .int x3)] ∧ q_I (msh g q) q w67 ∧ q_un ws w67 [119, 128, 133] ∧ w67[119]? = (some (q 119, .inr (13, [.int lx33, .int t0_1, .ref (q 120), .int t0_2, .ref (q 121), .ref (q 122), .ref (q 123), .int t0_3, .ref (q 124), .ref (q 125), .ref (q 126), .ref (q 127), .ref (q 128), .ref (q 129), .ref (q 130), .ref (q 131), .int t0_4, .int t0_5, .ref (q 132), .ref (q 133), .int z.1])) : Option (Nat × va_E)) ∧ w67[121]? = (some (q 121, .inl (g 0, (1408 : Int32).toNatClampNeg, .inl t1_0)) : Option (Nat × va_E)) ∧ w67[122]? = (some (q 122, .inl (g 3, 11, .inl t2_0)) : Option (Nat × va_E)) ∧ w67[128]? = (some (q 128, .inl (g 0, (264 : Int32).toNatClampNeg, .inl z.2.1)) : Option (Nat × va_E)) ∧ w67[133]? = (some (q 133, .inl (g 0, (2100 : Int32).toNatClampNeg, .inl z.2.2)) : Option (Nat × va_E)) ∧ (∃ n, (2100 - z.1.toInt).toNat < n ∧ F_WR_written_L50 x2 x3 t0_0 t0_1 t0_2 t0_3 t0_4 t0_5 t0_6 t1_0 t2_0 t3_0 t4_0 lx33 n z.1 z.2.1 z.2.2 = (F_WR_written x2 x3 t0_0 t0_1 t0_2 t0_3 t0_4 t0_5 t0_6 t1_0 t2_0 t3_0 t4_0) ∧ True ∧ S_WR_written_L50 x2 x3 t0_0 t0_1 t0_2 t0_3 t0_4 t0_5 t0_6 t1_0 t2_0 t3_0 t4_0 lx33 n z.1 z.2.1 z.2.2)) (fun z => (2100 - z.1.toInt).toNat) ?_ ((0 : Int32), (f54 : (Nat → Int32)), (t4_0 : (Nat → Int32))) _ _ _ w59 ⟨(show q_F (0 ≤ 2100) from (show 0 ≤ 2100 from by omega)), (show q_F (lx33.toInt ≤ 0) from (show lx33.toInt ≤ 0 from by have t1 : lx33.toInt ≤ 0 := b50; omega)), V, q_lw hl (q_lw1 0 rfl (q_lw1 1 rfl (q_lw1 2 rfl q_lw0))), hI, hF, hT0, hT1, hT2, hA55, hT4, ⟨((2100 - (0 : Int32).toInt).toNat + 1), Nat.lt_succ_self _, (show F_WR_written_L50 x2 x3 t0_0 t0_1 t0_2 t0_3 t0_4 t0_5 t0_6 t1_0 t2_0 t3_0 t4_0 lx33 ((2100 - (0 : Int32).toInt).toNat + 1) 0 f54 t4_0 = (F_WR_written x2 x3 t0_0 t0_1 t0_2 t0_3 t0_4 t0_5 t0_6 t1_0 t2_0 t3_0 t4_0) from Eq.trans (by rw [e58, F_WR_written_J24.eq_1, if_pos c49]) hR42), (show True ∧ S_WR_written_L50 x2 x3 t0_0 t0_1 t0_2 t0_3 t0_4 t0_5 t0_6 t1_0 t2_0 t3_0 t4_0 lx33 ((2100 - (0 : Int32).toInt).toNat + 1) 0 f54 t4_0 from (by rw [e58]; have h := hS43; rw [S_WR_written_J24.eq_1] at h; rw [if_pos c49] at h; replace h := q_s2 h; with_reducible exact h))⟩⟩
      rintro ⟨lx61, lx62, lx63⟩ H locs ls w67 ⟨i64, i65, V, hl, hI, hF, hO68, hO69, hO70, hO71, hO72, ⟨fu75, hf76, hR73, hS74⟩⟩ ih66
      obtain ⟨fm77, rfl⟩ : ∃ m, fu75 = m + 1 := ⟨fu75 - 1, by omega⟩
      replace i64 : q_F (lx61.toInt ≤ 2100) := i64
      replace i65 : q_F (lx33.toInt ≤ lx61.toInt) := i65
      replace hl : lv_has ls 6 [(0, .ref (q 119)), (1, .int x2), (2, .int x3)] := hl
      replace hO68 : w67[119]? = (some (q 119, .inr (13, [.int lx33, .int t0_1, .ref (q 120), .int t0_2, .ref (q 121), .ref (q 122), .ref (q 123), .int t0_3, .ref (q 124), .ref (q 125), .ref (q 126), .ref (q 127), .ref (q 128), .ref (q 129), .ref (q 130), .ref (q 131), .int t0_4, .int t0_5, .ref (q 132), .ref (q 133), .int lx61])) : Option (Nat × va_E)) := hO68
      replace hO69 : w67[121]? = (some (q 121, .inl (g 0, (1408 : Int32).toNatClampNeg, .inl t1_0)) : Option (Nat × va_E)) := hO69
      replace hO70 : w67[122]? = (some (q 122, .inl (g 3, 11, .inl t2_0)) : Option (Nat × va_E)) := hO70
      replace hO71 : w67[128]? = (some (q 128, .inl (g 0, (264 : Int32).toNatClampNeg, .inl lx62)) : Option (Nat × va_E)) := hO71
      replace hO72 : w67[133]? = (some (q 133, .inl (g 0, (2100 : Int32).toNatClampNeg, .inl lx63)) : Option (Nat × va_E)) := hO72
      refine lv_aload_n hx hb d_19_42_50 rfl (lv_at hl 0 rfl) ?_
      refine q_get (ci := 13) (j := 12) (v := .ref (q 128)) C0 V i_WR rfl rfl hO68 (by decide) w_1936 rfl d_19_42_51 ?_
      refine q_goi V (q_runS (As := [.ref (q 128)]) (rest := []) (d := 1) (mc := 0) (ms := 0) C0 V rfl LS_WR_59 (X_WR_size l D g q w67 128 264 (n_r128 g q)  hI lx62 hO71  _) rfl hl.1 rfl (Nat.le_of_ble_eq_true rfl) ⟨by decide, by decide⟩ ⟨Nat.le_of_ble_eq_true rfl, Nat.le_of_ble_eq_true rfl⟩ d_19_42_54) (fun a80 u78 H locs hp79 V => ?_)
      obtain ⟨rfl, b81, b82, hE83⟩ := hp79
      have e84 : a80 = (F_WR_size (264 : Int32) lx62) := hE83
      replace b81 : q_F (0 ≤ a80.toInt) := b81
      replace b82 : q_F (a80.toInt ≤ 264) := b82
      refine q_join (X := Unit) (fun z H locs ls _ => q_Wd D g (va_A ws sz) s w67 H locs ∧ lv_has ls 6 [(0, .ref (q 119)), (1, .int x2), (2, .int x3)] ∧ F_WR_written_J67 (F_WR_written_L50 x2 x3 t0_0 t0_1 t0_2 t0_3 t0_4 t0_5 t0_6 t1_0 t2_0 t3_0 t4_0 lx33 fm77) x2 x3 t0_0 t0_1 t0_2 t0_3 t0_4 t0_5 t0_6 t1_0 t2_0 t3_0 t4_0 lx33 lx61 lx62 lx63 = (F_WR_written x2 x3 t0_0 t0_1 t0_2 t0_3 t0_4 t0_5 t0_6 t1_0 t2_0 t3_0 t4_0) ∧ True ∧ S_WR_written_J67 (S_WR_written_L50 x2 x3 t0_0 t0_1 t0_2 t0_3 t0_4 t0_5 t0_6 t1_0 t2_0 t3_0 t4_0 lx33 fm77) x2 x3 t0_0 t0_1 t0_2 t0_3 t0_4 t0_5 t0_6 t1_0 t2_0 t3_0 t4_0 lx33 lx61 lx62 lx63) (fun z => []) 67 0 0 ?_ ?_
      ·
        rintro _ H locs ls _ ⟨V, hl, hR91, hS92⟩
        replace hl : lv_has ls 6 [(0, .ref (q 119)), (1, .int x2), (2, .int x3)] := hl
        refine lv_aload_n hx hb d_19_42_67 rfl (lv_at hl 0 rfl) ?_
        refine q_get (ci := 13) (j := 12) (v := .ref (q 128)) C0 V i_WR rfl rfl hO68 (by decide) w_1936 rfl d_19_42_68 ?_
        refine lv_iload_n hx hb d_19_42_71 rfl (lv_at hl 2 rfl) ?_
        have ob96 : True ∧ S_WR_shrink (264 : Int32) x3 lx62 := (by have h := hS92; rw [S_WR_written_J67.eq_1] at h; with_reducible exact h.2.1)
        refine q_goi V (q_runS (As := [.ref (q 128), .int x3]) (rest := []) (d := 2) (mc := 0) (ms := 0) C0 V rfl LS_WR_158 (X_WR_shrink l D g q w67 128 264 (n_r128 g q) x3 hI lx62 hO71 ob96 _) rfl hl.1 rfl (Nat.le_of_ble_eq_true rfl) ⟨by decide, by decide⟩ ⟨Nat.le_of_ble_eq_true rfl, Nat.le_of_ble_eq_true rfl⟩ d_19_42_72) (fun a99 u97 H locs hp98 V => ?_)
        obtain ⟨hI, hu103, f100, hA101, hE102⟩ := hp98
        replace hA101 : u97[128]? = (some (q 128, .inl (g 0, (264 : Int32).toNatClampNeg, .inl f100)) : Option (Nat × va_E)) := hA101
        obtain ⟨p104, e105⟩ : ∃ z, z = (F_WR_shrink (264 : Int32) x3 lx62) := ⟨_, rfl⟩
        have e106 : a99 = p104.1 := congrArg (fun z => z.1) (hE102.trans e105.symm)
        have e107 : f100 = p104.2 := congrArg (fun z => z.2) (hE102.trans e105.symm)
        replace hO68 := (hu103 _ (by decide)).trans hO68
        replace hO69 := (hu103 _ (by decide)).trans hO69
        replace hO70 := (hu103 _ (by decide)).trans hO70
        replace hO72 := (hu103 _ (by decide)).trans hO72
        replace hF := q_uc hF hu103 (by simp)
        have hR108 := (show F_WR_written_c72 (F_WR_written_L50 x2 x3 t0_0 t0_1 t0_2 t0_3 t0_4 t0_5 t0_6 t1_0 t2_0 t3_0 t4_0 lx33 fm77) x2 x3 t0_0 t0_1 t0_2 t0_3 t0_4 t0_5 t0_6 t1_0 t2_0 t3_0 t4_0 lx33 lx61 lx62 lx63 p104 = (F_WR_written x2 x3 t0_0 t0_1 t0_2 t0_3 t0_4 t0_5 t0_6 t1_0 t2_0 t3_0 t4_0) from Eq.trans (by rw [e105, F_WR_written_J67.eq_1]) hR91)
        have hS109 := (show True ∧ S_WR_written_c72 (S_WR_written_L50 x2 x3 t0_0 t0_1 t0_2 t0_3 t0_4 t0_5 t0_6 t1_0 t2_0 t3_0 t4_0 lx33 fm77) x2 x3 t0_0 t0_1 t0_2 t0_3 t0_4 t0_5 t0_6 t1_0 t2_0 t3_0 t4_0 lx33 lx61 lx62 lx63 p104 from (by rw [e105]; have h := hS92; rw [S_WR_written_J67.eq_1] at h; replace h := q_s2 h; with_reducible exact h))
        refine lv_istore_n (lv' := [(3, .int a99), (0, .ref (q 119)), (1, .int x2), (2, .int x3)]) hx hb d_19_42_75 rfl hl (by decide) rfl (fun ls hl => ?_)
        refine lv_aload_n hx hb d_19_42_76 rfl (lv_at hl 1 rfl) ?_
        refine q_get (ci := 13) (j := 19) (v := .ref (q 133)) C0 V i_WR rfl rfl hO68 (by decide) w_1943 rfl d_19_42_77 ?_
        refine lv_aload_n hx hb d_19_42_80 rfl (lv_at hl 1 rfl) ?_
        refine q_get (ci := 13) (j := 20) (v := .int lx61) C0 V i_WR rfl rfl hO68 (by decide) w_1945 rfl d_19_42_81 ?_
        refine lv_iload_n hx hb d_19_42_84 rfl (lv_at hl 0 rfl) ?_
        refine lv_bipush (v := 10) hx hb d_19_42_85 (by decide) ?_
        refine lv_icmp_ge (tgt := 97) hx hb d_19_42_87 (by decide) (fun c113 => ?_) (fun c113 => ?_)
        ·
          have b114 : q_F (10 ≤ a99.toInt) := (q_leI c113)
          refine lv_bipush (v := 97) hx hb d_19_42_97 (by decide) ?_
          refine lv_iload_n hx hb d_19_42_99 rfl (lv_at hl 0 rfl) ?_
          refine lv_iadd hx hb d_19_42_100 ?_
          obtain ⟨a115, e116⟩ := q_nm (97 + a99 : Int32)
          refine q_ti (v := a115) e116 ?_
          refine lv_bipush (v := 10) hx hb d_19_42_101 (by decide) ?_
          refine lv_isub hx hb d_19_42_103 ?_
          obtain ⟨a117, e118⟩ := q_nm (a115 - 10 : Int32)
          refine q_ti (v := a117) e118 ?_
          have ob119 : q_F (lx61.toInt ≤ 2099) := (by have h := hS109; rw [S_WR_written_c72.eq_1] at h; have c113x := c113; rw [e106] at c113x; rw [if_pos c113x] at h; exact h.2.1)
          refine q_iast C0 V hO72 (q_ix (x := lx61.toInt) rfl (by have t1 : 0 ≤ lx33.toInt := i40; have t2 : lx33.toInt ≤ lx61.toInt := i65; omega) (by have t1 : 0 ≤ lx33.toInt := i40; have t2 : lx33.toInt ≤ lx61.toInt := i65; have t3 : lx61.toInt ≤ 2099 := ob119; have e9 : (((2100 : Int32).toNatClampNeg : Nat) : Int) = 2100 := (by decide); omega)) d_19_42_104 (fun H locs w120 hu121 hO72 V => ?_)
          replace hI := n_ai' hI (n_r133 g q).1 hu121 hO72 (q_updB (fun _ => s_bnd) s_bnd)
          replace hO68 := (hu121 _ (by decide)).trans hO68
          replace hO69 := (hu121 _ (by decide)).trans hO69
          replace hO70 := (hu121 _ (by decide)).trans hO70
          replace hA101 := (hu121 _ (by decide)).trans hA101
          replace hF := q_us hF hu121 (by simp)
          obtain ⟨f122, e123⟩ := q_nm (upd lx63 lx61.toNatClampNeg a117 : (Nat → Int32))
          rw [e123] at hO72
          refine lv_aload_n hx hb d_19_42_105 rfl (lv_at hl 1 rfl) ?_
          refine lv_dup hx hb d_19_42_106 rfl ?_
          refine q_get (ci := 13) (j := 20) (v := .int lx61) C0 V i_WR rfl rfl hO68 (by decide) w_1945 rfl d_19_42_107 ?_
          refine lv_iconst (v := 1) hx hb d_19_42_110 (by decide) ?_
          refine lv_iadd hx hb d_19_42_111 ?_
          obtain ⟨a124, e125⟩ := q_nm (lx61 + 1 : Int32)
          refine q_ti (v := a124) e125 ?_
          have b126 : q_F (a124.toInt = lx61.toInt + 1) := (by rw [← e125]; show (lx61 + 1 : Int32).toInt = lx61.toInt + 1; exact q_addI (x := lx61.toInt) (y := 1) rfl (by decide) (by have t1 : lx33.toInt ≤ lx61.toInt := i65; have _ := q_lo32 (x := lx33); have _ := q_hi32 (x := lx33); have t2 : lx61.toInt ≤ 2100 := i64; omega) (by have t1 : lx33.toInt ≤ lx61.toInt := i65; have _ := q_lo32 (x := lx33); have _ := q_hi32 (x := lx33); have t2 : lx61.toInt ≤ 2100 := i64; omega))
          refine q_put (ci := 13) (j := 20) (v := .int a124) (ty := .int) C0 V i_WR o_WR n_WR rfl rfl hO68 (by decide) w_1945 rfl rfl rfl rfl (Nat.le_of_ble_eq_true rfl) d_19_42_112 (fun H locs w127 hu128 hO68 V => ?_)
          replace hO68 : w127[119]? = (some (q 119, .inr (13, [.int lx33, .int t0_1, .ref (q 120), .int t0_2, .ref (q 121), .ref (q 122), .ref (q 123), .int t0_3, .ref (q 124), .ref (q 125), .ref (q 126), .ref (q 127), .ref (q 128), .ref (q 129), .ref (q 130), .ref (q 131), .int t0_4, .int t0_5, .ref (q 132), .ref (q 133), .int a124])) : Option (Nat × va_E)) := hO68
          replace hI := n_p119 hI hu128 hO68 ⟨(by have t1 : 0 ≤ t0_2.toInt ∧ t0_2.toInt ≤ 4100 := btt0_2; omega), (by have t1 : 0 ≤ t0_2.toInt ∧ t0_2.toInt ≤ 4100 := btt0_2; omega)⟩ ⟨(by have t1 : 0 ≤ t0_3.toInt ∧ t0_3.toInt ≤ 1 := btt0_3; omega), (by have t1 : 0 ≤ t0_3.toInt ∧ t0_3.toInt ≤ 1 := btt0_3; omega)⟩ ⟨(by have t1 : 0 ≤ t0_4.toInt ∧ t0_4.toInt ≤ 1 := btt0_4; omega), (by have t1 : 0 ≤ t0_4.toInt ∧ t0_4.toInt ≤ 1 := btt0_4; omega)⟩ ⟨(by have t1 : 0 ≤ t0_5.toInt ∧ t0_5.toInt ≤ 1 := btt0_5; omega), (by have t1 : 0 ≤ t0_5.toInt ∧ t0_5.toInt ≤ 1 := btt0_5; omega)⟩ ⟨(by have t1 : 0 ≤ lx33.toInt := i40; have t2 : lx33.toInt ≤ lx61.toInt := i65; have t3 : a124.toInt = lx61.toInt + 1 := b126; omega), (by have t1 : lx61.toInt ≤ 2099 := ob119; have t2 : a124.toInt = lx61.toInt + 1 := b126; omega)⟩
          replace hO69 := (hu128 _ (by decide)).trans hO69
          replace hO70 := (hu128 _ (by decide)).trans hO70
          replace hA101 := (hu128 _ (by decide)).trans hA101
          replace hO72 := (hu128 _ (by decide)).trans hO72
          replace hF := q_us hF hu128 (by simp)
          refine lv_goto (tgt := 50) hx hb d_19_42_115 (by decide) ?_
          exact ih66 ((a124 : Int32), (f100 : (Nat → Int32)), (f122 : (Nat → Int32))) _ _ _ _ (show (2100 - a124.toInt).toNat < (2100 - lx61.toInt).toNat from by have t1 : a124.toInt = lx61.toInt + 1 := b126; have t2 : lx61.toInt ≤ 2100 := i64; have t3 : lx61.toInt ≤ 2099 := ob119; omega) ⟨(show q_F (a124.toInt ≤ 2100) from (show a124.toInt ≤ 2100 from by have t1 : lx61.toInt ≤ 2099 := ob119; have t2 : a124.toInt = lx61.toInt + 1 := b126; omega)), (show q_F (lx33.toInt ≤ a124.toInt) from (show lx33.toInt ≤ a124.toInt from by have t1 : lx33.toInt ≤ lx61.toInt := i65; have t2 : a124.toInt = lx61.toInt + 1 := b126; omega)), V, q_lw hl (q_lw1 1 rfl (q_lw1 2 rfl (q_lw1 3 rfl q_lw0))), hI, hF, hO68, hO69, hO70, hA101, hO72, ⟨fm77, Nat.lt_of_lt_of_le (show (2100 - a124.toInt).toNat < (2100 - lx61.toInt).toNat from by have t1 : a124.toInt = lx61.toInt + 1 := b126; have t2 : lx61.toInt ≤ 2100 := i64; have t3 : lx61.toInt ≤ 2099 := ob119; omega) (Nat.le_of_lt_succ hf76), (show F_WR_written_L50 x2 x3 t0_0 t0_1 t0_2 t0_3 t0_4 t0_5 t0_6 t1_0 t2_0 t3_0 t4_0 lx33 fm77 a124 f100 f122 = (F_WR_written x2 x3 t0_0 t0_1 t0_2 t0_3 t0_4 t0_5 t0_6 t1_0 t2_0 t3_0 t4_0) from Eq.trans (by have c113x := c113; rw [e106] at c113x; rw [← e125, ← e123, ← e118, ← e116, e107, e106, F_WR_written_c72.eq_1, if_pos c113x]) hR108), (show True ∧ S_WR_written_L50 x2 x3 t0_0 t0_1 t0_2 t0_3 t0_4 t0_5 t0_6 t1_0 t2_0 t3_0 t4_0 lx33 fm77 a124 f100 f122 from (by rw [← e125, ← e123, ← e118, ← e116, e107, e106]; have h := hS109; rw [S_WR_written_c72.eq_1] at h; have c113x := c113; rw [e106] at c113x; rw [if_pos c113x] at h; replace h := q_s2 h; with_reducible exact h))⟩⟩
        ·
          have b129 : q_F (a99.toInt < 10) := (q_nleI c113)
          refine lv_bipush (v := 48) hx hb d_19_42_90 (by decide) ?_
          refine lv_iload_n hx hb d_19_42_92 rfl (lv_at hl 0 rfl) ?_
          refine lv_iadd hx hb d_19_42_93 ?_
          obtain ⟨a130, e131⟩ := q_nm (48 + a99 : Int32)
          refine q_ti (v := a130) e131 ?_
          have b132 : q_F (a130.toInt = 48 + a99.toInt) := (by rw [← e131]; show (48 + a99 : Int32).toInt = 48 + a99.toInt; exact q_addI (x := 48) (y := a99.toInt) (by decide) rfl (by have _ := q_lo32 (x := a99); have _ := q_hi32 (x := a99); have t1 : a99.toInt < 10 := b129; omega) (by have _ := q_lo32 (x := a99); have _ := q_hi32 (x := a99); have t1 : a99.toInt < 10 := b129; omega))
          refine lv_goto (tgt := 104) hx hb d_19_42_94 (by decide) ?_
          have ob133 : q_F (lx61.toInt ≤ 2099) := (by have h := hS109; rw [S_WR_written_c72.eq_1] at h; have c113x := c113; rw [e106] at c113x; rw [if_neg c113x] at h; exact h.2.1)
          refine q_iast C0 V hO72 (q_ix (x := lx61.toInt) rfl (by have t1 : 0 ≤ lx33.toInt := i40; have t2 : lx33.toInt ≤ lx61.toInt := i65; omega) (by have t1 : 0 ≤ lx33.toInt := i40; have t2 : lx33.toInt ≤ lx61.toInt := i65; have t3 : lx61.toInt ≤ 2099 := ob133; have e9 : (((2100 : Int32).toNatClampNeg : Nat) : Int) = 2100 := (by decide); omega)) d_19_42_104 (fun H locs w134 hu135 hO72 V => ?_)
          replace hI := n_ai' hI (n_r133 g q).1 hu135 hO72 (q_updB (fun _ => s_bnd) s_bnd)
          replace hO68 := (hu135 _ (by decide)).trans hO68
          replace hO69 := (hu135 _ (by decide)).trans hO69
          replace hO70 := (hu135 _ (by decide)).trans hO70
          replace hA101 := (hu135 _ (by decide)).trans hA101
          replace hF := q_us hF hu135 (by simp)
          obtain ⟨f136, e137⟩ := q_nm (upd lx63 lx61.toNatClampNeg a130 : (Nat → Int32))
          rw [e137] at hO72
          refine lv_aload_n hx hb d_19_42_105 rfl (lv_at hl 1 rfl) ?_
          refine lv_dup hx hb d_19_42_106 rfl ?_
          refine q_get (ci := 13) (j := 20) (v := .int lx61) C0 V i_WR rfl rfl hO68 (by decide) w_1945 rfl d_19_42_107 ?_
          refine lv_iconst (v := 1) hx hb d_19_42_110 (by decide) ?_
          refine lv_iadd hx hb d_19_42_111 ?_
          obtain ⟨a138, e139⟩ := q_nm (lx61 + 1 : Int32)
          refine q_ti (v := a138) e139 ?_
          have b140 : q_F (a138.toInt = lx61.toInt + 1) := (by rw [← e139]; show (lx61 + 1 : Int32).toInt = lx61.toInt + 1; exact q_addI (x := lx61.toInt) (y := 1) rfl (by decide) (by have t1 : lx33.toInt ≤ lx61.toInt := i65; have _ := q_lo32 (x := lx33); have _ := q_hi32 (x := lx33); have t2 : lx61.toInt ≤ 2100 := i64; omega) (by have t1 : lx33.toInt ≤ lx61.toInt := i65; have _ := q_lo32 (x := lx33); have _ := q_hi32 (x := lx33); have t2 : lx61.toInt ≤ 2100 := i64; omega))
          refine q_put (ci := 13) (j := 20) (v := .int a138) (ty := .int) C0 V i_WR o_WR n_WR rfl rfl hO68 (by decide) w_1945 rfl rfl rfl rfl (Nat.le_of_ble_eq_true rfl) d_19_42_112 (fun H locs w141 hu142 hO68 V => ?_)
          replace hO68 : w141[119]? = (some (q 119, .inr (13, [.int lx33, .int t0_1, .ref (q 120), .int t0_2, .ref (q 121), .ref (q 122), .ref (q 123), .int t0_3, .ref (q 124), .ref (q 125), .ref (q 126), .ref (q 127), .ref (q 128), .ref (q 129), .ref (q 130), .ref (q 131), .int t0_4, .int t0_5, .ref (q 132), .ref (q 133), .int a138])) : Option (Nat × va_E)) := hO68
          replace hI := n_p119 hI hu142 hO68 ⟨(by have t1 : 0 ≤ t0_2.toInt ∧ t0_2.toInt ≤ 4100 := btt0_2; omega), (by have t1 : 0 ≤ t0_2.toInt ∧ t0_2.toInt ≤ 4100 := btt0_2; omega)⟩ ⟨(by have t1 : 0 ≤ t0_3.toInt ∧ t0_3.toInt ≤ 1 := btt0_3; omega), (by have t1 : 0 ≤ t0_3.toInt ∧ t0_3.toInt ≤ 1 := btt0_3; omega)⟩ ⟨(by have t1 : 0 ≤ t0_4.toInt ∧ t0_4.toInt ≤ 1 := btt0_4; omega), (by have t1 : 0 ≤ t0_4.toInt ∧ t0_4.toInt ≤ 1 := btt0_4; omega)⟩ ⟨(by have t1 : 0 ≤ t0_5.toInt ∧ t0_5.toInt ≤ 1 := btt0_5; omega), (by have t1 : 0 ≤ t0_5.toInt ∧ t0_5.toInt ≤ 1 := btt0_5; omega)⟩ ⟨(by have t1 : 0 ≤ lx33.toInt := i40; have t2 : lx33.toInt ≤ lx61.toInt := i65; have t3 : a138.toInt = lx61.toInt + 1 := b140; omega), (by have t1 : lx61.toInt ≤ 2099 := ob133; have t2 : a138.toInt = lx61.toInt + 1 := b140; omega)⟩
          replace hO69 := (hu142 _ (by decide)).trans hO69
          replace hO70 := (hu142 _ (by decide)).trans hO70
          replace hA101 := (hu142 _ (by decide)).trans hA101
          replace hO72 := (hu142 _ (by decide)).trans hO72
          replace hF := q_us hF hu142 (by simp)
          refine lv_goto (tgt := 50) hx hb d_19_42_115 (by decide) ?_
          exact ih66 ((a138 : Int32), (f100 : (Nat → Int32)), (f136 : (Nat → Int32))) _ _ _ _ (show (2100 - a138.toInt).toNat < (2100 - lx61.toInt).toNat from by have t1 : a138.toInt = lx61.toInt + 1 := b140; have t2 : lx61.toInt ≤ 2100 := i64; have t3 : lx61.toInt ≤ 2099 := ob133; omega) ⟨(show q_F (a138.toInt ≤ 2100) from (show a138.toInt ≤ 2100 from by have t1 : lx61.toInt ≤ 2099 := ob133; have t2 : a138.toInt = lx61.toInt + 1 := b140; omega)), (show q_F (lx33.toInt ≤ a138.toInt) from (show lx33.toInt ≤ a138.toInt from by have t1 : lx33.toInt ≤ lx61.toInt := i65; have t2 : a138.toInt = lx61.toInt + 1 := b140; omega)), V, q_lw hl (q_lw1 1 rfl (q_lw1 2 rfl (q_lw1 3 rfl q_lw0))), hI, hF, hO68, hO69, hO70, hA101, hO72, ⟨fm77, Nat.lt_of_lt_of_le (show (2100 - a138.toInt).toNat < (2100 - lx61.toInt).toNat from by have t1 : a138.toInt = lx61.toInt + 1 := b140; have t2 : lx61.toInt ≤ 2100 := i64; have t3 : lx61.toInt ≤ 2099 := ob133; omega) (Nat.le_of_lt_succ hf76), (show F_WR_written_L50 x2 x3 t0_0 t0_1 t0_2 t0_3 t0_4 t0_5 t0_6 t1_0 t2_0 t3_0 t4_0 lx33 fm77 a138 f100 f136 = (F_WR_written x2 x3 t0_0 t0_1 t0_2 t0_3 t0_4 t0_5 t0_6 t1_0 t2_0 t3_0 t4_0) from Eq.trans (by have c113x := c113; rw [e106] at c113x; rw [← e139, ← e137, ← e131, e107, e106, F_WR_written_c72.eq_1, if_neg c113x]) hR108), (show True ∧ S_WR_written_L50 x2 x3 t0_0 t0_1 t0_2 t0_3 t0_4 t0_5 t0_6 t1_0 t2_0 t3_0 t4_0 lx33 fm77 a138 f100 f136 from (by rw [← e139, ← e137, ← e131, e107, e106]; have h := hS109; rw [S_WR_written_c72.eq_1] at h; have c113x := c113; rw [e106] at c113x; rw [if_neg c113x] at h; replace h := q_s2 h; with_reducible exact h))⟩⟩
      ·
        intro J90
        refine lv_if_gt (tgt := 67) hx hb d_19_42_57 (by decide) (fun c143 => ?_) (fun c143 => ?_)
        ·
          have b144 : q_F (0 < a80.toInt) := (q_ltI c143)
          exact J90 (()) _ _ _ w67 ⟨V, q_lw hl (q_lw1 0 rfl (q_lw1 1 rfl (q_lw1 2 rfl q_lw0))), (show F_WR_written_J67 (F_WR_written_L50 x2 x3 t0_0 t0_1 t0_2 t0_3 t0_4 t0_5 t0_6 t1_0 t2_0 t3_0 t4_0 lx33 fm77) x2 x3 t0_0 t0_1 t0_2 t0_3 t0_4 t0_5 t0_6 t1_0 t2_0 t3_0 t4_0 lx33 lx61 lx62 lx63 = (F_WR_written x2 x3 t0_0 t0_1 t0_2 t0_3 t0_4 t0_5 t0_6 t1_0 t2_0 t3_0 t4_0) from Eq.trans (by have c143x := c143; rw [e84] at c143x; rw [F_WR_written_L50.eq_2, if_pos c143x]) hR73), (show True ∧ S_WR_written_J67 (S_WR_written_L50 x2 x3 t0_0 t0_1 t0_2 t0_3 t0_4 t0_5 t0_6 t1_0 t2_0 t3_0 t4_0 lx33 fm77) x2 x3 t0_0 t0_1 t0_2 t0_3 t0_4 t0_5 t0_6 t1_0 t2_0 t3_0 t4_0 lx33 lx61 lx62 lx63 from (by have h := hS74; rw [S_WR_written_L50.eq_2] at h; have c143x := c143; rw [e84] at c143x; rw [if_pos c143x] at h; with_reducible exact h))⟩
        ·
          have b145 : q_F (a80.toInt ≤ 0) := (q_nltI c143)
          refine lv_aload_n hx hb d_19_42_60 rfl (lv_at hl 0 rfl) ?_
          refine q_get (ci := 13) (j := 20) (v := .int lx61) C0 V i_WR rfl rfl hO68 (by decide) w_1945 rfl d_19_42_61 ?_
          refine lv_if_ne (tgt := 118) hx hb d_19_42_64 (by decide) (fun c146 => ?_) (fun c146 => ?_)
          ·
            have b147 : q_F (lx61.toInt ≠ 0) := (q_neI c146)
            refine lv_aload_n hx hb d_19_42_118 rfl (lv_at hl 0 rfl) ?_
            refine q_get (ci := 13) (j := 5) (v := .ref (q 122)) C0 V i_WR rfl rfl hO68 (by decide) w_1929 rfl d_19_42_119 ?_
            refine lv_iload_n hx hb d_19_42_122 rfl (lv_at hl 1 rfl) ?_
            have ob148 : q_F (0 ≤ x2.toInt) := (by have h := hS74; rw [S_WR_written_L50.eq_2] at h; have c143x := c143; rw [e84] at c143x; rw [if_neg c143x] at h; rw [if_neg c146] at h; exact h.2.1)
            have ob149 : q_F (x2.toInt ≤ 10) := (by have h := hS74; rw [S_WR_written_L50.eq_2] at h; have c143x := c143; rw [e84] at c143x; rw [if_neg c143x] at h; rw [if_neg c146] at h; replace h := q_s2 h; exact h.2.1)
            refine q_zald C0 V hO70 (q_ix (x := x2.toInt) rfl (by have t1 : 0 ≤ x2.toInt := ob148; omega) (by have t1 : 0 ≤ x2.toInt := ob148; have t2 : x2.toInt ≤ 10 := ob149; omega)) d_19_42_123 ?_
            obtain ⟨a150, e151⟩ := q_nm (t2_0 x2.toNatClampNeg : Int32)
            refine q_ti (v := a150) e151 ?_
            refine q_join (X := Int32 × (Nat → Int32)) (fun z H locs ls w163 => q_F (z.1.toInt ≤ lx33.toInt + 2100) ∧ q_F (lx61.toInt ≤ z.1.toInt) ∧ q_F (z.1.toInt ≤ lx61.toInt + 1) ∧ q_Wd D g (va_A ws sz) s w163 H locs ∧ lv_has ls 6 [(0, .ref (q 119))] ∧ q_I (msh g q) q w163 ∧ q_un ws w163 [119, 128, 133] ∧ w163[119]? = (some (q 119, .inr (13, [.int lx33, .int t0_1, .ref (q 120), .int t0_2, .ref (q 121), .ref (q 122), .ref (q 123), .int t0_3, .ref (q 124), .ref (q 125), .ref (q 126), .ref (q 127), .ref (q 128), .ref (q 129), .ref (q 130), .ref (q 131), .int t0_4, .int t0_5, .ref (q 132), .ref (q 133), .int z.1])) : Option (Nat × va_E)) ∧ w163[121]? = (some (q 121, .inl (g 0, (1408 : Int32).toNatClampNeg, .inl t1_0)) : Option (Nat × va_E)) ∧ w163[122]? = (some (q 122, .inl (g 3, 11, .inl t2_0)) : Option (Nat × va_E)) ∧ w163[128]? = (some (q 128, .inl (g 0, (264 : Int32).toNatClampNeg, .inl lx62)) : Option (Nat × va_E)) ∧ w163[133]? = (some (q 133, .inl (g 0, (2100 : Int32).toNatClampNeg, .inl z.2)) : Option (Nat × va_E)) ∧ F_WR_written_J148 (F_WR_written_L50 x2 x3 t0_0 t0_1 t0_2 t0_3 t0_4 t0_5 t0_6 t1_0 t2_0 t3_0 t4_0 lx33 fm77) x2 x3 t0_0 t0_1 t0_2 t0_3 t0_4 t0_5 t0_6 t1_0 t2_0 t3_0 t4_0 lx33 lx61 lx62 lx63 z.1 z.2 = (F_WR_written x2 x3 t0_0 t0_1 t0_2 t0_3 t0_4 t0_5 t0_6 t1_0 t2_0 t3_0 t4_0) ∧ True ∧ S_WR_written_J148 (S_WR_written_L50 x2 x3 t0_0 t0_1 t0_2 t0_3 t0_4 t0_5 t0_6 t1_0 t2_0 t3_0 t4_0 lx33 fm77) x2 x3 t0_0 t0_1 t0_2 t0_3 t0_4 t0_5 t0_6 t1_0 t2_0 t3_0 t4_0 lx33 lx61 lx62 lx63 z.1 z.2) (fun z => []) 148 0 0 ?_ ?_
            ·
              rintro ⟨lx152, lx153⟩ H locs ls w163 ⟨i160, i161, i162, V, hl, hI, hF, hO154, hA155, hA156, hA157, hA158, hR164, hS165⟩
              replace i160 : q_F (lx152.toInt ≤ lx33.toInt + 2100) := i160
              replace i161 : q_F (lx61.toInt ≤ lx152.toInt) := i161
              replace i162 : q_F (lx152.toInt ≤ lx61.toInt + 1) := i162
              replace hl : lv_has ls 6 [(0, .ref (q 119))] := hl
              replace hO154 : w163[119]? = (some (q 119, .inr (13, [.int lx33, .int t0_1, .ref (q 120), .int t0_2, .ref (q 121), .ref (q 122), .ref (q 123), .int t0_3, .ref (q 124), .ref (q 125), .ref (q 126), .ref (q 127), .ref (q 128), .ref (q 129), .ref (q 130), .ref (q 131), .int t0_4, .int t0_5, .ref (q 132), .ref (q 133), .int lx152])) : Option (Nat × va_E)) := hO154
              replace hA155 : w163[121]? = (some (q 121, .inl (g 0, (1408 : Int32).toNatClampNeg, .inl t1_0)) : Option (Nat × va_E)) := hA155
              replace hA156 : w163[122]? = (some (q 122, .inl (g 3, 11, .inl t2_0)) : Option (Nat × va_E)) := hA156
              replace hA157 : w163[128]? = (some (q 128, .inl (g 0, (264 : Int32).toNatClampNeg, .inl lx62)) : Option (Nat × va_E)) := hA157
              replace hA158 : w163[133]? = (some (q 133, .inl (g 0, (2100 : Int32).toNatClampNeg, .inl lx153)) : Option (Nat × va_E)) := hA158
              refine lv_iconst (v := 0) hx hb d_19_42_148 (by decide) ?_
              refine lv_istore_n (lv' := [(3, .int 0), (0, .ref (q 119))]) hx hb d_19_42_149 rfl hl (by decide) rfl (fun ls hl => ?_)
              refine lv_aload_n hx hb d_19_42_150 rfl (lv_at hl 1 rfl) ?_
              refine q_get (ci := 13) (j := 20) (v := .int lx152) C0 V i_WR rfl rfl hO154 (by decide) w_1945 rfl d_19_42_151 ?_
              refine lv_iconst (v := 1) hx hb d_19_42_154 (by decide) ?_
              refine lv_isub hx hb d_19_42_155 ?_
              obtain ⟨a169, e170⟩ := q_nm (lx152 - 1 : Int32)
              refine q_ti (v := a169) e170 ?_
              have b171 : q_F (a169.toInt = lx152.toInt - 1) := (by rw [← e170]; show (lx152 - 1 : Int32).toInt = lx152.toInt - 1; exact q_subI (x := lx152.toInt) (y := 1) rfl (by decide) (by have t1 : 0 ≤ lx33.toInt := i40; have t2 : lx33.toInt ≤ lx61.toInt := i65; have t3 : lx61.toInt ≤ lx152.toInt := i161; have _ := q_lo32 (x := lx152); have _ := q_hi32 (x := lx152); omega) (by have t1 : 0 ≤ lx33.toInt := i40; have t2 : lx33.toInt ≤ lx61.toInt := i65; have t3 : lx61.toInt ≤ lx152.toInt := i161; have _ := q_lo32 (x := lx152); have _ := q_hi32 (x := lx152); omega))
              refine lv_istore (lv' := [(4, .int a169), (3, .int 0), (0, .ref (q 119))]) hx hb d_19_42_156 hl (by decide) rfl (fun ls hl => ?_)
              refine q_loop (X := Int32 × Int32 × (Nat → Int32)) (fun z H locs ls w182 => q_F (z.2.1.toInt + 1 ≤ lx152.toInt) ∧ q_F (a169.toInt ≤ z.1.toInt + z.2.1.toInt) ∧ q_F (z.1.toInt + z.2.1.toInt ≤ a169.toInt) ∧ q_F (z.1.toInt ≤ z.2.1.toInt + a169.toInt) ∧ q_Wd D g (va_A ws sz) s w182 H locs ∧ lv_has ls 6 [(4, .int z.1), (3, .int z.2.1), (0, .ref (q 119))] ∧ q_I (msh g q) q w182 ∧ q_un ws w182 [119, 128, 133] ∧ w182[119]? = (some (q 119, .inr (13, [.int lx33, .int t0_1, .ref (q 120), .int t0_2, .ref (q 121), .ref (q 122), .ref (q 123), .int t0_3, .ref (q 124), .ref (q 125), .ref (q 126), .ref (q 127), .ref (q 128), .ref (q 129), .ref (q 130), .ref (q 131), .int t0_4, .int t0_5, .ref (q 132), .ref (q 133), .int lx152])) : Option (Nat × va_E)) ∧ w182[121]? = (some (q 121, .inl (g 0, (1408 : Int32).toNatClampNeg, .inl t1_0)) : Option (Nat × va_E)) ∧ w182[122]? = (some (q 122, .inl (g 3, 11, .inl t2_0)) : Option (Nat × va_E)) ∧ w182[128]? = (some (q 128, .inl (g 0, (264 : Int32).toNatClampNeg, .inl lx62)) : Option (Nat × va_E)) ∧ w182[133]? = (some (q 133, .inl (g 0, (2100 : Int32).toNatClampNeg, .inl z.2.2)) : Option (Nat × va_E)) ∧ (∃ n, (z.1.toInt - ((-1))).toNat < n ∧ F_WR_written_L158 (F_WR_written_L50 x2 x3 t0_0 t0_1 t0_2 t0_3 t0_4 t0_5 t0_6 t1_0 t2_0 t3_0 t4_0 lx33 fm77) x2 x3 t0_0 t0_1 t0_2 t0_3 t0_4 t0_5 t0_6 t1_0 t2_0 t3_0 t4_0 lx33 lx61 lx62 lx63 lx152 lx153 n z.1 z.2.1 z.2.2 = (F_WR_written x2 x3 t0_0 t0_1 t0_2 t0_3 t0_4 t0_5 t0_6 t1_0 t2_0 t3_0 t4_0) ∧ True ∧ S_WR_written_L158 (S_WR_written_L50 x2 x3 t0_0 t0_1 t0_2 t0_3 t0_4 t0_5 t0_6 t1_0 t2_0 t3_0 t4_0 lx33 fm77) x2 x3 t0_0 t0_1 t0_2 t0_3 t0_4 t0_5 t0_6 t1_0 t2_0 t3_0 t4_0 lx33 lx61 lx62 lx63 lx152 lx153 n z.1 z.2.1 z.2.2)) (fun z => (z.1.toInt - ((-1))).toNat) ?_ ((a169 : Int32), (0 : Int32), (lx153 : (Nat → Int32))) _ _ _ w163 ⟨(show q_F (0 + 1 ≤ lx152.toInt) from (show 0 + 1 ≤ lx152.toInt from by have t1 : 0 ≤ lx33.toInt := i40; have t2 : lx33.toInt ≤ lx61.toInt := i65; have t3 : lx61.toInt ≠ 0 := b147; have t4 : lx61.toInt ≤ lx152.toInt := i161; omega)), (show q_F (a169.toInt ≤ a169.toInt + 0) from (show a169.toInt ≤ a169.toInt + 0 from by omega)), (show q_F (a169.toInt + 0 ≤ a169.toInt) from (show a169.toInt + 0 ≤ a169.toInt from by omega)), (show q_F (a169.toInt ≤ 0 + a169.toInt) from (show a169.toInt ≤ 0 + a169.toInt from by omega)), V, q_lw hl (q_lw1 0 rfl (q_lw1 1 rfl (q_lw1 2 rfl q_lw0))), hI, hF, hO154, hA155, hA156, hA157, hA158, ⟨((a169.toInt - ((-1))).toNat + 1), Nat.lt_succ_self _, (show F_WR_written_L158 (F_WR_written_L50 x2 x3 t0_0 t0_1 t0_2 t0_3 t0_4 t0_5 t0_6 t1_0 t2_0 t3_0 t4_0 lx33 fm77) x2 x3 t0_0 t0_1 t0_2 t0_3 t0_4 t0_5 t0_6 t1_0 t2_0 t3_0 t4_0 lx33 lx61 lx62 lx63 lx152 lx153 ((a169.toInt - ((-1))).toNat + 1) a169 0 lx153 = (F_WR_written x2 x3 t0_0 t0_1 t0_2 t0_3 t0_4 t0_5 t0_6 t1_0 t2_0 t3_0 t4_0) from Eq.trans (by rw [← e170, F_WR_written_J148.eq_1]) hR164), (show True ∧ S_WR_written_L158 (S_WR_written_L50 x2 x3 t0_0 t0_1 t0_2 t0_3 t0_4 t0_5 t0_6 t1_0 t2_0 t3_0 t4_0 lx33 fm77) x2 x3 t0_0 t0_1 t0_2 t0_3 t0_4 t0_5 t0_6 t1_0 t2_0 t3_0 t4_0 lx33 lx61 lx62 lx63 lx152 lx153 ((a169.toInt - ((-1))).toNat + 1) a169 0 lx153 from (by rw [← e170]; have h := hS165; rw [S_WR_written_J148.eq_1] at h; with_reducible exact h))⟩⟩
              rintro ⟨lx174, lx175, lx176⟩ H locs ls w182 ⟨i177, i178, i179, i180, V, hl, hI, hF, hO183, hO184, hO185, hO186, hO187, ⟨fu190, hf191, hR188, hS189⟩⟩ ih181
              obtain ⟨fm192, rfl⟩ : ∃ m, fu190 = m + 1 := ⟨fu190 - 1, by omega⟩
              replace i177 : q_F (lx175.toInt + 1 ≤ lx152.toInt) := i177
              replace i178 : q_F (a169.toInt ≤ lx174.toInt + lx175.toInt) := i178
              replace i179 : q_F (lx174.toInt + lx175.toInt ≤ a169.toInt) := i179
              replace i180 : q_F (lx174.toInt ≤ lx175.toInt + a169.toInt) := i180
              replace hl : lv_has ls 6 [(4, .int lx174), (3, .int lx175), (0, .ref (q 119))] := hl
              replace hO183 : w182[119]? = (some (q 119, .inr (13, [.int lx33, .int t0_1, .ref (q 120), .int t0_2, .ref (q 121), .ref (q 122), .ref (q 123), .int t0_3, .ref (q 124), .ref (q 125), .ref (q 126), .ref (q 127), .ref (q 128), .ref (q 129), .ref (q 130), .ref (q 131), .int t0_4, .int t0_5, .ref (q 132), .ref (q 133), .int lx152])) : Option (Nat × va_E)) := hO183
              replace hO184 : w182[121]? = (some (q 121, .inl (g 0, (1408 : Int32).toNatClampNeg, .inl t1_0)) : Option (Nat × va_E)) := hO184
              replace hO185 : w182[122]? = (some (q 122, .inl (g 3, 11, .inl t2_0)) : Option (Nat × va_E)) := hO185
              replace hO186 : w182[128]? = (some (q 128, .inl (g 0, (264 : Int32).toNatClampNeg, .inl lx62)) : Option (Nat × va_E)) := hO186
              replace hO187 : w182[133]? = (some (q 133, .inl (g 0, (2100 : Int32).toNatClampNeg, .inl lx176)) : Option (Nat × va_E)) := hO187
              refine lv_iload_n hx hb d_19_42_158 rfl (lv_at hl 1 rfl) ?_
              refine lv_iload hx hb d_19_42_159 (lv_at hl 0 rfl) ?_
              refine lv_icmp_ge (tgt := 203) hx hb d_19_42_161 (by decide) (fun c193 => ?_) (fun c193 => ?_)
              ·
                have b194 : q_F (lx174.toInt ≤ lx175.toInt) := (q_leI c193)
                refine lv_aload_n hx hb d_19_42_203 rfl (lv_at hl 2 rfl) ?_
                refine q_get (ci := 13) (j := 20) (v := .int lx152) C0 V i_WR rfl rfl hO183 (by decide) w_1945 rfl d_19_42_204 ?_
                exact q_reti C0 V (⟨hI, hF, lx33, t0_1, t0_2, t0_3, t0_4, t0_5, lx152, lx62, lx176, hO183, hO186, hO187, (show 0 ≤ lx152.toInt from (by have t1 : 0 ≤ lx33.toInt := i40; have t2 : lx33.toInt ≤ lx61.toInt := i65; have t3 : lx61.toInt ≤ lx152.toInt := i161; omega)), (show 0 ≤ lx33.toInt from (by have t1 : 0 ≤ lx33.toInt := i40; omega)), (show lx33.toInt ≤ 1 from (by have t1 : lx33.toInt ≤ 1 := i41; omega)), (show lx152.toInt ≤ 2100 from (by have t1 : lx33.toInt ≤ 0 := b50; have t2 : lx152.toInt ≤ lx33.toInt + 2100 := i160; omega)), (show t0_1.toInt ≤ t0_1.toInt from (by omega)), (show t0_1.toInt ≤ t0_1.toInt from (by omega)), (show t0_2.toInt ≤ t0_2.toInt from (by omega)), (show t0_2.toInt ≤ t0_2.toInt from (by omega)), (show t0_3.toInt ≤ t0_3.toInt from (by omega)), (show t0_3.toInt ≤ t0_3.toInt from (by omega)), (show t0_4.toInt ≤ t0_4.toInt from (by omega)), (show t0_4.toInt ≤ t0_4.toInt from (by omega)), (show t0_5.toInt ≤ t0_5.toInt from (by omega)), (show t0_5.toInt ≤ t0_5.toInt from (by omega)), (show t0_6.toInt ≤ lx152.toInt + 2099 from (by have t1 : 0 ≤ t0_6.toInt ∧ t0_6.toInt ≤ 2100 := btt0_6; have t2 : 0 ≤ lx33.toInt := i40; have t3 : lx33.toInt ≤ lx61.toInt := i65; have t4 : lx61.toInt ≠ 0 := b147; have t5 : lx61.toInt ≤ lx152.toInt := i161; omega)), (show lx152.toInt ≤ lx152.toInt from (by omega)), (show (lx152, lx33, t0_1, t0_2, t0_3, t0_4, t0_5, lx152, lx62, lx176) = (F_WR_written x2 x3 t0_0 t0_1 t0_2 t0_3 t0_4 t0_5 t0_6 t1_0 t2_0 t3_0 t4_0) from Eq.trans (by rw [F_WR_written_L158.eq_2, if_pos c193]) hR188)⟩) d_19_42_207
              ·
                have b195 : q_F (lx175.toInt < lx174.toInt) := (q_nleI c193)
                refine lv_aload_n hx hb d_19_42_164 rfl (lv_at hl 2 rfl) ?_
                refine q_get (ci := 13) (j := 19) (v := .ref (q 133)) C0 V i_WR rfl rfl hO183 (by decide) w_1943 rfl d_19_42_165 ?_
                refine lv_iload_n hx hb d_19_42_168 rfl (lv_at hl 1 rfl) ?_
                refine q_iald C0 V hO187 (q_ix (x := lx175.toInt) rfl (by have t1 : a169.toInt ≤ lx174.toInt + lx175.toInt := i178; have t2 : lx174.toInt ≤ lx175.toInt + a169.toInt := i180; omega) (by have t1 : a169.toInt ≤ lx174.toInt + lx175.toInt := i178; have t2 : lx174.toInt ≤ lx175.toInt + a169.toInt := i180; have t3 : lx33.toInt ≤ 0 := b50; have t4 : lx152.toInt ≤ lx33.toInt + 2100 := i160; have t5 : lx175.toInt + 1 ≤ lx152.toInt := i177; have e9 : (((2100 : Int32).toNatClampNeg : Nat) : Int) = 2100 := (by decide); omega)) d_19_42_169 ?_
                obtain ⟨a196, e197⟩ := q_nm (lx176 lx175.toNatClampNeg : Int32)
                refine q_ti (v := a196) e197 ?_
                refine lv_istore (lv' := [(5, .int a196), (4, .int lx174), (3, .int lx175), (0, .ref (q 119))]) hx hb d_19_42_170 hl (by decide) rfl (fun ls hl => ?_)
                refine lv_aload_n hx hb d_19_42_172 rfl (lv_at hl 3 rfl) ?_
                refine q_get (ci := 13) (j := 19) (v := .ref (q 133)) C0 V i_WR rfl rfl hO183 (by decide) w_1943 rfl d_19_42_173 ?_
                refine lv_iload_n hx hb d_19_42_176 rfl (lv_at hl 2 rfl) ?_
                refine lv_aload_n hx hb d_19_42_177 rfl (lv_at hl 3 rfl) ?_
                refine q_get (ci := 13) (j := 19) (v := .ref (q 133)) C0 V i_WR rfl rfl hO183 (by decide) w_1943 rfl d_19_42_178 ?_
                refine lv_iload hx hb d_19_42_181 (lv_at hl 1 rfl) ?_
                have ob198 : q_F (lx174.toInt ≤ 2099) := (by have h := hS189; rw [S_WR_written_L158.eq_2] at h; rw [if_neg c193] at h; exact h.2.1)
                refine q_iald C0 V hO187 (q_ix (x := lx174.toInt) rfl (by have t1 : a169.toInt ≤ lx174.toInt + lx175.toInt := i178; have t2 : lx174.toInt ≤ lx175.toInt + a169.toInt := i180; have t3 : lx175.toInt < lx174.toInt := b195; omega) (by have t1 : a169.toInt ≤ lx174.toInt + lx175.toInt := i178; have t2 : lx174.toInt ≤ lx175.toInt + a169.toInt := i180; have t3 : lx175.toInt < lx174.toInt := b195; have t4 : lx174.toInt ≤ 2099 := ob198; have e9 : (((2100 : Int32).toNatClampNeg : Nat) : Int) = 2100 := (by decide); omega)) d_19_42_183 ?_
                obtain ⟨a199, e200⟩ := q_nm (lx176 lx174.toNatClampNeg : Int32)
                refine q_ti (v := a199) e200 ?_
                refine q_iast C0 V hO187 (q_ix (x := lx175.toInt) rfl (by have t1 : a169.toInt ≤ lx174.toInt + lx175.toInt := i178; have t2 : lx174.toInt ≤ lx175.toInt + a169.toInt := i180; omega) (by have t1 : a169.toInt ≤ lx174.toInt + lx175.toInt := i178; have t2 : lx174.toInt ≤ lx175.toInt + a169.toInt := i180; have t3 : lx175.toInt < lx174.toInt := b195; have t4 : lx174.toInt ≤ 2099 := ob198; have e9 : (((2100 : Int32).toNatClampNeg : Nat) : Int) = 2100 := (by decide); omega)) d_19_42_184 (fun H locs w201 hu202 hO187 V => ?_)
                replace hI := n_ai' hI (n_r133 g q).1 hu202 hO187 (q_updB (fun _ => s_bnd) s_bnd)
                replace hO183 := (hu202 _ (by decide)).trans hO183
                replace hO184 := (hu202 _ (by decide)).trans hO184
                replace hO185 := (hu202 _ (by decide)).trans hO185
                replace hO186 := (hu202 _ (by decide)).trans hO186
                replace hF := q_us hF hu202 (by simp)
                obtain ⟨f203, e204⟩ := q_nm (upd lx176 lx175.toNatClampNeg a199 : (Nat → Int32))
                rw [e204] at hO187
                refine lv_aload_n hx hb d_19_42_185 rfl (lv_at hl 3 rfl) ?_
                refine q_get (ci := 13) (j := 19) (v := .ref (q 133)) C0 V i_WR rfl rfl hO183 (by decide) w_1943 rfl d_19_42_186 ?_
                refine lv_iload hx hb d_19_42_189 (lv_at hl 1 rfl) ?_
                refine lv_iload hx hb d_19_42_191 (lv_at hl 0 rfl) ?_
                refine q_iast C0 V hO187 (q_ix (x := lx174.toInt) rfl (by have t1 : a169.toInt ≤ lx174.toInt + lx175.toInt := i178; have t2 : lx174.toInt ≤ lx175.toInt + a169.toInt := i180; have t3 : lx175.toInt < lx174.toInt := b195; omega) (by have t1 : a169.toInt ≤ lx174.toInt + lx175.toInt := i178; have t2 : lx174.toInt ≤ lx175.toInt + a169.toInt := i180; have t3 : lx175.toInt < lx174.toInt := b195; have t4 : lx174.toInt ≤ 2099 := ob198; have e9 : (((2100 : Int32).toNatClampNeg : Nat) : Int) = 2100 := (by decide); omega)) d_19_42_193 (fun H locs w205 hu206 hO187 V => ?_)
                replace hI := n_ai' hI (n_r133 g q).1 hu206 hO187 (q_updB (fun _ => s_bnd) s_bnd)
                replace hO183 := (hu206 _ (by decide)).trans hO183
                replace hO184 := (hu206 _ (by decide)).trans hO184
                replace hO185 := (hu206 _ (by decide)).trans hO185
                replace hO186 := (hu206 _ (by decide)).trans hO186
                replace hF := q_us hF hu206 (by simp)
                obtain ⟨f207, e208⟩ := q_nm (upd f203 lx174.toNatClampNeg a196 : (Nat → Int32))
                rw [e208] at hO187
                obtain ⟨a209, e210⟩ := q_nm (lx175 + 1 : Int32)
                have b211 : q_F (a209.toInt = lx175.toInt + 1) := (by rw [← e210]; exact q_addI (y := 1) rfl (by decide) (by have t1 : a169.toInt ≤ lx174.toInt + lx175.toInt := i178; have t2 : lx174.toInt ≤ lx175.toInt + a169.toInt := i180; have t3 : lx174.toInt + lx175.toInt ≤ a169.toInt := i179; have t4 : lx175.toInt < lx174.toInt := b195; have _ := q_lo32 (x := a169); have _ := q_hi32 (x := a169); omega) (by have t1 : a169.toInt ≤ lx174.toInt + lx175.toInt := i178; have t2 : lx174.toInt ≤ lx175.toInt + a169.toInt := i180; have t3 : lx174.toInt + lx175.toInt ≤ a169.toInt := i179; have t4 : lx175.toInt < lx174.toInt := b195; have _ := q_lo32 (x := a169); have _ := q_hi32 (x := a169); omega))
                refine lv_iinc (v := a209) (lv' := [(3, .int a209), (5, .int a196), (4, .int lx174), (0, .ref (q 119))]) hx hb d_19_42_194 hl (k := 2) rfl (e210) (by decide) rfl (fun ls hl => ?_)
                obtain ⟨a212, e213⟩ := q_nm (lx174 + (-1) : Int32)
                have b214 : q_F (a212.toInt = lx174.toInt + (-1)) := (by rw [← e213]; exact q_addI (y := (-1)) rfl (by decide) (by have t1 : a169.toInt ≤ lx174.toInt + lx175.toInt := i178; have t2 : lx174.toInt ≤ lx175.toInt + a169.toInt := i180; have t3 : lx175.toInt < lx174.toInt := b195; have t4 : lx174.toInt ≤ 2099 := ob198; omega) (by have t1 : a169.toInt ≤ lx174.toInt + lx175.toInt := i178; have t2 : lx174.toInt ≤ lx175.toInt + a169.toInt := i180; have t3 : lx175.toInt < lx174.toInt := b195; have t4 : lx174.toInt ≤ 2099 := ob198; omega))
                refine lv_iinc (v := a212) (lv' := [(4, .int a212), (3, .int a209), (5, .int a196), (0, .ref (q 119))]) hx hb d_19_42_197 hl (k := 2) rfl (e213) (by decide) rfl (fun ls hl => ?_)
                refine lv_goto (tgt := 158) hx hb d_19_42_200 (by decide) ?_
                exact ih181 ((a212 : Int32), (a209 : Int32), (f207 : (Nat → Int32))) _ _ _ _ (show (a212.toInt - ((-1))).toNat < (lx174.toInt - ((-1))).toNat from by have t1 : a212.toInt = lx174.toInt + (-1) := b214; have t2 : a169.toInt ≤ lx174.toInt + lx175.toInt := i178; have t3 : lx174.toInt ≤ lx175.toInt + a169.toInt := i180; have t4 : lx175.toInt < lx174.toInt := b195; omega) ⟨(show q_F (a209.toInt + 1 ≤ lx152.toInt) from (show a209.toInt + 1 ≤ lx152.toInt from by have t1 : 0 ≤ lx33.toInt := i40; have t2 : lx33.toInt ≤ lx61.toInt := i65; have t3 : lx61.toInt ≠ 0 := b147; have t4 : lx61.toInt ≤ lx152.toInt := i161; have t5 : a169.toInt = lx152.toInt - 1 := b171; have t6 : lx174.toInt + lx175.toInt ≤ a169.toInt := i179; have t7 : lx175.toInt < lx174.toInt := b195; have t8 : a209.toInt = lx175.toInt + 1 := b211; omega)), (show q_F (a169.toInt ≤ a212.toInt + a209.toInt) from (show a169.toInt ≤ a212.toInt + a209.toInt from by have t1 : a169.toInt ≤ lx174.toInt + lx175.toInt := i178; have t2 : a209.toInt = lx175.toInt + 1 := b211; have t3 : a212.toInt = lx174.toInt + (-1) := b214; omega)), (show q_F (a212.toInt + a209.toInt ≤ a169.toInt) from (show a212.toInt + a209.toInt ≤ a169.toInt from by have t1 : lx174.toInt + lx175.toInt ≤ a169.toInt := i179; have t2 : a209.toInt = lx175.toInt + 1 := b211; have t3 : a212.toInt = lx174.toInt + (-1) := b214; omega)), (show q_F (a212.toInt ≤ a209.toInt + a169.toInt) from (show a212.toInt ≤ a209.toInt + a169.toInt from by have t1 : lx174.toInt ≤ lx175.toInt + a169.toInt := i180; have t2 : a209.toInt = lx175.toInt + 1 := b211; have t3 : a212.toInt = lx174.toInt + (-1) := b214; omega)), V, q_lw hl (q_lw1 0 rfl (q_lw1 1 rfl (q_lw1 3 rfl q_lw0))), hI, hF, hO183, hO184, hO185, hO186, hO187, ⟨fm192, Nat.lt_of_lt_of_le (show (a212.toInt - ((-1))).toNat < (lx174.toInt - ((-1))).toNat from by have t1 : a212.toInt = lx174.toInt + (-1) := b214; have t2 : a169.toInt ≤ lx174.toInt + lx175.toInt := i178; have t3 : lx174.toInt ≤ lx175.toInt + a169.toInt := i180; have t4 : lx175.toInt < lx174.toInt := b195; omega) (Nat.le_of_lt_succ hf191), (show F_WR_written_L158 (F_WR_written_L50 x2 x3 t0_0 t0_1 t0_2 t0_3 t0_4 t0_5 t0_6 t1_0 t2_0 t3_0 t4_0 lx33 fm77) x2 x3 t0_0 t0_1 t0_2 t0_3 t0_4 t0_5 t0_6 t1_0 t2_0 t3_0 t4_0 lx33 lx61 lx62 lx63 lx152 lx153 fm192 a212 a209 f207 = (F_WR_written x2 x3 t0_0 t0_1 t0_2 t0_3 t0_4 t0_5 t0_6 t1_0 t2_0 t3_0 t4_0) from Eq.trans (by rw [← e213, ← e210, ← e208, ← e204, ← e200, ← e197, F_WR_written_L158.eq_2, if_neg c193]) hR188), (show True ∧ S_WR_written_L158 (S_WR_written_L50 x2 x3 t0_0 t0_1 t0_2 t0_3 t0_4 t0_5 t0_6 t1_0 t2_0 t3_0 t4_0 lx33 fm77) x2 x3 t0_0 t0_1 t0_2 t0_3 t0_4 t0_5 t0_6 t1_0 t2_0 t3_0 t4_0 lx33 lx61 lx62 lx63 lx152 lx153 fm192 a212 a209 f207 from (by rw [← e213, ← e210, ← e208, ← e204, ← e200, ← e197]; have h := hS189; rw [S_WR_written_L158.eq_2] at h; rw [if_neg c193] at h; replace h := q_s2 h; with_reducible exact h))⟩⟩
            ·
              intro J159
              refine lv_if_eq (tgt := 148) hx hb d_19_42_124 (by decide) (fun c215 => ?_) (fun c215 => ?_)
              ·
                have b216 : q_F (a150.toInt = 0) := (q_eqI c215)
                exact J159 ((lx61 : Int32), (lx63 : (Nat → Int32))) _ _ _ _ ⟨(show q_F (lx61.toInt ≤ lx33.toInt + 2100) from (show lx61.toInt ≤ lx33.toInt + 2100 from by have t1 : 0 ≤ lx33.toInt := i40; have t2 : lx61.toInt ≤ 2100 := i64; omega)), (show q_F (lx61.toInt ≤ lx61.toInt) from (show lx61.toInt ≤ lx61.toInt from by omega)), (show q_F (lx61.toInt ≤ lx61.toInt + 1) from (show lx61.toInt ≤ lx61.toInt + 1 from by omega)), V, q_lw hl (q_lw1 0 rfl q_lw0), hI, hF, hO68, hO69, hO70, hO71, hO72, (show F_WR_written_J148 (F_WR_written_L50 x2 x3 t0_0 t0_1 t0_2 t0_3 t0_4 t0_5 t0_6 t1_0 t2_0 t3_0 t4_0 lx33 fm77) x2 x3 t0_0 t0_1 t0_2 t0_3 t0_4 t0_5 t0_6 t1_0 t2_0 t3_0 t4_0 lx33 lx61 lx62 lx63 lx61 lx63 = (F_WR_written x2 x3 t0_0 t0_1 t0_2 t0_3 t0_4 t0_5 t0_6 t1_0 t2_0 t3_0 t4_0) from Eq.trans (by have c143x := c143; rw [e84] at c143x; have c215x := c215; rw [← e151] at c215x; rw [F_WR_written_L50.eq_2, if_neg c143x, if_neg c146, if_pos c215x]) hR73), (show True ∧ S_WR_written_J148 (S_WR_written_L50 x2 x3 t0_0 t0_1 t0_2 t0_3 t0_4 t0_5 t0_6 t1_0 t2_0 t3_0 t4_0 lx33 fm77) x2 x3 t0_0 t0_1 t0_2 t0_3 t0_4 t0_5 t0_6 t1_0 t2_0 t3_0 t4_0 lx33 lx61 lx62 lx63 lx61 lx63 from (by have h := hS74; rw [S_WR_written_L50.eq_2] at h; have c143x := c143; rw [e84] at c143x; rw [if_neg c143x] at h; rw [if_neg c146] at h; replace h := q_s2 h; replace h := q_s2 h; have c215x := c215; rw [← e151] at c215x; rw [if_pos c215x] at h; with_reducible exact h))⟩
              ·
                have b217 : q_F (a150.toInt ≠ 0) := (q_neI c215)
                refine lv_aload_n hx hb d_19_42_127 rfl (lv_at hl 0 rfl) ?_
                refine q_get (ci := 13) (j := 19) (v := .ref (q 133)) C0 V i_WR rfl rfl hO68 (by decide) w_1943 rfl d_19_42_128 ?_
                refine lv_aload_n hx hb d_19_42_131 rfl (lv_at hl 0 rfl) ?_
                refine q_get (ci := 13) (j := 20) (v := .int lx61) C0 V i_WR rfl rfl hO68 (by decide) w_1945 rfl d_19_42_132 ?_
                refine lv_bipush (v := 45) hx hb d_19_42_135 (by decide) ?_
                have ob218 : q_F (lx61.toInt ≤ 2099) := (by have h := hS74; rw [S_WR_written_L50.eq_2] at h; have c143x := c143; rw [e84] at c143x; rw [if_neg c143x] at h; rw [if_neg c146] at h; replace h := q_s2 h; replace h := q_s2 h; have c215x := c215; rw [← e151] at c215x; rw [if_neg c215x] at h; exact h.2.1)
                refine q_iast C0 V hO72 (q_ix (x := lx61.toInt) rfl (by have t1 : 0 ≤ lx33.toInt := i40; have t2 : lx33.toInt ≤ lx61.toInt := i65; omega) (by have t1 : 0 ≤ lx33.toInt := i40; have t2 : lx33.toInt ≤ lx61.toInt := i65; have t3 : lx61.toInt ≤ 2099 := ob218; have e9 : (((2100 : Int32).toNatClampNeg : Nat) : Int) = 2100 := (by decide); omega)) d_19_42_137 (fun H locs w219 hu220 hO72 V => ?_)
                replace hI := n_ai' hI (n_r133 g q).1 hu220 hO72 (q_updB (fun _ => s_bnd) s_bnd)
                replace hO68 := (hu220 _ (by decide)).trans hO68
                replace hO69 := (hu220 _ (by decide)).trans hO69
                replace hO70 := (hu220 _ (by decide)).trans hO70
                replace hO71 := (hu220 _ (by decide)).trans hO71
                replace hF := q_us hF hu220 (by simp)
                obtain ⟨f221, e222⟩ := q_nm (upd lx63 lx61.toNatClampNeg 45 : (Nat → Int32))
                rw [e222] at hO72
                refine lv_aload_n hx hb d_19_42_138 rfl (lv_at hl 0 rfl) ?_
                refine lv_dup hx hb d_19_42_139 rfl ?_
                refine q_get (ci := 13) (j := 20) (v := .int lx61) C0 V i_WR rfl rfl hO68 (by decide) w_1945 rfl d_19_42_140 ?_
                refine lv_iconst (v := 1) hx hb d_19_42_143 (by decide) ?_
                refine lv_iadd hx hb d_19_42_144 ?_
                obtain ⟨a223, e224⟩ := q_nm (lx61 + 1 : Int32)
                refine q_ti (v := a223) e224 ?_
                have b225 : q_F (a223.toInt = lx61.toInt + 1) := (by rw [← e224]; show (lx61 + 1 : Int32).toInt = lx61.toInt + 1; exact q_addI (x := lx61.toInt) (y := 1) rfl (by decide) (by have t1 : lx33.toInt ≤ lx61.toInt := i65; have _ := q_lo32 (x := lx33); have _ := q_hi32 (x := lx33); have t2 : lx61.toInt ≤ 2100 := i64; omega) (by have t1 : lx33.toInt ≤ lx61.toInt := i65; have _ := q_lo32 (x := lx33); have _ := q_hi32 (x := lx33); have t2 : lx61.toInt ≤ 2100 := i64; omega))
                refine q_put (ci := 13) (j := 20) (v := .int a223) (ty := .int) C0 V i_WR o_WR n_WR rfl rfl hO68 (by decide) w_1945 rfl rfl rfl rfl (Nat.le_of_ble_eq_true rfl) d_19_42_145 (fun H locs w226 hu227 hO68 V => ?_)
                replace hO68 : w226[119]? = (some (q 119, .inr (13, [.int lx33, .int t0_1, .ref (q 120), .int t0_2, .ref (q 121), .ref (q 122), .ref (q 123), .int t0_3, .ref (q 124), .ref (q 125), .ref (q 126), .ref (q 127), .ref (q 128), .ref (q 129), .ref (q 130), .ref (q 131), .int t0_4, .int t0_5, .ref (q 132), .ref (q 133), .int a223])) : Option (Nat × va_E)) := hO68
                replace hI := n_p119 hI hu227 hO68 ⟨(by have t1 : 0 ≤ t0_2.toInt ∧ t0_2.toInt ≤ 4100 := btt0_2; omega), (by have t1 : 0 ≤ t0_2.toInt ∧ t0_2.toInt ≤ 4100 := btt0_2; omega)⟩ ⟨(by have t1 : 0 ≤ t0_3.toInt ∧ t0_3.toInt ≤ 1 := btt0_3; omega), (by have t1 : 0 ≤ t0_3.toInt ∧ t0_3.toInt ≤ 1 := btt0_3; omega)⟩ ⟨(by have t1 : 0 ≤ t0_4.toInt ∧ t0_4.toInt ≤ 1 := btt0_4; omega), (by have t1 : 0 ≤ t0_4.toInt ∧ t0_4.toInt ≤ 1 := btt0_4; omega)⟩ ⟨(by have t1 : 0 ≤ t0_5.toInt ∧ t0_5.toInt ≤ 1 := btt0_5; omega), (by have t1 : 0 ≤ t0_5.toInt ∧ t0_5.toInt ≤ 1 := btt0_5; omega)⟩ ⟨(by have t1 : 0 ≤ lx33.toInt := i40; have t2 : lx33.toInt ≤ lx61.toInt := i65; have t3 : a223.toInt = lx61.toInt + 1 := b225; omega), (by have t1 : lx61.toInt ≤ 2099 := ob218; have t2 : a223.toInt = lx61.toInt + 1 := b225; omega)⟩
                replace hO69 := (hu227 _ (by decide)).trans hO69
                replace hO70 := (hu227 _ (by decide)).trans hO70
                replace hO71 := (hu227 _ (by decide)).trans hO71
                replace hO72 := (hu227 _ (by decide)).trans hO72
                replace hF := q_us hF hu227 (by simp)
                exact J159 ((a223 : Int32), (f221 : (Nat → Int32))) _ _ _ _ ⟨(show q_F (a223.toInt ≤ lx33.toInt + 2100) from (show a223.toInt ≤ lx33.toInt + 2100 from by have t1 : 0 ≤ lx33.toInt := i40; have t2 : lx61.toInt ≤ 2099 := ob218; have t3 : a223.toInt = lx61.toInt + 1 := b225; omega)), (show q_F (lx61.toInt ≤ a223.toInt) from (show lx61.toInt ≤ a223.toInt from by have t1 : a223.toInt = lx61.toInt + 1 := b225; omega)), (show q_F (a223.toInt ≤ lx61.toInt + 1) from (show a223.toInt ≤ lx61.toInt + 1 from by have t1 : a223.toInt = lx61.toInt + 1 := b225; omega)), V, q_lw hl (q_lw1 0 rfl q_lw0), hI, hF, hO68, hO69, hO70, hO71, hO72, (show F_WR_written_J148 (F_WR_written_L50 x2 x3 t0_0 t0_1 t0_2 t0_3 t0_4 t0_5 t0_6 t1_0 t2_0 t3_0 t4_0 lx33 fm77) x2 x3 t0_0 t0_1 t0_2 t0_3 t0_4 t0_5 t0_6 t1_0 t2_0 t3_0 t4_0 lx33 lx61 lx62 lx63 a223 f221 = (F_WR_written x2 x3 t0_0 t0_1 t0_2 t0_3 t0_4 t0_5 t0_6 t1_0 t2_0 t3_0 t4_0) from Eq.trans (by have c143x := c143; rw [e84] at c143x; have c215x := c215; rw [← e151] at c215x; rw [← e224, ← e222, F_WR_written_L50.eq_2, if_neg c143x, if_neg c146, if_neg c215x]) hR73), (show True ∧ S_WR_written_J148 (S_WR_written_L50 x2 x3 t0_0 t0_1 t0_2 t0_3 t0_4 t0_5 t0_6 t1_0 t2_0 t3_0 t4_0 lx33 fm77) x2 x3 t0_0 t0_1 t0_2 t0_3 t0_4 t0_5 t0_6 t1_0 t2_0 t3_0 t4_0 lx33 lx61 lx62 lx63 a223 f221 from (by rw [← e224, ← e222]; have h := hS74; rw [S_WR_written_L50.eq_2] at h; have c143x := c143; rw [e84] at c143x; rw [if_neg c143x] at h; rw [if_neg c146] at h; replace h := q_s2 h; replace h := q_s2 h; have c215x := c215; rw [← e151] at c215x; rw [if_neg c215x] at h; replace h := q_s2 h; with_reducible exact h))⟩
          ·
            have b228 : q_F (lx61.toInt = 0) := (q_eqI c146)
            exact J90 (()) _ _ _ w67 ⟨V, q_lw hl (q_lw1 0 rfl (q_lw1 1 rfl (q_lw1 2 rfl q_lw0))), (show F_WR_written_J67 (F_WR_written_L50 x2 x3 t0_0 t0_1 t0_2 t0_3 t0_4 t0_5 t0_6 t1_0 t2_0 t3_0 t4_0 lx33 fm77) x2 x3 t0_0 t0_1 t0_2 t0_3 t0_4 t0_5 t0_6 t1_0 t2_0 t3_0 t4_0 lx33 lx61 lx62 lx63 = (F_WR_written x2 x3 t0_0 t0_1 t0_2 t0_3 t0_4 t0_5 t0_6 t1_0 t2_0 t3_0 t4_0) from Eq.trans (by have c143x := c143; rw [e84] at c143x; rw [F_WR_written_L50.eq_2, if_neg c143x, if_pos c146]) hR73), (show True ∧ S_WR_written_J67 (S_WR_written_L50 x2 x3 t0_0 t0_1 t0_2 t0_3 t0_4 t0_5 t0_6 t1_0 t2_0 t3_0 t4_0 lx33 fm77) x2 x3 t0_0 t0_1 t0_2 t0_3 t0_4 t0_5 t0_6 t1_0 t2_0 t3_0 t4_0 lx33 lx61 lx62 lx63 from (by have h := hS74; rw [S_WR_written_L50.eq_2] at h; have c143x := c143; rw [e84] at c143x; rw [if_neg c143x] at h; rw [if_pos c146] at h; with_reducible exact h))⟩
    ·
      have b229 : q_F (0 < lx33.toInt) := (q_nleI c49)
      refine lv_iconst (v := 0) hx hb d_19_42_34 (by decide) ?_
      exact q_reti C0 V (⟨hI, hF, lx33, t0_1, t0_2, t0_3, t0_4, t0_5, t0_6, t3_0, t4_0, hT0, hT3, hT4, (show 0 ≤ (0 : Int32).toInt from (by have z13 : (0 : Int32).toInt = 0 := rfl; omega)), (show 0 ≤ lx33.toInt from (by have z13 : (0 : Int32).toInt = 0 := rfl; have t1 : 0 ≤ lx33.toInt := i40; omega)), (show lx33.toInt ≤ 1 from (by have z13 : (0 : Int32).toInt = 0 := rfl; have t1 : lx33.toInt ≤ 1 := i41; omega)), (show t0_6.toInt ≤ 2100 from (by have z13 : (0 : Int32).toInt = 0 := rfl; have t1 : 0 ≤ t0_6.toInt ∧ t0_6.toInt ≤ 2100 := btt0_6; omega)), (show t0_1.toInt ≤ t0_1.toInt from (by have z13 : (0 : Int32).toInt = 0 := rfl; omega)), (show t0_1.toInt ≤ t0_1.toInt from (by have z13 : (0 : Int32).toInt = 0 := rfl; omega)), (show t0_2.toInt ≤ t0_2.toInt from (by have z13 : (0 : Int32).toInt = 0 := rfl; omega)), (show t0_2.toInt ≤ t0_2.toInt from (by have z13 : (0 : Int32).toInt = 0 := rfl; omega)), (show t0_3.toInt ≤ t0_3.toInt from (by have z13 : (0 : Int32).toInt = 0 := rfl; omega)), (show t0_3.toInt ≤ t0_3.toInt from (by have z13 : (0 : Int32).toInt = 0 := rfl; omega)), (show t0_4.toInt ≤ t0_4.toInt from (by have z13 : (0 : Int32).toInt = 0 := rfl; omega)), (show t0_4.toInt ≤ t0_4.toInt from (by have z13 : (0 : Int32).toInt = 0 := rfl; omega)), (show t0_5.toInt ≤ t0_5.toInt from (by have z13 : (0 : Int32).toInt = 0 := rfl; omega)), (show t0_5.toInt ≤ t0_5.toInt from (by have z13 : (0 : Int32).toInt = 0 := rfl; omega)), (show t0_6.toInt ≤ t0_6.toInt + 2099 from (by have z13 : (0 : Int32).toInt = 0 := rfl; omega)), (show (0 : Int32).toInt ≤ t0_6.toInt from (by have z13 : (0 : Int32).toInt = 0 := rfl; have t1 : 0 ≤ t0_6.toInt ∧ t0_6.toInt ≤ 2100 := btt0_6; omega)), (show ((0 : Int32), lx33, t0_1, t0_2, t0_3, t0_4, t0_5, t0_6, t3_0, t4_0) = (F_WR_written x2 x3 t0_0 t0_1 t0_2 t0_3 t0_4 t0_5 t0_6 t1_0 t2_0 t3_0 t4_0) from Eq.trans (by rw [F_WR_written_J24.eq_1, if_neg c49]) hR42)⟩) d_19_42_35
  ·
    intro J39
    refine q_join (X := Unit) (fun z H locs ls _ => q_Wd D g (va_A ws sz) s ws H locs ∧ lv_has ls 6 [(0, .ref (q 119)), (1, .int x2), (2, .int x3)] ∧ F_WR_written_J19 x2 x3 t0_0 t0_1 t0_2 t0_3 t0_4 t0_5 t0_6 t1_0 t2_0 t3_0 t4_0 = (F_WR_written x2 x3 t0_0 t0_1 t0_2 t0_3 t0_4 t0_5 t0_6 t1_0 t2_0 t3_0 t4_0) ∧ True ∧ S_WR_written_J19 x2 x3 t0_0 t0_1 t0_2 t0_3 t0_4 t0_5 t0_6 t1_0 t2_0 t3_0 t4_0) (fun z => [.ref (q 119)]) 19 0 0 ?_ ?_
    ·
      rintro _ H locs ls _ ⟨V, hl, hR236, hS237⟩
      replace hl : lv_has ls 6 [(0, .ref (q 119)), (1, .int x2), (2, .int x3)] := hl
      refine lv_iconst (v := 1) hx hb d_19_42_19 (by decide) ?_
      refine lv_goto (tgt := 24) hx hb d_19_42_20 (by decide) ?_
      exact J39 ((1 : Int32)) _ _ _ ws ⟨(show q_F (0 ≤ 1) from (show 0 ≤ 1 from by omega)), (show q_F (1 ≤ 1) from (show 1 ≤ 1 from by omega)), V, q_lw hl (q_lw1 0 rfl (q_lw1 1 rfl (q_lw1 2 rfl q_lw0))), (show F_WR_written_J24 x2 x3 t0_0 t0_1 t0_2 t0_3 t0_4 t0_5 t0_6 t1_0 t2_0 t3_0 t4_0 1 = (F_WR_written x2 x3 t0_0 t0_1 t0_2 t0_3 t0_4 t0_5 t0_6 t1_0 t2_0 t3_0 t4_0) from Eq.trans (by rw [F_WR_written_J19.eq_1]) hR236), (show True ∧ S_WR_written_J24 x2 x3 t0_0 t0_1 t0_2 t0_3 t0_4 t0_5 t0_6 t1_0 t2_0 t3_0 t4_0 1 from (by have h := hS237; rw [S_WR_written_J19.eq_1] at h; with_reducible exact h))⟩
    ·
      intro J235
      refine lv_if_ne (tgt := 19) hx hb d_19_42_5 (by decide) (fun c241 => ?_) (fun c241 => ?_)
      ·
        have b242 : q_F (a28.toInt ≠ 0) := (q_neI c241)
        exact J235 (()) _ _ _ ws ⟨V, q_lw hl (q_lw1 0 rfl (q_lw1 1 rfl (q_lw1 2 rfl q_lw0))), (show F_WR_written_J19 x2 x3 t0_0 t0_1 t0_2 t0_3 t0_4 t0_5 t0_6 t1_0 t2_0 t3_0 t4_0 = (F_WR_written x2 x3 t0_0 t0_1 t0_2 t0_3 t0_4 t0_5 t0_6 t1_0 t2_0 t3_0 t4_0) from (by have c241x := c241; rw [e32] at c241x; rw [F_WR_written.eq_1, if_neg c241x])), (show True ∧ S_WR_written_J19 x2 x3 t0_0 t0_1 t0_2 t0_3 t0_4 t0_5 t0_6 t1_0 t2_0 t3_0 t4_0 from (by have h := hS; rw [S_WR_written.eq_1] at h; have c241x := c241; rw [e32] at c241x; rw [if_neg c241x] at h; with_reducible exact h))⟩
      ·
        have b243 : q_F (a28.toInt = 0) := (q_eqI c241)
        refine lv_iload_n hx hb d_19_42_8 rfl (lv_at hl 2 rfl) ?_
        refine lv_iconst (v := 2) hx hb d_19_42_9 (by decide) ?_
        refine lv_icmp_lt (tgt := 19) hx hb d_19_42_10 (by decide) (fun c244 => ?_) (fun c244 => ?_)
        ·
          have b245 : q_F (x3.toInt < 2) := (q_ltI c244)
          exact J235 (()) _ _ _ ws ⟨V, q_lw hl (q_lw1 0 rfl (q_lw1 1 rfl (q_lw1 2 rfl q_lw0))), (show F_WR_written_J19 x2 x3 t0_0 t0_1 t0_2 t0_3 t0_4 t0_5 t0_6 t1_0 t2_0 t3_0 t4_0 = (F_WR_written x2 x3 t0_0 t0_1 t0_2 t0_3 t0_4 t0_5 t0_6 t1_0 t2_0 t3_0 t4_0) from (by have c241x := c241; rw [e32] at c241x; rw [F_WR_written.eq_1, if_pos c241x, if_pos c244])), (show True ∧ S_WR_written_J19 x2 x3 t0_0 t0_1 t0_2 t0_3 t0_4 t0_5 t0_6 t1_0 t2_0 t3_0 t4_0 from (by have h := hS; rw [S_WR_written.eq_1] at h; have c241x := c241; rw [e32] at c241x; rw [if_pos c241x] at h; rw [if_pos c244] at h; with_reducible exact h))⟩
        ·
          have b246 : q_F (2 ≤ x3.toInt) := (q_nltI c244)
          refine lv_iload_n hx hb d_19_42_13 rfl (lv_at hl 2 rfl) ?_
          refine lv_bipush (v := 36) hx hb d_19_42_14 (by decide) ?_
          refine lv_icmp_le (tgt := 23) hx hb d_19_42_16 (by decide) (fun c247 => ?_) (fun c247 => ?_)
          ·
            have b248 : q_F (x3.toInt ≤ 36) := (q_leI c247)
            refine lv_iconst (v := 0) hx hb d_19_42_23 (by decide) ?_
            exact J39 ((0 : Int32)) _ _ _ ws ⟨(show q_F (0 ≤ 0) from (show 0 ≤ 0 from by omega)), (show q_F (0 ≤ 1) from (show 0 ≤ 1 from by omega)), V, q_lw hl (q_lw1 0 rfl (q_lw1 1 rfl (q_lw1 2 rfl q_lw0))), (show F_WR_written_J24 x2 x3 t0_0 t0_1 t0_2 t0_3 t0_4 t0_5 t0_6 t1_0 t2_0 t3_0 t4_0 0 = (F_WR_written x2 x3 t0_0 t0_1 t0_2 t0_3 t0_4 t0_5 t0_6 t1_0 t2_0 t3_0 t4_0) from (by have c241x := c241; rw [e32] at c241x; rw [F_WR_written.eq_1, if_pos c241x, if_neg c244, if_pos c247])), (show True ∧ S_WR_written_J24 x2 x3 t0_0 t0_1 t0_2 t0_3 t0_4 t0_5 t0_6 t1_0 t2_0 t3_0 t4_0 0 from (by have h := hS; rw [S_WR_written.eq_1] at h; have c241x := c241; rw [e32] at c241x; rw [if_pos c241x] at h; rw [if_neg c244] at h; rw [if_pos c247] at h; with_reducible exact h))⟩
          ·
            have b249 : q_F (36 < x3.toInt) := (q_nleI c247)
            exact J235 (()) _ _ _ ws ⟨V, q_lw hl (q_lw1 0 rfl (q_lw1 1 rfl (q_lw1 2 rfl q_lw0))), (show F_WR_written_J19 x2 x3 t0_0 t0_1 t0_2 t0_3 t0_4 t0_5 t0_6 t1_0 t2_0 t3_0 t4_0 = (F_WR_written x2 x3 t0_0 t0_1 t0_2 t0_3 t0_4 t0_5 t0_6 t1_0 t2_0 t3_0 t4_0) from (by have c241x := c241; rw [e32] at c241x; rw [F_WR_written.eq_1, if_pos c241x, if_neg c244, if_neg c247])), (show True ∧ S_WR_written_J19 x2 x3 t0_0 t0_1 t0_2 t0_3 t0_4 t0_5 t0_6 t1_0 t2_0 t3_0 t4_0 from (by have h := hS; rw [S_WR_written.eq_1] at h; have c241x := c241; rw [e32] at c241x; rw [if_pos c241x] at h; rw [if_neg c244] at h; rw [if_neg c247] at h; with_reducible exact h))⟩
