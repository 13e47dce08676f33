/-! WholeRows, exactly: calls -/
theorem d_19_19_0 : decode prog_19_method_19_code 0 = .ok (.aload_n 0, 1) := by decide +kernel
theorem d_19_19_1 : decode prog_19_method_19_code 1 = .ok (.iload_n 1, 1) := by decide +kernel
theorem d_19_19_2 : decode prog_19_method_19_code 2 = .ok (.invokestatic 91, 3) := by decide +kernel
set_option maxRecDepth 100000 in
theorem w_2371 : (Cond.code ({ cls := "NumberHouseModel$WholeRows", name := "no", desc := "(I)Z" } : MethodName) prog_19_method_3_code (1 : Nat) (some .boolean)) ∈ q_tbl := q_of10 211 rfl (by decide +kernel)
set_option maxRecDepth 100000 in
theorem w_2369 : (Cond.methodLink "NumberHouseModel$WholeRows" (91 : Nat) ({ cls := "NumberHouseModel$WholeRows", name := "no", desc := "(I)Z" } : MethodName)) ∈ q_tbl := q_of10 209 rfl (by decide +kernel)
set_option maxRecDepth 100000 in
theorem w_2370 : (Cond.static ({ cls := "NumberHouseModel$WholeRows", name := "no", desc := "(I)Z" } : MethodName)) ∈ q_tbl := q_of10 210 rfl (by decide +kernel)
theorem LS_WR_91 : q_LS "NumberHouseModel$WholeRows" 91 y_WR_no prog_19_method_3_code 1 (some .boolean) 1 := ⟨w_2371, w_15, w_2369, w_2370, ⟨by decide, by decide, by decide +kernel⟩⟩
theorem d_19_19_24 : decode prog_19_method_19_code 24 = .ok (.putfield 53, 3) := by decide +kernel
theorem d_19_19_27 : decode prog_19_method_19_code 27 = .ok (.aload_n 0, 1) := by decide +kernel
theorem d_19_19_28 : decode prog_19_method_19_code 28 = .ok (.getfield 53, 3) := by decide +kernel
theorem d_19_19_31 : decode prog_19_method_19_code 31 = .ok (.ifCond .le 4, 3) := by decide +kernel
theorem d_19_19_35 : decode prog_19_method_19_code 35 = .ok (.aload_n 0, 1) := by decide +kernel
theorem d_19_19_36 : decode prog_19_method_19_code 36 = .ok (.getfield 86, 3) := by decide +kernel
set_option maxRecDepth 100000 in
theorem w_1927 : (Cond.fieldLink "NumberHouseModel$WholeRows" (86 : Nat) "NumberHouseModel$WholeRows" "length" "I") ∈ q_tbl := q_of9 7 rfl (by decide +kernel)
theorem d_19_19_69 : decode prog_19_method_19_code 69 = .ok (.istore_n 3, 1) := by decide +kernel
theorem d_19_19_70 : decode prog_19_method_19_code 70 = .ok (.aload_n 0, 1) := by decide +kernel
theorem d_19_19_71 : decode prog_19_method_19_code 71 = .ok (.iload_n 3, 1) := by decide +kernel
theorem d_19_19_72 : decode prog_19_method_19_code 72 = .ok (.aload_n 0, 1) := by decide +kernel
theorem d_19_19_73 : decode prog_19_method_19_code 73 = .ok (.getfield 86, 3) := by decide +kernel
theorem d_19_19_84 : decode prog_19_method_19_code 84 = .ok (.putfield 53, 3) := by decide +kernel
theorem d_19_19_87 : decode prog_19_method_19_code 87 = .ok (.iload_n 3, 1) := by decide +kernel
theorem d_19_19_88 : decode prog_19_method_19_code 88 = .ok (.istore 4, 2) := by decide +kernel
theorem d_19_19_90 : decode prog_19_method_19_code 90 = .ok (.iload 4, 2) := by decide +kernel
theorem d_19_19_92 : decode prog_19_method_19_code 92 = .ok (.aload_n 0, 1) := by decide +kernel
theorem d_19_19_93 : decode prog_19_method_19_code 93 = .ok (.getfield 86, 3) := by decide +kernel
theorem d_19_19_96 : decode prog_19_method_19_code 96 = .ok (.if_icmp .ge 35, 3) := by decide +kernel
theorem d_19_19_131 : decode prog_19_method_19_code 131 = .ok (.aload_n 0, 1) := by decide +kernel
theorem d_19_19_132 : decode prog_19_method_19_code 132 = .ok (.getfield 53, 3) := by decide +kernel
theorem d_19_19_135 : decode prog_19_method_19_code 135 = .ok (.ifCond .le 4, 3) := by decide +kernel
theorem d_19_19_139 : decode prog_19_method_19_code 139 = .ok (.aload_n 0, 1) := by decide +kernel
theorem d_19_19_140 : decode prog_19_method_19_code 140 = .ok (.getfield 20, 3) := by decide +kernel
theorem d_19_19_143 : decode prog_19_method_19_code 143 = .ok (.invokestatic 63, 3) := by decide +kernel
theorem d_19_19_146 : decode prog_19_method_19_code 146 = .ok (.iload_n 3, 1) := by decide +kernel
theorem d_19_19_147 : decode prog_19_method_19_code 147 = .ok (.istore 4, 2) := by decide +kernel
theorem d_19_19_149 : decode prog_19_method_19_code 149 = .ok (.iload 4, 2) := by decide +kernel
theorem d_19_19_151 : decode prog_19_method_19_code 151 = .ok (.aload_n 0, 1) := by decide +kernel
theorem d_19_19_152 : decode prog_19_method_19_code 152 = .ok (.getfield 86, 3) := by decide +kernel
theorem d_19_19_155 : decode prog_19_method_19_code 155 = .ok (.if_icmp .ge 46, 3) := by decide +kernel
theorem d_19_19_201 : decode prog_19_method_19_code 201 = .ok (.aload_n 0, 1) := by decide +kernel
theorem d_19_19_202 : decode prog_19_method_19_code 202 = .ok (.aload_n 0, 1) := by decide +kernel
theorem d_19_19_203 : decode prog_19_method_19_code 203 = .ok (.getfield 7, 3) := by decide +kernel
theorem d_19_19_206 : decode prog_19_method_19_code 206 = .ok (.iconst 0, 1) := by decide +kernel
theorem d_19_19_207 : decode prog_19_method_19_code 207 = .ok (.iaload, 1) := by decide +kernel
theorem d_19_19_208 : decode prog_19_method_19_code 208 = .ok (.bipush 45, 2) := by decide +kernel
theorem d_19_19_210 : decode prog_19_method_19_code 210 = .ok (.if_icmp .ne 7, 3) := by decide +kernel
theorem d_19_19_217 : decode prog_19_method_19_code 217 = .ok (.iconst 0, 1) := by decide +kernel
theorem d_19_19_218 : decode prog_19_method_19_code 218 = .ok (.putfield 82, 3) := by decide +kernel
theorem d_19_19_221 : decode prog_19_method_19_code 221 = .ok (.aload_n 0, 1) := by decide +kernel
theorem d_19_19_222 : decode prog_19_method_19_code 222 = .ok (.iload_n 1, 1) := by decide +kernel
theorem d_19_19_223 : decode prog_19_method_19_code 223 = .ok (.invokevirtual 103, 3) := by decide +kernel
set_option maxRecDepth 100000 in
theorem w_2388 : (Cond.code ({ cls := "NumberHouseModel$WholeRows", name := "store", desc := "(I)V" } : MethodName) prog_19_method_15_code (4 : Nat) (none : Option ClassFile.FieldType)) ∈ q_tbl := q_of10 228 rfl (by decide +kernel)
set_option maxRecDepth 100000 in
theorem w_2385 : (Cond.methodLink "NumberHouseModel$WholeRows" (103 : Nat) ({ cls := "NumberHouseModel$WholeRows", name := "store", desc := "(I)V" } : MethodName)) ∈ q_tbl := q_of10 225 rfl (by decide +kernel)
set_option maxRecDepth 100000 in
theorem w_2387 : (Cond.instanceMethod ({ cls := "NumberHouseModel$WholeRows", name := "store", desc := "(I)V" } : MethodName)) ∈ q_tbl := q_of10 227 rfl (by decide +kernel)
theorem ws_60 : Cond.selects "NumberHouseModel$WholeRows" (⟨"NumberHouseModel$WholeRows", "store", "(I)V"⟩ : MethodName) (⟨"NumberHouseModel$WholeRows", "store", "(I)V"⟩ : MethodName) ∈ q_tbl := q_ofs 60 (by decide +kernel) (by decide +kernel)
theorem LV_WR_103 : q_LV "NumberHouseModel$WholeRows" 103 y_WR_store prog_19_method_15_code 4 none 1 := ⟨w_2388, w_15, w_2385, w_2387, ws_60, ⟨by decide, by decide, by decide +kernel⟩⟩
theorem d_19_19_226 : decode prog_19_method_19_code 226 = .ok (.aload_n 0, 1) := by decide +kernel
theorem d_19_19_227 : decode prog_19_method_19_code 227 = .ok (.iconst 0, 1) := by decide +kernel
theorem d_19_19_228 : decode prog_19_method_19_code 228 = .ok (.putfield 86, 3) := by decide +kernel
theorem d_19_19_231 : decode prog_19_method_19_code 231 = .ok (.return_, 1) := by decide +kernel
theorem d_19_19_213 : decode prog_19_method_19_code 213 = .ok (.iconst 1, 1) := by decide +kernel
theorem d_19_19_214 : decode prog_19_method_19_code 214 = .ok (.goto 4, 3) := by decide +kernel
theorem d_19_19_158 : decode prog_19_method_19_code 158 = .ok (.aload_n 0, 1) := by decide +kernel
theorem d_19_19_159 : decode prog_19_method_19_code 159 = .ok (.getfield 20, 3) := by decide +kernel
theorem d_19_19_162 : decode prog_19_method_19_code 162 = .ok (.iload_n 2, 1) := by decide +kernel
theorem d_19_19_163 : decode prog_19_method_19_code 163 = .ok (.aload_n 0, 1) := by decide +kernel
theorem d_19_19_164 : decode prog_19_method_19_code 164 = .ok (.getfield 7, 3) := by decide +kernel
theorem d_19_19_167 : decode prog_19_method_19_code 167 = .ok (.iload 4, 2) := by decide +kernel
theorem d_19_19_169 : decode prog_19_method_19_code 169 = .ok (.iaload, 1) := by decide +kernel
theorem d_19_19_170 : decode prog_19_method_19_code 170 = .ok (.invokestatic 95, 3) := by decide +kernel
set_option maxRecDepth 100000 in
theorem w_2374 : (Cond.code ({ cls := "NumberHouseModel$WholeRows", name := "digit", desc := "(I)I" } : MethodName) prog_19_method_18_code (1 : Nat) (some .int)) ∈ q_tbl := q_of10 214 rfl (by decide +kernel)
set_option maxRecDepth 100000 in
theorem w_2372 : (Cond.methodLink "NumberHouseModel$WholeRows" (95 : Nat) ({ cls := "NumberHouseModel$WholeRows", name := "digit", desc := "(I)I" } : MethodName)) ∈ q_tbl := q_of10 212 rfl (by decide +kernel)
set_option maxRecDepth 100000 in
theorem w_2373 : (Cond.static ({ cls := "NumberHouseModel$WholeRows", name := "digit", desc := "(I)I" } : MethodName)) ∈ q_tbl := q_of10 213 rfl (by decide +kernel)
theorem LS_WR_95 : q_LS "NumberHouseModel$WholeRows" 95 y_WR_digit prog_19_method_18_code 1 (some .int) 1 := ⟨w_2374, w_15, w_2372, w_2373, ⟨by decide, by decide, by decide +kernel⟩⟩
theorem d_19_19_173 : decode prog_19_method_19_code 173 = .ok (.invokestatic 99, 3) := by decide +kernel
set_option maxRecDepth 100000 in
theorem w_2380 : (Cond.code ({ cls := "NumberHouseModel$WholeRows", name := "grow", desc := "([III)V" } : MethodName) prog_19_method_11_code (7 : Nat) (none : Option ClassFile.FieldType)) ∈ q_tbl := q_of10 220 rfl (by decide +kernel)
set_option maxRecDepth 100000 in
theorem w_2378 : (Cond.methodLink "NumberHouseModel$WholeRows" (99 : Nat) ({ cls := "NumberHouseModel$WholeRows", name := "grow", desc := "([III)V" } : MethodName)) ∈ q_tbl := q_of10 218 rfl (by decide +kernel)
set_option maxRecDepth 100000 in
theorem w_2379 : (Cond.static ({ cls := "NumberHouseModel$WholeRows", name := "grow", desc := "([III)V" } : MethodName)) ∈ q_tbl := q_of10 219 rfl (by decide +kernel)
theorem LS_WR_99 : q_LS "NumberHouseModel$WholeRows" 99 y_WR_grow prog_19_method_11_code 7 none 3 := ⟨w_2380, w_15, w_2378, w_2379, ⟨by decide, by decide, by decide +kernel⟩⟩
theorem d_19_19_176 : decode prog_19_method_19_code 176 = .ok (.aload_n 0, 1) := by decide +kernel
theorem d_19_19_177 : decode prog_19_method_19_code 177 = .ok (.getfield 20, 3) := by decide +kernel
theorem d_19_19_180 : decode prog_19_method_19_code 180 = .ok (.invokestatic 59, 3) := by decide +kernel
theorem d_19_19_183 : decode prog_19_method_19_code 183 = .ok (.sipush 128, 3) := by decide +kernel
theorem d_19_19_186 : decode prog_19_method_19_code 186 = .ok (.if_icmp .le 9, 3) := by decide +kernel
theorem d_19_19_195 : decode prog_19_method_19_code 195 = .ok (.iinc 4 1, 3) := by decide +kernel
theorem d_19_19_198 : decode prog_19_method_19_code 198 = .ok (.goto (-49), 3) := by decide +kernel
theorem d_19_19_189 : decode prog_19_method_19_code 189 = .ok (.aload_n 0, 1) := by decide +kernel
theorem d_19_19_190 : decode prog_19_method_19_code 190 = .ok (.iconst 3, 1) := by decide +kernel
theorem d_19_19_191 : decode prog_19_method_19_code 191 = .ok (.putfield 53, 3) := by decide +kernel
theorem d_19_19_194 : decode prog_19_method_19_code 194 = .ok (.return_, 1) := by decide +kernel
theorem d_19_19_138 : decode prog_19_method_19_code 138 = .ok (.return_, 1) := by decide +kernel
theorem d_19_19_99 : decode prog_19_method_19_code 99 = .ok (.aload_n 0, 1) := by decide +kernel
theorem d_19_19_100 : decode prog_19_method_19_code 100 = .ok (.aload_n 0, 1) := by decide +kernel
theorem d_19_19_101 : decode prog_19_method_19_code 101 = .ok (.getfield 7, 3) := by decide +kernel
theorem d_19_19_104 : decode prog_19_method_19_code 104 = .ok (.iload 4, 2) := by decide +kernel
theorem d_19_19_106 : decode prog_19_method_19_code 106 = .ok (.iaload, 1) := by decide +kernel
theorem d_19_19_107 : decode prog_19_method_19_code 107 = .ok (.invokestatic 95, 3) := by decide +kernel
theorem d_19_19_110 : decode prog_19_method_19_code 110 = .ok (.iload_n 2, 1) := by decide +kernel
theorem d_19_19_111 : decode prog_19_method_19_code 111 = .ok (.if_icmp .lt 7, 3) := by decide +kernel
theorem d_19_19_118 : decode prog_19_method_19_code 118 = .ok (.aload_n 0, 1) := by decide +kernel
theorem d_19_19_119 : decode prog_19_method_19_code 119 = .ok (.getfield 53, 3) := by decide +kernel
theorem d_19_19_122 : decode prog_19_method_19_code 122 = .ok (.putfield 53, 3) := by decide +kernel
theorem d_19_19_125 : decode prog_19_method_19_code 125 = .ok (.iinc 4 1, 3) := by decide +kernel
theorem d_19_19_128 : decode prog_19_method_19_code 128 = .ok (.goto (-38), 3) := by decide +kernel
theorem d_19_19_114 : decode prog_19_method_19_code 114 = .ok (.iconst 2, 1) := by decide +kernel
theorem d_19_19_115 : decode prog_19_method_19_code 115 = .ok (.goto 7, 3) := by decide +kernel
theorem d_19_19_76 : decode prog_19_method_19_code 76 = .ok (.if_icmp .ne 7, 3) := by decide +kernel
theorem d_19_19_83 : decode prog_19_method_19_code 83 = .ok (.iconst 0, 1) := by decide +kernel
theorem d_19_19_79 : decode prog_19_method_19_code 79 = .ok (.iconst 2, 1) := by decide +kernel
theorem d_19_19_80 : decode prog_19_method_19_code 80 = .ok (.goto 4, 3) := by decide +kernel
theorem d_19_19_68 : decode prog_19_method_19_code 68 = .ok (.iconst 0, 1) := by decide +kernel
theorem d_19_19_39 : decode prog_19_method_19_code 39 = .ok (.ifCond .le 29, 3) := by decide +kernel
theorem d_19_19_42 : decode prog_19_method_19_code 42 = .ok (.aload_n 0, 1) := by decide +kernel
theorem d_19_19_43 : decode prog_19_method_19_code 43 = .ok (.getfield 7, 3) := by decide +kernel
theorem d_19_19_46 : decode prog_19_method_19_code 46 = .ok (.iconst 0, 1) := by decide +kernel
theorem d_19_19_47 : decode prog_19_method_19_code 47 = .ok (.iaload, 1) := by decide +kernel
theorem d_19_19_48 : decode prog_19_method_19_code 48 = .ok (.bipush 43, 2) := by decide +kernel
theorem d_19_19_64 : decode prog_19_method_19_code 64 = .ok (.iconst 1, 1) := by decide +kernel
theorem d_19_19_65 : decode prog_19_method_19_code 65 = .ok (.goto 4, 3) := by decide +kernel
theorem d_19_19_50 : decode prog_19_method_19_code 50 = .ok (.if_icmp .eq 14, 3) := by decide +kernel
theorem d_19_19_53 : decode prog_19_method_19_code 53 = .ok (.aload_n 0, 1) := by decide +kernel
theorem d_19_19_54 : decode prog_19_method_19_code 54 = .ok (.getfield 7, 3) := by decide +kernel
theorem d_19_19_57 : decode prog_19_method_19_code 57 = .ok (.iconst 0, 1) := by decide +kernel
theorem d_19_19_58 : decode prog_19_method_19_code 58 = .ok (.iaload, 1) := by decide +kernel
theorem d_19_19_59 : decode prog_19_method_19_code 59 = .ok (.bipush 45, 2) := by decide +kernel
theorem d_19_19_61 : decode prog_19_method_19_code 61 = .ok (.if_icmp .ne 7, 3) := by decide +kernel
theorem d_19_19_34 : decode prog_19_method_19_code 34 = .ok (.return_, 1) := by decide +kernel
theorem d_19_19_19 : decode prog_19_method_19_code 19 = .ok (.iconst 1, 1) := by decide +kernel
theorem d_19_19_20 : decode prog_19_method_19_code 20 = .ok (.goto 4, 3) := by decide +kernel
theorem d_19_19_5 : decode prog_19_method_19_code 5 = .ok (.ifCond .ne 14, 3) := by decide +kernel
theorem d_19_19_8 : decode prog_19_method_19_code 8 = .ok (.iload_n 2, 1) := by decide +kernel
theorem d_19_19_9 : decode prog_19_method_19_code 9 = .ok (.iconst 2, 1) := by decide +kernel
theorem d_19_19_10 : decode prog_19_method_19_code 10 = .ok (.if_icmp .lt 9, 3) := by decide +kernel
theorem d_19_19_13 : decode prog_19_method_19_code 13 = .ok (.iload_n 2, 1) := by decide +kernel
theorem d_19_19_14 : decode prog_19_method_19_code 14 = .ok (.bipush 36, 2) := by decide +kernel
theorem d_19_19_16 : decode prog_19_method_19_code 16 = .ok (.if_icmp .le 7, 3) := by decide +kernel
theorem d_19_19_23 : decode prog_19_method_19_code 23 = .ok (.iconst 0, 1) := by decide +kernel
def y_WR_read : MethodName := ⟨"NumberHouseModel$WholeRows", "read", "(II)V"⟩
def F_WR_read_c223 (K_F_WR_read_L90 : Int32 → Int32 → (Int32 × Int32 × Int32 × Int32 × Int32 × Int32 × Int32 × (Nat → Int32) × (Nat → Int32) × (Nat → Int32))) (K_F_WR_read_L149 : Int32 → (Nat → Int32) → (Int32 × Int32 × Int32 × Int32 × Int32 × Int32 × Int32 × (Nat → Int32) × (Nat → Int32) × (Nat → Int32))) (x2 : Int32) (x3 : Int32) (t0_0 : Int32) (t0_1 : Int32) (t0_2 : Int32) (t0_3 : Int32) (t0_4 : Int32) (t0_5 : Int32) (t0_6 : Int32) (t1_0 : (Nat → Int32)) (t2_0 : (Nat → Int32)) (t3_0 : (Nat → Int32)) (t4_0 : (Nat → Int32)) (lx33 : Int32) (lx51 : Int32) (lx66 : Int32) (lx85 : Int32) (lx86 : Int32) (lx115 : Int32) (lx116 : (Nat → Int32)) (p168 : (Int32 × Int32 × Int32 × Int32 × Int32 × Int32 × Int32 × (Nat → Int32) × (Nat → Int32))) : Int32 × Int32 × Int32 × Int32 × Int32 × Int32 × Int32 × (Nat → Int32) × (Nat → Int32) × (Nat → Int32) := ((p168.1 : Int32), (p168.2.1 : Int32), (0 : Int32), (p168.2.2.2.1 : Int32), (p168.2.2.2.2.1 : Int32), (p168.2.2.2.2.2.1 : Int32), (p168.2.2.2.2.2.2.1 : Int32), (p168.2.2.2.2.2.2.2.1 : (Nat → Int32)), (p168.2.2.2.2.2.2.2.2 : (Nat → Int32)), lx116)
def F_WR_read_c223_7 (K_F_WR_read_L90 : Int32 → Int32 → (Int32 × Int32 × Int32 × Int32 × Int32 × Int32 × Int32 × (Nat → Int32) × (Nat → Int32) × (Nat → Int32))) (K_F_WR_read_L149 : Int32 → (Nat → Int32) → (Int32 × Int32 × Int32 × Int32 × Int32 × Int32 × Int32 × (Nat → Int32) × (Nat → Int32) × (Nat → Int32))) (x2 : Int32) (x3 : Int32) (t0_0 : Int32) (t0_1 : Int32) (t0_2 : Int32) (t0_3 : Int32) (t0_4 : Int32) (t0_5 : Int32) (t0_6 : Int32) (t1_0 : (Nat → Int32)) (t2_0 : (Nat → Int32)) (t3_0 : (Nat → Int32)) (t4_0 : (Nat → Int32)) (lx33 : Int32) (lx51 : Int32) (lx66 : Int32) (lx85 : Int32) (lx86 : Int32) (lx115 : Int32) (lx116 : (Nat → Int32)) (p218 : (Int32 × Int32 × Int32 × Int32 × Int32 × Int32 × Int32 × (Nat → Int32) × (Nat → Int32))) : Int32 × Int32 × Int32 × Int32 × Int32 × Int32 × Int32 × (Nat → Int32) × (Nat → Int32) × (Nat → Int32) := ((p218.1 : Int32), (p218.2.1 : Int32), (0 : Int32), (p218.2.2.2.1 : Int32), (p218.2.2.2.2.1 : Int32), (p218.2.2.2.2.2.1 : Int32), (p218.2.2.2.2.2.2.1 : Int32), (p218.2.2.2.2.2.2.2.1 : (Nat → Int32)), (p218.2.2.2.2.2.2.2.2 : (Nat → Int32)), lx116)
def F_WR_read_L149 (K_F_WR_read_L90 : Int32 → Int32 → (Int32 × Int32 × Int32 × Int32 × Int32 × Int32 × Int32 × (Nat → Int32) × (Nat → Int32) × (Nat → Int32))) (x2 : Int32) (x3 : Int32) (t0_0 : Int32) (t0_1 : Int32) (t0_2 : Int32) (t0_3 : Int32) (t0_4 : Int32) (t0_5 : Int32) (t0_6 : Int32) (t1_0 : (Nat → Int32)) (t2_0 : (Nat → Int32)) (t3_0 : (Nat → Int32)) (t4_0 : (Nat → Int32)) (lx33 : Int32) (lx51 : Int32) (lx66 : Int32) (lx85 : Int32) (lx86 : Int32) : Nat → Int32 → (Nat → Int32) → (Int32 × Int32 × Int32 × Int32 × Int32 × Int32 × Int32 × (Nat → Int32) × (Nat → Int32) × (Nat → Int32))
  | 0, _, _ => default
  | fm + 1, lx115, lx116 => if t0_2 ≤ lx115 then (if (t1_0 (0 : Int32).toNatClampNeg : Int32) = (45 : Int32) then (F_WR_read_c223_7 K_F_WR_read_L90 (F_WR_read_L149 K_F_WR_read_L90 x2 x3 t0_0 t0_1 t0_2 t0_3 t0_4 t0_5 t0_6 t1_0 t2_0 t3_0 t4_0 lx33 lx51 lx66 lx85 lx86 fm) x2 x3 t0_0 t0_1 t0_2 t0_3 t0_4 t0_5 t0_6 t1_0 t2_0 t3_0 t4_0 lx33 lx51 lx66 lx85 lx86 lx115 lx116 ((F_WR_store x2 lx86 t0_1 t0_2 (1 : Int32) t0_4 t0_5 t0_6 t2_0 t3_0 lx116) : (Int32 × Int32 × Int32 × Int32 × Int32 × Int32 × Int32 × (Nat → Int32) × (Nat → Int32)))) else (F_WR_read_c223 K_F_WR_read_L90 (F_WR_read_L149 K_F_WR_read_L90 x2 x3 t0_0 t0_1 t0_2 t0_3 t0_4 t0_5 t0_6 t1_0 t2_0 t3_0 t4_0 lx33 lx51 lx66 lx85 lx86 fm) x2 x3 t0_0 t0_1 t0_2 t0_3 t0_4 t0_5 t0_6 t1_0 t2_0 t3_0 t4_0 lx33 lx51 lx66 lx85 lx86 lx115 lx116 ((F_WR_store x2 lx86 t0_1 t0_2 (0 : Int32) t0_4 t0_5 t0_6 t2_0 t3_0 lx116) : (Int32 × Int32 × Int32 × Int32 × Int32 × Int32 × Int32 × (Nat → Int32) × (Nat → Int32))))) else (if ((F_WR_size (264 : Int32) ((F_WR_grow (264 : Int32) x3 ((F_WR_digit (t1_0 lx115.toNatClampNeg : Int32)) : Int32) lx116) : (Nat → Int32))) : Int32) ≤ (128 : Int32) then (F_WR_read_L149 K_F_WR_read_L90 x2 x3 t0_0 t0_1 t0_2 t0_3 t0_4 t0_5 t0_6 t1_0 t2_0 t3_0 t4_0 lx33 lx51 lx66 lx85 lx86 fm (lx115 + 1 : Int32) ((F_WR_grow (264 : Int32) x3 ((F_WR_digit (t1_0 lx115.toNatClampNeg : Int32)) : Int32) lx116) : (Nat → Int32))) else (((3 : Int32), t0_1, t0_2, t0_3, t0_4, t0_5, t0_6, t2_0, t3_0, ((F_WR_grow (264 : Int32) x3 ((F_WR_digit (t1_0 lx115.toNatClampNeg : Int32)) : Int32) lx116) : (Nat → Int32)))))
def F_WR_read_L90 (x2 : Int32) (x3 : Int32) (t0_0 : Int32) (t0_1 : Int32) (t0_2 : Int32) (t0_3 : Int32) (t0_4 : Int32) (t0_5 : Int32) (t0_6 : Int32) (t1_0 : (Nat → Int32)) (t2_0 : (Nat → Int32)) (t3_0 : (Nat → Int32)) (t4_0 : (Nat → Int32)) (lx33 : Int32) (lx51 : Int32) (lx66 : Int32) : Nat → Int32 → Int32 → (Int32 × Int32 × Int32 × Int32 × Int32 × Int32 × Int32 × (Nat → Int32) × (Nat → Int32) × (Nat → Int32))
  | 0, _, _ => default
  | fm + 1, lx85, lx86 => if t0_2 ≤ lx85 then (if lx86 ≤ (0 : Int32) then (F_WR_read_L149 (F_WR_read_L90 x2 x3 t0_0 t0_1 t0_2 t0_3 t0_4 t0_5 t0_6 t1_0 t2_0 t3_0 t4_0 lx33 lx51 lx66 fm) x2 x3 t0_0 t0_1 t0_2 t0_3 t0_4 t0_5 t0_6 t1_0 t2_0 t3_0 t4_0 lx33 lx51 lx66 lx85 lx86 ((4100 - lx51.toInt).toNat + 1) lx51 ((F_WR_clear (264 : Int32) t4_0) : (Nat → Int32))) else ((lx86, t0_1, t0_2, t0_3, t0_4, t0_5, t0_6, t2_0, t3_0, t4_0))) else (if ((F_WR_digit (t1_0 lx85.toNatClampNeg : Int32)) : Int32) < x3 then (F_WR_read_L90 x2 x3 t0_0 t0_1 t0_2 t0_3 t0_4 t0_5 t0_6 t1_0 t2_0 t3_0 t4_0 lx33 lx51 lx66 fm (lx85 + 1 : Int32) lx86) else (F_WR_read_L90 x2 x3 t0_0 t0_1 t0_2 t0_3 t0_4 t0_5 t0_6 t1_0 t2_0 t3_0 t4_0 lx33 lx51 lx66 fm (lx85 + 1 : Int32) 2))
def F_WR_read_J84 (x2 : Int32) (x3 : Int32) (t0_0 : Int32) (t0_1 : Int32) (t0_2 : Int32) (t0_3 : Int32) (t0_4 : Int32) (t0_5 : Int32) (t0_6 : Int32) (t1_0 : (Nat → Int32)) (t2_0 : (Nat → Int32)) (t3_0 : (Nat → Int32)) (t4_0 : (Nat → Int32)) (lx33 : Int32) (lx51 : Int32) (lx66 : Int32) : Int32 × Int32 × Int32 × Int32 × Int32 × Int32 × Int32 × (Nat → Int32) × (Nat → Int32) × (Nat → Int32) := F_WR_read_L90 x2 x3 t0_0 t0_1 t0_2 t0_3 t0_4 t0_5 t0_6 t1_0 t2_0 t3_0 t4_0 lx33 lx51 lx66 ((4100 - lx51.toInt).toNat + 1) lx51 lx66
def F_WR_read_J69 (x2 : Int32) (x3 : Int32) (t0_0 : Int32) (t0_1 : Int32) (t0_2 : Int32) (t0_3 : Int32) (t0_4 : Int32) (t0_5 : Int32) (t0_6 : Int32) (t1_0 : (Nat → Int32)) (t2_0 : (Nat → Int32)) (t3_0 : (Nat → Int32)) (t4_0 : (Nat → Int32)) (lx33 : Int32) (lx51 : Int32) : Int32 × Int32 × Int32 × Int32 × Int32 × Int32 × Int32 × (Nat → Int32) × (Nat → Int32) × (Nat → Int32) := if lx51 = t0_2 then (F_WR_read_J84 x2 x3 t0_0 t0_1 t0_2 t0_3 t0_4 t0_5 t0_6 t1_0 t2_0 t3_0 t4_0 lx33 lx51 2) else (F_WR_read_J84 x2 x3 t0_0 t0_1 t0_2 t0_3 t0_4 t0_5 t0_6 t1_0 t2_0 t3_0 t4_0 lx33 lx51 0)
def F_WR_read_J68 (x2 : Int32) (x3 : Int32) (t0_0 : Int32) (t0_1 : Int32) (t0_2 : Int32) (t0_3 : Int32) (t0_4 : Int32) (t0_5 : Int32) (t0_6 : Int32) (t1_0 : (Nat → Int32)) (t2_0 : (Nat → Int32)) (t3_0 : (Nat → Int32)) (t4_0 : (Nat → Int32)) (lx33 : Int32) : Int32 × Int32 × Int32 × Int32 × Int32 × Int32 × Int32 × (Nat → Int32) × (Nat → Int32) × (Nat → Int32) := F_WR_read_J69 x2 x3 t0_0 t0_1 t0_2 t0_3 t0_4 t0_5 t0_6 t1_0 t2_0 t3_0 t4_0 lx33 0
def F_WR_read_J64 (x2 : Int32) (x3 : Int32) (t0_0 : Int32) (t0_1 : Int32) (t0_2 : Int32) (t0_3 : Int32) (t0_4 : Int32) (t0_5 : Int32) (t0_6 : Int32) (t1_0 : (Nat → Int32)) (t2_0 : (Nat → Int32)) (t3_0 : (Nat → Int32)) (t4_0 : (Nat → Int32)) (lx33 : Int32) : Int32 × Int32 × Int32 × Int32 × Int32 × Int32 × Int32 × (Nat → Int32) × (Nat → Int32) × (Nat → Int32) := F_WR_read_J69 x2 x3 t0_0 t0_1 t0_2 t0_3 t0_4 t0_5 t0_6 t1_0 t2_0 t3_0 t4_0 lx33 1
def F_WR_read_J24 (x2 : Int32) (x3 : Int32) (t0_0 : Int32) (t0_1 : Int32) (t0_2 : Int32) (t0_3 : Int32) (t0_4 : Int32) (t0_5 : Int32) (t0_6 : Int32) (t1_0 : (Nat → Int32)) (t2_0 : (Nat → Int32)) (t3_0 : (Nat → Int32)) (t4_0 : (Nat → Int32)) (lx33 : Int32) : Int32 × Int32 × Int32 × Int32 × Int32 × Int32 × Int32 × (Nat → Int32) × (Nat → Int32) × (Nat → Int32) := if lx33 ≤ (0 : Int32) then (if t0_2 ≤ (0 : Int32) then (F_WR_read_J68 x2 x3 t0_0 t0_1 t0_2 t0_3 t0_4 t0_5 t0_6 t1_0 t2_0 t3_0 t4_0 lx33) else (if (t1_0 (0 : Int32).toNatClampNeg : Int32) = (43 : Int32) then (F_WR_read_J64 x2 x3 t0_0 t0_1 t0_2 t0_3 t0_4 t0_5 t0_6 t1_0 t2_0 t3_0 t4_0 lx33) else (if (t1_0 (0 : Int32).toNatClampNeg : Int32) = (45 : Int32) then (F_WR_read_J64 x2 x3 t0_0 t0_1 t0_2 t0_3 t0_4 t0_5 t0_6 t1_0 t2_0 t3_0 t4_0 lx33) else (F_WR_read_J68 x2 x3 t0_0 t0_1 t0_2 t0_3 t0_4 t0_5 t0_6 t1_0 t2_0 t3_0 t4_0 lx33)))) else ((lx33, t0_1, t0_2, t0_3, t0_4, t0_5, t0_6, t2_0, t3_0, t4_0))
def F_WR_read_J19 (x2 : Int32) (x3 : Int32) (t0_0 : Int32) (t0_1 : Int32) (t0_2 : Int32) (t0_3 : Int32) (t0_4 : Int32) (t0_5 : Int32) (t0_6 : Int32) (t1_0 : (Nat → Int32)) (t2_0 : (Nat → Int32)) (t3_0 : (Nat → Int32)) (t4_0 : (Nat → Int32)) : Int32 × Int32 × Int32 × Int32 × Int32 × Int32 × Int32 × (Nat → Int32) × (Nat → Int32) × (Nat → Int32) := F_WR_read_J24 x2 x3 t0_0 t0_1 t0_2 t0_3 t0_4 t0_5 t0_6 t1_0 t2_0 t3_0 t4_0 1
def F_WR_read (x2 : Int32) (x3 : Int32) (t0_0 : Int32) (t0_1 : Int32) (t0_2 : Int32) (t0_3 : Int32) (t0_4 : Int32) (t0_5 : Int32) (t0_6 : Int32) (t1_0 : (Nat → Int32)) (t2_0 : (Nat → Int32)) (t3_0 : (Nat → Int32)) (t4_0 : (Nat → Int32)) : Int32 × Int32 × Int32 × Int32 × Int32 × Int32 × Int32 × (Nat → Int32) × (Nat → Int32) × (Nat → Int32) := if ((F_WR_no x2) : Int32) = (0 : Int32) then (if x3 < (2 : Int32) then (F_WR_read_J19 x2 x3 t0_0 t0_1 t0_2 t0_3 t0_4 t0_5 t0_6 t1_0 t2_0 t3_0 t4_0) else (if x3 ≤ (36 : Int32) then (F_WR_read_J24 x2 x3 t0_0 t0_1 t0_2 t0_3 t0_4 t0_5 t0_6 t1_0 t2_0 t3_0 t4_0 0) else (F_WR_read_J19 x2 x3 t0_0 t0_1 t0_2 t0_3 t0_4 t0_5 t0_6 t1_0 t2_0 t3_0 t4_0))) else (F_WR_read_J19 x2 x3 t0_0 t0_1 t0_2 t0_3 t0_4 t0_5 t0_6 t1_0 t2_0 t3_0 t4_0)
def S_WR_read_c223 (K_S_WR_read_L90 : Int32 → Int32 → Prop) (K_S_WR_read_L149 : Int32 → (Nat → Int32) → Prop) (x2 : Int32) (x3 : Int32) (t0_0 : Int32) (t0_1 : Int32) (t0_2 : Int32) (t0_3 : Int32) (t0_4 : Int32) (t0_5 : Int32) (t0_6 : Int32) (t1_0 : (Nat → Int32)) (t2_0 : (Nat → Int32)) (t3_0 : (Nat → Int32)) (t4_0 : (Nat → Int32)) (lx33 : Int32) (lx51 : Int32) (lx66 : Int32) (lx85 : Int32) (lx86 : Int32) (lx115 : Int32) (lx116 : (Nat → Int32)) (p168 : (Int32 × Int32 × Int32 × Int32 × Int32 × Int32 × Int32 × (Nat → Int32) × (Nat → Int32))) : Prop := True
def S_WR_read_c223_7 (K_S_WR_read_L90 : Int32 → Int32 → Prop) (K_S_WR_read_L149 : Int32 → (Nat → Int32) → Prop) (x2 : Int32) (x3 : Int32) (t0_0 : Int32) (t0_1 : Int32) (t0_2 : Int32) (t0_3 : Int32) (t0_4 : Int32) (t0_5 : Int32) (t0_6 : Int32) (t1_0 : (Nat → Int32)) (t2_0 : (Nat → Int32)) (t3_0 : (Nat → Int32)) (t4_0 : (Nat → Int32)) (lx33 : Int32) (lx51 : Int32) (lx66 : Int32) (lx85 : Int32) (lx86 : Int32) (lx115 : Int32) (lx116 : (Nat → Int32)) (p218 : (Int32 × Int32 × Int32 × Int32 × Int32 × Int32 × Int32 × (Nat → Int32) × (Nat → Int32))) : Prop := True
def S_WR_read_L149 (K_S_WR_read_L90 : Int32 → Int32 → Prop) (x2 : Int32) (x3 : Int32) (t0_0 : Int32) (t0_1 : Int32) (t0_2 : Int32) (t0_3 : Int32) (t0_4 : Int32) (t0_5 : Int32) (t0_6 : Int32) (t1_0 : (Nat → Int32)) (t2_0 : (Nat → Int32)) (t3_0 : (Nat → Int32)) (t4_0 : (Nat → Int32)) (lx33 : Int32) (lx51 : Int32) (lx66 : Int32) (lx85 : Int32) (lx86 : Int32) : Nat → Int32 → (Nat → Int32) → Prop
  | 0, _, _ => False
  | fm + 1, lx115, lx116 => if t0_2 ≤ lx115 then (if (t1_0 (0 : Int32).toNatClampNeg : Int32) = (45 : Int32) then ((True ∧ S_WR_store x2 lx86 t0_1 t0_2 (1 : Int32) t0_4 t0_5 t0_6 t2_0 t3_0 lx116) ∧ (S_WR_read_c223_7 K_S_WR_read_L90 (S_WR_read_L149 K_S_WR_read_L90 x2 x3 t0_0 t0_1 t0_2 t0_3 t0_4 t0_5 t0_6 t1_0 t2_0 t3_0 t4_0 lx33 lx51 lx66 lx85 lx86 fm) x2 x3 t0_0 t0_1 t0_2 t0_3 t0_4 t0_5 t0_6 t1_0 t2_0 t3_0 t4_0 lx33 lx51 lx66 lx85 lx86 lx115 lx116 ((F_WR_store x2 lx86 t0_1 t0_2 (1 : Int32) t0_4 t0_5 t0_6 t2_0 t3_0 lx116) : (Int32 × Int32 × Int32 × Int32 × Int32 × Int32 × Int32 × (Nat → Int32) × (Nat → Int32))))) else ((True ∧ S_WR_store x2 lx86 t0_1 t0_2 (0 : Int32) t0_4 t0_5 t0_6 t2_0 t3_0 lx116) ∧ (S_WR_read_c223 K_S_WR_read_L90 (S_WR_read_L149 K_S_WR_read_L90 x2 x3 t0_0 t0_1 t0_2 t0_3 t0_4 t0_5 t0_6 t1_0 t2_0 t3_0 t4_0 lx33 lx51 lx66 lx85 lx86 fm) x2 x3 t0_0 t0_1 t0_2 t0_3 t0_4 t0_5 t0_6 t1_0 t2_0 t3_0 t4_0 lx33 lx51 lx66 lx85 lx86 lx115 lx116 ((F_WR_store x2 lx86 t0_1 t0_2 (0 : Int32) t0_4 t0_5 t0_6 t2_0 t3_0 lx116) : (Int32 × Int32 × Int32 × Int32 × Int32 × Int32 × Int32 × (Nat → Int32) × (Nat → Int32)))))) else (if ((F_WR_size (264 : Int32) ((F_WR_grow (264 : Int32) x3 ((F_WR_digit (t1_0 lx115.toNatClampNeg : Int32)) : Int32) lx116) : (Nat → Int32))) : Int32) ≤ (128 : Int32) then (S_WR_read_L149 K_S_WR_read_L90 x2 x3 t0_0 t0_1 t0_2 t0_3 t0_4 t0_5 t0_6 t1_0 t2_0 t3_0 t4_0 lx33 lx51 lx66 lx85 lx86 fm (lx115 + 1 : Int32) ((F_WR_grow (264 : Int32) x3 ((F_WR_digit (t1_0 lx115.toNatClampNeg : Int32)) : Int32) lx116) : (Nat → Int32))) else (True))
def S_WR_read_L90 (x2 : Int32) (x3 : Int32) (t0_0 : Int32) (t0_1 : Int32) (t0_2 : Int32) (t0_3 : Int32) (t0_4 : Int32) (t0_5 : Int32) (t0_6 : Int32) (t1_0 : (Nat → Int32)) (t2_0 : (Nat → Int32)) (t3_0 : (Nat → Int32)) (t4_0 : (Nat → Int32)) (lx33 : Int32) (lx51 : Int32) (lx66 : Int32) : Nat → Int32 → Int32 → Prop
  | 0, _, _ => False
  | fm + 1, lx85, lx86 => if t0_2 ≤ lx85 then (if lx86 ≤ (0 : Int32) then (S_WR_read_L149 (S_WR_read_L90 x2 x3 t0_0 t0_1 t0_2 t0_3 t0_4 t0_5 t0_6 t1_0 t2_0 t3_0 t4_0 lx33 lx51 lx66 fm) x2 x3 t0_0 t0_1 t0_2 t0_3 t0_4 t0_5 t0_6 t1_0 t2_0 t3_0 t4_0 lx33 lx51 lx66 lx85 lx86 ((4100 - lx51.toInt).toNat + 1) lx51 ((F_WR_clear (264 : Int32) t4_0) : (Nat → Int32))) else (True)) else (if ((F_WR_digit (t1_0 lx85.toNatClampNeg : Int32)) : Int32) < x3 then (S_WR_read_L90 x2 x3 t0_0 t0_1 t0_2 t0_3 t0_4 t0_5 t0_6 t1_0 t2_0 t3_0 t4_0 lx33 lx51 lx66 fm (lx85 + 1 : Int32) lx86) else (S_WR_read_L90 x2 x3 t0_0 t0_1 t0_2 t0_3 t0_4 t0_5 t0_6 t1_0 t2_0 t3_0 t4_0 lx33 lx51 lx66 fm (lx85 + 1 : Int32) 2))
def S_WR_read_J84 (x2 : Int32) (x3 : Int32) (t0_0 : Int32) (t0_1 : Int32) (t0_2 : Int32) (t0_3 : Int32) (t0_4 : Int32) (t0_5 : Int32) (t0_6 : Int32) (t1_0 : (Nat → Int32)) (t2_0 : (Nat → Int32)) (t3_0 : (Nat → Int32)) (t4_0 : (Nat → Int32)) (lx33 : Int32) (lx51 : Int32) (lx66 : Int32) : Prop := S_WR_read_L90 x2 x3 t0_0 t0_1 t0_2 t0_3 t0_4 t0_5 t0_6 t1_0 t2_0 t3_0 t4_0 lx33 lx51 lx66 ((4100 - lx51.toInt).toNat + 1) lx51 lx66
def S_WR_read_J69 (x2 : Int32) (x3 : Int32) (t0_0 : Int32) (t0_1 : Int32) (t0_2 : Int32) (t0_3 : Int32) (t0_4 : Int32) (t0_5 : Int32) (t0_6 : Int32) (t1_0 : (Nat → Int32)) (t2_0 : (Nat → Int32)) (t3_0 : (Nat → Int32)) (t4_0 : (Nat → Int32)) (lx33 : Int32) (lx51 : Int32) : Prop := if lx51 = t0_2 then (S_WR_read_J84 x2 x3 t0_0 t0_1 t0_2 t0_3 t0_4 t0_5 t0_6 t1_0 t2_0 t3_0 t4_0 lx33 lx51 2) else (S_WR_read_J84 x2 x3 t0_0 t0_1 t0_2 t0_3 t0_4 t0_5 t0_6 t1_0 t2_0 t3_0 t4_0 lx33 lx51 0)
def S_WR_read_J68 (x2 : Int32) (x3 : Int32) (t0_0 : Int32) (t0_1 : Int32) (t0_2 : Int32) (t0_3 : Int32) (t0_4 : Int32) (t0_5 : Int32) (t0_6 : Int32) (t1_0 : (Nat → Int32)) (t2_0 : (Nat → Int32)) (t3_0 : (Nat → Int32)) (t4_0 : (Nat → Int32)) (lx33 : Int32) : Prop := S_WR_read_J69 x2 x3 t0_0 t0_1 t0_2 t0_3 t0_4 t0_5 t0_6 t1_0 t2_0 t3_0 t4_0 lx33 0
def S_WR_read_J64 (x2 : Int32) (x3 : Int32) (t0_0 : Int32) (t0_1 : Int32) (t0_2 : Int32) (t0_3 : Int32) (t0_4 : Int32) (t0_5 : Int32) (t0_6 : Int32) (t1_0 : (Nat → Int32)) (t2_0 : (Nat → Int32)) (t3_0 : (Nat → Int32)) (t4_0 : (Nat → Int32)) (lx33 : Int32) : Prop := S_WR_read_J69 x2 x3 t0_0 t0_1 t0_2 t0_3 t0_4 t0_5 t0_6 t1_0 t2_0 t3_0 t4_0 lx33 1
def S_WR_read_J24 (x2 : Int32) (x3 : Int32) (t0_0 : Int32) (t0_1 : Int32) (t0_2 : Int32) (t0_3 : Int32) (t0_4 : Int32) (t0_5 : Int32) (t0_6 : Int32) (t1_0 : (Nat → Int32)) (t2_0 : (Nat → Int32)) (t3_0 : (Nat → Int32)) (t4_0 : (Nat → Int32)) (lx33 : Int32) : Prop := if lx33 ≤ (0 : Int32) then (if t0_2 ≤ (0 : Int32) then (S_WR_read_J68 x2 x3 t0_0 t0_1 t0_2 t0_3 t0_4 t0_5 t0_6 t1_0 t2_0 t3_0 t4_0 lx33) else (if (t1_0 (0 : Int32).toNatClampNeg : Int32) = (43 : Int32) then (S_WR_read_J64 x2 x3 t0_0 t0_1 t0_2 t0_3 t0_4 t0_5 t0_6 t1_0 t2_0 t3_0 t4_0 lx33) else (if (t1_0 (0 : Int32).toNatClampNeg : Int32) = (45 : Int32) then (S_WR_read_J64 x2 x3 t0_0 t0_1 t0_2 t0_3 t0_4 t0_5 t0_6 t1_0 t2_0 t3_0 t4_0 lx33) else (S_WR_read_J68 x2 x3 t0_0 t0_1 t0_2 t0_3 t0_4 t0_5 t0_6 t1_0 t2_0 t3_0 t4_0 lx33)))) else (True)
def S_WR_read_J19 (x2 : Int32) (x3 : Int32) (t0_0 : Int32) (t0_1 : Int32) (t0_2 : Int32) (t0_3 : Int32) (t0_4 : Int32) (t0_5 : Int32) (t0_6 : Int32) (t1_0 : (Nat → Int32)) (t2_0 : (Nat → Int32)) (t3_0 : (Nat → Int32)) (t4_0 : (Nat → Int32)) : Prop := S_WR_read_J24 x2 x3 t0_0 t0_1 t0_2 t0_3 t0_4 t0_5 t0_6 t1_0 t2_0 t3_0 t4_0 1
def S_WR_read (x2 : Int32) (x3 : Int32) (t0_0 : Int32) (t0_1 : Int32) (t0_2 : Int32) (t0_3 : Int32) (t0_4 : Int32) (t0_5 : Int32) (t0_6 : Int32) (t1_0 : (Nat → Int32)) (t2_0 : (Nat → Int32)) (t3_0 : (Nat → Int32)) (t4_0 : (Nat → Int32)) : Prop := if ((F_WR_no x2) : Int32) = (0 : Int32) then (if x3 < (2 : Int32) then (S_WR_read_J19 x2 x3 t0_0 t0_1 t0_2 t0_3 t0_4 t0_5 t0_6 t1_0 t2_0 t3_0 t4_0) else (if x3 ≤ (36 : Int32) then (S_WR_read_J24 x2 x3 t0_0 t0_1 t0_2 t0_3 t0_4 t0_5 t0_6 t1_0 t2_0 t3_0 t4_0 0) else (S_WR_read_J19 x2 x3 t0_0 t0_1 t0_2 t0_3 t0_4 t0_5 t0_6 t1_0 t2_0 t3_0 t4_0))) else (S_WR_read_J19 x2 x3 t0_0 t0_1 t0_2 t0_3 t0_4 t0_5 t0_6 t1_0 t2_0 t3_0 t4_0)
set_option maxRecDepth 100000 in
set_option maxHeartbeats 4000000 in
theorem X_WR_read (l : Launch) (D : va_G) (g : Nat → ClassId) (q : Nat → Nat) (ws : va_W) (x2 : Int32) (x3 : Int32) (hI : q_I (msh g q) q ws) (t0_0 : Int32) (t0_1 : Int32) (t0_2 : Int32) (t0_3 : Int32) (t0_4 : Int32) (t0_5 : Int32) (t0_6 : Int32) (hT0 : ws[119]? = (some (q 119, .inr (13, [.int t0_0, .int t0_1, .ref (q 120), .int t0_2, .ref (q 121), .ref (q 122), .ref (q 123), .int t0_3, .ref (q 124), .ref (q 125), .ref (q 126), .ref (q 127), .ref (q 128), .ref (q 129), .ref (q 130), .ref (q 131), .int t0_4, .int t0_5, .ref (q 132), .ref (q 133), .int t0_6])) : Option (Nat × va_E))) (t1_0 : (Nat → Int32)) (hT1 : ws[120]? = (some (q 120, .inl (g 0, (4100 : Int32).toNatClampNeg, .inl t1_0)) : Option (Nat × va_E))) (t2_0 : (Nat → Int32)) (hT2 : ws[121]? = (some (q 121, .inl (g 0, (1408 : Int32).toNatClampNeg, .inl t2_0)) : Option (Nat × va_E))) (t3_0 : (Nat → Int32)) (hT3 : ws[122]? = (some (q 122, .inl (g 3, 11, .inl t3_0)) : Option (Nat × va_E))) (t4_0 : (Nat → Int32)) (hT4 : ws[123]? = (some (q 123, .inl (g 0, (264 : Int32).toNatClampNeg, .inl t4_0)) : Option (Nat × va_E))) (hS : True ∧ S_WR_read x2 x3 t0_0 t0_1 t0_2 t0_3 t0_4 t0_5 t0_6 t1_0 t2_0 t3_0 t4_0) : q_mV l y_WR_read prog_19_method_19_code 5 3 0 0 D g [.ref (q 119), .int x2, .int x3] ws (fun u => q_I (msh g q) q u ∧ q_un ws u [119, 121, 122, 123] ∧ ∃ (u0_0 : Int32) (u0_1 : Int32) (u0_2 : Int32) (u0_3 : Int32) (u0_4 : Int32) (u0_5 : Int32) (u0_6 : Int32) (u2_0 : (Nat → Int32)) (u3_0 : (Nat → Int32)) (u4_0 : (Nat → Int32)), u[119]? = (some (q 119, .inr (13, [.int u0_0, .int u0_1, .ref (q 120), .int u0_2, .ref (q 121), .ref (q 122), .ref (q 123), .int u0_3, .ref (q 124), .ref (q 125), .ref (q 126), .ref (q 127), .ref (q 128), .ref (q 129), .ref (q 130), .ref (q 131), .int u0_4, .int u0_5, .ref (q 132), .ref (q 133), .int u0_6])) : Option (Nat × va_E)) ∧ u[121]? = (some (q 121, .inl (g 0, (1408 : Int32).toNatClampNeg, .inl u2_0)) : Option (Nat × va_E)) ∧ u[122]? = (some (q 122, .inl (g 3, 11, .inl u3_0)) : Option (Nat × va_E)) ∧ u[123]? = (some (q 123, .inl (g 0, (264 : Int32).toNatClampNeg, .inl u4_0)) : Option (Nat × va_E)) ∧ (0 ≤ u0_2.toInt) ∧ (0 ≤ u0_3.toInt) ∧ (u0_3.toInt ≤ 1) ∧ (t0_1.toInt ≤ u0_1.toInt) ∧ (u0_1.toInt ≤ t0_1.toInt) ∧ (u0_2.toInt ≤ t0_2.toInt) ∧ (t0_4.toInt ≤ u0_4.toInt) ∧ (u0_4.toInt ≤ t0_4.toInt) ∧ (t0_5.toInt ≤ u0_5.toInt) ∧ (u0_5.toInt ≤ t0_5.toInt) ∧ (t0_6.toInt ≤ u0_6.toInt) ∧ (u0_6.toInt ≤ t0_6.toInt) ∧ (u0_0, u0_1, u0_2, u0_3, u0_4, u0_5, u0_6, u2_0, u3_0, u4_0) = (F_WR_read x2 x3 t0_0 t0_1 t0_2 t0_3 t0_4 t0_5 t0_6 t1_0 t2_0 t3_0 t4_0)) := by
  intro sz
  refine q_into (by decide) (Nat.le_of_ble_eq_true rfl) ?_
  intro p e s m below meth c ls hsz C0 V hl
  have hx := C0.1
  have hb := C0.2.1
  obtain ⟨btt0_2, hZ9⟩ := n_w119 hI hT0
  obtain ⟨btt0_3, hZ9⟩ := hZ9
  obtain ⟨btt0_4, hZ9⟩ := hZ9
  obtain ⟨btt0_5, btt0_6⟩ := hZ9
  replace btt0_2 : q_F (0 ≤ t0_2.toInt ∧ t0_2.toInt ≤ 4100) := btt0_2
  replace btt0_3 : q_F (0 ≤ t0_3.toInt ∧ t0_3.toInt ≤ 1) := btt0_3
  replace btt0_4 : q_F (0 ≤ t0_4.toInt ∧ t0_4.toInt ≤ 1) := btt0_4
  replace btt0_5 : q_F (0 ≤ t0_5.toInt ∧ t0_5.toInt ≤ 1) := btt0_5
  replace btt0_6 : q_F (0 ≤ t0_6.toInt ∧ t0_6.toInt ≤ 2100) := btt0_6
  have hF : q_un ws ws [119, 121, 122, 123] := q_u0
  have hl : lv_has ls 5 [(0, .ref (q 119)), (1, .int x2), (2, .int x3)] := hl
  refine lv_aload_n hx hb d_19_19_0 rfl (lv_at hl 0 rfl) ?_
  refine lv_iload_n hx hb d_19_19_1 rfl (lv_at hl 1 rfl) ?_
  refine q_goi V (q_runS (As := [.int x2]) (rest := [.ref (q 119)]) (d := 1) (mc := 0) (ms := 0) C0 V rfl LS_WR_91 (X_WR_no l D g q ws  x2 hI   _) rfl hl.1 rfl (Nat.le_of_ble_eq_true rfl) ⟨by decide, by decide⟩ ⟨Nat.le_of_ble_eq_true rfl, Nat.le_of_ble_eq_true rfl⟩ d_19_19_2) (fun a28 u26 H locs hp27 V => ?_)
  obtain ⟨rfl, b29, b30, hE31⟩ := hp27
  have e32 : a28 = (F_WR_no x2) := hE31
  clear b29
  clear b30
  refine q_join (X := Int32) (fun z H locs ls _ => q_F (0 ≤ z.toInt) ∧ q_F (z.toInt ≤ 1) ∧ q_Wd D g (va_A ws sz) s ws H locs ∧ lv_has ls 5 [(0, .ref (q 119)), (1, .int x2), (2, .int x3)] ∧ F_WR_read_J24 x2 x3 t0_0 t0_1 t0_2 t0_3 t0_4 t0_5 t0_6 t1_0 t2_0 t3_0 t4_0 z = (F_WR_read x2 x3 t0_0 t0_1 t0_2 t0_3 t0_4 t0_5 t0_6 t1_0 t2_0 t3_0 t4_0) ∧ True ∧ S_WR_read_J24 x2 x3 t0_0 t0_1 t0_2 t0_3 t0_4 t0_5 t0_6 t1_0 t2_0 t3_0 t4_0 z) (fun z => [.int z, .ref (q 119)]) 24 0 0 ?_ ?_
  ·
    rintro lx33 H locs ls _ hZ9
    obtain ⟨i40, hZ9⟩ := hZ9
    obtain ⟨i41, hZ9⟩ := hZ9
    obtain ⟨V, hZ9⟩ := hZ9
    obtain ⟨hl, hZ9⟩ := hZ9
    obtain ⟨hR42, hS43⟩ := hZ9
    replace i40 : q_F (0 ≤ lx33.toInt) := i40
    replace i41 : q_F (lx33.toInt ≤ 1) := i41
    replace hl : lv_has ls 5 [(0, .ref (q 119)), (1, .int x2), (2, .int x3)] := hl
    refine q_put (ci := 13) (j := 0) (v := .int lx33) (ty := .int) C0 V i_WR o_WR n_WR rfl rfl hT0 (by decide) w_1921 rfl rfl rfl rfl (Nat.le_of_ble_eq_true rfl) d_19_19_24 (fun H locs w47 hu48 hT0 V => ?_)
    replace hT0 : w47[119]? = (some (q 119, .inr (13, [.int lx33, .int t0_1, .ref (q 120), .int t0_2, .ref (q 121), .ref (q 122), .ref (q 123), .int t0_3, .ref (q 124), .ref (q 125), .ref (q 126), .ref (q 127), .ref (q 128), .ref (q 129), .ref (q 130), .ref (q 131), .int t0_4, .int t0_5, .ref (q 132), .ref (q 133), .int t0_6])) : Option (Nat × va_E)) := hT0
    replace hI := n_p119 hI hu48 hT0 (by first | with_reducible exact q_fe btt0_2 | exact ⟨(by have t1 : 0 ≤ t0_2.toInt ∧ t0_2.toInt ≤ 4100 := btt0_2; omega), (by have t1 : 0 ≤ t0_2.toInt ∧ t0_2.toInt ≤ 4100 := btt0_2; omega)⟩) (by first | with_reducible exact q_fe btt0_3 | exact ⟨(by have t1 : 0 ≤ t0_3.toInt ∧ t0_3.toInt ≤ 1 := btt0_3; omega), (by have t1 : 0 ≤ t0_3.toInt ∧ t0_3.toInt ≤ 1 := btt0_3; omega)⟩) (by first | with_reducible exact q_fe btt0_4 | exact ⟨(by have t1 : 0 ≤ t0_4.toInt ∧ t0_4.toInt ≤ 1 := btt0_4; omega), (by have t1 : 0 ≤ t0_4.toInt ∧ t0_4.toInt ≤ 1 := btt0_4; omega)⟩) (by first | with_reducible exact q_fe btt0_5 | exact ⟨(by have t1 : 0 ≤ t0_5.toInt ∧ t0_5.toInt ≤ 1 := btt0_5; omega), (by have t1 : 0 ≤ t0_5.toInt ∧ t0_5.toInt ≤ 1 := btt0_5; omega)⟩) (by first | with_reducible exact q_fe btt0_6 | exact ⟨(by have t1 : 0 ≤ t0_6.toInt ∧ t0_6.toInt ≤ 2100 := btt0_6; omega), (by have t1 : 0 ≤ t0_6.toInt ∧ t0_6.toInt ≤ 2100 := btt0_6; omega)⟩)
    replace hT1 := (hu48 _ (by decide)).trans hT1
    replace hT2 := (hu48 _ (by decide)).trans hT2
    replace hT3 := (hu48 _ (by decide)).trans hT3
    replace hT4 := (hu48 _ (by decide)).trans hT4
    replace hF := q_us hF hu48 (by simp)
    refine lv_aload_n hx hb d_19_19_27 rfl (lv_at hl 0 rfl) ?_
    refine q_get (ci := 13) (j := 0) (v := .int lx33) C0 V i_WR rfl rfl hT0 (by decide) w_1921 rfl d_19_19_28 ?_
    refine lv_if_le (tgt := 35) hx hb d_19_19_31 (by decide) (fun c49 => ?_) (fun c49 => ?_)
    ·
      have b50 : q_F (lx33.toInt ≤ 0) := (q_leI c49)
      refine lv_aload_n hx hb d_19_19_35 rfl (lv_at hl 0 rfl) ?_
      refine q_get (ci := 13) (j := 3) (v := .int t0_2) C0 V i_WR rfl rfl hT0 (by decide) w_1927 rfl d_19_19_36 ?_
      refine q_join (X := Int32) (fun z H locs ls _ => q_F (lx33.toInt ≤ z.toInt) ∧ q_F (z.toInt ≤ lx33.toInt + 1) ∧ q_F (z.toInt ≤ t0_2.toInt) ∧ q_Wd D g (va_A ws sz) s w47 H locs ∧ lv_has ls 5 [(0, .ref (q 119)), (1, .int x2), (2, .int x3)] ∧ F_WR_read_J69 x2 x3 t0_0 t0_1 t0_2 t0_3 t0_4 t0_5 t0_6 t1_0 t2_0 t3_0 t4_0 lx33 z = (F_WR_read x2 x3 t0_0 t0_1 t0_2 t0_3 t0_4 t0_5 t0_6 t1_0 t2_0 t3_0 t4_0) ∧ True ∧ S_WR_read_J69 x2 x3 t0_0 t0_1 t0_2 t0_3 t0_4 t0_5 t0_6 t1_0 t2_0 t3_0 t4_0 lx33 z) (fun z => [.int z]) 69 0 0 ?_ ?_
      ·
        rintro lx51 H locs ls _ hZ9
        obtain ⟨i58, hZ9⟩ := hZ9
        replace hZ9 := hZ9.2
        obtain ⟨i60, hZ9⟩ := hZ9
        obtain ⟨V, hZ9⟩ := hZ9
        obtain ⟨hl, hZ9⟩ := hZ9
        obtain ⟨hR61, hS62⟩ := hZ9
        replace i58 : q_F (lx33.toInt ≤ lx51.toInt) := i58
        replace i60 : q_F (lx51.toInt ≤ t0_2.toInt) := i60
        replace hl : lv_has ls 5 [(0, .ref (q 119)), (1, .int x2), (2, .int x3)] := hl
        refine lv_istore_n (lv' := [(3, .int lx51), (0, .ref (q 119)), (1, .int x2), (2, .int x3)]) hx hb d_19_19_69 rfl hl (by decide) rfl (fun ls hl => ?_)
        refine lv_aload_n hx hb d_19_19_70 rfl (lv_at hl 1 rfl) ?_
        refine lv_iload_n hx hb d_19_19_71 rfl (lv_at hl 0 rfl) ?_
        refine lv_aload_n hx hb d_19_19_72 rfl (lv_at hl 1 rfl) ?_
        refine q_get (ci := 13) (j := 3) (v := .int t0_2) C0 V i_WR rfl rfl hT0 (by decide) w_1927 rfl d_19_19_73 ?_
        refine q_join (X := Int32) (fun z H locs ls _ => q_F (lx33.toInt ≤ z.toInt) ∧ q_F (z.toInt ≤ lx33.toInt + 2) ∧ q_Wd D g (va_A ws sz) s w47 H locs ∧ lv_has ls 5 [(3, .int lx51), (0, .ref (q 119)), (1, .int x2), (2, .int x3)] ∧ F_WR_read_J84 x2 x3 t0_0 t0_1 t0_2 t0_3 t0_4 t0_5 t0_6 t1_0 t2_0 t3_0 t4_0 lx33 lx51 z = (F_WR_read x2 x3 t0_0 t0_1 t0_2 t0_3 t0_4 t0_5 t0_6 t1_0 t2_0 t3_0 t4_0) ∧ True ∧ S_WR_read_J84 x2 x3 t0_0 t0_1 t0_2 t0_3 t0_4 t0_5 t0_6 t1_0 t2_0 t3_0 t4_0 lx33 lx51 z) (fun z => [.int z, .ref (q 119)]) 84 0 0 ?_ ?_
        ·
          rintro lx66 H locs ls _ hZ9
          obtain ⟨i73, hZ9⟩ := hZ9
          obtain ⟨i74, hZ9⟩ := hZ9
          obtain ⟨V, hZ9⟩ := hZ9
          obtain ⟨hl, hZ9⟩ := hZ9
          obtain ⟨hR75, hS76⟩ := hZ9
          replace i73 : q_F (lx33.toInt ≤ lx66.toInt) := i73
          replace i74 : q_F (lx66.toInt ≤ lx33.toInt + 2) := i74
          replace hl : lv_has ls 5 [(3, .int lx51), (0, .ref (q 119)), (1, .int x2), (2, .int x3)] := hl
          refine q_put (ci := 13) (j := 0) (v := .int lx66) (ty := .int) C0 V i_WR o_WR n_WR rfl rfl hT0 (by decide) w_1921 rfl rfl rfl rfl (Nat.le_of_ble_eq_true rfl) d_19_19_84 (fun H locs w80 hu81 hT0 V => ?_)
          replace hT0 : w80[119]? = (some (q 119, .inr (13, [.int lx66, .int t0_1, .ref (q 120), .int t0_2, .ref (q 121), .ref (q 122), .ref (q 123), .int t0_3, .ref (q 124), .ref (q 125), .ref (q 126), .ref (q 127), .ref (q 128), .ref (q 129), .ref (q 130), .ref (q 131), .int t0_4, .int t0_5, .ref (q 132), .ref (q 133), .int t0_6])) : Option (Nat × va_E)) := hT0
          replace hI := n_p119 hI hu81 hT0 (by first | with_reducible exact q_fe btt0_2 | exact ⟨(by have t1 : 0 ≤ t0_2.toInt ∧ t0_2.toInt ≤ 4100 := btt0_2; omega), (by have t1 : 0 ≤ t0_2.toInt ∧ t0_2.toInt ≤ 4100 := btt0_2; omega)⟩) (by first | with_reducible exact q_fe btt0_3 | exact ⟨(by have t1 : 0 ≤ t0_3.toInt ∧ t0_3.toInt ≤ 1 := btt0_3; omega), (by have t1 : 0 ≤ t0_3.toInt ∧ t0_3.toInt ≤ 1 := btt0_3; omega)⟩) (by first | with_reducible exact q_fe btt0_4 | exact ⟨(by have t1 : 0 ≤ t0_4.toInt ∧ t0_4.toInt ≤ 1 := btt0_4; omega), (by have t1 : 0 ≤ t0_4.toInt ∧ t0_4.toInt ≤ 1 := btt0_4; omega)⟩) (by first | with_reducible exact q_fe btt0_5 | exact ⟨(by have t1 : 0 ≤ t0_5.toInt ∧ t0_5.toInt ≤ 1 := btt0_5; omega), (by have t1 : 0 ≤ t0_5.toInt ∧ t0_5.toInt ≤ 1 := btt0_5; omega)⟩) (by first | with_reducible exact q_fe btt0_6 | exact ⟨(by have t1 : 0 ≤ t0_6.toInt ∧ t0_6.toInt ≤ 2100 := btt0_6; omega), (by have t1 : 0 ≤ t0_6.toInt ∧ t0_6.toInt ≤ 2100 := btt0_6; omega)⟩)
          replace hT1 := (hu81 _ (by decide)).trans hT1
          replace hT2 := (hu81 _ (by decide)).trans hT2
          replace hT3 := (hu81 _ (by decide)).trans hT3
          replace hT4 := (hu81 _ (by decide)).trans hT4
          replace hF := q_us hF hu81 (by simp)
          refine lv_iload_n hx hb d_19_19_87 rfl (lv_at hl 0 rfl) ?_
          refine lv_istore (lv' := [(4, .int lx51), (3, .int lx51), (0, .ref (q 119)), (1, .int x2), (2, .int x3)]) hx hb d_19_19_88 hl (by decide) rfl (fun ls hl => ?_)
          refine q_loop (X := Int32 × Int32) (fun z H locs ls w92 => q_F (z.2.toInt ≤ 2) ∧ q_F (z.1.toInt ≤ t0_2.toInt) ∧ q_F (lx66.toInt ≤ z.2.toInt) ∧ q_F (z.2.toInt + 2 * lx51.toInt ≤ 2 * z.1.toInt + lx66.toInt) ∧ q_Wd D g (va_A ws sz) s w92 H locs ∧ lv_has ls 5 [(4, .int z.1), (3, .int lx51), (0, .ref (q 119)), (1, .int x2), (2, .int x3)] ∧ q_I (msh g q) q w92 ∧ q_un ws w92 [119, 121, 122, 123] ∧ w92[119]? = (some (q 119, .inr (13, [.int z.2, .int t0_1, .ref (q 120), .int t0_2, .ref (q 121), .ref (q 122), .ref (q 123), .int t0_3, .ref (q 124), .ref (q 125), .ref (q 126), .ref (q 127), .ref (q 128), .ref (q 129), .ref (q 130), .ref (q 131), .int t0_4, .int t0_5, .ref (q 132), .ref (q 133), .int t0_6])) : Option (Nat × va_E)) ∧ w92[120]? = (some (q 120, .inl (g 0, (4100 : Int32).toNatClampNeg, .inl t1_0)) : Option (Nat × va_E)) ∧ w92[121]? = (some (q 121, .inl (g 0, (1408 : Int32).toNatClampNeg, .inl t2_0)) : Option (Nat × va_E)) ∧ w92[122]? = (some (q 122, .inl (g 3, 11, .inl t3_0)) : Option (Nat × va_E)) ∧ w92[123]? = (some (q 123, .inl (g 0, (264 : Int32).toNatClampNeg, .inl t4_0)) : Option (Nat × va_E)) ∧ (∃ n, (4100 - z.1.toInt).toNat < n ∧ F_WR_read_L90 x2 x3 t0_0 t0_1 t0_2 t0_3 t0_4 t0_5 t0_6 t1_0 t2_0 t3_0 t4_0 lx33 lx51 lx66 n z.1 z.2 = (F_WR_read x2 x3 t0_0 t0_1 t0_2 t0_3 t0_4 t0_5 t0_6 t1_0 t2_0 t3_0 t4_0) ∧ True ∧ S_WR_read_L90 x2 x3 t0_0 t0_1 t0_2 t0_3 t0_4 t0_5 t0_6 t1_0 t2_0 t3_0 t4_0 lx33 lx51 lx66 n z.1 z.2)) (fun z => (4100 - z.1.toInt).toNat) ?_ ((lx51 : Int32), (lx66 : Int32)) _ _ _ w80 ⟨(show q_F (lx66.toInt ≤ 2) from (show lx66.toInt ≤ 2 from by have t1 : lx33.toInt ≤ 0 := b50; have t2 : lx66.toInt ≤ lx33.toInt + 2 := i74; omega)), (show q_F (lx51.toInt ≤ t0_2.toInt) from (show lx51.toInt ≤ t0_2.toInt from by have t1 : lx51.toInt ≤ t0_2.toInt := i60; omega)), (show q_F (lx66.toInt ≤ lx66.toInt) from (show lx66.toInt ≤ lx66.toInt from by omega)), (show q_F (lx66.toInt + 2 * lx51.toInt ≤ 2 * lx51.toInt + lx66.toInt) from (show lx66.toInt + 2 * lx51.toInt ≤ 2 * lx51.toInt + lx66.toInt from by omega)), V, q_lw hl (q_lw1 0 rfl (q_lw1 1 rfl (q_lw1 2 rfl (q_lw1 3 rfl (q_lw1 4 rfl q_lw0))))), hI, hF, hT0, hT1, hT2, hT3, hT4, ⟨((4100 - lx51.toInt).toNat + 1), Nat.lt_succ_self _, (show F_WR_read_L90 x2 x3 t0_0 t0_1 t0_2 t0_3 t0_4 t0_5 t0_6 t1_0 t2_0 t3_0 t4_0 lx33 lx51 lx66 ((4100 - lx51.toInt).toNat + 1) lx51 lx66 = (F_WR_read x2 x3 t0_0 t0_1 t0_2 t0_3 t0_4 t0_5 t0_6 t1_0 t2_0 t3_0 t4_0) from Eq.trans (by rw [F_WR_read_J84.eq_1]) hR75), (show True ∧ S_WR_read_L90 x2 x3 t0_0 t0_1 t0_2 t0_3 t0_4 t0_5 t0_6 t1_0 t2_0 t3_0 t4_0 lx33 lx51 lx66 ((4100 - lx51.toInt).toNat + 1) lx51 lx66 from (by have h := hS76; rw [S_WR_read_J84.eq_1] at h; with_reducible exact h))⟩⟩
          rintro ⟨lx85, lx86⟩ H locs ls w92 ⟨i87, i88, i89, i90, V, hl, hI, hF, hO93, hO94, hO95, hO96, hO97, ⟨fu100, hf101, hR98, hS99⟩⟩ ih91
          obtain ⟨fm102, rfl⟩ : ∃ m, fu100 = m + 1 := ⟨fu100 - 1, by omega⟩
          replace i87 : q_F (lx86.toInt ≤ 2) := i87
          replace i88 : q_F (lx85.toInt ≤ t0_2.toInt) := i88
          replace i89 : q_F (lx66.toInt ≤ lx86.toInt) := i89
          replace i90 : q_F (lx86.toInt + 2 * lx51.toInt ≤ 2 * lx85.toInt + lx66.toInt) := i90
          replace hl : lv_has ls 5 [(4, .int lx85), (3, .int lx51), (0, .ref (q 119)), (1, .int x2), (2, .int x3)] := hl
          replace hO93 : w92[119]? = (some (q 119, .inr (13, [.int lx86, .int t0_1, .ref (q 120), .int t0_2, .ref (q 121), .ref (q 122), .ref (q 123), .int t0_3, .ref (q 124), .ref (q 125), .ref (q 126), .ref (q 127), .ref (q 128), .ref (q 129), .ref (q 130), .ref (q 131), .int t0_4, .int t0_5, .ref (q 132), .ref (q 133), .int t0_6])) : Option (Nat × va_E)) := hO93
          replace hO94 : w92[120]? = (some (q 120, .inl (g 0, (4100 : Int32).toNatClampNeg, .inl t1_0)) : Option (Nat × va_E)) := hO94
          replace hO95 : w92[121]? = (some (q 121, .inl (g 0, (1408 : Int32).toNatClampNeg, .inl t2_0)) : Option (Nat × va_E)) := hO95
          replace hO96 : w92[122]? = (some (q 122, .inl (g 3, 11, .inl t3_0)) : Option (Nat × va_E)) := hO96
          replace hO97 : w92[123]? = (some (q 123, .inl (g 0, (264 : Int32).toNatClampNeg, .inl t4_0)) : Option (Nat × va_E)) := hO97
          refine lv_iload hx hb d_19_19_90 (lv_at hl 0 rfl) ?_
          refine lv_aload_n hx hb d_19_19_92 rfl (lv_at hl 2 rfl) ?_
          refine q_get (ci := 13) (j := 3) (v := .int t0_2) C0 V i_WR rfl rfl hO93 (by decide) w_1927 rfl d_19_19_93 ?_
          refine lv_icmp_ge (tgt := 131) hx hb d_19_19_96 (by decide) (fun c103 => ?_) (fun c103 => ?_)
          ·
            refine lv_aload_n hx hb d_19_19_131 rfl (lv_at hl 2 rfl) ?_
            refine q_get (ci := 13) (j := 0) (v := .int lx86) C0 V i_WR rfl rfl hO93 (by decide) w_1921 rfl d_19_19_132 ?_
            refine lv_if_le (tgt := 139) hx hb d_19_19_135 (by decide) (fun c105 => ?_) (fun c105 => ?_)
            ·
              refine lv_aload_n hx hb d_19_19_139 rfl (lv_at hl 2 rfl) ?_
              refine q_get (ci := 13) (j := 6) (v := .ref (q 123)) C0 V i_WR rfl rfl hO93 (by decide) w_1930 rfl d_19_19_140 ?_
              refine q_gov V (q_runS (As := [.ref (q 123)]) (rest := []) (d := 1) (mc := 0) (ms := 0) C0 V rfl LS_WR_63 (X_WR_clear l D g q w92 123 264 (n_r123 g q)  hI t4_0 hO97  _) rfl hl.1 rfl (Nat.le_of_ble_eq_true rfl) ⟨by decide, by decide⟩ ⟨Nat.le_of_ble_eq_true rfl, Nat.le_of_ble_eq_true rfl⟩ d_19_19_143) (fun u107 H locs hp108 V => ?_)
              obtain ⟨hI, hu112, f109, hA110, hE111⟩ := hp108
              replace hA110 : u107[123]? = (some (q 123, .inl (g 0, (264 : Int32).toNatClampNeg, .inl f109)) : Option (Nat × va_E)) := hA110
              have e113 : f109 = (F_WR_clear (264 : Int32) t4_0) := hE111
              replace hO93 := (hu112 _ (by decide)).trans hO93
              replace hO94 := (hu112 _ (by decide)).trans hO94
              replace hO95 := (hu112 _ (by decide)).trans hO95
              replace hO96 := (hu112 _ (by decide)).trans hO96
              replace hF := q_uc hF hu112 (by simp)
              refine lv_iload_n hx hb d_19_19_146 rfl (lv_at hl 1 rfl) ?_
              refine lv_istore (lv' := [(4, .int lx51), (3, .int lx51), (0, .ref (q 119)), (1, .int x2), (2, .int x3)]) hx hb d_19_19_147 hl (by decide) rfl (fun ls hl => ?_)
              refine q_loop (X := Int32 × (Nat → Int32)) (fun z H locs ls w120 => q_F (lx51.toInt ≤ z.1.toInt) ∧ q_F (z.1.toInt ≤ t0_2.toInt) ∧ q_Wd D g (va_A ws sz) s w120 H locs ∧ lv_has ls 5 [(4, .int z.1), (0, .ref (q 119)), (1, .int x2), (2, .int x3)] ∧ q_I (msh g q) q w120 ∧ q_un ws w120 [119, 121, 122, 123] ∧ w120[119]? = (some (q 119, .inr (13, [.int lx86, .int t0_1, .ref (q 120), .int t0_2, .ref (q 121), .ref (q 122), .ref (q 123), .int t0_3, .ref (q 124), .ref (q 125), .ref (q 126), .ref (q 127), .ref (q 128), .ref (q 129), .ref (q 130), .ref (q 131), .int t0_4, .int t0_5, .ref (q 132), .ref (q 133), .int t0_6])) : Option (Nat × va_E)) ∧ w120[120]? = (some (q 120, .inl (g 0, (4100 : Int32).toNatClampNeg, .inl t1_0)) : Option (Nat × va_E)) ∧ w120[121]? = (some (q 121, .inl (g 0, (1408 : Int32).toNatClampNeg, .inl t2_0)) : Option (Nat × va_E)) ∧ w120[122]? = (some (q 122, .inl (g 3, 11, .inl t3_0)) : Option (Nat × va_E)) ∧ w120[123]? = (some (q 123, .inl (g 0, (264 : Int32).toNatClampNeg, .inl z.2)) : Option (Nat × va_E)) ∧ (∃ n, (4100 - z.1.toInt).toNat < n ∧ F_WR_read_L149 (F_WR_read_L90 x2 x3 t0_0 t0_1 t0_2 t0_3 t0_4 t0_5 t0_6 t1_0 t2_0 t3_0 t4_0 lx33 lx51 lx66 fm102) x2 x3 t0_0 t0_1 t0_2 t0_3 t0_4 t0_5 t0_6 t1_0 t2_0 t3_0 t4_0 lx33 lx51 lx66 lx85 lx86 n z.1 z.2 = (F_WR_read x2 x3 t0_0 t0_1 t0_2 t0_3 t0_4 t0_5 t0_6 t1_0 t2_0 t3_0 t4_0) ∧ True ∧ S_WR_read_L149 (S_WR_read_L90 x2 x3 t0_0 t0_1 t0_2 t0_3 t0_4 t0_5 t0_6 t1_0 t2_0 t3_0 t4_0 lx33 lx51 lx66 fm102) x2 x3 t0_0 t0_1 t0_2 t0_3 t0_4 t0_5 t0_6 t1_0 t2_0 t3_0 t4_0 lx33 lx51 lx66 lx85 lx86 n z.1 z.2)) (fun z => (4100 - z.1.toInt).toNat) ?_ ((lx51 : Int32), (f109 : (Nat → Int32))) _ _ _ u107 ⟨(show q_F (lx51.toInt ≤ lx51.toInt) from (show lx51.toInt ≤ lx51.toInt from by omega)), (show q_F (lx51.toInt ≤ t0_2.toInt) from (show lx51.toInt ≤ t0_2.toInt from by have t1 : lx51.toInt ≤ t0_2.toInt := i60; omega)), V, q_lw hl (q_lw1 0 rfl (q_lw1 2 rfl (q_lw1 3 rfl (q_lw1 4 rfl q_lw0)))), hI, hF, hO93, hO94, hO95, hO96, hA110, ⟨((4100 - lx51.toInt).toNat + 1), Nat.lt_succ_self _, (show F_WR_read_L149 (F_WR_read_L90 x2 x3 t0_0 t0_1 t0_2 t0_3 t0_4 t0_5 t0_6 t1_0 t2_0 t3_0 t4_0 lx33 lx51 lx66 fm102) x2 x3 t0_0 t0_1 t0_2 t0_3 t0_4 t0_5 t0_6 t1_0 t2_0 t3_0 t4_0 lx33 lx51 lx66 lx85 lx86 ((4100 - lx51.toInt).toNat + 1) lx51 f109 = (F_WR_read x2 x3 t0_0 t0_1 t0_2 t0_3 t0_4 t0_5 t0_6 t1_0 t2_0 t3_0 t4_0) from Eq.trans (by rw [e113, F_WR_read_L90.eq_2, if_pos c103, if_pos c105]) hR98), (show True ∧ S_WR_read_L149 (S_WR_read_L90 x2 x3 t0_0 t0_1 t0_2 t0_3 t0_4 t0_5 t0_6 t1_0 t2_0 t3_0 t4_0 lx33 lx51 lx66 fm102) x2 x3 t0_0 t0_1 t0_2 t0_3 t0_4 t0_5 t0_6 t1_0 t2_0 t3_0 t4_0 lx33 lx51 lx66 lx85 lx86 ((4100 - lx51.toInt).toNat + 1) lx51 f109 from (by rw [e113]; have h := hS99; rw [S_WR_read_L90.eq_2] at h; rw [if_pos c103] at h; rw [if_pos c105] at h; with_reducible exact h))⟩⟩
              rintro ⟨lx115, lx116⟩ H locs ls w120 ⟨i117, i118, V, hl, hI, hF, hO121, hO122, hO123, hO124, hO125, ⟨fu128, hf129, hR126, hS127⟩⟩ ih119
              obtain ⟨fm130, rfl⟩ : ∃ m, fu128 = m + 1 := ⟨fu128 - 1, by omega⟩
              replace i117 : q_F (lx51.toInt ≤ lx115.toInt) := i117
              replace i118 : q_F (lx115.toInt ≤ t0_2.toInt) := i118
              replace hl : lv_has ls 5 [(4, .int lx115), (0, .ref (q 119)), (1, .int x2), (2, .int x3)] := hl
              replace hO121 : w120[119]? = (some (q 119, .inr (13, [.int lx86, .int t0_1, .ref (q 120), .int t0_2, .ref (q 121), .ref (q 122), .ref (q 123), .int t0_3, .ref (q 124), .ref (q 125), .ref (q 126), .ref (q 127), .ref (q 128), .ref (q 129), .ref (q 130), .ref (q 131), .int t0_4, .int t0_5, .ref (q 132), .ref (q 133), .int t0_6])) : Option (Nat × va_E)) := hO121
              replace hO122 : w120[120]? = (some (q 120, .inl (g 0, (4100 : Int32).toNatClampNeg, .inl t1_0)) : Option (Nat × va_E)) := hO122
              replace hO123 : w120[121]? = (some (q 121, .inl (g 0, (1408 : Int32).toNatClampNeg, .inl t2_0)) : Option (Nat × va_E)) := hO123
              replace hO124 : w120[122]? = (some (q 122, .inl (g 3, 11, .inl t3_0)) : Option (Nat × va_E)) := hO124
              replace hO125 : w120[123]? = (some (q 123, .inl (g 0, (264 : Int32).toNatClampNeg, .inl lx116)) : Option (Nat × va_E)) := hO125
              refine lv_iload hx hb d_19_19_149 (lv_at hl 0 rfl) ?_
              refine lv_aload_n hx hb d_19_19_151 rfl (lv_at hl 1 rfl) ?_
              refine q_get (ci := 13) (j := 3) (v := .int t0_2) C0 V i_WR rfl rfl hO121 (by decide) w_1927 rfl d_19_19_152 ?_
              refine lv_icmp_ge (tgt := 201) hx hb d_19_19_155 (by decide) (fun c131 => ?_) (fun c131 => ?_)
              ·
                refine lv_aload_n hx hb d_19_19_201 rfl (lv_at hl 1 rfl) ?_
                refine lv_aload_n hx hb d_19_19_202 rfl (lv_at hl 1 rfl) ?_
                refine q_get (ci := 13) (j := 2) (v := .ref (q 120)) C0 V i_WR rfl rfl hO121 (by decide) w_1924 rfl d_19_19_203 ?_
                refine lv_iconst (v := 0) hx hb d_19_19_206 (by decide) ?_
                refine q_iald C0 V hO122 (q_ix (x := 0) (by decide) (by omega) (by have e9 : (((4100 : Int32).toNatClampNeg : Nat) : Int) = 4100 := (by decide); omega)) d_19_19_207 ?_
                obtain ⟨a133, e134⟩ := q_nm (t1_0 (0 : Int32).toNatClampNeg : Int32)
                refine q_ti (v := a133) e134 ?_
                refine lv_bipush (v := 45) hx hb d_19_19_208 (by decide) ?_
                refine lv_icmp_ne (tgt := 217) hx hb d_19_19_210 (by decide) (fun c135 => ?_) (fun c135 => ?_)
                ·
                  refine lv_iconst (v := 0) hx hb d_19_19_217 (by decide) ?_
                  refine q_put (ci := 13) (j := 7) (v := .int 0) (ty := .boolean) C0 V i_WR o_WR n_WR rfl rfl hO121 (by decide) w_1931 rfl rfl rfl rfl (Nat.le_of_ble_eq_true rfl) d_19_19_218 (fun H locs w137 hu138 hO121 V => ?_)
                  replace hO121 : w137[119]? = (some (q 119, .inr (13, [.int lx86, .int t0_1, .ref (q 120), .int t0_2, .ref (q 121), .ref (q 122), .ref (q 123), .int 0, .ref (q 124), .ref (q 125), .ref (q 126), .ref (q 127), .ref (q 128), .ref (q 129), .ref (q 130), .ref (q 131), .int t0_4, .int t0_5, .ref (q 132), .ref (q 133), .int t0_6])) : Option (Nat × va_E)) := hO121
                  replace hI := n_p119 hI hu138 hO121 (by first | with_reducible exact q_fe btt0_2 | exact ⟨(by have t1 : 0 ≤ t0_2.toInt ∧ t0_2.toInt ≤ 4100 := btt0_2; omega), (by have t1 : 0 ≤ t0_2.toInt ∧ t0_2.toInt ≤ 4100 := btt0_2; omega)⟩) ⟨(by have z9 : (0 : Int32).toInt = 0 := rfl; omega), (by have z9 : (0 : Int32).toInt = 0 := rfl; omega)⟩ (by first | with_reducible exact q_fe btt0_4 | exact ⟨(by have t1 : 0 ≤ t0_4.toInt ∧ t0_4.toInt ≤ 1 := btt0_4; omega), (by have t1 : 0 ≤ t0_4.toInt ∧ t0_4.toInt ≤ 1 := btt0_4; omega)⟩) (by first | with_reducible exact q_fe btt0_5 | exact ⟨(by have t1 : 0 ≤ t0_5.toInt ∧ t0_5.toInt ≤ 1 := btt0_5; omega), (by have t1 : 0 ≤ t0_5.toInt ∧ t0_5.toInt ≤ 1 := btt0_5; omega)⟩) (by first | with_reducible exact q_fe btt0_6 | exact ⟨(by have t1 : 0 ≤ t0_6.toInt ∧ t0_6.toInt ≤ 2100 := btt0_6; omega), (by have t1 : 0 ≤ t0_6.toInt ∧ t0_6.toInt ≤ 2100 := btt0_6; omega)⟩)
                  replace hO123 := (hu138 _ (by decide)).trans hO123
                  replace hO124 := (hu138 _ (by decide)).trans hO124
                  replace hO125 := (hu138 _ (by decide)).trans hO125
                  replace hF := q_us hF hu138 (by simp)
                  refine lv_aload_n hx hb d_19_19_221 rfl (lv_at hl 1 rfl) ?_
                  refine lv_iload_n hx hb d_19_19_222 rfl (lv_at hl 2 rfl) ?_
                  have ob139 : True ∧ S_WR_store x2 lx86 t0_1 t0_2 (0 : Int32) t0_4 t0_5 t0_6 t2_0 t3_0 lx116 := (by have h := hS127; rw [S_WR_read_L149.eq_2] at h; rw [if_pos c131] at h; have c135x := c135; rw [← e134] at c135x; rw [if_neg c135x] at h; with_reducible exact h.2.1)
                  refine q_gov V (q_runV (As := [.int x2]) (rest := []) (d := 2) (mc := 0) (ms := 0) (ci := 13) C0 V rfl LV_WR_103 (X_WR_store l D g q w137  x2 hI lx86 t0_1 t0_2 0 t0_4 t0_5 t0_6 hO121 t2_0 hO123 t3_0 hO124 lx116 hO125 ob139 _) rfl rfl hO121 rfl hl.1 rfl (Nat.le_of_ble_eq_true rfl) ⟨by decide, by decide⟩ ⟨Nat.le_of_ble_eq_true rfl, Nat.le_of_ble_eq_true rfl⟩ d_19_19_223) (fun u140 H locs hp141 V => ?_)
                  obtain ⟨hI, hZ9⟩ := hp141
                  obtain ⟨hu167, hZ9⟩ := hZ9
                  obtain ⟨y143, hZ9⟩ := hZ9
                  obtain ⟨y144, hZ9⟩ := hZ9
                  obtain ⟨y145, hZ9⟩ := hZ9
                  obtain ⟨y146, hZ9⟩ := hZ9
                  obtain ⟨y147, hZ9⟩ := hZ9
                  obtain ⟨y148, hZ9⟩ := hZ9
                  obtain ⟨y149, hZ9⟩ := hZ9
                  obtain ⟨f150, hZ9⟩ := hZ9
                  obtain ⟨f152, hZ9⟩ := hZ9
                  obtain ⟨hO142, hZ9⟩ := hZ9
                  obtain ⟨hA151, hZ9⟩ := hZ9
                  obtain ⟨hA153, hZ9⟩ := hZ9
                  obtain ⟨b154, hZ9⟩ := hZ9
                  obtain ⟨b155, hZ9⟩ := hZ9
                  replace hZ9 := hZ9.2.2
                  obtain ⟨b158, hZ9⟩ := hZ9
                  obtain ⟨b159, hZ9⟩ := hZ9
                  obtain ⟨b160, hZ9⟩ := hZ9
                  obtain ⟨b161, hZ9⟩ := hZ9
                  obtain ⟨b162, hZ9⟩ := hZ9
                  obtain ⟨b163, hZ9⟩ := hZ9
                  obtain ⟨b164, hZ9⟩ := hZ9
                  obtain ⟨b165, hE166⟩ := hZ9
                  replace hO142 : u140[119]? = (some (q 119, .inr (13, [.int y143, .int y144, .ref (q 120), .int y145, .ref (q 121), .ref (q 122), .ref (q 123), .int y146, .ref (q 124), .ref (q 125), .ref (q 126), .ref (q 127), .ref (q 128), .ref (q 129), .ref (q 130), .ref (q 131), .int y147, .int y148, .ref (q 132), .ref (q 133), .int y149])) : Option (Nat × va_E)) := hO142
                  replace hA151 : u140[121]? = (some (q 121, .inl (g 0, (1408 : Int32).toNatClampNeg, .inl f150)) : Option (Nat × va_E)) := hA151
                  replace hA153 : u140[122]? = (some (q 122, .inl (g 3, 11, .inl f152)) : Option (Nat × va_E)) := hA153
                  obtain ⟨p168, e169⟩ : ∃ z, z = (F_WR_store x2 lx86 t0_1 t0_2 (0 : Int32) t0_4 t0_5 t0_6 t2_0 t3_0 lx116) := ⟨_, rfl⟩
                  have e170 : y143 = p168.1 := congrArg (fun z => z.1) (hE166.trans e169.symm)
                  have e171 : y144 = p168.2.1 := congrArg (fun z => z.2.1) (hE166.trans e169.symm)
                  have e172 : y145 = p168.2.2.1 := congrArg (fun z => z.2.2.1) (hE166.trans e169.symm)
                  have e173 : y146 = p168.2.2.2.1 := congrArg (fun z => z.2.2.2.1) (hE166.trans e169.symm)
                  have e174 : y147 = p168.2.2.2.2.1 := congrArg (fun z => z.2.2.2.2.1) (hE166.trans e169.symm)
                  have e175 : y148 = p168.2.2.2.2.2.1 := congrArg (fun z => z.2.2.2.2.2.1) (hE166.trans e169.symm)
                  have e176 : y149 = p168.2.2.2.2.2.2.1 := congrArg (fun z => z.2.2.2.2.2.2.1) (hE166.trans e169.symm)
                  have e177 : f150 = p168.2.2.2.2.2.2.2.1 := congrArg (fun z => z.2.2.2.2.2.2.2.1) (hE166.trans e169.symm)
                  have e178 : f152 = p168.2.2.2.2.2.2.2.2 := congrArg (fun z => z.2.2.2.2.2.2.2.2) (hE166.trans e169.symm)
                  replace b154 : q_F (t0_1.toInt ≤ y144.toInt) := b154
                  replace b155 : q_F (y144.toInt ≤ t0_1.toInt) := b155
                  replace b158 : q_F (0 ≤ y146.toInt) := b158
                  replace b159 : q_F (y146.toInt ≤ 0) := b159
                  replace b160 : q_F (t0_4.toInt ≤ y147.toInt) := b160
                  replace b161 : q_F (y147.toInt ≤ t0_4.toInt) := b161
                  replace b162 : q_F (t0_5.toInt ≤ y148.toInt) := b162
                  replace b163 : q_F (y148.toInt ≤ t0_5.toInt) := b163
                  replace b164 : q_F (t0_6.toInt ≤ y149.toInt) := b164
                  replace b165 : q_F (y149.toInt ≤ t0_6.toInt) := b165
                  replace hO125 := (hu167 _ (by decide)).trans hO125
                  replace hF := q_uc hF hu167 (by simp)
                  have hR179 := (show F_WR_read_c223 (F_WR_read_L90 x2 x3 t0_0 t0_1 t0_2 t0_3 t0_4 t0_5 t0_6 t1_0 t2_0 t3_0 t4_0 lx33 lx51 lx66 fm102) (F_WR_read_L149 (F_WR_read_L90 x2 x3 t0_0 t0_1 t0_2 t0_3 t0_4 t0_5 t0_6 t1_0 t2_0 t3_0 t4_0 lx33 lx51 lx66 fm102) x2 x3 t0_0 t0_1 t0_2 t0_3 t0_4 t0_5 t0_6 t1_0 t2_0 t3_0 t4_0 lx33 lx51 lx66 lx85 lx86 fm130) x2 x3 t0_0 t0_1 t0_2 t0_3 t0_4 t0_5 t0_6 t1_0 t2_0 t3_0 t4_0 lx33 lx51 lx66 lx85 lx86 lx115 lx116 p168 = (F_WR_read x2 x3 t0_0 t0_1 t0_2 t0_3 t0_4 t0_5 t0_6 t1_0 t2_0 t3_0 t4_0) from Eq.trans (by have c135x := c135; rw [← e134] at c135x; rw [e169, F_WR_read_L149.eq_2, if_pos c131, if_neg c135x]) hR126)
                  have hS180 := (show True ∧ S_WR_read_c223 (S_WR_read_L90 x2 x3 t0_0 t0_1 t0_2 t0_3 t0_4 t0_5 t0_6 t1_0 t2_0 t3_0 t4_0 lx33 lx51 lx66 fm102) (S_WR_read_L149 (S_WR_read_L90 x2 x3 t0_0 t0_1 t0_2 t0_3 t0_4 t0_5 t0_6 t1_0 t2_0 t3_0 t4_0 lx33 lx51 lx66 fm102) x2 x3 t0_0 t0_1 t0_2 t0_3 t0_4 t0_5 t0_6 t1_0 t2_0 t3_0 t4_0 lx33 lx51 lx66 lx85 lx86 fm130) x2 x3 t0_0 t0_1 t0_2 t0_3 t0_4 t0_5 t0_6 t1_0 t2_0 t3_0 t4_0 lx33 lx51 lx66 lx85 lx86 lx115 lx116 p168 from (by rw [e169]; have h := hS127; rw [S_WR_read_L149.eq_2] at h; rw [if_pos c131] at h; have c135x := c135; rw [← e134] at c135x; rw [if_neg c135x] at h; replace h := q_s2 h; with_reducible exact h))
                  refine lv_aload_n hx hb d_19_19_226 rfl (lv_at hl 1 rfl) ?_
                  refine lv_iconst (v := 0) hx hb d_19_19_227 (by decide) ?_
                  refine q_put (ci := 13) (j := 3) (v := .int 0) (ty := .int) C0 V i_WR o_WR n_WR rfl rfl hO142 (by decide) w_1927 rfl rfl rfl rfl (Nat.le_of_ble_eq_true rfl) d_19_19_228 (fun H locs w184 hu185 hO142 V => ?_)
                  replace hO142 : w184[119]? = (some (q 119, .inr (13, [.int y143, .int y144, .ref (q 120), .int 0, .ref (q 121), .ref (q 122), .ref (q 123), .int y146, .ref (q 124), .ref (q 125), .ref (q 126), .ref (q 127), .ref (q 128), .ref (q 129), .ref (q 130), .ref (q 131), .int y147, .int y148, .ref (q 132), .ref (q 133), .int y149])) : Option (Nat × va_E)) := hO142
                  replace hI := n_p119 hI hu185 hO142 ⟨(by have z9 : (0 : Int32).toInt = 0 := rfl; omega), (by have z9 : (0 : Int32).toInt = 0 := rfl; omega)⟩ ⟨(by first | with_reducible exact q_fe b158 | (have t1 : 0 ≤ y146.toInt := b158; omega)), (by first | with_reducible exact q_fe b159 | (have t1 : y146.toInt ≤ 0 := b159; omega))⟩ ⟨(by have t1 : 0 ≤ t0_4.toInt ∧ t0_4.toInt ≤ 1 := btt0_4; have t2 : t0_4.toInt ≤ y147.toInt := b160; omega), (by have t1 : 0 ≤ t0_4.toInt ∧ t0_4.toInt ≤ 1 := btt0_4; have t2 : y147.toInt ≤ t0_4.toInt := b161; omega)⟩ ⟨(by have t1 : 0 ≤ t0_5.toInt ∧ t0_5.toInt ≤ 1 := btt0_5; have t2 : t0_5.toInt ≤ y148.toInt := b162; omega), (by have t1 : 0 ≤ t0_5.toInt ∧ t0_5.toInt ≤ 1 := btt0_5; have t2 : y148.toInt ≤ t0_5.toInt := b163; omega)⟩ ⟨(by have t1 : 0 ≤ t0_6.toInt ∧ t0_6.toInt ≤ 2100 := btt0_6; have t2 : t0_6.toInt ≤ y149.toInt := b164; omega), (by have t1 : 0 ≤ t0_6.toInt ∧ t0_6.toInt ≤ 2100 := btt0_6; have t2 : y149.toInt ≤ t0_6.toInt := b165; omega)⟩
                  replace hA151 := (hu185 _ (by decide)).trans hA151
                  replace hA153 := (hu185 _ (by decide)).trans hA153
                  replace hO125 := (hu185 _ (by decide)).trans hO125
                  replace hF := q_us hF hu185 (by simp)
                  exact q_retv C0 V (⟨hI, hF, y143, y144, 0, y146, y147, y148, y149, f150, f152, lx116, hO142, hA151, hA153, hO125, (show 0 ≤ (0 : Int32).toInt from (by have z15 : (0 : Int32).toInt = 0 := rfl; omega)), (show 0 ≤ y146.toInt from (by have z15 : (0 : Int32).toInt = 0 := rfl; have t1 : 0 ≤ y146.toInt := b158; omega)), (show y146.toInt ≤ 1 from (by have z15 : (0 : Int32).toInt = 0 := rfl; have t1 : y146.toInt ≤ 0 := b159; omega)), (show t0_1.toInt ≤ y144.toInt from (by have z15 : (0 : Int32).toInt = 0 := rfl; have t1 : t0_1.toInt ≤ y144.toInt := b154; omega)), (show y144.toInt ≤ t0_1.toInt from (by have z15 : (0 : Int32).toInt = 0 := rfl; have t1 : y144.toInt ≤ t0_1.toInt := b155; omega)), (show (0 : Int32).toInt ≤ t0_2.toInt from (by have z15 : (0 : Int32).toInt = 0 := rfl; have t1 : 0 ≤ t0_2.toInt ∧ t0_2.toInt ≤ 4100 := btt0_2; omega)), (show t0_4.toInt ≤ y147.toInt from (by have z15 : (0 : Int32).toInt = 0 := rfl; have t1 : t0_4.toInt ≤ y147.toInt := b160; omega)), (show y147.toInt ≤ t0_4.toInt from (by have z15 : (0 : Int32).toInt = 0 := rfl; have t1 : y147.toInt ≤ t0_4.toInt := b161; omega)), (show t0_5.toInt ≤ y148.toInt from (by have z15 : (0 : Int32).toInt = 0 := rfl; have t1 : t0_5.toInt ≤ y148.toInt := b162; omega)), (show y148.toInt ≤ t0_5.toInt from (by have z15 : (0 : Int32).toInt = 0 := rfl; have t1 : y148.toInt ≤ t0_5.toInt := b163; omega)), (show t0_6.toInt ≤ y149.toInt from (by have z15 : (0 : Int32).toInt = 0 := rfl; have t1 : t0_6.toInt ≤ y149.toInt := b164; omega)), (show y149.toInt ≤ t0_6.toInt from (by have z15 : (0 : Int32).toInt = 0 := rfl; have t1 : y149.toInt ≤ t0_6.toInt := b165; omega)), (show (y143, y144, (0 : Int32), y146, y147, y148, y149, f150, f152, lx116) = (F_WR_read x2 x3 t0_0 t0_1 t0_2 t0_3 t0_4 t0_5 t0_6 t1_0 t2_0 t3_0 t4_0) from Eq.trans (by rw [e178, e177, e176, e175, e174, e173, e171, e170, F_WR_read_c223.eq_1]) hR179)⟩) d_19_19_231
                ·
                  refine lv_iconst (v := 1) hx hb d_19_19_213 (by decide) ?_
                  refine lv_goto (tgt := 218) hx hb d_19_19_214 (by decide) ?_
                  refine q_put (ci := 13) (j := 7) (v := .int 1) (ty := .boolean) C0 V i_WR o_WR n_WR rfl rfl hO121 (by decide) w_1931 rfl rfl rfl rfl (Nat.le_of_ble_eq_true rfl) d_19_19_218 (fun H locs w187 hu188 hO121 V => ?_)
                  replace hO121 : w187[119]? = (some (q 119, .inr (13, [.int lx86, .int t0_1, .ref (q 120), .int t0_2, .ref (q 121), .ref (q 122), .ref (q 123), .int 1, .ref (q 124), .ref (q 125), .ref (q 126), .ref (q 127), .ref (q 128), .ref (q 129), .ref (q 130), .ref (q 131), .int t0_4, .int t0_5, .ref (q 132), .ref (q 133), .int t0_6])) : Option (Nat × va_E)) := hO121
                  replace hI := n_p119 hI hu188 hO121 (by first | with_reducible exact q_fe btt0_2 | exact ⟨(by have t1 : 0 ≤ t0_2.toInt ∧ t0_2.toInt ≤ 4100 := btt0_2; omega), (by have t1 : 0 ≤ t0_2.toInt ∧ t0_2.toInt ≤ 4100 := btt0_2; omega)⟩) ⟨(by have z9 : (1 : Int32).toInt = 1 := rfl; omega), (by have z9 : (1 : Int32).toInt = 1 := rfl; omega)⟩ (by first | with_reducible exact q_fe btt0_4 | exact ⟨(by have t1 : 0 ≤ t0_4.toInt ∧ t0_4.toInt ≤ 1 := btt0_4; omega), (by have t1 : 0 ≤ t0_4.toInt ∧ t0_4.toInt ≤ 1 := btt0_4; omega)⟩) (by first | with_reducible exact q_fe btt0_5 | exact ⟨(by have t1 : 0 ≤ t0_5.toInt ∧ t0_5.toInt ≤ 1 := btt0_5; omega), (by have t1 : 0 ≤ t0_5.toInt ∧ t0_5.toInt ≤ 1 := btt0_5; omega)⟩) (by first | with_reducible exact q_fe btt0_6 | exact ⟨(by have t1 : 0 ≤ t0_6.toInt ∧ t0_6.toInt ≤ 2100 := btt0_6; omega), (by have t1 : 0 ≤ t0_6.toInt ∧ t0_6.toInt ≤ 2100 := btt0_6; omega)⟩)
                  replace hO123 := (hu188 _ (by decide)).trans hO123
                  replace hO124 := (hu188 _ (by decide)).trans hO124
                  replace hO125 := (hu188 _ (by decide)).trans hO125
                  replace hF := q_us hF hu188 (by simp)
                  refine lv_aload_n hx hb d_19_19_221 rfl (lv_at hl 1 rfl) ?_
                  refine lv_iload_n hx hb d_19_19_222 rfl (lv_at hl 2 rfl) ?_
                  have ob189 : True ∧ S_WR_store x2 lx86 t0_1 t0_2 (1 : Int32) t0_4 t0_5 t0_6 t2_0 t3_0 lx116 := (by have h := hS127; rw [S_WR_read_L149.eq_2] at h; rw [if_pos c131] at h; have c135x := c135; rw [← e134] at c135x; rw [if_pos c135x] at h; with_reducible exact h.2.1)
                  refine q_gov V (q_runV (As := [.int x2]) (rest := []) (d := 2) (mc := 0) (ms := 0) (ci := 13) C0 V rfl LV_WR_103 (X_WR_store l D g q w187  x2 hI lx86 t0_1 t0_2 1 t0_4 t0_5 t0_6 hO121 t2_0 hO123 t3_0 hO124 lx116 hO125 ob189 _) rfl rfl hO121 rfl hl.1 rfl (Nat.le_of_ble_eq_true rfl) ⟨by decide, by decide⟩ ⟨Nat.le_of_ble_eq_true rfl, Nat.le_of_ble_eq_true rfl⟩ d_19_19_223) (fun u190 H locs hp191 V => ?_)
                  obtain ⟨hI, hZ9⟩ := hp191
                  obtain ⟨hu217, hZ9⟩ := hZ9
                  obtain ⟨y193, hZ9⟩ := hZ9
                  obtain ⟨y194, hZ9⟩ := hZ9
                  obtain ⟨y195, hZ9⟩ := hZ9
                  obtain ⟨y196, hZ9⟩ := hZ9
                  obtain ⟨y197, hZ9⟩ := hZ9
                  obtain ⟨y198, hZ9⟩ := hZ9
                  obtain ⟨y199, hZ9⟩ := hZ9
                  obtain ⟨f200, hZ9⟩ := hZ9
                  obtain ⟨f202, hZ9⟩ := hZ9
                  obtain ⟨hO192, hZ9⟩ := hZ9
                  obtain ⟨hA201, hZ9⟩ := hZ9
                  obtain ⟨hA203, hZ9⟩ := hZ9
                  obtain ⟨b204, hZ9⟩ := hZ9
                  obtain ⟨b205, hZ9⟩ := hZ9
                  replace hZ9 := hZ9.2.2
                  obtain ⟨b208, hZ9⟩ := hZ9
                  obtain ⟨b209, hZ9⟩ := hZ9
                  obtain ⟨b210, hZ9⟩ := hZ9
                  obtain ⟨b211, hZ9⟩ := hZ9
                  obtain ⟨b212, hZ9⟩ := hZ9
                  obtain ⟨b213, hZ9⟩ := hZ9
                  obtain ⟨b214, hZ9⟩ := hZ9
                  obtain ⟨b215, hE216⟩ := hZ9
                  replace hO192 : u190[119]? = (some (q 119, .inr (13, [.int y193, .int y194, .ref (q 120), .int y195, .ref (q 121), .ref (q 122), .ref (q 123), .int y196, .ref (q 124), .ref (q 125), .ref (q 126), .ref (q 127), .ref (q 128), .ref (q 129), .ref (q 130), .ref (q 131), .int y197, .int y198, .ref (q 132), .ref (q 133), .int y199])) : Option (Nat × va_E)) := hO192
                  replace hA201 : u190[121]? = (some (q 121, .inl (g 0, (1408 : Int32).toNatClampNeg, .inl f200)) : Option (Nat × va_E)) := hA201
                  replace hA203 : u190[122]? = (some (q 122, .inl (g 3, 11, .inl f202)) : Option (Nat × va_E)) := hA203
                  obtain ⟨p218, e219⟩ : ∃ z, z = (F_WR_store x2 lx86 t0_1 t0_2 (1 : Int32) t0_4 t0_5 t0_6 t2_0 t3_0 lx116) := ⟨_, rfl⟩
                  have e220 : y193 = p218.1 := congrArg (fun z => z.1) (hE216.trans e219.symm)
                  have e221 : y194 = p218.2.1 := congrArg (fun z => z.2.1) (hE216.trans e219.symm)
                  have e222 : y195 = p218.2.2.1 := congrArg (fun z => z.2.2.1) (hE216.trans e219.symm)
                  have e223 : y196 = p218.2.2.2.1 := congrArg (fun z => z.2.2.2.1) (hE216.trans e219.symm)
                  have e224 : y197 = p218.2.2.2.2.1 := congrArg (fun z => z.2.2.2.2.1) (hE216.trans e219.symm)
                  have e225 : y198 = p218.2.2.2.2.2.1 := congrArg (fun z => z.2.2.2.2.2.1) (hE216.trans e219.symm)
                  have e226 : y199 = p218.2.2.2.2.2.2.1 := congrArg (fun z => z.2.2.2.2.2.2.1) (hE216.trans e219.symm)
                  have e227 : f200 = p218.2.2.2.2.2.2.2.1 := congrArg (fun z => z.2.2.2.2.2.2.2.1) (hE216.trans e219.symm)
                  have e228 : f202 = p218.2.2.2.2.2.2.2.2 := congrArg (fun z => z.2.2.2.2.2.2.2.2) (hE216.trans e219.symm)
                  replace b204 : q_F (t0_1.toInt ≤ y194.toInt) := b204
                  replace b205 : q_F (y194.toInt ≤ t0_1.toInt) := b205
                  replace b208 : q_F (1 ≤ y196.toInt) := b208
                  replace b209 : q_F (y196.toInt ≤ 1) := b209
                  replace b210 : q_F (t0_4.toInt ≤ y197.toInt) := b210
                  replace b211 : q_F (y197.toInt ≤ t0_4.toInt) := b211
                  replace b212 : q_F (t0_5.toInt ≤ y198.toInt) := b212
                  replace b213 : q_F (y198.toInt ≤ t0_5.toInt) := b213
                  replace b214 : q_F (t0_6.toInt ≤ y199.toInt) := b214
                  replace b215 : q_F (y199.toInt ≤ t0_6.toInt) := b215
                  replace hO125 := (hu217 _ (by decide)).trans hO125
                  replace hF := q_uc hF hu217 (by simp)
                  have hR229 := (show F_WR_read_c223_7 (F_WR_read_L90 x2 x3 t0_0 t0_1 t0_2 t0_3 t0_4 t0_5 t0_6 t1_0 t2_0 t3_0 t4_0 lx33 lx51 lx66 fm102) (F_WR_read_L149 (F_WR_read_L90 x2 x3 t0_0 t0_1 t0_2 t0_3 t0_4 t0_5 t0_6 t1_0 t2_0 t3_0 t4_0 lx33 lx51 lx66 fm102) x2 x3 t0_0 t0_1 t0_2 t0_3 t0_4 t0_5 t0_6 t1_0 t2_0 t3_0 t4_0 lx33 lx51 lx66 lx85 lx86 fm130) x2 x3 t0_0 t0_1 t0_2 t0_3 t0_4 t0_5 t0_6 t1_0 t2_0 t3_0 t4_0 lx33 lx51 lx66 lx85 lx86 lx115 lx116 p218 = (F_WR_read x2 x3 t0_0 t0_1 t0_2 t0_3 t0_4 t0_5 t0_6 t1_0 t2_0 t3_0 t4_0) from Eq.trans (by have c135x := c135; rw [← e134] at c135x; rw [e219, F_WR_read_L149.eq_2, if_pos c131, if_pos c135x]) hR126)
                  have hS230 := (show True ∧ S_WR_read_c223_7 (S_WR_read_L90 x2 x3 t0_0 t0_1 t0_2 t0_3 t0_4 t0_5 t0_6 t1_0 t2_0 t3_0 t4_0 lx33 lx51 lx66 fm102) (S_WR_read_L149 (S_WR_read_L90 x2 x3 t0_0 t0_1 t0_2 t0_3 t0_4 t0_5 t0_6 t1_0 t2_0 t3_0 t4_0 lx33 lx51 lx66 fm102) x2 x3 t0_0 t0_1 t0_2 t0_3 t0_4 t0_5 t0_6 t1_0 t2_0 t3_0 t4_0 lx33 lx51 lx66 lx85 lx86 fm130) x2 x3 t0_0 t0_1 t0_2 t0_3 t0_4 t0_5 t0_6 t1_0 t2_0 t3_0 t4_0 lx33 lx51 lx66 lx85 lx86 lx115 lx116 p218 from (by rw [e219]; have h := hS127; rw [S_WR_read_L149.eq_2] at h; rw [if_pos c131] at h; have c135x := c135; rw [← e134] at c135x; rw [if_pos c135x] at h; replace h := q_s2 h; with_reducible exact h))
                  refine lv_aload_n hx hb d_19_19_226 rfl (lv_at hl 1 rfl) ?_
                  refine lv_iconst (v := 0) hx hb d_19_19_227 (by decide) ?_
                  refine q_put (ci := 13) (j := 3) (v := .int 0) (ty := .int) C0 V i_WR o_WR n_WR rfl rfl hO192 (by decide) w_1927 rfl rfl rfl rfl (Nat.le_of_ble_eq_true rfl) d_19_19_228 (fun H locs w234 hu235 hO192 V => ?_)
                  replace hO192 : w234[119]? = (some (q 119, .inr (13, [.int y193, .int y194, .ref (q 120), .int 0, .ref (q 121), .ref (q 122), .ref (q 123), .int y196, .ref (q 124), .ref (q 125), .ref (q 126), .ref (q 127), .ref (q 128), .ref (q 129), .ref (q 130), .ref (q 131), .int y197, .int y198, .ref (q 132), .ref (q 133), .int y199])) : Option (Nat × va_E)) := hO192
                  replace hI := n_p119 hI hu235 hO192 ⟨(by have z9 : (0 : Int32).toInt = 0 := rfl; omega), (by have z9 : (0 : Int32).toInt = 0 := rfl; omega)⟩ ⟨(by first | with_reducible exact q_fe b208 | (have t1 : 1 ≤ y196.toInt := b208; omega)), (by first | with_reducible exact q_fe b209 | (have t1 : y196.toInt ≤ 1 := b209; omega))⟩ ⟨(by have t1 : 0 ≤ t0_4.toInt ∧ t0_4.toInt ≤ 1 := btt0_4; have t2 : t0_4.toInt ≤ y197.toInt := b210; omega), (by have t1 : 0 ≤ t0_4.toInt ∧ t0_4.toInt ≤ 1 := btt0_4; have t2 : y197.toInt ≤ t0_4.toInt := b211; omega)⟩ ⟨(by have t1 : 0 ≤ t0_5.toInt ∧ t0_5.toInt ≤ 1 := btt0_5; have t2 : t0_5.toInt ≤ y198.toInt := b212; omega), (by have t1 : 0 ≤ t0_5.toInt ∧ t0_5.toInt ≤ 1 := btt0_5; have t2 : y198.toInt ≤ t0_5.toInt := b213; omega)⟩ ⟨(by have t1 : 0 ≤ t0_6.toInt ∧ t0_6.toInt ≤ 2100 := btt0_6; have t2 : t0_6.toInt ≤ y199.toInt := b214; omega), (by have t1 : 0 ≤ t0_6.toInt ∧ t0_6.toInt ≤ 2100 := btt0_6; have t2 : y199.toInt ≤ t0_6.toInt := b215; omega)⟩
                  replace hA201 := (hu235 _ (by decide)).trans hA201
                  replace hA203 := (hu235 _ (by decide)).trans hA203
                  replace hO125 := (hu235 _ (by decide)).trans hO125
                  replace hF := q_us hF hu235 (by simp)
                  exact q_retv C0 V (⟨hI, hF, y193, y194, 0, y196, y197, y198, y199, f200, f202, lx116, hO192, hA201, hA203, hO125, (show 0 ≤ (0 : Int32).toInt from (by have z15 : (0 : Int32).toInt = 0 := rfl; omega)), (show 0 ≤ y196.toInt from (by have z15 : (0 : Int32).toInt = 0 := rfl; have t1 : 1 ≤ y196.toInt := b208; omega)), (show y196.toInt ≤ 1 from (by have z15 : (0 : Int32).toInt = 0 := rfl; have t1 : y196.toInt ≤ 1 := b209; omega)), (show t0_1.toInt ≤ y194.toInt from (by have z15 : (0 : Int32).toInt = 0 := rfl; have t1 : t0_1.toInt ≤ y194.toInt := b204; omega)), (show y194.toInt ≤ t0_1.toInt from (by have z15 : (0 : Int32).toInt = 0 := rfl; have t1 : y194.toInt ≤ t0_1.toInt := b205; omega)), (show (0 : Int32).toInt ≤ t0_2.toInt from (by have z15 : (0 : Int32).toInt = 0 := rfl; have t1 : 0 ≤ t0_2.toInt ∧ t0_2.toInt ≤ 4100 := btt0_2; omega)), (show t0_4.toInt ≤ y197.toInt from (by have z15 : (0 : Int32).toInt = 0 := rfl; have t1 : t0_4.toInt ≤ y197.toInt := b210; omega)), (show y197.toInt ≤ t0_4.toInt from (by have z15 : (0 : Int32).toInt = 0 := rfl; have t1 : y197.toInt ≤ t0_4.toInt := b211; omega)), (show t0_5.toInt ≤ y198.toInt from (by have z15 : (0 : Int32).toInt = 0 := rfl; have t1 : t0_5.toInt ≤ y198.toInt := b212; omega)), (show y198.toInt ≤ t0_5.toInt from (by have z15 : (0 : Int32).toInt = 0 := rfl; have t1 : y198.toInt ≤ t0_5.toInt := b213; omega)), (show t0_6.toInt ≤ y199.toInt from (by have z15 : (0 : Int32).toInt = 0 := rfl; have t1 : t0_6.toInt ≤ y199.toInt := b214; omega)), (show y199.toInt ≤ t0_6.toInt from (by have z15 : (0 : Int32).toInt = 0 := rfl; have t1 : y199.toInt ≤ t0_6.toInt := b215; omega)), (show (y193, y194, (0 : Int32), y196, y197, y198, y199, f200, f202, lx116) = (F_WR_read x2 x3 t0_0 t0_1 t0_2 t0_3 t0_4 t0_5 t0_6 t1_0 t2_0 t3_0 t4_0) from Eq.trans (by rw [e228, e227, e226, e225, e224, e223, e221, e220, F_WR_read_c223_7.eq_1]) hR229)⟩) d_19_19_231
              ·
                have b236 : q_F (lx115.toInt < t0_2.toInt) := (q_nleI c131)
                refine lv_aload_n hx hb d_19_19_158 rfl (lv_at hl 1 rfl) ?_
                refine q_get (ci := 13) (j := 6) (v := .ref (q 123)) C0 V i_WR rfl rfl hO121 (by decide) w_1930 rfl d_19_19_159 ?_
                refine lv_iload_n hx hb d_19_19_162 rfl (lv_at hl 3 rfl) ?_
                refine lv_aload_n hx hb d_19_19_163 rfl (lv_at hl 1 rfl) ?_
                refine q_get (ci := 13) (j := 2) (v := .ref (q 120)) C0 V i_WR rfl rfl hO121 (by decide) w_1924 rfl d_19_19_164 ?_
                refine lv_iload hx hb d_19_19_167 (lv_at hl 0 rfl) ?_
                refine q_iald C0 V hO122 (q_ix (x := lx115.toInt) rfl (by have t1 : 0 ≤ lx33.toInt := i40; have t2 : lx33.toInt ≤ lx51.toInt := i58; have t3 : lx51.toInt ≤ lx115.toInt := i117; omega) (by have t1 : 0 ≤ lx33.toInt := i40; have t2 : lx33.toInt ≤ lx51.toInt := i58; have t3 : lx51.toInt ≤ lx115.toInt := i117; have t4 : 0 ≤ t0_2.toInt ∧ t0_2.toInt ≤ 4100 := btt0_2; have t5 : lx115.toInt < t0_2.toInt := b236; have e9 : (((4100 : Int32).toNatClampNeg : Nat) : Int) = 4100 := (by decide); omega)) d_19_19_169 ?_
                obtain ⟨a237, e238⟩ := q_nm (t1_0 lx115.toNatClampNeg : Int32)
                refine q_ti (v := a237) e238 ?_
                refine q_goi V (q_runS (As := [.int a237]) (rest := [.int x3, .ref (q 123)]) (d := 1) (mc := 0) (ms := 0) C0 V rfl LS_WR_95 (X_WR_digit l D g q w120  a237 hI   _) rfl hl.1 rfl (Nat.le_of_ble_eq_true rfl) ⟨by decide, by decide⟩ ⟨Nat.le_of_ble_eq_true rfl, Nat.le_of_ble_eq_true rfl⟩ d_19_19_170) (fun a241 u239 H locs hp240 V => ?_)
                obtain ⟨rfl, b242, b243, hE244⟩ := hp240
                have e245 : a241 = (F_WR_digit a237) := hE244
                clear b242
                clear b243
                refine q_gov V (q_runS (As := [.ref (q 123), .int x3, .int a241]) (rest := []) (d := 2) (mc := 0) (ms := 0) C0 V rfl LS_WR_99 (X_WR_grow l D g q w120 123 264 (n_r123 g q) x3 a241 hI lx116 hO125  _) rfl hl.1 rfl (Nat.le_of_ble_eq_true rfl) ⟨by decide, by decide⟩ ⟨Nat.le_of_ble_eq_true rfl, Nat.le_of_ble_eq_true rfl⟩ d_19_19_173) (fun u246 H locs hp247 V => ?_)
                obtain ⟨hI, hu251, f248, hA249, hE250⟩ := hp247
                replace hA249 : u246[123]? = (some (q 123, .inl (g 0, (264 : Int32).toNatClampNeg, .inl f248)) : Option (Nat × va_E)) := hA249
                have e252 : f248 = (F_WR_grow (264 : Int32) x3 a241 lx116) := hE250
                replace hO121 := (hu251 _ (by decide)).trans hO121
                replace hO122 := (hu251 _ (by decide)).trans hO122
                replace hO123 := (hu251 _ (by decide)).trans hO123
                replace hO124 := (hu251 _ (by decide)).trans hO124
                replace hF := q_uc hF hu251 (by simp)
                refine lv_aload_n hx hb d_19_19_176 rfl (lv_at hl 1 rfl) ?_
                refine q_get (ci := 13) (j := 6) (v := .ref (q 123)) C0 V i_WR rfl rfl hO121 (by decide) w_1930 rfl d_19_19_177 ?_
                refine q_goi V (q_runS (As := [.ref (q 123)]) (rest := []) (d := 1) (mc := 0) (ms := 0) C0 V rfl LS_WR_59 (X_WR_size l D g q u246 123 264 (n_r123 g q)  hI f248 hA249  _) rfl hl.1 rfl (Nat.le_of_ble_eq_true rfl) ⟨by decide, by decide⟩ ⟨Nat.le_of_ble_eq_true rfl, Nat.le_of_ble_eq_true rfl⟩ d_19_19_180) (fun a255 u253 H locs hp254 V => ?_)
                obtain ⟨rfl, b256, b257, hE258⟩ := hp254
                have e259 : a255 = (F_WR_size (264 : Int32) f248) := hE258
                clear b256
                clear b257
                refine lv_sipush (v := 128) hx hb d_19_19_183 (by decide) ?_
                refine lv_icmp_le (tgt := 195) hx hb d_19_19_186 (by decide) (fun c260 => ?_) (fun c260 => ?_)
                ·
                  obtain ⟨a262, e263⟩ := q_nm (lx115 + 1 : Int32)
                  have b264 : q_F (a262.toInt = lx115.toInt + 1) := (by rw [← e263]; exact q_addI (y := 1) rfl (by decide) (by have _ := q_lo32 (x := lx115); have _ := q_hi32 (x := lx115); have t1 : lx115.toInt < t0_2.toInt := b236; have _ := q_lo32 (x := t0_2); have _ := q_hi32 (x := t0_2); omega) (by have _ := q_lo32 (x := lx115); have _ := q_hi32 (x := lx115); have t1 : lx115.toInt < t0_2.toInt := b236; have _ := q_lo32 (x := t0_2); have _ := q_hi32 (x := t0_2); omega))
                  refine lv_iinc (v := a262) (lv' := [(4, .int a262), (0, .ref (q 119)), (1, .int x2), (2, .int x3)]) hx hb d_19_19_195 hl (k := 0) rfl (e263) (by decide) rfl (fun ls hl => ?_)
                  refine lv_goto (tgt := 149) hx hb d_19_19_198 (by decide) ?_
                  exact ih119 ((a262 : Int32), (f248 : (Nat → Int32))) _ _ _ _ (show (4100 - a262.toInt).toNat < (4100 - lx115.toInt).toNat from by have t1 : a262.toInt = lx115.toInt + 1 := b264; have t2 : 0 ≤ t0_2.toInt ∧ t0_2.toInt ≤ 4100 := btt0_2; have t3 : lx115.toInt ≤ t0_2.toInt := i118; have t4 : lx115.toInt < t0_2.toInt := b236; omega) ⟨(show q_F (lx51.toInt ≤ a262.toInt) from (show lx51.toInt ≤ a262.toInt from by have t1 : lx51.toInt ≤ lx115.toInt := i117; have t2 : a262.toInt = lx115.toInt + 1 := b264; omega)), (show q_F (a262.toInt ≤ t0_2.toInt) from (show a262.toInt ≤ t0_2.toInt from by have t1 : lx115.toInt < t0_2.toInt := b236; have t2 : a262.toInt = lx115.toInt + 1 := b264; omega)), V, q_lw hl (q_lw1 0 rfl (q_lw1 1 rfl (q_lw1 2 rfl (q_lw1 3 rfl q_lw0)))), hI, hF, hO121, hO122, hO123, hO124, hA249, ⟨fm130, Nat.lt_of_lt_of_le (show (4100 - a262.toInt).toNat < (4100 - lx115.toInt).toNat from by have t1 : a262.toInt = lx115.toInt + 1 := b264; have t2 : 0 ≤ t0_2.toInt ∧ t0_2.toInt ≤ 4100 := btt0_2; have t3 : lx115.toInt ≤ t0_2.toInt := i118; have t4 : lx115.toInt < t0_2.toInt := b236; omega) (Nat.le_of_lt_succ hf129), (show F_WR_read_L149 (F_WR_read_L90 x2 x3 t0_0 t0_1 t0_2 t0_3 t0_4 t0_5 t0_6 t1_0 t2_0 t3_0 t4_0 lx33 lx51 lx66 fm102) x2 x3 t0_0 t0_1 t0_2 t0_3 t0_4 t0_5 t0_6 t1_0 t2_0 t3_0 t4_0 lx33 lx51 lx66 lx85 lx86 fm130 a262 f248 = (F_WR_read x2 x3 t0_0 t0_1 t0_2 t0_3 t0_4 t0_5 t0_6 t1_0 t2_0 t3_0 t4_0) from Eq.trans (by have c260x := c260; rw [e259, e252, e245, ← e238] at c260x; rw [← e263, e252, e245, ← e238, F_WR_read_L149.eq_2, if_neg c131, if_pos c260x]) hR126), (show True ∧ S_WR_read_L149 (S_WR_read_L90 x2 x3 t0_0 t0_1 t0_2 t0_3 t0_4 t0_5 t0_6 t1_0 t2_0 t3_0 t4_0 lx33 lx51 lx66 fm102) x2 x3 t0_0 t0_1 t0_2 t0_3 t0_4 t0_5 t0_6 t1_0 t2_0 t3_0 t4_0 lx33 lx51 lx66 lx85 lx86 fm130 a262 f248 from (by rw [← e263, e252, e245, ← e238]; have h := hS127; rw [S_WR_read_L149.eq_2] at h; rw [if_neg c131] at h; have c260x := c260; rw [e259, e252, e245, ← e238] at c260x; rw [if_pos c260x] at h; with_reducible exact h))⟩⟩
                ·
                  refine lv_aload_n hx hb d_19_19_189 rfl (lv_at hl 1 rfl) ?_
                  refine lv_iconst (v := 3) hx hb d_19_19_190 (by decide) ?_
                  refine q_put (ci := 13) (j := 0) (v := .int 3) (ty := .int) C0 V i_WR o_WR n_WR rfl rfl hO121 (by decide) w_1921 rfl rfl rfl rfl (Nat.le_of_ble_eq_true rfl) d_19_19_191 (fun H locs w266 hu267 hO121 V => ?_)
                  replace hO121 : w266[119]? = (some (q 119, .inr (13, [.int 3, .int t0_1, .ref (q 120), .int t0_2, .ref (q 121), .ref (q 122), .ref (q 123), .int t0_3, .ref (q 124), .ref (q 125), .ref (q 126), .ref (q 127), .ref (q 128), .ref (q 129), .ref (q 130), .ref (q 131), .int t0_4, .int t0_5, .ref (q 132), .ref (q 133), .int t0_6])) : Option (Nat × va_E)) := hO121
                  replace hI := n_p119 hI hu267 hO121 (by first | with_reducible exact q_fe btt0_2 | exact ⟨(by have t1 : 0 ≤ t0_2.toInt ∧ t0_2.toInt ≤ 4100 := btt0_2; omega), (by have t1 : 0 ≤ t0_2.toInt ∧ t0_2.toInt ≤ 4100 := btt0_2; omega)⟩) (by first | with_reducible exact q_fe btt0_3 | exact ⟨(by have t1 : 0 ≤ t0_3.toInt ∧ t0_3.toInt ≤ 1 := btt0_3; omega), (by have t1 : 0 ≤ t0_3.toInt ∧ t0_3.toInt ≤ 1 := btt0_3; omega)⟩) (by first | with_reducible exact q_fe btt0_4 | exact ⟨(by have t1 : 0 ≤ t0_4.toInt ∧ t0_4.toInt ≤ 1 := btt0_4; omega), (by have t1 : 0 ≤ t0_4.toInt ∧ t0_4.toInt ≤ 1 := btt0_4; omega)⟩) (by first | with_reducible exact q_fe btt0_5 | exact ⟨(by have t1 : 0 ≤ t0_5.toInt ∧ t0_5.toInt ≤ 1 := btt0_5; omega), (by have t1 : 0 ≤ t0_5.toInt ∧ t0_5.toInt ≤ 1 := btt0_5; omega)⟩) (by first | with_reducible exact q_fe btt0_6 | exact ⟨(by have t1 : 0 ≤ t0_6.toInt ∧ t0_6.toInt ≤ 2100 := btt0_6; omega), (by have t1 : 0 ≤ t0_6.toInt ∧ t0_6.toInt ≤ 2100 := btt0_6; omega)⟩)
                  replace hO123 := (hu267 _ (by decide)).trans hO123
                  replace hO124 := (hu267 _ (by decide)).trans hO124
                  replace hA249 := (hu267 _ (by decide)).trans hA249
                  replace hF := q_us hF hu267 (by simp)
                  exact q_retv C0 V (⟨hI, hF, 3, t0_1, t0_2, t0_3, t0_4, t0_5, t0_6, t2_0, t3_0, f248, hO121, hO123, hO124, hA249, (show 0 ≤ t0_2.toInt from (by have z13 : (3 : Int32).toInt = 3 := rfl; have t1 : 0 ≤ t0_2.toInt ∧ t0_2.toInt ≤ 4100 := btt0_2; omega)), (show 0 ≤ t0_3.toInt from (by have z13 : (3 : Int32).toInt = 3 := rfl; have t1 : 0 ≤ t0_3.toInt ∧ t0_3.toInt ≤ 1 := btt0_3; omega)), (show t0_3.toInt ≤ 1 from (by have z13 : (3 : Int32).toInt = 3 := rfl; have t1 : 0 ≤ t0_3.toInt ∧ t0_3.toInt ≤ 1 := btt0_3; omega)), (show t0_1.toInt ≤ t0_1.toInt from (by have z13 : (3 : Int32).toInt = 3 := rfl; omega)), (show t0_1.toInt ≤ t0_1.toInt from (by have z13 : (3 : Int32).toInt = 3 := rfl; omega)), (show t0_2.toInt ≤ t0_2.toInt from (by have z13 : (3 : Int32).toInt = 3 := rfl; omega)), (show t0_4.toInt ≤ t0_4.toInt from (by have z13 : (3 : Int32).toInt = 3 := rfl; omega)), (show t0_4.toInt ≤ t0_4.toInt from (by have z13 : (3 : Int32).toInt = 3 := rfl; omega)), (show t0_5.toInt ≤ t0_5.toInt from (by have z13 : (3 : Int32).toInt = 3 := rfl; omega)), (show t0_5.toInt ≤ t0_5.toInt from (by have z13 : (3 : Int32).toInt = 3 := rfl; omega)), (show t0_6.toInt ≤ t0_6.toInt from (by have z13 : (3 : Int32).toInt = 3 := rfl; omega)), (show t0_6.toInt ≤ t0_6.toInt from (by have z13 : (3 : Int32).toInt = 3 := rfl; omega)), (show ((3 : Int32), t0_1, t0_2, t0_3, t0_4, t0_5, t0_6, t2_0, t3_0, f248) = (F_WR_read x2 x3 t0_0 t0_1 t0_2 t0_3 t0_4 t0_5 t0_6 t1_0 t2_0 t3_0 t4_0) from Eq.trans (by have c260x := c260; rw [e259, e252, e245, ← e238] at c260x; rw [e252, e245, ← e238, F_WR_read_L149.eq_2, if_neg c131, if_neg c260x]) hR126)⟩) d_19_19_194
            ·
              exact q_retv C0 V (⟨hI, hF, lx86, t0_1, t0_2, t0_3, t0_4, t0_5, t0_6, t2_0, t3_0, t4_0, hO93, hO95, hO96, hO97, (show 0 ≤ t0_2.toInt from (by first | with_reducible exact (q_fe btt0_2).2 | with_reducible exact (q_fe btt0_2).1 | (have t1 : 0 ≤ t0_2.toInt ∧ t0_2.toInt ≤ 4100 := btt0_2; omega))), (show 0 ≤ t0_3.toInt from (by first | with_reducible exact (q_fe btt0_3).2 | with_reducible exact (q_fe btt0_3).1 | (have t1 : 0 ≤ t0_3.toInt ∧ t0_3.toInt ≤ 1 := btt0_3; omega))), (show t0_3.toInt ≤ 1 from (by first | with_reducible exact (q_fe btt0_3).2 | with_reducible exact (q_fe btt0_3).1 | (have t1 : 0 ≤ t0_3.toInt ∧ t0_3.toInt ≤ 1 := btt0_3; omega))), (show t0_1.toInt ≤ t0_1.toInt from (by omega)), (show t0_1.toInt ≤ t0_1.toInt from (by omega)), (show t0_2.toInt ≤ t0_2.toInt from (by omega)), (show t0_4.toInt ≤ t0_4.toInt from (by omega)), (show t0_4.toInt ≤ t0_4.toInt from (by omega)), (show t0_5.toInt ≤ t0_5.toInt from (by omega)), (show t0_5.toInt ≤ t0_5.toInt from (by omega)), (show t0_6.toInt ≤ t0_6.toInt from (by omega)), (show t0_6.toInt ≤ t0_6.toInt from (by omega)), (show (lx86, t0_1, t0_2, t0_3, t0_4, t0_5, t0_6, t2_0, t3_0, t4_0) = (F_WR_read x2 x3 t0_0 t0_1 t0_2 t0_3 t0_4 t0_5 t0_6 t1_0 t2_0 t3_0 t4_0) from Eq.trans (by rw [F_WR_read_L90.eq_2, if_pos c103, if_neg c105]) hR98)⟩) d_19_19_138
          ·
            have b269 : q_F (lx85.toInt < t0_2.toInt) := (q_nleI c103)
            refine lv_aload_n hx hb d_19_19_99 rfl (lv_at hl 2 rfl) ?_
            refine lv_aload_n hx hb d_19_19_100 rfl (lv_at hl 2 rfl) ?_
            refine q_get (ci := 13) (j := 2) (v := .ref (q 120)) C0 V i_WR rfl rfl hO93 (by decide) w_1924 rfl d_19_19_101 ?_
            refine lv_iload hx hb d_19_19_104 (lv_at hl 0 rfl) ?_
            refine q_iald C0 V hO94 (q_ix (x := lx85.toInt) rfl (by have t1 : 0 ≤ lx33.toInt := i40; have t2 : lx33.toInt ≤ lx51.toInt := i58; have t3 : lx66.toInt ≤ lx86.toInt := i89; have t4 : lx86.toInt + 2 * lx51.toInt ≤ 2 * lx85.toInt + lx66.toInt := i90; omega) (by have t1 : 0 ≤ lx33.toInt := i40; have t2 : lx33.toInt ≤ lx51.toInt := i58; have t3 : lx66.toInt ≤ lx86.toInt := i89; have t4 : lx86.toInt + 2 * lx51.toInt ≤ 2 * lx85.toInt + lx66.toInt := i90; have t5 : 0 ≤ t0_2.toInt ∧ t0_2.toInt ≤ 4100 := btt0_2; have t6 : lx85.toInt < t0_2.toInt := b269; have e9 : (((4100 : Int32).toNatClampNeg : Nat) : Int) = 4100 := (by decide); omega)) d_19_19_106 ?_
            obtain ⟨a270, e271⟩ := q_nm (t1_0 lx85.toNatClampNeg : Int32)
            refine q_ti (v := a270) e271 ?_
            refine q_goi V (q_runS (As := [.int a270]) (rest := [.ref (q 119)]) (d := 1) (mc := 0) (ms := 0) C0 V rfl LS_WR_95 (X_WR_digit l D g q w92  a270 hI   _) rfl hl.1 rfl (Nat.le_of_ble_eq_true rfl) ⟨by decide, by decide⟩ ⟨Nat.le_of_ble_eq_true rfl, Nat.le_of_ble_eq_true rfl⟩ d_19_19_107) (fun a274 u272 H locs hp273 V => ?_)
            obtain ⟨rfl, b275, b276, hE277⟩ := hp273
            have e278 : a274 = (F_WR_digit a270) := hE277
            clear b275
            clear b276
            refine lv_iload_n hx hb d_19_19_110 rfl (lv_at hl 4 rfl) ?_
            refine lv_icmp_lt (tgt := 118) hx hb d_19_19_111 (by decide) (fun c279 => ?_) (fun c279 => ?_)
            ·
              refine lv_aload_n hx hb d_19_19_118 rfl (lv_at hl 2 rfl) ?_
              refine q_get (ci := 13) (j := 0) (v := .int lx86) C0 V i_WR rfl rfl hO93 (by decide) w_1921 rfl d_19_19_119 ?_
              refine q_put (ci := 13) (j := 0) (v := .int lx86) (ty := .int) C0 V i_WR o_WR n_WR rfl rfl hO93 (by decide) w_1921 rfl rfl rfl rfl (Nat.le_of_ble_eq_true rfl) d_19_19_122 (fun H locs w281 hu282 hO93 V => ?_)
              replace hO93 : w281[119]? = (some (q 119, .inr (13, [.int lx86, .int t0_1, .ref (q 120), .int t0_2, .ref (q 121), .ref (q 122), .ref (q 123), .int t0_3, .ref (q 124), .ref (q 125), .ref (q 126), .ref (q 127), .ref (q 128), .ref (q 129), .ref (q 130), .ref (q 131), .int t0_4, .int t0_5, .ref (q 132), .ref (q 133), .int t0_6])) : Option (Nat × va_E)) := hO93
              replace hI := n_p119 hI hu282 hO93 (by first | with_reducible exact q_fe btt0_2 | exact ⟨(by have t1 : 0 ≤ t0_2.toInt ∧ t0_2.toInt ≤ 4100 := btt0_2; omega), (by have t1 : 0 ≤ t0_2.toInt ∧ t0_2.toInt ≤ 4100 := btt0_2; omega)⟩) (by first | with_reducible exact q_fe btt0_3 | exact ⟨(by have t1 : 0 ≤ t0_3.toInt ∧ t0_3.toInt ≤ 1 := btt0_3; omega), (by have t1 : 0 ≤ t0_3.toInt ∧ t0_3.toInt ≤ 1 := btt0_3; omega)⟩) (by first | with_reducible exact q_fe btt0_4 | exact ⟨(by have t1 : 0 ≤ t0_4.toInt ∧ t0_4.toInt ≤ 1 := btt0_4; omega), (by have t1 : 0 ≤ t0_4.toInt ∧ t0_4.toInt ≤ 1 := btt0_4; omega)⟩) (by first | with_reducible exact q_fe btt0_5 | exact ⟨(by have t1 : 0 ≤ t0_5.toInt ∧ t0_5.toInt ≤ 1 := btt0_5; omega), (by have t1 : 0 ≤ t0_5.toInt ∧ t0_5.toInt ≤ 1 := btt0_5; omega)⟩) (by first | with_reducible exact q_fe btt0_6 | exact ⟨(by have t1 : 0 ≤ t0_6.toInt ∧ t0_6.toInt ≤ 2100 := btt0_6; omega), (by have t1 : 0 ≤ t0_6.toInt ∧ t0_6.toInt ≤ 2100 := btt0_6; omega)⟩)
              replace hO94 := (hu282 _ (by decide)).trans hO94
              replace hO95 := (hu282 _ (by decide)).trans hO95
              replace hO96 := (hu282 _ (by decide)).trans hO96
              replace hO97 := (hu282 _ (by decide)).trans hO97
              replace hF := q_us hF hu282 (by simp)
              obtain ⟨a283, e284⟩ := q_nm (lx85 + 1 : Int32)
              have b285 : q_F (a283.toInt = lx85.toInt + 1) := (by rw [← e284]; exact q_addI (y := 1) rfl (by decide) (by have _ := q_lo32 (x := lx85); have _ := q_hi32 (x := lx85); have t1 : lx85.toInt < t0_2.toInt := b269; have _ := q_lo32 (x := t0_2); have _ := q_hi32 (x := t0_2); omega) (by have _ := q_lo32 (x := lx85); have _ := q_hi32 (x := lx85); have t1 : lx85.toInt < t0_2.toInt := b269; have _ := q_lo32 (x := t0_2); have _ := q_hi32 (x := t0_2); omega))
              refine lv_iinc (v := a283) (lv' := [(4, .int a283), (3, .int lx51), (0, .ref (q 119)), (1, .int x2), (2, .int x3)]) hx hb d_19_19_125 hl (k := 0) rfl (e284) (by decide) rfl (fun ls hl => ?_)
              refine lv_goto (tgt := 90) hx hb d_19_19_128 (by decide) ?_
              exact ih91 ((a283 : Int32), (lx86 : Int32)) _ _ _ _ (show (4100 - a283.toInt).toNat < (4100 - lx85.toInt).toNat from by have t1 : a283.toInt = lx85.toInt + 1 := b285; have t2 : 0 ≤ t0_2.toInt ∧ t0_2.toInt ≤ 4100 := btt0_2; have t3 : lx85.toInt ≤ t0_2.toInt := i88; have t4 : lx85.toInt < t0_2.toInt := b269; omega) ⟨(show q_F (lx86.toInt ≤ 2) from (show lx86.toInt ≤ 2 from by have t1 : lx86.toInt ≤ 2 := i87; omega)), (show q_F (a283.toInt ≤ t0_2.toInt) from (show a283.toInt ≤ t0_2.toInt from by have t1 : lx85.toInt < t0_2.toInt := b269; have t2 : a283.toInt = lx85.toInt + 1 := b285; omega)), (show q_F (lx66.toInt ≤ lx86.toInt) from (show lx66.toInt ≤ lx86.toInt from by have t1 : lx66.toInt ≤ lx86.toInt := i89; omega)), (show q_F (lx86.toInt + 2 * lx51.toInt ≤ 2 * a283.toInt + lx66.toInt) from (show lx86.toInt + 2 * lx51.toInt ≤ 2 * a283.toInt + lx66.toInt from by have t1 : lx86.toInt + 2 * lx51.toInt ≤ 2 * lx85.toInt + lx66.toInt := i90; have t2 : a283.toInt = lx85.toInt + 1 := b285; omega)), V, q_lw hl (q_lw1 0 rfl (q_lw1 1 rfl (q_lw1 2 rfl (q_lw1 3 rfl (q_lw1 4 rfl q_lw0))))), hI, hF, hO93, hO94, hO95, hO96, hO97, ⟨fm102, Nat.lt_of_lt_of_le (show (4100 - a283.toInt).toNat < (4100 - lx85.toInt).toNat from by have t1 : a283.toInt = lx85.toInt + 1 := b285; have t2 : 0 ≤ t0_2.toInt ∧ t0_2.toInt ≤ 4100 := btt0_2; have t3 : lx85.toInt ≤ t0_2.toInt := i88; have t4 : lx85.toInt < t0_2.toInt := b269; omega) (Nat.le_of_lt_succ hf101), (show F_WR_read_L90 x2 x3 t0_0 t0_1 t0_2 t0_3 t0_4 t0_5 t0_6 t1_0 t2_0 t3_0 t4_0 lx33 lx51 lx66 fm102 a283 lx86 = (F_WR_read x2 x3 t0_0 t0_1 t0_2 t0_3 t0_4 t0_5 t0_6 t1_0 t2_0 t3_0 t4_0) from Eq.trans (by have c279x := c279; rw [e278, ← e271] at c279x; rw [← e284, F_WR_read_L90.eq_2, if_neg c103, if_pos c279x]) hR98), (show True ∧ S_WR_read_L90 x2 x3 t0_0 t0_1 t0_2 t0_3 t0_4 t0_5 t0_6 t1_0 t2_0 t3_0 t4_0 lx33 lx51 lx66 fm102 a283 lx86 from (by rw [← e284]; have h := hS99; rw [S_WR_read_L90.eq_2] at h; rw [if_neg c103] at h; have c279x := c279; rw [e278, ← e271] at c279x; rw [if_pos c279x] at h; with_reducible exact h))⟩⟩
            ·
              refine lv_iconst (v := 2) hx hb d_19_19_114 (by decide) ?_
              refine lv_goto (tgt := 122) hx hb d_19_19_115 (by decide) ?_
              refine q_put (ci := 13) (j := 0) (v := .int 2) (ty := .int) C0 V i_WR o_WR n_WR rfl rfl hO93 (by decide) w_1921 rfl rfl rfl rfl (Nat.le_of_ble_eq_true rfl) d_19_19_122 (fun H locs w287 hu288 hO93 V => ?_)
              replace hO93 : w287[119]? = (some (q 119, .inr (13, [.int 2, .int t0_1, .ref (q 120), .int t0_2, .ref (q 121), .ref (q 122), .ref (q 123), .int t0_3, .ref (q 124), .ref (q 125), .ref (q 126), .ref (q 127), .ref (q 128), .ref (q 129), .ref (q 130), .ref (q 131), .int t0_4, .int t0_5, .ref (q 132), .ref (q 133), .int t0_6])) : Option (Nat × va_E)) := hO93
              replace hI := n_p119 hI hu288 hO93 (by first | with_reducible exact q_fe btt0_2 | exact ⟨(by have t1 : 0 ≤ t0_2.toInt ∧ t0_2.toInt ≤ 4100 := btt0_2; omega), (by have t1 : 0 ≤ t0_2.toInt ∧ t0_2.toInt ≤ 4100 := btt0_2; omega)⟩) (by first | with_reducible exact q_fe btt0_3 | exact ⟨(by have t1 : 0 ≤ t0_3.toInt ∧ t0_3.toInt ≤ 1 := btt0_3; omega), (by have t1 : 0 ≤ t0_3.toInt ∧ t0_3.toInt ≤ 1 := btt0_3; omega)⟩) (by first | with_reducible exact q_fe btt0_4 | exact ⟨(by have t1 : 0 ≤ t0_4.toInt ∧ t0_4.toInt ≤ 1 := btt0_4; omega), (by have t1 : 0 ≤ t0_4.toInt ∧ t0_4.toInt ≤ 1 := btt0_4; omega)⟩) (by first | with_reducible exact q_fe btt0_5 | exact ⟨(by have t1 : 0 ≤ t0_5.toInt ∧ t0_5.toInt ≤ 1 := btt0_5; omega), (by have t1 : 0 ≤ t0_5.toInt ∧ t0_5.toInt ≤ 1 := btt0_5; omega)⟩) (by first | with_reducible exact q_fe btt0_6 | exact ⟨(by have t1 : 0 ≤ t0_6.toInt ∧ t0_6.toInt ≤ 2100 := btt0_6; omega), (by have t1 : 0 ≤ t0_6.toInt ∧ t0_6.toInt ≤ 2100 := btt0_6; omega)⟩)
              replace hO94 := (hu288 _ (by decide)).trans hO94
              replace hO95 := (hu288 _ (by decide)).trans hO95
              replace hO96 := (hu288 _ (by decide)).trans hO96
              replace hO97 := (hu288 _ (by decide)).trans hO97
              replace hF := q_us hF hu288 (by simp)
              obtain ⟨a289, e290⟩ := q_nm (lx85 + 1 : Int32)
              have b291 : q_F (a289.toInt = lx85.toInt + 1) := (by rw [← e290]; exact q_addI (y := 1) rfl (by decide) (by have _ := q_lo32 (x := lx85); have _ := q_hi32 (x := lx85); have t1 : lx85.toInt < t0_2.toInt := b269; have _ := q_lo32 (x := t0_2); have _ := q_hi32 (x := t0_2); omega) (by have _ := q_lo32 (x := lx85); have _ := q_hi32 (x := lx85); have t1 : lx85.toInt < t0_2.toInt := b269; have _ := q_lo32 (x := t0_2); have _ := q_hi32 (x := t0_2); omega))
              refine lv_iinc (v := a289) (lv' := [(4, .int a289), (3, .int lx51), (0, .ref (q 119)), (1, .int x2), (2, .int x3)]) hx hb d_19_19_125 hl (k := 0) rfl (e290) (by decide) rfl (fun ls hl => ?_)
              refine lv_goto (tgt := 90) hx hb d_19_19_128 (by decide) ?_
              exact ih91 ((a289 : Int32), (2 : Int32)) _ _ _ _ (show (4100 - a289.toInt).toNat < (4100 - lx85.toInt).toNat from by have t1 : a289.toInt = lx85.toInt + 1 := b291; have t2 : 0 ≤ t0_2.toInt ∧ t0_2.toInt ≤ 4100 := btt0_2; have t3 : lx85.toInt ≤ t0_2.toInt := i88; have t4 : lx85.toInt < t0_2.toInt := b269; omega) ⟨(show q_F (2 ≤ 2) from (show 2 ≤ 2 from by omega)), (show q_F (a289.toInt ≤ t0_2.toInt) from (show a289.toInt ≤ t0_2.toInt from by have t1 : lx85.toInt < t0_2.toInt := b269; have t2 : a289.toInt = lx85.toInt + 1 := b291; omega)), (show q_F (lx66.toInt ≤ 2) from (show lx66.toInt ≤ 2 from by have t1 : lx33.toInt ≤ 0 := b50; have t2 : lx66.toInt ≤ lx33.toInt + 2 := i74; omega)), (show q_F (2 + 2 * lx51.toInt ≤ 2 * a289.toInt + lx66.toInt) from (show 2 + 2 * lx51.toInt ≤ 2 * a289.toInt + lx66.toInt from by have t1 : 0 ≤ lx33.toInt := i40; have t2 : lx33.toInt ≤ lx66.toInt := i73; have t3 : lx66.toInt ≤ lx86.toInt := i89; have t4 : lx86.toInt + 2 * lx51.toInt ≤ 2 * lx85.toInt + lx66.toInt := i90; have t5 : a289.toInt = lx85.toInt + 1 := b291; omega)), V, q_lw hl (q_lw1 0 rfl (q_lw1 1 rfl (q_lw1 2 rfl (q_lw1 3 rfl (q_lw1 4 rfl q_lw0))))), hI, hF, hO93, hO94, hO95, hO96, hO97, ⟨fm102, Nat.lt_of_lt_of_le (show (4100 - a289.toInt).toNat < (4100 - lx85.toInt).toNat from by have t1 : a289.toInt = lx85.toInt + 1 := b291; have t2 : 0 ≤ t0_2.toInt ∧ t0_2.toInt ≤ 4100 := btt0_2; have t3 : lx85.toInt ≤ t0_2.toInt := i88; have t4 : lx85.toInt < t0_2.toInt := b269; omega) (Nat.le_of_lt_succ hf101), (show F_WR_read_L90 x2 x3 t0_0 t0_1 t0_2 t0_3 t0_4 t0_5 t0_6 t1_0 t2_0 t3_0 t4_0 lx33 lx51 lx66 fm102 a289 2 = (F_WR_read x2 x3 t0_0 t0_1 t0_2 t0_3 t0_4 t0_5 t0_6 t1_0 t2_0 t3_0 t4_0) from Eq.trans (by have c279x := c279; rw [e278, ← e271] at c279x; rw [← e290, F_WR_read_L90.eq_2, if_neg c103, if_neg c279x]) hR98), (show True ∧ S_WR_read_L90 x2 x3 t0_0 t0_1 t0_2 t0_3 t0_4 t0_5 t0_6 t1_0 t2_0 t3_0 t4_0 lx33 lx51 lx66 fm102 a289 2 from (by rw [← e290]; have h := hS99; rw [S_WR_read_L90.eq_2] at h; rw [if_neg c103] at h; have c279x := c279; rw [e278, ← e271] at c279x; rw [if_neg c279x] at h; with_reducible exact h))⟩⟩
        ·
          intro J72
          refine lv_icmp_ne (tgt := 83) hx hb d_19_19_76 (by decide) (fun c292 => ?_) (fun c292 => ?_)
          ·
            refine lv_iconst (v := 0) hx hb d_19_19_83 (by decide) ?_
            exact J72 ((0 : Int32)) _ _ _ w47 ⟨(show q_F (lx33.toInt ≤ 0) from (show lx33.toInt ≤ 0 from by have t1 : lx33.toInt ≤ 0 := b50; omega)), (show q_F (0 ≤ lx33.toInt + 2) from (show 0 ≤ lx33.toInt + 2 from by have t1 : 0 ≤ lx33.toInt := i40; omega)), V, q_lw hl (q_lw1 0 rfl (q_lw1 1 rfl (q_lw1 2 rfl (q_lw1 3 rfl q_lw0)))), (show F_WR_read_J84 x2 x3 t0_0 t0_1 t0_2 t0_3 t0_4 t0_5 t0_6 t1_0 t2_0 t3_0 t4_0 lx33 lx51 0 = (F_WR_read x2 x3 t0_0 t0_1 t0_2 t0_3 t0_4 t0_5 t0_6 t1_0 t2_0 t3_0 t4_0) from Eq.trans (by rw [F_WR_read_J69.eq_1, if_neg c292]) hR61), (show True ∧ S_WR_read_J84 x2 x3 t0_0 t0_1 t0_2 t0_3 t0_4 t0_5 t0_6 t1_0 t2_0 t3_0 t4_0 lx33 lx51 0 from (by have h := hS62; rw [S_WR_read_J69.eq_1] at h; rw [if_neg c292] at h; with_reducible exact h))⟩
          ·
            refine lv_iconst (v := 2) hx hb d_19_19_79 (by decide) ?_
            refine lv_goto (tgt := 84) hx hb d_19_19_80 (by decide) ?_
            exact J72 ((2 : Int32)) _ _ _ w47 ⟨(show q_F (lx33.toInt ≤ 2) from (show lx33.toInt ≤ 2 from by have t1 : lx33.toInt ≤ 1 := i41; omega)), (show q_F (2 ≤ lx33.toInt + 2) from (show 2 ≤ lx33.toInt + 2 from by have t1 : 0 ≤ lx33.toInt := i40; omega)), V, q_lw hl (q_lw1 0 rfl (q_lw1 1 rfl (q_lw1 2 rfl (q_lw1 3 rfl q_lw0)))), (show F_WR_read_J84 x2 x3 t0_0 t0_1 t0_2 t0_3 t0_4 t0_5 t0_6 t1_0 t2_0 t3_0 t4_0 lx33 lx51 2 = (F_WR_read x2 x3 t0_0 t0_1 t0_2 t0_3 t0_4 t0_5 t0_6 t1_0 t2_0 t3_0 t4_0) from Eq.trans (by rw [F_WR_read_J69.eq_1, if_pos c292]) hR61), (show True ∧ S_WR_read_J84 x2 x3 t0_0 t0_1 t0_2 t0_3 t0_4 t0_5 t0_6 t1_0 t2_0 t3_0 t4_0 lx33 lx51 2 from (by have h := hS62; rw [S_WR_read_J69.eq_1] at h; rw [if_pos c292] at h; with_reducible exact h))⟩
      ·
        intro J57
        refine q_join (X := Unit) (fun z H locs ls _ => q_Wd D g (va_A ws sz) s w47 H locs ∧ lv_has ls 5 [(0, .ref (q 119)), (1, .int x2), (2, .int x3)] ∧ F_WR_read_J68 x2 x3 t0_0 t0_1 t0_2 t0_3 t0_4 t0_5 t0_6 t1_0 t2_0 t3_0 t4_0 lx33 = (F_WR_read x2 x3 t0_0 t0_1 t0_2 t0_3 t0_4 t0_5 t0_6 t1_0 t2_0 t3_0 t4_0) ∧ True ∧ S_WR_read_J68 x2 x3 t0_0 t0_1 t0_2 t0_3 t0_4 t0_5 t0_6 t1_0 t2_0 t3_0 t4_0 lx33) (fun z => []) 68 0 0 ?_ ?_
        ·
          rintro _ H locs ls _ ⟨V, hl, hR301, hS302⟩
          replace hl : lv_has ls 5 [(0, .ref (q 119)), (1, .int x2), (2, .int x3)] := hl
          refine lv_iconst (v := 0) hx hb d_19_19_68 (by decide) ?_
          exact J57 ((0 : Int32)) _ _ _ w47 ⟨(show q_F (lx33.toInt ≤ 0) from (show lx33.toInt ≤ 0 from by have t1 : lx33.toInt ≤ 0 := b50; omega)), (show q_F (0 ≤ lx33.toInt + 1) from (show 0 ≤ lx33.toInt + 1 from by have t1 : 0 ≤ lx33.toInt := i40; omega)), (show q_F (0 ≤ t0_2.toInt) from (show 0 ≤ t0_2.toInt from by have t1 : 0 ≤ t0_2.toInt ∧ t0_2.toInt ≤ 4100 := btt0_2; omega)), V, q_lw hl (q_lw1 0 rfl (q_lw1 1 rfl (q_lw1 2 rfl q_lw0))), (show F_WR_read_J69 x2 x3 t0_0 t0_1 t0_2 t0_3 t0_4 t0_5 t0_6 t1_0 t2_0 t3_0 t4_0 lx33 0 = (F_WR_read x2 x3 t0_0 t0_1 t0_2 t0_3 t0_4 t0_5 t0_6 t1_0 t2_0 t3_0 t4_0) from Eq.trans (by rw [F_WR_read_J68.eq_1]) hR301), (show True ∧ S_WR_read_J69 x2 x3 t0_0 t0_1 t0_2 t0_3 t0_4 t0_5 t0_6 t1_0 t2_0 t3_0 t4_0 lx33 0 from (by have h := hS302; rw [S_WR_read_J68.eq_1] at h; with_reducible exact h))⟩
        ·
          intro J300
          refine lv_if_le (tgt := 68) hx hb d_19_19_39 (by decide) (fun c306 => ?_) (fun c306 => ?_)
          ·
            exact J300 (()) _ _ _ w47 ⟨V, q_lw hl (q_lw1 0 rfl (q_lw1 1 rfl (q_lw1 2 rfl q_lw0))), (show F_WR_read_J68 x2 x3 t0_0 t0_1 t0_2 t0_3 t0_4 t0_5 t0_6 t1_0 t2_0 t3_0 t4_0 lx33 = (F_WR_read x2 x3 t0_0 t0_1 t0_2 t0_3 t0_4 t0_5 t0_6 t1_0 t2_0 t3_0 t4_0) from Eq.trans (by rw [F_WR_read_J24.eq_1, if_pos c49, if_pos c306]) hR42), (show True ∧ S_WR_read_J68 x2 x3 t0_0 t0_1 t0_2 t0_3 t0_4 t0_5 t0_6 t1_0 t2_0 t3_0 t4_0 lx33 from (by have h := hS43; rw [S_WR_read_J24.eq_1] at h; rw [if_pos c49] at h; rw [if_pos c306] at h; with_reducible exact h))⟩
          ·
            have b308 : q_F (0 < t0_2.toInt) := (q_nleI c306)
            refine lv_aload_n hx hb d_19_19_42 rfl (lv_at hl 0 rfl) ?_
            refine q_get (ci := 13) (j := 2) (v := .ref (q 120)) C0 V i_WR rfl rfl hT0 (by decide) w_1924 rfl d_19_19_43 ?_
            refine lv_iconst (v := 0) hx hb d_19_19_46 (by decide) ?_
            refine q_iald C0 V hT1 (q_ix (x := 0) (by decide) (by omega) (by have e9 : (((4100 : Int32).toNatClampNeg : Nat) : Int) = 4100 := (by decide); omega)) d_19_19_47 ?_
            obtain ⟨a309, e310⟩ := q_nm (t1_0 (0 : Int32).toNatClampNeg : Int32)
            refine q_ti (v := a309) e310 ?_
            refine lv_bipush (v := 43) hx hb d_19_19_48 (by decide) ?_
            refine q_join (X := Unit) (fun z H locs ls _ => q_Wd D g (va_A ws sz) s w47 H locs ∧ lv_has ls 5 [(0, .ref (q 119)), (1, .int x2), (2, .int x3)] ∧ F_WR_read_J64 x2 x3 t0_0 t0_1 t0_2 t0_3 t0_4 t0_5 t0_6 t1_0 t2_0 t3_0 t4_0 lx33 = (F_WR_read x2 x3 t0_0 t0_1 t0_2 t0_3 t0_4 t0_5 t0_6 t1_0 t2_0 t3_0 t4_0) ∧ True ∧ S_WR_read_J64 x2 x3 t0_0 t0_1 t0_2 t0_3 t0_4 t0_5 t0_6 t1_0 t2_0 t3_0 t4_0 lx33) (fun z => []) 64 0 0 ?_ ?_
            ·
              rintro _ H locs ls _ ⟨V, hl, hR317, hS318⟩
              replace hl : lv_has ls 5 [(0, .ref (q 119)), (1, .int x2), (2, .int x3)] := hl
              refine lv_iconst (v := 1) hx hb d_19_19_64 (by decide) ?_
              refine lv_goto (tgt := 69) hx hb d_19_19_65 (by decide) ?_
              exact J57 ((1 : Int32)) _ _ _ w47 ⟨(show q_F (lx33.toInt ≤ 1) from (show lx33.toInt ≤ 1 from by have t1 : lx33.toInt ≤ 1 := i41; omega)), (show q_F (1 ≤ lx33.toInt + 1) from (show 1 ≤ lx33.toInt + 1 from by have t1 : 0 ≤ lx33.toInt := i40; omega)), (show q_F (1 ≤ t0_2.toInt) from (show 1 ≤ t0_2.toInt from by have t1 : 0 < t0_2.toInt := b308; omega)), V, q_lw hl (q_lw1 0 rfl (q_lw1 1 rfl (q_lw1 2 rfl q_lw0))), (show F_WR_read_J69 x2 x3 t0_0 t0_1 t0_2 t0_3 t0_4 t0_5 t0_6 t1_0 t2_0 t3_0 t4_0 lx33 1 = (F_WR_read x2 x3 t0_0 t0_1 t0_2 t0_3 t0_4 t0_5 t0_6 t1_0 t2_0 t3_0 t4_0) from Eq.trans (by rw [F_WR_read_J64.eq_1]) hR317), (show True ∧ S_WR_read_J69 x2 x3 t0_0 t0_1 t0_2 t0_3 t0_4 t0_5 t0_6 t1_0 t2_0 t3_0 t4_0 lx33 1 from (by have h := hS318; rw [S_WR_read_J64.eq_1] at h; with_reducible exact h))⟩
            ·
              intro J316
              refine lv_icmp_eq (tgt := 64) hx hb d_19_19_50 (by decide) (fun c322 => ?_) (fun c322 => ?_)
              ·
                exact J316 (()) _ _ _ w47 ⟨V, q_lw hl (q_lw1 0 rfl (q_lw1 1 rfl (q_lw1 2 rfl q_lw0))), (show F_WR_read_J64 x2 x3 t0_0 t0_1 t0_2 t0_3 t0_4 t0_5 t0_6 t1_0 t2_0 t3_0 t4_0 lx33 = (F_WR_read x2 x3 t0_0 t0_1 t0_2 t0_3 t0_4 t0_5 t0_6 t1_0 t2_0 t3_0 t4_0) from Eq.trans (by have c322x := c322; rw [← e310] at c322x; rw [F_WR_read_J24.eq_1, if_pos c49, if_neg c306, if_pos c322x]) hR42), (show True ∧ S_WR_read_J64 x2 x3 t0_0 t0_1 t0_2 t0_3 t0_4 t0_5 t0_6 t1_0 t2_0 t3_0 t4_0 lx33 from (by have h := hS43; rw [S_WR_read_J24.eq_1] at h; rw [if_pos c49] at h; rw [if_neg c306] at h; have c322x := c322; rw [← e310] at c322x; rw [if_pos c322x] at h; with_reducible exact h))⟩
              ·
                refine lv_aload_n hx hb d_19_19_53 rfl (lv_at hl 0 rfl) ?_
                refine q_get (ci := 13) (j := 2) (v := .ref (q 120)) C0 V i_WR rfl rfl hT0 (by decide) w_1924 rfl d_19_19_54 ?_
                refine lv_iconst (v := 0) hx hb d_19_19_57 (by decide) ?_
                refine q_iald C0 V hT1 (q_ix (x := 0) (by decide) (by omega) (by have e9 : (((4100 : Int32).toNatClampNeg : Nat) : Int) = 4100 := (by decide); omega)) d_19_19_58 ?_
                obtain ⟨a325, e326⟩ := q_nm (t1_0 (0 : Int32).toNatClampNeg : Int32)
                refine q_ti (v := a325) e326 ?_
                refine lv_bipush (v := 45) hx hb d_19_19_59 (by decide) ?_
                refine lv_icmp_ne (tgt := 68) hx hb d_19_19_61 (by decide) (fun c327 => ?_) (fun c327 => ?_)
                ·
                  exact J300 (()) _ _ _ w47 ⟨V, q_lw hl (q_lw1 0 rfl (q_lw1 1 rfl (q_lw1 2 rfl q_lw0))), (show F_WR_read_J68 x2 x3 t0_0 t0_1 t0_2 t0_3 t0_4 t0_5 t0_6 t1_0 t2_0 t3_0 t4_0 lx33 = (F_WR_read x2 x3 t0_0 t0_1 t0_2 t0_3 t0_4 t0_5 t0_6 t1_0 t2_0 t3_0 t4_0) from Eq.trans (by have c322x := c322; rw [← e310] at c322x; have c327x := c327; rw [← e326] at c327x; rw [F_WR_read_J24.eq_1, if_pos c49, if_neg c306, if_neg c322x, if_neg c327x]) hR42), (show True ∧ S_WR_read_J68 x2 x3 t0_0 t0_1 t0_2 t0_3 t0_4 t0_5 t0_6 t1_0 t2_0 t3_0 t4_0 lx33 from (by have h := hS43; rw [S_WR_read_J24.eq_1] at h; rw [if_pos c49] at h; rw [if_neg c306] at h; have c322x := c322; rw [← e310] at c322x; rw [if_neg c322x] at h; have c327x := c327; rw [← e326] at c327x; rw [if_neg c327x] at h; with_reducible exact h))⟩
                ·
                  exact J316 (()) _ _ _ w47 ⟨V, q_lw hl (q_lw1 0 rfl (q_lw1 1 rfl (q_lw1 2 rfl q_lw0))), (show F_WR_read_J64 x2 x3 t0_0 t0_1 t0_2 t0_3 t0_4 t0_5 t0_6 t1_0 t2_0 t3_0 t4_0 lx33 = (F_WR_read x2 x3 t0_0 t0_1 t0_2 t0_3 t0_4 t0_5 t0_6 t1_0 t2_0 t3_0 t4_0) from Eq.trans (by have c322x := c322; rw [← e310] at c322x; have c327x := c327; rw [← e326] at c327x; rw [F_WR_read_J24.eq_1, if_pos c49, if_neg c306, if_neg c322x, if_pos c327x]) hR42), (show True ∧ S_WR_read_J64 x2 x3 t0_0 t0_1 t0_2 t0_3 t0_4 t0_5 t0_6 t1_0 t2_0 t3_0 t4_0 lx33 from (by have h := hS43; rw [S_WR_read_J24.eq_1] at h; rw [if_pos c49] at h; rw [if_neg c306] at h; have c322x := c322; rw [← e310] at c322x; rw [if_neg c322x] at h; have c327x := c327; rw [← e326] at c327x; rw [if_pos c327x] at h; with_reducible exact h))⟩
    ·
      exact q_retv C0 V (⟨hI, hF, lx33, t0_1, t0_2, t0_3, t0_4, t0_5, t0_6, t2_0, t3_0, t4_0, hT0, hT2, hT3, hT4, (show 0 ≤ t0_2.toInt from (by first | with_reducible exact (q_fe btt0_2).2 | with_reducible exact (q_fe btt0_2).1 | (have t1 : 0 ≤ t0_2.toInt ∧ t0_2.toInt ≤ 4100 := btt0_2; omega))), (show 0 ≤ t0_3.toInt from (by first | with_reducible exact (q_fe btt0_3).2 | with_reducible exact (q_fe btt0_3).1 | (have t1 : 0 ≤ t0_3.toInt ∧ t0_3.toInt ≤ 1 := btt0_3; omega))), (show t0_3.toInt ≤ 1 from (by first | with_reducible exact (q_fe btt0_3).2 | with_reducible exact (q_fe btt0_3).1 | (have t1 : 0 ≤ t0_3.toInt ∧ t0_3.toInt ≤ 1 := btt0_3; omega))), (show t0_1.toInt ≤ t0_1.toInt from (by omega)), (show t0_1.toInt ≤ t0_1.toInt from (by omega)), (show t0_2.toInt ≤ t0_2.toInt from (by omega)), (show t0_4.toInt ≤ t0_4.toInt from (by omega)), (show t0_4.toInt ≤ t0_4.toInt from (by omega)), (show t0_5.toInt ≤ t0_5.toInt from (by omega)), (show t0_5.toInt ≤ t0_5.toInt from (by omega)), (show t0_6.toInt ≤ t0_6.toInt from (by omega)), (show t0_6.toInt ≤ t0_6.toInt from (by omega)), (show (lx33, t0_1, t0_2, t0_3, t0_4, t0_5, t0_6, t2_0, t3_0, t4_0) = (F_WR_read x2 x3 t0_0 t0_1 t0_2 t0_3 t0_4 t0_5 t0_6 t1_0 t2_0 t3_0 t4_0) from Eq.trans (by rw [F_WR_read_J24.eq_1, if_neg c49]) hR42)⟩) d_19_19_34
  ·
    intro J39
    refine q_join (X := Unit) (fun z H locs ls _ => q_Wd D g (va_A ws sz) s ws H locs ∧ lv_has ls 5 [(0, .ref (q 119)), (1, .int x2), (2, .int x3)] ∧ F_WR_read_J19 x2 x3 t0_0 t0_1 t0_2 t0_3 t0_4 t0_5 t0_6 t1_0 t2_0 t3_0 t4_0 = (F_WR_read x2 x3 t0_0 t0_1 t0_2 t0_3 t0_4 t0_5 t0_6 t1_0 t2_0 t3_0 t4_0) ∧ True ∧ S_WR_read_J19 x2 x3 t0_0 t0_1 t0_2 t0_3 t0_4 t0_5 t0_6 t1_0 t2_0 t3_0 t4_0) (fun z => [.ref (q 119)]) 19 0 0 ?_ ?_
    ·
      rintro _ H locs ls _ ⟨V, hl, hR337, hS338⟩
      replace hl : lv_has ls 5 [(0, .ref (q 119)), (1, .int x2), (2, .int x3)] := hl
      refine lv_iconst (v := 1) hx hb d_19_19_19 (by decide) ?_
      refine lv_goto (tgt := 24) hx hb d_19_19_20 (by decide) ?_
      exact J39 ((1 : Int32)) _ _ _ ws ⟨(show q_F (0 ≤ 1) from (show 0 ≤ 1 from by omega)), (show q_F (1 ≤ 1) from (show 1 ≤ 1 from by omega)), V, q_lw hl (q_lw1 0 rfl (q_lw1 1 rfl (q_lw1 2 rfl q_lw0))), (show F_WR_read_J24 x2 x3 t0_0 t0_1 t0_2 t0_3 t0_4 t0_5 t0_6 t1_0 t2_0 t3_0 t4_0 1 = (F_WR_read x2 x3 t0_0 t0_1 t0_2 t0_3 t0_4 t0_5 t0_6 t1_0 t2_0 t3_0 t4_0) from Eq.trans (by rw [F_WR_read_J19.eq_1]) hR337), (show True ∧ S_WR_read_J24 x2 x3 t0_0 t0_1 t0_2 t0_3 t0_4 t0_5 t0_6 t1_0 t2_0 t3_0 t4_0 1 from (by have h := hS338; rw [S_WR_read_J19.eq_1] at h; with_reducible exact h))⟩
    ·
      intro J336
      refine lv_if_ne (tgt := 19) hx hb d_19_19_5 (by decide) (fun c342 => ?_) (fun c342 => ?_)
      ·
        exact J336 (()) _ _ _ ws ⟨V, q_lw hl (q_lw1 0 rfl (q_lw1 1 rfl (q_lw1 2 rfl q_lw0))), (show F_WR_read_J19 x2 x3 t0_0 t0_1 t0_2 t0_3 t0_4 t0_5 t0_6 t1_0 t2_0 t3_0 t4_0 = (F_WR_read x2 x3 t0_0 t0_1 t0_2 t0_3 t0_4 t0_5 t0_6 t1_0 t2_0 t3_0 t4_0) from (by have c342x := c342; rw [e32] at c342x; rw [F_WR_read.eq_1, if_neg c342x])), (show True ∧ S_WR_read_J19 x2 x3 t0_0 t0_1 t0_2 t0_3 t0_4 t0_5 t0_6 t1_0 t2_0 t3_0 t4_0 from (by have h := hS; rw [S_WR_read.eq_1] at h; have c342x := c342; rw [e32] at c342x; rw [if_neg c342x] at h; with_reducible exact h))⟩
      ·
        refine lv_iload_n hx hb d_19_19_8 rfl (lv_at hl 2 rfl) ?_
        refine lv_iconst (v := 2) hx hb d_19_19_9 (by decide) ?_
        refine lv_icmp_lt (tgt := 19) hx hb d_19_19_10 (by decide) (fun c345 => ?_) (fun c345 => ?_)
        ·
          exact J336 (()) _ _ _ ws ⟨V, q_lw hl (q_lw1 0 rfl (q_lw1 1 rfl (q_lw1 2 rfl q_lw0))), (show F_WR_read_J19 x2 x3 t0_0 t0_1 t0_2 t0_3 t0_4 t0_5 t0_6 t1_0 t2_0 t3_0 t4_0 = (F_WR_read x2 x3 t0_0 t0_1 t0_2 t0_3 t0_4 t0_5 t0_6 t1_0 t2_0 t3_0 t4_0) from (by have c342x := c342; rw [e32] at c342x; rw [F_WR_read.eq_1, if_pos c342x, if_pos c345])), (show True ∧ S_WR_read_J19 x2 x3 t0_0 t0_1 t0_2 t0_3 t0_4 t0_5 t0_6 t1_0 t2_0 t3_0 t4_0 from (by have h := hS; rw [S_WR_read.eq_1] at h; have c342x := c342; rw [e32] at c342x; rw [if_pos c342x] at h; rw [if_pos c345] at h; with_reducible exact h))⟩
        ·
          refine lv_iload_n hx hb d_19_19_13 rfl (lv_at hl 2 rfl) ?_
          refine lv_bipush (v := 36) hx hb d_19_19_14 (by decide) ?_
          refine lv_icmp_le (tgt := 23) hx hb d_19_19_16 (by decide) (fun c348 => ?_) (fun c348 => ?_)
          ·
            refine lv_iconst (v := 0) hx hb d_19_19_23 (by decide) ?_
            exact J39 ((0 : Int32)) _ _ _ ws ⟨(show q_F (0 ≤ 0) from (show 0 ≤ 0 from by omega)), (show q_F (0 ≤ 1) from (show 0 ≤ 1 from by omega)), V, q_lw hl (q_lw1 0 rfl (q_lw1 1 rfl (q_lw1 2 rfl q_lw0))), (show F_WR_read_J24 x2 x3 t0_0 t0_1 t0_2 t0_3 t0_4 t0_5 t0_6 t1_0 t2_0 t3_0 t4_0 0 = (F_WR_read x2 x3 t0_0 t0_1 t0_2 t0_3 t0_4 t0_5 t0_6 t1_0 t2_0 t3_0 t4_0) from (by have c342x := c342; rw [e32] at c342x; rw [F_WR_read.eq_1, if_pos c342x, if_neg c345, if_pos c348])), (show True ∧ S_WR_read_J24 x2 x3 t0_0 t0_1 t0_2 t0_3 t0_4 t0_5 t0_6 t1_0 t2_0 t3_0 t4_0 0 from (by have h := hS; rw [S_WR_read.eq_1] at h; have c342x := c342; rw [e32] at c342x; rw [if_pos c342x] at h; rw [if_neg c345] at h; rw [if_pos c348] at h; with_reducible exact h))⟩
          ·
            exact J336 (()) _ _ _ ws ⟨V, q_lw hl (q_lw1 0 rfl (q_lw1 1 rfl (q_lw1 2 rfl q_lw0))), (show F_WR_read_J19 x2 x3 t0_0 t0_1 t0_2 t0_3 t0_4 t0_5 t0_6 t1_0 t2_0 t3_0 t4_0 = (F_WR_read x2 x3 t0_0 t0_1 t0_2 t0_3 t0_4 t0_5 t0_6 t1_0 t2_0 t3_0 t4_0) from (by have c342x := c342; rw [e32] at c342x; rw [F_WR_read.eq_1, if_pos c342x, if_neg c345, if_neg c348])), (show True ∧ S_WR_read_J19 x2 x3 t0_0 t0_1 t0_2 t0_3 t0_4 t0_5 t0_6 t1_0 t2_0 t3_0 t4_0 from (by have h := hS; rw [S_WR_read.eq_1] at h; have c342x := c342; rw [e32] at c342x; rw [if_pos c342x] at h; rw [if_neg c345] at h; rw [if_neg c348] at h; with_reducible exact h))⟩

