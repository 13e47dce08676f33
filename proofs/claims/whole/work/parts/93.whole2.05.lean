theorem d_19_33_0 : decode prog_19_method_33_code 0 = .ok (.aload_n 0, 1) := by decide +kernel
theorem d_19_33_1 : decode prog_19_method_33_code 1 = .ok (.getfield 47, 3) := by decide +kernel
theorem d_19_33_4 : decode prog_19_method_33_code 4 = .ok (.aload_n 0, 1) := by decide +kernel
theorem d_19_33_5 : decode prog_19_method_33_code 5 = .ok (.getfield 38, 3) := by decide +kernel
theorem d_19_33_8 : decode prog_19_method_33_code 8 = .ok (.invokestatic 67, 3) := by decide +kernel
theorem d_19_33_11 : decode prog_19_method_33_code 11 = .ok (.aload_n 0, 1) := by decide +kernel
theorem d_19_33_12 : decode prog_19_method_33_code 12 = .ok (.aload_n 0, 1) := by decide +kernel
theorem d_19_33_13 : decode prog_19_method_33_code 13 = .ok (.getfield 41, 3) := by decide +kernel
theorem d_19_33_16 : decode prog_19_method_33_code 16 = .ok (.invokevirtual 131, 3) := by decide +kernel
set_option maxRecDepth 100000 in
theorem w_2739 : (Cond.code ({ cls := "NumberHouseModel$WholeRows", name := "setOne", desc := "([I)V" } : MethodName) prog_19_method_28_code (2 : Nat) (none : Option ClassFile.FieldType)) ∈ q_tbl := q_of12 99 rfl (by decide +kernel)
set_option maxRecDepth 100000 in
theorem w_2736 : (Cond.methodLink "NumberHouseModel$WholeRows" (131 : Nat) ({ cls := "NumberHouseModel$WholeRows", name := "setOne", desc := "([I)V" } : MethodName)) ∈ q_tbl := q_of12 96 rfl (by decide +kernel)
set_option maxRecDepth 100000 in
theorem w_2738 : (Cond.instanceMethod ({ cls := "NumberHouseModel$WholeRows", name := "setOne", desc := "([I)V" } : MethodName)) ∈ q_tbl := q_of12 98 rfl (by decide +kernel)
theorem ws_108 : Cond.selects "NumberHouseModel$WholeRows" (⟨"NumberHouseModel$WholeRows", "setOne", "([I)V"⟩ : MethodName) (⟨"NumberHouseModel$WholeRows", "setOne", "([I)V"⟩ : MethodName) ∈ q_tbl := q_ofs 108 (by decide +kernel) (by decide +kernel)
theorem LV_WR_131 : q_LV "NumberHouseModel$WholeRows" 131 y_WR_setOne prog_19_method_28_code 2 none 1 := ⟨w_2739, w_15, w_2736, w_2738, ws_108, ⟨by decide, by decide, by decide +kernel⟩⟩
theorem d_19_33_19 : decode prog_19_method_33_code 19 = .ok (.aload_n 0, 1) := by decide +kernel
theorem d_19_33_20 : decode prog_19_method_33_code 20 = .ok (.getfield 44, 3) := by decide +kernel
theorem d_19_33_23 : decode prog_19_method_33_code 23 = .ok (.invokestatic 63, 3) := by decide +kernel
theorem d_19_33_26 : decode prog_19_method_33_code 26 = .ok (.aload_n 0, 1) := by decide +kernel
theorem d_19_33_27 : decode prog_19_method_33_code 27 = .ok (.iconst 0, 1) := by decide +kernel
theorem d_19_33_28 : decode prog_19_method_33_code 28 = .ok (.putfield 137, 3) := by decide +kernel
set_option maxRecDepth 100000 in
theorem w_1940 : (Cond.fieldLink "NumberHouseModel$WholeRows" (137 : Nat) "NumberHouseModel$WholeRows" "firstBelow" "Z") ∈ q_tbl := q_of9 20 rfl (by decide +kernel)
theorem d_19_33_31 : decode prog_19_method_33_code 31 = .ok (.aload_n 0, 1) := by decide +kernel
theorem d_19_33_32 : decode prog_19_method_33_code 32 = .ok (.iconst 0, 1) := by decide +kernel
theorem d_19_33_33 : decode prog_19_method_33_code 33 = .ok (.putfield 140, 3) := by decide +kernel
set_option maxRecDepth 100000 in
theorem w_1941 : (Cond.fieldLink "NumberHouseModel$WholeRows" (140 : Nat) "NumberHouseModel$WholeRows" "secondBelow" "Z") ∈ q_tbl := q_of9 21 rfl (by decide +kernel)
theorem d_19_33_36 : decode prog_19_method_33_code 36 = .ok (.aload_n 0, 1) := by decide +kernel
theorem d_19_33_37 : decode prog_19_method_33_code 37 = .ok (.getfield 38, 3) := by decide +kernel
theorem d_19_33_40 : decode prog_19_method_33_code 40 = .ok (.invokestatic 59, 3) := by decide +kernel
theorem d_19_33_43 : decode prog_19_method_33_code 43 = .ok (.ifCond .le 122, 3) := by decide +kernel
theorem d_19_33_165 : decode prog_19_method_33_code 165 = .ok (.aload_n 0, 1) := by decide +kernel
theorem d_19_33_166 : decode prog_19_method_33_code 166 = .ok (.getfield 35, 3) := by decide +kernel
theorem d_19_33_169 : decode prog_19_method_33_code 169 = .ok (.invokestatic 59, 3) := by decide +kernel
theorem d_19_33_172 : decode prog_19_method_33_code 172 = .ok (.iconst 1, 1) := by decide +kernel
theorem d_19_33_173 : decode prog_19_method_33_code 173 = .ok (.if_icmp .ne 13, 3) := by decide +kernel
theorem d_19_33_186 : decode prog_19_method_33_code 186 = .ok (.iconst 0, 1) := by decide +kernel
theorem d_19_33_187 : decode prog_19_method_33_code 187 = .ok (.ireturn, 1) := by decide +kernel
theorem d_19_33_176 : decode prog_19_method_33_code 176 = .ok (.aload_n 0, 1) := by decide +kernel
theorem d_19_33_177 : decode prog_19_method_33_code 177 = .ok (.getfield 35, 3) := by decide +kernel
theorem d_19_33_180 : decode prog_19_method_33_code 180 = .ok (.iconst 0, 1) := by decide +kernel
theorem d_19_33_181 : decode prog_19_method_33_code 181 = .ok (.iaload, 1) := by decide +kernel
theorem d_19_33_182 : decode prog_19_method_33_code 182 = .ok (.iconst 1, 1) := by decide +kernel
theorem d_19_33_183 : decode prog_19_method_33_code 183 = .ok (.if_icmp .eq 5, 3) := by decide +kernel
theorem d_19_33_188 : decode prog_19_method_33_code 188 = .ok (.aload_n 0, 1) := by decide +kernel
theorem d_19_33_189 : decode prog_19_method_33_code 189 = .ok (.aload_n 0, 1) := by decide +kernel
theorem d_19_33_190 : decode prog_19_method_33_code 190 = .ok (.getfield 41, 3) := by decide +kernel
theorem d_19_33_193 : decode prog_19_method_33_code 193 = .ok (.aload_n 0, 1) := by decide +kernel
theorem d_19_33_194 : decode prog_19_method_33_code 194 = .ok (.getfield 47, 3) := by decide +kernel
theorem d_19_33_197 : decode prog_19_method_33_code 197 = .ok (.invokevirtual 122, 3) := by decide +kernel
theorem d_19_33_200 : decode prog_19_method_33_code 200 = .ok (.aload_n 0, 1) := by decide +kernel
theorem d_19_33_201 : decode prog_19_method_33_code 201 = .ok (.getfield 29, 3) := by decide +kernel
theorem d_19_33_204 : decode prog_19_method_33_code 204 = .ok (.aload_n 0, 1) := by decide +kernel
theorem d_19_33_205 : decode prog_19_method_33_code 205 = .ok (.getfield 35, 3) := by decide +kernel
theorem d_19_33_208 : decode prog_19_method_33_code 208 = .ok (.invokestatic 67, 3) := by decide +kernel
theorem d_19_33_211 : decode prog_19_method_33_code 211 = .ok (.aload_n 0, 1) := by decide +kernel
theorem d_19_33_212 : decode prog_19_method_33_code 212 = .ok (.getfield 137, 3) := by decide +kernel
theorem d_19_33_215 : decode prog_19_method_33_code 215 = .ok (.ifCond .eq 55, 3) := by decide +kernel
theorem d_19_33_270 : decode prog_19_method_33_code 270 = .ok (.iconst 1, 1) := by decide +kernel
theorem d_19_33_271 : decode prog_19_method_33_code 271 = .ok (.ireturn, 1) := by decide +kernel
theorem d_19_33_218 : decode prog_19_method_33_code 218 = .ok (.aload_n 0, 1) := by decide +kernel
theorem d_19_33_219 : decode prog_19_method_33_code 219 = .ok (.getfield 35, 3) := by decide +kernel
theorem d_19_33_222 : decode prog_19_method_33_code 222 = .ok (.invokestatic 59, 3) := by decide +kernel
theorem d_19_33_225 : decode prog_19_method_33_code 225 = .ok (.ifCond .le 45, 3) := by decide +kernel
theorem d_19_33_228 : decode prog_19_method_33_code 228 = .ok (.aload_n 0, 1) := by decide +kernel
theorem d_19_33_229 : decode prog_19_method_33_code 229 = .ok (.getfield 47, 3) := by decide +kernel
theorem d_19_33_232 : decode prog_19_method_33_code 232 = .ok (.aload_n 0, 1) := by decide +kernel
theorem d_19_33_233 : decode prog_19_method_33_code 233 = .ok (.getfield 20, 3) := by decide +kernel
theorem d_19_33_236 : decode prog_19_method_33_code 236 = .ok (.invokestatic 67, 3) := by decide +kernel
theorem d_19_33_239 : decode prog_19_method_33_code 239 = .ok (.aload_n 0, 1) := by decide +kernel
theorem d_19_33_240 : decode prog_19_method_33_code 240 = .ok (.getfield 20, 3) := by decide +kernel
theorem d_19_33_243 : decode prog_19_method_33_code 243 = .ok (.aload_n 0, 1) := by decide +kernel
theorem d_19_33_244 : decode prog_19_method_33_code 244 = .ok (.getfield 35, 3) := by decide +kernel
theorem d_19_33_247 : decode prog_19_method_33_code 247 = .ok (.aload_n 0, 1) := by decide +kernel
theorem d_19_33_248 : decode prog_19_method_33_code 248 = .ok (.getfield 35, 3) := by decide +kernel
theorem d_19_33_251 : decode prog_19_method_33_code 251 = .ok (.invokestatic 59, 3) := by decide +kernel
theorem d_19_33_254 : decode prog_19_method_33_code 254 = .ok (.lconst 1, 1) := by decide +kernel
theorem d_19_33_255 : decode prog_19_method_33_code 255 = .ok (.iconst 1, 1) := by decide +kernel
theorem d_19_33_256 : decode prog_19_method_33_code 256 = .ok (.invokestatic 75, 3) := by decide +kernel
theorem d_19_33_259 : decode prog_19_method_33_code 259 = .ok (.aload_n 0, 1) := by decide +kernel
theorem d_19_33_260 : decode prog_19_method_33_code 260 = .ok (.getfield 20, 3) := by decide +kernel
theorem d_19_33_263 : decode prog_19_method_33_code 263 = .ok (.aload_n 0, 1) := by decide +kernel
theorem d_19_33_264 : decode prog_19_method_33_code 264 = .ok (.getfield 35, 3) := by decide +kernel
theorem d_19_33_267 : decode prog_19_method_33_code 267 = .ok (.invokestatic 67, 3) := by decide +kernel
theorem d_19_33_46 : decode prog_19_method_33_code 46 = .ok (.aload_n 0, 1) := by decide +kernel
theorem d_19_33_47 : decode prog_19_method_33_code 47 = .ok (.aload_n 0, 1) := by decide +kernel
theorem d_19_33_48 : decode prog_19_method_33_code 48 = .ok (.getfield 35, 3) := by decide +kernel
theorem d_19_33_51 : decode prog_19_method_33_code 51 = .ok (.aload_n 0, 1) := by decide +kernel
theorem d_19_33_52 : decode prog_19_method_33_code 52 = .ok (.getfield 38, 3) := by decide +kernel
theorem d_19_33_55 : decode prog_19_method_33_code 55 = .ok (.invokevirtual 122, 3) := by decide +kernel
theorem d_19_33_58 : decode prog_19_method_33_code 58 = .ok (.aload_n 0, 1) := by decide +kernel
theorem d_19_33_59 : decode prog_19_method_33_code 59 = .ok (.getfield 38, 3) := by decide +kernel
theorem d_19_33_62 : decode prog_19_method_33_code 62 = .ok (.aload_n 0, 1) := by decide +kernel
theorem d_19_33_63 : decode prog_19_method_33_code 63 = .ok (.getfield 35, 3) := by decide +kernel
theorem d_19_33_66 : decode prog_19_method_33_code 66 = .ok (.invokestatic 67, 3) := by decide +kernel
theorem d_19_33_69 : decode prog_19_method_33_code 69 = .ok (.aload_n 0, 1) := by decide +kernel
theorem d_19_33_70 : decode prog_19_method_33_code 70 = .ok (.getfield 29, 3) := by decide +kernel
theorem d_19_33_73 : decode prog_19_method_33_code 73 = .ok (.aload_n 0, 1) := by decide +kernel
theorem d_19_33_74 : decode prog_19_method_33_code 74 = .ok (.getfield 38, 3) := by decide +kernel
theorem d_19_33_77 : decode prog_19_method_33_code 77 = .ok (.invokestatic 67, 3) := by decide +kernel
theorem d_19_33_80 : decode prog_19_method_33_code 80 = .ok (.aload_n 0, 1) := by decide +kernel
theorem d_19_33_81 : decode prog_19_method_33_code 81 = .ok (.aload_n 0, 1) := by decide +kernel
theorem d_19_33_82 : decode prog_19_method_33_code 82 = .ok (.getfield 32, 3) := by decide +kernel
theorem d_19_33_85 : decode prog_19_method_33_code 85 = .ok (.aload_n 0, 1) := by decide +kernel
theorem d_19_33_86 : decode prog_19_method_33_code 86 = .ok (.getfield 44, 3) := by decide +kernel
theorem d_19_33_89 : decode prog_19_method_33_code 89 = .ok (.aload_n 0, 1) := by decide +kernel
theorem d_19_33_90 : decode prog_19_method_33_code 90 = .ok (.getfield 23, 3) := by decide +kernel
theorem d_19_33_93 : decode prog_19_method_33_code 93 = .ok (.invokevirtual 115, 3) := by decide +kernel
theorem d_19_33_96 : decode prog_19_method_33_code 96 = .ok (.aload_n 0, 1) := by decide +kernel
theorem d_19_33_97 : decode prog_19_method_33_code 97 = .ok (.aload_n 0, 1) := by decide +kernel
theorem d_19_33_98 : decode prog_19_method_33_code 98 = .ok (.getfield 41, 3) := by decide +kernel
theorem d_19_33_101 : decode prog_19_method_33_code 101 = .ok (.aload_n 0, 1) := by decide +kernel
theorem d_19_33_102 : decode prog_19_method_33_code 102 = .ok (.getfield 137, 3) := by decide +kernel
theorem d_19_33_105 : decode prog_19_method_33_code 105 = .ok (.aload_n 0, 1) := by decide +kernel
theorem d_19_33_106 : decode prog_19_method_33_code 106 = .ok (.getfield 23, 3) := by decide +kernel
theorem d_19_33_109 : decode prog_19_method_33_code 109 = .ok (.aload_n 0, 1) := by decide +kernel
theorem d_19_33_110 : decode prog_19_method_33_code 110 = .ok (.getfield 140, 3) := by decide +kernel
theorem d_19_33_121 : decode prog_19_method_33_code 121 = .ok (.invokevirtual 111, 3) := by decide +kernel
theorem d_19_33_124 : decode prog_19_method_33_code 124 = .ok (.aload_n 0, 1) := by decide +kernel
theorem d_19_33_125 : decode prog_19_method_33_code 125 = .ok (.getfield 44, 3) := by decide +kernel
theorem d_19_33_128 : decode prog_19_method_33_code 128 = .ok (.aload_n 0, 1) := by decide +kernel
theorem d_19_33_129 : decode prog_19_method_33_code 129 = .ok (.getfield 41, 3) := by decide +kernel
theorem d_19_33_132 : decode prog_19_method_33_code 132 = .ok (.invokestatic 67, 3) := by decide +kernel
theorem d_19_33_135 : decode prog_19_method_33_code 135 = .ok (.aload_n 0, 1) := by decide +kernel
theorem d_19_33_136 : decode prog_19_method_33_code 136 = .ok (.aload_n 0, 1) := by decide +kernel
theorem d_19_33_137 : decode prog_19_method_33_code 137 = .ok (.getfield 140, 3) := by decide +kernel
theorem d_19_33_140 : decode prog_19_method_33_code 140 = .ok (.putfield 137, 3) := by decide +kernel
theorem d_19_33_143 : decode prog_19_method_33_code 143 = .ok (.aload_n 0, 1) := by decide +kernel
theorem d_19_33_144 : decode prog_19_method_33_code 144 = .ok (.getfield 20, 3) := by decide +kernel
theorem d_19_33_147 : decode prog_19_method_33_code 147 = .ok (.aload_n 0, 1) := by decide +kernel
theorem d_19_33_148 : decode prog_19_method_33_code 148 = .ok (.getfield 44, 3) := by decide +kernel
theorem d_19_33_151 : decode prog_19_method_33_code 151 = .ok (.invokestatic 67, 3) := by decide +kernel
theorem d_19_33_154 : decode prog_19_method_33_code 154 = .ok (.aload_n 0, 1) := by decide +kernel
theorem d_19_33_155 : decode prog_19_method_33_code 155 = .ok (.aload_n 0, 1) := by decide +kernel
theorem d_19_33_156 : decode prog_19_method_33_code 156 = .ok (.getfield 82, 3) := by decide +kernel
theorem d_19_33_159 : decode prog_19_method_33_code 159 = .ok (.putfield 140, 3) := by decide +kernel
theorem d_19_33_162 : decode prog_19_method_33_code 162 = .ok (.goto (-126), 3) := by decide +kernel
theorem d_19_33_113 : decode prog_19_method_33_code 113 = .ok (.ifCond .ne 7, 3) := by decide +kernel
theorem d_19_33_120 : decode prog_19_method_33_code 120 = .ok (.iconst 0, 1) := by decide +kernel
theorem d_19_33_116 : decode prog_19_method_33_code 116 = .ok (.iconst 1, 1) := by decide +kernel
theorem d_19_33_117 : decode prog_19_method_33_code 117 = .ok (.goto 4, 3) := by decide +kernel
def y_WR_inverts : MethodName := ⟨"NumberHouseModel$WholeRows", "inverts", "()Z"⟩
def F_WR_inverts_c197 (K_F_WR_inverts_L36 : Int32 → Int32 → Int32 → Int32 → Int32 → Int32 → Int32 → (Nat → Int32) → (Nat → Int32) → (Nat → Int32) → (Nat → Int32) → (Nat → Int32) → (Nat → Int32) → (Nat → Int32) → (Nat → Int32) → (Nat → Int32) → (Int32 × Int32 × Int32 × Int32 × Int32 × Int32 × Int32 × Int32 × (Nat → Int32) × (Nat → Int32) × (Nat → Int32) × (Nat → Int32) × (Nat → Int32) × (Nat → Int32) × (Nat → Int32) × (Nat → Int32) × (Nat → Int32))) (t0_0 : Int32) (t0_1 : Int32) (t0_2 : Int32) (t0_3 : Int32) (t0_4 : Int32) (t0_5 : Int32) (t0_6 : Int32) (t1_0 : (Nat → Int32)) (t2_0 : (Nat → Int32)) (t3_0 : (Nat → Int32)) (t4_0 : (Nat → Int32)) (t5_0 : (Nat → Int32)) (t6_0 : (Nat → Int32)) (t7_0 : (Nat → Int32)) (t8_0 : (Nat → Int32)) (t9_0 : (Nat → Int32)) (t10_0 : (Nat → Int32)) (lx70 : Int32) (lx71 : Int32) (lx72 : Int32) (lx73 : Int32) (lx74 : Int32) (lx75 : Int32) (lx76 : Int32) (lx77 : (Nat → Int32)) (lx78 : (Nat → Int32)) (lx79 : (Nat → Int32)) (lx80 : (Nat → Int32)) (lx81 : (Nat → Int32)) (lx82 : (Nat → Int32)) (lx83 : (Nat → Int32)) (lx84 : (Nat → Int32)) (lx85 : (Nat → Int32)) (p150 : ((Nat → Int32) × (Nat → Int32))) : Int32 × Int32 × Int32 × Int32 × Int32 × Int32 × Int32 × Int32 × (Nat → Int32) × (Nat → Int32) × (Nat → Int32) × (Nat → Int32) × (Nat → Int32) × (Nat → Int32) × (Nat → Int32) × (Nat → Int32) × (Nat → Int32) := if lx74 = (0 : Int32) then (((1 : Int32), lx70, lx71, lx72, lx73, lx74, lx75, lx76, lx77, lx78, lx79, (p150.1 : (Nat → Int32)), (p150.2 : (Nat → Int32)), ((F_WR_copy (264 : Int32) (264 : Int32) (p150.1 : (Nat → Int32)) lx82) : (Nat → Int32)), lx83, lx84, lx85)) else (if ((F_WR_size (264 : Int32) ((F_WR_copy (264 : Int32) (264 : Int32) (p150.1 : (Nat → Int32)) lx82) : (Nat → Int32))) : Int32) ≤ (0 : Int32) then (((1 : Int32), lx70, lx71, lx72, lx73, lx74, lx75, lx76, lx77, lx78, lx79, (p150.1 : (Nat → Int32)), (p150.2 : (Nat → Int32)), ((F_WR_copy (264 : Int32) (264 : Int32) (p150.1 : (Nat → Int32)) lx82) : (Nat → Int32)), lx83, lx84, lx85)) else (((1 : Int32), lx70, lx71, lx72, lx73, lx74, lx75, lx76, ((F_WR_join (264 : Int32) (264 : Int32) ((F_WR_size (264 : Int32) ((F_WR_copy (264 : Int32) (264 : Int32) (p150.1 : (Nat → Int32)) lx82) : (Nat → Int32))) : Int32) (1 : Int64) (1 : Int32) ((F_WR_copy (264 : Int32) (264 : Int32) t10_0 lx77) : (Nat → Int32)) ((F_WR_copy (264 : Int32) (264 : Int32) (p150.1 : (Nat → Int32)) lx82) : (Nat → Int32))) : (Nat → Int32)), lx78, lx79, (p150.1 : (Nat → Int32)), (p150.2 : (Nat → Int32)), ((F_WR_copy (264 : Int32) (264 : Int32) ((F_WR_join (264 : Int32) (264 : Int32) ((F_WR_size (264 : Int32) ((F_WR_copy (264 : Int32) (264 : Int32) (p150.1 : (Nat → Int32)) lx82) : (Nat → Int32))) : Int32) (1 : Int64) (1 : Int32) ((F_WR_copy (264 : Int32) (264 : Int32) t10_0 lx77) : (Nat → Int32)) ((F_WR_copy (264 : Int32) (264 : Int32) (p150.1 : (Nat → Int32)) lx82) : (Nat → Int32))) : (Nat → Int32)) ((F_WR_copy (264 : Int32) (264 : Int32) (p150.1 : (Nat → Int32)) lx82) : (Nat → Int32))) : (Nat → Int32)), lx83, lx84, lx85)))
def F_WR_inverts_c121 (K_F_WR_inverts_L36 : Int32 → Int32 → Int32 → Int32 → Int32 → Int32 → Int32 → (Nat → Int32) → (Nat → Int32) → (Nat → Int32) → (Nat → Int32) → (Nat → Int32) → (Nat → Int32) → (Nat → Int32) → (Nat → Int32) → (Nat → Int32) → (Int32 × Int32 × Int32 × Int32 × Int32 × Int32 × Int32 × Int32 × (Nat → Int32) × (Nat → Int32) × (Nat → Int32) × (Nat → Int32) × (Nat → Int32) × (Nat → Int32) × (Nat → Int32) × (Nat → Int32) × (Nat → Int32))) (t0_0 : Int32) (t0_1 : Int32) (t0_2 : Int32) (t0_3 : Int32) (t0_4 : Int32) (t0_5 : Int32) (t0_6 : Int32) (t1_0 : (Nat → Int32)) (t2_0 : (Nat → Int32)) (t3_0 : (Nat → Int32)) (t4_0 : (Nat → Int32)) (t5_0 : (Nat → Int32)) (t6_0 : (Nat → Int32)) (t7_0 : (Nat → Int32)) (t8_0 : (Nat → Int32)) (t9_0 : (Nat → Int32)) (t10_0 : (Nat → Int32)) (lx70 : Int32) (lx71 : Int32) (lx72 : Int32) (lx73 : Int32) (lx74 : Int32) (lx75 : Int32) (lx76 : Int32) (lx77 : (Nat → Int32)) (lx78 : (Nat → Int32)) (lx79 : (Nat → Int32)) (lx80 : (Nat → Int32)) (lx81 : (Nat → Int32)) (lx82 : (Nat → Int32)) (lx83 : (Nat → Int32)) (lx84 : (Nat → Int32)) (lx85 : (Nat → Int32)) (p219 : ((Nat → Int32) × (Nat → Int32))) (f213 : (Nat → Int32)) (f215 : (Nat → Int32)) (f230 : (Nat → Int32)) (f237 : (Nat → Int32)) (p251 : ((Nat → Int32) × (Nat → Int32))) (f247 : (Nat → Int32)) (f245 : (Nat → Int32)) (lx260 : Int32) (p309 : (Int32 × Int32 × Int32 × Int32 × Int32 × Int32 × Int32 × (Nat → Int32))) : Int32 × Int32 × Int32 × Int32 × Int32 × Int32 × Int32 × Int32 × (Nat → Int32) × (Nat → Int32) × (Nat → Int32) × (Nat → Int32) × (Nat → Int32) × (Nat → Int32) × (Nat → Int32) × (Nat → Int32) × (Nat → Int32) := K_F_WR_inverts_L36 (p309.1 : Int32) (p309.2.1 : Int32) (p309.2.2.1 : Int32) (p309.2.2.2.1 : Int32) (p309.2.2.2.2.2.1 : Int32) (p309.2.2.2.1 : Int32) (p309.2.2.2.2.2.2.1 : Int32) (p309.2.2.2.2.2.2.2 : (Nat → Int32)) f247 f245 f213 f215 f230 f237 ((F_WR_copy (264 : Int32) (264 : Int32) lx85 lx84) : (Nat → Int32)) ((F_WR_copy (264 : Int32) (264 : Int32) (p309.2.2.2.2.2.2.2 : (Nat → Int32)) lx85) : (Nat → Int32))
def F_WR_inverts_J121 (K_F_WR_inverts_L36 : Int32 → Int32 → Int32 → Int32 → Int32 → Int32 → Int32 → (Nat → Int32) → (Nat → Int32) → (Nat → Int32) → (Nat → Int32) → (Nat → Int32) → (Nat → Int32) → (Nat → Int32) → (Nat → Int32) → (Nat → Int32) → (Int32 × Int32 × Int32 × Int32 × Int32 × Int32 × Int32 × Int32 × (Nat → Int32) × (Nat → Int32) × (Nat → Int32) × (Nat → Int32) × (Nat → Int32) × (Nat → Int32) × (Nat → Int32) × (Nat → Int32) × (Nat → Int32))) (t0_0 : Int32) (t0_1 : Int32) (t0_2 : Int32) (t0_3 : Int32) (t0_4 : Int32) (t0_5 : Int32) (t0_6 : Int32) (t1_0 : (Nat → Int32)) (t2_0 : (Nat → Int32)) (t3_0 : (Nat → Int32)) (t4_0 : (Nat → Int32)) (t5_0 : (Nat → Int32)) (t6_0 : (Nat → Int32)) (t7_0 : (Nat → Int32)) (t8_0 : (Nat → Int32)) (t9_0 : (Nat → Int32)) (t10_0 : (Nat → Int32)) (lx70 : Int32) (lx71 : Int32) (lx72 : Int32) (lx73 : Int32) (lx74 : Int32) (lx75 : Int32) (lx76 : Int32) (lx77 : (Nat → Int32)) (lx78 : (Nat → Int32)) (lx79 : (Nat → Int32)) (lx80 : (Nat → Int32)) (lx81 : (Nat → Int32)) (lx82 : (Nat → Int32)) (lx83 : (Nat → Int32)) (lx84 : (Nat → Int32)) (lx85 : (Nat → Int32)) (p219 : ((Nat → Int32) × (Nat → Int32))) (f213 : (Nat → Int32)) (f215 : (Nat → Int32)) (f230 : (Nat → Int32)) (f237 : (Nat → Int32)) (p251 : ((Nat → Int32) × (Nat → Int32))) (f247 : (Nat → Int32)) (f245 : (Nat → Int32)) (lx260 : Int32) : Int32 × Int32 × Int32 × Int32 × Int32 × Int32 × Int32 × Int32 × (Nat → Int32) × (Nat → Int32) × (Nat → Int32) × (Nat → Int32) × (Nat → Int32) × (Nat → Int32) × (Nat → Int32) × (Nat → Int32) × (Nat → Int32) := F_WR_inverts_c121 K_F_WR_inverts_L36 t0_0 t0_1 t0_2 t0_3 t0_4 t0_5 t0_6 t1_0 t2_0 t3_0 t4_0 t5_0 t6_0 t7_0 t8_0 t9_0 t10_0 lx70 lx71 lx72 lx73 lx74 lx75 lx76 lx77 lx78 lx79 lx80 lx81 lx82 lx83 lx84 lx85 p219 f213 f215 f230 f237 p251 f247 f245 lx260 ((F_WR_sum (264 : Int32) lx74 (264 : Int32) lx260 lx70 lx71 lx72 lx73 lx74 lx75 lx76 lx77 lx84 f247) : (Int32 × Int32 × Int32 × Int32 × Int32 × Int32 × Int32 × (Nat → Int32)))
def F_WR_inverts_c93 (K_F_WR_inverts_L36 : Int32 → Int32 → Int32 → Int32 → Int32 → Int32 → Int32 → (Nat → Int32) → (Nat → Int32) → (Nat → Int32) → (Nat → Int32) → (Nat → Int32) → (Nat → Int32) → (Nat → Int32) → (Nat → Int32) → (Nat → Int32) → (Int32 × Int32 × Int32 × Int32 × Int32 × Int32 × Int32 × Int32 × (Nat → Int32) × (Nat → Int32) × (Nat → Int32) × (Nat → Int32) × (Nat → Int32) × (Nat → Int32) × (Nat → Int32) × (Nat → Int32) × (Nat → Int32))) (t0_0 : Int32) (t0_1 : Int32) (t0_2 : Int32) (t0_3 : Int32) (t0_4 : Int32) (t0_5 : Int32) (t0_6 : Int32) (t1_0 : (Nat → Int32)) (t2_0 : (Nat → Int32)) (t3_0 : (Nat → Int32)) (t4_0 : (Nat → Int32)) (t5_0 : (Nat → Int32)) (t6_0 : (Nat → Int32)) (t7_0 : (Nat → Int32)) (t8_0 : (Nat → Int32)) (t9_0 : (Nat → Int32)) (t10_0 : (Nat → Int32)) (lx70 : Int32) (lx71 : Int32) (lx72 : Int32) (lx73 : Int32) (lx74 : Int32) (lx75 : Int32) (lx76 : Int32) (lx77 : (Nat → Int32)) (lx78 : (Nat → Int32)) (lx79 : (Nat → Int32)) (lx80 : (Nat → Int32)) (lx81 : (Nat → Int32)) (lx82 : (Nat → Int32)) (lx83 : (Nat → Int32)) (lx84 : (Nat → Int32)) (lx85 : (Nat → Int32)) (p219 : ((Nat → Int32) × (Nat → Int32))) (f213 : (Nat → Int32)) (f215 : (Nat → Int32)) (f230 : (Nat → Int32)) (f237 : (Nat → Int32)) (p251 : ((Nat → Int32) × (Nat → Int32))) : Int32 × Int32 × Int32 × Int32 × Int32 × Int32 × Int32 × Int32 × (Nat → Int32) × (Nat → Int32) × (Nat → Int32) × (Nat → Int32) × (Nat → Int32) × (Nat → Int32) × (Nat → Int32) × (Nat → Int32) × (Nat → Int32) := if lx75 = (0 : Int32) then (F_WR_inverts_J121 K_F_WR_inverts_L36 t0_0 t0_1 t0_2 t0_3 t0_4 t0_5 t0_6 t1_0 t2_0 t3_0 t4_0 t5_0 t6_0 t7_0 t8_0 t9_0 t10_0 lx70 lx71 lx72 lx73 lx74 lx75 lx76 lx77 lx78 lx79 lx80 lx81 lx82 lx83 lx84 lx85 p219 f213 f215 f230 f237 p251 (p251.2 : (Nat → Int32)) (p251.1 : (Nat → Int32)) 1) else (F_WR_inverts_J121 K_F_WR_inverts_L36 t0_0 t0_1 t0_2 t0_3 t0_4 t0_5 t0_6 t1_0 t2_0 t3_0 t4_0 t5_0 t6_0 t7_0 t8_0 t9_0 t10_0 lx70 lx71 lx72 lx73 lx74 lx75 lx76 lx77 lx78 lx79 lx80 lx81 lx82 lx83 lx84 lx85 p219 f213 f215 f230 f237 p251 (p251.2 : (Nat → Int32)) (p251.1 : (Nat → Int32)) 0)
def F_WR_inverts_c55 (K_F_WR_inverts_L36 : Int32 → Int32 → Int32 → Int32 → Int32 → Int32 → Int32 → (Nat → Int32) → (Nat → Int32) → (Nat → Int32) → (Nat → Int32) → (Nat → Int32) → (Nat → Int32) → (Nat → Int32) → (Nat → Int32) → (Nat → Int32) → (Int32 × Int32 × Int32 × Int32 × Int32 × Int32 × Int32 × Int32 × (Nat → Int32) × (Nat → Int32) × (Nat → Int32) × (Nat → Int32) × (Nat → Int32) × (Nat → Int32) × (Nat → Int32) × (Nat → Int32) × (Nat → Int32))) (t0_0 : Int32) (t0_1 : Int32) (t0_2 : Int32) (t0_3 : Int32) (t0_4 : Int32) (t0_5 : Int32) (t0_6 : Int32) (t1_0 : (Nat → Int32)) (t2_0 : (Nat → Int32)) (t3_0 : (Nat → Int32)) (t4_0 : (Nat → Int32)) (t5_0 : (Nat → Int32)) (t6_0 : (Nat → Int32)) (t7_0 : (Nat → Int32)) (t8_0 : (Nat → Int32)) (t9_0 : (Nat → Int32)) (t10_0 : (Nat → Int32)) (lx70 : Int32) (lx71 : Int32) (lx72 : Int32) (lx73 : Int32) (lx74 : Int32) (lx75 : Int32) (lx76 : Int32) (lx77 : (Nat → Int32)) (lx78 : (Nat → Int32)) (lx79 : (Nat → Int32)) (lx80 : (Nat → Int32)) (lx81 : (Nat → Int32)) (lx82 : (Nat → Int32)) (lx83 : (Nat → Int32)) (lx84 : (Nat → Int32)) (lx85 : (Nat → Int32)) (p219 : ((Nat → Int32) × (Nat → Int32))) : Int32 × Int32 × Int32 × Int32 × Int32 × Int32 × Int32 × Int32 × (Nat → Int32) × (Nat → Int32) × (Nat → Int32) × (Nat → Int32) × (Nat → Int32) × (Nat → Int32) × (Nat → Int32) × (Nat → Int32) × (Nat → Int32) := F_WR_inverts_c93 K_F_WR_inverts_L36 t0_0 t0_1 t0_2 t0_3 t0_4 t0_5 t0_6 t1_0 t2_0 t3_0 t4_0 t5_0 t6_0 t7_0 t8_0 t9_0 t10_0 lx70 lx71 lx72 lx73 lx74 lx75 lx76 lx77 lx78 lx79 lx80 lx81 lx82 lx83 lx84 lx85 p219 (p219.1 : (Nat → Int32)) (p219.2 : (Nat → Int32)) ((F_WR_copy (264 : Int32) (264 : Int32) lx83 lx82) : (Nat → Int32)) ((F_WR_copy (264 : Int32) (264 : Int32) (p219.1 : (Nat → Int32)) lx83) : (Nat → Int32)) ((F_WR_multiplyRows (264 : Int32) (264 : Int32) (264 : Int32) lx70 lx71 lx72 lx73 lx74 lx75 lx76 lx79 (p219.2 : (Nat → Int32)) lx85 lx78) : ((Nat → Int32) × (Nat → Int32)))
def F_WR_inverts_L36 (t0_0 : Int32) (t0_1 : Int32) (t0_2 : Int32) (t0_3 : Int32) (t0_4 : Int32) (t0_5 : Int32) (t0_6 : Int32) (t1_0 : (Nat → Int32)) (t2_0 : (Nat → Int32)) (t3_0 : (Nat → Int32)) (t4_0 : (Nat → Int32)) (t5_0 : (Nat → Int32)) (t6_0 : (Nat → Int32)) (t7_0 : (Nat → Int32)) (t8_0 : (Nat → Int32)) (t9_0 : (Nat → Int32)) (t10_0 : (Nat → Int32)) : Nat → Int32 → Int32 → Int32 → Int32 → Int32 → Int32 → Int32 → (Nat → Int32) → (Nat → Int32) → (Nat → Int32) → (Nat → Int32) → (Nat → Int32) → (Nat → Int32) → (Nat → Int32) → (Nat → Int32) → (Nat → Int32) → (Int32 × Int32 × Int32 × Int32 × Int32 × Int32 × Int32 × Int32 × (Nat → Int32) × (Nat → Int32) × (Nat → Int32) × (Nat → Int32) × (Nat → Int32) × (Nat → Int32) × (Nat → Int32) × (Nat → Int32) × (Nat → Int32))
  | 0, _, _, _, _, _, _, _, _, _, _, _, _, _, _, _, _ => default
  | fm + 1, lx70, lx71, lx72, lx73, lx74, lx75, lx76, lx77, lx78, lx79, lx80, lx81, lx82, lx83, lx84, lx85 => if ((F_WR_size (264 : Int32) lx83) : Int32) ≤ (0 : Int32) then (if ((F_WR_size (264 : Int32) lx82) : Int32) = (1 : Int32) then (if (lx82 (0 : Int32).toNatClampNeg : Int32) = (1 : Int32) then (F_WR_inverts_c197 (F_WR_inverts_L36 t0_0 t0_1 t0_2 t0_3 t0_4 t0_5 t0_6 t1_0 t2_0 t3_0 t4_0 t5_0 t6_0 t7_0 t8_0 t9_0 t10_0 fm) t0_0 t0_1 t0_2 t0_3 t0_4 t0_5 t0_6 t1_0 t2_0 t3_0 t4_0 t5_0 t6_0 t7_0 t8_0 t9_0 t10_0 lx70 lx71 lx72 lx73 lx74 lx75 lx76 lx77 lx78 lx79 lx80 lx81 lx82 lx83 lx84 lx85 ((F_WR_divideRows (264 : Int32) (264 : Int32) lx70 lx71 lx72 lx73 lx74 lx75 lx76 lx80 lx81 lx84 t10_0) : ((Nat → Int32) × (Nat → Int32)))) else (((0 : Int32), lx70, lx71, lx72, lx73, lx74, lx75, lx76, lx77, lx78, lx79, lx80, lx81, lx82, lx83, lx84, lx85))) else (((0 : Int32), lx70, lx71, lx72, lx73, lx74, lx75, lx76, lx77, lx78, lx79, lx80, lx81, lx82, lx83, lx84, lx85))) else (F_WR_inverts_c55 (F_WR_inverts_L36 t0_0 t0_1 t0_2 t0_3 t0_4 t0_5 t0_6 t1_0 t2_0 t3_0 t4_0 t5_0 t6_0 t7_0 t8_0 t9_0 t10_0 fm) t0_0 t0_1 t0_2 t0_3 t0_4 t0_5 t0_6 t1_0 t2_0 t3_0 t4_0 t5_0 t6_0 t7_0 t8_0 t9_0 t10_0 lx70 lx71 lx72 lx73 lx74 lx75 lx76 lx77 lx78 lx79 lx80 lx81 lx82 lx83 lx84 lx85 ((F_WR_divideRows (264 : Int32) (264 : Int32) lx70 lx71 lx72 lx73 lx74 lx75 lx76 lx80 lx81 lx82 lx83) : ((Nat → Int32) × (Nat → Int32))))
def F_WR_inverts (t0_0 : Int32) (t0_1 : Int32) (t0_2 : Int32) (t0_3 : Int32) (t0_4 : Int32) (t0_5 : Int32) (t0_6 : Int32) (t1_0 : (Nat → Int32)) (t2_0 : (Nat → Int32)) (t3_0 : (Nat → Int32)) (t4_0 : (Nat → Int32)) (t5_0 : (Nat → Int32)) (t6_0 : (Nat → Int32)) (t7_0 : (Nat → Int32)) (t8_0 : (Nat → Int32)) (t9_0 : (Nat → Int32)) (t10_0 : (Nat → Int32)) : Int32 × Int32 × Int32 × Int32 × Int32 × Int32 × Int32 × Int32 × (Nat → Int32) × (Nat → Int32) × (Nat → Int32) × (Nat → Int32) × (Nat → Int32) × (Nat → Int32) × (Nat → Int32) × (Nat → Int32) × (Nat → Int32) := F_WR_inverts_L36 t0_0 t0_1 t0_2 t0_3 t0_4 t0_5 t0_6 t1_0 t2_0 t3_0 t4_0 t5_0 t6_0 t7_0 t8_0 t9_0 t10_0 1000000 t0_0 t0_1 t0_2 t0_3 0 0 t0_6 t1_0 t2_0 t3_0 t4_0 t5_0 t6_0 ((F_WR_copy (264 : Int32) (264 : Int32) t10_0 t7_0) : (Nat → Int32)) ((F_WR_setOne (264 : Int32) t0_0 t0_1 t0_2 t0_3 t0_4 t0_5 t0_6 t8_0) : (Nat → Int32)) ((F_WR_clear (264 : Int32) t9_0) : (Nat → Int32))
def S_WR_inverts_c197 (K_S_WR_inverts_L36 : Int32 → Int32 → Int32 → Int32 → Int32 → Int32 → Int32 → (Nat → Int32) → (Nat → Int32) → (Nat → Int32) → (Nat → Int32) → (Nat → Int32) → (Nat → Int32) → (Nat → Int32) → (Nat → Int32) → (Nat → Int32) → Prop) (t0_0 : Int32) (t0_1 : Int32) (t0_2 : Int32) (t0_3 : Int32) (t0_4 : Int32) (t0_5 : Int32) (t0_6 : Int32) (t1_0 : (Nat → Int32)) (t2_0 : (Nat → Int32)) (t3_0 : (Nat → Int32)) (t4_0 : (Nat → Int32)) (t5_0 : (Nat → Int32)) (t6_0 : (Nat → Int32)) (t7_0 : (Nat → Int32)) (t8_0 : (Nat → Int32)) (t9_0 : (Nat → Int32)) (t10_0 : (Nat → Int32)) (lx70 : Int32) (lx71 : Int32) (lx72 : Int32) (lx73 : Int32) (lx74 : Int32) (lx75 : Int32) (lx76 : Int32) (lx77 : (Nat → Int32)) (lx78 : (Nat → Int32)) (lx79 : (Nat → Int32)) (lx80 : (Nat → Int32)) (lx81 : (Nat → Int32)) (lx82 : (Nat → Int32)) (lx83 : (Nat → Int32)) (lx84 : (Nat → Int32)) (lx85 : (Nat → Int32)) (p150 : ((Nat → Int32) × (Nat → Int32))) : Prop := if lx74 = (0 : Int32) then (True) else (if ((F_WR_size (264 : Int32) ((F_WR_copy (264 : Int32) (264 : Int32) (p150.1 : (Nat → Int32)) lx82) : (Nat → Int32))) : Int32) ≤ (0 : Int32) then (True) else ((True ∧ S_WR_join (264 : Int32) (264 : Int32) ((F_WR_size (264 : Int32) ((F_WR_copy (264 : Int32) (264 : Int32) (p150.1 : (Nat → Int32)) lx82) : (Nat → Int32))) : Int32) (1 : Int64) (1 : Int32) ((F_WR_copy (264 : Int32) (264 : Int32) t10_0 lx77) : (Nat → Int32)) ((F_WR_copy (264 : Int32) (264 : Int32) (p150.1 : (Nat → Int32)) lx82) : (Nat → Int32))) ∧ (True)))
def S_WR_inverts_c121 (K_S_WR_inverts_L36 : Int32 → Int32 → Int32 → Int32 → Int32 → Int32 → Int32 → (Nat → Int32) → (Nat → Int32) → (Nat → Int32) → (Nat → Int32) → (Nat → Int32) → (Nat → Int32) → (Nat → Int32) → (Nat → Int32) → (Nat → Int32) → Prop) (t0_0 : Int32) (t0_1 : Int32) (t0_2 : Int32) (t0_3 : Int32) (t0_4 : Int32) (t0_5 : Int32) (t0_6 : Int32) (t1_0 : (Nat → Int32)) (t2_0 : (Nat → Int32)) (t3_0 : (Nat → Int32)) (t4_0 : (Nat → Int32)) (t5_0 : (Nat → Int32)) (t6_0 : (Nat → Int32)) (t7_0 : (Nat → Int32)) (t8_0 : (Nat → Int32)) (t9_0 : (Nat → Int32)) (t10_0 : (Nat → Int32)) (lx70 : Int32) (lx71 : Int32) (lx72 : Int32) (lx73 : Int32) (lx74 : Int32) (lx75 : Int32) (lx76 : Int32) (lx77 : (Nat → Int32)) (lx78 : (Nat → Int32)) (lx79 : (Nat → Int32)) (lx80 : (Nat → Int32)) (lx81 : (Nat → Int32)) (lx82 : (Nat → Int32)) (lx83 : (Nat → Int32)) (lx84 : (Nat → Int32)) (lx85 : (Nat → Int32)) (p219 : ((Nat → Int32) × (Nat → Int32))) (f213 : (Nat → Int32)) (f215 : (Nat → Int32)) (f230 : (Nat → Int32)) (f237 : (Nat → Int32)) (p251 : ((Nat → Int32) × (Nat → Int32))) (f247 : (Nat → Int32)) (f245 : (Nat → Int32)) (lx260 : Int32) (p309 : (Int32 × Int32 × Int32 × Int32 × Int32 × Int32 × Int32 × (Nat → Int32))) : Prop := K_S_WR_inverts_L36 (p309.1 : Int32) (p309.2.1 : Int32) (p309.2.2.1 : Int32) (p309.2.2.2.1 : Int32) (p309.2.2.2.2.2.1 : Int32) (p309.2.2.2.1 : Int32) (p309.2.2.2.2.2.2.1 : Int32) (p309.2.2.2.2.2.2.2 : (Nat → Int32)) f247 f245 f213 f215 f230 f237 ((F_WR_copy (264 : Int32) (264 : Int32) lx85 lx84) : (Nat → Int32)) ((F_WR_copy (264 : Int32) (264 : Int32) (p309.2.2.2.2.2.2.2 : (Nat → Int32)) lx85) : (Nat → Int32))
def S_WR_inverts_J121 (K_S_WR_inverts_L36 : Int32 → Int32 → Int32 → Int32 → Int32 → Int32 → Int32 → (Nat → Int32) → (Nat → Int32) → (Nat → Int32) → (Nat → Int32) → (Nat → Int32) → (Nat → Int32) → (Nat → Int32) → (Nat → Int32) → (Nat → Int32) → Prop) (t0_0 : Int32) (t0_1 : Int32) (t0_2 : Int32) (t0_3 : Int32) (t0_4 : Int32) (t0_5 : Int32) (t0_6 : Int32) (t1_0 : (Nat → Int32)) (t2_0 : (Nat → Int32)) (t3_0 : (Nat → Int32)) (t4_0 : (Nat → Int32)) (t5_0 : (Nat → Int32)) (t6_0 : (Nat → Int32)) (t7_0 : (Nat → Int32)) (t8_0 : (Nat → Int32)) (t9_0 : (Nat → Int32)) (t10_0 : (Nat → Int32)) (lx70 : Int32) (lx71 : Int32) (lx72 : Int32) (lx73 : Int32) (lx74 : Int32) (lx75 : Int32) (lx76 : Int32) (lx77 : (Nat → Int32)) (lx78 : (Nat → Int32)) (lx79 : (Nat → Int32)) (lx80 : (Nat → Int32)) (lx81 : (Nat → Int32)) (lx82 : (Nat → Int32)) (lx83 : (Nat → Int32)) (lx84 : (Nat → Int32)) (lx85 : (Nat → Int32)) (p219 : ((Nat → Int32) × (Nat → Int32))) (f213 : (Nat → Int32)) (f215 : (Nat → Int32)) (f230 : (Nat → Int32)) (f237 : (Nat → Int32)) (p251 : ((Nat → Int32) × (Nat → Int32))) (f247 : (Nat → Int32)) (f245 : (Nat → Int32)) (lx260 : Int32) : Prop := (True ∧ S_WR_sum (264 : Int32) lx74 (264 : Int32) lx260 lx70 lx71 lx72 lx73 lx74 lx75 lx76 lx77 lx84 f247) ∧ (S_WR_inverts_c121 K_S_WR_inverts_L36 t0_0 t0_1 t0_2 t0_3 t0_4 t0_5 t0_6 t1_0 t2_0 t3_0 t4_0 t5_0 t6_0 t7_0 t8_0 t9_0 t10_0 lx70 lx71 lx72 lx73 lx74 lx75 lx76 lx77 lx78 lx79 lx80 lx81 lx82 lx83 lx84 lx85 p219 f213 f215 f230 f237 p251 f247 f245 lx260 ((F_WR_sum (264 : Int32) lx74 (264 : Int32) lx260 lx70 lx71 lx72 lx73 lx74 lx75 lx76 lx77 lx84 f247) : (Int32 × Int32 × Int32 × Int32 × Int32 × Int32 × Int32 × (Nat → Int32))))
def S_WR_inverts_c93 (K_S_WR_inverts_L36 : Int32 → Int32 → Int32 → Int32 → Int32 → Int32 → Int32 → (Nat → Int32) → (Nat → Int32) → (Nat → Int32) → (Nat → Int32) → (Nat → Int32) → (Nat → Int32) → (Nat → Int32) → (Nat → Int32) → (Nat → Int32) → Prop) (t0_0 : Int32) (t0_1 : Int32) (t0_2 : Int32) (t0_3 : Int32) (t0_4 : Int32) (t0_5 : Int32) (t0_6 : Int32) (t1_0 : (Nat → Int32)) (t2_0 : (Nat → Int32)) (t3_0 : (Nat → Int32)) (t4_0 : (Nat → Int32)) (t5_0 : (Nat → Int32)) (t6_0 : (Nat → Int32)) (t7_0 : (Nat → Int32)) (t8_0 : (Nat → Int32)) (t9_0 : (Nat → Int32)) (t10_0 : (Nat → Int32)) (lx70 : Int32) (lx71 : Int32) (lx72 : Int32) (lx73 : Int32) (lx74 : Int32) (lx75 : Int32) (lx76 : Int32) (lx77 : (Nat → Int32)) (lx78 : (Nat → Int32)) (lx79 : (Nat → Int32)) (lx80 : (Nat → Int32)) (lx81 : (Nat → Int32)) (lx82 : (Nat → Int32)) (lx83 : (Nat → Int32)) (lx84 : (Nat → Int32)) (lx85 : (Nat → Int32)) (p219 : ((Nat → Int32) × (Nat → Int32))) (f213 : (Nat → Int32)) (f215 : (Nat → Int32)) (f230 : (Nat → Int32)) (f237 : (Nat → Int32)) (p251 : ((Nat → Int32) × (Nat → Int32))) : Prop := if lx75 = (0 : Int32) then (S_WR_inverts_J121 K_S_WR_inverts_L36 t0_0 t0_1 t0_2 t0_3 t0_4 t0_5 t0_6 t1_0 t2_0 t3_0 t4_0 t5_0 t6_0 t7_0 t8_0 t9_0 t10_0 lx70 lx71 lx72 lx73 lx74 lx75 lx76 lx77 lx78 lx79 lx80 lx81 lx82 lx83 lx84 lx85 p219 f213 f215 f230 f237 p251 (p251.2 : (Nat → Int32)) (p251.1 : (Nat → Int32)) 1) else (S_WR_inverts_J121 K_S_WR_inverts_L36 t0_0 t0_1 t0_2 t0_3 t0_4 t0_5 t0_6 t1_0 t2_0 t3_0 t4_0 t5_0 t6_0 t7_0 t8_0 t9_0 t10_0 lx70 lx71 lx72 lx73 lx74 lx75 lx76 lx77 lx78 lx79 lx80 lx81 lx82 lx83 lx84 lx85 p219 f213 f215 f230 f237 p251 (p251.2 : (Nat → Int32)) (p251.1 : (Nat → Int32)) 0)
def S_WR_inverts_c55 (K_S_WR_inverts_L36 : Int32 → Int32 → Int32 → Int32 → Int32 → Int32 → Int32 → (Nat → Int32) → (Nat → Int32) → (Nat → Int32) → (Nat → Int32) → (Nat → Int32) → (Nat → Int32) → (Nat → Int32) → (Nat → Int32) → (Nat → Int32) → Prop) (t0_0 : Int32) (t0_1 : Int32) (t0_2 : Int32) (t0_3 : Int32) (t0_4 : Int32) (t0_5 : Int32) (t0_6 : Int32) (t1_0 : (Nat → Int32)) (t2_0 : (Nat → Int32)) (t3_0 : (Nat → Int32)) (t4_0 : (Nat → Int32)) (t5_0 : (Nat → Int32)) (t6_0 : (Nat → Int32)) (t7_0 : (Nat → Int32)) (t8_0 : (Nat → Int32)) (t9_0 : (Nat → Int32)) (t10_0 : (Nat → Int32)) (lx70 : Int32) (lx71 : Int32) (lx72 : Int32) (lx73 : Int32) (lx74 : Int32) (lx75 : Int32) (lx76 : Int32) (lx77 : (Nat → Int32)) (lx78 : (Nat → Int32)) (lx79 : (Nat → Int32)) (lx80 : (Nat → Int32)) (lx81 : (Nat → Int32)) (lx82 : (Nat → Int32)) (lx83 : (Nat → Int32)) (lx84 : (Nat → Int32)) (lx85 : (Nat → Int32)) (p219 : ((Nat → Int32) × (Nat → Int32))) : Prop := (True ∧ S_WR_multiplyRows (264 : Int32) (264 : Int32) (264 : Int32) lx70 lx71 lx72 lx73 lx74 lx75 lx76 lx79 (p219.2 : (Nat → Int32)) lx85 lx78) ∧ (S_WR_inverts_c93 K_S_WR_inverts_L36 t0_0 t0_1 t0_2 t0_3 t0_4 t0_5 t0_6 t1_0 t2_0 t3_0 t4_0 t5_0 t6_0 t7_0 t8_0 t9_0 t10_0 lx70 lx71 lx72 lx73 lx74 lx75 lx76 lx77 lx78 lx79 lx80 lx81 lx82 lx83 lx84 lx85 p219 (p219.1 : (Nat → Int32)) (p219.2 : (Nat → Int32)) ((F_WR_copy (264 : Int32) (264 : Int32) lx83 lx82) : (Nat → Int32)) ((F_WR_copy (264 : Int32) (264 : Int32) (p219.1 : (Nat → Int32)) lx83) : (Nat → Int32)) ((F_WR_multiplyRows (264 : Int32) (264 : Int32) (264 : Int32) lx70 lx71 lx72 lx73 lx74 lx75 lx76 lx79 (p219.2 : (Nat → Int32)) lx85 lx78) : ((Nat → Int32) × (Nat → Int32))))
def S_WR_inverts_L36 (t0_0 : Int32) (t0_1 : Int32) (t0_2 : Int32) (t0_3 : Int32) (t0_4 : Int32) (t0_5 : Int32) (t0_6 : Int32) (t1_0 : (Nat → Int32)) (t2_0 : (Nat → Int32)) (t3_0 : (Nat → Int32)) (t4_0 : (Nat → Int32)) (t5_0 : (Nat → Int32)) (t6_0 : (Nat → Int32)) (t7_0 : (Nat → Int32)) (t8_0 : (Nat → Int32)) (t9_0 : (Nat → Int32)) (t10_0 : (Nat → Int32)) : Nat → Int32 → Int32 → Int32 → Int32 → Int32 → Int32 → Int32 → (Nat → Int32) → (Nat → Int32) → (Nat → Int32) → (Nat → Int32) → (Nat → Int32) → (Nat → Int32) → (Nat → Int32) → (Nat → Int32) → (Nat → Int32) → Prop
  | 0, _, _, _, _, _, _, _, _, _, _, _, _, _, _, _, _ => False
  | fm + 1, lx70, lx71, lx72, lx73, lx74, lx75, lx76, lx77, lx78, lx79, lx80, lx81, lx82, lx83, lx84, lx85 => if ((F_WR_size (264 : Int32) lx83) : Int32) ≤ (0 : Int32) then (if ((F_WR_size (264 : Int32) lx82) : Int32) = (1 : Int32) then (if (lx82 (0 : Int32).toNatClampNeg : Int32) = (1 : Int32) then ((True ∧ S_WR_divideRows (264 : Int32) (264 : Int32) lx70 lx71 lx72 lx73 lx74 lx75 lx76 lx80 lx81 lx84 t10_0) ∧ (S_WR_inverts_c197 (S_WR_inverts_L36 t0_0 t0_1 t0_2 t0_3 t0_4 t0_5 t0_6 t1_0 t2_0 t3_0 t4_0 t5_0 t6_0 t7_0 t8_0 t9_0 t10_0 fm) t0_0 t0_1 t0_2 t0_3 t0_4 t0_5 t0_6 t1_0 t2_0 t3_0 t4_0 t5_0 t6_0 t7_0 t8_0 t9_0 t10_0 lx70 lx71 lx72 lx73 lx74 lx75 lx76 lx77 lx78 lx79 lx80 lx81 lx82 lx83 lx84 lx85 ((F_WR_divideRows (264 : Int32) (264 : Int32) lx70 lx71 lx72 lx73 lx74 lx75 lx76 lx80 lx81 lx84 t10_0) : ((Nat → Int32) × (Nat → Int32))))) else (True)) else (True)) else ((True ∧ S_WR_divideRows (264 : Int32) (264 : Int32) lx70 lx71 lx72 lx73 lx74 lx75 lx76 lx80 lx81 lx82 lx83) ∧ (S_WR_inverts_c55 (S_WR_inverts_L36 t0_0 t0_1 t0_2 t0_3 t0_4 t0_5 t0_6 t1_0 t2_0 t3_0 t4_0 t5_0 t6_0 t7_0 t8_0 t9_0 t10_0 fm) t0_0 t0_1 t0_2 t0_3 t0_4 t0_5 t0_6 t1_0 t2_0 t3_0 t4_0 t5_0 t6_0 t7_0 t8_0 t9_0 t10_0 lx70 lx71 lx72 lx73 lx74 lx75 lx76 lx77 lx78 lx79 lx80 lx81 lx82 lx83 lx84 lx85 ((F_WR_divideRows (264 : Int32) (264 : Int32) lx70 lx71 lx72 lx73 lx74 lx75 lx76 lx80 lx81 lx82 lx83) : ((Nat → Int32) × (Nat → Int32)))))
def S_WR_inverts (t0_0 : Int32) (t0_1 : Int32) (t0_2 : Int32) (t0_3 : Int32) (t0_4 : Int32) (t0_5 : Int32) (t0_6 : Int32) (t1_0 : (Nat → Int32)) (t2_0 : (Nat → Int32)) (t3_0 : (Nat → Int32)) (t4_0 : (Nat → Int32)) (t5_0 : (Nat → Int32)) (t6_0 : (Nat → Int32)) (t7_0 : (Nat → Int32)) (t8_0 : (Nat → Int32)) (t9_0 : (Nat → Int32)) (t10_0 : (Nat → Int32)) : Prop := (True ∧ S_WR_setOne (264 : Int32) t0_0 t0_1 t0_2 t0_3 t0_4 t0_5 t0_6 t8_0) ∧ (S_WR_inverts_L36 t0_0 t0_1 t0_2 t0_3 t0_4 t0_5 t0_6 t1_0 t2_0 t3_0 t4_0 t5_0 t6_0 t7_0 t8_0 t9_0 t10_0 1000000 t0_0 t0_1 t0_2 t0_3 0 0 t0_6 t1_0 t2_0 t3_0 t4_0 t5_0 t6_0 ((F_WR_copy (264 : Int32) (264 : Int32) t10_0 t7_0) : (Nat → Int32)) ((F_WR_setOne (264 : Int32) t0_0 t0_1 t0_2 t0_3 t0_4 t0_5 t0_6 t8_0) : (Nat → Int32)) ((F_WR_clear (264 : Int32) t9_0) : (Nat → Int32)))
set_option maxRecDepth 100000 in
set_option maxHeartbeats 4000000 in
theorem X_WR_inverts (l : Launch) (D : va_G) (g : Nat → ClassId) (q : Nat → Nat) (ws : va_W) (hI : q_I (msh g q) q ws) (t0_0 : Int32) (t0_1 : Int32) (t0_2 : Int32) (t0_3 : Int32) (t0_4 : Int32) (t0_5 : Int32) (t0_6 : Int32) (hT0 : ws[119]? = (some (q 119, .inr (13, [.int t0_0, .int t0_1, .ref (q 120), .int t0_2, .ref (q 121), .ref (q 122), .ref (q 123), .int t0_3, .ref (q 124), .ref (q 125), .ref (q 126), .ref (q 127), .ref (q 128), .ref (q 129), .ref (q 130), .ref (q 131), .int t0_4, .int t0_5, .ref (q 132), .ref (q 133), .int t0_6])) : Option (Nat × va_E))) (t1_0 : (Nat → Int32)) (hT1 : ws[123]? = (some (q 123, .inl (g 0, (264 : Int32).toNatClampNeg, .inl t1_0)) : Option (Nat × va_E))) (t2_0 : (Nat → Int32)) (hT2 : ws[124]? = (some (q 124, .inl (g 0, (264 : Int32).toNatClampNeg, .inl t2_0)) : Option (Nat × va_E))) (t3_0 : (Nat → Int32)) (hT3 : ws[125]? = (some (q 125, .inl (g 0, (528 : Int32).toNatClampNeg, .inl t3_0)) : Option (Nat × va_E))) (t4_0 : (Nat → Int32)) (hT4 : ws[126]? = (some (q 126, .inl (g 0, (264 : Int32).toNatClampNeg, .inl t4_0)) : Option (Nat × va_E))) (t5_0 : (Nat → Int32)) (hT5 : ws[127]? = (some (q 127, .inl (g 0, (264 : Int32).toNatClampNeg, .inl t5_0)) : Option (Nat × va_E))) (t6_0 : (Nat → Int32)) (hT6 : ws[128]? = (some (q 128, .inl (g 0, (264 : Int32).toNatClampNeg, .inl t6_0)) : Option (Nat × va_E))) (t7_0 : (Nat → Int32)) (hT7 : ws[129]? = (some (q 129, .inl (g 0, (264 : Int32).toNatClampNeg, .inl t7_0)) : Option (Nat × va_E))) (t8_0 : (Nat → Int32)) (hT8 : ws[130]? = (some (q 130, .inl (g 0, (264 : Int32).toNatClampNeg, .inl t8_0)) : Option (Nat × va_E))) (t9_0 : (Nat → Int32)) (hT9 : ws[131]? = (some (q 131, .inl (g 0, (264 : Int32).toNatClampNeg, .inl t9_0)) : Option (Nat × va_E))) (t10_0 : (Nat → Int32)) (hT10 : ws[132]? = (some (q 132, .inl (g 0, (264 : Int32).toNatClampNeg, .inl t10_0)) : Option (Nat × va_E))) (hS : True ∧ S_WR_inverts t0_0 t0_1 t0_2 t0_3 t0_4 t0_5 t0_6 t1_0 t2_0 t3_0 t4_0 t5_0 t6_0 t7_0 t8_0 t9_0 t10_0) : q_mI l y_WR_inverts prog_19_method_33_code 1 (.boolean) 3 0 0 D g [.ref (q 119)] ws (fun r u => q_I (msh g q) q u ∧ q_un ws u [119, 123, 124, 125, 126, 127, 128, 129, 130, 131] ∧ ∃ (u0_0 : Int32) (u0_1 : Int32) (u0_2 : Int32) (u0_3 : Int32) (u0_4 : Int32) (u0_5 : Int32) (u0_6 : Int32) (u1_0 : (Nat → Int32)) (u2_0 : (Nat → Int32)) (u3_0 : (Nat → Int32)) (u4_0 : (Nat → Int32)) (u5_0 : (Nat → Int32)) (u6_0 : (Nat → Int32)) (u7_0 : (Nat → Int32)) (u8_0 : (Nat → Int32)) (u9_0 : (Nat → Int32)), u[119]? = (some (q 119, .inr (13, [.int u0_0, .int u0_1, .ref (q 120), .int u0_2, .ref (q 121), .ref (q 122), .ref (q 123), .int u0_3, .ref (q 124), .ref (q 125), .ref (q 126), .ref (q 127), .ref (q 128), .ref (q 129), .ref (q 130), .ref (q 131), .int u0_4, .int u0_5, .ref (q 132), .ref (q 133), .int u0_6])) : Option (Nat × va_E)) ∧ u[123]? = (some (q 123, .inl (g 0, (264 : Int32).toNatClampNeg, .inl u1_0)) : Option (Nat × va_E)) ∧ u[124]? = (some (q 124, .inl (g 0, (264 : Int32).toNatClampNeg, .inl u2_0)) : Option (Nat × va_E)) ∧ u[125]? = (some (q 125, .inl (g 0, (528 : Int32).toNatClampNeg, .inl u3_0)) : Option (Nat × va_E)) ∧ u[126]? = (some (q 126, .inl (g 0, (264 : Int32).toNatClampNeg, .inl u4_0)) : Option (Nat × va_E)) ∧ u[127]? = (some (q 127, .inl (g 0, (264 : Int32).toNatClampNeg, .inl u5_0)) : Option (Nat × va_E)) ∧ u[128]? = (some (q 128, .inl (g 0, (264 : Int32).toNatClampNeg, .inl u6_0)) : Option (Nat × va_E)) ∧ u[129]? = (some (q 129, .inl (g 0, (264 : Int32).toNatClampNeg, .inl u7_0)) : Option (Nat × va_E)) ∧ u[130]? = (some (q 130, .inl (g 0, (264 : Int32).toNatClampNeg, .inl u8_0)) : Option (Nat × va_E)) ∧ u[131]? = (some (q 131, .inl (g 0, (264 : Int32).toNatClampNeg, .inl u9_0)) : Option (Nat × va_E)) ∧ (0 ≤ r.toInt) ∧ (r.toInt ≤ 1) ∧ (0 ≤ u0_3.toInt) ∧ (u0_3.toInt ≤ 1) ∧ (0 ≤ u0_4.toInt) ∧ (u0_4.toInt ≤ 1) ∧ (0 ≤ u0_5.toInt) ∧ (u0_5.toInt ≤ 1) ∧ (t0_0.toInt ≤ u0_0.toInt) ∧ (u0_0.toInt ≤ t0_0.toInt) ∧ (t0_1.toInt ≤ u0_1.toInt) ∧ (u0_1.toInt ≤ t0_1.toInt) ∧ (t0_2.toInt ≤ u0_2.toInt) ∧ (u0_2.toInt ≤ t0_2.toInt) ∧ (t0_6.toInt ≤ u0_6.toInt) ∧ (u0_6.toInt ≤ t0_6.toInt) ∧ (r, u0_0, u0_1, u0_2, u0_3, u0_4, u0_5, u0_6, u1_0, u2_0, u3_0, u4_0, u5_0, u6_0, u7_0, u8_0, u9_0) = (F_WR_inverts t0_0 t0_1 t0_2 t0_3 t0_4 t0_5 t0_6 t1_0 t2_0 t3_0 t4_0 t5_0 t6_0 t7_0 t8_0 t9_0 t10_0)) := by
  intro sz
  refine q_into (by decide) (Nat.le_of_ble_eq_true rfl) ?_
  intro p e s m below meth c ls hsz C0 V hl
  have hx := C0.1
  have hb := C0.2.1
  obtain ⟨yy0_0, yy0_1, yy0_2, yy0_3, yy0_4, yy0_5, yy0_6, hh0, btt0_2, btt0_3, btt0_4, btt0_5, btt0_6⟩ := n_o119 hI
  obtain ⟨rfl, rfl, rfl, rfl, rfl, rfl, rfl⟩ : t0_0 = yy0_0 ∧ t0_1 = yy0_1 ∧ t0_2 = yy0_2 ∧ t0_3 = yy0_3 ∧ t0_4 = yy0_4 ∧ t0_5 = yy0_5 ∧ t0_6 = yy0_6 := by have z := Option.some.inj (hT0.symm.trans hh0); simpa using z
  replace btt0_2 : q_F (0 ≤ t0_2.toInt ∧ t0_2.toInt ≤ 4100) := btt0_2
  replace btt0_3 : q_F (0 ≤ t0_3.toInt ∧ t0_3.toInt ≤ 1) := btt0_3
  replace btt0_4 : q_F (0 ≤ t0_4.toInt ∧ t0_4.toInt ≤ 1) := btt0_4
  replace btt0_5 : q_F (0 ≤ t0_5.toInt ∧ t0_5.toInt ≤ 1) := btt0_5
  replace btt0_6 : q_F (0 ≤ t0_6.toInt ∧ t0_6.toInt ≤ 2100) := btt0_6
  have hF : q_un ws ws [119, 123, 124, 125, 126, 127, 128, 129, 130, 131] := q_u0
  have hl : lv_has ls 1 [(0, .ref (q 119))] := hl
  refine lv_aload_n hx hb d_19_33_0 rfl (lv_at hl 0 rfl) ?_
  refine q_get (ci := 13) (j := 18) (v := .ref (q 132)) C0 V i_WR rfl rfl hT0 (by decide) w_1942 rfl d_19_33_1 ?_
  refine lv_aload_n hx hb d_19_33_4 rfl (lv_at hl 0 rfl) ?_
  refine q_get (ci := 13) (j := 13) (v := .ref (q 129)) C0 V i_WR rfl rfl hT0 (by decide) w_1937 rfl d_19_33_5 ?_
  refine q_gov V (q_runS (As := [.ref (q 132), .ref (q 129)]) (rest := []) (d := 1) (mc := 0) (ms := 0) C0 V rfl LS_WR_67 (X_WR_copy l D g q ws 132 264 (n_r132 g q) 129 264 (n_r129 g q)  (by decide) hI t10_0 hT10 t7_0 hT7  _) rfl hl.1 rfl (Nat.le_of_ble_eq_true rfl) ⟨by decide, by decide⟩ ⟨Nat.le_of_ble_eq_true rfl, Nat.le_of_ble_eq_true rfl⟩ d_19_33_8) (fun u44 H locs hp45 V => ?_)
  obtain ⟨hI, hu49, f46, hA47, hE48⟩ := hp45
  replace hA47 : u44[129]? = (some (q 129, .inl (g 0, (264 : Int32).toNatClampNeg, .inl f46)) : Option (Nat × va_E)) := hA47
  have e50 : f46 = (F_WR_copy (264 : Int32) (264 : Int32) t10_0 t7_0) := hE48
  replace hT0 := (hu49 _ (by decide)).trans hT0
  replace hT1 := (hu49 _ (by decide)).trans hT1
  replace hT2 := (hu49 _ (by decide)).trans hT2
  replace hT3 := (hu49 _ (by decide)).trans hT3
  replace hT4 := (hu49 _ (by decide)).trans hT4
  replace hT5 := (hu49 _ (by decide)).trans hT5
  replace hT6 := (hu49 _ (by decide)).trans hT6
  replace hT8 := (hu49 _ (by decide)).trans hT8
  replace hT9 := (hu49 _ (by decide)).trans hT9
  replace hT10 := (hu49 _ (by decide)).trans hT10
  replace hF := q_uc hF hu49 (by simp)
  refine lv_aload_n hx hb d_19_33_11 rfl (lv_at hl 0 rfl) ?_
  refine lv_aload_n hx hb d_19_33_12 rfl (lv_at hl 0 rfl) ?_
  refine q_get (ci := 13) (j := 14) (v := .ref (q 130)) C0 V i_WR rfl rfl hT0 (by decide) w_1938 rfl d_19_33_13 ?_
  have ob51 : True ∧ S_WR_setOne (264 : Int32) t0_0 t0_1 t0_2 t0_3 t0_4 t0_5 t0_6 t8_0 := (by have h := hS; rw [S_WR_inverts.eq_1] at h; with_reducible exact h.2.1)
  refine q_gov V (q_runV (As := [.ref (q 130)]) (rest := []) (d := 2) (mc := 0) (ms := 0) (ci := 13) C0 V rfl LV_WR_131 (X_WR_setOne l D g q u44 130 264 (n_r130 g q)  hI t0_0 t0_1 t0_2 t0_3 t0_4 t0_5 t0_6 hT0 t8_0 hT8 ob51 _) rfl rfl hT0 rfl hl.1 rfl (Nat.le_of_ble_eq_true rfl) ⟨by decide, by decide⟩ ⟨Nat.le_of_ble_eq_true rfl, Nat.le_of_ble_eq_true rfl⟩ d_19_33_16) (fun u52 H locs hp53 V => ?_)
  obtain ⟨hI, hu57, f54, hA55, hE56⟩ := hp53
  replace hA55 : u52[130]? = (some (q 130, .inl (g 0, (264 : Int32).toNatClampNeg, .inl f54)) : Option (Nat × va_E)) := hA55
  have e58 : f54 = (F_WR_setOne (264 : Int32) t0_0 t0_1 t0_2 t0_3 t0_4 t0_5 t0_6 t8_0) := hE56
  replace hT0 := (hu57 _ (by decide)).trans hT0
  replace hT1 := (hu57 _ (by decide)).trans hT1
  replace hT2 := (hu57 _ (by decide)).trans hT2
  replace hT3 := (hu57 _ (by decide)).trans hT3
  replace hT4 := (hu57 _ (by decide)).trans hT4
  replace hT5 := (hu57 _ (by decide)).trans hT5
  replace hT6 := (hu57 _ (by decide)).trans hT6
  replace hA47 := (hu57 _ (by decide)).trans hA47
  replace hT9 := (hu57 _ (by decide)).trans hT9
  replace hT10 := (hu57 _ (by decide)).trans hT10
  replace hF := q_uc hF hu57 (by simp)
  refine lv_aload_n hx hb d_19_33_19 rfl (lv_at hl 0 rfl) ?_
  refine q_get (ci := 13) (j := 15) (v := .ref (q 131)) C0 V i_WR rfl rfl hT0 (by decide) w_1939 rfl d_19_33_20 ?_
  refine q_gov V (q_runS (As := [.ref (q 131)]) (rest := []) (d := 1) (mc := 0) (ms := 0) C0 V rfl LS_WR_63 (X_WR_clear l D g q u52 131 264 (n_r131 g q)  hI t9_0 hT9  _) rfl hl.1 rfl (Nat.le_of_ble_eq_true rfl) ⟨by decide, by decide⟩ ⟨Nat.le_of_ble_eq_true rfl, Nat.le_of_ble_eq_true rfl⟩ d_19_33_23) (fun u59 H locs hp60 V => ?_)
  obtain ⟨hI, hu64, f61, hA62, hE63⟩ := hp60
  replace hA62 : u59[131]? = (some (q 131, .inl (g 0, (264 : Int32).toNatClampNeg, .inl f61)) : Option (Nat × va_E)) := hA62
  have e65 : f61 = (F_WR_clear (264 : Int32) t9_0) := hE63
  replace hT0 := (hu64 _ (by decide)).trans hT0
  replace hT1 := (hu64 _ (by decide)).trans hT1
  replace hT2 := (hu64 _ (by decide)).trans hT2
  replace hT3 := (hu64 _ (by decide)).trans hT3
  replace hT4 := (hu64 _ (by decide)).trans hT4
  replace hT5 := (hu64 _ (by decide)).trans hT5
  replace hT6 := (hu64 _ (by decide)).trans hT6
  replace hA47 := (hu64 _ (by decide)).trans hA47
  replace hA55 := (hu64 _ (by decide)).trans hA55
  replace hT10 := (hu64 _ (by decide)).trans hT10
  replace hF := q_uc hF hu64 (by simp)
  refine lv_aload_n hx hb d_19_33_26 rfl (lv_at hl 0 rfl) ?_
  refine lv_iconst (v := 0) hx hb d_19_33_27 (by decide) ?_
  refine q_put (ci := 13) (j := 16) (v := .int 0) (ty := .boolean) C0 V i_WR o_WR n_WR rfl rfl hT0 (by decide) w_1940 rfl rfl rfl rfl (Nat.le_of_ble_eq_true rfl) d_19_33_28 (fun H locs w66 hu67 hT0 V => ?_)
  replace hT0 : w66[119]? = (some (q 119, .inr (13, [.int t0_0, .int t0_1, .ref (q 120), .int t0_2, .ref (q 121), .ref (q 122), .ref (q 123), .int t0_3, .ref (q 124), .ref (q 125), .ref (q 126), .ref (q 127), .ref (q 128), .ref (q 129), .ref (q 130), .ref (q 131), .int 0, .int t0_5, .ref (q 132), .ref (q 133), .int t0_6])) : Option (Nat × va_E)) := hT0
  replace hI := n_p119 hI hu67 hT0 ⟨(by have t1 : 0 ≤ t0_2.toInt ∧ t0_2.toInt ≤ 4100 := btt0_2; omega), (by have t1 : 0 ≤ t0_2.toInt ∧ t0_2.toInt ≤ 4100 := btt0_2; omega)⟩ ⟨(by have t1 : 0 ≤ t0_3.toInt ∧ t0_3.toInt ≤ 1 := btt0_3; omega), (by have t1 : 0 ≤ t0_3.toInt ∧ t0_3.toInt ≤ 1 := btt0_3; omega)⟩ ⟨(by have z9 : (0 : Int32).toInt = 0 := rfl; omega), (by have z9 : (0 : Int32).toInt = 0 := rfl; omega)⟩ ⟨(by have t1 : 0 ≤ t0_5.toInt ∧ t0_5.toInt ≤ 1 := btt0_5; omega), (by have t1 : 0 ≤ t0_5.toInt ∧ t0_5.toInt ≤ 1 := btt0_5; omega)⟩ ⟨(by have t1 : 0 ≤ t0_6.toInt ∧ t0_6.toInt ≤ 2100 := btt0_6; omega), (by have t1 : 0 ≤ t0_6.toInt ∧ t0_6.toInt ≤ 2100 := btt0_6; omega)⟩
  replace hT1 := (hu67 _ (by decide)).trans hT1
  replace hT2 := (hu67 _ (by decide)).trans hT2
  replace hT3 := (hu67 _ (by decide)).trans hT3
  replace hT4 := (hu67 _ (by decide)).trans hT4
  replace hT5 := (hu67 _ (by decide)).trans hT5
  replace hT6 := (hu67 _ (by decide)).trans hT6
  replace hA47 := (hu67 _ (by decide)).trans hA47
  replace hA55 := (hu67 _ (by decide)).trans hA55
  replace hA62 := (hu67 _ (by decide)).trans hA62
  replace hT10 := (hu67 _ (by decide)).trans hT10
  replace hF := q_us hF hu67 (by simp)
  refine lv_aload_n hx hb d_19_33_31 rfl (lv_at hl 0 rfl) ?_
  refine lv_iconst (v := 0) hx hb d_19_33_32 (by decide) ?_
  refine q_put (ci := 13) (j := 17) (v := .int 0) (ty := .boolean) C0 V i_WR o_WR n_WR rfl rfl hT0 (by decide) w_1941 rfl rfl rfl rfl (Nat.le_of_ble_eq_true rfl) d_19_33_33 (fun H locs w68 hu69 hT0 V => ?_)
  replace hT0 : w68[119]? = (some (q 119, .inr (13, [.int t0_0, .int t0_1, .ref (q 120), .int t0_2, .ref (q 121), .ref (q 122), .ref (q 123), .int t0_3, .ref (q 124), .ref (q 125), .ref (q 126), .ref (q 127), .ref (q 128), .ref (q 129), .ref (q 130), .ref (q 131), .int 0, .int 0, .ref (q 132), .ref (q 133), .int t0_6])) : Option (Nat × va_E)) := hT0
  replace hI := n_p119 hI hu69 hT0 ⟨(by have t1 : 0 ≤ t0_2.toInt ∧ t0_2.toInt ≤ 4100 := btt0_2; omega), (by have t1 : 0 ≤ t0_2.toInt ∧ t0_2.toInt ≤ 4100 := btt0_2; omega)⟩ ⟨(by have t1 : 0 ≤ t0_3.toInt ∧ t0_3.toInt ≤ 1 := btt0_3; omega), (by have t1 : 0 ≤ t0_3.toInt ∧ t0_3.toInt ≤ 1 := btt0_3; omega)⟩ ⟨(by have z9 : (0 : Int32).toInt = 0 := rfl; omega), (by have z9 : (0 : Int32).toInt = 0 := rfl; omega)⟩ ⟨(by have z9 : (0 : Int32).toInt = 0 := rfl; omega), (by have z9 : (0 : Int32).toInt = 0 := rfl; omega)⟩ ⟨(by have t1 : 0 ≤ t0_6.toInt ∧ t0_6.toInt ≤ 2100 := btt0_6; omega), (by have t1 : 0 ≤ t0_6.toInt ∧ t0_6.toInt ≤ 2100 := btt0_6; omega)⟩
  replace hT1 := (hu69 _ (by decide)).trans hT1
  replace hT2 := (hu69 _ (by decide)).trans hT2
  replace hT3 := (hu69 _ (by decide)).trans hT3
  replace hT4 := (hu69 _ (by decide)).trans hT4
  replace hT5 := (hu69 _ (by decide)).trans hT5
  replace hT6 := (hu69 _ (by decide)).trans hT6
  replace hA47 := (hu69 _ (by decide)).trans hA47
  replace hA55 := (hu69 _ (by decide)).trans hA55
  replace hA62 := (hu69 _ (by decide)).trans hA62
  replace hT10 := (hu69 _ (by decide)).trans hT10
  replace hF := q_us hF hu69 (by simp)
  refine q_loop (X := Nat × Int32 × Int32 × Int32 × Int32 × Int32 × Int32 × Int32 × (Nat → Int32) × (Nat → Int32) × (Nat → Int32) × (Nat → Int32) × (Nat → Int32) × (Nat → Int32) × (Nat → Int32) × (Nat → Int32) × (Nat → Int32)) (fun z H locs ls w101 => q_F (0 ≤ z.2.2.2.2.1.toInt) ∧ q_F (z.2.2.2.2.1.toInt ≤ 1) ∧ q_F (0 ≤ z.2.2.2.2.2.1.toInt) ∧ q_F (z.2.2.2.2.2.1.toInt ≤ 1) ∧ q_F (0 ≤ z.2.2.2.2.2.2.1.toInt) ∧ q_F (z.2.2.2.2.2.2.1.toInt ≤ 1) ∧ q_F (t0_0.toInt ≤ z.2.1.toInt) ∧ q_F (z.2.1.toInt ≤ t0_0.toInt) ∧ q_F (t0_1.toInt ≤ z.2.2.1.toInt) ∧ q_F (z.2.2.1.toInt ≤ t0_1.toInt) ∧ q_F (t0_2.toInt ≤ z.2.2.2.1.toInt) ∧ q_F (z.2.2.2.1.toInt ≤ t0_2.toInt) ∧ q_F (t0_6.toInt ≤ z.2.2.2.2.2.2.2.1.toInt) ∧ q_F (z.2.2.2.2.2.2.2.1.toInt ≤ t0_6.toInt) ∧ q_Wd D g (va_A ws sz) s w101 H locs ∧ lv_has ls 1 [(0, .ref (q 119))] ∧ q_I (msh g q) q w101 ∧ q_un ws w101 [119, 123, 124, 125, 126, 127, 128, 129, 130, 131] ∧ w101[119]? = (some (q 119, .inr (13, [.int z.2.1, .int z.2.2.1, .ref (q 120), .int z.2.2.2.1, .ref (q 121), .ref (q 122), .ref (q 123), .int z.2.2.2.2.1, .ref (q 124), .ref (q 125), .ref (q 126), .ref (q 127), .ref (q 128), .ref (q 129), .ref (q 130), .ref (q 131), .int z.2.2.2.2.2.1, .int z.2.2.2.2.2.2.1, .ref (q 132), .ref (q 133), .int z.2.2.2.2.2.2.2.1])) : Option (Nat × va_E)) ∧ w101[123]? = (some (q 123, .inl (g 0, (264 : Int32).toNatClampNeg, .inl z.2.2.2.2.2.2.2.2.1)) : Option (Nat × va_E)) ∧ w101[124]? = (some (q 124, .inl (g 0, (264 : Int32).toNatClampNeg, .inl z.2.2.2.2.2.2.2.2.2.1)) : Option (Nat × va_E)) ∧ w101[125]? = (some (q 125, .inl (g 0, (528 : Int32).toNatClampNeg, .inl z.2.2.2.2.2.2.2.2.2.2.1)) : Option (Nat × va_E)) ∧ w101[126]? = (some (q 126, .inl (g 0, (264 : Int32).toNatClampNeg, .inl z.2.2.2.2.2.2.2.2.2.2.2.1)) : Option (Nat × va_E)) ∧ w101[127]? = (some (q 127, .inl (g 0, (264 : Int32).toNatClampNeg, .inl z.2.2.2.2.2.2.2.2.2.2.2.2.1)) : Option (Nat × va_E)) ∧ w101[128]? = (some (q 128, .inl (g 0, (264 : Int32).toNatClampNeg, .inl z.2.2.2.2.2.2.2.2.2.2.2.2.2.1)) : Option (Nat × va_E)) ∧ w101[129]? = (some (q 129, .inl (g 0, (264 : Int32).toNatClampNeg, .inl z.2.2.2.2.2.2.2.2.2.2.2.2.2.2.1)) : Option (Nat × va_E)) ∧ w101[130]? = (some (q 130, .inl (g 0, (264 : Int32).toNatClampNeg, .inl z.2.2.2.2.2.2.2.2.2.2.2.2.2.2.2.1)) : Option (Nat × va_E)) ∧ w101[131]? = (some (q 131, .inl (g 0, (264 : Int32).toNatClampNeg, .inl z.2.2.2.2.2.2.2.2.2.2.2.2.2.2.2.2)) : Option (Nat × va_E)) ∧ w101[132]? = (some (q 132, .inl (g 0, (264 : Int32).toNatClampNeg, .inl t10_0)) : Option (Nat × va_E)) ∧ F_WR_inverts_L36 t0_0 t0_1 t0_2 t0_3 t0_4 t0_5 t0_6 t1_0 t2_0 t3_0 t4_0 t5_0 t6_0 t7_0 t8_0 t9_0 t10_0 z.1 z.2.1 z.2.2.1 z.2.2.2.1 z.2.2.2.2.1 z.2.2.2.2.2.1 z.2.2.2.2.2.2.1 z.2.2.2.2.2.2.2.1 z.2.2.2.2.2.2.2.2.1 z.2.2.2.2.2.2.2.2.2.1 z.2.2.2.2.2.2.2.2.2.2.1 z.2.2.2.2.2.2.2.2.2.2.2.1 z.2.2.2.2.2.2.2.2.2.2.2.2.1 z.2.2.2.2.2.2.2.2.2.2.2.2.2.1 z.2.2.2.2.2.2.2.2.2.2.2.2.2.2.1 z.2.2.2.2.2.2.2.2.2.2.2.2.2.2.2.1 z.2.2.2.2.2.2.2.2.2.2.2.2.2.2.2.2 = (F_WR_inverts t0_0 t0_1 t0_2 t0_3 t0_4 t0_5 t0_6 t1_0 t2_0 t3_0 t4_0 t5_0 t6_0 t7_0 t8_0 t9_0 t10_0) ∧ True ∧ S_WR_inverts_L36 t0_0 t0_1 t0_2 t0_3 t0_4 t0_5 t0_6 t1_0 t2_0 t3_0 t4_0 t5_0 t6_0 t7_0 t8_0 t9_0 t10_0 z.1 z.2.1 z.2.2.1 z.2.2.2.1 z.2.2.2.2.1 z.2.2.2.2.2.1 z.2.2.2.2.2.2.1 z.2.2.2.2.2.2.2.1 z.2.2.2.2.2.2.2.2.1 z.2.2.2.2.2.2.2.2.2.1 z.2.2.2.2.2.2.2.2.2.2.1 z.2.2.2.2.2.2.2.2.2.2.2.1 z.2.2.2.2.2.2.2.2.2.2.2.2.1 z.2.2.2.2.2.2.2.2.2.2.2.2.2.1 z.2.2.2.2.2.2.2.2.2.2.2.2.2.2.1 z.2.2.2.2.2.2.2.2.2.2.2.2.2.2.2.1 z.2.2.2.2.2.2.2.2.2.2.2.2.2.2.2.2) (fun z => z.1) ?_ ((1000000 : Nat), (t0_0 : Int32), (t0_1 : Int32), (t0_2 : Int32), (t0_3 : Int32), (0 : Int32), (0 : Int32), (t0_6 : Int32), (t1_0 : (Nat → Int32)), (t2_0 : (Nat → Int32)), (t3_0 : (Nat → Int32)), (t4_0 : (Nat → Int32)), (t5_0 : (Nat → Int32)), (t6_0 : (Nat → Int32)), (f46 : (Nat → Int32)), (f54 : (Nat → Int32)), (f61 : (Nat → Int32))) _ _ _ w68 ⟨(show q_F (0 ≤ t0_3.toInt) from (show 0 ≤ t0_3.toInt from by have t1 : 0 ≤ t0_3.toInt ∧ t0_3.toInt ≤ 1 := btt0_3; omega)), (show q_F (t0_3.toInt ≤ 1) from (show t0_3.toInt ≤ 1 from by have t1 : 0 ≤ t0_3.toInt ∧ t0_3.toInt ≤ 1 := btt0_3; omega)), (show q_F (0 ≤ 0) from (show 0 ≤ 0 from by omega)), (show q_F (0 ≤ 1) from (show 0 ≤ 1 from by omega)), (show q_F (0 ≤ 0) from (show 0 ≤ 0 from by omega)), (show q_F (0 ≤ 1) from (show 0 ≤ 1 from by omega)), (show q_F (t0_0.toInt ≤ t0_0.toInt) from (show t0_0.toInt ≤ t0_0.toInt from by omega)), (show q_F (t0_0.toInt ≤ t0_0.toInt) from (show t0_0.toInt ≤ t0_0.toInt from by omega)), (show q_F (t0_1.toInt ≤ t0_1.toInt) from (show t0_1.toInt ≤ t0_1.toInt from by omega)), (show q_F (t0_1.toInt ≤ t0_1.toInt) from (show t0_1.toInt ≤ t0_1.toInt from by omega)), (show q_F (t0_2.toInt ≤ t0_2.toInt) from (show t0_2.toInt ≤ t0_2.toInt from by omega)), (show q_F (t0_2.toInt ≤ t0_2.toInt) from (show t0_2.toInt ≤ t0_2.toInt from by omega)), (show q_F (t0_6.toInt ≤ t0_6.toInt) from (show t0_6.toInt ≤ t0_6.toInt from by omega)), (show q_F (t0_6.toInt ≤ t0_6.toInt) from (show t0_6.toInt ≤ t0_6.toInt from by omega)), V, q_lw hl (q_lw1 0 rfl q_lw0), hI, hF, hT0, hT1, hT2, hT3, hT4, hT5, hT6, hA47, hA55, hA62, hT10, (show F_WR_inverts_L36 t0_0 t0_1 t0_2 t0_3 t0_4 t0_5 t0_6 t1_0 t2_0 t3_0 t4_0 t5_0 t6_0 t7_0 t8_0 t9_0 t10_0 1000000 t0_0 t0_1 t0_2 t0_3 0 0 t0_6 t1_0 t2_0 t3_0 t4_0 t5_0 t6_0 f46 f54 f61 = (F_WR_inverts t0_0 t0_1 t0_2 t0_3 t0_4 t0_5 t0_6 t1_0 t2_0 t3_0 t4_0 t5_0 t6_0 t7_0 t8_0 t9_0 t10_0) from (by rw [e65, e58, e50, F_WR_inverts.eq_1])), (show True ∧ S_WR_inverts_L36 t0_0 t0_1 t0_2 t0_3 t0_4 t0_5 t0_6 t1_0 t2_0 t3_0 t4_0 t5_0 t6_0 t7_0 t8_0 t9_0 t10_0 1000000 t0_0 t0_1 t0_2 t0_3 0 0 t0_6 t1_0 t2_0 t3_0 t4_0 t5_0 t6_0 f46 f54 f61 from (by rw [e65, e58, e50]; have h := hS; rw [S_WR_inverts.eq_1] at h; replace h := q_s2 h; with_reducible exact h))⟩
  rintro ⟨fu115, lx70, lx71, lx72, lx73, lx74, lx75, lx76, lx77, lx78, lx79, lx80, lx81, lx82, lx83, lx84, lx85⟩ H locs ls w101 ⟨i86, i87, i88, i89, i90, i91, i92, i93, i94, i95, i96, i97, i98, i99, V, hl, hI, hF, hO102, hO103, hO104, hO105, hO106, hO107, hO108, hO109, hO110, hO111, hO112, hR113, hS114⟩ ih100
  obtain ⟨fm117, rfl⟩ : ∃ m, fu115 = m + 1 := Nat.exists_eq_succ_of_ne_zero (fun e => by subst e; rw [S_WR_inverts_L36.eq_1] at hS114; exact hS114.2)
  replace i86 : q_F (0 ≤ lx73.toInt) := i86
  replace i87 : q_F (lx73.toInt ≤ 1) := i87
  replace i88 : q_F (0 ≤ lx74.toInt) := i88
  replace i89 : q_F (lx74.toInt ≤ 1) := i89
  replace i90 : q_F (0 ≤ lx75.toInt) := i90
  replace i91 : q_F (lx75.toInt ≤ 1) := i91
  replace i92 : q_F (t0_0.toInt ≤ lx70.toInt) := i92
  replace i93 : q_F (lx70.toInt ≤ t0_0.toInt) := i93
  replace i94 : q_F (t0_1.toInt ≤ lx71.toInt) := i94
  replace i95 : q_F (lx71.toInt ≤ t0_1.toInt) := i95
  replace i96 : q_F (t0_2.toInt ≤ lx72.toInt) := i96
  replace i97 : q_F (lx72.toInt ≤ t0_2.toInt) := i97
  replace i98 : q_F (t0_6.toInt ≤ lx76.toInt) := i98
  replace i99 : q_F (lx76.toInt ≤ t0_6.toInt) := i99
  replace hl : lv_has ls 1 [(0, .ref (q 119))] := hl
  replace hO102 : w101[119]? = (some (q 119, .inr (13, [.int lx70, .int lx71, .ref (q 120), .int lx72, .ref (q 121), .ref (q 122), .ref (q 123), .int lx73, .ref (q 124), .ref (q 125), .ref (q 126), .ref (q 127), .ref (q 128), .ref (q 129), .ref (q 130), .ref (q 131), .int lx74, .int lx75, .ref (q 132), .ref (q 133), .int lx76])) : Option (Nat × va_E)) := hO102
  replace hO103 : w101[123]? = (some (q 123, .inl (g 0, (264 : Int32).toNatClampNeg, .inl lx77)) : Option (Nat × va_E)) := hO103
  replace hO104 : w101[124]? = (some (q 124, .inl (g 0, (264 : Int32).toNatClampNeg, .inl lx78)) : Option (Nat × va_E)) := hO104
  replace hO105 : w101[125]? = (some (q 125, .inl (g 0, (528 : Int32).toNatClampNeg, .inl lx79)) : Option (Nat × va_E)) := hO105
  replace hO106 : w101[126]? = (some (q 126, .inl (g 0, (264 : Int32).toNatClampNeg, .inl lx80)) : Option (Nat × va_E)) := hO106
  replace hO107 : w101[127]? = (some (q 127, .inl (g 0, (264 : Int32).toNatClampNeg, .inl lx81)) : Option (Nat × va_E)) := hO107
  replace hO108 : w101[128]? = (some (q 128, .inl (g 0, (264 : Int32).toNatClampNeg, .inl lx82)) : Option (Nat × va_E)) := hO108
  replace hO109 : w101[129]? = (some (q 129, .inl (g 0, (264 : Int32).toNatClampNeg, .inl lx83)) : Option (Nat × va_E)) := hO109
  replace hO110 : w101[130]? = (some (q 130, .inl (g 0, (264 : Int32).toNatClampNeg, .inl lx84)) : Option (Nat × va_E)) := hO110
  replace hO111 : w101[131]? = (some (q 131, .inl (g 0, (264 : Int32).toNatClampNeg, .inl lx85)) : Option (Nat × va_E)) := hO111
  replace hO112 : w101[132]? = (some (q 132, .inl (g 0, (264 : Int32).toNatClampNeg, .inl t10_0)) : Option (Nat × va_E)) := hO112
  refine lv_aload_n hx hb d_19_33_36 rfl (lv_at hl 0 rfl) ?_
  refine q_get (ci := 13) (j := 13) (v := .ref (q 129)) C0 V i_WR rfl rfl hO102 (by decide) w_1937 rfl d_19_33_37 ?_
  refine q_goi V (q_runS (As := [.ref (q 129)]) (rest := []) (d := 1) (mc := 0) (ms := 0) C0 V rfl LS_WR_59 (X_WR_size l D g q w101 129 264 (n_r129 g q)  hI lx83 hO109  _) rfl hl.1 rfl (Nat.le_of_ble_eq_true rfl) ⟨by decide, by decide⟩ ⟨Nat.le_of_ble_eq_true rfl, Nat.le_of_ble_eq_true rfl⟩ d_19_33_40) (fun a120 u118 H locs hp119 V => ?_)
  obtain ⟨rfl, b121, b122, hE123⟩ := hp119
  have e124 : a120 = (F_WR_size (264 : Int32) lx83) := hE123
  replace b121 : q_F (0 ≤ a120.toInt) := b121
  replace b122 : q_F (a120.toInt ≤ 264) := b122
  refine lv_if_le (tgt := 165) hx hb d_19_33_43 (by decide) (fun c125 => ?_) (fun c125 => ?_)
  ·
    have b126 : q_F (a120.toInt ≤ 0) := (q_leI c125)
    refine lv_aload_n hx hb d_19_33_165 rfl (lv_at hl 0 rfl) ?_
    refine q_get (ci := 13) (j := 12) (v := .ref (q 128)) C0 V i_WR rfl rfl hO102 (by decide) w_1936 rfl d_19_33_166 ?_
    refine q_goi V (q_runS (As := [.ref (q 128)]) (rest := []) (d := 1) (mc := 0) (ms := 0) C0 V rfl LS_WR_59 (X_WR_size l D g q w101 128 264 (n_r128 g q)  hI lx82 hO108  _) rfl hl.1 rfl (Nat.le_of_ble_eq_true rfl) ⟨by decide, by decide⟩ ⟨Nat.le_of_ble_eq_true rfl, Nat.le_of_ble_eq_true rfl⟩ d_19_33_169) (fun a129 u127 H locs hp128 V => ?_)
    obtain ⟨rfl, b130, b131, hE132⟩ := hp128
    have e133 : a129 = (F_WR_size (264 : Int32) lx82) := hE132
    replace b130 : q_F (0 ≤ a129.toInt) := b130
    replace b131 : q_F (a129.toInt ≤ 264) := b131
    refine lv_iconst (v := 1) hx hb d_19_33_172 (by decide) ?_
    refine lv_icmp_ne (tgt := 186) hx hb d_19_33_173 (by decide) (fun c134 => ?_) (fun c134 => ?_)
    ·
      have b135 : q_F (a129.toInt ≠ 1) := (q_neI c134)
      refine lv_iconst (v := 0) hx hb d_19_33_186 (by decide) ?_
      exact q_retz C0 V (by decide) (⟨hI, hF, lx70, lx71, lx72, lx73, lx74, lx75, lx76, lx77, lx78, lx79, lx80, lx81, lx82, lx83, lx84, lx85, hO102, hO103, hO104, hO105, hO106, hO107, hO108, hO109, hO110, hO111, (show 0 ≤ (0 : Int32).toInt from (by have z17 : (0 : Int32).toInt = 0 := rfl; omega)), (show (0 : Int32).toInt ≤ 1 from (by have z17 : (0 : Int32).toInt = 0 := rfl; omega)), (show 0 ≤ lx73.toInt from (by have z17 : (0 : Int32).toInt = 0 := rfl; have t1 : 0 ≤ lx73.toInt := i86; omega)), (show lx73.toInt ≤ 1 from (by have z17 : (0 : Int32).toInt = 0 := rfl; have t1 : lx73.toInt ≤ 1 := i87; omega)), (show 0 ≤ lx74.toInt from (by have z17 : (0 : Int32).toInt = 0 := rfl; have t1 : 0 ≤ lx74.toInt := i88; omega)), (show lx74.toInt ≤ 1 from (by have z17 : (0 : Int32).toInt = 0 := rfl; have t1 : lx74.toInt ≤ 1 := i89; omega)), (show 0 ≤ lx75.toInt from (by have z17 : (0 : Int32).toInt = 0 := rfl; have t1 : 0 ≤ lx75.toInt := i90; omega)), (show lx75.toInt ≤ 1 from (by have z17 : (0 : Int32).toInt = 0 := rfl; have t1 : lx75.toInt ≤ 1 := i91; omega)), (show t0_0.toInt ≤ lx70.toInt from (by have z17 : (0 : Int32).toInt = 0 := rfl; have t1 : t0_0.toInt ≤ lx70.toInt := i92; omega)), (show lx70.toInt ≤ t0_0.toInt from (by have z17 : (0 : Int32).toInt = 0 := rfl; have t1 : lx70.toInt ≤ t0_0.toInt := i93; omega)), (show t0_1.toInt ≤ lx71.toInt from (by have z17 : (0 : Int32).toInt = 0 := rfl; have t1 : t0_1.toInt ≤ lx71.toInt := i94; omega)), (show lx71.toInt ≤ t0_1.toInt from (by have z17 : (0 : Int32).toInt = 0 := rfl; have t1 : lx71.toInt ≤ t0_1.toInt := i95; omega)), (show t0_2.toInt ≤ lx72.toInt from (by have z17 : (0 : Int32).toInt = 0 := rfl; have t1 : t0_2.toInt ≤ lx72.toInt := i96; omega)), (show lx72.toInt ≤ t0_2.toInt from (by have z17 : (0 : Int32).toInt = 0 := rfl; have t1 : lx72.toInt ≤ t0_2.toInt := i97; omega)), (show t0_6.toInt ≤ lx76.toInt from (by have z17 : (0 : Int32).toInt = 0 := rfl; have t1 : t0_6.toInt ≤ lx76.toInt := i98; omega)), (show lx76.toInt ≤ t0_6.toInt from (by have z17 : (0 : Int32).toInt = 0 := rfl; have t1 : lx76.toInt ≤ t0_6.toInt := i99; omega)), (show ((0 : Int32), lx70, lx71, lx72, lx73, lx74, lx75, lx76, lx77, lx78, lx79, lx80, lx81, lx82, lx83, lx84, lx85) = (F_WR_inverts t0_0 t0_1 t0_2 t0_3 t0_4 t0_5 t0_6 t1_0 t2_0 t3_0 t4_0 t5_0 t6_0 t7_0 t8_0 t9_0 t10_0) from Eq.trans (by have c125x := c125; rw [e124] at c125x; have c134x := c134; rw [e133] at c134x; rw [F_WR_inverts_L36.eq_2, if_pos c125x, if_neg c134x]) hR113)⟩) d_19_33_187
    ·
      have b136 : q_F (a129.toInt = 1) := (q_eqI c134)
      refine lv_aload_n hx hb d_19_33_176 rfl (lv_at hl 0 rfl) ?_
      refine q_get (ci := 13) (j := 12) (v := .ref (q 128)) C0 V i_WR rfl rfl hO102 (by decide) w_1936 rfl d_19_33_177 ?_
      refine lv_iconst (v := 0) hx hb d_19_33_180 (by decide) ?_
      refine q_iald C0 V hO108 (q_ix (x := 0) (by decide) (by omega) (by have e9 : (((264 : Int32).toNatClampNeg : Nat) : Int) = 264 := (by decide); omega)) d_19_33_181 ?_
      obtain ⟨a137, e138⟩ := q_nm (lx82 (0 : Int32).toNatClampNeg : Int32)
      refine q_ti (v := a137) e138 ?_
      refine lv_iconst (v := 1) hx hb d_19_33_182 (by decide) ?_
      refine lv_icmp_eq (tgt := 188) hx hb d_19_33_183 (by decide) (fun c139 => ?_) (fun c139 => ?_)
      ·
        have b140 : q_F (a137.toInt = 1) := (q_eqI c139)
        refine lv_aload_n hx hb d_19_33_188 rfl (lv_at hl 0 rfl) ?_
        refine lv_aload_n hx hb d_19_33_189 rfl (lv_at hl 0 rfl) ?_
        refine q_get (ci := 13) (j := 14) (v := .ref (q 130)) C0 V i_WR rfl rfl hO102 (by decide) w_1938 rfl d_19_33_190 ?_
        refine lv_aload_n hx hb d_19_33_193 rfl (lv_at hl 0 rfl) ?_
        refine q_get (ci := 13) (j := 18) (v := .ref (q 132)) C0 V i_WR rfl rfl hO102 (by decide) w_1942 rfl d_19_33_194 ?_
        have ob141 : True ∧ S_WR_divideRows (264 : Int32) (264 : Int32) lx70 lx71 lx72 lx73 lx74 lx75 lx76 lx80 lx81 lx84 t10_0 := (by have h := hS114; rw [S_WR_inverts_L36.eq_2] at h; have c125x := c125; rw [e124] at c125x; rw [if_pos c125x] at h; have c134x := c134; rw [e133] at c134x; rw [if_pos c134x] at h; have c139x := c139; rw [← e138] at c139x; rw [if_pos c139x] at h; with_reducible exact h.2.1)
        refine q_gov V (q_runV (As := [.ref (q 130), .ref (q 132)]) (rest := []) (d := 2) (mc := 0) (ms := 0) (ci := 13) C0 V rfl LV_WR_122 (X_WR_divideRows l D g q w101 130 264 (n_r130 g q) 132 264 (n_r132 g q)  (by decide) (by decide) (by decide) (by decide) (by decide) hI lx70 lx71 lx72 lx73 lx74 lx75 lx76 hO102 lx80 hO106 lx81 hO107 lx84 hO110 t10_0 hO112 ob141 _) rfl rfl hO102 rfl hl.1 rfl (Nat.le_of_ble_eq_true rfl) ⟨by decide, by decide⟩ ⟨Nat.le_of_ble_eq_true rfl, Nat.le_of_ble_eq_true rfl⟩ d_19_33_197) (fun u142 H locs hp143 V => ?_)
        obtain ⟨hI, hu149, f144, f146, hA145, hA147, hE148⟩ := hp143
        replace hA145 : u142[126]? = (some (q 126, .inl (g 0, (264 : Int32).toNatClampNeg, .inl f144)) : Option (Nat × va_E)) := hA145
        replace hA147 : u142[127]? = (some (q 127, .inl (g 0, (264 : Int32).toNatClampNeg, .inl f146)) : Option (Nat × va_E)) := hA147
        obtain ⟨p150, e151⟩ : ∃ z, z = (F_WR_divideRows (264 : Int32) (264 : Int32) lx70 lx71 lx72 lx73 lx74 lx75 lx76 lx80 lx81 lx84 t10_0) := ⟨_, rfl⟩
        have e152 : f144 = p150.1 := congrArg (fun z => z.1) (hE148.trans e151.symm)
        have e153 : f146 = p150.2 := congrArg (fun z => z.2) (hE148.trans e151.symm)
        replace hO102 := (hu149 _ (by decide)).trans hO102
        replace hO103 := (hu149 _ (by decide)).trans hO103
        replace hO104 := (hu149 _ (by decide)).trans hO104
        replace hO105 := (hu149 _ (by decide)).trans hO105
        replace hO108 := (hu149 _ (by decide)).trans hO108
        replace hO109 := (hu149 _ (by decide)).trans hO109
        replace hO110 := (hu149 _ (by decide)).trans hO110
        replace hO111 := (hu149 _ (by decide)).trans hO111
        replace hO112 := (hu149 _ (by decide)).trans hO112
        replace hF := q_uc hF hu149 (by simp)
        have hR154 := (show F_WR_inverts_c197 (F_WR_inverts_L36 t0_0 t0_1 t0_2 t0_3 t0_4 t0_5 t0_6 t1_0 t2_0 t3_0 t4_0 t5_0 t6_0 t7_0 t8_0 t9_0 t10_0 fm117) t0_0 t0_1 t0_2 t0_3 t0_4 t0_5 t0_6 t1_0 t2_0 t3_0 t4_0 t5_0 t6_0 t7_0 t8_0 t9_0 t10_0 lx70 lx71 lx72 lx73 lx74 lx75 lx76 lx77 lx78 lx79 lx80 lx81 lx82 lx83 lx84 lx85 p150 = (F_WR_inverts t0_0 t0_1 t0_2 t0_3 t0_4 t0_5 t0_6 t1_0 t2_0 t3_0 t4_0 t5_0 t6_0 t7_0 t8_0 t9_0 t10_0) from Eq.trans (by have c125x := c125; rw [e124] at c125x; have c134x := c134; rw [e133] at c134x; have c139x := c139; rw [← e138] at c139x; rw [e151, F_WR_inverts_L36.eq_2, if_pos c125x, if_pos c134x, if_pos c139x]) hR113)
        have hS155 := (show True ∧ S_WR_inverts_c197 (S_WR_inverts_L36 t0_0 t0_1 t0_2 t0_3 t0_4 t0_5 t0_6 t1_0 t2_0 t3_0 t4_0 t5_0 t6_0 t7_0 t8_0 t9_0 t10_0 fm117) t0_0 t0_1 t0_2 t0_3 t0_4 t0_5 t0_6 t1_0 t2_0 t3_0 t4_0 t5_0 t6_0 t7_0 t8_0 t9_0 t10_0 lx70 lx71 lx72 lx73 lx74 lx75 lx76 lx77 lx78 lx79 lx80 lx81 lx82 lx83 lx84 lx85 p150 from (by rw [e151]; have h := hS114; rw [S_WR_inverts_L36.eq_2] at h; have c125x := c125; rw [e124] at c125x; rw [if_pos c125x] at h; have c134x := c134; rw [e133] at c134x; rw [if_pos c134x] at h; have c139x := c139; rw [← e138] at c139x; rw [if_pos c139x] at h; replace h := q_s2 h; with_reducible exact h))
        refine lv_aload_n hx hb d_19_33_200 rfl (lv_at hl 0 rfl) ?_
        refine q_get (ci := 13) (j := 10) (v := .ref (q 126)) C0 V i_WR rfl rfl hO102 (by decide) w_1934 rfl d_19_33_201 ?_
        refine lv_aload_n hx hb d_19_33_204 rfl (lv_at hl 0 rfl) ?_
        refine q_get (ci := 13) (j := 12) (v := .ref (q 128)) C0 V i_WR rfl rfl hO102 (by decide) w_1936 rfl d_19_33_205 ?_
        refine q_gov V (q_runS (As := [.ref (q 126), .ref (q 128)]) (rest := []) (d := 1) (mc := 0) (ms := 0) C0 V rfl LS_WR_67 (X_WR_copy l D g q u142 126 264 (n_r126 g q) 128 264 (n_r128 g q)  (by decide) hI f144 hA145 lx82 hO108  _) rfl hl.1 rfl (Nat.le_of_ble_eq_true rfl) ⟨by decide, by decide⟩ ⟨Nat.le_of_ble_eq_true rfl, Nat.le_of_ble_eq_true rfl⟩ d_19_33_208) (fun u159 H locs hp160 V => ?_)
        obtain ⟨hI, hu164, f161, hA162, hE163⟩ := hp160
        replace hA162 : u159[128]? = (some (q 128, .inl (g 0, (264 : Int32).toNatClampNeg, .inl f161)) : Option (Nat × va_E)) := hA162
        have e165 : f161 = (F_WR_copy (264 : Int32) (264 : Int32) f144 lx82) := hE163
        replace hO102 := (hu164 _ (by decide)).trans hO102
        replace hO103 := (hu164 _ (by decide)).trans hO103
        replace hO104 := (hu164 _ (by decide)).trans hO104
        replace hO105 := (hu164 _ (by decide)).trans hO105
        replace hA145 := (hu164 _ (by decide)).trans hA145
        replace hA147 := (hu164 _ (by decide)).trans hA147
        replace hO109 := (hu164 _ (by decide)).trans hO109
        replace hO110 := (hu164 _ (by decide)).trans hO110
        replace hO111 := (hu164 _ (by decide)).trans hO111
        replace hO112 := (hu164 _ (by decide)).trans hO112
        replace hF := q_uc hF hu164 (by simp)
        refine lv_aload_n hx hb d_19_33_211 rfl (lv_at hl 0 rfl) ?_
        refine q_get (ci := 13) (j := 16) (v := .int lx74) C0 V i_WR rfl rfl hO102 (by decide) w_1940 rfl d_19_33_212 ?_
        refine lv_if_eq (tgt := 270) hx hb d_19_33_215 (by decide) (fun c166 => ?_) (fun c166 => ?_)
        ·
          have b167 : q_F (lx74.toInt = 0) := (q_eqI c166)
          refine lv_iconst (v := 1) hx hb d_19_33_270 (by decide) ?_
          exact q_retz C0 V (by decide) (⟨hI, hF, lx70, lx71, lx72, lx73, lx74, lx75, lx76, lx77, lx78, lx79, f144, f146, f161, lx83, lx84, lx85, hO102, hO103, hO104, hO105, hA145, hA147, hA162, hO109, hO110, hO111, (show 0 ≤ (1 : Int32).toInt from (by have z17 : (1 : Int32).toInt = 1 := rfl; omega)), (show (1 : Int32).toInt ≤ 1 from (by have z17 : (1 : Int32).toInt = 1 := rfl; omega)), (show 0 ≤ lx73.toInt from (by have z17 : (1 : Int32).toInt = 1 := rfl; have t1 : 0 ≤ lx73.toInt := i86; omega)), (show lx73.toInt ≤ 1 from (by have z17 : (1 : Int32).toInt = 1 := rfl; have t1 : lx73.toInt ≤ 1 := i87; omega)), (show 0 ≤ lx74.toInt from (by have z17 : (1 : Int32).toInt = 1 := rfl; have t1 : 0 ≤ lx74.toInt := i88; omega)), (show lx74.toInt ≤ 1 from (by have z17 : (1 : Int32).toInt = 1 := rfl; have t1 : lx74.toInt ≤ 1 := i89; omega)), (show 0 ≤ lx75.toInt from (by have z17 : (1 : Int32).toInt = 1 := rfl; have t1 : 0 ≤ lx75.toInt := i90; omega)), (show lx75.toInt ≤ 1 from (by have z17 : (1 : Int32).toInt = 1 := rfl; have t1 : lx75.toInt ≤ 1 := i91; omega)), (show t0_0.toInt ≤ lx70.toInt from (by have z17 : (1 : Int32).toInt = 1 := rfl; have t1 : t0_0.toInt ≤ lx70.toInt := i92; omega)), (show lx70.toInt ≤ t0_0.toInt from (by have z17 : (1 : Int32).toInt = 1 := rfl; have t1 : lx70.toInt ≤ t0_0.toInt := i93; omega)), (show t0_1.toInt ≤ lx71.toInt from (by have z17 : (1 : Int32).toInt = 1 := rfl; have t1 : t0_1.toInt ≤ lx71.toInt := i94; omega)), (show lx71.toInt ≤ t0_1.toInt from (by have z17 : (1 : Int32).toInt = 1 := rfl; have t1 : lx71.toInt ≤ t0_1.toInt := i95; omega)), (show t0_2.toInt ≤ lx72.toInt from (by have z17 : (1 : Int32).toInt = 1 := rfl; have t1 : t0_2.toInt ≤ lx72.toInt := i96; omega)), (show lx72.toInt ≤ t0_2.toInt from (by have z17 : (1 : Int32).toInt = 1 := rfl; have t1 : lx72.toInt ≤ t0_2.toInt := i97; omega)), (show t0_6.toInt ≤ lx76.toInt from (by have z17 : (1 : Int32).toInt = 1 := rfl; have t1 : t0_6.toInt ≤ lx76.toInt := i98; omega)), (show lx76.toInt ≤ t0_6.toInt from (by have z17 : (1 : Int32).toInt = 1 := rfl; have t1 : lx76.toInt ≤ t0_6.toInt := i99; omega)), (show ((1 : Int32), lx70, lx71, lx72, lx73, lx74, lx75, lx76, lx77, lx78, lx79, f144, f146, f161, lx83, lx84, lx85) = (F_WR_inverts t0_0 t0_1 t0_2 t0_3 t0_4 t0_5 t0_6 t1_0 t2_0 t3_0 t4_0 t5_0 t6_0 t7_0 t8_0 t9_0 t10_0) from Eq.trans (by rw [e165, e153, e152, F_WR_inverts_c197.eq_1, if_pos c166]) hR154)⟩) d_19_33_271
        ·
          have b168 : q_F (lx74.toInt ≠ 0) := (q_neI c166)
          refine lv_aload_n hx hb d_19_33_218 rfl (lv_at hl 0 rfl) ?_
          refine q_get (ci := 13) (j := 12) (v := .ref (q 128)) C0 V i_WR rfl rfl hO102 (by decide) w_1936 rfl d_19_33_219 ?_
          refine q_goi V (q_runS (As := [.ref (q 128)]) (rest := []) (d := 1) (mc := 0) (ms := 0) C0 V rfl LS_WR_59 (X_WR_size l D g q u159 128 264 (n_r128 g q)  hI f161 hA162  _) rfl hl.1 rfl (Nat.le_of_ble_eq_true rfl) ⟨by decide, by decide⟩ ⟨Nat.le_of_ble_eq_true rfl, Nat.le_of_ble_eq_true rfl⟩ d_19_33_222) (fun a171 u169 H locs hp170 V => ?_)
          obtain ⟨rfl, b172, b173, hE174⟩ := hp170
          have e175 : a171 = (F_WR_size (264 : Int32) f161) := hE174
          replace b172 : q_F (0 ≤ a171.toInt) := b172
          replace b173 : q_F (a171.toInt ≤ 264) := b173
          refine lv_if_le (tgt := 270) hx hb d_19_33_225 (by decide) (fun c176 => ?_) (fun c176 => ?_)
          ·
            have b177 : q_F (a171.toInt ≤ 0) := (q_leI c176)
            refine lv_iconst (v := 1) hx hb d_19_33_270 (by decide) ?_
            exact q_retz C0 V (by decide) (⟨hI, hF, lx70, lx71, lx72, lx73, lx74, lx75, lx76, lx77, lx78, lx79, f144, f146, f161, lx83, lx84, lx85, hO102, hO103, hO104, hO105, hA145, hA147, hA162, hO109, hO110, hO111, (show 0 ≤ (1 : Int32).toInt from (by have z17 : (1 : Int32).toInt = 1 := rfl; omega)), (show (1 : Int32).toInt ≤ 1 from (by have z17 : (1 : Int32).toInt = 1 := rfl; omega)), (show 0 ≤ lx73.toInt from (by have z17 : (1 : Int32).toInt = 1 := rfl; have t1 : 0 ≤ lx73.toInt := i86; omega)), (show lx73.toInt ≤ 1 from (by have z17 : (1 : Int32).toInt = 1 := rfl; have t1 : lx73.toInt ≤ 1 := i87; omega)), (show 0 ≤ lx74.toInt from (by have z17 : (1 : Int32).toInt = 1 := rfl; have t1 : 0 ≤ lx74.toInt := i88; omega)), (show lx74.toInt ≤ 1 from (by have z17 : (1 : Int32).toInt = 1 := rfl; have t1 : lx74.toInt ≤ 1 := i89; omega)), (show 0 ≤ lx75.toInt from (by have z17 : (1 : Int32).toInt = 1 := rfl; have t1 : 0 ≤ lx75.toInt := i90; omega)), (show lx75.toInt ≤ 1 from (by have z17 : (1 : Int32).toInt = 1 := rfl; have t1 : lx75.toInt ≤ 1 := i91; omega)), (show t0_0.toInt ≤ lx70.toInt from (by have z17 : (1 : Int32).toInt = 1 := rfl; have t1 : t0_0.toInt ≤ lx70.toInt := i92; omega)), (show lx70.toInt ≤ t0_0.toInt from (by have z17 : (1 : Int32).toInt = 1 := rfl; have t1 : lx70.toInt ≤ t0_0.toInt := i93; omega)), (show t0_1.toInt ≤ lx71.toInt from (by have z17 : (1 : Int32).toInt = 1 := rfl; have t1 : t0_1.toInt ≤ lx71.toInt := i94; omega)), (show lx71.toInt ≤ t0_1.toInt from (by have z17 : (1 : Int32).toInt = 1 := rfl; have t1 : lx71.toInt ≤ t0_1.toInt := i95; omega)), (show t0_2.toInt ≤ lx72.toInt from (by have z17 : (1 : Int32).toInt = 1 := rfl; have t1 : t0_2.toInt ≤ lx72.toInt := i96; omega)), (show lx72.toInt ≤ t0_2.toInt from (by have z17 : (1 : Int32).toInt = 1 := rfl; have t1 : lx72.toInt ≤ t0_2.toInt := i97; omega)), (show t0_6.toInt ≤ lx76.toInt from (by have z17 : (1 : Int32).toInt = 1 := rfl; have t1 : t0_6.toInt ≤ lx76.toInt := i98; omega)), (show lx76.toInt ≤ t0_6.toInt from (by have z17 : (1 : Int32).toInt = 1 := rfl; have t1 : lx76.toInt ≤ t0_6.toInt := i99; omega)), (show ((1 : Int32), lx70, lx71, lx72, lx73, lx74, lx75, lx76, lx77, lx78, lx79, f144, f146, f161, lx83, lx84, lx85) = (F_WR_inverts t0_0 t0_1 t0_2 t0_3 t0_4 t0_5 t0_6 t1_0 t2_0 t3_0 t4_0 t5_0 t6_0 t7_0 t8_0 t9_0 t10_0) from Eq.trans (by have c176x := c176; rw [e175, e165, e152] at c176x; rw [e165, e153, e152, F_WR_inverts_c197.eq_1, if_neg c166, if_pos c176x]) hR154)⟩) d_19_33_271
          ·
            have b178 : q_F (0 < a171.toInt) := (q_nleI c176)
            refine lv_aload_n hx hb d_19_33_228 rfl (lv_at hl 0 rfl) ?_
            refine q_get (ci := 13) (j := 18) (v := .ref (q 132)) C0 V i_WR rfl rfl hO102 (by decide) w_1942 rfl d_19_33_229 ?_
            refine lv_aload_n hx hb d_19_33_232 rfl (lv_at hl 0 rfl) ?_
            refine q_get (ci := 13) (j := 6) (v := .ref (q 123)) C0 V i_WR rfl rfl hO102 (by decide) w_1930 rfl d_19_33_233 ?_
            refine q_gov V (q_runS (As := [.ref (q 132), .ref (q 123)]) (rest := []) (d := 1) (mc := 0) (ms := 0) C0 V rfl LS_WR_67 (X_WR_copy l D g q u159 132 264 (n_r132 g q) 123 264 (n_r123 g q)  (by decide) hI t10_0 hO112 lx77 hO103  _) rfl hl.1 rfl (Nat.le_of_ble_eq_true rfl) ⟨by decide, by decide⟩ ⟨Nat.le_of_ble_eq_true rfl, Nat.le_of_ble_eq_true rfl⟩ d_19_33_236) (fun u179 H locs hp180 V => ?_)
            obtain ⟨hI, hu184, f181, hA182, hE183⟩ := hp180
            replace hA182 : u179[123]? = (some (q 123, .inl (g 0, (264 : Int32).toNatClampNeg, .inl f181)) : Option (Nat × va_E)) := hA182
            have e185 : f181 = (F_WR_copy (264 : Int32) (264 : Int32) t10_0 lx77) := hE183
            replace hO102 := (hu184 _ (by decide)).trans hO102
            replace hO104 := (hu184 _ (by decide)).trans hO104
            replace hO105 := (hu184 _ (by decide)).trans hO105
            replace hA145 := (hu184 _ (by decide)).trans hA145
            replace hA147 := (hu184 _ (by decide)).trans hA147
            replace hA162 := (hu184 _ (by decide)).trans hA162
            replace hO109 := (hu184 _ (by decide)).trans hO109
            replace hO110 := (hu184 _ (by decide)).trans hO110
            replace hO111 := (hu184 _ (by decide)).trans hO111
            replace hO112 := (hu184 _ (by decide)).trans hO112
            replace hF := q_uc hF hu184 (by simp)
            refine lv_aload_n hx hb d_19_33_239 rfl (lv_at hl 0 rfl) ?_
            refine q_get (ci := 13) (j := 6) (v := .ref (q 123)) C0 V i_WR rfl rfl hO102 (by decide) w_1930 rfl d_19_33_240 ?_
            refine lv_aload_n hx hb d_19_33_243 rfl (lv_at hl 0 rfl) ?_
            refine q_get (ci := 13) (j := 12) (v := .ref (q 128)) C0 V i_WR rfl rfl hO102 (by decide) w_1936 rfl d_19_33_244 ?_
            refine lv_aload_n hx hb d_19_33_247 rfl (lv_at hl 0 rfl) ?_
            refine q_get (ci := 13) (j := 12) (v := .ref (q 128)) C0 V i_WR rfl rfl hO102 (by decide) w_1936 rfl d_19_33_248 ?_
            refine q_goi V (q_runS (As := [.ref (q 128)]) (rest := [.ref (q 128), .ref (q 123)]) (d := 1) (mc := 0) (ms := 0) C0 V rfl LS_WR_59 (X_WR_size l D g q u179 128 264 (n_r128 g q)  hI f161 hA162  _) rfl hl.1 rfl (Nat.le_of_ble_eq_true rfl) ⟨by decide, by decide⟩ ⟨Nat.le_of_ble_eq_true rfl, Nat.le_of_ble_eq_true rfl⟩ d_19_33_251) (fun a188 u186 H locs hp187 V => ?_)
            obtain ⟨rfl, b189, b190, hE191⟩ := hp187
            have e192 : a188 = (F_WR_size (264 : Int32) f161) := hE191
            replace b189 : q_F (0 ≤ a188.toInt) := b189
            replace b190 : q_F (a188.toInt ≤ 264) := b190
            refine lv_lconst (v := 1) hx hb d_19_33_254 (by decide) ?_
            refine lv_iconst (v := 1) hx hb d_19_33_255 (by decide) ?_
            have ob193 : True ∧ S_WR_join (264 : Int32) (264 : Int32) a188 (1 : Int64) (1 : Int32) f181 f161 := (by rw [e192, e185, e165, e152]; have h := hS155; rw [S_WR_inverts_c197.eq_1] at h; rw [if_neg c166] at h; have c176x := c176; rw [e175, e165, e152] at c176x; rw [if_neg c176x] at h; with_reducible exact h.2.1)
            refine q_gov V (q_runS (As := [.ref (q 123), .ref (q 128), .int a188, .long 1, .int 1]) (rest := []) (d := 1) (mc := 0) (ms := 0) C0 V rfl LS_WR_75 (X_WR_join l D g q u179 123 264 (n_r123 g q) 128 264 (n_r128 g q) a188 1 1 (by decide) hI f181 hA182 f161 hA162 ⟨(by have y0 : (264 : Int32).toInt = 264 := rfl; have y1 : (264 : Int32).toInt = 264 := rfl; have y2 : (1 : Int64).toInt = 1 := rfl; have y3 : (1 : Int32).toInt = 1 := rfl; omega), (by have y0 : (264 : Int32).toInt = 264 := rfl; have y1 : (264 : Int32).toInt = 264 := rfl; have y2 : (1 : Int64).toInt = 1 := rfl; have y3 : (1 : Int32).toInt = 1 := rfl; omega)⟩ ob193 _) rfl hl.1 rfl (Nat.le_of_ble_eq_true rfl) ⟨by decide, by decide⟩ ⟨Nat.le_of_ble_eq_true rfl, Nat.le_of_ble_eq_true rfl⟩ d_19_33_256) (fun u194 H locs hp195 V => ?_)
            obtain ⟨hI, hu199, f196, hA197, hE198⟩ := hp195
            replace hA197 : u194[123]? = (some (q 123, .inl (g 0, (264 : Int32).toNatClampNeg, .inl f196)) : Option (Nat × va_E)) := hA197
            have e200 : f196 = (F_WR_join (264 : Int32) (264 : Int32) a188 (1 : Int64) (1 : Int32) f181 f161) := hE198
            replace hO102 := (hu199 _ (by decide)).trans hO102
            replace hO104 := (hu199 _ (by decide)).trans hO104
            replace hO105 := (hu199 _ (by decide)).trans hO105
            replace hA145 := (hu199 _ (by decide)).trans hA145
            replace hA147 := (hu199 _ (by decide)).trans hA147
            replace hA162 := (hu199 _ (by decide)).trans hA162
            replace hO109 := (hu199 _ (by decide)).trans hO109
            replace hO110 := (hu199 _ (by decide)).trans hO110
            replace hO111 := (hu199 _ (by decide)).trans hO111
            replace hO112 := (hu199 _ (by decide)).trans hO112
            replace hF := q_uc hF hu199 (by simp)
            refine lv_aload_n hx hb d_19_33_259 rfl (lv_at hl 0 rfl) ?_
            refine q_get (ci := 13) (j := 6) (v := .ref (q 123)) C0 V i_WR rfl rfl hO102 (by decide) w_1930 rfl d_19_33_260 ?_
            refine lv_aload_n hx hb d_19_33_263 rfl (lv_at hl 0 rfl) ?_
            refine q_get (ci := 13) (j := 12) (v := .ref (q 128)) C0 V i_WR rfl rfl hO102 (by decide) w_1936 rfl d_19_33_264 ?_
            refine q_gov V (q_runS (As := [.ref (q 123), .ref (q 128)]) (rest := []) (d := 1) (mc := 0) (ms := 0) C0 V rfl LS_WR_67 (X_WR_copy l D g q u194 123 264 (n_r123 g q) 128 264 (n_r128 g q)  (by decide) hI f196 hA197 f161 hA162  _) rfl hl.1 rfl (Nat.le_of_ble_eq_true rfl) ⟨by decide, by decide⟩ ⟨Nat.le_of_ble_eq_true rfl, Nat.le_of_ble_eq_true rfl⟩ d_19_33_267) (fun u201 H locs hp202 V => ?_)
            obtain ⟨hI, hu206, f203, hA204, hE205⟩ := hp202
            replace hA204 : u201[128]? = (some (q 128, .inl (g 0, (264 : Int32).toNatClampNeg, .inl f203)) : Option (Nat × va_E)) := hA204
            have e207 : f203 = (F_WR_copy (264 : Int32) (264 : Int32) f196 f161) := hE205
            replace hO102 := (hu206 _ (by decide)).trans hO102
            replace hA197 := (hu206 _ (by decide)).trans hA197
            replace hO104 := (hu206 _ (by decide)).trans hO104
            replace hO105 := (hu206 _ (by decide)).trans hO105
            replace hA145 := (hu206 _ (by decide)).trans hA145
            replace hA147 := (hu206 _ (by decide)).trans hA147
            replace hO109 := (hu206 _ (by decide)).trans hO109
            replace hO110 := (hu206 _ (by decide)).trans hO110
            replace hO111 := (hu206 _ (by decide)).trans hO111
            replace hO112 := (hu206 _ (by decide)).trans hO112
            replace hF := q_uc hF hu206 (by simp)
            refine lv_iconst (v := 1) hx hb d_19_33_270 (by decide) ?_
            exact q_retz C0 V (by decide) (⟨hI, hF, lx70, lx71, lx72, lx73, lx74, lx75, lx76, f196, lx78, lx79, f144, f146, f203, lx83, lx84, lx85, hO102, hA197, hO104, hO105, hA145, hA147, hA204, hO109, hO110, hO111, (show 0 ≤ (1 : Int32).toInt from (by have z17 : (1 : Int32).toInt = 1 := rfl; omega)), (show (1 : Int32).toInt ≤ 1 from (by have z17 : (1 : Int32).toInt = 1 := rfl; omega)), (show 0 ≤ lx73.toInt from (by have z17 : (1 : Int32).toInt = 1 := rfl; have t1 : 0 ≤ lx73.toInt := i86; omega)), (show lx73.toInt ≤ 1 from (by have z17 : (1 : Int32).toInt = 1 := rfl; have t1 : lx73.toInt ≤ 1 := i87; omega)), (show 0 ≤ lx74.toInt from (by have z17 : (1 : Int32).toInt = 1 := rfl; have t1 : 0 ≤ lx74.toInt := i88; omega)), (show lx74.toInt ≤ 1 from (by have z17 : (1 : Int32).toInt = 1 := rfl; have t1 : lx74.toInt ≤ 1 := i89; omega)), (show 0 ≤ lx75.toInt from (by have z17 : (1 : Int32).toInt = 1 := rfl; have t1 : 0 ≤ lx75.toInt := i90; omega)), (show lx75.toInt ≤ 1 from (by have z17 : (1 : Int32).toInt = 1 := rfl; have t1 : lx75.toInt ≤ 1 := i91; omega)), (show t0_0.toInt ≤ lx70.toInt from (by have z17 : (1 : Int32).toInt = 1 := rfl; have t1 : t0_0.toInt ≤ lx70.toInt := i92; omega)), (show lx70.toInt ≤ t0_0.toInt from (by have z17 : (1 : Int32).toInt = 1 := rfl; have t1 : lx70.toInt ≤ t0_0.toInt := i93; omega)), (show t0_1.toInt ≤ lx71.toInt from (by have z17 : (1 : Int32).toInt = 1 := rfl; have t1 : t0_1.toInt ≤ lx71.toInt := i94; omega)), (show lx71.toInt ≤ t0_1.toInt from (by have z17 : (1 : Int32).toInt = 1 := rfl; have t1 : lx71.toInt ≤ t0_1.toInt := i95; omega)), (show t0_2.toInt ≤ lx72.toInt from (by have z17 : (1 : Int32).toInt = 1 := rfl; have t1 : t0_2.toInt ≤ lx72.toInt := i96; omega)), (show lx72.toInt ≤ t0_2.toInt from (by have z17 : (1 : Int32).toInt = 1 := rfl; have t1 : lx72.toInt ≤ t0_2.toInt := i97; omega)), (show t0_6.toInt ≤ lx76.toInt from (by have z17 : (1 : Int32).toInt = 1 := rfl; have t1 : t0_6.toInt ≤ lx76.toInt := i98; omega)), (show lx76.toInt ≤ t0_6.toInt from (by have z17 : (1 : Int32).toInt = 1 := rfl; have t1 : lx76.toInt ≤ t0_6.toInt := i99; omega)), (show ((1 : Int32), lx70, lx71, lx72, lx73, lx74, lx75, lx76, f196, lx78, lx79, f144, f146, f203, lx83, lx84, lx85) = (F_WR_inverts t0_0 t0_1 t0_2 t0_3 t0_4 t0_5 t0_6 t1_0 t2_0 t3_0 t4_0 t5_0 t6_0 t7_0 t8_0 t9_0 t10_0) from Eq.trans (by have c176x := c176; rw [e175, e165, e152] at c176x; rw [e207, e200, e192, e185, e165, e153, e152, F_WR_inverts_c197.eq_1, if_neg c166, if_neg c176x]) hR154)⟩) d_19_33_271
      ·
        have b208 : q_F (a137.toInt ≠ 1) := (q_neI c139)
        refine lv_iconst (v := 0) hx hb d_19_33_186 (by decide) ?_
        exact q_retz C0 V (by decide) (⟨hI, hF, lx70, lx71, lx72, lx73, lx74, lx75, lx76, lx77, lx78, lx79, lx80, lx81, lx82, lx83, lx84, lx85, hO102, hO103, hO104, hO105, hO106, hO107, hO108, hO109, hO110, hO111, (show 0 ≤ (0 : Int32).toInt from (by have z17 : (0 : Int32).toInt = 0 := rfl; omega)), (show (0 : Int32).toInt ≤ 1 from (by have z17 : (0 : Int32).toInt = 0 := rfl; omega)), (show 0 ≤ lx73.toInt from (by have z17 : (0 : Int32).toInt = 0 := rfl; have t1 : 0 ≤ lx73.toInt := i86; omega)), (show lx73.toInt ≤ 1 from (by have z17 : (0 : Int32).toInt = 0 := rfl; have t1 : lx73.toInt ≤ 1 := i87; omega)), (show 0 ≤ lx74.toInt from (by have z17 : (0 : Int32).toInt = 0 := rfl; have t1 : 0 ≤ lx74.toInt := i88; omega)), (show lx74.toInt ≤ 1 from (by have z17 : (0 : Int32).toInt = 0 := rfl; have t1 : lx74.toInt ≤ 1 := i89; omega)), (show 0 ≤ lx75.toInt from (by have z17 : (0 : Int32).toInt = 0 := rfl; have t1 : 0 ≤ lx75.toInt := i90; omega)), (show lx75.toInt ≤ 1 from (by have z17 : (0 : Int32).toInt = 0 := rfl; have t1 : lx75.toInt ≤ 1 := i91; omega)), (show t0_0.toInt ≤ lx70.toInt from (by have z17 : (0 : Int32).toInt = 0 := rfl; have t1 : t0_0.toInt ≤ lx70.toInt := i92; omega)), (show lx70.toInt ≤ t0_0.toInt from (by have z17 : (0 : Int32).toInt = 0 := rfl; have t1 : lx70.toInt ≤ t0_0.toInt := i93; omega)), (show t0_1.toInt ≤ lx71.toInt from (by have z17 : (0 : Int32).toInt = 0 := rfl; have t1 : t0_1.toInt ≤ lx71.toInt := i94; omega)), (show lx71.toInt ≤ t0_1.toInt from (by have z17 : (0 : Int32).toInt = 0 := rfl; have t1 : lx71.toInt ≤ t0_1.toInt := i95; omega)), (show t0_2.toInt ≤ lx72.toInt from (by have z17 : (0 : Int32).toInt = 0 := rfl; have t1 : t0_2.toInt ≤ lx72.toInt := i96; omega)), (show lx72.toInt ≤ t0_2.toInt from (by have z17 : (0 : Int32).toInt = 0 := rfl; have t1 : lx72.toInt ≤ t0_2.toInt := i97; omega)), (show t0_6.toInt ≤ lx76.toInt from (by have z17 : (0 : Int32).toInt = 0 := rfl; have t1 : t0_6.toInt ≤ lx76.toInt := i98; omega)), (show lx76.toInt ≤ t0_6.toInt from (by have z17 : (0 : Int32).toInt = 0 := rfl; have t1 : lx76.toInt ≤ t0_6.toInt := i99; omega)), (show ((0 : Int32), lx70, lx71, lx72, lx73, lx74, lx75, lx76, lx77, lx78, lx79, lx80, lx81, lx82, lx83, lx84, lx85) = (F_WR_inverts t0_0 t0_1 t0_2 t0_3 t0_4 t0_5 t0_6 t1_0 t2_0 t3_0 t4_0 t5_0 t6_0 t7_0 t8_0 t9_0 t10_0) from Eq.trans (by have c125x := c125; rw [e124] at c125x; have c134x := c134; rw [e133] at c134x; have c139x := c139; rw [← e138] at c139x; rw [F_WR_inverts_L36.eq_2, if_pos c125x, if_pos c134x, if_neg c139x]) hR113)⟩) d_19_33_187
  ·
    have b209 : q_F (0 < a120.toInt) := (q_nleI c125)
    refine lv_aload_n hx hb d_19_33_46 rfl (lv_at hl 0 rfl) ?_
    refine lv_aload_n hx hb d_19_33_47 rfl (lv_at hl 0 rfl) ?_
    refine q_get (ci := 13) (j := 12) (v := .ref (q 128)) C0 V i_WR rfl rfl hO102 (by decide) w_1936 rfl d_19_33_48 ?_
    refine lv_aload_n hx hb d_19_33_51 rfl (lv_at hl 0 rfl) ?_
    refine q_get (ci := 13) (j := 13) (v := .ref (q 129)) C0 V i_WR rfl rfl hO102 (by decide) w_1937 rfl d_19_33_52 ?_
    have ob210 : True ∧ S_WR_divideRows (264 : Int32) (264 : Int32) lx70 lx71 lx72 lx73 lx74 lx75 lx76 lx80 lx81 lx82 lx83 := (by have h := hS114; rw [S_WR_inverts_L36.eq_2] at h; have c125x := c125; rw [e124] at c125x; rw [if_neg c125x] at h; with_reducible exact h.2.1)
    refine q_gov V (q_runV (As := [.ref (q 128), .ref (q 129)]) (rest := []) (d := 2) (mc := 0) (ms := 0) (ci := 13) C0 V rfl LV_WR_122 (X_WR_divideRows l D g q w101 128 264 (n_r128 g q) 129 264 (n_r129 g q)  (by decide) (by decide) (by decide) (by decide) (by decide) hI lx70 lx71 lx72 lx73 lx74 lx75 lx76 hO102 lx80 hO106 lx81 hO107 lx82 hO108 lx83 hO109 ob210 _) rfl rfl hO102 rfl hl.1 rfl (Nat.le_of_ble_eq_true rfl) ⟨by decide, by decide⟩ ⟨Nat.le_of_ble_eq_true rfl, Nat.le_of_ble_eq_true rfl⟩ d_19_33_55) (fun u211 H locs hp212 V => ?_)
    obtain ⟨hI, hu218, f213, f215, hA214, hA216, hE217⟩ := hp212
    replace hA214 : u211[126]? = (some (q 126, .inl (g 0, (264 : Int32).toNatClampNeg, .inl f213)) : Option (Nat × va_E)) := hA214
    replace hA216 : u211[127]? = (some (q 127, .inl (g 0, (264 : Int32).toNatClampNeg, .inl f215)) : Option (Nat × va_E)) := hA216
    obtain ⟨p219, e220⟩ : ∃ z, z = (F_WR_divideRows (264 : Int32) (264 : Int32) lx70 lx71 lx72 lx73 lx74 lx75 lx76 lx80 lx81 lx82 lx83) := ⟨_, rfl⟩
    have e221 : f213 = p219.1 := congrArg (fun z => z.1) (hE217.trans e220.symm)
    have e222 : f215 = p219.2 := congrArg (fun z => z.2) (hE217.trans e220.symm)
    replace hO102 := (hu218 _ (by decide)).trans hO102
    replace hO103 := (hu218 _ (by decide)).trans hO103
    replace hO104 := (hu218 _ (by decide)).trans hO104
    replace hO105 := (hu218 _ (by decide)).trans hO105
    replace hO108 := (hu218 _ (by decide)).trans hO108
    replace hO109 := (hu218 _ (by decide)).trans hO109
    replace hO110 := (hu218 _ (by decide)).trans hO110
    replace hO111 := (hu218 _ (by decide)).trans hO111
    replace hO112 := (hu218 _ (by decide)).trans hO112
    replace hF := q_uc hF hu218 (by simp)
    have hR223 := (show F_WR_inverts_c55 (F_WR_inverts_L36 t0_0 t0_1 t0_2 t0_3 t0_4 t0_5 t0_6 t1_0 t2_0 t3_0 t4_0 t5_0 t6_0 t7_0 t8_0 t9_0 t10_0 fm117) t0_0 t0_1 t0_2 t0_3 t0_4 t0_5 t0_6 t1_0 t2_0 t3_0 t4_0 t5_0 t6_0 t7_0 t8_0 t9_0 t10_0 lx70 lx71 lx72 lx73 lx74 lx75 lx76 lx77 lx78 lx79 lx80 lx81 lx82 lx83 lx84 lx85 p219 = (F_WR_inverts t0_0 t0_1 t0_2 t0_3 t0_4 t0_5 t0_6 t1_0 t2_0 t3_0 t4_0 t5_0 t6_0 t7_0 t8_0 t9_0 t10_0) from Eq.trans (by have c125x := c125; rw [e124] at c125x; rw [e220, F_WR_inverts_L36.eq_2, if_neg c125x]) hR113)
    have hS224 := (show True ∧ S_WR_inverts_c55 (S_WR_inverts_L36 t0_0 t0_1 t0_2 t0_3 t0_4 t0_5 t0_6 t1_0 t2_0 t3_0 t4_0 t5_0 t6_0 t7_0 t8_0 t9_0 t10_0 fm117) t0_0 t0_1 t0_2 t0_3 t0_4 t0_5 t0_6 t1_0 t2_0 t3_0 t4_0 t5_0 t6_0 t7_0 t8_0 t9_0 t10_0 lx70 lx71 lx72 lx73 lx74 lx75 lx76 lx77 lx78 lx79 lx80 lx81 lx82 lx83 lx84 lx85 p219 from (by rw [e220]; have h := hS114; rw [S_WR_inverts_L36.eq_2] at h; have c125x := c125; rw [e124] at c125x; rw [if_neg c125x] at h; replace h := q_s2 h; with_reducible exact h))
    refine lv_aload_n hx hb d_19_33_58 rfl (lv_at hl 0 rfl) ?_
    refine q_get (ci := 13) (j := 13) (v := .ref (q 129)) C0 V i_WR rfl rfl hO102 (by decide) w_1937 rfl d_19_33_59 ?_
    refine lv_aload_n hx hb d_19_33_62 rfl (lv_at hl 0 rfl) ?_
    refine q_get (ci := 13) (j := 12) (v := .ref (q 128)) C0 V i_WR rfl rfl hO102 (by decide) w_1936 rfl d_19_33_63 ?_
    refine q_gov V (q_runS (As := [.ref (q 129), .ref (q 128)]) (rest := []) (d := 1) (mc := 0) (ms := 0) C0 V rfl LS_WR_67 (X_WR_copy l D g q u211 129 264 (n_r129 g q) 128 264 (n_r128 g q)  (by decide) hI lx83 hO109 lx82 hO108  _) rfl hl.1 rfl (Nat.le_of_ble_eq_true rfl) ⟨by decide, by decide⟩ ⟨Nat.le_of_ble_eq_true rfl, Nat.le_of_ble_eq_true rfl⟩ d_19_33_66) (fun u228 H locs hp229 V => ?_)
    obtain ⟨hI, hu233, f230, hA231, hE232⟩ := hp229
    replace hA231 : u228[128]? = (some (q 128, .inl (g 0, (264 : Int32).toNatClampNeg, .inl f230)) : Option (Nat × va_E)) := hA231
    have e234 : f230 = (F_WR_copy (264 : Int32) (264 : Int32) lx83 lx82) := hE232
    replace hO102 := (hu233 _ (by decide)).trans hO102
    replace hO103 := (hu233 _ (by decide)).trans hO103
    replace hO104 := (hu233 _ (by decide)).trans hO104
    replace hO105 := (hu233 _ (by decide)).trans hO105
    replace hA214 := (hu233 _ (by decide)).trans hA214
    replace hA216 := (hu233 _ (by decide)).trans hA216
    replace hO109 := (hu233 _ (by decide)).trans hO109
    replace hO110 := (hu233 _ (by decide)).trans hO110
    replace hO111 := (hu233 _ (by decide)).trans hO111
    replace hO112 := (hu233 _ (by decide)).trans hO112
    replace hF := q_uc hF hu233 (by simp)
    refine lv_aload_n hx hb d_19_33_69 rfl (lv_at hl 0 rfl) ?_
    refine q_get (ci := 13) (j := 10) (v := .ref (q 126)) C0 V i_WR rfl rfl hO102 (by decide) w_1934 rfl d_19_33_70 ?_
    refine lv_aload_n hx hb d_19_33_73 rfl (lv_at hl 0 rfl) ?_
    refine q_get (ci := 13) (j := 13) (v := .ref (q 129)) C0 V i_WR rfl rfl hO102 (by decide) w_1937 rfl d_19_33_74 ?_
    refine q_gov V (q_runS (As := [.ref (q 126), .ref (q 129)]) (rest := []) (d := 1) (mc := 0) (ms := 0) C0 V rfl LS_WR_67 (X_WR_copy l D g q u228 126 264 (n_r126 g q) 129 264 (n_r129 g q)  (by decide) hI f213 hA214 lx83 hO109  _) rfl hl.1 rfl (Nat.le_of_ble_eq_true rfl) ⟨by decide, by decide⟩ ⟨Nat.le_of_ble_eq_true rfl, Nat.le_of_ble_eq_true rfl⟩ d_19_33_77) (fun u235 H locs hp236 V => ?_)
    obtain ⟨hI, hu240, f237, hA238, hE239⟩ := hp236
    replace hA238 : u235[129]? = (some (q 129, .inl (g 0, (264 : Int32).toNatClampNeg, .inl f237)) : Option (Nat × va_E)) := hA238
    have e241 : f237 = (F_WR_copy (264 : Int32) (264 : Int32) f213 lx83) := hE239
    replace hO102 := (hu240 _ (by decide)).trans hO102
    replace hO103 := (hu240 _ (by decide)).trans hO103
    replace hO104 := (hu240 _ (by decide)).trans hO104
    replace hO105 := (hu240 _ (by decide)).trans hO105
    replace hA214 := (hu240 _ (by decide)).trans hA214
    replace hA216 := (hu240 _ (by decide)).trans hA216
    replace hA231 := (hu240 _ (by decide)).trans hA231
    replace hO110 := (hu240 _ (by decide)).trans hO110
    replace hO111 := (hu240 _ (by decide)).trans hO111
    replace hO112 := (hu240 _ (by decide)).trans hO112
    replace hF := q_uc hF hu240 (by simp)
    refine lv_aload_n hx hb d_19_33_80 rfl (lv_at hl 0 rfl) ?_
    refine lv_aload_n hx hb d_19_33_81 rfl (lv_at hl 0 rfl) ?_
    refine q_get (ci := 13) (j := 11) (v := .ref (q 127)) C0 V i_WR rfl rfl hO102 (by decide) w_1935 rfl d_19_33_82 ?_
    refine lv_aload_n hx hb d_19_33_85 rfl (lv_at hl 0 rfl) ?_
    refine q_get (ci := 13) (j := 15) (v := .ref (q 131)) C0 V i_WR rfl rfl hO102 (by decide) w_1939 rfl d_19_33_86 ?_
    refine lv_aload_n hx hb d_19_33_89 rfl (lv_at hl 0 rfl) ?_
    refine q_get (ci := 13) (j := 8) (v := .ref (q 124)) C0 V i_WR rfl rfl hO102 (by decide) w_1932 rfl d_19_33_90 ?_
    have ob242 : True ∧ S_WR_multiplyRows (264 : Int32) (264 : Int32) (264 : Int32) lx70 lx71 lx72 lx73 lx74 lx75 lx76 lx79 f215 lx85 lx78 := (by rw [e222]; have h := hS224; rw [S_WR_inverts_c55.eq_1] at h; with_reducible exact h.2.1)
    refine q_gov V (q_runV (As := [.ref (q 127), .ref (q 131), .ref (q 124)]) (rest := []) (d := 2) (mc := 0) (ms := 0) (ci := 13) C0 V rfl LV_WR_115 (X_WR_multiplyRows l D g q u235 127 264 (n_r127 g q) 131 264 (n_r131 g q) 124 264 (n_r124 g q)  (by decide) (by decide) (by decide) (by decide) (by decide) (by decide) hI lx70 lx71 lx72 lx73 lx74 lx75 lx76 hO102 lx79 hO105 f215 hA216 lx85 hO111 lx78 hO104 ob242 _) rfl rfl hO102 rfl hl.1 rfl (Nat.le_of_ble_eq_true rfl) ⟨by decide, by decide⟩ ⟨Nat.le_of_ble_eq_true rfl, Nat.le_of_ble_eq_true rfl⟩ d_19_33_93) (fun u243 H locs hp244 V => ?_)
    obtain ⟨hI, hu250, f245, f247, hA246, hA248, hE249⟩ := hp244
    replace hA246 : u243[125]? = (some (q 125, .inl (g 0, (528 : Int32).toNatClampNeg, .inl f245)) : Option (Nat × va_E)) := hA246
    replace hA248 : u243[124]? = (some (q 124, .inl (g 0, (264 : Int32).toNatClampNeg, .inl f247)) : Option (Nat × va_E)) := hA248
    obtain ⟨p251, e252⟩ : ∃ z, z = (F_WR_multiplyRows (264 : Int32) (264 : Int32) (264 : Int32) lx70 lx71 lx72 lx73 lx74 lx75 lx76 lx79 f215 lx85 lx78) := ⟨_, rfl⟩
    have e253 : f245 = p251.1 := congrArg (fun z => z.1) (hE249.trans e252.symm)
    have e254 : f247 = p251.2 := congrArg (fun z => z.2) (hE249.trans e252.symm)
    replace hO102 := (hu250 _ (by decide)).trans hO102
    replace hO103 := (hu250 _ (by decide)).trans hO103
    replace hA214 := (hu250 _ (by decide)).trans hA214
    replace hA216 := (hu250 _ (by decide)).trans hA216
    replace hA231 := (hu250 _ (by decide)).trans hA231
    replace hA238 := (hu250 _ (by decide)).trans hA238
    replace hO110 := (hu250 _ (by decide)).trans hO110
    replace hO111 := (hu250 _ (by decide)).trans hO111
    replace hO112 := (hu250 _ (by decide)).trans hO112
    replace hF := q_uc hF hu250 (by simp)
    have hR255 := (show F_WR_inverts_c93 (F_WR_inverts_L36 t0_0 t0_1 t0_2 t0_3 t0_4 t0_5 t0_6 t1_0 t2_0 t3_0 t4_0 t5_0 t6_0 t7_0 t8_0 t9_0 t10_0 fm117) t0_0 t0_1 t0_2 t0_3 t0_4 t0_5 t0_6 t1_0 t2_0 t3_0 t4_0 t5_0 t6_0 t7_0 t8_0 t9_0 t10_0 lx70 lx71 lx72 lx73 lx74 lx75 lx76 lx77 lx78 lx79 lx80 lx81 lx82 lx83 lx84 lx85 p219 f213 f215 f230 f237 p251 = (F_WR_inverts t0_0 t0_1 t0_2 t0_3 t0_4 t0_5 t0_6 t1_0 t2_0 t3_0 t4_0 t5_0 t6_0 t7_0 t8_0 t9_0 t10_0) from Eq.trans (by rw [e252, e241, e234, e222, e221, F_WR_inverts_c55.eq_1]) hR223)
    have hS256 := (show True ∧ S_WR_inverts_c93 (S_WR_inverts_L36 t0_0 t0_1 t0_2 t0_3 t0_4 t0_5 t0_6 t1_0 t2_0 t3_0 t4_0 t5_0 t6_0 t7_0 t8_0 t9_0 t10_0 fm117) t0_0 t0_1 t0_2 t0_3 t0_4 t0_5 t0_6 t1_0 t2_0 t3_0 t4_0 t5_0 t6_0 t7_0 t8_0 t9_0 t10_0 lx70 lx71 lx72 lx73 lx74 lx75 lx76 lx77 lx78 lx79 lx80 lx81 lx82 lx83 lx84 lx85 p219 f213 f215 f230 f237 p251 from (by rw [e252, e241, e234, e222, e221]; have h := hS224; rw [S_WR_inverts_c55.eq_1] at h; replace h := q_s2 h; with_reducible exact h))
    refine lv_aload_n hx hb d_19_33_96 rfl (lv_at hl 0 rfl) ?_
    refine lv_aload_n hx hb d_19_33_97 rfl (lv_at hl 0 rfl) ?_
    refine q_get (ci := 13) (j := 14) (v := .ref (q 130)) C0 V i_WR rfl rfl hO102 (by decide) w_1938 rfl d_19_33_98 ?_
    refine lv_aload_n hx hb d_19_33_101 rfl (lv_at hl 0 rfl) ?_
    refine q_get (ci := 13) (j := 16) (v := .int lx74) C0 V i_WR rfl rfl hO102 (by decide) w_1940 rfl d_19_33_102 ?_
    refine lv_aload_n hx hb d_19_33_105 rfl (lv_at hl 0 rfl) ?_
    refine q_get (ci := 13) (j := 8) (v := .ref (q 124)) C0 V i_WR rfl rfl hO102 (by decide) w_1932 rfl d_19_33_106 ?_
    refine lv_aload_n hx hb d_19_33_109 rfl (lv_at hl 0 rfl) ?_
    refine q_get (ci := 13) (j := 17) (v := .int lx75) C0 V i_WR rfl rfl hO102 (by decide) w_1941 rfl d_19_33_110 ?_
    refine q_join (X := Int32) (fun z H locs ls _ => q_F (0 ≤ z.toInt) ∧ q_F (z.toInt ≤ 1) ∧ q_Wd D g (va_A ws sz) s u243 H locs ∧ lv_has ls 1 [(0, .ref (q 119))] ∧ F_WR_inverts_J121 (F_WR_inverts_L36 t0_0 t0_1 t0_2 t0_3 t0_4 t0_5 t0_6 t1_0 t2_0 t3_0 t4_0 t5_0 t6_0 t7_0 t8_0 t9_0 t10_0 fm117) t0_0 t0_1 t0_2 t0_3 t0_4 t0_5 t0_6 t1_0 t2_0 t3_0 t4_0 t5_0 t6_0 t7_0 t8_0 t9_0 t10_0 lx70 lx71 lx72 lx73 lx74 lx75 lx76 lx77 lx78 lx79 lx80 lx81 lx82 lx83 lx84 lx85 p219 f213 f215 f230 f237 p251 f247 f245 z = (F_WR_inverts t0_0 t0_1 t0_2 t0_3 t0_4 t0_5 t0_6 t1_0 t2_0 t3_0 t4_0 t5_0 t6_0 t7_0 t8_0 t9_0 t10_0) ∧ True ∧ S_WR_inverts_J121 (S_WR_inverts_L36 t0_0 t0_1 t0_2 t0_3 t0_4 t0_5 t0_6 t1_0 t2_0 t3_0 t4_0 t5_0 t6_0 t7_0 t8_0 t9_0 t10_0 fm117) t0_0 t0_1 t0_2 t0_3 t0_4 t0_5 t0_6 t1_0 t2_0 t3_0 t4_0 t5_0 t6_0 t7_0 t8_0 t9_0 t10_0 lx70 lx71 lx72 lx73 lx74 lx75 lx76 lx77 lx78 lx79 lx80 lx81 lx82 lx83 lx84 lx85 p219 f213 f215 f230 f237 p251 f247 f245 z) (fun z => [.int z, .ref (q 124), .int lx74, .ref (q 130), .ref (q 119)]) 121 0 0 ?_ ?_
    ·
      rintro lx260 H locs ls _ ⟨i273, i274, V, hl, hR275, hS276⟩
      replace i273 : q_F (0 ≤ lx260.toInt) := i273
      replace i274 : q_F (lx260.toInt ≤ 1) := i274
      replace hl : lv_has ls 1 [(0, .ref (q 119))] := hl
      have ob280 : True ∧ S_WR_sum (264 : Int32) lx74 (264 : Int32) lx260 lx70 lx71 lx72 lx73 lx74 lx75 lx76 lx77 lx84 f247 := (by have h := hS276; rw [S_WR_inverts_J121.eq_1] at h; with_reducible exact h.2.1)
      refine q_gov V (q_runV (As := [.ref (q 130), .int lx74, .ref (q 124), .int lx260]) (rest := []) (d := 2) (mc := 0) (ms := 0) (ci := 13) C0 V rfl LV_WR_111 (X_WR_sum l D g q u243 130 264 (n_r130 g q) 124 264 (n_r124 g q) lx74 lx260 (by decide) (by decide) (by decide) hI lx70 lx71 lx72 lx73 lx74 lx75 lx76 hO102 lx77 hO103 lx84 hO110 f247 hA248 ⟨(by have y0 : (264 : Int32).toInt = 264 := rfl; have y1 : (264 : Int32).toInt = 264 := rfl; have t1 : 0 ≤ lx74.toInt := i88; omega), (by have y0 : (264 : Int32).toInt = 264 := rfl; have y1 : (264 : Int32).toInt = 264 := rfl; have t1 : lx74.toInt ≤ 1 := i89; omega)⟩ ⟨(by have y0 : (264 : Int32).toInt = 264 := rfl; have y1 : (264 : Int32).toInt = 264 := rfl; have t1 : 0 ≤ lx260.toInt := i273; omega), (by have y0 : (264 : Int32).toInt = 264 := rfl; have y1 : (264 : Int32).toInt = 264 := rfl; have t1 : lx260.toInt ≤ 1 := i274; omega)⟩ ob280 _) rfl rfl hO102 rfl hl.1 rfl (Nat.le_of_ble_eq_true rfl) ⟨by decide, by decide⟩ ⟨Nat.le_of_ble_eq_true rfl, Nat.le_of_ble_eq_true rfl⟩ d_19_33_121) (fun u281 H locs hp282 V => ?_)
      obtain ⟨hI, hu308, y284, y285, y286, y287, y288, y289, y290, f291, hO283, hA292, b293, b294, b295, b296, b297, b298, b299, b300, b301, b302, b303, b304, b305, b306, hE307⟩ := hp282
      replace hO283 : u281[119]? = (some (q 119, .inr (13, [.int y284, .int y285, .ref (q 120), .int y286, .ref (q 121), .ref (q 122), .ref (q 123), .int y287, .ref (q 124), .ref (q 125), .ref (q 126), .ref (q 127), .ref (q 128), .ref (q 129), .ref (q 130), .ref (q 131), .int y288, .int y289, .ref (q 132), .ref (q 133), .int y290])) : Option (Nat × va_E)) := hO283
      replace hA292 : u281[123]? = (some (q 123, .inl (g 0, (264 : Int32).toNatClampNeg, .inl f291)) : Option (Nat × va_E)) := hA292
      obtain ⟨p309, e310⟩ : ∃ z, z = (F_WR_sum (264 : Int32) lx74 (264 : Int32) lx260 lx70 lx71 lx72 lx73 lx74 lx75 lx76 lx77 lx84 f247) := ⟨_, rfl⟩
      have e311 : y284 = p309.1 := congrArg (fun z => z.1) (hE307.trans e310.symm)
      have e312 : y285 = p309.2.1 := congrArg (fun z => z.2.1) (hE307.trans e310.symm)
      have e313 : y286 = p309.2.2.1 := congrArg (fun z => z.2.2.1) (hE307.trans e310.symm)
      have e314 : y287 = p309.2.2.2.1 := congrArg (fun z => z.2.2.2.1) (hE307.trans e310.symm)
      have e315 : y288 = p309.2.2.2.2.1 := congrArg (fun z => z.2.2.2.2.1) (hE307.trans e310.symm)
      have e316 : y289 = p309.2.2.2.2.2.1 := congrArg (fun z => z.2.2.2.2.2.1) (hE307.trans e310.symm)
      have e317 : y290 = p309.2.2.2.2.2.2.1 := congrArg (fun z => z.2.2.2.2.2.2.1) (hE307.trans e310.symm)
      have e318 : f291 = p309.2.2.2.2.2.2.2 := congrArg (fun z => z.2.2.2.2.2.2.2) (hE307.trans e310.symm)
      replace b293 : q_F (0 ≤ y287.toInt) := b293
      replace b294 : q_F (y287.toInt ≤ 1) := b294
      replace b295 : q_F (lx70.toInt ≤ y284.toInt) := b295
      replace b296 : q_F (y284.toInt ≤ lx70.toInt) := b296
      replace b297 : q_F (lx71.toInt ≤ y285.toInt) := b297
      replace b298 : q_F (y285.toInt ≤ lx71.toInt) := b298
      replace b299 : q_F (lx72.toInt ≤ y286.toInt) := b299
      replace b300 : q_F (y286.toInt ≤ lx72.toInt) := b300
      replace b301 : q_F (lx74.toInt ≤ y288.toInt) := b301
      replace b302 : q_F (y288.toInt ≤ lx74.toInt) := b302
      replace b303 : q_F (lx75.toInt ≤ y289.toInt) := b303
      replace b304 : q_F (y289.toInt ≤ lx75.toInt) := b304
      replace b305 : q_F (lx76.toInt ≤ y290.toInt) := b305
      replace b306 : q_F (y290.toInt ≤ lx76.toInt) := b306
      replace hA248 := (hu308 _ (by decide)).trans hA248
      replace hA246 := (hu308 _ (by decide)).trans hA246
      replace hA214 := (hu308 _ (by decide)).trans hA214
      replace hA216 := (hu308 _ (by decide)).trans hA216
      replace hA231 := (hu308 _ (by decide)).trans hA231
      replace hA238 := (hu308 _ (by decide)).trans hA238
      replace hO110 := (hu308 _ (by decide)).trans hO110
      replace hO111 := (hu308 _ (by decide)).trans hO111
      replace hO112 := (hu308 _ (by decide)).trans hO112
      replace hF := q_uc hF hu308 (by simp)
      have hR319 := (show F_WR_inverts_c121 (F_WR_inverts_L36 t0_0 t0_1 t0_2 t0_3 t0_4 t0_5 t0_6 t1_0 t2_0 t3_0 t4_0 t5_0 t6_0 t7_0 t8_0 t9_0 t10_0 fm117) t0_0 t0_1 t0_2 t0_3 t0_4 t0_5 t0_6 t1_0 t2_0 t3_0 t4_0 t5_0 t6_0 t7_0 t8_0 t9_0 t10_0 lx70 lx71 lx72 lx73 lx74 lx75 lx76 lx77 lx78 lx79 lx80 lx81 lx82 lx83 lx84 lx85 p219 f213 f215 f230 f237 p251 f247 f245 lx260 p309 = (F_WR_inverts t0_0 t0_1 t0_2 t0_3 t0_4 t0_5 t0_6 t1_0 t2_0 t3_0 t4_0 t5_0 t6_0 t7_0 t8_0 t9_0 t10_0) from Eq.trans (by rw [e310, F_WR_inverts_J121.eq_1]) hR275)
      have hS320 := (show True ∧ S_WR_inverts_c121 (S_WR_inverts_L36 t0_0 t0_1 t0_2 t0_3 t0_4 t0_5 t0_6 t1_0 t2_0 t3_0 t4_0 t5_0 t6_0 t7_0 t8_0 t9_0 t10_0 fm117) t0_0 t0_1 t0_2 t0_3 t0_4 t0_5 t0_6 t1_0 t2_0 t3_0 t4_0 t5_0 t6_0 t7_0 t8_0 t9_0 t10_0 lx70 lx71 lx72 lx73 lx74 lx75 lx76 lx77 lx78 lx79 lx80 lx81 lx82 lx83 lx84 lx85 p219 f213 f215 f230 f237 p251 f247 f245 lx260 p309 from (by rw [e310]; have h := hS276; rw [S_WR_inverts_J121.eq_1] at h; replace h := q_s2 h; with_reducible exact h))
      refine lv_aload_n hx hb d_19_33_124 rfl (lv_at hl 0 rfl) ?_
      refine q_get (ci := 13) (j := 15) (v := .ref (q 131)) C0 V i_WR rfl rfl hO283 (by decide) w_1939 rfl d_19_33_125 ?_
      refine lv_aload_n hx hb d_19_33_128 rfl (lv_at hl 0 rfl) ?_
      refine q_get (ci := 13) (j := 14) (v := .ref (q 130)) C0 V i_WR rfl rfl hO283 (by decide) w_1938 rfl d_19_33_129 ?_
      refine q_gov V (q_runS (As := [.ref (q 131), .ref (q 130)]) (rest := []) (d := 1) (mc := 0) (ms := 0) C0 V rfl LS_WR_67 (X_WR_copy l D g q u281 131 264 (n_r131 g q) 130 264 (n_r130 g q)  (by decide) hI lx85 hO111 lx84 hO110  _) rfl hl.1 rfl (Nat.le_of_ble_eq_true rfl) ⟨by decide, by decide⟩ ⟨Nat.le_of_ble_eq_true rfl, Nat.le_of_ble_eq_true rfl⟩ d_19_33_132) (fun u324 H locs hp325 V => ?_)
      obtain ⟨hI, hu329, f326, hA327, hE328⟩ := hp325
      replace hA327 : u324[130]? = (some (q 130, .inl (g 0, (264 : Int32).toNatClampNeg, .inl f326)) : Option (Nat × va_E)) := hA327
      have e330 : f326 = (F_WR_copy (264 : Int32) (264 : Int32) lx85 lx84) := hE328
      replace hO283 := (hu329 _ (by decide)).trans hO283
      replace hA292 := (hu329 _ (by decide)).trans hA292
      replace hA248 := (hu329 _ (by decide)).trans hA248
      replace hA246 := (hu329 _ (by decide)).trans hA246
      replace hA214 := (hu329 _ (by decide)).trans hA214
      replace hA216 := (hu329 _ (by decide)).trans hA216
      replace hA231 := (hu329 _ (by decide)).trans hA231
      replace hA238 := (hu329 _ (by decide)).trans hA238
      replace hO111 := (hu329 _ (by decide)).trans hO111
      replace hO112 := (hu329 _ (by decide)).trans hO112
      replace hF := q_uc hF hu329 (by simp)
      refine lv_aload_n hx hb d_19_33_135 rfl (lv_at hl 0 rfl) ?_
      refine lv_aload_n hx hb d_19_33_136 rfl (lv_at hl 0 rfl) ?_
      refine q_get (ci := 13) (j := 17) (v := .int y289) C0 V i_WR rfl rfl hO283 (by decide) w_1941 rfl d_19_33_137 ?_
      refine q_put (ci := 13) (j := 16) (v := .int y289) (ty := .boolean) C0 V i_WR o_WR n_WR rfl rfl hO283 (by decide) w_1940 rfl rfl (q_nz01 (q_Ile (x := 0) (y := y289.toInt) (by decide) rfl (by have t1 : 0 ≤ lx75.toInt := i90; have t2 : lx75.toInt ≤ y289.toInt := b303; omega)) (q_Ile (x := y289.toInt) (y := 1) rfl (by decide) (by have t1 : lx75.toInt ≤ 1 := i91; have t2 : y289.toInt ≤ lx75.toInt := b304; omega))) (q_fz01 (q_Ile (x := 0) (y := y289.toInt) (by decide) rfl (by have t1 : 0 ≤ lx75.toInt := i90; have t2 : lx75.toInt ≤ y289.toInt := b303; omega)) (q_Ile (x := y289.toInt) (y := 1) rfl (by decide) (by have t1 : lx75.toInt ≤ 1 := i91; have t2 : y289.toInt ≤ lx75.toInt := b304; omega))) (Nat.le_of_ble_eq_true rfl) d_19_33_140 (fun H locs w331 hu332 hO283 V => ?_)
      replace hO283 : w331[119]? = (some (q 119, .inr (13, [.int y284, .int y285, .ref (q 120), .int y286, .ref (q 121), .ref (q 122), .ref (q 123), .int y287, .ref (q 124), .ref (q 125), .ref (q 126), .ref (q 127), .ref (q 128), .ref (q 129), .ref (q 130), .ref (q 131), .int y289, .int y289, .ref (q 132), .ref (q 133), .int y290])) : Option (Nat × va_E)) := hO283
      replace hI := n_p119 hI hu332 hO283 ⟨(by have t1 : 0 ≤ t0_2.toInt ∧ t0_2.toInt ≤ 4100 := btt0_2; have t2 : t0_2.toInt ≤ lx72.toInt := i96; have t3 : lx72.toInt ≤ y286.toInt := b299; omega), (by have t1 : 0 ≤ t0_2.toInt ∧ t0_2.toInt ≤ 4100 := btt0_2; have t2 : lx72.toInt ≤ t0_2.toInt := i97; have t3 : y286.toInt ≤ lx72.toInt := b300; omega)⟩ ⟨(by have t1 : 0 ≤ y287.toInt := b293; omega), (by have t1 : y287.toInt ≤ 1 := b294; omega)⟩ ⟨(by have t1 : 0 ≤ lx75.toInt := i90; have t2 : lx75.toInt ≤ y289.toInt := b303; omega), (by have t1 : lx75.toInt ≤ 1 := i91; have t2 : y289.toInt ≤ lx75.toInt := b304; omega)⟩ ⟨(by have t1 : 0 ≤ lx75.toInt := i90; have t2 : lx75.toInt ≤ y289.toInt := b303; omega), (by have t1 : lx75.toInt ≤ 1 := i91; have t2 : y289.toInt ≤ lx75.toInt := b304; omega)⟩ ⟨(by have t1 : 0 ≤ t0_6.toInt ∧ t0_6.toInt ≤ 2100 := btt0_6; have t2 : t0_6.toInt ≤ lx76.toInt := i98; have t3 : lx76.toInt ≤ y290.toInt := b305; omega), (by have t1 : 0 ≤ t0_6.toInt ∧ t0_6.toInt ≤ 2100 := btt0_6; have t2 : lx76.toInt ≤ t0_6.toInt := i99; have t3 : y290.toInt ≤ lx76.toInt := b306; omega)⟩
      replace hA292 := (hu332 _ (by decide)).trans hA292
      replace hA248 := (hu332 _ (by decide)).trans hA248
      replace hA246 := (hu332 _ (by decide)).trans hA246
      replace hA214 := (hu332 _ (by decide)).trans hA214
      replace hA216 := (hu332 _ (by decide)).trans hA216
      replace hA231 := (hu332 _ (by decide)).trans hA231
      replace hA238 := (hu332 _ (by decide)).trans hA238
      replace hA327 := (hu332 _ (by decide)).trans hA327
      replace hO111 := (hu332 _ (by decide)).trans hO111
      replace hO112 := (hu332 _ (by decide)).trans hO112
      replace hF := q_us hF hu332 (by simp)
      refine lv_aload_n hx hb d_19_33_143 rfl (lv_at hl 0 rfl) ?_
      refine q_get (ci := 13) (j := 6) (v := .ref (q 123)) C0 V i_WR rfl rfl hO283 (by decide) w_1930 rfl d_19_33_144 ?_
      refine lv_aload_n hx hb d_19_33_147 rfl (lv_at hl 0 rfl) ?_
      refine q_get (ci := 13) (j := 15) (v := .ref (q 131)) C0 V i_WR rfl rfl hO283 (by decide) w_1939 rfl d_19_33_148 ?_
      refine q_gov V (q_runS (As := [.ref (q 123), .ref (q 131)]) (rest := []) (d := 1) (mc := 0) (ms := 0) C0 V rfl LS_WR_67 (X_WR_copy l D g q w331 123 264 (n_r123 g q) 131 264 (n_r131 g q)  (by decide) hI f291 hA292 lx85 hO111  _) rfl hl.1 rfl (Nat.le_of_ble_eq_true rfl) ⟨by decide, by decide⟩ ⟨Nat.le_of_ble_eq_true rfl, Nat.le_of_ble_eq_true rfl⟩ d_19_33_151) (fun u333 H locs hp334 V => ?_)
      obtain ⟨hI, hu338, f335, hA336, hE337⟩ := hp334
      replace hA336 : u333[131]? = (some (q 131, .inl (g 0, (264 : Int32).toNatClampNeg, .inl f335)) : Option (Nat × va_E)) := hA336
      have e339 : f335 = (F_WR_copy (264 : Int32) (264 : Int32) f291 lx85) := hE337
      replace hO283 := (hu338 _ (by decide)).trans hO283
      replace hA292 := (hu338 _ (by decide)).trans hA292
      replace hA248 := (hu338 _ (by decide)).trans hA248
      replace hA246 := (hu338 _ (by decide)).trans hA246
      replace hA214 := (hu338 _ (by decide)).trans hA214
      replace hA216 := (hu338 _ (by decide)).trans hA216
      replace hA231 := (hu338 _ (by decide)).trans hA231
      replace hA238 := (hu338 _ (by decide)).trans hA238
      replace hA327 := (hu338 _ (by decide)).trans hA327
      replace hO112 := (hu338 _ (by decide)).trans hO112
      replace hF := q_uc hF hu338 (by simp)
      refine lv_aload_n hx hb d_19_33_154 rfl (lv_at hl 0 rfl) ?_
      refine lv_aload_n hx hb d_19_33_155 rfl (lv_at hl 0 rfl) ?_
      refine q_get (ci := 13) (j := 7) (v := .int y287) C0 V i_WR rfl rfl hO283 (by decide) w_1931 rfl d_19_33_156 ?_
      refine q_put (ci := 13) (j := 17) (v := .int y287) (ty := .boolean) C0 V i_WR o_WR n_WR rfl rfl hO283 (by decide) w_1941 rfl rfl (q_nz01 (q_Ile (x := 0) (y := y287.toInt) (by decide) rfl (by have t1 : 0 ≤ y287.toInt := b293; omega)) (q_Ile (x := y287.toInt) (y := 1) rfl (by decide) (by have t1 : y287.toInt ≤ 1 := b294; omega))) (q_fz01 (q_Ile (x := 0) (y := y287.toInt) (by decide) rfl (by have t1 : 0 ≤ y287.toInt := b293; omega)) (q_Ile (x := y287.toInt) (y := 1) rfl (by decide) (by have t1 : y287.toInt ≤ 1 := b294; omega))) (Nat.le_of_ble_eq_true rfl) d_19_33_159 (fun H locs w340 hu341 hO283 V => ?_)
      replace hO283 : w340[119]? = (some (q 119, .inr (13, [.int y284, .int y285, .ref (q 120), .int y286, .ref (q 121), .ref (q 122), .ref (q 123), .int y287, .ref (q 124), .ref (q 125), .ref (q 126), .ref (q 127), .ref (q 128), .ref (q 129), .ref (q 130), .ref (q 131), .int y289, .int y287, .ref (q 132), .ref (q 133), .int y290])) : Option (Nat × va_E)) := hO283
      replace hI := n_p119 hI hu341 hO283 ⟨(by have t1 : 0 ≤ t0_2.toInt ∧ t0_2.toInt ≤ 4100 := btt0_2; have t2 : t0_2.toInt ≤ lx72.toInt := i96; have t3 : lx72.toInt ≤ y286.toInt := b299; omega), (by have t1 : 0 ≤ t0_2.toInt ∧ t0_2.toInt ≤ 4100 := btt0_2; have t2 : lx72.toInt ≤ t0_2.toInt := i97; have t3 : y286.toInt ≤ lx72.toInt := b300; omega)⟩ ⟨(by have t1 : 0 ≤ y287.toInt := b293; omega), (by have t1 : y287.toInt ≤ 1 := b294; omega)⟩ ⟨(by have t1 : 0 ≤ lx75.toInt := i90; have t2 : lx75.toInt ≤ y289.toInt := b303; omega), (by have t1 : lx75.toInt ≤ 1 := i91; have t2 : y289.toInt ≤ lx75.toInt := b304; omega)⟩ ⟨(by have t1 : 0 ≤ y287.toInt := b293; omega), (by have t1 : y287.toInt ≤ 1 := b294; omega)⟩ ⟨(by have t1 : 0 ≤ t0_6.toInt ∧ t0_6.toInt ≤ 2100 := btt0_6; have t2 : t0_6.toInt ≤ lx76.toInt := i98; have t3 : lx76.toInt ≤ y290.toInt := b305; omega), (by have t1 : 0 ≤ t0_6.toInt ∧ t0_6.toInt ≤ 2100 := btt0_6; have t2 : lx76.toInt ≤ t0_6.toInt := i99; have t3 : y290.toInt ≤ lx76.toInt := b306; omega)⟩
      replace hA292 := (hu341 _ (by decide)).trans hA292
      replace hA248 := (hu341 _ (by decide)).trans hA248
      replace hA246 := (hu341 _ (by decide)).trans hA246
      replace hA214 := (hu341 _ (by decide)).trans hA214
      replace hA216 := (hu341 _ (by decide)).trans hA216
      replace hA231 := (hu341 _ (by decide)).trans hA231
      replace hA238 := (hu341 _ (by decide)).trans hA238
      replace hA327 := (hu341 _ (by decide)).trans hA327
      replace hA336 := (hu341 _ (by decide)).trans hA336
      replace hO112 := (hu341 _ (by decide)).trans hO112
      replace hF := q_us hF hu341 (by simp)
      refine lv_goto (tgt := 36) hx hb d_19_33_162 (by decide) ?_
      exact ih100 ((fm117 : Nat), (y284 : Int32), (y285 : Int32), (y286 : Int32), (y287 : Int32), (y289 : Int32), (y287 : Int32), (y290 : Int32), (f291 : (Nat → Int32)), (f247 : (Nat → Int32)), (f245 : (Nat → Int32)), (f213 : (Nat → Int32)), (f215 : (Nat → Int32)), (f230 : (Nat → Int32)), (f237 : (Nat → Int32)), (f326 : (Nat → Int32)), (f335 : (Nat → Int32))) _ _ _ _ (Nat.lt_succ_self _) ⟨(show q_F (0 ≤ y287.toInt) from (show 0 ≤ y287.toInt from by have t1 : 0 ≤ y287.toInt := b293; omega)), (show q_F (y287.toInt ≤ 1) from (show y287.toInt ≤ 1 from by have t1 : y287.toInt ≤ 1 := b294; omega)), (show q_F (0 ≤ y289.toInt) from (show 0 ≤ y289.toInt from by have t1 : 0 ≤ lx75.toInt := i90; have t2 : lx75.toInt ≤ y289.toInt := b303; omega)), (show q_F (y289.toInt ≤ 1) from (show y289.toInt ≤ 1 from by have t1 : lx75.toInt ≤ 1 := i91; have t2 : y289.toInt ≤ lx75.toInt := b304; omega)), (show q_F (0 ≤ y287.toInt) from (show 0 ≤ y287.toInt from by have t1 : 0 ≤ y287.toInt := b293; omega)), (show q_F (y287.toInt ≤ 1) from (show y287.toInt ≤ 1 from by have t1 : y287.toInt ≤ 1 := b294; omega)), (show q_F (t0_0.toInt ≤ y284.toInt) from (show t0_0.toInt ≤ y284.toInt from by have t1 : t0_0.toInt ≤ lx70.toInt := i92; have t2 : lx70.toInt ≤ y284.toInt := b295; omega)), (show q_F (y284.toInt ≤ t0_0.toInt) from (show y284.toInt ≤ t0_0.toInt from by have t1 : lx70.toInt ≤ t0_0.toInt := i93; have t2 : y284.toInt ≤ lx70.toInt := b296; omega)), (show q_F (t0_1.toInt ≤ y285.toInt) from (show t0_1.toInt ≤ y285.toInt from by have t1 : t0_1.toInt ≤ lx71.toInt := i94; have t2 : lx71.toInt ≤ y285.toInt := b297; omega)), (show q_F (y285.toInt ≤ t0_1.toInt) from (show y285.toInt ≤ t0_1.toInt from by have t1 : lx71.toInt ≤ t0_1.toInt := i95; have t2 : y285.toInt ≤ lx71.toInt := b298; omega)), (show q_F (t0_2.toInt ≤ y286.toInt) from (show t0_2.toInt ≤ y286.toInt from by have t1 : t0_2.toInt ≤ lx72.toInt := i96; have t2 : lx72.toInt ≤ y286.toInt := b299; omega)), (show q_F (y286.toInt ≤ t0_2.toInt) from (show y286.toInt ≤ t0_2.toInt from by have t1 : lx72.toInt ≤ t0_2.toInt := i97; have t2 : y286.toInt ≤ lx72.toInt := b300; omega)), (show q_F (t0_6.toInt ≤ y290.toInt) from (show t0_6.toInt ≤ y290.toInt from by have t1 : t0_6.toInt ≤ lx76.toInt := i98; have t2 : lx76.toInt ≤ y290.toInt := b305; omega)), (show q_F (y290.toInt ≤ t0_6.toInt) from (show y290.toInt ≤ t0_6.toInt from by have t1 : lx76.toInt ≤ t0_6.toInt := i99; have t2 : y290.toInt ≤ lx76.toInt := b306; omega)), V, q_lw hl (q_lw1 0 rfl q_lw0), hI, hF, hO283, hA292, hA248, hA246, hA214, hA216, hA231, hA238, hA327, hA336, hO112, (show F_WR_inverts_L36 t0_0 t0_1 t0_2 t0_3 t0_4 t0_5 t0_6 t1_0 t2_0 t3_0 t4_0 t5_0 t6_0 t7_0 t8_0 t9_0 t10_0 fm117 y284 y285 y286 y287 y289 y287 y290 f291 f247 f245 f213 f215 f230 f237 f326 f335 = (F_WR_inverts t0_0 t0_1 t0_2 t0_3 t0_4 t0_5 t0_6 t1_0 t2_0 t3_0 t4_0 t5_0 t6_0 t7_0 t8_0 t9_0 t10_0) from Eq.trans (by rw [e339, e330, e318, e317, e316, e314, e313, e312, e311, F_WR_inverts_c121.eq_1]) hR319), (show True ∧ S_WR_inverts_L36 t0_0 t0_1 t0_2 t0_3 t0_4 t0_5 t0_6 t1_0 t2_0 t3_0 t4_0 t5_0 t6_0 t7_0 t8_0 t9_0 t10_0 fm117 y284 y285 y286 y287 y289 y287 y290 f291 f247 f245 f213 f215 f230 f237 f326 f335 from (by rw [e339, e330, e318, e317, e316, e314, e313, e312, e311]; have h := hS320; rw [S_WR_inverts_c121.eq_1] at h; with_reducible exact h))⟩
    ·
      intro J272
      refine lv_if_ne (tgt := 120) hx hb d_19_33_113 (by decide) (fun c342 => ?_) (fun c342 => ?_)
      ·
        have b343 : q_F (lx75.toInt ≠ 0) := (q_neI c342)
        refine lv_iconst (v := 0) hx hb d_19_33_120 (by decide) ?_
        exact J272 ((0 : Int32)) _ _ _ u243 ⟨(show q_F (0 ≤ 0) from (show 0 ≤ 0 from by omega)), (show q_F (0 ≤ 1) from (show 0 ≤ 1 from by omega)), V, q_lw hl (q_lw1 0 rfl q_lw0), (show F_WR_inverts_J121 (F_WR_inverts_L36 t0_0 t0_1 t0_2 t0_3 t0_4 t0_5 t0_6 t1_0 t2_0 t3_0 t4_0 t5_0 t6_0 t7_0 t8_0 t9_0 t10_0 fm117) t0_0 t0_1 t0_2 t0_3 t0_4 t0_5 t0_6 t1_0 t2_0 t3_0 t4_0 t5_0 t6_0 t7_0 t8_0 t9_0 t10_0 lx70 lx71 lx72 lx73 lx74 lx75 lx76 lx77 lx78 lx79 lx80 lx81 lx82 lx83 lx84 lx85 p219 f213 f215 f230 f237 p251 f247 f245 0 = (F_WR_inverts t0_0 t0_1 t0_2 t0_3 t0_4 t0_5 t0_6 t1_0 t2_0 t3_0 t4_0 t5_0 t6_0 t7_0 t8_0 t9_0 t10_0) from Eq.trans (by rw [e254, e253, F_WR_inverts_c93.eq_1, if_neg c342]) hR255), (show True ∧ S_WR_inverts_J121 (S_WR_inverts_L36 t0_0 t0_1 t0_2 t0_3 t0_4 t0_5 t0_6 t1_0 t2_0 t3_0 t4_0 t5_0 t6_0 t7_0 t8_0 t9_0 t10_0 fm117) t0_0 t0_1 t0_2 t0_3 t0_4 t0_5 t0_6 t1_0 t2_0 t3_0 t4_0 t5_0 t6_0 t7_0 t8_0 t9_0 t10_0 lx70 lx71 lx72 lx73 lx74 lx75 lx76 lx77 lx78 lx79 lx80 lx81 lx82 lx83 lx84 lx85 p219 f213 f215 f230 f237 p251 f247 f245 0 from (by rw [e254, e253]; have h := hS256; rw [S_WR_inverts_c93.eq_1] at h; rw [if_neg c342] at h; with_reducible exact h))⟩
      ·
        have b344 : q_F (lx75.toInt = 0) := (q_eqI c342)
        refine lv_iconst (v := 1) hx hb d_19_33_116 (by decide) ?_
        refine lv_goto (tgt := 121) hx hb d_19_33_117 (by decide) ?_
        exact J272 ((1 : Int32)) _ _ _ u243 ⟨(show q_F (0 ≤ 1) from (show 0 ≤ 1 from by omega)), (show q_F (1 ≤ 1) from (show 1 ≤ 1 from by omega)), V, q_lw hl (q_lw1 0 rfl q_lw0), (show F_WR_inverts_J121 (F_WR_inverts_L36 t0_0 t0_1 t0_2 t0_3 t0_4 t0_5 t0_6 t1_0 t2_0 t3_0 t4_0 t5_0 t6_0 t7_0 t8_0 t9_0 t10_0 fm117) t0_0 t0_1 t0_2 t0_3 t0_4 t0_5 t0_6 t1_0 t2_0 t3_0 t4_0 t5_0 t6_0 t7_0 t8_0 t9_0 t10_0 lx70 lx71 lx72 lx73 lx74 lx75 lx76 lx77 lx78 lx79 lx80 lx81 lx82 lx83 lx84 lx85 p219 f213 f215 f230 f237 p251 f247 f245 1 = (F_WR_inverts t0_0 t0_1 t0_2 t0_3 t0_4 t0_5 t0_6 t1_0 t2_0 t3_0 t4_0 t5_0 t6_0 t7_0 t8_0 t9_0 t10_0) from Eq.trans (by rw [e254, e253, F_WR_inverts_c93.eq_1, if_pos c342]) hR255), (show True ∧ S_WR_inverts_J121 (S_WR_inverts_L36 t0_0 t0_1 t0_2 t0_3 t0_4 t0_5 t0_6 t1_0 t2_0 t3_0 t4_0 t5_0 t6_0 t7_0 t8_0 t9_0 t10_0 fm117) t0_0 t0_1 t0_2 t0_3 t0_4 t0_5 t0_6 t1_0 t2_0 t3_0 t4_0 t5_0 t6_0 t7_0 t8_0 t9_0 t10_0 lx70 lx71 lx72 lx73 lx74 lx75 lx76 lx77 lx78 lx79 lx80 lx81 lx82 lx83 lx84 lx85 p219 f213 f215 f230 f237 p251 f247 f245 1 from (by rw [e254, e253]; have h := hS256; rw [S_WR_inverts_c93.eq_1] at h; rw [if_pos c342] at h; with_reducible exact h))⟩
