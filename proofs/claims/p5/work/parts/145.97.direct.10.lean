theorem d_16_40_0 : decode prog_16_method_40_code 0 = .ok (.aload_n 0, 1) := by decide +kernel
theorem d_16_40_1 : decode prog_16_method_40_code 1 = .ok (.iconst 0, 1) := by decide +kernel
theorem d_16_40_2 : decode prog_16_method_40_code 2 = .ok (.putfield 57, 3) := by decide +kernel
theorem d_16_40_5 : decode prog_16_method_40_code 5 = .ok (.aload_n 0, 1) := by decide +kernel
theorem d_16_40_6 : decode prog_16_method_40_code 6 = .ok (.iconst 0, 1) := by decide +kernel
theorem d_16_40_7 : decode prog_16_method_40_code 7 = .ok (.putfield 116, 3) := by decide +kernel
theorem d_16_40_10 : decode prog_16_method_40_code 10 = .ok (.aload_n 0, 1) := by decide +kernel
theorem d_16_40_11 : decode prog_16_method_40_code 11 = .ok (.iconst (-1), 1) := by decide +kernel
theorem d_16_40_12 : decode prog_16_method_40_code 12 = .ok (.putfield 110, 3) := by decide +kernel
theorem d_16_40_15 : decode prog_16_method_40_code 15 = .ok (.aload_n 0, 1) := by decide +kernel
theorem d_16_40_16 : decode prog_16_method_40_code 16 = .ok (.iconst 0, 1) := by decide +kernel
theorem d_16_40_17 : decode prog_16_method_40_code 17 = .ok (.putfield 195, 3) := by decide +kernel
set_option maxRecDepth 100000 in
theorem w_2213 : (Cond.fieldLink "NumberHouseModel$DirectiveRows" (195 : Nat) "NumberHouseModel$DirectiveRows" "drawn" "I") ∈ q_tbl := q_of10 53 rfl (by decide +kernel)
theorem d_16_40_20 : decode prog_16_method_40_code 20 = .ok (.aload_n 0, 1) := by decide +kernel
theorem d_16_40_21 : decode prog_16_method_40_code 21 = .ok (.iconst 0, 1) := by decide +kernel
theorem d_16_40_22 : decode prog_16_method_40_code 22 = .ok (.putfield 198, 3) := by decide +kernel
set_option maxRecDepth 100000 in
theorem w_2215 : (Cond.fieldLink "NumberHouseModel$DirectiveRows" (198 : Nat) "NumberHouseModel$DirectiveRows" "fault" "I") ∈ q_tbl := q_of10 55 rfl (by decide +kernel)
theorem d_16_40_25 : decode prog_16_method_40_code 25 = .ok (.iconst (-1), 1) := by decide +kernel
theorem d_16_40_26 : decode prog_16_method_40_code 26 = .ok (.istore_n 1, 1) := by decide +kernel
theorem d_16_40_27 : decode prog_16_method_40_code 27 = .ok (.aload_n 0, 1) := by decide +kernel
theorem d_16_40_28 : decode prog_16_method_40_code 28 = .ok (.getfield 57, 3) := by decide +kernel
theorem d_16_40_31 : decode prog_16_method_40_code 31 = .ok (.aload_n 0, 1) := by decide +kernel
theorem d_16_40_32 : decode prog_16_method_40_code 32 = .ok (.getfield 45, 3) := by decide +kernel
theorem d_16_40_35 : decode prog_16_method_40_code 35 = .ok (.if_icmp .ge 152, 3) := by decide +kernel
theorem d_16_40_187 : decode prog_16_method_40_code 187 = .ok (.iconst (-1), 1) := by decide +kernel
theorem d_16_40_188 : decode prog_16_method_40_code 188 = .ok (.ireturn, 1) := by decide +kernel
theorem d_16_40_38 : decode prog_16_method_40_code 38 = .ok (.aload_n 0, 1) := by decide +kernel
theorem d_16_40_39 : decode prog_16_method_40_code 39 = .ok (.invokevirtual 60, 3) := by decide +kernel
theorem d_16_40_42 : decode prog_16_method_40_code 42 = .ok (.bipush 37, 2) := by decide +kernel
theorem d_16_40_120 : decode prog_16_method_40_code 120 = .ok (.aload_n 0, 1) := by decide +kernel
theorem d_16_40_121 : decode prog_16_method_40_code 121 = .ok (.getfield 195, 3) := by decide +kernel
theorem d_16_40_124 : decode prog_16_method_40_code 124 = .ok (.aload_n 0, 1) := by decide +kernel
theorem d_16_40_125 : decode prog_16_method_40_code 125 = .ok (.getfield 119, 3) := by decide +kernel
theorem d_16_40_128 : decode prog_16_method_40_code 128 = .ok (.iadd, 1) := by decide +kernel
theorem d_16_40_129 : decode prog_16_method_40_code 129 = .ok (.sipush 4096, 3) := by decide +kernel
theorem d_16_40_132 : decode prog_16_method_40_code 132 = .ok (.if_icmp .le 11, 3) := by decide +kernel
theorem d_16_40_143 : decode prog_16_method_40_code 143 = .ok (.iconst 0, 1) := by decide +kernel
theorem d_16_40_144 : decode prog_16_method_40_code 144 = .ok (.istore_n 2, 1) := by decide +kernel
theorem d_16_40_145 : decode prog_16_method_40_code 145 = .ok (.iload_n 2, 1) := by decide +kernel
theorem d_16_40_146 : decode prog_16_method_40_code 146 = .ok (.aload_n 0, 1) := by decide +kernel
theorem d_16_40_147 : decode prog_16_method_40_code 147 = .ok (.getfield 119, 3) := by decide +kernel
theorem d_16_40_150 : decode prog_16_method_40_code 150 = .ok (.if_icmp .ge 34, 3) := by decide +kernel
theorem d_16_40_184 : decode prog_16_method_40_code 184 = .ok (.goto (-157), 3) := by decide +kernel
theorem d_16_40_153 : decode prog_16_method_40_code 153 = .ok (.aload_n 0, 1) := by decide +kernel
theorem d_16_40_154 : decode prog_16_method_40_code 154 = .ok (.getfield 29, 3) := by decide +kernel
theorem d_16_40_157 : decode prog_16_method_40_code 157 = .ok (.aload_n 0, 1) := by decide +kernel
theorem d_16_40_158 : decode prog_16_method_40_code 158 = .ok (.getfield 195, 3) := by decide +kernel
theorem d_16_40_161 : decode prog_16_method_40_code 161 = .ok (.aload_n 0, 1) := by decide +kernel
theorem d_16_40_162 : decode prog_16_method_40_code 162 = .ok (.getfield 36, 3) := by decide +kernel
theorem d_16_40_165 : decode prog_16_method_40_code 165 = .ok (.iload_n 2, 1) := by decide +kernel
theorem d_16_40_166 : decode prog_16_method_40_code 166 = .ok (.iaload, 1) := by decide +kernel
theorem d_16_40_167 : decode prog_16_method_40_code 167 = .ok (.iastore, 1) := by decide +kernel
theorem d_16_40_168 : decode prog_16_method_40_code 168 = .ok (.aload_n 0, 1) := by decide +kernel
theorem d_16_40_169 : decode prog_16_method_40_code 169 = .ok (.dup, 1) := by decide +kernel
theorem d_16_40_170 : decode prog_16_method_40_code 170 = .ok (.getfield 195, 3) := by decide +kernel
theorem d_16_40_173 : decode prog_16_method_40_code 173 = .ok (.iconst 1, 1) := by decide +kernel
theorem d_16_40_174 : decode prog_16_method_40_code 174 = .ok (.iadd, 1) := by decide +kernel
theorem d_16_40_175 : decode prog_16_method_40_code 175 = .ok (.putfield 195, 3) := by decide +kernel
theorem d_16_40_178 : decode prog_16_method_40_code 178 = .ok (.iinc 2 1, 3) := by decide +kernel
theorem d_16_40_181 : decode prog_16_method_40_code 181 = .ok (.goto (-36), 3) := by decide +kernel
theorem d_16_40_135 : decode prog_16_method_40_code 135 = .ok (.aload_n 0, 1) := by decide +kernel
theorem d_16_40_136 : decode prog_16_method_40_code 136 = .ok (.bipush 12, 2) := by decide +kernel
theorem d_16_40_138 : decode prog_16_method_40_code 138 = .ok (.putfield 198, 3) := by decide +kernel
theorem d_16_40_141 : decode prog_16_method_40_code 141 = .ok (.iload_n 1, 1) := by decide +kernel
theorem d_16_40_142 : decode prog_16_method_40_code 142 = .ok (.ireturn, 1) := by decide +kernel
theorem d_16_40_44 : decode prog_16_method_40_code 44 = .ok (.if_icmp .eq 36, 3) := by decide +kernel
theorem d_16_40_80 : decode prog_16_method_40_code 80 = .ok (.aload_n 0, 1) := by decide +kernel
theorem d_16_40_81 : decode prog_16_method_40_code 81 = .ok (.getfield 57, 3) := by decide +kernel
theorem d_16_40_84 : decode prog_16_method_40_code 84 = .ok (.istore_n 1, 1) := by decide +kernel
theorem d_16_40_85 : decode prog_16_method_40_code 85 = .ok (.aload_n 0, 1) := by decide +kernel
theorem d_16_40_86 : decode prog_16_method_40_code 86 = .ok (.dup, 1) := by decide +kernel
theorem d_16_40_87 : decode prog_16_method_40_code 87 = .ok (.getfield 57, 3) := by decide +kernel
theorem d_16_40_90 : decode prog_16_method_40_code 90 = .ok (.iconst 1, 1) := by decide +kernel
theorem d_16_40_91 : decode prog_16_method_40_code 91 = .ok (.iadd, 1) := by decide +kernel
theorem d_16_40_92 : decode prog_16_method_40_code 92 = .ok (.putfield 57, 3) := by decide +kernel
theorem d_16_40_95 : decode prog_16_method_40_code 95 = .ok (.aload_n 0, 1) := by decide +kernel
theorem d_16_40_96 : decode prog_16_method_40_code 96 = .ok (.invokevirtual 201, 3) := by decide +kernel
set_option maxRecDepth 100000 in
theorem w_3127 : (Cond.code ({ cls := "NumberHouseModel$DirectiveRows", name := "take", desc := "()V" } : MethodName) prog_16_method_18_code (2 : Nat) (none : Option ClassFile.FieldType)) ∈ q_tbl := q_of14 7 rfl (by decide +kernel)
set_option maxRecDepth 100000 in
theorem w_3124 : (Cond.methodLink "NumberHouseModel$DirectiveRows" (201 : Nat) ({ cls := "NumberHouseModel$DirectiveRows", name := "take", desc := "()V" } : MethodName)) ∈ q_tbl := q_of14 4 rfl (by decide +kernel)
set_option maxRecDepth 100000 in
theorem w_3126 : (Cond.instanceMethod ({ cls := "NumberHouseModel$DirectiveRows", name := "take", desc := "()V" } : MethodName)) ∈ q_tbl := q_of14 6 rfl (by decide +kernel)
theorem ws_153 : Cond.selects "NumberHouseModel$DirectiveRows" (⟨"NumberHouseModel$DirectiveRows", "take", "()V"⟩ : MethodName) (⟨"NumberHouseModel$DirectiveRows", "take", "()V"⟩ : MethodName) ∈ q_tbl := q_ofs 153 (by decide +kernel) (by decide +kernel)
theorem LV_VR_201 : q_LV "NumberHouseModel$DirectiveRows" 201 y_VR_take prog_16_method_18_code 2 none 0 := ⟨w_3127, w_19, w_3124, w_3126, ws_153, ⟨by decide, by decide, by decide +kernel⟩⟩
theorem d_16_40_99 : decode prog_16_method_40_code 99 = .ok (.aload_n 0, 1) := by decide +kernel
theorem d_16_40_100 : decode prog_16_method_40_code 100 = .ok (.aload_n 0, 1) := by decide +kernel
theorem d_16_40_101 : decode prog_16_method_40_code 101 = .ok (.invokevirtual 204, 3) := by decide +kernel
set_option maxRecDepth 100000 in
theorem w_3146 : (Cond.code ({ cls := "NumberHouseModel$DirectiveRows", name := "looked", desc := "()I" } : MethodName) prog_16_method_22_code (2 : Nat) (some .int)) ∈ q_tbl := q_of14 26 rfl (by decide +kernel)
set_option maxRecDepth 100000 in
theorem w_3143 : (Cond.methodLink "NumberHouseModel$DirectiveRows" (204 : Nat) ({ cls := "NumberHouseModel$DirectiveRows", name := "looked", desc := "()I" } : MethodName)) ∈ q_tbl := q_of14 23 rfl (by decide +kernel)
set_option maxRecDepth 100000 in
theorem w_3145 : (Cond.instanceMethod ({ cls := "NumberHouseModel$DirectiveRows", name := "looked", desc := "()I" } : MethodName)) ∈ q_tbl := q_of14 25 rfl (by decide +kernel)
theorem ws_157 : Cond.selects "NumberHouseModel$DirectiveRows" (⟨"NumberHouseModel$DirectiveRows", "looked", "()I"⟩ : MethodName) (⟨"NumberHouseModel$DirectiveRows", "looked", "()I"⟩ : MethodName) ∈ q_tbl := q_ofs 157 (by decide +kernel) (by decide +kernel)
theorem LV_VR_204 : q_LV "NumberHouseModel$DirectiveRows" 204 y_VR_looked prog_16_method_22_code 2 (some .int) 0 := ⟨w_3146, w_19, w_3143, w_3145, ws_157, ⟨by decide, by decide, by decide +kernel⟩⟩
theorem d_16_40_104 : decode prog_16_method_40_code 104 = .ok (.putfield 198, 3) := by decide +kernel
theorem d_16_40_107 : decode prog_16_method_40_code 107 = .ok (.aload_n 0, 1) := by decide +kernel
theorem d_16_40_108 : decode prog_16_method_40_code 108 = .ok (.getfield 198, 3) := by decide +kernel
theorem d_16_40_111 : decode prog_16_method_40_code 111 = .ok (.ifCond .le 5, 3) := by decide +kernel
theorem d_16_40_116 : decode prog_16_method_40_code 116 = .ok (.aload_n 0, 1) := by decide +kernel
theorem d_16_40_117 : decode prog_16_method_40_code 117 = .ok (.invokevirtual 207, 3) := by decide +kernel
set_option maxRecDepth 100000 in
theorem w_3166 : (Cond.code ({ cls := "NumberHouseModel$DirectiveRows", name := "make", desc := "()V" } : MethodName) prog_16_method_38_code (4 : Nat) (none : Option ClassFile.FieldType)) ∈ q_tbl := q_of14 46 rfl (by decide +kernel)
set_option maxRecDepth 100000 in
theorem w_3163 : (Cond.methodLink "NumberHouseModel$DirectiveRows" (207 : Nat) ({ cls := "NumberHouseModel$DirectiveRows", name := "make", desc := "()V" } : MethodName)) ∈ q_tbl := q_of14 43 rfl (by decide +kernel)
set_option maxRecDepth 100000 in
theorem w_3165 : (Cond.instanceMethod ({ cls := "NumberHouseModel$DirectiveRows", name := "make", desc := "()V" } : MethodName)) ∈ q_tbl := q_of14 45 rfl (by decide +kernel)
theorem ws_161 : Cond.selects "NumberHouseModel$DirectiveRows" (⟨"NumberHouseModel$DirectiveRows", "make", "()V"⟩ : MethodName) (⟨"NumberHouseModel$DirectiveRows", "make", "()V"⟩ : MethodName) ∈ q_tbl := q_ofs 161 (by decide +kernel) (by decide +kernel)
theorem LV_VR_207 : q_LV "NumberHouseModel$DirectiveRows" 207 y_VR_make prog_16_method_38_code 4 none 0 := ⟨w_3166, w_19, w_3163, w_3165, ws_161, ⟨by decide, by decide, by decide +kernel⟩⟩
theorem d_16_40_114 : decode prog_16_method_40_code 114 = .ok (.iload_n 1, 1) := by decide +kernel
theorem d_16_40_115 : decode prog_16_method_40_code 115 = .ok (.ireturn, 1) := by decide +kernel
theorem d_16_40_47 : decode prog_16_method_40_code 47 = .ok (.aload_n 0, 1) := by decide +kernel
theorem d_16_40_48 : decode prog_16_method_40_code 48 = .ok (.getfield 57, 3) := by decide +kernel
theorem d_16_40_51 : decode prog_16_method_40_code 51 = .ok (.istore_n 1, 1) := by decide +kernel
theorem d_16_40_52 : decode prog_16_method_40_code 52 = .ok (.aload_n 0, 1) := by decide +kernel
theorem d_16_40_53 : decode prog_16_method_40_code 53 = .ok (.iconst 1, 1) := by decide +kernel
theorem d_16_40_54 : decode prog_16_method_40_code 54 = .ok (.putfield 119, 3) := by decide +kernel
theorem d_16_40_57 : decode prog_16_method_40_code 57 = .ok (.aload_n 0, 1) := by decide +kernel
theorem d_16_40_58 : decode prog_16_method_40_code 58 = .ok (.getfield 36, 3) := by decide +kernel
theorem d_16_40_61 : decode prog_16_method_40_code 61 = .ok (.iconst 0, 1) := by decide +kernel
theorem d_16_40_62 : decode prog_16_method_40_code 62 = .ok (.aload_n 0, 1) := by decide +kernel
theorem d_16_40_63 : decode prog_16_method_40_code 63 = .ok (.invokevirtual 60, 3) := by decide +kernel
theorem d_16_40_66 : decode prog_16_method_40_code 66 = .ok (.iastore, 1) := by decide +kernel
theorem d_16_40_67 : decode prog_16_method_40_code 67 = .ok (.aload_n 0, 1) := by decide +kernel
theorem d_16_40_68 : decode prog_16_method_40_code 68 = .ok (.dup, 1) := by decide +kernel
theorem d_16_40_69 : decode prog_16_method_40_code 69 = .ok (.getfield 57, 3) := by decide +kernel
theorem d_16_40_72 : decode prog_16_method_40_code 72 = .ok (.iconst 1, 1) := by decide +kernel
theorem d_16_40_73 : decode prog_16_method_40_code 73 = .ok (.iadd, 1) := by decide +kernel
theorem d_16_40_74 : decode prog_16_method_40_code 74 = .ok (.putfield 57, 3) := by decide +kernel
theorem d_16_40_77 : decode prog_16_method_40_code 77 = .ok (.goto 43, 3) := by decide +kernel
def y_VR_run : MethodName := ⟨"NumberHouseModel$DirectiveRows", "run", "()I"⟩
def F_VR_run_L145 (K_F_VR_run_L27 : Int32 → Int32 → Int32 → Int32 → Int32 → Int32 → Int32 → Int32 → Int32 → Int32 → Int32 → Int32 → Int32 → Int32 → Int32 → Int32 → (Nat → Int32) → (Nat → Int32) → Int32 → (Nat → Int32) → (Int32 × Int32 × Int32 × Int32 × Int32 × Int32 × Int32 × Int32 × Int32 × Int32 × Int32 × Int32 × Int32 × Int32 × Int32 × Int32 × Int32 × Int32 × (Nat → Int32) × (Nat → Int32) × (Nat → Int32))) (t0_0 : Int32) (t0_1 : Int32) (t0_2 : Int32) (t0_3 : Int32) (t0_4 : Int32) (t0_5 : Int32) (t0_6 : Int32) (t0_7 : Int32) (t0_8 : Int32) (t0_9 : Int32) (t0_10 : Int32) (t0_11 : Int32) (t0_12 : Int32) (t0_13 : Int32) (t0_14 : Int32) (t0_15 : Int32) (t0_16 : Int32) (t0_17 : Int32) (t0_18 : Int32) (t0_19 : Int32) (t0_20 : Int32) (t0_21 : Int32) (t1_0 : (Nat → Int32)) (t2_0 : (Nat → Int32)) (t3_0 : (Nat → Int32)) (t4_0 : (Nat → Int64)) (t5_0 : (Nat → Int32)) (t6_0 : (Nat → Int32)) (t7_0 : (Nat → Int32)) (t8_0 : (Nat → Int32)) (lx62 : Int32) (lx63 : Int32) (lx64 : Int32) (lx65 : Int32) (lx66 : Int32) (lx67 : Int32) (lx68 : Int32) (lx69 : Int32) (lx70 : Int32) (lx71 : Int32) (lx72 : Int32) (lx73 : Int32) (lx74 : Int32) (lx75 : Int32) (lx76 : Int32) (lx77 : Int32) (lx78 : (Nat → Int32)) (lx79 : (Nat → Int32)) (lx80 : Int32) (lx81 : (Nat → Int32)) (lx114 : Int32) (lx115 : Int32) (lx116 : Int32) (lx117 : Int32) (lx118 : Int32) (lx119 : Int32) (lx120 : Int32) (lx121 : Int32) (lx122 : Int32) (lx123 : Int32) (lx124 : Int32) (lx125 : Int32) (lx126 : Int32) (lx127 : Int32) (lx128 : Int32) (lx129 : Int32) (lx130 : (Nat → Int32)) (lx131 : (Nat → Int32)) : Nat → Int32 → Int32 → (Nat → Int32) → (Int32 × Int32 × Int32 × Int32 × Int32 × Int32 × Int32 × Int32 × Int32 × Int32 × Int32 × Int32 × Int32 × Int32 × Int32 × Int32 × Int32 × Int32 × (Nat → Int32) × (Nat → Int32) × (Nat → Int32))
  | 0, _, _, _ => default
  | fm + 1, lx159, lx160, lx161 => if lx125 ≤ lx159 then (K_F_VR_run_L27 lx114 lx115 lx116 lx117 lx118 lx119 lx120 lx121 lx122 lx123 lx124 lx125 lx126 lx127 lx128 lx129 lx130 lx131 lx160 lx161) else (F_VR_run_L145 K_F_VR_run_L27 t0_0 t0_1 t0_2 t0_3 t0_4 t0_5 t0_6 t0_7 t0_8 t0_9 t0_10 t0_11 t0_12 t0_13 t0_14 t0_15 t0_16 t0_17 t0_18 t0_19 t0_20 t0_21 t1_0 t2_0 t3_0 t4_0 t5_0 t6_0 t7_0 t8_0 lx62 lx63 lx64 lx65 lx66 lx67 lx68 lx69 lx70 lx71 lx72 lx73 lx74 lx75 lx76 lx77 lx78 lx79 lx80 lx81 lx114 lx115 lx116 lx117 lx118 lx119 lx120 lx121 lx122 lx123 lx124 lx125 lx126 lx127 lx128 lx129 lx130 lx131 fm (lx159 + 1 : Int32) (lx160 + 1 : Int32) (upd lx161 lx160.toNatClampNeg (lx130 lx159.toNatClampNeg : Int32) : (Nat → Int32)))
def F_VR_run_J120 (K_F_VR_run_L27 : Int32 → Int32 → Int32 → Int32 → Int32 → Int32 → Int32 → Int32 → Int32 → Int32 → Int32 → Int32 → Int32 → Int32 → Int32 → Int32 → (Nat → Int32) → (Nat → Int32) → Int32 → (Nat → Int32) → (Int32 × Int32 × Int32 × Int32 × Int32 × Int32 × Int32 × Int32 × Int32 × Int32 × Int32 × Int32 × Int32 × Int32 × Int32 × Int32 × Int32 × Int32 × (Nat → Int32) × (Nat → Int32) × (Nat → Int32))) (t0_0 : Int32) (t0_1 : Int32) (t0_2 : Int32) (t0_3 : Int32) (t0_4 : Int32) (t0_5 : Int32) (t0_6 : Int32) (t0_7 : Int32) (t0_8 : Int32) (t0_9 : Int32) (t0_10 : Int32) (t0_11 : Int32) (t0_12 : Int32) (t0_13 : Int32) (t0_14 : Int32) (t0_15 : Int32) (t0_16 : Int32) (t0_17 : Int32) (t0_18 : Int32) (t0_19 : Int32) (t0_20 : Int32) (t0_21 : Int32) (t1_0 : (Nat → Int32)) (t2_0 : (Nat → Int32)) (t3_0 : (Nat → Int32)) (t4_0 : (Nat → Int64)) (t5_0 : (Nat → Int32)) (t6_0 : (Nat → Int32)) (t7_0 : (Nat → Int32)) (t8_0 : (Nat → Int32)) (lx62 : Int32) (lx63 : Int32) (lx64 : Int32) (lx65 : Int32) (lx66 : Int32) (lx67 : Int32) (lx68 : Int32) (lx69 : Int32) (lx70 : Int32) (lx71 : Int32) (lx72 : Int32) (lx73 : Int32) (lx74 : Int32) (lx75 : Int32) (lx76 : Int32) (lx77 : Int32) (lx78 : (Nat → Int32)) (lx79 : (Nat → Int32)) (lx80 : Int32) (lx81 : (Nat → Int32)) (lx114 : Int32) (lx115 : Int32) (lx116 : Int32) (lx117 : Int32) (lx118 : Int32) (lx119 : Int32) (lx120 : Int32) (lx121 : Int32) (lx122 : Int32) (lx123 : Int32) (lx124 : Int32) (lx125 : Int32) (lx126 : Int32) (lx127 : Int32) (lx128 : Int32) (lx129 : Int32) (lx130 : (Nat → Int32)) (lx131 : (Nat → Int32)) : Int32 × Int32 × Int32 × Int32 × Int32 × Int32 × Int32 × Int32 × Int32 × Int32 × Int32 × Int32 × Int32 × Int32 × Int32 × Int32 × Int32 × Int32 × (Nat → Int32) × (Nat → Int32) × (Nat → Int32) := if (lx80 + lx125 : Int32) ≤ (4096 : Int32) then (F_VR_run_L145 K_F_VR_run_L27 t0_0 t0_1 t0_2 t0_3 t0_4 t0_5 t0_6 t0_7 t0_8 t0_9 t0_10 t0_11 t0_12 t0_13 t0_14 t0_15 t0_16 t0_17 t0_18 t0_19 t0_20 t0_21 t1_0 t2_0 t3_0 t4_0 t5_0 t6_0 t7_0 t8_0 lx62 lx63 lx64 lx65 lx66 lx67 lx68 lx69 lx70 lx71 lx72 lx73 lx74 lx75 lx76 lx77 lx78 lx79 lx80 lx81 lx114 lx115 lx116 lx117 lx118 lx119 lx120 lx121 lx122 lx123 lx124 lx125 lx126 lx127 lx128 lx129 lx130 lx131 ((4096 - (0 : Int32).toInt).toNat + 1) 0 lx80 lx81) else ((lx63, lx80, (12 : Int32), lx115, lx116, lx117, lx118, lx119, lx120, lx121, lx122, lx123, lx124, lx125, lx126, lx127, lx128, lx129, lx81, lx130, lx131))
def F_VR_run_c117 (K_F_VR_run_L27 : Int32 → Int32 → Int32 → Int32 → Int32 → Int32 → Int32 → Int32 → Int32 → Int32 → Int32 → Int32 → Int32 → Int32 → Int32 → Int32 → (Nat → Int32) → (Nat → Int32) → Int32 → (Nat → Int32) → (Int32 × Int32 × Int32 × Int32 × Int32 × Int32 × Int32 × Int32 × Int32 × Int32 × Int32 × Int32 × Int32 × Int32 × Int32 × Int32 × Int32 × Int32 × (Nat → Int32) × (Nat → Int32) × (Nat → Int32))) (t0_0 : Int32) (t0_1 : Int32) (t0_2 : Int32) (t0_3 : Int32) (t0_4 : Int32) (t0_5 : Int32) (t0_6 : Int32) (t0_7 : Int32) (t0_8 : Int32) (t0_9 : Int32) (t0_10 : Int32) (t0_11 : Int32) (t0_12 : Int32) (t0_13 : Int32) (t0_14 : Int32) (t0_15 : Int32) (t0_16 : Int32) (t0_17 : Int32) (t0_18 : Int32) (t0_19 : Int32) (t0_20 : Int32) (t0_21 : Int32) (t1_0 : (Nat → Int32)) (t2_0 : (Nat → Int32)) (t3_0 : (Nat → Int32)) (t4_0 : (Nat → Int64)) (t5_0 : (Nat → Int32)) (t6_0 : (Nat → Int32)) (t7_0 : (Nat → Int32)) (t8_0 : (Nat → Int32)) (lx62 : Int32) (lx63 : Int32) (lx64 : Int32) (lx65 : Int32) (lx66 : Int32) (lx67 : Int32) (lx68 : Int32) (lx69 : Int32) (lx70 : Int32) (lx71 : Int32) (lx72 : Int32) (lx73 : Int32) (lx74 : Int32) (lx75 : Int32) (lx76 : Int32) (lx77 : Int32) (lx78 : (Nat → Int32)) (lx79 : (Nat → Int32)) (lx80 : Int32) (lx81 : (Nat → Int32)) (p229 : (Int32 × Int32 × Int32 × Int32 × Int32 × Int32 × Int32)) (y214 : Int32) (y215 : Int32) (y216 : Int32) (y217 : Int32) (y218 : Int32) (y219 : Int32) (y220 : Int32) (p255 : (Int32 × Int32 × Int32 × Int32)) (a245 : Int32) (y247 : Int32) (y248 : Int32) (y249 : Int32) (p288 : (Int32 × Int32 × Int32 × Int32 × Int32 × Int32 × (Nat → Int32) × (Nat → Int32))) : Int32 × Int32 × Int32 × Int32 × Int32 × Int32 × Int32 × Int32 × Int32 × Int32 × Int32 × Int32 × Int32 × Int32 × Int32 × Int32 × Int32 × Int32 × (Nat → Int32) × (Nat → Int32) × (Nat → Int32) := F_VR_run_J120 K_F_VR_run_L27 t0_0 t0_1 t0_2 t0_3 t0_4 t0_5 t0_6 t0_7 t0_8 t0_9 t0_10 t0_11 t0_12 t0_13 t0_14 t0_15 t0_16 t0_17 t0_18 t0_19 t0_20 t0_21 t1_0 t2_0 t3_0 t4_0 t5_0 t6_0 t7_0 t8_0 lx62 lx63 lx64 lx65 lx66 lx67 lx68 lx69 lx70 lx71 lx72 lx73 lx74 lx75 lx76 lx77 lx78 lx79 lx80 lx81 a245 y214 y215 (p288.1 : Int32) y217 y218 y219 y220 y247 y248 y249 (p288.2.1 : Int32) (p288.2.2.1 : Int32) (p288.2.2.2.1 : Int32) (p288.2.2.2.2.1 : Int32) (p288.2.2.2.2.2.1 : Int32) (p288.2.2.2.2.2.2.1 : (Nat → Int32)) (p288.2.2.2.2.2.2.2 : (Nat → Int32))
def F_VR_run_c101 (K_F_VR_run_L27 : Int32 → Int32 → Int32 → Int32 → Int32 → Int32 → Int32 → Int32 → Int32 → Int32 → Int32 → Int32 → Int32 → Int32 → Int32 → Int32 → (Nat → Int32) → (Nat → Int32) → Int32 → (Nat → Int32) → (Int32 × Int32 × Int32 × Int32 × Int32 × Int32 × Int32 × Int32 × Int32 × Int32 × Int32 × Int32 × Int32 × Int32 × Int32 × Int32 × Int32 × Int32 × (Nat → Int32) × (Nat → Int32) × (Nat → Int32))) (t0_0 : Int32) (t0_1 : Int32) (t0_2 : Int32) (t0_3 : Int32) (t0_4 : Int32) (t0_5 : Int32) (t0_6 : Int32) (t0_7 : Int32) (t0_8 : Int32) (t0_9 : Int32) (t0_10 : Int32) (t0_11 : Int32) (t0_12 : Int32) (t0_13 : Int32) (t0_14 : Int32) (t0_15 : Int32) (t0_16 : Int32) (t0_17 : Int32) (t0_18 : Int32) (t0_19 : Int32) (t0_20 : Int32) (t0_21 : Int32) (t1_0 : (Nat → Int32)) (t2_0 : (Nat → Int32)) (t3_0 : (Nat → Int32)) (t4_0 : (Nat → Int64)) (t5_0 : (Nat → Int32)) (t6_0 : (Nat → Int32)) (t7_0 : (Nat → Int32)) (t8_0 : (Nat → Int32)) (lx62 : Int32) (lx63 : Int32) (lx64 : Int32) (lx65 : Int32) (lx66 : Int32) (lx67 : Int32) (lx68 : Int32) (lx69 : Int32) (lx70 : Int32) (lx71 : Int32) (lx72 : Int32) (lx73 : Int32) (lx74 : Int32) (lx75 : Int32) (lx76 : Int32) (lx77 : Int32) (lx78 : (Nat → Int32)) (lx79 : (Nat → Int32)) (lx80 : Int32) (lx81 : (Nat → Int32)) (p229 : (Int32 × Int32 × Int32 × Int32 × Int32 × Int32 × Int32)) (y214 : Int32) (y215 : Int32) (y216 : Int32) (y217 : Int32) (y218 : Int32) (y219 : Int32) (y220 : Int32) (p255 : (Int32 × Int32 × Int32 × Int32)) : Int32 × Int32 × Int32 × Int32 × Int32 × Int32 × Int32 × Int32 × Int32 × Int32 × Int32 × Int32 × Int32 × Int32 × Int32 × Int32 × Int32 × Int32 × (Nat → Int32) × (Nat → Int32) × (Nat → Int32) := if (p255.1 : Int32) ≤ (0 : Int32) then (F_VR_run_c117 K_F_VR_run_L27 t0_0 t0_1 t0_2 t0_3 t0_4 t0_5 t0_6 t0_7 t0_8 t0_9 t0_10 t0_11 t0_12 t0_13 t0_14 t0_15 t0_16 t0_17 t0_18 t0_19 t0_20 t0_21 t1_0 t2_0 t3_0 t4_0 t5_0 t6_0 t7_0 t8_0 lx62 lx63 lx64 lx65 lx66 lx67 lx68 lx69 lx70 lx71 lx72 lx73 lx74 lx75 lx76 lx77 lx78 lx79 lx80 lx81 p229 y214 y215 y216 y217 y218 y219 y220 p255 (p255.1 : Int32) (p255.2.1 : Int32) (p255.2.2.1 : Int32) (p255.2.2.2 : Int32) ((F_VR_make t0_0 t0_1 t0_2 t0_3 lx80 (p255.1 : Int32) t0_6 y214 y215 y216 y217 y218 y219 y220 (p255.2.1 : Int32) (p255.2.2.1 : Int32) (p255.2.2.2 : Int32) lx73 lx74 lx75 lx76 lx77 t2_0 t3_0 t4_0 t5_0 lx78 lx79) : (Int32 × Int32 × Int32 × Int32 × Int32 × Int32 × (Nat → Int32) × (Nat → Int32)))) else ((lx63, lx80, (p255.1 : Int32), y214, y215, y216, y217, y218, y219, y220, (p255.2.1 : Int32), (p255.2.2.1 : Int32), (p255.2.2.2 : Int32), lx73, lx74, lx75, lx76, lx77, lx81, lx78, lx79))
def F_VR_run_c96 (K_F_VR_run_L27 : Int32 → Int32 → Int32 → Int32 → Int32 → Int32 → Int32 → Int32 → Int32 → Int32 → Int32 → Int32 → Int32 → Int32 → Int32 → Int32 → (Nat → Int32) → (Nat → Int32) → Int32 → (Nat → Int32) → (Int32 × Int32 × Int32 × Int32 × Int32 × Int32 × Int32 × Int32 × Int32 × Int32 × Int32 × Int32 × Int32 × Int32 × Int32 × Int32 × Int32 × Int32 × (Nat → Int32) × (Nat → Int32) × (Nat → Int32))) (t0_0 : Int32) (t0_1 : Int32) (t0_2 : Int32) (t0_3 : Int32) (t0_4 : Int32) (t0_5 : Int32) (t0_6 : Int32) (t0_7 : Int32) (t0_8 : Int32) (t0_9 : Int32) (t0_10 : Int32) (t0_11 : Int32) (t0_12 : Int32) (t0_13 : Int32) (t0_14 : Int32) (t0_15 : Int32) (t0_16 : Int32) (t0_17 : Int32) (t0_18 : Int32) (t0_19 : Int32) (t0_20 : Int32) (t0_21 : Int32) (t1_0 : (Nat → Int32)) (t2_0 : (Nat → Int32)) (t3_0 : (Nat → Int32)) (t4_0 : (Nat → Int64)) (t5_0 : (Nat → Int32)) (t6_0 : (Nat → Int32)) (t7_0 : (Nat → Int32)) (t8_0 : (Nat → Int32)) (lx62 : Int32) (lx63 : Int32) (lx64 : Int32) (lx65 : Int32) (lx66 : Int32) (lx67 : Int32) (lx68 : Int32) (lx69 : Int32) (lx70 : Int32) (lx71 : Int32) (lx72 : Int32) (lx73 : Int32) (lx74 : Int32) (lx75 : Int32) (lx76 : Int32) (lx77 : Int32) (lx78 : (Nat → Int32)) (lx79 : (Nat → Int32)) (lx80 : Int32) (lx81 : (Nat → Int32)) (p229 : (Int32 × Int32 × Int32 × Int32 × Int32 × Int32 × Int32)) : Int32 × Int32 × Int32 × Int32 × Int32 × Int32 × Int32 × Int32 × Int32 × Int32 × Int32 × Int32 × Int32 × Int32 × Int32 × Int32 × Int32 × Int32 × (Nat → Int32) × (Nat → Int32) × (Nat → Int32) := F_VR_run_c101 K_F_VR_run_L27 t0_0 t0_1 t0_2 t0_3 t0_4 t0_5 t0_6 t0_7 t0_8 t0_9 t0_10 t0_11 t0_12 t0_13 t0_14 t0_15 t0_16 t0_17 t0_18 t0_19 t0_20 t0_21 t1_0 t2_0 t3_0 t4_0 t5_0 t6_0 t7_0 t8_0 lx62 lx63 lx64 lx65 lx66 lx67 lx68 lx69 lx70 lx71 lx72 lx73 lx74 lx75 lx76 lx77 lx78 lx79 lx80 lx81 p229 (p229.1 : Int32) (p229.2.1 : Int32) (p229.2.2.1 : Int32) (p229.2.2.2.1 : Int32) (p229.2.2.2.2.1 : Int32) (p229.2.2.2.2.2.1 : Int32) (p229.2.2.2.2.2.2 : Int32) ((F_VR_looked t0_0 t0_1 t0_2 t0_3 lx80 lx62 t0_6 (p229.1 : Int32) (p229.2.1 : Int32) (p229.2.2.1 : Int32) (p229.2.2.2.1 : Int32) (p229.2.2.2.2.1 : Int32) (p229.2.2.2.2.2.1 : Int32) (p229.2.2.2.2.2.2 : Int32) lx70 lx71 lx72 lx73 lx74 lx75 lx76 lx77 t2_0 t3_0 t4_0) : (Int32 × Int32 × Int32 × Int32))
def F_VR_run_L27 (t0_0 : Int32) (t0_1 : Int32) (t0_2 : Int32) (t0_3 : Int32) (t0_4 : Int32) (t0_5 : Int32) (t0_6 : Int32) (t0_7 : Int32) (t0_8 : Int32) (t0_9 : Int32) (t0_10 : Int32) (t0_11 : Int32) (t0_12 : Int32) (t0_13 : Int32) (t0_14 : Int32) (t0_15 : Int32) (t0_16 : Int32) (t0_17 : Int32) (t0_18 : Int32) (t0_19 : Int32) (t0_20 : Int32) (t0_21 : Int32) (t1_0 : (Nat → Int32)) (t2_0 : (Nat → Int32)) (t3_0 : (Nat → Int32)) (t4_0 : (Nat → Int64)) (t5_0 : (Nat → Int32)) (t6_0 : (Nat → Int32)) (t7_0 : (Nat → Int32)) (t8_0 : (Nat → Int32)) : Nat → Int32 → Int32 → Int32 → Int32 → Int32 → Int32 → Int32 → Int32 → Int32 → Int32 → Int32 → Int32 → Int32 → Int32 → Int32 → Int32 → (Nat → Int32) → (Nat → Int32) → Int32 → (Nat → Int32) → (Int32 × Int32 × Int32 × Int32 × Int32 × Int32 × Int32 × Int32 × Int32 × Int32 × Int32 × Int32 × Int32 × Int32 × Int32 × Int32 × Int32 × Int32 × (Nat → Int32) × (Nat → Int32) × (Nat → Int32))
  | 0, _, _, _, _, _, _, _, _, _, _, _, _, _, _, _, _, _, _, _, _ => default
  | fm + 1, lx62, lx63, lx64, lx65, lx66, lx67, lx68, lx69, lx70, lx71, lx72, lx73, lx74, lx75, lx76, lx77, lx78, lx79, lx80, lx81 => if t0_1 ≤ lx63 then (((-1 : Int32), lx80, lx62, lx63, lx64, lx65, lx66, lx67, lx68, lx69, lx70, lx71, lx72, lx73, lx74, lx75, lx76, lx77, lx81, lx78, lx79)) else (if ((F_VR_here t0_0 t0_1 t0_2 t0_3 lx80 lx62 t0_6 lx63 lx64 lx65 lx66 lx67 lx68 lx69 lx70 lx71 lx72 lx73 lx74 lx75 lx76 lx77 t1_0) : Int32) = (37 : Int32) then (F_VR_run_c96 (F_VR_run_L27 t0_0 t0_1 t0_2 t0_3 t0_4 t0_5 t0_6 t0_7 t0_8 t0_9 t0_10 t0_11 t0_12 t0_13 t0_14 t0_15 t0_16 t0_17 t0_18 t0_19 t0_20 t0_21 t1_0 t2_0 t3_0 t4_0 t5_0 t6_0 t7_0 t8_0 fm) t0_0 t0_1 t0_2 t0_3 t0_4 t0_5 t0_6 t0_7 t0_8 t0_9 t0_10 t0_11 t0_12 t0_13 t0_14 t0_15 t0_16 t0_17 t0_18 t0_19 t0_20 t0_21 t1_0 t2_0 t3_0 t4_0 t5_0 t6_0 t7_0 t8_0 lx62 lx63 lx64 lx65 lx66 lx67 lx68 lx69 lx70 lx71 lx72 lx73 lx74 lx75 lx76 lx77 lx78 lx79 lx80 lx81 ((F_VR_take t0_0 t0_1 t0_2 t0_3 lx80 lx62 t0_6 (lx63 + 1 : Int32) lx64 lx65 lx66 lx67 lx68 lx69 lx70 lx71 lx72 lx73 lx74 lx75 lx76 lx77 t1_0) : (Int32 × Int32 × Int32 × Int32 × Int32 × Int32 × Int32))) else (F_VR_run_J120 (F_VR_run_L27 t0_0 t0_1 t0_2 t0_3 t0_4 t0_5 t0_6 t0_7 t0_8 t0_9 t0_10 t0_11 t0_12 t0_13 t0_14 t0_15 t0_16 t0_17 t0_18 t0_19 t0_20 t0_21 t1_0 t2_0 t3_0 t4_0 t5_0 t6_0 t7_0 t8_0 fm) t0_0 t0_1 t0_2 t0_3 t0_4 t0_5 t0_6 t0_7 t0_8 t0_9 t0_10 t0_11 t0_12 t0_13 t0_14 t0_15 t0_16 t0_17 t0_18 t0_19 t0_20 t0_21 t1_0 t2_0 t3_0 t4_0 t5_0 t6_0 t7_0 t8_0 lx62 lx63 lx64 lx65 lx66 lx67 lx68 lx69 lx70 lx71 lx72 lx73 lx74 lx75 lx76 lx77 lx78 lx79 lx80 lx81 lx62 (lx63 + 1 : Int32) lx64 lx65 lx66 lx67 lx68 lx69 lx70 lx71 lx72 1 lx74 lx75 lx76 lx77 (upd lx78 (0 : Int32).toNatClampNeg ((F_VR_here t0_0 t0_1 t0_2 t0_3 lx80 lx62 t0_6 lx63 lx64 lx65 lx66 lx67 lx68 lx69 lx70 lx71 lx72 (1 : Int32) lx74 lx75 lx76 lx77 t1_0) : Int32) : (Nat → Int32)) lx79))
def F_VR_run (t0_0 : Int32) (t0_1 : Int32) (t0_2 : Int32) (t0_3 : Int32) (t0_4 : Int32) (t0_5 : Int32) (t0_6 : Int32) (t0_7 : Int32) (t0_8 : Int32) (t0_9 : Int32) (t0_10 : Int32) (t0_11 : Int32) (t0_12 : Int32) (t0_13 : Int32) (t0_14 : Int32) (t0_15 : Int32) (t0_16 : Int32) (t0_17 : Int32) (t0_18 : Int32) (t0_19 : Int32) (t0_20 : Int32) (t0_21 : Int32) (t1_0 : (Nat → Int32)) (t2_0 : (Nat → Int32)) (t3_0 : (Nat → Int32)) (t4_0 : (Nat → Int64)) (t5_0 : (Nat → Int32)) (t6_0 : (Nat → Int32)) (t7_0 : (Nat → Int32)) (t8_0 : (Nat → Int32)) : Int32 × Int32 × Int32 × Int32 × Int32 × Int32 × Int32 × Int32 × Int32 × Int32 × Int32 × Int32 × Int32 × Int32 × Int32 × Int32 × Int32 × Int32 × (Nat → Int32) × (Nat → Int32) × (Nat → Int32) := F_VR_run_L27 t0_0 t0_1 t0_2 t0_3 t0_4 t0_5 t0_6 t0_7 t0_8 t0_9 t0_10 t0_11 t0_12 t0_13 t0_14 t0_15 t0_16 t0_17 t0_18 t0_19 t0_20 t0_21 t1_0 t2_0 t3_0 t4_0 t5_0 t6_0 t7_0 t8_0 1000000 0 0 t0_8 t0_9 t0_10 t0_11 t0_12 t0_13 t0_14 0 (-1) t0_17 t0_18 t0_19 t0_20 t0_21 t7_0 t8_0 0 t6_0
def S_VR_run_L145 (K_S_VR_run_L27 : Int32 → Int32 → Int32 → Int32 → Int32 → Int32 → Int32 → Int32 → Int32 → Int32 → Int32 → Int32 → Int32 → Int32 → Int32 → Int32 → (Nat → Int32) → (Nat → Int32) → Int32 → (Nat → Int32) → Prop) (t0_0 : Int32) (t0_1 : Int32) (t0_2 : Int32) (t0_3 : Int32) (t0_4 : Int32) (t0_5 : Int32) (t0_6 : Int32) (t0_7 : Int32) (t0_8 : Int32) (t0_9 : Int32) (t0_10 : Int32) (t0_11 : Int32) (t0_12 : Int32) (t0_13 : Int32) (t0_14 : Int32) (t0_15 : Int32) (t0_16 : Int32) (t0_17 : Int32) (t0_18 : Int32) (t0_19 : Int32) (t0_20 : Int32) (t0_21 : Int32) (t1_0 : (Nat → Int32)) (t2_0 : (Nat → Int32)) (t3_0 : (Nat → Int32)) (t4_0 : (Nat → Int64)) (t5_0 : (Nat → Int32)) (t6_0 : (Nat → Int32)) (t7_0 : (Nat → Int32)) (t8_0 : (Nat → Int32)) (lx62 : Int32) (lx63 : Int32) (lx64 : Int32) (lx65 : Int32) (lx66 : Int32) (lx67 : Int32) (lx68 : Int32) (lx69 : Int32) (lx70 : Int32) (lx71 : Int32) (lx72 : Int32) (lx73 : Int32) (lx74 : Int32) (lx75 : Int32) (lx76 : Int32) (lx77 : Int32) (lx78 : (Nat → Int32)) (lx79 : (Nat → Int32)) (lx80 : Int32) (lx81 : (Nat → Int32)) (lx114 : Int32) (lx115 : Int32) (lx116 : Int32) (lx117 : Int32) (lx118 : Int32) (lx119 : Int32) (lx120 : Int32) (lx121 : Int32) (lx122 : Int32) (lx123 : Int32) (lx124 : Int32) (lx125 : Int32) (lx126 : Int32) (lx127 : Int32) (lx128 : Int32) (lx129 : Int32) (lx130 : (Nat → Int32)) (lx131 : (Nat → Int32)) : Nat → Int32 → Int32 → (Nat → Int32) → Prop
  | 0, _, _, _ => False
  | fm + 1, lx159, lx160, lx161 => if lx125 ≤ lx159 then (K_S_VR_run_L27 lx114 lx115 lx116 lx117 lx118 lx119 lx120 lx121 lx122 lx123 lx124 lx125 lx126 lx127 lx128 lx129 lx130 lx131 lx160 lx161) else ((lx160.toInt ≤ 4095) ∧ (S_VR_run_L145 K_S_VR_run_L27 t0_0 t0_1 t0_2 t0_3 t0_4 t0_5 t0_6 t0_7 t0_8 t0_9 t0_10 t0_11 t0_12 t0_13 t0_14 t0_15 t0_16 t0_17 t0_18 t0_19 t0_20 t0_21 t1_0 t2_0 t3_0 t4_0 t5_0 t6_0 t7_0 t8_0 lx62 lx63 lx64 lx65 lx66 lx67 lx68 lx69 lx70 lx71 lx72 lx73 lx74 lx75 lx76 lx77 lx78 lx79 lx80 lx81 lx114 lx115 lx116 lx117 lx118 lx119 lx120 lx121 lx122 lx123 lx124 lx125 lx126 lx127 lx128 lx129 lx130 lx131 fm (lx159 + 1 : Int32) (lx160 + 1 : Int32) (upd lx161 lx160.toNatClampNeg (lx130 lx159.toNatClampNeg : Int32) : (Nat → Int32))))
def S_VR_run_J120 (K_S_VR_run_L27 : Int32 → Int32 → Int32 → Int32 → Int32 → Int32 → Int32 → Int32 → Int32 → Int32 → Int32 → Int32 → Int32 → Int32 → Int32 → Int32 → (Nat → Int32) → (Nat → Int32) → Int32 → (Nat → Int32) → Prop) (t0_0 : Int32) (t0_1 : Int32) (t0_2 : Int32) (t0_3 : Int32) (t0_4 : Int32) (t0_5 : Int32) (t0_6 : Int32) (t0_7 : Int32) (t0_8 : Int32) (t0_9 : Int32) (t0_10 : Int32) (t0_11 : Int32) (t0_12 : Int32) (t0_13 : Int32) (t0_14 : Int32) (t0_15 : Int32) (t0_16 : Int32) (t0_17 : Int32) (t0_18 : Int32) (t0_19 : Int32) (t0_20 : Int32) (t0_21 : Int32) (t1_0 : (Nat → Int32)) (t2_0 : (Nat → Int32)) (t3_0 : (Nat → Int32)) (t4_0 : (Nat → Int64)) (t5_0 : (Nat → Int32)) (t6_0 : (Nat → Int32)) (t7_0 : (Nat → Int32)) (t8_0 : (Nat → Int32)) (lx62 : Int32) (lx63 : Int32) (lx64 : Int32) (lx65 : Int32) (lx66 : Int32) (lx67 : Int32) (lx68 : Int32) (lx69 : Int32) (lx70 : Int32) (lx71 : Int32) (lx72 : Int32) (lx73 : Int32) (lx74 : Int32) (lx75 : Int32) (lx76 : Int32) (lx77 : Int32) (lx78 : (Nat → Int32)) (lx79 : (Nat → Int32)) (lx80 : Int32) (lx81 : (Nat → Int32)) (lx114 : Int32) (lx115 : Int32) (lx116 : Int32) (lx117 : Int32) (lx118 : Int32) (lx119 : Int32) (lx120 : Int32) (lx121 : Int32) (lx122 : Int32) (lx123 : Int32) (lx124 : Int32) (lx125 : Int32) (lx126 : Int32) (lx127 : Int32) (lx128 : Int32) (lx129 : Int32) (lx130 : (Nat → Int32)) (lx131 : (Nat → Int32)) : Prop := if (lx80 + lx125 : Int32) ≤ (4096 : Int32) then (S_VR_run_L145 K_S_VR_run_L27 t0_0 t0_1 t0_2 t0_3 t0_4 t0_5 t0_6 t0_7 t0_8 t0_9 t0_10 t0_11 t0_12 t0_13 t0_14 t0_15 t0_16 t0_17 t0_18 t0_19 t0_20 t0_21 t1_0 t2_0 t3_0 t4_0 t5_0 t6_0 t7_0 t8_0 lx62 lx63 lx64 lx65 lx66 lx67 lx68 lx69 lx70 lx71 lx72 lx73 lx74 lx75 lx76 lx77 lx78 lx79 lx80 lx81 lx114 lx115 lx116 lx117 lx118 lx119 lx120 lx121 lx122 lx123 lx124 lx125 lx126 lx127 lx128 lx129 lx130 lx131 ((4096 - (0 : Int32).toInt).toNat + 1) 0 lx80 lx81) else (True)
def S_VR_run_c117 (K_S_VR_run_L27 : Int32 → Int32 → Int32 → Int32 → Int32 → Int32 → Int32 → Int32 → Int32 → Int32 → Int32 → Int32 → Int32 → Int32 → Int32 → Int32 → (Nat → Int32) → (Nat → Int32) → Int32 → (Nat → Int32) → Prop) (t0_0 : Int32) (t0_1 : Int32) (t0_2 : Int32) (t0_3 : Int32) (t0_4 : Int32) (t0_5 : Int32) (t0_6 : Int32) (t0_7 : Int32) (t0_8 : Int32) (t0_9 : Int32) (t0_10 : Int32) (t0_11 : Int32) (t0_12 : Int32) (t0_13 : Int32) (t0_14 : Int32) (t0_15 : Int32) (t0_16 : Int32) (t0_17 : Int32) (t0_18 : Int32) (t0_19 : Int32) (t0_20 : Int32) (t0_21 : Int32) (t1_0 : (Nat → Int32)) (t2_0 : (Nat → Int32)) (t3_0 : (Nat → Int32)) (t4_0 : (Nat → Int64)) (t5_0 : (Nat → Int32)) (t6_0 : (Nat → Int32)) (t7_0 : (Nat → Int32)) (t8_0 : (Nat → Int32)) (lx62 : Int32) (lx63 : Int32) (lx64 : Int32) (lx65 : Int32) (lx66 : Int32) (lx67 : Int32) (lx68 : Int32) (lx69 : Int32) (lx70 : Int32) (lx71 : Int32) (lx72 : Int32) (lx73 : Int32) (lx74 : Int32) (lx75 : Int32) (lx76 : Int32) (lx77 : Int32) (lx78 : (Nat → Int32)) (lx79 : (Nat → Int32)) (lx80 : Int32) (lx81 : (Nat → Int32)) (p229 : (Int32 × Int32 × Int32 × Int32 × Int32 × Int32 × Int32)) (y214 : Int32) (y215 : Int32) (y216 : Int32) (y217 : Int32) (y218 : Int32) (y219 : Int32) (y220 : Int32) (p255 : (Int32 × Int32 × Int32 × Int32)) (a245 : Int32) (y247 : Int32) (y248 : Int32) (y249 : Int32) (p288 : (Int32 × Int32 × Int32 × Int32 × Int32 × Int32 × (Nat → Int32) × (Nat → Int32))) : Prop := S_VR_run_J120 K_S_VR_run_L27 t0_0 t0_1 t0_2 t0_3 t0_4 t0_5 t0_6 t0_7 t0_8 t0_9 t0_10 t0_11 t0_12 t0_13 t0_14 t0_15 t0_16 t0_17 t0_18 t0_19 t0_20 t0_21 t1_0 t2_0 t3_0 t4_0 t5_0 t6_0 t7_0 t8_0 lx62 lx63 lx64 lx65 lx66 lx67 lx68 lx69 lx70 lx71 lx72 lx73 lx74 lx75 lx76 lx77 lx78 lx79 lx80 lx81 a245 y214 y215 (p288.1 : Int32) y217 y218 y219 y220 y247 y248 y249 (p288.2.1 : Int32) (p288.2.2.1 : Int32) (p288.2.2.2.1 : Int32) (p288.2.2.2.2.1 : Int32) (p288.2.2.2.2.2.1 : Int32) (p288.2.2.2.2.2.2.1 : (Nat → Int32)) (p288.2.2.2.2.2.2.2 : (Nat → Int32))
def S_VR_run_c101 (K_S_VR_run_L27 : Int32 → Int32 → Int32 → Int32 → Int32 → Int32 → Int32 → Int32 → Int32 → Int32 → Int32 → Int32 → Int32 → Int32 → Int32 → Int32 → (Nat → Int32) → (Nat → Int32) → Int32 → (Nat → Int32) → Prop) (t0_0 : Int32) (t0_1 : Int32) (t0_2 : Int32) (t0_3 : Int32) (t0_4 : Int32) (t0_5 : Int32) (t0_6 : Int32) (t0_7 : Int32) (t0_8 : Int32) (t0_9 : Int32) (t0_10 : Int32) (t0_11 : Int32) (t0_12 : Int32) (t0_13 : Int32) (t0_14 : Int32) (t0_15 : Int32) (t0_16 : Int32) (t0_17 : Int32) (t0_18 : Int32) (t0_19 : Int32) (t0_20 : Int32) (t0_21 : Int32) (t1_0 : (Nat → Int32)) (t2_0 : (Nat → Int32)) (t3_0 : (Nat → Int32)) (t4_0 : (Nat → Int64)) (t5_0 : (Nat → Int32)) (t6_0 : (Nat → Int32)) (t7_0 : (Nat → Int32)) (t8_0 : (Nat → Int32)) (lx62 : Int32) (lx63 : Int32) (lx64 : Int32) (lx65 : Int32) (lx66 : Int32) (lx67 : Int32) (lx68 : Int32) (lx69 : Int32) (lx70 : Int32) (lx71 : Int32) (lx72 : Int32) (lx73 : Int32) (lx74 : Int32) (lx75 : Int32) (lx76 : Int32) (lx77 : Int32) (lx78 : (Nat → Int32)) (lx79 : (Nat → Int32)) (lx80 : Int32) (lx81 : (Nat → Int32)) (p229 : (Int32 × Int32 × Int32 × Int32 × Int32 × Int32 × Int32)) (y214 : Int32) (y215 : Int32) (y216 : Int32) (y217 : Int32) (y218 : Int32) (y219 : Int32) (y220 : Int32) (p255 : (Int32 × Int32 × Int32 × Int32)) : Prop := if (p255.1 : Int32) ≤ (0 : Int32) then ((True ∧ S_VR_make t0_0 t0_1 t0_2 t0_3 lx80 (p255.1 : Int32) t0_6 y214 y215 y216 y217 y218 y219 y220 (p255.2.1 : Int32) (p255.2.2.1 : Int32) (p255.2.2.2 : Int32) lx73 lx74 lx75 lx76 lx77 t2_0 t3_0 t4_0 t5_0 lx78 lx79) ∧ (S_VR_run_c117 K_S_VR_run_L27 t0_0 t0_1 t0_2 t0_3 t0_4 t0_5 t0_6 t0_7 t0_8 t0_9 t0_10 t0_11 t0_12 t0_13 t0_14 t0_15 t0_16 t0_17 t0_18 t0_19 t0_20 t0_21 t1_0 t2_0 t3_0 t4_0 t5_0 t6_0 t7_0 t8_0 lx62 lx63 lx64 lx65 lx66 lx67 lx68 lx69 lx70 lx71 lx72 lx73 lx74 lx75 lx76 lx77 lx78 lx79 lx80 lx81 p229 y214 y215 y216 y217 y218 y219 y220 p255 (p255.1 : Int32) (p255.2.1 : Int32) (p255.2.2.1 : Int32) (p255.2.2.2 : Int32) ((F_VR_make t0_0 t0_1 t0_2 t0_3 lx80 (p255.1 : Int32) t0_6 y214 y215 y216 y217 y218 y219 y220 (p255.2.1 : Int32) (p255.2.2.1 : Int32) (p255.2.2.2 : Int32) lx73 lx74 lx75 lx76 lx77 t2_0 t3_0 t4_0 t5_0 lx78 lx79) : (Int32 × Int32 × Int32 × Int32 × Int32 × Int32 × (Nat → Int32) × (Nat → Int32))))) else (True)
def S_VR_run_c96 (K_S_VR_run_L27 : Int32 → Int32 → Int32 → Int32 → Int32 → Int32 → Int32 → Int32 → Int32 → Int32 → Int32 → Int32 → Int32 → Int32 → Int32 → Int32 → (Nat → Int32) → (Nat → Int32) → Int32 → (Nat → Int32) → Prop) (t0_0 : Int32) (t0_1 : Int32) (t0_2 : Int32) (t0_3 : Int32) (t0_4 : Int32) (t0_5 : Int32) (t0_6 : Int32) (t0_7 : Int32) (t0_8 : Int32) (t0_9 : Int32) (t0_10 : Int32) (t0_11 : Int32) (t0_12 : Int32) (t0_13 : Int32) (t0_14 : Int32) (t0_15 : Int32) (t0_16 : Int32) (t0_17 : Int32) (t0_18 : Int32) (t0_19 : Int32) (t0_20 : Int32) (t0_21 : Int32) (t1_0 : (Nat → Int32)) (t2_0 : (Nat → Int32)) (t3_0 : (Nat → Int32)) (t4_0 : (Nat → Int64)) (t5_0 : (Nat → Int32)) (t6_0 : (Nat → Int32)) (t7_0 : (Nat → Int32)) (t8_0 : (Nat → Int32)) (lx62 : Int32) (lx63 : Int32) (lx64 : Int32) (lx65 : Int32) (lx66 : Int32) (lx67 : Int32) (lx68 : Int32) (lx69 : Int32) (lx70 : Int32) (lx71 : Int32) (lx72 : Int32) (lx73 : Int32) (lx74 : Int32) (lx75 : Int32) (lx76 : Int32) (lx77 : Int32) (lx78 : (Nat → Int32)) (lx79 : (Nat → Int32)) (lx80 : Int32) (lx81 : (Nat → Int32)) (p229 : (Int32 × Int32 × Int32 × Int32 × Int32 × Int32 × Int32)) : Prop := S_VR_run_c101 K_S_VR_run_L27 t0_0 t0_1 t0_2 t0_3 t0_4 t0_5 t0_6 t0_7 t0_8 t0_9 t0_10 t0_11 t0_12 t0_13 t0_14 t0_15 t0_16 t0_17 t0_18 t0_19 t0_20 t0_21 t1_0 t2_0 t3_0 t4_0 t5_0 t6_0 t7_0 t8_0 lx62 lx63 lx64 lx65 lx66 lx67 lx68 lx69 lx70 lx71 lx72 lx73 lx74 lx75 lx76 lx77 lx78 lx79 lx80 lx81 p229 (p229.1 : Int32) (p229.2.1 : Int32) (p229.2.2.1 : Int32) (p229.2.2.2.1 : Int32) (p229.2.2.2.2.1 : Int32) (p229.2.2.2.2.2.1 : Int32) (p229.2.2.2.2.2.2 : Int32) ((F_VR_looked t0_0 t0_1 t0_2 t0_3 lx80 lx62 t0_6 (p229.1 : Int32) (p229.2.1 : Int32) (p229.2.2.1 : Int32) (p229.2.2.2.1 : Int32) (p229.2.2.2.2.1 : Int32) (p229.2.2.2.2.2.1 : Int32) (p229.2.2.2.2.2.2 : Int32) lx70 lx71 lx72 lx73 lx74 lx75 lx76 lx77 t2_0 t3_0 t4_0) : (Int32 × Int32 × Int32 × Int32))
def S_VR_run_L27 (t0_0 : Int32) (t0_1 : Int32) (t0_2 : Int32) (t0_3 : Int32) (t0_4 : Int32) (t0_5 : Int32) (t0_6 : Int32) (t0_7 : Int32) (t0_8 : Int32) (t0_9 : Int32) (t0_10 : Int32) (t0_11 : Int32) (t0_12 : Int32) (t0_13 : Int32) (t0_14 : Int32) (t0_15 : Int32) (t0_16 : Int32) (t0_17 : Int32) (t0_18 : Int32) (t0_19 : Int32) (t0_20 : Int32) (t0_21 : Int32) (t1_0 : (Nat → Int32)) (t2_0 : (Nat → Int32)) (t3_0 : (Nat → Int32)) (t4_0 : (Nat → Int64)) (t5_0 : (Nat → Int32)) (t6_0 : (Nat → Int32)) (t7_0 : (Nat → Int32)) (t8_0 : (Nat → Int32)) : Nat → Int32 → Int32 → Int32 → Int32 → Int32 → Int32 → Int32 → Int32 → Int32 → Int32 → Int32 → Int32 → Int32 → Int32 → Int32 → Int32 → (Nat → Int32) → (Nat → Int32) → Int32 → (Nat → Int32) → Prop
  | 0, _, _, _, _, _, _, _, _, _, _, _, _, _, _, _, _, _, _, _, _ => False
  | fm + 1, lx62, lx63, lx64, lx65, lx66, lx67, lx68, lx69, lx70, lx71, lx72, lx73, lx74, lx75, lx76, lx77, lx78, lx79, lx80, lx81 => if t0_1 ≤ lx63 then (True) else ((True ∧ S_VR_here t0_0 t0_1 t0_2 t0_3 lx80 lx62 t0_6 lx63 lx64 lx65 lx66 lx67 lx68 lx69 lx70 lx71 lx72 lx73 lx74 lx75 lx76 lx77 t1_0) ∧ (if ((F_VR_here t0_0 t0_1 t0_2 t0_3 lx80 lx62 t0_6 lx63 lx64 lx65 lx66 lx67 lx68 lx69 lx70 lx71 lx72 lx73 lx74 lx75 lx76 lx77 t1_0) : Int32) = (37 : Int32) then ((True ∧ S_VR_take t0_0 t0_1 t0_2 t0_3 lx80 lx62 t0_6 (lx63 + 1 : Int32) lx64 lx65 lx66 lx67 lx68 lx69 lx70 lx71 lx72 lx73 lx74 lx75 lx76 lx77 t1_0) ∧ (S_VR_run_c96 (S_VR_run_L27 t0_0 t0_1 t0_2 t0_3 t0_4 t0_5 t0_6 t0_7 t0_8 t0_9 t0_10 t0_11 t0_12 t0_13 t0_14 t0_15 t0_16 t0_17 t0_18 t0_19 t0_20 t0_21 t1_0 t2_0 t3_0 t4_0 t5_0 t6_0 t7_0 t8_0 fm) t0_0 t0_1 t0_2 t0_3 t0_4 t0_5 t0_6 t0_7 t0_8 t0_9 t0_10 t0_11 t0_12 t0_13 t0_14 t0_15 t0_16 t0_17 t0_18 t0_19 t0_20 t0_21 t1_0 t2_0 t3_0 t4_0 t5_0 t6_0 t7_0 t8_0 lx62 lx63 lx64 lx65 lx66 lx67 lx68 lx69 lx70 lx71 lx72 lx73 lx74 lx75 lx76 lx77 lx78 lx79 lx80 lx81 ((F_VR_take t0_0 t0_1 t0_2 t0_3 lx80 lx62 t0_6 (lx63 + 1 : Int32) lx64 lx65 lx66 lx67 lx68 lx69 lx70 lx71 lx72 lx73 lx74 lx75 lx76 lx77 t1_0) : (Int32 × Int32 × Int32 × Int32 × Int32 × Int32 × Int32)))) else ((True ∧ S_VR_here t0_0 t0_1 t0_2 t0_3 lx80 lx62 t0_6 lx63 lx64 lx65 lx66 lx67 lx68 lx69 lx70 lx71 lx72 (1 : Int32) lx74 lx75 lx76 lx77 t1_0) ∧ (S_VR_run_J120 (S_VR_run_L27 t0_0 t0_1 t0_2 t0_3 t0_4 t0_5 t0_6 t0_7 t0_8 t0_9 t0_10 t0_11 t0_12 t0_13 t0_14 t0_15 t0_16 t0_17 t0_18 t0_19 t0_20 t0_21 t1_0 t2_0 t3_0 t4_0 t5_0 t6_0 t7_0 t8_0 fm) t0_0 t0_1 t0_2 t0_3 t0_4 t0_5 t0_6 t0_7 t0_8 t0_9 t0_10 t0_11 t0_12 t0_13 t0_14 t0_15 t0_16 t0_17 t0_18 t0_19 t0_20 t0_21 t1_0 t2_0 t3_0 t4_0 t5_0 t6_0 t7_0 t8_0 lx62 lx63 lx64 lx65 lx66 lx67 lx68 lx69 lx70 lx71 lx72 lx73 lx74 lx75 lx76 lx77 lx78 lx79 lx80 lx81 lx62 (lx63 + 1 : Int32) lx64 lx65 lx66 lx67 lx68 lx69 lx70 lx71 lx72 1 lx74 lx75 lx76 lx77 (upd lx78 (0 : Int32).toNatClampNeg ((F_VR_here t0_0 t0_1 t0_2 t0_3 lx80 lx62 t0_6 lx63 lx64 lx65 lx66 lx67 lx68 lx69 lx70 lx71 lx72 (1 : Int32) lx74 lx75 lx76 lx77 t1_0) : Int32) : (Nat → Int32)) lx79))))
def S_VR_run (t0_0 : Int32) (t0_1 : Int32) (t0_2 : Int32) (t0_3 : Int32) (t0_4 : Int32) (t0_5 : Int32) (t0_6 : Int32) (t0_7 : Int32) (t0_8 : Int32) (t0_9 : Int32) (t0_10 : Int32) (t0_11 : Int32) (t0_12 : Int32) (t0_13 : Int32) (t0_14 : Int32) (t0_15 : Int32) (t0_16 : Int32) (t0_17 : Int32) (t0_18 : Int32) (t0_19 : Int32) (t0_20 : Int32) (t0_21 : Int32) (t1_0 : (Nat → Int32)) (t2_0 : (Nat → Int32)) (t3_0 : (Nat → Int32)) (t4_0 : (Nat → Int64)) (t5_0 : (Nat → Int32)) (t6_0 : (Nat → Int32)) (t7_0 : (Nat → Int32)) (t8_0 : (Nat → Int32)) : Prop := S_VR_run_L27 t0_0 t0_1 t0_2 t0_3 t0_4 t0_5 t0_6 t0_7 t0_8 t0_9 t0_10 t0_11 t0_12 t0_13 t0_14 t0_15 t0_16 t0_17 t0_18 t0_19 t0_20 t0_21 t1_0 t2_0 t3_0 t4_0 t5_0 t6_0 t7_0 t8_0 1000000 0 0 t0_8 t0_9 t0_10 t0_11 t0_12 t0_13 t0_14 0 (-1) t0_17 t0_18 t0_19 t0_20 t0_21 t7_0 t8_0 0 t6_0
set_option maxRecDepth 100000 in
set_option maxHeartbeats 4000000 in
theorem X_VR_run (l : Launch) (D : va_G) (g : Nat → ClassId) (q : Nat → Nat) (ws : va_W) (hI : q_I (msh g q) q ws) (t0_0 : Int32) (t0_1 : Int32) (t0_2 : Int32) (t0_3 : Int32) (t0_4 : Int32) (t0_5 : Int32) (t0_6 : Int32) (t0_7 : Int32) (t0_8 : Int32) (t0_9 : Int32) (t0_10 : Int32) (t0_11 : Int32) (t0_12 : Int32) (t0_13 : Int32) (t0_14 : Int32) (t0_15 : Int32) (t0_16 : Int32) (t0_17 : Int32) (t0_18 : Int32) (t0_19 : Int32) (t0_20 : Int32) (t0_21 : Int32) (hT0 : ws[157]? = (some (q 157, .inr (17, [.int t0_0, .ref (q 158), .int t0_1, .int t0_2, .ref (q 159), .ref (q 160), .ref (q 161), .ref (q 162), .ref (q 163), .int t0_3, .ref (q 164), .int t0_4, .int t0_5, .int t0_6, .int t0_7, .int t0_8, .int t0_9, .int t0_10, .int t0_11, .int t0_12, .int t0_13, .int t0_14, .int t0_15, .int t0_16, .ref (q 165), .int t0_17, .int t0_18, .int t0_19, .ref (q 166), .int t0_20, .int t0_21])) : Option (Nat × va_E))) (t1_0 : (Nat → Int32)) (hT1 : ws[158]? = (some (q 158, .inl (g 0, (256 : Int32).toNatClampNeg, .inl t1_0)) : Option (Nat × va_E))) (t2_0 : (Nat → Int32)) (hT2 : ws[159]? = (some (q 159, .inl (g 0, (9 : Int32).toNatClampNeg, .inl t2_0)) : Option (Nat × va_E))) (t3_0 : (Nat → Int32)) (hT3 : ws[160]? = (some (q 160, .inl (g 0, (9 : Int32).toNatClampNeg, .inl t3_0)) : Option (Nat × va_E))) (t4_0 : (Nat → Int64)) (hT4 : ws[161]? = (some (q 161, .inl (g 1, 9, .inr (.inl t4_0))) : Option (Nat × va_E))) (t5_0 : (Nat → Int32)) (hT5 : ws[162]? = (some (q 162, .inl (g 0, (576 : Int32).toNatClampNeg, .inl t5_0)) : Option (Nat × va_E))) (t6_0 : (Nat → Int32)) (hT6 : ws[164]? = (some (q 164, .inl (g 0, (4096 : Int32).toNatClampNeg, .inl t6_0)) : Option (Nat × va_E))) (t7_0 : (Nat → Int32)) (hT7 : ws[165]? = (some (q 165, .inl (g 0, (20200 : Int32).toNatClampNeg, .inl t7_0)) : Option (Nat × va_E))) (t8_0 : (Nat → Int32)) (hT8 : ws[166]? = (some (q 166, .inl (g 0, (64 : Int32).toNatClampNeg, .inl t8_0)) : Option (Nat × va_E))) (hS : True ∧ S_VR_run t0_0 t0_1 t0_2 t0_3 t0_4 t0_5 t0_6 t0_7 t0_8 t0_9 t0_10 t0_11 t0_12 t0_13 t0_14 t0_15 t0_16 t0_17 t0_18 t0_19 t0_20 t0_21 t1_0 t2_0 t3_0 t4_0 t5_0 t6_0 t7_0 t8_0) : q_mI l y_VR_run prog_16_method_40_code 3 (.int) 8 0 0 D g [.ref (q 157)] ws (fun r u => q_I (msh g q) q u ∧ q_un ws u [157, 164, 165, 166] ∧ ∃ (u0_4 : Int32) (u0_5 : Int32) (u0_7 : Int32) (u0_8 : Int32) (u0_9 : Int32) (u0_10 : Int32) (u0_11 : Int32) (u0_12 : Int32) (u0_13 : Int32) (u0_14 : Int32) (u0_15 : Int32) (u0_16 : Int32) (u0_17 : Int32) (u0_18 : Int32) (u0_19 : Int32) (u0_20 : Int32) (u0_21 : Int32) (u6_0 : (Nat → Int32)) (u7_0 : (Nat → Int32)) (u8_0 : (Nat → Int32)), u[157]? = (some (q 157, .inr (17, [.int t0_0, .ref (q 158), .int t0_1, .int t0_2, .ref (q 159), .ref (q 160), .ref (q 161), .ref (q 162), .ref (q 163), .int t0_3, .ref (q 164), .int u0_4, .int u0_5, .int t0_6, .int u0_7, .int u0_8, .int u0_9, .int u0_10, .int u0_11, .int u0_12, .int u0_13, .int u0_14, .int u0_15, .int u0_16, .ref (q 165), .int u0_17, .int u0_18, .int u0_19, .ref (q 166), .int u0_20, .int u0_21])) : Option (Nat × va_E)) ∧ u[164]? = (some (q 164, .inl (g 0, (4096 : Int32).toNatClampNeg, .inl u6_0)) : Option (Nat × va_E)) ∧ u[165]? = (some (q 165, .inl (g 0, (20200 : Int32).toNatClampNeg, .inl u7_0)) : Option (Nat × va_E)) ∧ u[166]? = (some (q 166, .inl (g 0, (64 : Int32).toNatClampNeg, .inl u8_0)) : Option (Nat × va_E)) ∧ (0 ≤ u0_4.toInt) ∧ (0 ≤ u0_5.toInt) ∧ (u0_5.toInt ≤ 12) ∧ (0 ≤ u0_10.toInt) ∧ (u0_10.toInt ≤ 1) ∧ (0 ≤ u0_19.toInt) ∧ (u0_19.toInt ≤ 1) ∧ (r.toInt + 1 ≤ t0_1.toInt) ∧ (r.toInt ≤ u0_5.toInt + 254) ∧ (r, u0_4, u0_5, u0_7, u0_8, u0_9, u0_10, u0_11, u0_12, u0_13, u0_14, u0_15, u0_16, u0_17, u0_18, u0_19, u0_20, u0_21, u6_0, u7_0, u8_0) = (F_VR_run t0_0 t0_1 t0_2 t0_3 t0_4 t0_5 t0_6 t0_7 t0_8 t0_9 t0_10 t0_11 t0_12 t0_13 t0_14 t0_15 t0_16 t0_17 t0_18 t0_19 t0_20 t0_21 t1_0 t2_0 t3_0 t4_0 t5_0 t6_0 t7_0 t8_0)) := by
  intro sz
  refine q_into (by decide) (Nat.le_of_ble_eq_true rfl) ?_
  intro p e s m below meth c ls hsz C0 V hl
  have hx := C0.1
  have hb := C0.2.1
  obtain ⟨btt0_1, hZ9⟩ := n_w157 hI hT0
  obtain ⟨btt0_2, hZ9⟩ := hZ9
  obtain ⟨btt0_3, hZ9⟩ := hZ9
  obtain ⟨btt0_10, btt0_19⟩ := hZ9
  replace btt0_1 : q_F (0 ≤ t0_1.toInt ∧ t0_1.toInt ≤ 256) := btt0_1
  replace btt0_2 : q_F (0 ≤ t0_2.toInt ∧ t0_2.toInt ≤ 9) := btt0_2
  replace btt0_3 : q_F (0 ≤ t0_3.toInt ∧ t0_3.toInt ≤ 4096) := btt0_3
  replace btt0_10 : q_F (0 ≤ t0_10.toInt ∧ t0_10.toInt ≤ 1) := btt0_10
  replace btt0_19 : q_F (0 ≤ t0_19.toInt ∧ t0_19.toInt ≤ 1) := btt0_19
  have hF : q_un ws ws [157, 164, 165, 166] := q_u0
  have hl : lv_has ls 3 [(0, .ref (q 157))] := hl
  refine lv_aload_n hx hb d_16_40_0 rfl (lv_at hl 0 rfl) ?_
  refine lv_iconst (v := 0) hx hb d_16_40_1 (by decide) ?_
  refine q_put (ci := 17) (j := 14) (v := .int 0) (ty := .int) C0 V i_VR o_VR n_VR rfl rfl hT0 (by decide) w_2218 rfl rfl rfl rfl (Nat.le_of_ble_eq_true rfl) d_16_40_2 (fun H locs w52 hu53 hT0 V => ?_)
  replace hT0 : w52[157]? = (some (q 157, .inr (17, [.int t0_0, .ref (q 158), .int t0_1, .int t0_2, .ref (q 159), .ref (q 160), .ref (q 161), .ref (q 162), .ref (q 163), .int t0_3, .ref (q 164), .int t0_4, .int t0_5, .int t0_6, .int 0, .int t0_8, .int t0_9, .int t0_10, .int t0_11, .int t0_12, .int t0_13, .int t0_14, .int t0_15, .int t0_16, .ref (q 165), .int t0_17, .int t0_18, .int t0_19, .ref (q 166), .int t0_20, .int t0_21])) : Option (Nat × va_E)) := hT0
  replace hI := n_p157 hI hu53 hT0 (by first | with_reducible exact q_fe btt0_1 | exact ⟨(by have t1 : 0 ≤ t0_1.toInt ∧ t0_1.toInt ≤ 256 := btt0_1; omega), (by have t1 : 0 ≤ t0_1.toInt ∧ t0_1.toInt ≤ 256 := btt0_1; omega)⟩) (by first | with_reducible exact q_fe btt0_2 | exact ⟨(by have t1 : 0 ≤ t0_2.toInt ∧ t0_2.toInt ≤ 9 := btt0_2; omega), (by have t1 : 0 ≤ t0_2.toInt ∧ t0_2.toInt ≤ 9 := btt0_2; omega)⟩) (by first | with_reducible exact q_fe btt0_3 | exact ⟨(by have t1 : 0 ≤ t0_3.toInt ∧ t0_3.toInt ≤ 4096 := btt0_3; omega), (by have t1 : 0 ≤ t0_3.toInt ∧ t0_3.toInt ≤ 4096 := btt0_3; omega)⟩) (by first | with_reducible exact q_fe btt0_10 | exact ⟨(by have t1 : 0 ≤ t0_10.toInt ∧ t0_10.toInt ≤ 1 := btt0_10; omega), (by have t1 : 0 ≤ t0_10.toInt ∧ t0_10.toInt ≤ 1 := btt0_10; omega)⟩) (by first | with_reducible exact q_fe btt0_19 | exact ⟨(by have t1 : 0 ≤ t0_19.toInt ∧ t0_19.toInt ≤ 1 := btt0_19; omega), (by have t1 : 0 ≤ t0_19.toInt ∧ t0_19.toInt ≤ 1 := btt0_19; omega)⟩)
  replace hT1 := (hu53 _ (by decide)).trans hT1
  replace hT2 := (hu53 _ (by decide)).trans hT2
  replace hT3 := (hu53 _ (by decide)).trans hT3
  replace hT4 := (hu53 _ (by decide)).trans hT4
  replace hT5 := (hu53 _ (by decide)).trans hT5
  replace hT6 := (hu53 _ (by decide)).trans hT6
  replace hT7 := (hu53 _ (by decide)).trans hT7
  replace hT8 := (hu53 _ (by decide)).trans hT8
  replace hF := q_us hF hu53 (by simp)
  refine lv_aload_n hx hb d_16_40_5 rfl (lv_at hl 0 rfl) ?_
  refine lv_iconst (v := 0) hx hb d_16_40_6 (by decide) ?_
  refine q_put (ci := 17) (j := 22) (v := .int 0) (ty := .int) C0 V i_VR o_VR n_VR rfl rfl hT0 (by decide) w_2226 rfl rfl rfl rfl (Nat.le_of_ble_eq_true rfl) d_16_40_7 (fun H locs w54 hu55 hT0 V => ?_)
  replace hT0 : w54[157]? = (some (q 157, .inr (17, [.int t0_0, .ref (q 158), .int t0_1, .int t0_2, .ref (q 159), .ref (q 160), .ref (q 161), .ref (q 162), .ref (q 163), .int t0_3, .ref (q 164), .int t0_4, .int t0_5, .int t0_6, .int 0, .int t0_8, .int t0_9, .int t0_10, .int t0_11, .int t0_12, .int t0_13, .int t0_14, .int 0, .int t0_16, .ref (q 165), .int t0_17, .int t0_18, .int t0_19, .ref (q 166), .int t0_20, .int t0_21])) : Option (Nat × va_E)) := hT0
  replace hI := n_p157 hI hu55 hT0 (by first | with_reducible exact q_fe btt0_1 | exact ⟨(by have t1 : 0 ≤ t0_1.toInt ∧ t0_1.toInt ≤ 256 := btt0_1; omega), (by have t1 : 0 ≤ t0_1.toInt ∧ t0_1.toInt ≤ 256 := btt0_1; omega)⟩) (by first | with_reducible exact q_fe btt0_2 | exact ⟨(by have t1 : 0 ≤ t0_2.toInt ∧ t0_2.toInt ≤ 9 := btt0_2; omega), (by have t1 : 0 ≤ t0_2.toInt ∧ t0_2.toInt ≤ 9 := btt0_2; omega)⟩) (by first | with_reducible exact q_fe btt0_3 | exact ⟨(by have t1 : 0 ≤ t0_3.toInt ∧ t0_3.toInt ≤ 4096 := btt0_3; omega), (by have t1 : 0 ≤ t0_3.toInt ∧ t0_3.toInt ≤ 4096 := btt0_3; omega)⟩) (by first | with_reducible exact q_fe btt0_10 | exact ⟨(by have t1 : 0 ≤ t0_10.toInt ∧ t0_10.toInt ≤ 1 := btt0_10; omega), (by have t1 : 0 ≤ t0_10.toInt ∧ t0_10.toInt ≤ 1 := btt0_10; omega)⟩) (by first | with_reducible exact q_fe btt0_19 | exact ⟨(by have t1 : 0 ≤ t0_19.toInt ∧ t0_19.toInt ≤ 1 := btt0_19; omega), (by have t1 : 0 ≤ t0_19.toInt ∧ t0_19.toInt ≤ 1 := btt0_19; omega)⟩)
  replace hT1 := (hu55 _ (by decide)).trans hT1
  replace hT2 := (hu55 _ (by decide)).trans hT2
  replace hT3 := (hu55 _ (by decide)).trans hT3
  replace hT4 := (hu55 _ (by decide)).trans hT4
  replace hT5 := (hu55 _ (by decide)).trans hT5
  replace hT6 := (hu55 _ (by decide)).trans hT6
  replace hT7 := (hu55 _ (by decide)).trans hT7
  replace hT8 := (hu55 _ (by decide)).trans hT8
  replace hF := q_us hF hu55 (by simp)
  refine lv_aload_n hx hb d_16_40_10 rfl (lv_at hl 0 rfl) ?_
  refine lv_iconst (v := (-1)) hx hb d_16_40_11 (by decide) ?_
  refine q_put (ci := 17) (j := 23) (v := .int (-1)) (ty := .int) C0 V i_VR o_VR n_VR rfl rfl hT0 (by decide) w_2227 rfl rfl rfl rfl (Nat.le_of_ble_eq_true rfl) d_16_40_12 (fun H locs w56 hu57 hT0 V => ?_)
  replace hT0 : w56[157]? = (some (q 157, .inr (17, [.int t0_0, .ref (q 158), .int t0_1, .int t0_2, .ref (q 159), .ref (q 160), .ref (q 161), .ref (q 162), .ref (q 163), .int t0_3, .ref (q 164), .int t0_4, .int t0_5, .int t0_6, .int 0, .int t0_8, .int t0_9, .int t0_10, .int t0_11, .int t0_12, .int t0_13, .int t0_14, .int 0, .int (-1), .ref (q 165), .int t0_17, .int t0_18, .int t0_19, .ref (q 166), .int t0_20, .int t0_21])) : Option (Nat × va_E)) := hT0
  replace hI := n_p157 hI hu57 hT0 (by first | with_reducible exact q_fe btt0_1 | exact ⟨(by have t1 : 0 ≤ t0_1.toInt ∧ t0_1.toInt ≤ 256 := btt0_1; omega), (by have t1 : 0 ≤ t0_1.toInt ∧ t0_1.toInt ≤ 256 := btt0_1; omega)⟩) (by first | with_reducible exact q_fe btt0_2 | exact ⟨(by have t1 : 0 ≤ t0_2.toInt ∧ t0_2.toInt ≤ 9 := btt0_2; omega), (by have t1 : 0 ≤ t0_2.toInt ∧ t0_2.toInt ≤ 9 := btt0_2; omega)⟩) (by first | with_reducible exact q_fe btt0_3 | exact ⟨(by have t1 : 0 ≤ t0_3.toInt ∧ t0_3.toInt ≤ 4096 := btt0_3; omega), (by have t1 : 0 ≤ t0_3.toInt ∧ t0_3.toInt ≤ 4096 := btt0_3; omega)⟩) (by first | with_reducible exact q_fe btt0_10 | exact ⟨(by have t1 : 0 ≤ t0_10.toInt ∧ t0_10.toInt ≤ 1 := btt0_10; omega), (by have t1 : 0 ≤ t0_10.toInt ∧ t0_10.toInt ≤ 1 := btt0_10; omega)⟩) (by first | with_reducible exact q_fe btt0_19 | exact ⟨(by have t1 : 0 ≤ t0_19.toInt ∧ t0_19.toInt ≤ 1 := btt0_19; omega), (by have t1 : 0 ≤ t0_19.toInt ∧ t0_19.toInt ≤ 1 := btt0_19; omega)⟩)
  replace hT1 := (hu57 _ (by decide)).trans hT1
  replace hT2 := (hu57 _ (by decide)).trans hT2
  replace hT3 := (hu57 _ (by decide)).trans hT3
  replace hT4 := (hu57 _ (by decide)).trans hT4
  replace hT5 := (hu57 _ (by decide)).trans hT5
  replace hT6 := (hu57 _ (by decide)).trans hT6
  replace hT7 := (hu57 _ (by decide)).trans hT7
  replace hT8 := (hu57 _ (by decide)).trans hT8
  replace hF := q_us hF hu57 (by simp)
  refine lv_aload_n hx hb d_16_40_15 rfl (lv_at hl 0 rfl) ?_
  refine lv_iconst (v := 0) hx hb d_16_40_16 (by decide) ?_
  refine q_put (ci := 17) (j := 11) (v := .int 0) (ty := .int) C0 V i_VR o_VR n_VR rfl rfl hT0 (by decide) w_2213 rfl rfl rfl rfl (Nat.le_of_ble_eq_true rfl) d_16_40_17 (fun H locs w58 hu59 hT0 V => ?_)
  replace hT0 : w58[157]? = (some (q 157, .inr (17, [.int t0_0, .ref (q 158), .int t0_1, .int t0_2, .ref (q 159), .ref (q 160), .ref (q 161), .ref (q 162), .ref (q 163), .int t0_3, .ref (q 164), .int 0, .int t0_5, .int t0_6, .int 0, .int t0_8, .int t0_9, .int t0_10, .int t0_11, .int t0_12, .int t0_13, .int t0_14, .int 0, .int (-1), .ref (q 165), .int t0_17, .int t0_18, .int t0_19, .ref (q 166), .int t0_20, .int t0_21])) : Option (Nat × va_E)) := hT0
  replace hI := n_p157 hI hu59 hT0 (by first | with_reducible exact q_fe btt0_1 | exact ⟨(by have t1 : 0 ≤ t0_1.toInt ∧ t0_1.toInt ≤ 256 := btt0_1; omega), (by have t1 : 0 ≤ t0_1.toInt ∧ t0_1.toInt ≤ 256 := btt0_1; omega)⟩) (by first | with_reducible exact q_fe btt0_2 | exact ⟨(by have t1 : 0 ≤ t0_2.toInt ∧ t0_2.toInt ≤ 9 := btt0_2; omega), (by have t1 : 0 ≤ t0_2.toInt ∧ t0_2.toInt ≤ 9 := btt0_2; omega)⟩) (by first | with_reducible exact q_fe btt0_3 | exact ⟨(by have t1 : 0 ≤ t0_3.toInt ∧ t0_3.toInt ≤ 4096 := btt0_3; omega), (by have t1 : 0 ≤ t0_3.toInt ∧ t0_3.toInt ≤ 4096 := btt0_3; omega)⟩) (by first | with_reducible exact q_fe btt0_10 | exact ⟨(by have t1 : 0 ≤ t0_10.toInt ∧ t0_10.toInt ≤ 1 := btt0_10; omega), (by have t1 : 0 ≤ t0_10.toInt ∧ t0_10.toInt ≤ 1 := btt0_10; omega)⟩) (by first | with_reducible exact q_fe btt0_19 | exact ⟨(by have t1 : 0 ≤ t0_19.toInt ∧ t0_19.toInt ≤ 1 := btt0_19; omega), (by have t1 : 0 ≤ t0_19.toInt ∧ t0_19.toInt ≤ 1 := btt0_19; omega)⟩)
  replace hT1 := (hu59 _ (by decide)).trans hT1
  replace hT2 := (hu59 _ (by decide)).trans hT2
  replace hT3 := (hu59 _ (by decide)).trans hT3
  replace hT4 := (hu59 _ (by decide)).trans hT4
  replace hT5 := (hu59 _ (by decide)).trans hT5
  replace hT6 := (hu59 _ (by decide)).trans hT6
  replace hT7 := (hu59 _ (by decide)).trans hT7
  replace hT8 := (hu59 _ (by decide)).trans hT8
  replace hF := q_us hF hu59 (by simp)
  refine lv_aload_n hx hb d_16_40_20 rfl (lv_at hl 0 rfl) ?_
  refine lv_iconst (v := 0) hx hb d_16_40_21 (by decide) ?_
  refine q_put (ci := 17) (j := 12) (v := .int 0) (ty := .int) C0 V i_VR o_VR n_VR rfl rfl hT0 (by decide) w_2215 rfl rfl rfl rfl (Nat.le_of_ble_eq_true rfl) d_16_40_22 (fun H locs w60 hu61 hT0 V => ?_)
  replace hT0 : w60[157]? = (some (q 157, .inr (17, [.int t0_0, .ref (q 158), .int t0_1, .int t0_2, .ref (q 159), .ref (q 160), .ref (q 161), .ref (q 162), .ref (q 163), .int t0_3, .ref (q 164), .int 0, .int 0, .int t0_6, .int 0, .int t0_8, .int t0_9, .int t0_10, .int t0_11, .int t0_12, .int t0_13, .int t0_14, .int 0, .int (-1), .ref (q 165), .int t0_17, .int t0_18, .int t0_19, .ref (q 166), .int t0_20, .int t0_21])) : Option (Nat × va_E)) := hT0
  replace hI := n_p157 hI hu61 hT0 (by first | with_reducible exact q_fe btt0_1 | exact ⟨(by have t1 : 0 ≤ t0_1.toInt ∧ t0_1.toInt ≤ 256 := btt0_1; omega), (by have t1 : 0 ≤ t0_1.toInt ∧ t0_1.toInt ≤ 256 := btt0_1; omega)⟩) (by first | with_reducible exact q_fe btt0_2 | exact ⟨(by have t1 : 0 ≤ t0_2.toInt ∧ t0_2.toInt ≤ 9 := btt0_2; omega), (by have t1 : 0 ≤ t0_2.toInt ∧ t0_2.toInt ≤ 9 := btt0_2; omega)⟩) (by first | with_reducible exact q_fe btt0_3 | exact ⟨(by have t1 : 0 ≤ t0_3.toInt ∧ t0_3.toInt ≤ 4096 := btt0_3; omega), (by have t1 : 0 ≤ t0_3.toInt ∧ t0_3.toInt ≤ 4096 := btt0_3; omega)⟩) (by first | with_reducible exact q_fe btt0_10 | exact ⟨(by have t1 : 0 ≤ t0_10.toInt ∧ t0_10.toInt ≤ 1 := btt0_10; omega), (by have t1 : 0 ≤ t0_10.toInt ∧ t0_10.toInt ≤ 1 := btt0_10; omega)⟩) (by first | with_reducible exact q_fe btt0_19 | exact ⟨(by have t1 : 0 ≤ t0_19.toInt ∧ t0_19.toInt ≤ 1 := btt0_19; omega), (by have t1 : 0 ≤ t0_19.toInt ∧ t0_19.toInt ≤ 1 := btt0_19; omega)⟩)
  replace hT1 := (hu61 _ (by decide)).trans hT1
  replace hT2 := (hu61 _ (by decide)).trans hT2
  replace hT3 := (hu61 _ (by decide)).trans hT3
  replace hT4 := (hu61 _ (by decide)).trans hT4
  replace hT5 := (hu61 _ (by decide)).trans hT5
  replace hT6 := (hu61 _ (by decide)).trans hT6
  replace hT7 := (hu61 _ (by decide)).trans hT7
  replace hT8 := (hu61 _ (by decide)).trans hT8
  replace hF := q_us hF hu61 (by simp)
  refine lv_iconst (v := (-1)) hx hb d_16_40_25 (by decide) ?_
  refine lv_istore_n (lv' := [(1, .int (-1)), (0, .ref (q 157))]) hx hb d_16_40_26 rfl hl (by decide) rfl (fun ls hl => ?_)
  refine q_loop (X := Nat × Int32 × Int32 × Int32 × Int32 × Int32 × Int32 × Int32 × Int32 × Int32 × Int32 × Int32 × Int32 × Int32 × Int32 × Int32 × Int32 × (Nat → Int32) × (Nat → Int32) × Int32 × (Nat → Int32)) (fun z H locs ls w90 => q_F (0 ≤ z.2.1.toInt) ∧ q_F (z.2.1.toInt ≤ 0) ∧ q_F (0 ≤ z.2.2.2.2.2.1.toInt) ∧ q_F (0 ≤ z.2.2.2.2.2.2.2.2.2.2.2.2.2.2.1.toInt) ∧ q_F (z.2.2.2.2.2.2.2.2.2.2.2.2.2.2.1.toInt ≤ 1) ∧ q_F (0 ≤ z.2.2.2.2.2.2.2.2.2.2.2.2.2.2.2.2.2.2.2.1.toInt) ∧ q_F (z.2.2.2.2.2.1.toInt ≤ t0_10.toInt) ∧ q_Wd D g (va_A ws sz) s w90 H locs ∧ lv_has ls 3 [(0, .ref (q 157))] ∧ q_I (msh g q) q w90 ∧ q_un ws w90 [157, 164, 165, 166] ∧ w90[157]? = (some (q 157, .inr (17, [.int t0_0, .ref (q 158), .int t0_1, .int t0_2, .ref (q 159), .ref (q 160), .ref (q 161), .ref (q 162), .ref (q 163), .int t0_3, .ref (q 164), .int z.2.2.2.2.2.2.2.2.2.2.2.2.2.2.2.2.2.2.2.1, .int z.2.1, .int t0_6, .int z.2.2.1, .int z.2.2.2.1, .int z.2.2.2.2.1, .int z.2.2.2.2.2.1, .int z.2.2.2.2.2.2.1, .int z.2.2.2.2.2.2.2.1, .int z.2.2.2.2.2.2.2.2.1, .int z.2.2.2.2.2.2.2.2.2.1, .int z.2.2.2.2.2.2.2.2.2.2.1, .int z.2.2.2.2.2.2.2.2.2.2.2.1, .ref (q 165), .int z.2.2.2.2.2.2.2.2.2.2.2.2.1, .int z.2.2.2.2.2.2.2.2.2.2.2.2.2.1, .int z.2.2.2.2.2.2.2.2.2.2.2.2.2.2.1, .ref (q 166), .int z.2.2.2.2.2.2.2.2.2.2.2.2.2.2.2.1, .int z.2.2.2.2.2.2.2.2.2.2.2.2.2.2.2.2.1])) : Option (Nat × va_E)) ∧ w90[158]? = (some (q 158, .inl (g 0, (256 : Int32).toNatClampNeg, .inl t1_0)) : Option (Nat × va_E)) ∧ w90[159]? = (some (q 159, .inl (g 0, (9 : Int32).toNatClampNeg, .inl t2_0)) : Option (Nat × va_E)) ∧ w90[160]? = (some (q 160, .inl (g 0, (9 : Int32).toNatClampNeg, .inl t3_0)) : Option (Nat × va_E)) ∧ w90[161]? = (some (q 161, .inl (g 1, 9, .inr (.inl t4_0))) : Option (Nat × va_E)) ∧ w90[162]? = (some (q 162, .inl (g 0, (576 : Int32).toNatClampNeg, .inl t5_0)) : Option (Nat × va_E)) ∧ w90[164]? = (some (q 164, .inl (g 0, (4096 : Int32).toNatClampNeg, .inl z.2.2.2.2.2.2.2.2.2.2.2.2.2.2.2.2.2.2.2.2)) : Option (Nat × va_E)) ∧ w90[165]? = (some (q 165, .inl (g 0, (20200 : Int32).toNatClampNeg, .inl z.2.2.2.2.2.2.2.2.2.2.2.2.2.2.2.2.2.1)) : Option (Nat × va_E)) ∧ w90[166]? = (some (q 166, .inl (g 0, (64 : Int32).toNatClampNeg, .inl z.2.2.2.2.2.2.2.2.2.2.2.2.2.2.2.2.2.2.1)) : Option (Nat × va_E)) ∧ F_VR_run_L27 t0_0 t0_1 t0_2 t0_3 t0_4 t0_5 t0_6 t0_7 t0_8 t0_9 t0_10 t0_11 t0_12 t0_13 t0_14 t0_15 t0_16 t0_17 t0_18 t0_19 t0_20 t0_21 t1_0 t2_0 t3_0 t4_0 t5_0 t6_0 t7_0 t8_0 z.1 z.2.1 z.2.2.1 z.2.2.2.1 z.2.2.2.2.1 z.2.2.2.2.2.1 z.2.2.2.2.2.2.1 z.2.2.2.2.2.2.2.1 z.2.2.2.2.2.2.2.2.1 z.2.2.2.2.2.2.2.2.2.1 z.2.2.2.2.2.2.2.2.2.2.1 z.2.2.2.2.2.2.2.2.2.2.2.1 z.2.2.2.2.2.2.2.2.2.2.2.2.1 z.2.2.2.2.2.2.2.2.2.2.2.2.2.1 z.2.2.2.2.2.2.2.2.2.2.2.2.2.2.1 z.2.2.2.2.2.2.2.2.2.2.2.2.2.2.2.1 z.2.2.2.2.2.2.2.2.2.2.2.2.2.2.2.2.1 z.2.2.2.2.2.2.2.2.2.2.2.2.2.2.2.2.2.1 z.2.2.2.2.2.2.2.2.2.2.2.2.2.2.2.2.2.2.1 z.2.2.2.2.2.2.2.2.2.2.2.2.2.2.2.2.2.2.2.1 z.2.2.2.2.2.2.2.2.2.2.2.2.2.2.2.2.2.2.2.2 = (F_VR_run t0_0 t0_1 t0_2 t0_3 t0_4 t0_5 t0_6 t0_7 t0_8 t0_9 t0_10 t0_11 t0_12 t0_13 t0_14 t0_15 t0_16 t0_17 t0_18 t0_19 t0_20 t0_21 t1_0 t2_0 t3_0 t4_0 t5_0 t6_0 t7_0 t8_0) ∧ True ∧ S_VR_run_L27 t0_0 t0_1 t0_2 t0_3 t0_4 t0_5 t0_6 t0_7 t0_8 t0_9 t0_10 t0_11 t0_12 t0_13 t0_14 t0_15 t0_16 t0_17 t0_18 t0_19 t0_20 t0_21 t1_0 t2_0 t3_0 t4_0 t5_0 t6_0 t7_0 t8_0 z.1 z.2.1 z.2.2.1 z.2.2.2.1 z.2.2.2.2.1 z.2.2.2.2.2.1 z.2.2.2.2.2.2.1 z.2.2.2.2.2.2.2.1 z.2.2.2.2.2.2.2.2.1 z.2.2.2.2.2.2.2.2.2.1 z.2.2.2.2.2.2.2.2.2.2.1 z.2.2.2.2.2.2.2.2.2.2.2.1 z.2.2.2.2.2.2.2.2.2.2.2.2.1 z.2.2.2.2.2.2.2.2.2.2.2.2.2.1 z.2.2.2.2.2.2.2.2.2.2.2.2.2.2.1 z.2.2.2.2.2.2.2.2.2.2.2.2.2.2.2.1 z.2.2.2.2.2.2.2.2.2.2.2.2.2.2.2.2.1 z.2.2.2.2.2.2.2.2.2.2.2.2.2.2.2.2.2.1 z.2.2.2.2.2.2.2.2.2.2.2.2.2.2.2.2.2.2.1 z.2.2.2.2.2.2.2.2.2.2.2.2.2.2.2.2.2.2.2.1 z.2.2.2.2.2.2.2.2.2.2.2.2.2.2.2.2.2.2.2.2) (fun z => z.1) ?_ ((1000000 : Nat), (0 : Int32), (0 : Int32), (t0_8 : Int32), (t0_9 : Int32), (t0_10 : Int32), (t0_11 : Int32), (t0_12 : Int32), (t0_13 : Int32), (t0_14 : Int32), (0 : Int32), ((-1) : Int32), (t0_17 : Int32), (t0_18 : Int32), (t0_19 : Int32), (t0_20 : Int32), (t0_21 : Int32), (t7_0 : (Nat → Int32)), (t8_0 : (Nat → Int32)), (0 : Int32), (t6_0 : (Nat → Int32))) _ _ _ w60 ⟨(show q_F (0 ≤ 0) from (show 0 ≤ 0 from by omega)), (show q_F (0 ≤ 0) from (show 0 ≤ 0 from by omega)), (show q_F (0 ≤ t0_10.toInt) from (show 0 ≤ t0_10.toInt from by have t1 : 0 ≤ t0_10.toInt ∧ t0_10.toInt ≤ 1 := btt0_10; omega)), (show q_F (0 ≤ t0_19.toInt) from (show 0 ≤ t0_19.toInt from by have t1 : 0 ≤ t0_19.toInt ∧ t0_19.toInt ≤ 1 := btt0_19; omega)), (show q_F (t0_19.toInt ≤ 1) from (show t0_19.toInt ≤ 1 from by have t1 : 0 ≤ t0_19.toInt ∧ t0_19.toInt ≤ 1 := btt0_19; omega)), (show q_F (0 ≤ 0) from (show 0 ≤ 0 from by omega)), (show q_F (t0_10.toInt ≤ t0_10.toInt) from (show t0_10.toInt ≤ t0_10.toInt from by omega)), V, q_lw hl (q_lw1 1 rfl q_lw0), hI, hF, hT0, hT1, hT2, hT3, hT4, hT5, hT6, hT7, hT8, (show F_VR_run_L27 t0_0 t0_1 t0_2 t0_3 t0_4 t0_5 t0_6 t0_7 t0_8 t0_9 t0_10 t0_11 t0_12 t0_13 t0_14 t0_15 t0_16 t0_17 t0_18 t0_19 t0_20 t0_21 t1_0 t2_0 t3_0 t4_0 t5_0 t6_0 t7_0 t8_0 1000000 0 0 t0_8 t0_9 t0_10 t0_11 t0_12 t0_13 t0_14 0 (-1) t0_17 t0_18 t0_19 t0_20 t0_21 t7_0 t8_0 0 t6_0 = (F_VR_run t0_0 t0_1 t0_2 t0_3 t0_4 t0_5 t0_6 t0_7 t0_8 t0_9 t0_10 t0_11 t0_12 t0_13 t0_14 t0_15 t0_16 t0_17 t0_18 t0_19 t0_20 t0_21 t1_0 t2_0 t3_0 t4_0 t5_0 t6_0 t7_0 t8_0) from (by rw [F_VR_run.eq_1])), (show True ∧ S_VR_run_L27 t0_0 t0_1 t0_2 t0_3 t0_4 t0_5 t0_6 t0_7 t0_8 t0_9 t0_10 t0_11 t0_12 t0_13 t0_14 t0_15 t0_16 t0_17 t0_18 t0_19 t0_20 t0_21 t1_0 t2_0 t3_0 t4_0 t5_0 t6_0 t7_0 t8_0 1000000 0 0 t0_8 t0_9 t0_10 t0_11 t0_12 t0_13 t0_14 0 (-1) t0_17 t0_18 t0_19 t0_20 t0_21 t7_0 t8_0 0 t6_0 from (by have h := hS; rw [S_VR_run.eq_1] at h; with_reducible exact h))⟩
  rintro ⟨fu102, lx62, lx63, lx64, lx65, lx66, lx67, lx68, lx69, lx70, lx71, lx72, lx73, lx74, lx75, lx76, lx77, lx78, lx79, lx80, lx81⟩ H locs ls w90 ⟨i82, i83, i84, i85, i86, i87, i88, V, hl, hI, hF, hO91, hO92, hO93, hO94, hO95, hO96, hO97, hO98, hO99, hR100, hS101⟩ ih89
  obtain ⟨fm104, rfl⟩ : ∃ m, fu102 = m + 1 := Nat.exists_eq_succ_of_ne_zero (fun e => by subst e; rw [S_VR_run_L27.eq_1] at hS101; exact hS101.2)
  replace i82 : q_F (0 ≤ lx62.toInt) := i82
  replace i83 : q_F (lx62.toInt ≤ 0) := i83
  replace i84 : q_F (0 ≤ lx66.toInt) := i84
  replace i85 : q_F (0 ≤ lx75.toInt) := i85
  replace i86 : q_F (lx75.toInt ≤ 1) := i86
  replace i87 : q_F (0 ≤ lx80.toInt) := i87
  replace i88 : q_F (lx66.toInt ≤ t0_10.toInt) := i88
  replace hl : lv_has ls 3 [(0, .ref (q 157))] := hl
  replace hO91 : w90[157]? = (some (q 157, .inr (17, [.int t0_0, .ref (q 158), .int t0_1, .int t0_2, .ref (q 159), .ref (q 160), .ref (q 161), .ref (q 162), .ref (q 163), .int t0_3, .ref (q 164), .int lx80, .int lx62, .int t0_6, .int lx63, .int lx64, .int lx65, .int lx66, .int lx67, .int lx68, .int lx69, .int lx70, .int lx71, .int lx72, .ref (q 165), .int lx73, .int lx74, .int lx75, .ref (q 166), .int lx76, .int lx77])) : Option (Nat × va_E)) := hO91
  replace hO92 : w90[158]? = (some (q 158, .inl (g 0, (256 : Int32).toNatClampNeg, .inl t1_0)) : Option (Nat × va_E)) := hO92
  replace hO93 : w90[159]? = (some (q 159, .inl (g 0, (9 : Int32).toNatClampNeg, .inl t2_0)) : Option (Nat × va_E)) := hO93
  replace hO94 : w90[160]? = (some (q 160, .inl (g 0, (9 : Int32).toNatClampNeg, .inl t3_0)) : Option (Nat × va_E)) := hO94
  replace hO95 : w90[161]? = (some (q 161, .inl (g 1, 9, .inr (.inl t4_0))) : Option (Nat × va_E)) := hO95
  replace hO96 : w90[162]? = (some (q 162, .inl (g 0, (576 : Int32).toNatClampNeg, .inl t5_0)) : Option (Nat × va_E)) := hO96
  replace hO97 : w90[164]? = (some (q 164, .inl (g 0, (4096 : Int32).toNatClampNeg, .inl lx81)) : Option (Nat × va_E)) := hO97
  replace hO98 : w90[165]? = (some (q 165, .inl (g 0, (20200 : Int32).toNatClampNeg, .inl lx78)) : Option (Nat × va_E)) := hO98
  replace hO99 : w90[166]? = (some (q 166, .inl (g 0, (64 : Int32).toNatClampNeg, .inl lx79)) : Option (Nat × va_E)) := hO99
  refine lv_aload_n hx hb d_16_40_27 rfl (lv_at hl 0 rfl) ?_
  refine q_get (ci := 17) (j := 14) (v := .int lx63) C0 V i_VR rfl rfl hO91 (by decide) w_2218 rfl d_16_40_28 ?_
  refine lv_aload_n hx hb d_16_40_31 rfl (lv_at hl 0 rfl) ?_
  refine q_get (ci := 17) (j := 2) (v := .int t0_1) C0 V i_VR rfl rfl hO91 (by decide) w_2201 rfl d_16_40_32 ?_
  refine lv_icmp_ge (tgt := 187) hx hb d_16_40_35 (by decide) (fun c105 => ?_) (fun c105 => ?_)
  ·
    refine lv_iconst (v := (-1)) hx hb d_16_40_187 (by decide) ?_
    exact q_reti C0 V (⟨hI, hF, lx80, lx62, lx63, lx64, lx65, lx66, lx67, lx68, lx69, lx70, lx71, lx72, lx73, lx74, lx75, lx76, lx77, lx81, lx78, lx79, hO91, hO97, hO98, hO99, (show 0 ≤ lx80.toInt from (by have z30 : (-1 : Int32).toInt = -1 := rfl; have t1 : 0 ≤ lx80.toInt := i87; omega)), (show 0 ≤ lx62.toInt from (by have z30 : (-1 : Int32).toInt = -1 := rfl; have t1 : 0 ≤ lx62.toInt := i82; omega)), (show lx62.toInt ≤ 12 from (by have z30 : (-1 : Int32).toInt = -1 := rfl; have t1 : lx62.toInt ≤ 0 := i83; omega)), (show 0 ≤ lx66.toInt from (by have z30 : (-1 : Int32).toInt = -1 := rfl; have t1 : 0 ≤ lx66.toInt := i84; omega)), (show lx66.toInt ≤ 1 from (by have z30 : (-1 : Int32).toInt = -1 := rfl; have t1 : 0 ≤ t0_10.toInt ∧ t0_10.toInt ≤ 1 := btt0_10; have t2 : lx66.toInt ≤ t0_10.toInt := i88; omega)), (show 0 ≤ lx75.toInt from (by have z30 : (-1 : Int32).toInt = -1 := rfl; have t1 : 0 ≤ lx75.toInt := i85; omega)), (show lx75.toInt ≤ 1 from (by have z30 : (-1 : Int32).toInt = -1 := rfl; have t1 : lx75.toInt ≤ 1 := i86; omega)), (show (-1 : Int32).toInt + 1 ≤ t0_1.toInt from (by have z30 : (-1 : Int32).toInt = -1 := rfl; have t1 : 0 ≤ t0_1.toInt ∧ t0_1.toInt ≤ 256 := btt0_1; omega)), (show (-1 : Int32).toInt ≤ lx62.toInt + 254 from (by have z30 : (-1 : Int32).toInt = -1 := rfl; have t1 : 0 ≤ lx62.toInt := i82; omega)), (show ((-1 : Int32), lx80, lx62, lx63, lx64, lx65, lx66, lx67, lx68, lx69, lx70, lx71, lx72, lx73, lx74, lx75, lx76, lx77, lx81, lx78, lx79) = (F_VR_run t0_0 t0_1 t0_2 t0_3 t0_4 t0_5 t0_6 t0_7 t0_8 t0_9 t0_10 t0_11 t0_12 t0_13 t0_14 t0_15 t0_16 t0_17 t0_18 t0_19 t0_20 t0_21 t1_0 t2_0 t3_0 t4_0 t5_0 t6_0 t7_0 t8_0) from Eq.trans (by rw [F_VR_run_L27.eq_2, if_pos c105]) hR100)⟩) d_16_40_188
  ·
    have b107 : q_F (lx63.toInt < t0_1.toInt) := (q_nleI c105)
    refine lv_aload_n hx hb d_16_40_38 rfl (lv_at hl 0 rfl) ?_
    have ob108 : True ∧ S_VR_here t0_0 t0_1 t0_2 t0_3 lx80 lx62 t0_6 lx63 lx64 lx65 lx66 lx67 lx68 lx69 lx70 lx71 lx72 lx73 lx74 lx75 lx76 lx77 t1_0 := (by have h := hS101; rw [S_VR_run_L27.eq_2] at h; rw [if_neg c105] at h; with_reducible exact h.2.1)
    refine q_goi V (q_runV (As := []) (rest := []) (d := 1) (mc := 0) (ms := 0) (ci := 17) C0 V rfl LV_VR_60 (X_VR_here l D g q w90   hI t0_0 t0_1 t0_2 t0_3 lx80 lx62 t0_6 lx63 lx64 lx65 lx66 lx67 lx68 lx69 lx70 lx71 lx72 lx73 lx74 lx75 lx76 lx77 hO91 t1_0 hO92 ob108 _) rfl rfl hO91 rfl hl.1 rfl (Nat.le_of_ble_eq_true rfl) ⟨by decide, by decide⟩ ⟨Nat.le_of_ble_eq_true rfl, Nat.le_of_ble_eq_true rfl⟩ d_16_40_39) (fun a111 u109 H locs hp110 V => ?_)
    obtain ⟨rfl, hE112⟩ := hp110
    have e113 : a111 = (F_VR_here t0_0 t0_1 t0_2 t0_3 lx80 lx62 t0_6 lx63 lx64 lx65 lx66 lx67 lx68 lx69 lx70 lx71 lx72 lx73 lx74 lx75 lx76 lx77 t1_0) := hE112
    refine lv_bipush (v := 37) hx hb d_16_40_42 (by decide) ?_
    refine q_join (X := Int32 × Int32 × Int32 × Int32 × Int32 × Int32 × Int32 × Int32 × Int32 × Int32 × Int32 × Int32 × Int32 × Int32 × Int32 × Int32 × (Nat → Int32) × (Nat → Int32)) (fun z H locs ls w148 => q_F (0 ≤ z.2.2.2.2.1.toInt) ∧ q_F (0 ≤ z.2.2.2.2.2.2.2.2.2.2.2.2.2.1.toInt) ∧ q_F (z.2.2.2.2.2.2.2.2.2.2.2.2.2.1.toInt ≤ 1) ∧ q_F (lx62.toInt ≤ z.1.toInt) ∧ q_F (z.1.toInt ≤ lx62.toInt) ∧ q_F (z.2.2.2.2.1.toInt ≤ lx66.toInt) ∧ q_Wd D g (va_A ws sz) s w148 H locs ∧ lv_has ls 3 [(1, .int lx63), (0, .ref (q 157))] ∧ q_I (msh g q) q w148 ∧ q_un ws w148 [157, 164, 165, 166] ∧ w148[157]? = (some (q 157, .inr (17, [.int t0_0, .ref (q 158), .int t0_1, .int t0_2, .ref (q 159), .ref (q 160), .ref (q 161), .ref (q 162), .ref (q 163), .int t0_3, .ref (q 164), .int lx80, .int z.1, .int t0_6, .int z.2.1, .int z.2.2.1, .int z.2.2.2.1, .int z.2.2.2.2.1, .int z.2.2.2.2.2.1, .int z.2.2.2.2.2.2.1, .int z.2.2.2.2.2.2.2.1, .int z.2.2.2.2.2.2.2.2.1, .int z.2.2.2.2.2.2.2.2.2.1, .int z.2.2.2.2.2.2.2.2.2.2.1, .ref (q 165), .int z.2.2.2.2.2.2.2.2.2.2.2.1, .int z.2.2.2.2.2.2.2.2.2.2.2.2.1, .int z.2.2.2.2.2.2.2.2.2.2.2.2.2.1, .ref (q 166), .int z.2.2.2.2.2.2.2.2.2.2.2.2.2.2.1, .int z.2.2.2.2.2.2.2.2.2.2.2.2.2.2.2.1])) : Option (Nat × va_E)) ∧ w148[158]? = (some (q 158, .inl (g 0, (256 : Int32).toNatClampNeg, .inl t1_0)) : Option (Nat × va_E)) ∧ w148[159]? = (some (q 159, .inl (g 0, (9 : Int32).toNatClampNeg, .inl t2_0)) : Option (Nat × va_E)) ∧ w148[160]? = (some (q 160, .inl (g 0, (9 : Int32).toNatClampNeg, .inl t3_0)) : Option (Nat × va_E)) ∧ w148[161]? = (some (q 161, .inl (g 1, 9, .inr (.inl t4_0))) : Option (Nat × va_E)) ∧ w148[162]? = (some (q 162, .inl (g 0, (576 : Int32).toNatClampNeg, .inl t5_0)) : Option (Nat × va_E)) ∧ w148[164]? = (some (q 164, .inl (g 0, (4096 : Int32).toNatClampNeg, .inl lx81)) : Option (Nat × va_E)) ∧ w148[165]? = (some (q 165, .inl (g 0, (20200 : Int32).toNatClampNeg, .inl z.2.2.2.2.2.2.2.2.2.2.2.2.2.2.2.2.1)) : Option (Nat × va_E)) ∧ w148[166]? = (some (q 166, .inl (g 0, (64 : Int32).toNatClampNeg, .inl z.2.2.2.2.2.2.2.2.2.2.2.2.2.2.2.2.2)) : Option (Nat × va_E)) ∧ F_VR_run_J120 (F_VR_run_L27 t0_0 t0_1 t0_2 t0_3 t0_4 t0_5 t0_6 t0_7 t0_8 t0_9 t0_10 t0_11 t0_12 t0_13 t0_14 t0_15 t0_16 t0_17 t0_18 t0_19 t0_20 t0_21 t1_0 t2_0 t3_0 t4_0 t5_0 t6_0 t7_0 t8_0 fm104) t0_0 t0_1 t0_2 t0_3 t0_4 t0_5 t0_6 t0_7 t0_8 t0_9 t0_10 t0_11 t0_12 t0_13 t0_14 t0_15 t0_16 t0_17 t0_18 t0_19 t0_20 t0_21 t1_0 t2_0 t3_0 t4_0 t5_0 t6_0 t7_0 t8_0 lx62 lx63 lx64 lx65 lx66 lx67 lx68 lx69 lx70 lx71 lx72 lx73 lx74 lx75 lx76 lx77 lx78 lx79 lx80 lx81 z.1 z.2.1 z.2.2.1 z.2.2.2.1 z.2.2.2.2.1 z.2.2.2.2.2.1 z.2.2.2.2.2.2.1 z.2.2.2.2.2.2.2.1 z.2.2.2.2.2.2.2.2.1 z.2.2.2.2.2.2.2.2.2.1 z.2.2.2.2.2.2.2.2.2.2.1 z.2.2.2.2.2.2.2.2.2.2.2.1 z.2.2.2.2.2.2.2.2.2.2.2.2.1 z.2.2.2.2.2.2.2.2.2.2.2.2.2.1 z.2.2.2.2.2.2.2.2.2.2.2.2.2.2.1 z.2.2.2.2.2.2.2.2.2.2.2.2.2.2.2.1 z.2.2.2.2.2.2.2.2.2.2.2.2.2.2.2.2.1 z.2.2.2.2.2.2.2.2.2.2.2.2.2.2.2.2.2 = (F_VR_run t0_0 t0_1 t0_2 t0_3 t0_4 t0_5 t0_6 t0_7 t0_8 t0_9 t0_10 t0_11 t0_12 t0_13 t0_14 t0_15 t0_16 t0_17 t0_18 t0_19 t0_20 t0_21 t1_0 t2_0 t3_0 t4_0 t5_0 t6_0 t7_0 t8_0) ∧ True ∧ S_VR_run_J120 (S_VR_run_L27 t0_0 t0_1 t0_2 t0_3 t0_4 t0_5 t0_6 t0_7 t0_8 t0_9 t0_10 t0_11 t0_12 t0_13 t0_14 t0_15 t0_16 t0_17 t0_18 t0_19 t0_20 t0_21 t1_0 t2_0 t3_0 t4_0 t5_0 t6_0 t7_0 t8_0 fm104) t0_0 t0_1 t0_2 t0_3 t0_4 t0_5 t0_6 t0_7 t0_8 t0_9 t0_10 t0_11 t0_12 t0_13 t0_14 t0_15 t0_16 t0_17 t0_18 t0_19 t0_20 t0_21 t1_0 t2_0 t3_0 t4_0 t5_0 t6_0 t7_0 t8_0 lx62 lx63 lx64 lx65 lx66 lx67 lx68 lx69 lx70 lx71 lx72 lx73 lx74 lx75 lx76 lx77 lx78 lx79 lx80 lx81 z.1 z.2.1 z.2.2.1 z.2.2.2.1 z.2.2.2.2.1 z.2.2.2.2.2.1 z.2.2.2.2.2.2.1 z.2.2.2.2.2.2.2.1 z.2.2.2.2.2.2.2.2.1 z.2.2.2.2.2.2.2.2.2.1 z.2.2.2.2.2.2.2.2.2.2.1 z.2.2.2.2.2.2.2.2.2.2.2.1 z.2.2.2.2.2.2.2.2.2.2.2.2.1 z.2.2.2.2.2.2.2.2.2.2.2.2.2.1 z.2.2.2.2.2.2.2.2.2.2.2.2.2.2.1 z.2.2.2.2.2.2.2.2.2.2.2.2.2.2.2.1 z.2.2.2.2.2.2.2.2.2.2.2.2.2.2.2.2.1 z.2.2.2.2.2.2.2.2.2.2.2.2.2.2.2.2.2) (fun z => []) 120 0 0 ?_ ?_
    ·
      rintro ⟨lx114, lx115, lx116, lx117, lx118, lx119, lx120, lx121, lx122, lx123, lx124, lx125, lx126, lx127, lx128, lx129, lx130, lx131⟩ H locs ls w148 ⟨i142, i143, i144, i145, i146, i147, V, hl, hI, hF, hO132, hA133, hA134, hA135, hA136, hA137, hA138, hA139, hA140, hR149, hS150⟩
      replace i142 : q_F (0 ≤ lx118.toInt) := i142
      replace i143 : q_F (0 ≤ lx127.toInt) := i143
      replace i144 : q_F (lx127.toInt ≤ 1) := i144
      replace i145 : q_F (lx62.toInt ≤ lx114.toInt) := i145
      replace i146 : q_F (lx114.toInt ≤ lx62.toInt) := i146
      replace i147 : q_F (lx118.toInt ≤ lx66.toInt) := i147
      replace hl : lv_has ls 3 [(1, .int lx63), (0, .ref (q 157))] := hl
      replace hO132 : w148[157]? = (some (q 157, .inr (17, [.int t0_0, .ref (q 158), .int t0_1, .int t0_2, .ref (q 159), .ref (q 160), .ref (q 161), .ref (q 162), .ref (q 163), .int t0_3, .ref (q 164), .int lx80, .int lx114, .int t0_6, .int lx115, .int lx116, .int lx117, .int lx118, .int lx119, .int lx120, .int lx121, .int lx122, .int lx123, .int lx124, .ref (q 165), .int lx125, .int lx126, .int lx127, .ref (q 166), .int lx128, .int lx129])) : Option (Nat × va_E)) := hO132
      replace hA133 : w148[158]? = (some (q 158, .inl (g 0, (256 : Int32).toNatClampNeg, .inl t1_0)) : Option (Nat × va_E)) := hA133
      replace hA134 : w148[159]? = (some (q 159, .inl (g 0, (9 : Int32).toNatClampNeg, .inl t2_0)) : Option (Nat × va_E)) := hA134
      replace hA135 : w148[160]? = (some (q 160, .inl (g 0, (9 : Int32).toNatClampNeg, .inl t3_0)) : Option (Nat × va_E)) := hA135
      replace hA136 : w148[161]? = (some (q 161, .inl (g 1, 9, .inr (.inl t4_0))) : Option (Nat × va_E)) := hA136
      replace hA137 : w148[162]? = (some (q 162, .inl (g 0, (576 : Int32).toNatClampNeg, .inl t5_0)) : Option (Nat × va_E)) := hA137
      replace hA138 : w148[164]? = (some (q 164, .inl (g 0, (4096 : Int32).toNatClampNeg, .inl lx81)) : Option (Nat × va_E)) := hA138
      replace hA139 : w148[165]? = (some (q 165, .inl (g 0, (20200 : Int32).toNatClampNeg, .inl lx130)) : Option (Nat × va_E)) := hA139
      replace hA140 : w148[166]? = (some (q 166, .inl (g 0, (64 : Int32).toNatClampNeg, .inl lx131)) : Option (Nat × va_E)) := hA140
      refine lv_aload_n hx hb d_16_40_120 rfl (lv_at hl 1 rfl) ?_
      refine q_get (ci := 17) (j := 11) (v := .int lx80) C0 V i_VR rfl rfl hO132 (by decide) w_2213 rfl d_16_40_121 ?_
      refine lv_aload_n hx hb d_16_40_124 rfl (lv_at hl 1 rfl) ?_
      refine q_get (ci := 17) (j := 25) (v := .int lx125) C0 V i_VR rfl rfl hO132 (by decide) w_2229 rfl d_16_40_125 ?_
      refine lv_iadd hx hb d_16_40_128 ?_
      obtain ⟨a154, e155⟩ := q_nm (lx80 + lx125 : Int32)
      refine q_ti (v := a154) e155 ?_
      refine lv_sipush (v := 4096) hx hb d_16_40_129 (by decide) ?_
      refine lv_icmp_le (tgt := 143) hx hb d_16_40_132 (by decide) (fun c156 => ?_) (fun c156 => ?_)
      ·
        refine lv_iconst (v := 0) hx hb d_16_40_143 (by decide) ?_
        refine lv_istore_n (lv' := [(2, .int 0), (1, .int lx63), (0, .ref (q 157))]) hx hb d_16_40_144 rfl hl (by decide) rfl (fun ls hl => ?_)
        refine q_loop (X := Int32 × Int32 × (Nat → Int32)) (fun z H locs ls w167 => q_F (z.1.toInt ≤ 4096) ∧ q_F (lx80.toInt ≤ z.1.toInt + z.2.1.toInt) ∧ q_F (z.2.1.toInt ≤ z.1.toInt + lx80.toInt) ∧ q_F (z.1.toInt + lx80.toInt ≤ z.2.1.toInt) ∧ q_Wd D g (va_A ws sz) s w167 H locs ∧ lv_has ls 3 [(2, .int z.1), (0, .ref (q 157))] ∧ q_I (msh g q) q w167 ∧ q_un ws w167 [157, 164, 165, 166] ∧ w167[157]? = (some (q 157, .inr (17, [.int t0_0, .ref (q 158), .int t0_1, .int t0_2, .ref (q 159), .ref (q 160), .ref (q 161), .ref (q 162), .ref (q 163), .int t0_3, .ref (q 164), .int z.2.1, .int lx114, .int t0_6, .int lx115, .int lx116, .int lx117, .int lx118, .int lx119, .int lx120, .int lx121, .int lx122, .int lx123, .int lx124, .ref (q 165), .int lx125, .int lx126, .int lx127, .ref (q 166), .int lx128, .int lx129])) : Option (Nat × va_E)) ∧ w167[158]? = (some (q 158, .inl (g 0, (256 : Int32).toNatClampNeg, .inl t1_0)) : Option (Nat × va_E)) ∧ w167[159]? = (some (q 159, .inl (g 0, (9 : Int32).toNatClampNeg, .inl t2_0)) : Option (Nat × va_E)) ∧ w167[160]? = (some (q 160, .inl (g 0, (9 : Int32).toNatClampNeg, .inl t3_0)) : Option (Nat × va_E)) ∧ w167[161]? = (some (q 161, .inl (g 1, 9, .inr (.inl t4_0))) : Option (Nat × va_E)) ∧ w167[162]? = (some (q 162, .inl (g 0, (576 : Int32).toNatClampNeg, .inl t5_0)) : Option (Nat × va_E)) ∧ w167[164]? = (some (q 164, .inl (g 0, (4096 : Int32).toNatClampNeg, .inl z.2.2)) : Option (Nat × va_E)) ∧ w167[165]? = (some (q 165, .inl (g 0, (20200 : Int32).toNatClampNeg, .inl lx130)) : Option (Nat × va_E)) ∧ w167[166]? = (some (q 166, .inl (g 0, (64 : Int32).toNatClampNeg, .inl lx131)) : Option (Nat × va_E)) ∧ (∃ n, (4096 - z.1.toInt).toNat < n ∧ F_VR_run_L145 (F_VR_run_L27 t0_0 t0_1 t0_2 t0_3 t0_4 t0_5 t0_6 t0_7 t0_8 t0_9 t0_10 t0_11 t0_12 t0_13 t0_14 t0_15 t0_16 t0_17 t0_18 t0_19 t0_20 t0_21 t1_0 t2_0 t3_0 t4_0 t5_0 t6_0 t7_0 t8_0 fm104) t0_0 t0_1 t0_2 t0_3 t0_4 t0_5 t0_6 t0_7 t0_8 t0_9 t0_10 t0_11 t0_12 t0_13 t0_14 t0_15 t0_16 t0_17 t0_18 t0_19 t0_20 t0_21 t1_0 t2_0 t3_0 t4_0 t5_0 t6_0 t7_0 t8_0 lx62 lx63 lx64 lx65 lx66 lx67 lx68 lx69 lx70 lx71 lx72 lx73 lx74 lx75 lx76 lx77 lx78 lx79 lx80 lx81 lx114 lx115 lx116 lx117 lx118 lx119 lx120 lx121 lx122 lx123 lx124 lx125 lx126 lx127 lx128 lx129 lx130 lx131 n z.1 z.2.1 z.2.2 = (F_VR_run t0_0 t0_1 t0_2 t0_3 t0_4 t0_5 t0_6 t0_7 t0_8 t0_9 t0_10 t0_11 t0_12 t0_13 t0_14 t0_15 t0_16 t0_17 t0_18 t0_19 t0_20 t0_21 t1_0 t2_0 t3_0 t4_0 t5_0 t6_0 t7_0 t8_0) ∧ True ∧ S_VR_run_L145 (S_VR_run_L27 t0_0 t0_1 t0_2 t0_3 t0_4 t0_5 t0_6 t0_7 t0_8 t0_9 t0_10 t0_11 t0_12 t0_13 t0_14 t0_15 t0_16 t0_17 t0_18 t0_19 t0_20 t0_21 t1_0 t2_0 t3_0 t4_0 t5_0 t6_0 t7_0 t8_0 fm104) t0_0 t0_1 t0_2 t0_3 t0_4 t0_5 t0_6 t0_7 t0_8 t0_9 t0_10 t0_11 t0_12 t0_13 t0_14 t0_15 t0_16 t0_17 t0_18 t0_19 t0_20 t0_21 t1_0 t2_0 t3_0 t4_0 t5_0 t6_0 t7_0 t8_0 lx62 lx63 lx64 lx65 lx66 lx67 lx68 lx69 lx70 lx71 lx72 lx73 lx74 lx75 lx76 lx77 lx78 lx79 lx80 lx81 lx114 lx115 lx116 lx117 lx118 lx119 lx120 lx121 lx122 lx123 lx124 lx125 lx126 lx127 lx128 lx129 lx130 lx131 n z.1 z.2.1 z.2.2)) (fun z => (4096 - z.1.toInt).toNat) ?_ ((0 : Int32), (lx80 : Int32), (lx81 : (Nat → Int32))) _ _ _ w148 ⟨(show q_F (0 ≤ 4096) from (show 0 ≤ 4096 from by omega)), (show q_F (lx80.toInt ≤ 0 + lx80.toInt) from (show lx80.toInt ≤ 0 + lx80.toInt from by omega)), (show q_F (lx80.toInt ≤ 0 + lx80.toInt) from (show lx80.toInt ≤ 0 + lx80.toInt from by omega)), (show q_F (0 + lx80.toInt ≤ lx80.toInt) from (show 0 + lx80.toInt ≤ lx80.toInt from by omega)), V, q_lw hl (q_lw1 0 rfl (q_lw1 2 rfl q_lw0)), hI, hF, hO132, hA133, hA134, hA135, hA136, hA137, hA138, hA139, hA140, ⟨((4096 - (0 : Int32).toInt).toNat + 1), Nat.lt_succ_self _, (show F_VR_run_L145 (F_VR_run_L27 t0_0 t0_1 t0_2 t0_3 t0_4 t0_5 t0_6 t0_7 t0_8 t0_9 t0_10 t0_11 t0_12 t0_13 t0_14 t0_15 t0_16 t0_17 t0_18 t0_19 t0_20 t0_21 t1_0 t2_0 t3_0 t4_0 t5_0 t6_0 t7_0 t8_0 fm104) t0_0 t0_1 t0_2 t0_3 t0_4 t0_5 t0_6 t0_7 t0_8 t0_9 t0_10 t0_11 t0_12 t0_13 t0_14 t0_15 t0_16 t0_17 t0_18 t0_19 t0_20 t0_21 t1_0 t2_0 t3_0 t4_0 t5_0 t6_0 t7_0 t8_0 lx62 lx63 lx64 lx65 lx66 lx67 lx68 lx69 lx70 lx71 lx72 lx73 lx74 lx75 lx76 lx77 lx78 lx79 lx80 lx81 lx114 lx115 lx116 lx117 lx118 lx119 lx120 lx121 lx122 lx123 lx124 lx125 lx126 lx127 lx128 lx129 lx130 lx131 ((4096 - (0 : Int32).toInt).toNat + 1) 0 lx80 lx81 = (F_VR_run t0_0 t0_1 t0_2 t0_3 t0_4 t0_5 t0_6 t0_7 t0_8 t0_9 t0_10 t0_11 t0_12 t0_13 t0_14 t0_15 t0_16 t0_17 t0_18 t0_19 t0_20 t0_21 t1_0 t2_0 t3_0 t4_0 t5_0 t6_0 t7_0 t8_0) from Eq.trans (by have c156x := c156; rw [← e155] at c156x; rw [F_VR_run_J120.eq_1, if_pos c156x]) hR149), (show True ∧ S_VR_run_L145 (S_VR_run_L27 t0_0 t0_1 t0_2 t0_3 t0_4 t0_5 t0_6 t0_7 t0_8 t0_9 t0_10 t0_11 t0_12 t0_13 t0_14 t0_15 t0_16 t0_17 t0_18 t0_19 t0_20 t0_21 t1_0 t2_0 t3_0 t4_0 t5_0 t6_0 t7_0 t8_0 fm104) t0_0 t0_1 t0_2 t0_3 t0_4 t0_5 t0_6 t0_7 t0_8 t0_9 t0_10 t0_11 t0_12 t0_13 t0_14 t0_15 t0_16 t0_17 t0_18 t0_19 t0_20 t0_21 t1_0 t2_0 t3_0 t4_0 t5_0 t6_0 t7_0 t8_0 lx62 lx63 lx64 lx65 lx66 lx67 lx68 lx69 lx70 lx71 lx72 lx73 lx74 lx75 lx76 lx77 lx78 lx79 lx80 lx81 lx114 lx115 lx116 lx117 lx118 lx119 lx120 lx121 lx122 lx123 lx124 lx125 lx126 lx127 lx128 lx129 lx130 lx131 ((4096 - (0 : Int32).toInt).toNat + 1) 0 lx80 lx81 from (by have h := hS150; rw [S_VR_run_J120.eq_1] at h; have c156x := c156; rw [← e155] at c156x; rw [if_pos c156x] at h; with_reducible exact h))⟩⟩
        rintro ⟨lx159, lx160, lx161⟩ H locs ls w167 ⟨i162, i163, i164, i165, V, hl, hI, hF, hO168, hO169, hO170, hO171, hO172, hO173, hO174, hO175, hO176, ⟨fu179, hf180, hR177, hS178⟩⟩ ih166
        obtain ⟨fm181, rfl⟩ : ∃ m, fu179 = m + 1 := ⟨fu179 - 1, by omega⟩
        replace i162 : q_F (lx159.toInt ≤ 4096) := i162
        replace i163 : q_F (lx80.toInt ≤ lx159.toInt + lx160.toInt) := i163
        replace i164 : q_F (lx160.toInt ≤ lx159.toInt + lx80.toInt) := i164
        replace i165 : q_F (lx159.toInt + lx80.toInt ≤ lx160.toInt) := i165
        replace hl : lv_has ls 3 [(2, .int lx159), (0, .ref (q 157))] := hl
        replace hO168 : w167[157]? = (some (q 157, .inr (17, [.int t0_0, .ref (q 158), .int t0_1, .int t0_2, .ref (q 159), .ref (q 160), .ref (q 161), .ref (q 162), .ref (q 163), .int t0_3, .ref (q 164), .int lx160, .int lx114, .int t0_6, .int lx115, .int lx116, .int lx117, .int lx118, .int lx119, .int lx120, .int lx121, .int lx122, .int lx123, .int lx124, .ref (q 165), .int lx125, .int lx126, .int lx127, .ref (q 166), .int lx128, .int lx129])) : Option (Nat × va_E)) := hO168
        replace hO169 : w167[158]? = (some (q 158, .inl (g 0, (256 : Int32).toNatClampNeg, .inl t1_0)) : Option (Nat × va_E)) := hO169
        replace hO170 : w167[159]? = (some (q 159, .inl (g 0, (9 : Int32).toNatClampNeg, .inl t2_0)) : Option (Nat × va_E)) := hO170
        replace hO171 : w167[160]? = (some (q 160, .inl (g 0, (9 : Int32).toNatClampNeg, .inl t3_0)) : Option (Nat × va_E)) := hO171
        replace hO172 : w167[161]? = (some (q 161, .inl (g 1, 9, .inr (.inl t4_0))) : Option (Nat × va_E)) := hO172
        replace hO173 : w167[162]? = (some (q 162, .inl (g 0, (576 : Int32).toNatClampNeg, .inl t5_0)) : Option (Nat × va_E)) := hO173
        replace hO174 : w167[164]? = (some (q 164, .inl (g 0, (4096 : Int32).toNatClampNeg, .inl lx161)) : Option (Nat × va_E)) := hO174
        replace hO175 : w167[165]? = (some (q 165, .inl (g 0, (20200 : Int32).toNatClampNeg, .inl lx130)) : Option (Nat × va_E)) := hO175
        replace hO176 : w167[166]? = (some (q 166, .inl (g 0, (64 : Int32).toNatClampNeg, .inl lx131)) : Option (Nat × va_E)) := hO176
        refine lv_iload_n hx hb d_16_40_145 rfl (lv_at hl 0 rfl) ?_
        refine lv_aload_n hx hb d_16_40_146 rfl (lv_at hl 1 rfl) ?_
        refine q_get (ci := 17) (j := 25) (v := .int lx125) C0 V i_VR rfl rfl hO168 (by decide) w_2229 rfl d_16_40_147 ?_
        refine lv_icmp_ge (tgt := 184) hx hb d_16_40_150 (by decide) (fun c182 => ?_) (fun c182 => ?_)
        ·
          refine lv_goto (tgt := 27) hx hb d_16_40_184 (by decide) ?_
          exact ih89 ((fm104 : Nat), (lx114 : Int32), (lx115 : Int32), (lx116 : Int32), (lx117 : Int32), (lx118 : Int32), (lx119 : Int32), (lx120 : Int32), (lx121 : Int32), (lx122 : Int32), (lx123 : Int32), (lx124 : Int32), (lx125 : Int32), (lx126 : Int32), (lx127 : Int32), (lx128 : Int32), (lx129 : Int32), (lx130 : (Nat → Int32)), (lx131 : (Nat → Int32)), (lx160 : Int32), (lx161 : (Nat → Int32))) _ _ _ _ (Nat.lt_succ_self _) ⟨(show q_F (0 ≤ lx114.toInt) from (show 0 ≤ lx114.toInt from by have t1 : 0 ≤ lx62.toInt := i82; have t2 : lx62.toInt ≤ lx114.toInt := i145; omega)), (show q_F (lx114.toInt ≤ 0) from (show lx114.toInt ≤ 0 from by have t1 : lx62.toInt ≤ 0 := i83; have t2 : lx114.toInt ≤ lx62.toInt := i146; omega)), (show q_F (0 ≤ lx118.toInt) from (show 0 ≤ lx118.toInt from by have t1 : 0 ≤ lx118.toInt := i142; omega)), (show q_F (0 ≤ lx127.toInt) from (show 0 ≤ lx127.toInt from by have t1 : 0 ≤ lx127.toInt := i143; omega)), (show q_F (lx127.toInt ≤ 1) from (show lx127.toInt ≤ 1 from by have t1 : lx127.toInt ≤ 1 := i144; omega)), (show q_F (0 ≤ lx160.toInt) from (show 0 ≤ lx160.toInt from by have t1 : 0 ≤ lx80.toInt := i87; have t2 : lx80.toInt ≤ lx159.toInt + lx160.toInt := i163; have t3 : lx159.toInt + lx80.toInt ≤ lx160.toInt := i165; omega)), (show q_F (lx118.toInt ≤ t0_10.toInt) from (show lx118.toInt ≤ t0_10.toInt from by have t1 : lx66.toInt ≤ t0_10.toInt := i88; have t2 : lx118.toInt ≤ lx66.toInt := i147; omega)), V, q_lw hl (q_lw1 1 rfl q_lw0), hI, hF, hO168, hO169, hO170, hO171, hO172, hO173, hO174, hO175, hO176, (show F_VR_run_L27 t0_0 t0_1 t0_2 t0_3 t0_4 t0_5 t0_6 t0_7 t0_8 t0_9 t0_10 t0_11 t0_12 t0_13 t0_14 t0_15 t0_16 t0_17 t0_18 t0_19 t0_20 t0_21 t1_0 t2_0 t3_0 t4_0 t5_0 t6_0 t7_0 t8_0 fm104 lx114 lx115 lx116 lx117 lx118 lx119 lx120 lx121 lx122 lx123 lx124 lx125 lx126 lx127 lx128 lx129 lx130 lx131 lx160 lx161 = (F_VR_run t0_0 t0_1 t0_2 t0_3 t0_4 t0_5 t0_6 t0_7 t0_8 t0_9 t0_10 t0_11 t0_12 t0_13 t0_14 t0_15 t0_16 t0_17 t0_18 t0_19 t0_20 t0_21 t1_0 t2_0 t3_0 t4_0 t5_0 t6_0 t7_0 t8_0) from Eq.trans (by rw [F_VR_run_L145.eq_2, if_pos c182]) hR177), (show True ∧ S_VR_run_L27 t0_0 t0_1 t0_2 t0_3 t0_4 t0_5 t0_6 t0_7 t0_8 t0_9 t0_10 t0_11 t0_12 t0_13 t0_14 t0_15 t0_16 t0_17 t0_18 t0_19 t0_20 t0_21 t1_0 t2_0 t3_0 t4_0 t5_0 t6_0 t7_0 t8_0 fm104 lx114 lx115 lx116 lx117 lx118 lx119 lx120 lx121 lx122 lx123 lx124 lx125 lx126 lx127 lx128 lx129 lx130 lx131 lx160 lx161 from (by have h := hS178; rw [S_VR_run_L145.eq_2] at h; rw [if_pos c182] at h; with_reducible exact h))⟩
        ·
          refine lv_aload_n hx hb d_16_40_153 rfl (lv_at hl 1 rfl) ?_
          refine q_get (ci := 17) (j := 10) (v := .ref (q 164)) C0 V i_VR rfl rfl hO168 (by decide) w_2212 rfl d_16_40_154 ?_
          refine lv_aload_n hx hb d_16_40_157 rfl (lv_at hl 1 rfl) ?_
          refine q_get (ci := 17) (j := 11) (v := .int lx160) C0 V i_VR rfl rfl hO168 (by decide) w_2213 rfl d_16_40_158 ?_
          refine lv_aload_n hx hb d_16_40_161 rfl (lv_at hl 1 rfl) ?_
          refine q_get (ci := 17) (j := 24) (v := .ref (q 165)) C0 V i_VR rfl rfl hO168 (by decide) w_2228 rfl d_16_40_162 ?_
          refine lv_iload_n hx hb d_16_40_165 rfl (lv_at hl 0 rfl) ?_
          refine q_iald C0 V hO175 (q_ix (x := lx159.toInt) rfl (by have t1 : lx80.toInt ≤ lx159.toInt + lx160.toInt := i163; have t2 : lx160.toInt ≤ lx159.toInt + lx80.toInt := i164; omega) (by have t1 : lx80.toInt ≤ lx159.toInt + lx160.toInt := i163; have t2 : lx160.toInt ≤ lx159.toInt + lx80.toInt := i164; have t3 : lx159.toInt ≤ 4096 := i162; have e9 : (((20200 : Int32).toNatClampNeg : Nat) : Int) = 20200 := (by decide); omega)) d_16_40_166 ?_
          obtain ⟨a185, e186⟩ := q_nm (lx130 lx159.toNatClampNeg : Int32)
          refine q_ti (v := a185) e186 ?_
          have ob187 : q_F (lx160.toInt ≤ 4095) := (by have h := hS178; rw [S_VR_run_L145.eq_2] at h; rw [if_neg c182] at h; exact h.2.1)
          refine q_iast C0 V hO174 (q_ix (x := lx160.toInt) rfl (by have t1 : 0 ≤ lx80.toInt := i87; have t2 : lx80.toInt ≤ lx159.toInt + lx160.toInt := i163; have t3 : lx159.toInt + lx80.toInt ≤ lx160.toInt := i165; omega) (by have t1 : 0 ≤ lx80.toInt := i87; have t2 : lx80.toInt ≤ lx159.toInt + lx160.toInt := i163; have t3 : lx159.toInt + lx80.toInt ≤ lx160.toInt := i165; have t4 : lx160.toInt ≤ 4095 := ob187; have e9 : (((4096 : Int32).toNatClampNeg : Nat) : Int) = 4096 := (by decide); omega)) d_16_40_167 (fun H locs w188 hu189 hO174 V => ?_)
          replace hI := n_ai' hI (n_r164 g q).1 hu189 hO174 (q_updB (fun _ => s_bnd) s_bnd)
          replace hO168 := (hu189 _ (by decide)).trans hO168
          replace hO169 := (hu189 _ (by decide)).trans hO169
          replace hO170 := (hu189 _ (by decide)).trans hO170
          replace hO171 := (hu189 _ (by decide)).trans hO171
          replace hO172 := (hu189 _ (by decide)).trans hO172
          replace hO173 := (hu189 _ (by decide)).trans hO173
          replace hO175 := (hu189 _ (by decide)).trans hO175
          replace hO176 := (hu189 _ (by decide)).trans hO176
          replace hF := q_us hF hu189 (by simp)
          obtain ⟨f190, e191⟩ := q_nm (upd lx161 lx160.toNatClampNeg a185 : (Nat → Int32))
          rw [e191] at hO174
          refine lv_aload_n hx hb d_16_40_168 rfl (lv_at hl 1 rfl) ?_
          refine lv_dup hx hb d_16_40_169 rfl ?_
          refine q_get (ci := 17) (j := 11) (v := .int lx160) C0 V i_VR rfl rfl hO168 (by decide) w_2213 rfl d_16_40_170 ?_
          refine lv_iconst (v := 1) hx hb d_16_40_173 (by decide) ?_
          refine lv_iadd hx hb d_16_40_174 ?_
          obtain ⟨a192, e193⟩ := q_nm (lx160 + 1 : Int32)
          refine q_ti (v := a192) e193 ?_
          have b194 : q_F (a192.toInt = lx160.toInt + 1) := (by rw [← e193]; show (lx160 + 1 : Int32).toInt = lx160.toInt + 1; exact q_addI (x := lx160.toInt) (y := 1) rfl (by decide) (by have _ := q_lo32 (x := lx160); have _ := q_hi32 (x := lx160); have t1 : lx160.toInt ≤ 4095 := ob187; omega) (by have _ := q_lo32 (x := lx160); have _ := q_hi32 (x := lx160); have t1 : lx160.toInt ≤ 4095 := ob187; omega))
          refine q_put (ci := 17) (j := 11) (v := .int a192) (ty := .int) C0 V i_VR o_VR n_VR rfl rfl hO168 (by decide) w_2213 rfl rfl rfl rfl (Nat.le_of_ble_eq_true rfl) d_16_40_175 (fun H locs w195 hu196 hO168 V => ?_)
          replace hO168 : w195[157]? = (some (q 157, .inr (17, [.int t0_0, .ref (q 158), .int t0_1, .int t0_2, .ref (q 159), .ref (q 160), .ref (q 161), .ref (q 162), .ref (q 163), .int t0_3, .ref (q 164), .int a192, .int lx114, .int t0_6, .int lx115, .int lx116, .int lx117, .int lx118, .int lx119, .int lx120, .int lx121, .int lx122, .int lx123, .int lx124, .ref (q 165), .int lx125, .int lx126, .int lx127, .ref (q 166), .int lx128, .int lx129])) : Option (Nat × va_E)) := hO168
          replace hI := n_p157 hI hu196 hO168 (by first | with_reducible exact q_fe btt0_1 | exact ⟨(by have t1 : 0 ≤ t0_1.toInt ∧ t0_1.toInt ≤ 256 := btt0_1; omega), (by have t1 : 0 ≤ t0_1.toInt ∧ t0_1.toInt ≤ 256 := btt0_1; omega)⟩) (by first | with_reducible exact q_fe btt0_2 | exact ⟨(by have t1 : 0 ≤ t0_2.toInt ∧ t0_2.toInt ≤ 9 := btt0_2; omega), (by have t1 : 0 ≤ t0_2.toInt ∧ t0_2.toInt ≤ 9 := btt0_2; omega)⟩) (by first | with_reducible exact q_fe btt0_3 | exact ⟨(by have t1 : 0 ≤ t0_3.toInt ∧ t0_3.toInt ≤ 4096 := btt0_3; omega), (by have t1 : 0 ≤ t0_3.toInt ∧ t0_3.toInt ≤ 4096 := btt0_3; omega)⟩) ⟨(by first | with_reducible exact q_fe i142 | (have t1 : 0 ≤ lx118.toInt := i142; omega)), (by have t1 : 0 ≤ t0_10.toInt ∧ t0_10.toInt ≤ 1 := btt0_10; have t2 : lx66.toInt ≤ t0_10.toInt := i88; have t3 : lx118.toInt ≤ lx66.toInt := i147; omega)⟩ ⟨(by first | with_reducible exact q_fe i143 | (have t1 : 0 ≤ lx127.toInt := i143; omega)), (by first | with_reducible exact q_fe i144 | (have t1 : lx127.toInt ≤ 1 := i144; omega))⟩
          replace hO169 := (hu196 _ (by decide)).trans hO169
          replace hO170 := (hu196 _ (by decide)).trans hO170
          replace hO171 := (hu196 _ (by decide)).trans hO171
          replace hO172 := (hu196 _ (by decide)).trans hO172
          replace hO173 := (hu196 _ (by decide)).trans hO173
          replace hO174 := (hu196 _ (by decide)).trans hO174
          replace hO175 := (hu196 _ (by decide)).trans hO175
          replace hO176 := (hu196 _ (by decide)).trans hO176
          replace hF := q_us hF hu196 (by simp)
          obtain ⟨a197, e198⟩ := q_nm (lx159 + 1 : Int32)
          have b199 : q_F (a197.toInt = lx159.toInt + 1) := (by rw [← e198]; exact q_addI (y := 1) rfl (by decide) (by have t1 : lx80.toInt ≤ lx159.toInt + lx160.toInt := i163; have t2 : lx160.toInt ≤ lx159.toInt + lx80.toInt := i164; have t3 : lx159.toInt ≤ 4096 := i162; omega) (by have t1 : lx80.toInt ≤ lx159.toInt + lx160.toInt := i163; have t2 : lx160.toInt ≤ lx159.toInt + lx80.toInt := i164; have t3 : lx159.toInt ≤ 4096 := i162; omega))
          refine lv_iinc (v := a197) (lv' := [(2, .int a197), (0, .ref (q 157))]) hx hb d_16_40_178 hl (k := 0) rfl (e198) (by decide) rfl (fun ls hl => ?_)
          refine lv_goto (tgt := 145) hx hb d_16_40_181 (by decide) ?_
          exact ih166 ((a197 : Int32), (a192 : Int32), (f190 : (Nat → Int32))) _ _ _ _ (show (4096 - a197.toInt).toNat < (4096 - lx159.toInt).toNat from by have t1 : a197.toInt = lx159.toInt + 1 := b199; have t2 : lx159.toInt ≤ 4096 := i162; have t3 : 0 ≤ lx80.toInt := i87; have t4 : lx159.toInt + lx80.toInt ≤ lx160.toInt := i165; have t5 : lx160.toInt ≤ 4095 := ob187; omega) ⟨(show q_F (a197.toInt ≤ 4096) from (show a197.toInt ≤ 4096 from by have t1 : 0 ≤ lx80.toInt := i87; have t2 : lx159.toInt + lx80.toInt ≤ lx160.toInt := i165; have t3 : lx160.toInt ≤ 4095 := ob187; have t4 : a197.toInt = lx159.toInt + 1 := b199; omega)), (show q_F (lx80.toInt ≤ a197.toInt + a192.toInt) from (show lx80.toInt ≤ a197.toInt + a192.toInt from by have t1 : lx80.toInt ≤ lx159.toInt + lx160.toInt := i163; have t2 : a192.toInt = lx160.toInt + 1 := b194; have t3 : a197.toInt = lx159.toInt + 1 := b199; omega)), (show q_F (a192.toInt ≤ a197.toInt + lx80.toInt) from (show a192.toInt ≤ a197.toInt + lx80.toInt from by have t1 : lx160.toInt ≤ lx159.toInt + lx80.toInt := i164; have t2 : a192.toInt = lx160.toInt + 1 := b194; have t3 : a197.toInt = lx159.toInt + 1 := b199; omega)), (show q_F (a197.toInt + lx80.toInt ≤ a192.toInt) from (show a197.toInt + lx80.toInt ≤ a192.toInt from by have t1 : lx159.toInt + lx80.toInt ≤ lx160.toInt := i165; have t2 : a192.toInt = lx160.toInt + 1 := b194; have t3 : a197.toInt = lx159.toInt + 1 := b199; omega)), V, q_lw hl (q_lw1 0 rfl (q_lw1 1 rfl q_lw0)), hI, hF, hO168, hO169, hO170, hO171, hO172, hO173, hO174, hO175, hO176, ⟨fm181, Nat.lt_of_lt_of_le (show (4096 - a197.toInt).toNat < (4096 - lx159.toInt).toNat from by have t1 : a197.toInt = lx159.toInt + 1 := b199; have t2 : lx159.toInt ≤ 4096 := i162; have t3 : 0 ≤ lx80.toInt := i87; have t4 : lx159.toInt + lx80.toInt ≤ lx160.toInt := i165; have t5 : lx160.toInt ≤ 4095 := ob187; omega) (Nat.le_of_lt_succ hf180), (show F_VR_run_L145 (F_VR_run_L27 t0_0 t0_1 t0_2 t0_3 t0_4 t0_5 t0_6 t0_7 t0_8 t0_9 t0_10 t0_11 t0_12 t0_13 t0_14 t0_15 t0_16 t0_17 t0_18 t0_19 t0_20 t0_21 t1_0 t2_0 t3_0 t4_0 t5_0 t6_0 t7_0 t8_0 fm104) t0_0 t0_1 t0_2 t0_3 t0_4 t0_5 t0_6 t0_7 t0_8 t0_9 t0_10 t0_11 t0_12 t0_13 t0_14 t0_15 t0_16 t0_17 t0_18 t0_19 t0_20 t0_21 t1_0 t2_0 t3_0 t4_0 t5_0 t6_0 t7_0 t8_0 lx62 lx63 lx64 lx65 lx66 lx67 lx68 lx69 lx70 lx71 lx72 lx73 lx74 lx75 lx76 lx77 lx78 lx79 lx80 lx81 lx114 lx115 lx116 lx117 lx118 lx119 lx120 lx121 lx122 lx123 lx124 lx125 lx126 lx127 lx128 lx129 lx130 lx131 fm181 a197 a192 f190 = (F_VR_run t0_0 t0_1 t0_2 t0_3 t0_4 t0_5 t0_6 t0_7 t0_8 t0_9 t0_10 t0_11 t0_12 t0_13 t0_14 t0_15 t0_16 t0_17 t0_18 t0_19 t0_20 t0_21 t1_0 t2_0 t3_0 t4_0 t5_0 t6_0 t7_0 t8_0) from Eq.trans (by rw [← e198, ← e193, ← e191, ← e186, F_VR_run_L145.eq_2, if_neg c182]) hR177), (show True ∧ S_VR_run_L145 (S_VR_run_L27 t0_0 t0_1 t0_2 t0_3 t0_4 t0_5 t0_6 t0_7 t0_8 t0_9 t0_10 t0_11 t0_12 t0_13 t0_14 t0_15 t0_16 t0_17 t0_18 t0_19 t0_20 t0_21 t1_0 t2_0 t3_0 t4_0 t5_0 t6_0 t7_0 t8_0 fm104) t0_0 t0_1 t0_2 t0_3 t0_4 t0_5 t0_6 t0_7 t0_8 t0_9 t0_10 t0_11 t0_12 t0_13 t0_14 t0_15 t0_16 t0_17 t0_18 t0_19 t0_20 t0_21 t1_0 t2_0 t3_0 t4_0 t5_0 t6_0 t7_0 t8_0 lx62 lx63 lx64 lx65 lx66 lx67 lx68 lx69 lx70 lx71 lx72 lx73 lx74 lx75 lx76 lx77 lx78 lx79 lx80 lx81 lx114 lx115 lx116 lx117 lx118 lx119 lx120 lx121 lx122 lx123 lx124 lx125 lx126 lx127 lx128 lx129 lx130 lx131 fm181 a197 a192 f190 from (by rw [← e198, ← e193, ← e191, ← e186]; have h := hS178; rw [S_VR_run_L145.eq_2] at h; rw [if_neg c182] at h; replace h := q_s2 h; with_reducible exact h))⟩⟩
      ·
        refine lv_aload_n hx hb d_16_40_135 rfl (lv_at hl 1 rfl) ?_
        refine lv_bipush (v := 12) hx hb d_16_40_136 (by decide) ?_
        refine q_put (ci := 17) (j := 12) (v := .int 12) (ty := .int) C0 V i_VR o_VR n_VR rfl rfl hO132 (by decide) w_2215 rfl rfl rfl rfl (Nat.le_of_ble_eq_true rfl) d_16_40_138 (fun H locs w201 hu202 hO132 V => ?_)
        replace hO132 : w201[157]? = (some (q 157, .inr (17, [.int t0_0, .ref (q 158), .int t0_1, .int t0_2, .ref (q 159), .ref (q 160), .ref (q 161), .ref (q 162), .ref (q 163), .int t0_3, .ref (q 164), .int lx80, .int 12, .int t0_6, .int lx115, .int lx116, .int lx117, .int lx118, .int lx119, .int lx120, .int lx121, .int lx122, .int lx123, .int lx124, .ref (q 165), .int lx125, .int lx126, .int lx127, .ref (q 166), .int lx128, .int lx129])) : Option (Nat × va_E)) := hO132
        replace hI := n_p157 hI hu202 hO132 (by first | with_reducible exact q_fe btt0_1 | exact ⟨(by have t1 : 0 ≤ t0_1.toInt ∧ t0_1.toInt ≤ 256 := btt0_1; omega), (by have t1 : 0 ≤ t0_1.toInt ∧ t0_1.toInt ≤ 256 := btt0_1; omega)⟩) (by first | with_reducible exact q_fe btt0_2 | exact ⟨(by have t1 : 0 ≤ t0_2.toInt ∧ t0_2.toInt ≤ 9 := btt0_2; omega), (by have t1 : 0 ≤ t0_2.toInt ∧ t0_2.toInt ≤ 9 := btt0_2; omega)⟩) (by first | with_reducible exact q_fe btt0_3 | exact ⟨(by have t1 : 0 ≤ t0_3.toInt ∧ t0_3.toInt ≤ 4096 := btt0_3; omega), (by have t1 : 0 ≤ t0_3.toInt ∧ t0_3.toInt ≤ 4096 := btt0_3; omega)⟩) ⟨(by first | with_reducible exact q_fe i142 | (have t1 : 0 ≤ lx118.toInt := i142; omega)), (by have t1 : 0 ≤ t0_10.toInt ∧ t0_10.toInt ≤ 1 := btt0_10; have t2 : lx66.toInt ≤ t0_10.toInt := i88; have t3 : lx118.toInt ≤ lx66.toInt := i147; omega)⟩ ⟨(by first | with_reducible exact q_fe i143 | (have t1 : 0 ≤ lx127.toInt := i143; omega)), (by first | with_reducible exact q_fe i144 | (have t1 : lx127.toInt ≤ 1 := i144; omega))⟩
        replace hA138 := (hu202 _ (by decide)).trans hA138
        replace hA139 := (hu202 _ (by decide)).trans hA139
        replace hA140 := (hu202 _ (by decide)).trans hA140
        replace hF := q_us hF hu202 (by simp)
        refine lv_iload_n hx hb d_16_40_141 rfl (lv_at hl 0 rfl) ?_
        exact q_reti C0 V (⟨hI, hF, lx80, 12, lx115, lx116, lx117, lx118, lx119, lx120, lx121, lx122, lx123, lx124, lx125, lx126, lx127, lx128, lx129, lx81, lx130, lx131, hO132, hA138, hA139, hA140, (show 0 ≤ lx80.toInt from (by have z36 : (12 : Int32).toInt = 12 := rfl; have t1 : 0 ≤ lx80.toInt := i87; omega)), (show 0 ≤ (12 : Int32).toInt from (by have z36 : (12 : Int32).toInt = 12 := rfl; omega)), (show (12 : Int32).toInt ≤ 12 from (by have z36 : (12 : Int32).toInt = 12 := rfl; omega)), (show 0 ≤ lx118.toInt from (by have z36 : (12 : Int32).toInt = 12 := rfl; have t1 : 0 ≤ lx118.toInt := i142; omega)), (show lx118.toInt ≤ 1 from (by have z36 : (12 : Int32).toInt = 12 := rfl; have t1 : 0 ≤ t0_10.toInt ∧ t0_10.toInt ≤ 1 := btt0_10; have t2 : lx66.toInt ≤ t0_10.toInt := i88; have t3 : lx118.toInt ≤ lx66.toInt := i147; omega)), (show 0 ≤ lx127.toInt from (by have z36 : (12 : Int32).toInt = 12 := rfl; have t1 : 0 ≤ lx127.toInt := i143; omega)), (show lx127.toInt ≤ 1 from (by have z36 : (12 : Int32).toInt = 12 := rfl; have t1 : lx127.toInt ≤ 1 := i144; omega)), (show lx63.toInt + 1 ≤ t0_1.toInt from (by have z36 : (12 : Int32).toInt = 12 := rfl; have t1 : lx63.toInt < t0_1.toInt := b107; omega)), (show lx63.toInt ≤ (12 : Int32).toInt + 254 from (by have z36 : (12 : Int32).toInt = 12 := rfl; have t1 : 0 ≤ t0_1.toInt ∧ t0_1.toInt ≤ 256 := btt0_1; have t2 : lx63.toInt < t0_1.toInt := b107; omega)), (show (lx63, lx80, (12 : Int32), lx115, lx116, lx117, lx118, lx119, lx120, lx121, lx122, lx123, lx124, lx125, lx126, lx127, lx128, lx129, lx81, lx130, lx131) = (F_VR_run t0_0 t0_1 t0_2 t0_3 t0_4 t0_5 t0_6 t0_7 t0_8 t0_9 t0_10 t0_11 t0_12 t0_13 t0_14 t0_15 t0_16 t0_17 t0_18 t0_19 t0_20 t0_21 t1_0 t2_0 t3_0 t4_0 t5_0 t6_0 t7_0 t8_0) from Eq.trans (by have c156x := c156; rw [← e155] at c156x; rw [F_VR_run_J120.eq_1, if_neg c156x]) hR149)⟩) d_16_40_142
    ·
      intro J141
      refine lv_icmp_eq (tgt := 80) hx hb d_16_40_44 (by decide) (fun c203 => ?_) (fun c203 => ?_)
      ·
        refine lv_aload_n hx hb d_16_40_80 rfl (lv_at hl 0 rfl) ?_
        refine q_get (ci := 17) (j := 14) (v := .int lx63) C0 V i_VR rfl rfl hO91 (by decide) w_2218 rfl d_16_40_81 ?_
        refine lv_istore_n (lv' := [(1, .int lx63), (0, .ref (q 157))]) hx hb d_16_40_84 rfl hl (by decide) rfl (fun ls hl => ?_)
        refine lv_aload_n hx hb d_16_40_85 rfl (lv_at hl 1 rfl) ?_
        refine lv_dup hx hb d_16_40_86 rfl ?_
        refine q_get (ci := 17) (j := 14) (v := .int lx63) C0 V i_VR rfl rfl hO91 (by decide) w_2218 rfl d_16_40_87 ?_
        refine lv_iconst (v := 1) hx hb d_16_40_90 (by decide) ?_
        refine lv_iadd hx hb d_16_40_91 ?_
        obtain ⟨a205, e206⟩ := q_nm (lx63 + 1 : Int32)
        refine q_ti (v := a205) e206 ?_
        refine q_put (ci := 17) (j := 14) (v := .int a205) (ty := .int) C0 V i_VR o_VR n_VR rfl rfl hO91 (by decide) w_2218 rfl rfl rfl rfl (Nat.le_of_ble_eq_true rfl) d_16_40_92 (fun H locs w208 hu209 hO91 V => ?_)
        replace hO91 : w208[157]? = (some (q 157, .inr (17, [.int t0_0, .ref (q 158), .int t0_1, .int t0_2, .ref (q 159), .ref (q 160), .ref (q 161), .ref (q 162), .ref (q 163), .int t0_3, .ref (q 164), .int lx80, .int lx62, .int t0_6, .int a205, .int lx64, .int lx65, .int lx66, .int lx67, .int lx68, .int lx69, .int lx70, .int lx71, .int lx72, .ref (q 165), .int lx73, .int lx74, .int lx75, .ref (q 166), .int lx76, .int lx77])) : Option (Nat × va_E)) := hO91
        replace hI := n_p157 hI hu209 hO91 (by first | with_reducible exact q_fe btt0_1 | exact ⟨(by have t1 : 0 ≤ t0_1.toInt ∧ t0_1.toInt ≤ 256 := btt0_1; omega), (by have t1 : 0 ≤ t0_1.toInt ∧ t0_1.toInt ≤ 256 := btt0_1; omega)⟩) (by first | with_reducible exact q_fe btt0_2 | exact ⟨(by have t1 : 0 ≤ t0_2.toInt ∧ t0_2.toInt ≤ 9 := btt0_2; omega), (by have t1 : 0 ≤ t0_2.toInt ∧ t0_2.toInt ≤ 9 := btt0_2; omega)⟩) (by first | with_reducible exact q_fe btt0_3 | exact ⟨(by have t1 : 0 ≤ t0_3.toInt ∧ t0_3.toInt ≤ 4096 := btt0_3; omega), (by have t1 : 0 ≤ t0_3.toInt ∧ t0_3.toInt ≤ 4096 := btt0_3; omega)⟩) ⟨(by first | with_reducible exact q_fe i84 | (have t1 : 0 ≤ lx66.toInt := i84; omega)), (by have t1 : 0 ≤ t0_10.toInt ∧ t0_10.toInt ≤ 1 := btt0_10; have t2 : lx66.toInt ≤ t0_10.toInt := i88; omega)⟩ ⟨(by first | with_reducible exact q_fe i85 | (have t1 : 0 ≤ lx75.toInt := i85; omega)), (by first | with_reducible exact q_fe i86 | (have t1 : lx75.toInt ≤ 1 := i86; omega))⟩
        replace hO92 := (hu209 _ (by decide)).trans hO92
        replace hO93 := (hu209 _ (by decide)).trans hO93
        replace hO94 := (hu209 _ (by decide)).trans hO94
        replace hO95 := (hu209 _ (by decide)).trans hO95
        replace hO96 := (hu209 _ (by decide)).trans hO96
        replace hO97 := (hu209 _ (by decide)).trans hO97
        replace hO98 := (hu209 _ (by decide)).trans hO98
        replace hO99 := (hu209 _ (by decide)).trans hO99
        replace hF := q_us hF hu209 (by simp)
        refine lv_aload_n hx hb d_16_40_95 rfl (lv_at hl 1 rfl) ?_
        have ob210 : True ∧ S_VR_take t0_0 t0_1 t0_2 t0_3 lx80 lx62 t0_6 a205 lx64 lx65 lx66 lx67 lx68 lx69 lx70 lx71 lx72 lx73 lx74 lx75 lx76 lx77 t1_0 := (by rw [← e206]; have h := hS101; rw [S_VR_run_L27.eq_2] at h; rw [if_neg c105] at h; replace h := q_s2 h; have c203x := c203; rw [e113] at c203x; rw [if_pos c203x] at h; with_reducible exact h.2.1)
        refine q_gov V (q_runV (As := []) (rest := []) (d := 4) (mc := 0) (ms := 0) (ci := 17) C0 V rfl LV_VR_201 (X_VR_take l D g q w208   hI t0_0 t0_1 t0_2 t0_3 lx80 lx62 t0_6 a205 lx64 lx65 lx66 lx67 lx68 lx69 lx70 lx71 lx72 lx73 lx74 lx75 lx76 lx77 hO91 t1_0 hO92 ob210 _) rfl rfl hO91 rfl hl.1 rfl (Nat.le_of_ble_eq_true rfl) ⟨by decide, by decide⟩ ⟨Nat.le_of_ble_eq_true rfl, Nat.le_of_ble_eq_true rfl⟩ d_16_40_96) (fun u211 H locs hp212 V => ?_)
        obtain ⟨hI, hZ9⟩ := hp212
        obtain ⟨hu228, hZ9⟩ := hZ9
        obtain ⟨y214, hZ9⟩ := hZ9
        obtain ⟨y215, hZ9⟩ := hZ9
        obtain ⟨y216, hZ9⟩ := hZ9
        obtain ⟨y217, hZ9⟩ := hZ9
        obtain ⟨y218, hZ9⟩ := hZ9
        obtain ⟨y219, hZ9⟩ := hZ9
        obtain ⟨y220, hZ9⟩ := hZ9
        obtain ⟨hO213, hZ9⟩ := hZ9
        replace hZ9 := hZ9.2.2
        obtain ⟨b223, hZ9⟩ := hZ9
        obtain ⟨b224, hZ9⟩ := hZ9
        replace hZ9 := hZ9.2
        obtain ⟨-, hE227⟩ := hZ9
        replace hO213 : u211[157]? = (some (q 157, .inr (17, [.int t0_0, .ref (q 158), .int t0_1, .int t0_2, .ref (q 159), .ref (q 160), .ref (q 161), .ref (q 162), .ref (q 163), .int t0_3, .ref (q 164), .int lx80, .int lx62, .int t0_6, .int y214, .int y215, .int y216, .int y217, .int y218, .int y219, .int y220, .int lx70, .int lx71, .int lx72, .ref (q 165), .int lx73, .int lx74, .int lx75, .ref (q 166), .int lx76, .int lx77])) : Option (Nat × va_E)) := hO213
        obtain ⟨p229, e230⟩ : ∃ z, z = (F_VR_take t0_0 t0_1 t0_2 t0_3 lx80 lx62 t0_6 a205 lx64 lx65 lx66 lx67 lx68 lx69 lx70 lx71 lx72 lx73 lx74 lx75 lx76 lx77 t1_0) := ⟨_, rfl⟩
        have e231 : y214 = p229.1 := congrArg (fun z => z.1) (hE227.trans e230.symm)
        have e232 : y215 = p229.2.1 := congrArg (fun z => z.2.1) (hE227.trans e230.symm)
        have e233 : y216 = p229.2.2.1 := congrArg (fun z => z.2.2.1) (hE227.trans e230.symm)
        have e234 : y217 = p229.2.2.2.1 := congrArg (fun z => z.2.2.2.1) (hE227.trans e230.symm)
        have e235 : y218 = p229.2.2.2.2.1 := congrArg (fun z => z.2.2.2.2.1) (hE227.trans e230.symm)
        have e236 : y219 = p229.2.2.2.2.2.1 := congrArg (fun z => z.2.2.2.2.2.1) (hE227.trans e230.symm)
        have e237 : y220 = p229.2.2.2.2.2.2 := congrArg (fun z => z.2.2.2.2.2.2) (hE227.trans e230.symm)
        replace b223 : q_F (0 ≤ y217.toInt) := b223
        replace b224 : q_F (y217.toInt ≤ 1) := b224
        replace hO92 := (hu228 _ (by decide)).trans hO92
        replace hO93 := (hu228 _ (by decide)).trans hO93
        replace hO94 := (hu228 _ (by decide)).trans hO94
        replace hO95 := (hu228 _ (by decide)).trans hO95
        replace hO96 := (hu228 _ (by decide)).trans hO96
        replace hO97 := (hu228 _ (by decide)).trans hO97
        replace hO98 := (hu228 _ (by decide)).trans hO98
        replace hO99 := (hu228 _ (by decide)).trans hO99
        replace hF := q_uc hF hu228 (by simp)
        have hR238 := (show F_VR_run_c96 (F_VR_run_L27 t0_0 t0_1 t0_2 t0_3 t0_4 t0_5 t0_6 t0_7 t0_8 t0_9 t0_10 t0_11 t0_12 t0_13 t0_14 t0_15 t0_16 t0_17 t0_18 t0_19 t0_20 t0_21 t1_0 t2_0 t3_0 t4_0 t5_0 t6_0 t7_0 t8_0 fm104) t0_0 t0_1 t0_2 t0_3 t0_4 t0_5 t0_6 t0_7 t0_8 t0_9 t0_10 t0_11 t0_12 t0_13 t0_14 t0_15 t0_16 t0_17 t0_18 t0_19 t0_20 t0_21 t1_0 t2_0 t3_0 t4_0 t5_0 t6_0 t7_0 t8_0 lx62 lx63 lx64 lx65 lx66 lx67 lx68 lx69 lx70 lx71 lx72 lx73 lx74 lx75 lx76 lx77 lx78 lx79 lx80 lx81 p229 = (F_VR_run t0_0 t0_1 t0_2 t0_3 t0_4 t0_5 t0_6 t0_7 t0_8 t0_9 t0_10 t0_11 t0_12 t0_13 t0_14 t0_15 t0_16 t0_17 t0_18 t0_19 t0_20 t0_21 t1_0 t2_0 t3_0 t4_0 t5_0 t6_0 t7_0 t8_0) from Eq.trans (by have c203x := c203; rw [e113] at c203x; rw [e230, ← e206, F_VR_run_L27.eq_2, if_neg c105, if_pos c203x]) hR100)
        have hS239 := (show True ∧ S_VR_run_c96 (S_VR_run_L27 t0_0 t0_1 t0_2 t0_3 t0_4 t0_5 t0_6 t0_7 t0_8 t0_9 t0_10 t0_11 t0_12 t0_13 t0_14 t0_15 t0_16 t0_17 t0_18 t0_19 t0_20 t0_21 t1_0 t2_0 t3_0 t4_0 t5_0 t6_0 t7_0 t8_0 fm104) t0_0 t0_1 t0_2 t0_3 t0_4 t0_5 t0_6 t0_7 t0_8 t0_9 t0_10 t0_11 t0_12 t0_13 t0_14 t0_15 t0_16 t0_17 t0_18 t0_19 t0_20 t0_21 t1_0 t2_0 t3_0 t4_0 t5_0 t6_0 t7_0 t8_0 lx62 lx63 lx64 lx65 lx66 lx67 lx68 lx69 lx70 lx71 lx72 lx73 lx74 lx75 lx76 lx77 lx78 lx79 lx80 lx81 p229 from (by rw [e230, ← e206]; have h := hS101; rw [S_VR_run_L27.eq_2] at h; rw [if_neg c105] at h; replace h := q_s2 h; have c203x := c203; rw [e113] at c203x; rw [if_pos c203x] at h; replace h := q_s2 h; with_reducible exact h))
        refine lv_aload_n hx hb d_16_40_99 rfl (lv_at hl 1 rfl) ?_
        refine lv_aload_n hx hb d_16_40_100 rfl (lv_at hl 1 rfl) ?_
        refine q_goi V (q_runV (As := []) (rest := [.ref (q 157)]) (d := 4) (mc := 0) (ms := 0) (ci := 17) C0 V rfl LV_VR_204 (X_VR_looked l D g q u211   hI t0_0 t0_1 t0_2 t0_3 lx80 lx62 t0_6 y214 y215 y216 y217 y218 y219 y220 lx70 lx71 lx72 lx73 lx74 lx75 lx76 lx77 hO213 t2_0 hO93 t3_0 hO94 t4_0 hO95  _) rfl rfl hO213 rfl hl.1 rfl (Nat.le_of_ble_eq_true rfl) ⟨by decide, by decide⟩ ⟨Nat.le_of_ble_eq_true rfl, Nat.le_of_ble_eq_true rfl⟩ d_16_40_101) (fun a245 u243 H locs hp244 V => ?_)
        obtain ⟨hI, hZ9⟩ := hp244
        obtain ⟨hu254, hZ9⟩ := hZ9
        obtain ⟨y247, hZ9⟩ := hZ9
        obtain ⟨y248, hZ9⟩ := hZ9
        obtain ⟨y249, hZ9⟩ := hZ9
        obtain ⟨hO246, hZ9⟩ := hZ9
        obtain ⟨b250, hZ9⟩ := hZ9
        replace hZ9 := hZ9.2
        obtain ⟨b252, hE253⟩ := hZ9
        replace hO246 : u243[157]? = (some (q 157, .inr (17, [.int t0_0, .ref (q 158), .int t0_1, .int t0_2, .ref (q 159), .ref (q 160), .ref (q 161), .ref (q 162), .ref (q 163), .int t0_3, .ref (q 164), .int lx80, .int lx62, .int t0_6, .int y214, .int y215, .int y216, .int y217, .int y218, .int y219, .int y220, .int y247, .int y248, .int y249, .ref (q 165), .int lx73, .int lx74, .int lx75, .ref (q 166), .int lx76, .int lx77])) : Option (Nat × va_E)) := hO246
        obtain ⟨p255, e256⟩ : ∃ z, z = (F_VR_looked t0_0 t0_1 t0_2 t0_3 lx80 lx62 t0_6 y214 y215 y216 y217 y218 y219 y220 lx70 lx71 lx72 lx73 lx74 lx75 lx76 lx77 t2_0 t3_0 t4_0) := ⟨_, rfl⟩
        have e257 : a245 = p255.1 := congrArg (fun z => z.1) (hE253.trans e256.symm)
        have e258 : y247 = p255.2.1 := congrArg (fun z => z.2.1) (hE253.trans e256.symm)
        have e259 : y248 = p255.2.2.1 := congrArg (fun z => z.2.2.1) (hE253.trans e256.symm)
        have e260 : y249 = p255.2.2.2 := congrArg (fun z => z.2.2.2) (hE253.trans e256.symm)
        replace b250 : q_F (a245.toInt ≤ 11) := b250
        replace b252 : q_F (y217.toInt ≤ a245.toInt) := b252
        replace hO92 := (hu254 _ (by decide)).trans hO92
        replace hO93 := (hu254 _ (by decide)).trans hO93
        replace hO94 := (hu254 _ (by decide)).trans hO94
        replace hO95 := (hu254 _ (by decide)).trans hO95
        replace hO96 := (hu254 _ (by decide)).trans hO96
        replace hO97 := (hu254 _ (by decide)).trans hO97
        replace hO98 := (hu254 _ (by decide)).trans hO98
        replace hO99 := (hu254 _ (by decide)).trans hO99
        replace hF := q_uc hF hu254 (by simp)
        have hR261 := (show F_VR_run_c101 (F_VR_run_L27 t0_0 t0_1 t0_2 t0_3 t0_4 t0_5 t0_6 t0_7 t0_8 t0_9 t0_10 t0_11 t0_12 t0_13 t0_14 t0_15 t0_16 t0_17 t0_18 t0_19 t0_20 t0_21 t1_0 t2_0 t3_0 t4_0 t5_0 t6_0 t7_0 t8_0 fm104) t0_0 t0_1 t0_2 t0_3 t0_4 t0_5 t0_6 t0_7 t0_8 t0_9 t0_10 t0_11 t0_12 t0_13 t0_14 t0_15 t0_16 t0_17 t0_18 t0_19 t0_20 t0_21 t1_0 t2_0 t3_0 t4_0 t5_0 t6_0 t7_0 t8_0 lx62 lx63 lx64 lx65 lx66 lx67 lx68 lx69 lx70 lx71 lx72 lx73 lx74 lx75 lx76 lx77 lx78 lx79 lx80 lx81 p229 y214 y215 y216 y217 y218 y219 y220 p255 = (F_VR_run t0_0 t0_1 t0_2 t0_3 t0_4 t0_5 t0_6 t0_7 t0_8 t0_9 t0_10 t0_11 t0_12 t0_13 t0_14 t0_15 t0_16 t0_17 t0_18 t0_19 t0_20 t0_21 t1_0 t2_0 t3_0 t4_0 t5_0 t6_0 t7_0 t8_0) from Eq.trans (by rw [e256, e237, e236, e235, e234, e233, e232, e231, F_VR_run_c96.eq_1]) hR238)
        have hS262 := (show True ∧ S_VR_run_c101 (S_VR_run_L27 t0_0 t0_1 t0_2 t0_3 t0_4 t0_5 t0_6 t0_7 t0_8 t0_9 t0_10 t0_11 t0_12 t0_13 t0_14 t0_15 t0_16 t0_17 t0_18 t0_19 t0_20 t0_21 t1_0 t2_0 t3_0 t4_0 t5_0 t6_0 t7_0 t8_0 fm104) t0_0 t0_1 t0_2 t0_3 t0_4 t0_5 t0_6 t0_7 t0_8 t0_9 t0_10 t0_11 t0_12 t0_13 t0_14 t0_15 t0_16 t0_17 t0_18 t0_19 t0_20 t0_21 t1_0 t2_0 t3_0 t4_0 t5_0 t6_0 t7_0 t8_0 lx62 lx63 lx64 lx65 lx66 lx67 lx68 lx69 lx70 lx71 lx72 lx73 lx74 lx75 lx76 lx77 lx78 lx79 lx80 lx81 p229 y214 y215 y216 y217 y218 y219 y220 p255 from (by rw [e256, e237, e236, e235, e234, e233, e232, e231]; have h := hS239; rw [S_VR_run_c96.eq_1] at h; with_reducible exact h))
        refine q_put (ci := 17) (j := 12) (v := .int a245) (ty := .int) C0 V i_VR o_VR n_VR rfl rfl hO246 (by decide) w_2215 rfl rfl rfl rfl (Nat.le_of_ble_eq_true rfl) d_16_40_104 (fun H locs w266 hu267 hO246 V => ?_)
        replace hO246 : w266[157]? = (some (q 157, .inr (17, [.int t0_0, .ref (q 158), .int t0_1, .int t0_2, .ref (q 159), .ref (q 160), .ref (q 161), .ref (q 162), .ref (q 163), .int t0_3, .ref (q 164), .int lx80, .int a245, .int t0_6, .int y214, .int y215, .int y216, .int y217, .int y218, .int y219, .int y220, .int y247, .int y248, .int y249, .ref (q 165), .int lx73, .int lx74, .int lx75, .ref (q 166), .int lx76, .int lx77])) : Option (Nat × va_E)) := hO246
        replace hI := n_p157 hI hu267 hO246 (by first | with_reducible exact q_fe btt0_1 | exact ⟨(by have t1 : 0 ≤ t0_1.toInt ∧ t0_1.toInt ≤ 256 := btt0_1; omega), (by have t1 : 0 ≤ t0_1.toInt ∧ t0_1.toInt ≤ 256 := btt0_1; omega)⟩) (by first | with_reducible exact q_fe btt0_2 | exact ⟨(by have t1 : 0 ≤ t0_2.toInt ∧ t0_2.toInt ≤ 9 := btt0_2; omega), (by have t1 : 0 ≤ t0_2.toInt ∧ t0_2.toInt ≤ 9 := btt0_2; omega)⟩) (by first | with_reducible exact q_fe btt0_3 | exact ⟨(by have t1 : 0 ≤ t0_3.toInt ∧ t0_3.toInt ≤ 4096 := btt0_3; omega), (by have t1 : 0 ≤ t0_3.toInt ∧ t0_3.toInt ≤ 4096 := btt0_3; omega)⟩) ⟨(by first | with_reducible exact q_fe b223 | (have t1 : 0 ≤ y217.toInt := b223; omega)), (by first | with_reducible exact q_fe b224 | (have t1 : y217.toInt ≤ 1 := b224; omega))⟩ ⟨(by first | with_reducible exact q_fe i85 | (have t1 : 0 ≤ lx75.toInt := i85; omega)), (by first | with_reducible exact q_fe i86 | (have t1 : lx75.toInt ≤ 1 := i86; omega))⟩
        replace hO92 := (hu267 _ (by decide)).trans hO92
        replace hO93 := (hu267 _ (by decide)).trans hO93
        replace hO94 := (hu267 _ (by decide)).trans hO94
        replace hO95 := (hu267 _ (by decide)).trans hO95
        replace hO96 := (hu267 _ (by decide)).trans hO96
        replace hO97 := (hu267 _ (by decide)).trans hO97
        replace hO98 := (hu267 _ (by decide)).trans hO98
        replace hO99 := (hu267 _ (by decide)).trans hO99
        replace hF := q_us hF hu267 (by simp)
        refine lv_aload_n hx hb d_16_40_107 rfl (lv_at hl 1 rfl) ?_
        refine q_get (ci := 17) (j := 12) (v := .int a245) C0 V i_VR rfl rfl hO246 (by decide) w_2215 rfl d_16_40_108 ?_
        refine lv_if_le (tgt := 116) hx hb d_16_40_111 (by decide) (fun c268 => ?_) (fun c268 => ?_)
        ·
          have b269 : q_F (a245.toInt ≤ 0) := (q_leI c268)
          refine lv_aload_n hx hb d_16_40_116 rfl (lv_at hl 1 rfl) ?_
          have ob270 : True ∧ S_VR_make t0_0 t0_1 t0_2 t0_3 lx80 a245 t0_6 y214 y215 y216 y217 y218 y219 y220 y247 y248 y249 lx73 lx74 lx75 lx76 lx77 t2_0 t3_0 t4_0 t5_0 lx78 lx79 := (by rw [e260, e259, e258, e257]; have h := hS262; rw [S_VR_run_c101.eq_1] at h; have c268x := c268; rw [e257] at c268x; rw [if_pos c268x] at h; with_reducible exact h.2.1)
          refine q_gov V (q_runV (As := []) (rest := []) (d := 7) (mc := 0) (ms := 0) (ci := 17) C0 V rfl LV_VR_207 (X_VR_make l D g q w266   hI t0_0 t0_1 t0_2 t0_3 lx80 a245 t0_6 y214 y215 y216 y217 y218 y219 y220 y247 y248 y249 lx73 lx74 lx75 lx76 lx77 hO246 t2_0 hO93 t3_0 hO94 t4_0 hO95 t5_0 hO96 lx78 hO98 lx79 hO99 ob270 _) rfl rfl hO246 rfl hl.1 rfl (Nat.le_of_ble_eq_true rfl) ⟨by decide, by decide⟩ ⟨Nat.le_of_ble_eq_true rfl, Nat.le_of_ble_eq_true rfl⟩ d_16_40_117) (fun u271 H locs hp272 V => ?_)
          obtain ⟨hI, hZ9⟩ := hp272
          obtain ⟨hu287, hZ9⟩ := hZ9
          obtain ⟨y274, hZ9⟩ := hZ9
          obtain ⟨y275, hZ9⟩ := hZ9
          obtain ⟨y276, hZ9⟩ := hZ9
          obtain ⟨y277, hZ9⟩ := hZ9
          obtain ⟨y278, hZ9⟩ := hZ9
          obtain ⟨y279, hZ9⟩ := hZ9
          obtain ⟨f280, hZ9⟩ := hZ9
          obtain ⟨f282, hZ9⟩ := hZ9
          obtain ⟨hO273, hZ9⟩ := hZ9
          obtain ⟨hA281, hZ9⟩ := hZ9
          obtain ⟨hA283, hZ9⟩ := hZ9
          obtain ⟨b284, hZ9⟩ := hZ9
          obtain ⟨b285, hE286⟩ := hZ9
          replace hO273 : u271[157]? = (some (q 157, .inr (17, [.int t0_0, .ref (q 158), .int t0_1, .int t0_2, .ref (q 159), .ref (q 160), .ref (q 161), .ref (q 162), .ref (q 163), .int t0_3, .ref (q 164), .int lx80, .int a245, .int t0_6, .int y214, .int y215, .int y274, .int y217, .int y218, .int y219, .int y220, .int y247, .int y248, .int y249, .ref (q 165), .int y275, .int y276, .int y277, .ref (q 166), .int y278, .int y279])) : Option (Nat × va_E)) := hO273
          replace hA281 : u271[165]? = (some (q 165, .inl (g 0, (20200 : Int32).toNatClampNeg, .inl f280)) : Option (Nat × va_E)) := hA281
          replace hA283 : u271[166]? = (some (q 166, .inl (g 0, (64 : Int32).toNatClampNeg, .inl f282)) : Option (Nat × va_E)) := hA283
          obtain ⟨p288, e289⟩ : ∃ z, z = (F_VR_make t0_0 t0_1 t0_2 t0_3 lx80 a245 t0_6 y214 y215 y216 y217 y218 y219 y220 y247 y248 y249 lx73 lx74 lx75 lx76 lx77 t2_0 t3_0 t4_0 t5_0 lx78 lx79) := ⟨_, rfl⟩
          have e290 : y274 = p288.1 := congrArg (fun z => z.1) (hE286.trans e289.symm)
          have e291 : y275 = p288.2.1 := congrArg (fun z => z.2.1) (hE286.trans e289.symm)
          have e292 : y276 = p288.2.2.1 := congrArg (fun z => z.2.2.1) (hE286.trans e289.symm)
          have e293 : y277 = p288.2.2.2.1 := congrArg (fun z => z.2.2.2.1) (hE286.trans e289.symm)
          have e294 : y278 = p288.2.2.2.2.1 := congrArg (fun z => z.2.2.2.2.1) (hE286.trans e289.symm)
          have e295 : y279 = p288.2.2.2.2.2.1 := congrArg (fun z => z.2.2.2.2.2.1) (hE286.trans e289.symm)
          have e296 : f280 = p288.2.2.2.2.2.2.1 := congrArg (fun z => z.2.2.2.2.2.2.1) (hE286.trans e289.symm)
          have e297 : f282 = p288.2.2.2.2.2.2.2 := congrArg (fun z => z.2.2.2.2.2.2.2) (hE286.trans e289.symm)
          replace b284 : q_F (0 ≤ y277.toInt) := b284
          replace b285 : q_F (y277.toInt ≤ 1) := b285
          replace hO92 := (hu287 _ (by decide)).trans hO92
          replace hO93 := (hu287 _ (by decide)).trans hO93
          replace hO94 := (hu287 _ (by decide)).trans hO94
          replace hO95 := (hu287 _ (by decide)).trans hO95
          replace hO96 := (hu287 _ (by decide)).trans hO96
          replace hO97 := (hu287 _ (by decide)).trans hO97
          replace hF := q_uc hF hu287 (by simp)
          have hR298 := (show F_VR_run_c117 (F_VR_run_L27 t0_0 t0_1 t0_2 t0_3 t0_4 t0_5 t0_6 t0_7 t0_8 t0_9 t0_10 t0_11 t0_12 t0_13 t0_14 t0_15 t0_16 t0_17 t0_18 t0_19 t0_20 t0_21 t1_0 t2_0 t3_0 t4_0 t5_0 t6_0 t7_0 t8_0 fm104) t0_0 t0_1 t0_2 t0_3 t0_4 t0_5 t0_6 t0_7 t0_8 t0_9 t0_10 t0_11 t0_12 t0_13 t0_14 t0_15 t0_16 t0_17 t0_18 t0_19 t0_20 t0_21 t1_0 t2_0 t3_0 t4_0 t5_0 t6_0 t7_0 t8_0 lx62 lx63 lx64 lx65 lx66 lx67 lx68 lx69 lx70 lx71 lx72 lx73 lx74 lx75 lx76 lx77 lx78 lx79 lx80 lx81 p229 y214 y215 y216 y217 y218 y219 y220 p255 a245 y247 y248 y249 p288 = (F_VR_run t0_0 t0_1 t0_2 t0_3 t0_4 t0_5 t0_6 t0_7 t0_8 t0_9 t0_10 t0_11 t0_12 t0_13 t0_14 t0_15 t0_16 t0_17 t0_18 t0_19 t0_20 t0_21 t1_0 t2_0 t3_0 t4_0 t5_0 t6_0 t7_0 t8_0) from Eq.trans (by have c268x := c268; rw [e257] at c268x; rw [e289, e260, e259, e258, e257, F_VR_run_c101.eq_1, if_pos c268x]) hR261)
          have hS299 := (show True ∧ S_VR_run_c117 (S_VR_run_L27 t0_0 t0_1 t0_2 t0_3 t0_4 t0_5 t0_6 t0_7 t0_8 t0_9 t0_10 t0_11 t0_12 t0_13 t0_14 t0_15 t0_16 t0_17 t0_18 t0_19 t0_20 t0_21 t1_0 t2_0 t3_0 t4_0 t5_0 t6_0 t7_0 t8_0 fm104) t0_0 t0_1 t0_2 t0_3 t0_4 t0_5 t0_6 t0_7 t0_8 t0_9 t0_10 t0_11 t0_12 t0_13 t0_14 t0_15 t0_16 t0_17 t0_18 t0_19 t0_20 t0_21 t1_0 t2_0 t3_0 t4_0 t5_0 t6_0 t7_0 t8_0 lx62 lx63 lx64 lx65 lx66 lx67 lx68 lx69 lx70 lx71 lx72 lx73 lx74 lx75 lx76 lx77 lx78 lx79 lx80 lx81 p229 y214 y215 y216 y217 y218 y219 y220 p255 a245 y247 y248 y249 p288 from (by rw [e289, e260, e259, e258, e257]; have h := hS262; rw [S_VR_run_c101.eq_1] at h; have c268x := c268; rw [e257] at c268x; rw [if_pos c268x] at h; replace h := q_s2 h; with_reducible exact h))
          exact J141 ((a245 : Int32), (y214 : Int32), (y215 : Int32), (y274 : Int32), (y217 : Int32), (y218 : Int32), (y219 : Int32), (y220 : Int32), (y247 : Int32), (y248 : Int32), (y249 : Int32), (y275 : Int32), (y276 : Int32), (y277 : Int32), (y278 : Int32), (y279 : Int32), (f280 : (Nat → Int32)), (f282 : (Nat → Int32))) _ _ _ _ ⟨(show q_F (0 ≤ y217.toInt) from (show 0 ≤ y217.toInt from by have t1 : 0 ≤ y217.toInt := b223; omega)), (show q_F (0 ≤ y277.toInt) from (show 0 ≤ y277.toInt from by have t1 : 0 ≤ y277.toInt := b284; omega)), (show q_F (y277.toInt ≤ 1) from (show y277.toInt ≤ 1 from by have t1 : y277.toInt ≤ 1 := b285; omega)), (show q_F (lx62.toInt ≤ a245.toInt) from (show lx62.toInt ≤ a245.toInt from by have t1 : lx62.toInt ≤ 0 := i83; have t2 : 0 ≤ y217.toInt := b223; have t3 : y217.toInt ≤ a245.toInt := b252; omega)), (show q_F (a245.toInt ≤ lx62.toInt) from (show a245.toInt ≤ lx62.toInt from by have t1 : 0 ≤ lx62.toInt := i82; have t2 : a245.toInt ≤ 0 := b269; omega)), (show q_F (y217.toInt ≤ lx66.toInt) from (show y217.toInt ≤ lx66.toInt from by have t1 : 0 ≤ lx66.toInt := i84; have t2 : y217.toInt ≤ a245.toInt := b252; have t3 : a245.toInt ≤ 0 := b269; omega)), V, q_lw hl (q_lw1 0 rfl (q_lw1 1 rfl q_lw0)), hI, hF, hO273, hO92, hO93, hO94, hO95, hO96, hO97, hA281, hA283, (show F_VR_run_J120 (F_VR_run_L27 t0_0 t0_1 t0_2 t0_3 t0_4 t0_5 t0_6 t0_7 t0_8 t0_9 t0_10 t0_11 t0_12 t0_13 t0_14 t0_15 t0_16 t0_17 t0_18 t0_19 t0_20 t0_21 t1_0 t2_0 t3_0 t4_0 t5_0 t6_0 t7_0 t8_0 fm104) t0_0 t0_1 t0_2 t0_3 t0_4 t0_5 t0_6 t0_7 t0_8 t0_9 t0_10 t0_11 t0_12 t0_13 t0_14 t0_15 t0_16 t0_17 t0_18 t0_19 t0_20 t0_21 t1_0 t2_0 t3_0 t4_0 t5_0 t6_0 t7_0 t8_0 lx62 lx63 lx64 lx65 lx66 lx67 lx68 lx69 lx70 lx71 lx72 lx73 lx74 lx75 lx76 lx77 lx78 lx79 lx80 lx81 a245 y214 y215 y274 y217 y218 y219 y220 y247 y248 y249 y275 y276 y277 y278 y279 f280 f282 = (F_VR_run t0_0 t0_1 t0_2 t0_3 t0_4 t0_5 t0_6 t0_7 t0_8 t0_9 t0_10 t0_11 t0_12 t0_13 t0_14 t0_15 t0_16 t0_17 t0_18 t0_19 t0_20 t0_21 t1_0 t2_0 t3_0 t4_0 t5_0 t6_0 t7_0 t8_0) from Eq.trans (by rw [e297, e296, e295, e294, e293, e292, e291, e290, F_VR_run_c117.eq_1]) hR298), (show True ∧ S_VR_run_J120 (S_VR_run_L27 t0_0 t0_1 t0_2 t0_3 t0_4 t0_5 t0_6 t0_7 t0_8 t0_9 t0_10 t0_11 t0_12 t0_13 t0_14 t0_15 t0_16 t0_17 t0_18 t0_19 t0_20 t0_21 t1_0 t2_0 t3_0 t4_0 t5_0 t6_0 t7_0 t8_0 fm104) t0_0 t0_1 t0_2 t0_3 t0_4 t0_5 t0_6 t0_7 t0_8 t0_9 t0_10 t0_11 t0_12 t0_13 t0_14 t0_15 t0_16 t0_17 t0_18 t0_19 t0_20 t0_21 t1_0 t2_0 t3_0 t4_0 t5_0 t6_0 t7_0 t8_0 lx62 lx63 lx64 lx65 lx66 lx67 lx68 lx69 lx70 lx71 lx72 lx73 lx74 lx75 lx76 lx77 lx78 lx79 lx80 lx81 a245 y214 y215 y274 y217 y218 y219 y220 y247 y248 y249 y275 y276 y277 y278 y279 f280 f282 from (by rw [e297, e296, e295, e294, e293, e292, e291, e290]; have h := hS299; rw [S_VR_run_c117.eq_1] at h; with_reducible exact h))⟩
        ·
          have b303 : q_F (0 < a245.toInt) := (q_nleI c268)
          refine lv_iload_n hx hb d_16_40_114 rfl (lv_at hl 0 rfl) ?_
          exact q_reti C0 V (⟨hI, hF, lx80, a245, y214, y215, y216, y217, y218, y219, y220, y247, y248, y249, lx73, lx74, lx75, lx76, lx77, lx81, lx78, lx79, hO246, hO97, hO98, hO99, (show 0 ≤ lx80.toInt from (by first | with_reducible exact q_fe i87 | (have t1 : 0 ≤ lx80.toInt := i87; omega))), (show 0 ≤ a245.toInt from (by first | with_reducible exact q_fe b303 | (have t1 : 0 < a245.toInt := b303; omega))), (show a245.toInt ≤ 12 from (by first | with_reducible exact q_fe b250 | (have t1 : a245.toInt ≤ 11 := b250; omega))), (show 0 ≤ y217.toInt from (by first | with_reducible exact q_fe b223 | (have t1 : 0 ≤ y217.toInt := b223; omega))), (show y217.toInt ≤ 1 from (by first | with_reducible exact q_fe b224 | (have t1 : y217.toInt ≤ 1 := b224; omega))), (show 0 ≤ lx75.toInt from (by first | with_reducible exact q_fe i85 | (have t1 : 0 ≤ lx75.toInt := i85; omega))), (show lx75.toInt ≤ 1 from (by first | with_reducible exact q_fe i86 | (have t1 : lx75.toInt ≤ 1 := i86; omega))), (show lx63.toInt + 1 ≤ t0_1.toInt from (by first | with_reducible exact q_fe b107 | (have t1 : lx63.toInt < t0_1.toInt := b107; omega))), (show lx63.toInt ≤ a245.toInt + 254 from (by have t1 : 0 ≤ t0_1.toInt ∧ t0_1.toInt ≤ 256 := btt0_1; have t2 : lx63.toInt < t0_1.toInt := b107; have t3 : 0 < a245.toInt := b303; omega)), (show (lx63, lx80, a245, y214, y215, y216, y217, y218, y219, y220, y247, y248, y249, lx73, lx74, lx75, lx76, lx77, lx81, lx78, lx79) = (F_VR_run t0_0 t0_1 t0_2 t0_3 t0_4 t0_5 t0_6 t0_7 t0_8 t0_9 t0_10 t0_11 t0_12 t0_13 t0_14 t0_15 t0_16 t0_17 t0_18 t0_19 t0_20 t0_21 t1_0 t2_0 t3_0 t4_0 t5_0 t6_0 t7_0 t8_0) from Eq.trans (by have c268x := c268; rw [e257] at c268x; rw [e260, e259, e258, e257, F_VR_run_c101.eq_1, if_neg c268x]) hR261)⟩) d_16_40_115
      ·
        refine lv_aload_n hx hb d_16_40_47 rfl (lv_at hl 0 rfl) ?_
        refine q_get (ci := 17) (j := 14) (v := .int lx63) C0 V i_VR rfl rfl hO91 (by decide) w_2218 rfl d_16_40_48 ?_
        refine lv_istore_n (lv' := [(1, .int lx63), (0, .ref (q 157))]) hx hb d_16_40_51 rfl hl (by decide) rfl (fun ls hl => ?_)
        refine lv_aload_n hx hb d_16_40_52 rfl (lv_at hl 1 rfl) ?_
        refine lv_iconst (v := 1) hx hb d_16_40_53 (by decide) ?_
        refine q_put (ci := 17) (j := 25) (v := .int 1) (ty := .int) C0 V i_VR o_VR n_VR rfl rfl hO91 (by decide) w_2229 rfl rfl rfl rfl (Nat.le_of_ble_eq_true rfl) d_16_40_54 (fun H locs w305 hu306 hO91 V => ?_)
        replace hO91 : w305[157]? = (some (q 157, .inr (17, [.int t0_0, .ref (q 158), .int t0_1, .int t0_2, .ref (q 159), .ref (q 160), .ref (q 161), .ref (q 162), .ref (q 163), .int t0_3, .ref (q 164), .int lx80, .int lx62, .int t0_6, .int lx63, .int lx64, .int lx65, .int lx66, .int lx67, .int lx68, .int lx69, .int lx70, .int lx71, .int lx72, .ref (q 165), .int 1, .int lx74, .int lx75, .ref (q 166), .int lx76, .int lx77])) : Option (Nat × va_E)) := hO91
        replace hI := n_p157 hI hu306 hO91 (by first | with_reducible exact q_fe btt0_1 | exact ⟨(by have t1 : 0 ≤ t0_1.toInt ∧ t0_1.toInt ≤ 256 := btt0_1; omega), (by have t1 : 0 ≤ t0_1.toInt ∧ t0_1.toInt ≤ 256 := btt0_1; omega)⟩) (by first | with_reducible exact q_fe btt0_2 | exact ⟨(by have t1 : 0 ≤ t0_2.toInt ∧ t0_2.toInt ≤ 9 := btt0_2; omega), (by have t1 : 0 ≤ t0_2.toInt ∧ t0_2.toInt ≤ 9 := btt0_2; omega)⟩) (by first | with_reducible exact q_fe btt0_3 | exact ⟨(by have t1 : 0 ≤ t0_3.toInt ∧ t0_3.toInt ≤ 4096 := btt0_3; omega), (by have t1 : 0 ≤ t0_3.toInt ∧ t0_3.toInt ≤ 4096 := btt0_3; omega)⟩) ⟨(by first | with_reducible exact q_fe i84 | (have t1 : 0 ≤ lx66.toInt := i84; omega)), (by have t1 : 0 ≤ t0_10.toInt ∧ t0_10.toInt ≤ 1 := btt0_10; have t2 : lx66.toInt ≤ t0_10.toInt := i88; omega)⟩ ⟨(by first | with_reducible exact q_fe i85 | (have t1 : 0 ≤ lx75.toInt := i85; omega)), (by first | with_reducible exact q_fe i86 | (have t1 : lx75.toInt ≤ 1 := i86; omega))⟩
        replace hO92 := (hu306 _ (by decide)).trans hO92
        replace hO93 := (hu306 _ (by decide)).trans hO93
        replace hO94 := (hu306 _ (by decide)).trans hO94
        replace hO95 := (hu306 _ (by decide)).trans hO95
        replace hO96 := (hu306 _ (by decide)).trans hO96
        replace hO97 := (hu306 _ (by decide)).trans hO97
        replace hO98 := (hu306 _ (by decide)).trans hO98
        replace hO99 := (hu306 _ (by decide)).trans hO99
        replace hF := q_us hF hu306 (by simp)
        refine lv_aload_n hx hb d_16_40_57 rfl (lv_at hl 1 rfl) ?_
        refine q_get (ci := 17) (j := 24) (v := .ref (q 165)) C0 V i_VR rfl rfl hO91 (by decide) w_2228 rfl d_16_40_58 ?_
        refine lv_iconst (v := 0) hx hb d_16_40_61 (by decide) ?_
        refine lv_aload_n hx hb d_16_40_62 rfl (lv_at hl 1 rfl) ?_
        have ob307 : True ∧ S_VR_here t0_0 t0_1 t0_2 t0_3 lx80 lx62 t0_6 lx63 lx64 lx65 lx66 lx67 lx68 lx69 lx70 lx71 lx72 (1 : Int32) lx74 lx75 lx76 lx77 t1_0 := (by have h := hS101; rw [S_VR_run_L27.eq_2] at h; rw [if_neg c105] at h; replace h := q_s2 h; have c203x := c203; rw [e113] at c203x; rw [if_neg c203x] at h; with_reducible exact h.2.1)
        refine q_goi V (q_runV (As := []) (rest := [.int 0, .ref (q 165)]) (d := 1) (mc := 0) (ms := 0) (ci := 17) C0 V rfl LV_VR_60 (X_VR_here l D g q w305   hI t0_0 t0_1 t0_2 t0_3 lx80 lx62 t0_6 lx63 lx64 lx65 lx66 lx67 lx68 lx69 lx70 lx71 lx72 1 lx74 lx75 lx76 lx77 hO91 t1_0 hO92 ob307 _) rfl rfl hO91 rfl hl.1 rfl (Nat.le_of_ble_eq_true rfl) ⟨by decide, by decide⟩ ⟨Nat.le_of_ble_eq_true rfl, Nat.le_of_ble_eq_true rfl⟩ d_16_40_63) (fun a310 u308 H locs hp309 V => ?_)
        obtain ⟨rfl, hE311⟩ := hp309
        have e312 : a310 = (F_VR_here t0_0 t0_1 t0_2 t0_3 lx80 lx62 t0_6 lx63 lx64 lx65 lx66 lx67 lx68 lx69 lx70 lx71 lx72 (1 : Int32) lx74 lx75 lx76 lx77 t1_0) := hE311
        refine q_iast C0 V hO98 (q_ix (x := 0) (by decide) (by omega) (by have e9 : (((20200 : Int32).toNatClampNeg : Nat) : Int) = 20200 := (by decide); omega)) d_16_40_66 (fun H locs w313 hu314 hO98 V => ?_)
        replace hI := n_ai' hI (n_r165 g q).1 hu314 hO98 (q_updB (fun _ => s_bnd) s_bnd)
        replace hO91 := (hu314 _ (by decide)).trans hO91
        replace hO92 := (hu314 _ (by decide)).trans hO92
        replace hO93 := (hu314 _ (by decide)).trans hO93
        replace hO94 := (hu314 _ (by decide)).trans hO94
        replace hO95 := (hu314 _ (by decide)).trans hO95
        replace hO96 := (hu314 _ (by decide)).trans hO96
        replace hO97 := (hu314 _ (by decide)).trans hO97
        replace hO99 := (hu314 _ (by decide)).trans hO99
        replace hF := q_us hF hu314 (by simp)
        obtain ⟨f315, e316⟩ := q_nm (upd lx78 (0 : Int32).toNatClampNeg a310 : (Nat → Int32))
        rw [e316] at hO98
        refine lv_aload_n hx hb d_16_40_67 rfl (lv_at hl 1 rfl) ?_
        refine lv_dup hx hb d_16_40_68 rfl ?_
        refine q_get (ci := 17) (j := 14) (v := .int lx63) C0 V i_VR rfl rfl hO91 (by decide) w_2218 rfl d_16_40_69 ?_
        refine lv_iconst (v := 1) hx hb d_16_40_72 (by decide) ?_
        refine lv_iadd hx hb d_16_40_73 ?_
        obtain ⟨a317, e318⟩ := q_nm (lx63 + 1 : Int32)
        refine q_ti (v := a317) e318 ?_
        refine q_put (ci := 17) (j := 14) (v := .int a317) (ty := .int) C0 V i_VR o_VR n_VR rfl rfl hO91 (by decide) w_2218 rfl rfl rfl rfl (Nat.le_of_ble_eq_true rfl) d_16_40_74 (fun H locs w320 hu321 hO91 V => ?_)
        replace hO91 : w320[157]? = (some (q 157, .inr (17, [.int t0_0, .ref (q 158), .int t0_1, .int t0_2, .ref (q 159), .ref (q 160), .ref (q 161), .ref (q 162), .ref (q 163), .int t0_3, .ref (q 164), .int lx80, .int lx62, .int t0_6, .int a317, .int lx64, .int lx65, .int lx66, .int lx67, .int lx68, .int lx69, .int lx70, .int lx71, .int lx72, .ref (q 165), .int 1, .int lx74, .int lx75, .ref (q 166), .int lx76, .int lx77])) : Option (Nat × va_E)) := hO91
        replace hI := n_p157 hI hu321 hO91 (by first | with_reducible exact q_fe btt0_1 | exact ⟨(by have t1 : 0 ≤ t0_1.toInt ∧ t0_1.toInt ≤ 256 := btt0_1; omega), (by have t1 : 0 ≤ t0_1.toInt ∧ t0_1.toInt ≤ 256 := btt0_1; omega)⟩) (by first | with_reducible exact q_fe btt0_2 | exact ⟨(by have t1 : 0 ≤ t0_2.toInt ∧ t0_2.toInt ≤ 9 := btt0_2; omega), (by have t1 : 0 ≤ t0_2.toInt ∧ t0_2.toInt ≤ 9 := btt0_2; omega)⟩) (by first | with_reducible exact q_fe btt0_3 | exact ⟨(by have t1 : 0 ≤ t0_3.toInt ∧ t0_3.toInt ≤ 4096 := btt0_3; omega), (by have t1 : 0 ≤ t0_3.toInt ∧ t0_3.toInt ≤ 4096 := btt0_3; omega)⟩) ⟨(by first | with_reducible exact q_fe i84 | (have t1 : 0 ≤ lx66.toInt := i84; omega)), (by have t1 : 0 ≤ t0_10.toInt ∧ t0_10.toInt ≤ 1 := btt0_10; have t2 : lx66.toInt ≤ t0_10.toInt := i88; omega)⟩ ⟨(by first | with_reducible exact q_fe i85 | (have t1 : 0 ≤ lx75.toInt := i85; omega)), (by first | with_reducible exact q_fe i86 | (have t1 : lx75.toInt ≤ 1 := i86; omega))⟩
        replace hO92 := (hu321 _ (by decide)).trans hO92
        replace hO93 := (hu321 _ (by decide)).trans hO93
        replace hO94 := (hu321 _ (by decide)).trans hO94
        replace hO95 := (hu321 _ (by decide)).trans hO95
        replace hO96 := (hu321 _ (by decide)).trans hO96
        replace hO97 := (hu321 _ (by decide)).trans hO97
        replace hO98 := (hu321 _ (by decide)).trans hO98
        replace hO99 := (hu321 _ (by decide)).trans hO99
        replace hF := q_us hF hu321 (by simp)
        refine lv_goto (tgt := 120) hx hb d_16_40_77 (by decide) ?_
        exact J141 ((lx62 : Int32), (a317 : Int32), (lx64 : Int32), (lx65 : Int32), (lx66 : Int32), (lx67 : Int32), (lx68 : Int32), (lx69 : Int32), (lx70 : Int32), (lx71 : Int32), (lx72 : Int32), (1 : Int32), (lx74 : Int32), (lx75 : Int32), (lx76 : Int32), (lx77 : Int32), (f315 : (Nat → Int32)), (lx79 : (Nat → Int32))) _ _ _ _ ⟨(show q_F (0 ≤ lx66.toInt) from (show 0 ≤ lx66.toInt from by have t1 : 0 ≤ lx66.toInt := i84; omega)), (show q_F (0 ≤ lx75.toInt) from (show 0 ≤ lx75.toInt from by have t1 : 0 ≤ lx75.toInt := i85; omega)), (show q_F (lx75.toInt ≤ 1) from (show lx75.toInt ≤ 1 from by have t1 : lx75.toInt ≤ 1 := i86; omega)), (show q_F (lx62.toInt ≤ lx62.toInt) from (show lx62.toInt ≤ lx62.toInt from by omega)), (show q_F (lx62.toInt ≤ lx62.toInt) from (show lx62.toInt ≤ lx62.toInt from by omega)), (show q_F (lx66.toInt ≤ lx66.toInt) from (show lx66.toInt ≤ lx66.toInt from by omega)), V, q_lw hl (q_lw1 0 rfl (q_lw1 1 rfl q_lw0)), hI, hF, hO91, hO92, hO93, hO94, hO95, hO96, hO97, hO98, hO99, (show F_VR_run_J120 (F_VR_run_L27 t0_0 t0_1 t0_2 t0_3 t0_4 t0_5 t0_6 t0_7 t0_8 t0_9 t0_10 t0_11 t0_12 t0_13 t0_14 t0_15 t0_16 t0_17 t0_18 t0_19 t0_20 t0_21 t1_0 t2_0 t3_0 t4_0 t5_0 t6_0 t7_0 t8_0 fm104) t0_0 t0_1 t0_2 t0_3 t0_4 t0_5 t0_6 t0_7 t0_8 t0_9 t0_10 t0_11 t0_12 t0_13 t0_14 t0_15 t0_16 t0_17 t0_18 t0_19 t0_20 t0_21 t1_0 t2_0 t3_0 t4_0 t5_0 t6_0 t7_0 t8_0 lx62 lx63 lx64 lx65 lx66 lx67 lx68 lx69 lx70 lx71 lx72 lx73 lx74 lx75 lx76 lx77 lx78 lx79 lx80 lx81 lx62 a317 lx64 lx65 lx66 lx67 lx68 lx69 lx70 lx71 lx72 1 lx74 lx75 lx76 lx77 f315 lx79 = (F_VR_run t0_0 t0_1 t0_2 t0_3 t0_4 t0_5 t0_6 t0_7 t0_8 t0_9 t0_10 t0_11 t0_12 t0_13 t0_14 t0_15 t0_16 t0_17 t0_18 t0_19 t0_20 t0_21 t1_0 t2_0 t3_0 t4_0 t5_0 t6_0 t7_0 t8_0) from Eq.trans (by have c203x := c203; rw [e113] at c203x; rw [← e318, ← e316, e312, F_VR_run_L27.eq_2, if_neg c105, if_neg c203x]) hR100), (show True ∧ S_VR_run_J120 (S_VR_run_L27 t0_0 t0_1 t0_2 t0_3 t0_4 t0_5 t0_6 t0_7 t0_8 t0_9 t0_10 t0_11 t0_12 t0_13 t0_14 t0_15 t0_16 t0_17 t0_18 t0_19 t0_20 t0_21 t1_0 t2_0 t3_0 t4_0 t5_0 t6_0 t7_0 t8_0 fm104) t0_0 t0_1 t0_2 t0_3 t0_4 t0_5 t0_6 t0_7 t0_8 t0_9 t0_10 t0_11 t0_12 t0_13 t0_14 t0_15 t0_16 t0_17 t0_18 t0_19 t0_20 t0_21 t1_0 t2_0 t3_0 t4_0 t5_0 t6_0 t7_0 t8_0 lx62 lx63 lx64 lx65 lx66 lx67 lx68 lx69 lx70 lx71 lx72 lx73 lx74 lx75 lx76 lx77 lx78 lx79 lx80 lx81 lx62 a317 lx64 lx65 lx66 lx67 lx68 lx69 lx70 lx71 lx72 1 lx74 lx75 lx76 lx77 f315 lx79 from (by rw [← e318, ← e316, e312]; have h := hS101; rw [S_VR_run_L27.eq_2] at h; rw [if_neg c105] at h; replace h := q_s2 h; have c203x := c203; rw [e113] at c203x; rw [if_neg c203x] at h; replace h := q_s2 h; with_reducible exact h))⟩

theorem d_16_41_0 : decode prog_16_method_41_code 0 = .ok (.aload_n 0, 1) := by decide +kernel
theorem d_16_41_1 : decode prog_16_method_41_code 1 = .ok (.iconst 0, 1) := by decide +kernel
theorem d_16_41_2 : decode prog_16_method_41_code 2 = .ok (.putfield 42, 3) := by decide +kernel
theorem d_16_41_5 : decode prog_16_method_41_code 5 = .ok (.aload_n 0, 1) := by decide +kernel
theorem d_16_41_6 : decode prog_16_method_41_code 6 = .ok (.aload_n 0, 1) := by decide +kernel
theorem d_16_41_7 : decode prog_16_method_41_code 7 = .ok (.invokevirtual 210, 3) := by decide +kernel
set_option maxRecDepth 100000 in
theorem w_3119 : (Cond.code ({ cls := "NumberHouseModel$DirectiveRows", name := "run", desc := "()I" } : MethodName) prog_16_method_40_code (3 : Nat) (some .int)) ∈ q_tbl := q_of13 239 rfl (by decide +kernel)
set_option maxRecDepth 100000 in
theorem w_3116 : (Cond.methodLink "NumberHouseModel$DirectiveRows" (210 : Nat) ({ cls := "NumberHouseModel$DirectiveRows", name := "run", desc := "()I" } : MethodName)) ∈ q_tbl := q_of13 236 rfl (by decide +kernel)
set_option maxRecDepth 100000 in
theorem w_3118 : (Cond.instanceMethod ({ cls := "NumberHouseModel$DirectiveRows", name := "run", desc := "()I" } : MethodName)) ∈ q_tbl := q_of13 238 rfl (by decide +kernel)
theorem ws_151 : Cond.selects "NumberHouseModel$DirectiveRows" (⟨"NumberHouseModel$DirectiveRows", "run", "()I"⟩ : MethodName) (⟨"NumberHouseModel$DirectiveRows", "run", "()I"⟩ : MethodName) ∈ q_tbl := q_ofs 151 (by decide +kernel) (by decide +kernel)
theorem LV_VR_210 : q_LV "NumberHouseModel$DirectiveRows" 210 y_VR_run prog_16_method_40_code 3 (some .int) 0 := ⟨w_3119, w_19, w_3116, w_3118, ws_151, ⟨by decide, by decide, by decide +kernel⟩⟩
theorem d_16_41_10 : decode prog_16_method_41_code 10 = .ok (.putfield 32, 3) := by decide +kernel
theorem d_16_41_13 : decode prog_16_method_41_code 13 = .ok (.aload_n 0, 1) := by decide +kernel
theorem d_16_41_14 : decode prog_16_method_41_code 14 = .ok (.aload_n 0, 1) := by decide +kernel
theorem d_16_41_15 : decode prog_16_method_41_code 15 = .ok (.getfield 198, 3) := by decide +kernel
theorem d_16_41_29 : decode prog_16_method_41_code 29 = .ok (.putfield 213, 3) := by decide +kernel
set_option maxRecDepth 100000 in
theorem w_2211 : (Cond.fieldLink "NumberHouseModel$DirectiveRows" (213 : Nat) "NumberHouseModel$DirectiveRows" "printed" "I") ∈ q_tbl := q_of10 51 rfl (by decide +kernel)
theorem d_16_41_32 : decode prog_16_method_41_code 32 = .ok (.aload_n 0, 1) := by decide +kernel
theorem d_16_41_33 : decode prog_16_method_41_code 33 = .ok (.getfield 198, 3) := by decide +kernel
theorem d_16_41_36 : decode prog_16_method_41_code 36 = .ok (.ifCond .le 5, 3) := by decide +kernel
theorem d_16_41_41 : decode prog_16_method_41_code 41 = .ok (.iconst 0, 1) := by decide +kernel
theorem d_16_41_42 : decode prog_16_method_41_code 42 = .ok (.istore_n 1, 1) := by decide +kernel
theorem d_16_41_43 : decode prog_16_method_41_code 43 = .ok (.iload_n 1, 1) := by decide +kernel
theorem d_16_41_44 : decode prog_16_method_41_code 44 = .ok (.aload_n 0, 1) := by decide +kernel
theorem d_16_41_45 : decode prog_16_method_41_code 45 = .ok (.getfield 195, 3) := by decide +kernel
theorem d_16_41_48 : decode prog_16_method_41_code 48 = .ok (.if_icmp .ge 21, 3) := by decide +kernel
theorem d_16_41_69 : decode prog_16_method_41_code 69 = .ok (.aload_n 0, 1) := by decide +kernel
theorem d_16_41_70 : decode prog_16_method_41_code 70 = .ok (.getfield 213, 3) := by decide +kernel
theorem d_16_41_73 : decode prog_16_method_41_code 73 = .ok (.ireturn, 1) := by decide +kernel
theorem d_16_41_51 : decode prog_16_method_41_code 51 = .ok (.aload_n 0, 1) := by decide +kernel
theorem d_16_41_52 : decode prog_16_method_41_code 52 = .ok (.getfield 26, 3) := by decide +kernel
theorem d_16_41_55 : decode prog_16_method_41_code 55 = .ok (.iload_n 1, 1) := by decide +kernel
theorem d_16_41_56 : decode prog_16_method_41_code 56 = .ok (.aload_n 0, 1) := by decide +kernel
theorem d_16_41_57 : decode prog_16_method_41_code 57 = .ok (.getfield 29, 3) := by decide +kernel
theorem d_16_41_60 : decode prog_16_method_41_code 60 = .ok (.iload_n 1, 1) := by decide +kernel
theorem d_16_41_61 : decode prog_16_method_41_code 61 = .ok (.iaload, 1) := by decide +kernel
theorem d_16_41_62 : decode prog_16_method_41_code 62 = .ok (.iastore, 1) := by decide +kernel
theorem d_16_41_63 : decode prog_16_method_41_code 63 = .ok (.iinc 1 1, 3) := by decide +kernel
theorem d_16_41_66 : decode prog_16_method_41_code 66 = .ok (.goto (-23), 3) := by decide +kernel
theorem d_16_41_39 : decode prog_16_method_41_code 39 = .ok (.iconst (-1), 1) := by decide +kernel
theorem d_16_41_40 : decode prog_16_method_41_code 40 = .ok (.ireturn, 1) := by decide +kernel
theorem d_16_41_18 : decode prog_16_method_41_code 18 = .ok (.ifCond .le 7, 3) := by decide +kernel
theorem d_16_41_25 : decode prog_16_method_41_code 25 = .ok (.aload_n 0, 1) := by decide +kernel
theorem d_16_41_26 : decode prog_16_method_41_code 26 = .ok (.getfield 195, 3) := by decide +kernel
theorem d_16_41_21 : decode prog_16_method_41_code 21 = .ok (.iconst 0, 1) := by decide +kernel
theorem d_16_41_22 : decode prog_16_method_41_code 22 = .ok (.goto 7, 3) := by decide +kernel
def y_VR_print : MethodName := ⟨"NumberHouseModel$DirectiveRows", "print", "()I"⟩
def F_VR_print_L43 (t0_0 : Int32) (t0_1 : Int32) (t0_2 : Int32) (t0_3 : Int32) (t0_4 : Int32) (t0_5 : Int32) (t0_6 : Int32) (t0_7 : Int32) (t0_8 : Int32) (t0_9 : Int32) (t0_10 : Int32) (t0_11 : Int32) (t0_12 : Int32) (t0_13 : Int32) (t0_14 : Int32) (t0_15 : Int32) (t0_16 : Int32) (t0_17 : Int32) (t0_18 : Int32) (t0_19 : Int32) (t0_20 : Int32) (t0_21 : Int32) (t1_0 : (Nat → Int32)) (t2_0 : (Nat → Int32)) (t3_0 : (Nat → Int32)) (t4_0 : (Nat → Int64)) (t5_0 : (Nat → Int32)) (t6_0 : (Nat → Int32)) (t7_0 : (Nat → Int32)) (t8_0 : (Nat → Int32)) (t9_0 : (Nat → Int32)) (p96 : (Int32 × Int32 × Int32 × Int32 × Int32 × Int32 × Int32 × Int32 × Int32 × Int32 × Int32 × Int32 × Int32 × Int32 × Int32 × Int32 × Int32 × Int32 × (Nat → Int32) × (Nat → Int32) × (Nat → Int32))) (y62 : Int32) (y63 : Int32) (a60 : Int32) (y64 : Int32) (y65 : Int32) (y66 : Int32) (y67 : Int32) (y68 : Int32) (y69 : Int32) (y70 : Int32) (y71 : Int32) (y72 : Int32) (y73 : Int32) (y74 : Int32) (y75 : Int32) (y76 : Int32) (y77 : Int32) (y78 : Int32) (f79 : (Nat → Int32)) (f81 : (Nat → Int32)) (f83 : (Nat → Int32)) (lx126 : Int32) : Nat → Int32 → (Nat → Int32) → (Int32 × Int32 × Int32 × Int32 × Int32 × Int32 × Int32 × Int32 × Int32 × Int32 × Int32 × Int32 × Int32 × Int32 × Int32 × Int32 × Int32 × Int32 × Int32 × Int32 × Int32 × (Nat → Int32) × (Nat → Int32) × (Nat → Int32) × (Nat → Int32))
  | 0, _, _ => default
  | fm + 1, lx151, lx152 => if y62 ≤ lx151 then ((lx126, (0 : Int32), lx126, y62, y63, a60, y64, y65, y66, y67, y68, y69, y70, y71, y72, y73, y74, y75, y76, y77, y78, lx152, f79, f81, f83)) else (F_VR_print_L43 t0_0 t0_1 t0_2 t0_3 t0_4 t0_5 t0_6 t0_7 t0_8 t0_9 t0_10 t0_11 t0_12 t0_13 t0_14 t0_15 t0_16 t0_17 t0_18 t0_19 t0_20 t0_21 t1_0 t2_0 t3_0 t4_0 t5_0 t6_0 t7_0 t8_0 t9_0 p96 y62 y63 a60 y64 y65 y66 y67 y68 y69 y70 y71 y72 y73 y74 y75 y76 y77 y78 f79 f81 f83 lx126 fm (lx151 + 1 : Int32) (upd lx152 lx151.toNatClampNeg (f79 lx151.toNatClampNeg : Int32) : (Nat → Int32)))
def F_VR_print_J29 (t0_0 : Int32) (t0_1 : Int32) (t0_2 : Int32) (t0_3 : Int32) (t0_4 : Int32) (t0_5 : Int32) (t0_6 : Int32) (t0_7 : Int32) (t0_8 : Int32) (t0_9 : Int32) (t0_10 : Int32) (t0_11 : Int32) (t0_12 : Int32) (t0_13 : Int32) (t0_14 : Int32) (t0_15 : Int32) (t0_16 : Int32) (t0_17 : Int32) (t0_18 : Int32) (t0_19 : Int32) (t0_20 : Int32) (t0_21 : Int32) (t1_0 : (Nat → Int32)) (t2_0 : (Nat → Int32)) (t3_0 : (Nat → Int32)) (t4_0 : (Nat → Int64)) (t5_0 : (Nat → Int32)) (t6_0 : (Nat → Int32)) (t7_0 : (Nat → Int32)) (t8_0 : (Nat → Int32)) (t9_0 : (Nat → Int32)) (p96 : (Int32 × Int32 × Int32 × Int32 × Int32 × Int32 × Int32 × Int32 × Int32 × Int32 × Int32 × Int32 × Int32 × Int32 × Int32 × Int32 × Int32 × Int32 × (Nat → Int32) × (Nat → Int32) × (Nat → Int32))) (y62 : Int32) (y63 : Int32) (a60 : Int32) (y64 : Int32) (y65 : Int32) (y66 : Int32) (y67 : Int32) (y68 : Int32) (y69 : Int32) (y70 : Int32) (y71 : Int32) (y72 : Int32) (y73 : Int32) (y74 : Int32) (y75 : Int32) (y76 : Int32) (y77 : Int32) (y78 : Int32) (f79 : (Nat → Int32)) (f81 : (Nat → Int32)) (f83 : (Nat → Int32)) (lx126 : Int32) : Int32 × Int32 × Int32 × Int32 × Int32 × Int32 × Int32 × Int32 × Int32 × Int32 × Int32 × Int32 × Int32 × Int32 × Int32 × Int32 × Int32 × Int32 × Int32 × Int32 × Int32 × (Nat → Int32) × (Nat → Int32) × (Nat → Int32) × (Nat → Int32) := if y63 ≤ (0 : Int32) then (F_VR_print_L43 t0_0 t0_1 t0_2 t0_3 t0_4 t0_5 t0_6 t0_7 t0_8 t0_9 t0_10 t0_11 t0_12 t0_13 t0_14 t0_15 t0_16 t0_17 t0_18 t0_19 t0_20 t0_21 t1_0 t2_0 t3_0 t4_0 t5_0 t6_0 t7_0 t8_0 t9_0 p96 y62 y63 a60 y64 y65 y66 y67 y68 y69 y70 y71 y72 y73 y74 y75 y76 y77 y78 f79 f81 f83 lx126 ((4096 - (0 : Int32).toInt).toNat + 1) 0 t6_0) else (((-1 : Int32), (0 : Int32), lx126, y62, y63, a60, y64, y65, y66, y67, y68, y69, y70, y71, y72, y73, y74, y75, y76, y77, y78, t6_0, f79, f81, f83))
def F_VR_print_c7 (t0_0 : Int32) (t0_1 : Int32) (t0_2 : Int32) (t0_3 : Int32) (t0_4 : Int32) (t0_5 : Int32) (t0_6 : Int32) (t0_7 : Int32) (t0_8 : Int32) (t0_9 : Int32) (t0_10 : Int32) (t0_11 : Int32) (t0_12 : Int32) (t0_13 : Int32) (t0_14 : Int32) (t0_15 : Int32) (t0_16 : Int32) (t0_17 : Int32) (t0_18 : Int32) (t0_19 : Int32) (t0_20 : Int32) (t0_21 : Int32) (t1_0 : (Nat → Int32)) (t2_0 : (Nat → Int32)) (t3_0 : (Nat → Int32)) (t4_0 : (Nat → Int64)) (t5_0 : (Nat → Int32)) (t6_0 : (Nat → Int32)) (t7_0 : (Nat → Int32)) (t8_0 : (Nat → Int32)) (t9_0 : (Nat → Int32)) (p96 : (Int32 × Int32 × Int32 × Int32 × Int32 × Int32 × Int32 × Int32 × Int32 × Int32 × Int32 × Int32 × Int32 × Int32 × Int32 × Int32 × Int32 × Int32 × (Nat → Int32) × (Nat → Int32) × (Nat → Int32))) : Int32 × Int32 × Int32 × Int32 × Int32 × Int32 × Int32 × Int32 × Int32 × Int32 × Int32 × Int32 × Int32 × Int32 × Int32 × Int32 × Int32 × Int32 × Int32 × Int32 × Int32 × (Nat → Int32) × (Nat → Int32) × (Nat → Int32) × (Nat → Int32) := if (p96.2.2.1 : Int32) ≤ (0 : Int32) then (F_VR_print_J29 t0_0 t0_1 t0_2 t0_3 t0_4 t0_5 t0_6 t0_7 t0_8 t0_9 t0_10 t0_11 t0_12 t0_13 t0_14 t0_15 t0_16 t0_17 t0_18 t0_19 t0_20 t0_21 t1_0 t2_0 t3_0 t4_0 t5_0 t6_0 t7_0 t8_0 t9_0 p96 (p96.2.1 : Int32) (p96.2.2.1 : Int32) (p96.1 : Int32) (p96.2.2.2.1 : Int32) (p96.2.2.2.2.1 : Int32) (p96.2.2.2.2.2.1 : Int32) (p96.2.2.2.2.2.2.1 : Int32) (p96.2.2.2.2.2.2.2.1 : Int32) (p96.2.2.2.2.2.2.2.2.1 : Int32) (p96.2.2.2.2.2.2.2.2.2.1 : Int32) (p96.2.2.2.2.2.2.2.2.2.2.1 : Int32) (p96.2.2.2.2.2.2.2.2.2.2.2.1 : Int32) (p96.2.2.2.2.2.2.2.2.2.2.2.2.1 : Int32) (p96.2.2.2.2.2.2.2.2.2.2.2.2.2.1 : Int32) (p96.2.2.2.2.2.2.2.2.2.2.2.2.2.2.1 : Int32) (p96.2.2.2.2.2.2.2.2.2.2.2.2.2.2.2.1 : Int32) (p96.2.2.2.2.2.2.2.2.2.2.2.2.2.2.2.2.1 : Int32) (p96.2.2.2.2.2.2.2.2.2.2.2.2.2.2.2.2.2.1 : Int32) (p96.2.2.2.2.2.2.2.2.2.2.2.2.2.2.2.2.2.2.1 : (Nat → Int32)) (p96.2.2.2.2.2.2.2.2.2.2.2.2.2.2.2.2.2.2.2.1 : (Nat → Int32)) (p96.2.2.2.2.2.2.2.2.2.2.2.2.2.2.2.2.2.2.2.2 : (Nat → Int32)) (p96.2.1 : Int32)) else (F_VR_print_J29 t0_0 t0_1 t0_2 t0_3 t0_4 t0_5 t0_6 t0_7 t0_8 t0_9 t0_10 t0_11 t0_12 t0_13 t0_14 t0_15 t0_16 t0_17 t0_18 t0_19 t0_20 t0_21 t1_0 t2_0 t3_0 t4_0 t5_0 t6_0 t7_0 t8_0 t9_0 p96 (p96.2.1 : Int32) (p96.2.2.1 : Int32) (p96.1 : Int32) (p96.2.2.2.1 : Int32) (p96.2.2.2.2.1 : Int32) (p96.2.2.2.2.2.1 : Int32) (p96.2.2.2.2.2.2.1 : Int32) (p96.2.2.2.2.2.2.2.1 : Int32) (p96.2.2.2.2.2.2.2.2.1 : Int32) (p96.2.2.2.2.2.2.2.2.2.1 : Int32) (p96.2.2.2.2.2.2.2.2.2.2.1 : Int32) (p96.2.2.2.2.2.2.2.2.2.2.2.1 : Int32) (p96.2.2.2.2.2.2.2.2.2.2.2.2.1 : Int32) (p96.2.2.2.2.2.2.2.2.2.2.2.2.2.1 : Int32) (p96.2.2.2.2.2.2.2.2.2.2.2.2.2.2.1 : Int32) (p96.2.2.2.2.2.2.2.2.2.2.2.2.2.2.2.1 : Int32) (p96.2.2.2.2.2.2.2.2.2.2.2.2.2.2.2.2.1 : Int32) (p96.2.2.2.2.2.2.2.2.2.2.2.2.2.2.2.2.2.1 : Int32) (p96.2.2.2.2.2.2.2.2.2.2.2.2.2.2.2.2.2.2.1 : (Nat → Int32)) (p96.2.2.2.2.2.2.2.2.2.2.2.2.2.2.2.2.2.2.2.1 : (Nat → Int32)) (p96.2.2.2.2.2.2.2.2.2.2.2.2.2.2.2.2.2.2.2.2 : (Nat → Int32)) 0)
def F_VR_print (t0_0 : Int32) (t0_1 : Int32) (t0_2 : Int32) (t0_3 : Int32) (t0_4 : Int32) (t0_5 : Int32) (t0_6 : Int32) (t0_7 : Int32) (t0_8 : Int32) (t0_9 : Int32) (t0_10 : Int32) (t0_11 : Int32) (t0_12 : Int32) (t0_13 : Int32) (t0_14 : Int32) (t0_15 : Int32) (t0_16 : Int32) (t0_17 : Int32) (t0_18 : Int32) (t0_19 : Int32) (t0_20 : Int32) (t0_21 : Int32) (t1_0 : (Nat → Int32)) (t2_0 : (Nat → Int32)) (t3_0 : (Nat → Int32)) (t4_0 : (Nat → Int64)) (t5_0 : (Nat → Int32)) (t6_0 : (Nat → Int32)) (t7_0 : (Nat → Int32)) (t8_0 : (Nat → Int32)) (t9_0 : (Nat → Int32)) : Int32 × Int32 × Int32 × Int32 × Int32 × Int32 × Int32 × Int32 × Int32 × Int32 × Int32 × Int32 × Int32 × Int32 × Int32 × Int32 × Int32 × Int32 × Int32 × Int32 × Int32 × (Nat → Int32) × (Nat → Int32) × (Nat → Int32) × (Nat → Int32) := F_VR_print_c7 t0_0 t0_1 t0_2 t0_3 t0_4 t0_5 t0_6 t0_7 t0_8 t0_9 t0_10 t0_11 t0_12 t0_13 t0_14 t0_15 t0_16 t0_17 t0_18 t0_19 t0_20 t0_21 t1_0 t2_0 t3_0 t4_0 t5_0 t6_0 t7_0 t8_0 t9_0 ((F_VR_run (0 : Int32) t0_1 t0_2 t0_3 t0_4 t0_5 t0_6 t0_7 t0_8 t0_9 t0_10 t0_11 t0_12 t0_13 t0_14 t0_15 t0_16 t0_17 t0_18 t0_19 t0_20 t0_21 t1_0 t2_0 t3_0 t4_0 t5_0 t7_0 t8_0 t9_0) : (Int32 × Int32 × Int32 × Int32 × Int32 × Int32 × Int32 × Int32 × Int32 × Int32 × Int32 × Int32 × Int32 × Int32 × Int32 × Int32 × Int32 × Int32 × (Nat → Int32) × (Nat → Int32) × (Nat → Int32)))
def S_VR_print_L43 (t0_0 : Int32) (t0_1 : Int32) (t0_2 : Int32) (t0_3 : Int32) (t0_4 : Int32) (t0_5 : Int32) (t0_6 : Int32) (t0_7 : Int32) (t0_8 : Int32) (t0_9 : Int32) (t0_10 : Int32) (t0_11 : Int32) (t0_12 : Int32) (t0_13 : Int32) (t0_14 : Int32) (t0_15 : Int32) (t0_16 : Int32) (t0_17 : Int32) (t0_18 : Int32) (t0_19 : Int32) (t0_20 : Int32) (t0_21 : Int32) (t1_0 : (Nat → Int32)) (t2_0 : (Nat → Int32)) (t3_0 : (Nat → Int32)) (t4_0 : (Nat → Int64)) (t5_0 : (Nat → Int32)) (t6_0 : (Nat → Int32)) (t7_0 : (Nat → Int32)) (t8_0 : (Nat → Int32)) (t9_0 : (Nat → Int32)) (p96 : (Int32 × Int32 × Int32 × Int32 × Int32 × Int32 × Int32 × Int32 × Int32 × Int32 × Int32 × Int32 × Int32 × Int32 × Int32 × Int32 × Int32 × Int32 × (Nat → Int32) × (Nat → Int32) × (Nat → Int32))) (y62 : Int32) (y63 : Int32) (a60 : Int32) (y64 : Int32) (y65 : Int32) (y66 : Int32) (y67 : Int32) (y68 : Int32) (y69 : Int32) (y70 : Int32) (y71 : Int32) (y72 : Int32) (y73 : Int32) (y74 : Int32) (y75 : Int32) (y76 : Int32) (y77 : Int32) (y78 : Int32) (f79 : (Nat → Int32)) (f81 : (Nat → Int32)) (f83 : (Nat → Int32)) (lx126 : Int32) : Nat → Int32 → (Nat → Int32) → Prop
  | 0, _, _ => False
  | fm + 1, lx151, lx152 => if y62 ≤ lx151 then (True) else ((lx151.toInt ≤ 4095) ∧ (S_VR_print_L43 t0_0 t0_1 t0_2 t0_3 t0_4 t0_5 t0_6 t0_7 t0_8 t0_9 t0_10 t0_11 t0_12 t0_13 t0_14 t0_15 t0_16 t0_17 t0_18 t0_19 t0_20 t0_21 t1_0 t2_0 t3_0 t4_0 t5_0 t6_0 t7_0 t8_0 t9_0 p96 y62 y63 a60 y64 y65 y66 y67 y68 y69 y70 y71 y72 y73 y74 y75 y76 y77 y78 f79 f81 f83 lx126 fm (lx151 + 1 : Int32) (upd lx152 lx151.toNatClampNeg (f79 lx151.toNatClampNeg : Int32) : (Nat → Int32))))
def S_VR_print_J29 (t0_0 : Int32) (t0_1 : Int32) (t0_2 : Int32) (t0_3 : Int32) (t0_4 : Int32) (t0_5 : Int32) (t0_6 : Int32) (t0_7 : Int32) (t0_8 : Int32) (t0_9 : Int32) (t0_10 : Int32) (t0_11 : Int32) (t0_12 : Int32) (t0_13 : Int32) (t0_14 : Int32) (t0_15 : Int32) (t0_16 : Int32) (t0_17 : Int32) (t0_18 : Int32) (t0_19 : Int32) (t0_20 : Int32) (t0_21 : Int32) (t1_0 : (Nat → Int32)) (t2_0 : (Nat → Int32)) (t3_0 : (Nat → Int32)) (t4_0 : (Nat → Int64)) (t5_0 : (Nat → Int32)) (t6_0 : (Nat → Int32)) (t7_0 : (Nat → Int32)) (t8_0 : (Nat → Int32)) (t9_0 : (Nat → Int32)) (p96 : (Int32 × Int32 × Int32 × Int32 × Int32 × Int32 × Int32 × Int32 × Int32 × Int32 × Int32 × Int32 × Int32 × Int32 × Int32 × Int32 × Int32 × Int32 × (Nat → Int32) × (Nat → Int32) × (Nat → Int32))) (y62 : Int32) (y63 : Int32) (a60 : Int32) (y64 : Int32) (y65 : Int32) (y66 : Int32) (y67 : Int32) (y68 : Int32) (y69 : Int32) (y70 : Int32) (y71 : Int32) (y72 : Int32) (y73 : Int32) (y74 : Int32) (y75 : Int32) (y76 : Int32) (y77 : Int32) (y78 : Int32) (f79 : (Nat → Int32)) (f81 : (Nat → Int32)) (f83 : (Nat → Int32)) (lx126 : Int32) : Prop := (lx126.toInt ≤ 4096) ∧ (if y63 ≤ (0 : Int32) then (S_VR_print_L43 t0_0 t0_1 t0_2 t0_3 t0_4 t0_5 t0_6 t0_7 t0_8 t0_9 t0_10 t0_11 t0_12 t0_13 t0_14 t0_15 t0_16 t0_17 t0_18 t0_19 t0_20 t0_21 t1_0 t2_0 t3_0 t4_0 t5_0 t6_0 t7_0 t8_0 t9_0 p96 y62 y63 a60 y64 y65 y66 y67 y68 y69 y70 y71 y72 y73 y74 y75 y76 y77 y78 f79 f81 f83 lx126 ((4096 - (0 : Int32).toInt).toNat + 1) 0 t6_0) else (True))
def S_VR_print_c7 (t0_0 : Int32) (t0_1 : Int32) (t0_2 : Int32) (t0_3 : Int32) (t0_4 : Int32) (t0_5 : Int32) (t0_6 : Int32) (t0_7 : Int32) (t0_8 : Int32) (t0_9 : Int32) (t0_10 : Int32) (t0_11 : Int32) (t0_12 : Int32) (t0_13 : Int32) (t0_14 : Int32) (t0_15 : Int32) (t0_16 : Int32) (t0_17 : Int32) (t0_18 : Int32) (t0_19 : Int32) (t0_20 : Int32) (t0_21 : Int32) (t1_0 : (Nat → Int32)) (t2_0 : (Nat → Int32)) (t3_0 : (Nat → Int32)) (t4_0 : (Nat → Int64)) (t5_0 : (Nat → Int32)) (t6_0 : (Nat → Int32)) (t7_0 : (Nat → Int32)) (t8_0 : (Nat → Int32)) (t9_0 : (Nat → Int32)) (p96 : (Int32 × Int32 × Int32 × Int32 × Int32 × Int32 × Int32 × Int32 × Int32 × Int32 × Int32 × Int32 × Int32 × Int32 × Int32 × Int32 × Int32 × Int32 × (Nat → Int32) × (Nat → Int32) × (Nat → Int32))) : Prop := if (p96.2.2.1 : Int32) ≤ (0 : Int32) then (S_VR_print_J29 t0_0 t0_1 t0_2 t0_3 t0_4 t0_5 t0_6 t0_7 t0_8 t0_9 t0_10 t0_11 t0_12 t0_13 t0_14 t0_15 t0_16 t0_17 t0_18 t0_19 t0_20 t0_21 t1_0 t2_0 t3_0 t4_0 t5_0 t6_0 t7_0 t8_0 t9_0 p96 (p96.2.1 : Int32) (p96.2.2.1 : Int32) (p96.1 : Int32) (p96.2.2.2.1 : Int32) (p96.2.2.2.2.1 : Int32) (p96.2.2.2.2.2.1 : Int32) (p96.2.2.2.2.2.2.1 : Int32) (p96.2.2.2.2.2.2.2.1 : Int32) (p96.2.2.2.2.2.2.2.2.1 : Int32) (p96.2.2.2.2.2.2.2.2.2.1 : Int32) (p96.2.2.2.2.2.2.2.2.2.2.1 : Int32) (p96.2.2.2.2.2.2.2.2.2.2.2.1 : Int32) (p96.2.2.2.2.2.2.2.2.2.2.2.2.1 : Int32) (p96.2.2.2.2.2.2.2.2.2.2.2.2.2.1 : Int32) (p96.2.2.2.2.2.2.2.2.2.2.2.2.2.2.1 : Int32) (p96.2.2.2.2.2.2.2.2.2.2.2.2.2.2.2.1 : Int32) (p96.2.2.2.2.2.2.2.2.2.2.2.2.2.2.2.2.1 : Int32) (p96.2.2.2.2.2.2.2.2.2.2.2.2.2.2.2.2.2.1 : Int32) (p96.2.2.2.2.2.2.2.2.2.2.2.2.2.2.2.2.2.2.1 : (Nat → Int32)) (p96.2.2.2.2.2.2.2.2.2.2.2.2.2.2.2.2.2.2.2.1 : (Nat → Int32)) (p96.2.2.2.2.2.2.2.2.2.2.2.2.2.2.2.2.2.2.2.2 : (Nat → Int32)) (p96.2.1 : Int32)) else (S_VR_print_J29 t0_0 t0_1 t0_2 t0_3 t0_4 t0_5 t0_6 t0_7 t0_8 t0_9 t0_10 t0_11 t0_12 t0_13 t0_14 t0_15 t0_16 t0_17 t0_18 t0_19 t0_20 t0_21 t1_0 t2_0 t3_0 t4_0 t5_0 t6_0 t7_0 t8_0 t9_0 p96 (p96.2.1 : Int32) (p96.2.2.1 : Int32) (p96.1 : Int32) (p96.2.2.2.1 : Int32) (p96.2.2.2.2.1 : Int32) (p96.2.2.2.2.2.1 : Int32) (p96.2.2.2.2.2.2.1 : Int32) (p96.2.2.2.2.2.2.2.1 : Int32) (p96.2.2.2.2.2.2.2.2.1 : Int32) (p96.2.2.2.2.2.2.2.2.2.1 : Int32) (p96.2.2.2.2.2.2.2.2.2.2.1 : Int32) (p96.2.2.2.2.2.2.2.2.2.2.2.1 : Int32) (p96.2.2.2.2.2.2.2.2.2.2.2.2.1 : Int32) (p96.2.2.2.2.2.2.2.2.2.2.2.2.2.1 : Int32) (p96.2.2.2.2.2.2.2.2.2.2.2.2.2.2.1 : Int32) (p96.2.2.2.2.2.2.2.2.2.2.2.2.2.2.2.1 : Int32) (p96.2.2.2.2.2.2.2.2.2.2.2.2.2.2.2.2.1 : Int32) (p96.2.2.2.2.2.2.2.2.2.2.2.2.2.2.2.2.2.1 : Int32) (p96.2.2.2.2.2.2.2.2.2.2.2.2.2.2.2.2.2.2.1 : (Nat → Int32)) (p96.2.2.2.2.2.2.2.2.2.2.2.2.2.2.2.2.2.2.2.1 : (Nat → Int32)) (p96.2.2.2.2.2.2.2.2.2.2.2.2.2.2.2.2.2.2.2.2 : (Nat → Int32)) 0)
def S_VR_print (t0_0 : Int32) (t0_1 : Int32) (t0_2 : Int32) (t0_3 : Int32) (t0_4 : Int32) (t0_5 : Int32) (t0_6 : Int32) (t0_7 : Int32) (t0_8 : Int32) (t0_9 : Int32) (t0_10 : Int32) (t0_11 : Int32) (t0_12 : Int32) (t0_13 : Int32) (t0_14 : Int32) (t0_15 : Int32) (t0_16 : Int32) (t0_17 : Int32) (t0_18 : Int32) (t0_19 : Int32) (t0_20 : Int32) (t0_21 : Int32) (t1_0 : (Nat → Int32)) (t2_0 : (Nat → Int32)) (t3_0 : (Nat → Int32)) (t4_0 : (Nat → Int64)) (t5_0 : (Nat → Int32)) (t6_0 : (Nat → Int32)) (t7_0 : (Nat → Int32)) (t8_0 : (Nat → Int32)) (t9_0 : (Nat → Int32)) : Prop := (True ∧ S_VR_run (0 : Int32) t0_1 t0_2 t0_3 t0_4 t0_5 t0_6 t0_7 t0_8 t0_9 t0_10 t0_11 t0_12 t0_13 t0_14 t0_15 t0_16 t0_17 t0_18 t0_19 t0_20 t0_21 t1_0 t2_0 t3_0 t4_0 t5_0 t7_0 t8_0 t9_0) ∧ (S_VR_print_c7 t0_0 t0_1 t0_2 t0_3 t0_4 t0_5 t0_6 t0_7 t0_8 t0_9 t0_10 t0_11 t0_12 t0_13 t0_14 t0_15 t0_16 t0_17 t0_18 t0_19 t0_20 t0_21 t1_0 t2_0 t3_0 t4_0 t5_0 t6_0 t7_0 t8_0 t9_0 ((F_VR_run (0 : Int32) t0_1 t0_2 t0_3 t0_4 t0_5 t0_6 t0_7 t0_8 t0_9 t0_10 t0_11 t0_12 t0_13 t0_14 t0_15 t0_16 t0_17 t0_18 t0_19 t0_20 t0_21 t1_0 t2_0 t3_0 t4_0 t5_0 t7_0 t8_0 t9_0) : (Int32 × Int32 × Int32 × Int32 × Int32 × Int32 × Int32 × Int32 × Int32 × Int32 × Int32 × Int32 × Int32 × Int32 × Int32 × Int32 × Int32 × Int32 × (Nat → Int32) × (Nat → Int32) × (Nat → Int32))))
set_option maxRecDepth 100000 in
set_option maxHeartbeats 4000000 in
theorem X_VR_print (l : Launch) (D : va_G) (g : Nat → ClassId) (q : Nat → Nat) (ws : va_W) (hI : q_I (msh g q) q ws) (t0_0 : Int32) (t0_1 : Int32) (t0_2 : Int32) (t0_3 : Int32) (t0_4 : Int32) (t0_5 : Int32) (t0_6 : Int32) (t0_7 : Int32) (t0_8 : Int32) (t0_9 : Int32) (t0_10 : Int32) (t0_11 : Int32) (t0_12 : Int32) (t0_13 : Int32) (t0_14 : Int32) (t0_15 : Int32) (t0_16 : Int32) (t0_17 : Int32) (t0_18 : Int32) (t0_19 : Int32) (t0_20 : Int32) (t0_21 : Int32) (hT0 : ws[157]? = (some (q 157, .inr (17, [.int t0_0, .ref (q 158), .int t0_1, .int t0_2, .ref (q 159), .ref (q 160), .ref (q 161), .ref (q 162), .ref (q 163), .int t0_3, .ref (q 164), .int t0_4, .int t0_5, .int t0_6, .int t0_7, .int t0_8, .int t0_9, .int t0_10, .int t0_11, .int t0_12, .int t0_13, .int t0_14, .int t0_15, .int t0_16, .ref (q 165), .int t0_17, .int t0_18, .int t0_19, .ref (q 166), .int t0_20, .int t0_21])) : Option (Nat × va_E))) (t1_0 : (Nat → Int32)) (hT1 : ws[158]? = (some (q 158, .inl (g 0, (256 : Int32).toNatClampNeg, .inl t1_0)) : Option (Nat × va_E))) (t2_0 : (Nat → Int32)) (hT2 : ws[159]? = (some (q 159, .inl (g 0, (9 : Int32).toNatClampNeg, .inl t2_0)) : Option (Nat × va_E))) (t3_0 : (Nat → Int32)) (hT3 : ws[160]? = (some (q 160, .inl (g 0, (9 : Int32).toNatClampNeg, .inl t3_0)) : Option (Nat × va_E))) (t4_0 : (Nat → Int64)) (hT4 : ws[161]? = (some (q 161, .inl (g 1, 9, .inr (.inl t4_0))) : Option (Nat × va_E))) (t5_0 : (Nat → Int32)) (hT5 : ws[162]? = (some (q 162, .inl (g 0, (576 : Int32).toNatClampNeg, .inl t5_0)) : Option (Nat × va_E))) (t6_0 : (Nat → Int32)) (hT6 : ws[163]? = (some (q 163, .inl (g 0, (4096 : Int32).toNatClampNeg, .inl t6_0)) : Option (Nat × va_E))) (t7_0 : (Nat → Int32)) (hT7 : ws[164]? = (some (q 164, .inl (g 0, (4096 : Int32).toNatClampNeg, .inl t7_0)) : Option (Nat × va_E))) (t8_0 : (Nat → Int32)) (hT8 : ws[165]? = (some (q 165, .inl (g 0, (20200 : Int32).toNatClampNeg, .inl t8_0)) : Option (Nat × va_E))) (t9_0 : (Nat → Int32)) (hT9 : ws[166]? = (some (q 166, .inl (g 0, (64 : Int32).toNatClampNeg, .inl t9_0)) : Option (Nat × va_E))) (hS : True ∧ S_VR_print t0_0 t0_1 t0_2 t0_3 t0_4 t0_5 t0_6 t0_7 t0_8 t0_9 t0_10 t0_11 t0_12 t0_13 t0_14 t0_15 t0_16 t0_17 t0_18 t0_19 t0_20 t0_21 t1_0 t2_0 t3_0 t4_0 t5_0 t6_0 t7_0 t8_0 t9_0) : q_mI l y_VR_print prog_16_method_41_code 2 (.int) 9 0 0 D g [.ref (q 157)] ws (fun r u => q_I (msh g q) q u ∧ q_un ws u [157, 163, 164, 165, 166] ∧ ∃ (u0_0 : Int32) (u0_3 : Int32) (u0_4 : Int32) (u0_5 : Int32) (u0_6 : Int32) (u0_7 : Int32) (u0_8 : Int32) (u0_9 : Int32) (u0_10 : Int32) (u0_11 : Int32) (u0_12 : Int32) (u0_13 : Int32) (u0_14 : Int32) (u0_15 : Int32) (u0_16 : Int32) (u0_17 : Int32) (u0_18 : Int32) (u0_19 : Int32) (u0_20 : Int32) (u0_21 : Int32) (u6_0 : (Nat → Int32)) (u7_0 : (Nat → Int32)) (u8_0 : (Nat → Int32)) (u9_0 : (Nat → Int32)), u[157]? = (some (q 157, .inr (17, [.int u0_0, .ref (q 158), .int t0_1, .int t0_2, .ref (q 159), .ref (q 160), .ref (q 161), .ref (q 162), .ref (q 163), .int u0_3, .ref (q 164), .int u0_4, .int u0_5, .int u0_6, .int u0_7, .int u0_8, .int u0_9, .int u0_10, .int u0_11, .int u0_12, .int u0_13, .int u0_14, .int u0_15, .int u0_16, .ref (q 165), .int u0_17, .int u0_18, .int u0_19, .ref (q 166), .int u0_20, .int u0_21])) : Option (Nat × va_E)) ∧ u[163]? = (some (q 163, .inl (g 0, (4096 : Int32).toNatClampNeg, .inl u6_0)) : Option (Nat × va_E)) ∧ u[164]? = (some (q 164, .inl (g 0, (4096 : Int32).toNatClampNeg, .inl u7_0)) : Option (Nat × va_E)) ∧ u[165]? = (some (q 165, .inl (g 0, (20200 : Int32).toNatClampNeg, .inl u8_0)) : Option (Nat × va_E)) ∧ u[166]? = (some (q 166, .inl (g 0, (64 : Int32).toNatClampNeg, .inl u9_0)) : Option (Nat × va_E)) ∧ (0 ≤ u0_0.toInt) ∧ (u0_0.toInt ≤ 0) ∧ (u0_6.toInt + 1 ≤ t0_1.toInt) ∧ (u0_0.toInt ≤ r.toInt + 1) ∧ (r.toInt ≤ u0_3.toInt) ∧ (u0_3.toInt ≤ u0_0.toInt + 4096) ∧ (u0_0.toInt ≤ u0_3.toInt) ∧ (u0_5.toInt ≤ u0_0.toInt + 12) ∧ (u0_0.toInt ≤ u0_5.toInt) ∧ (u0_10.toInt ≤ u0_0.toInt + 1) ∧ (u0_0.toInt ≤ u0_10.toInt) ∧ (u0_19.toInt ≤ u0_0.toInt + 1) ∧ (u0_0.toInt ≤ u0_19.toInt) ∧ (u0_3.toInt ≤ u0_4.toInt) ∧ (u0_6.toInt ≤ u0_5.toInt + 254) ∧ (r, u0_0, u0_3, u0_4, u0_5, u0_6, u0_7, u0_8, u0_9, u0_10, u0_11, u0_12, u0_13, u0_14, u0_15, u0_16, u0_17, u0_18, u0_19, u0_20, u0_21, u6_0, u7_0, u8_0, u9_0) = (F_VR_print t0_0 t0_1 t0_2 t0_3 t0_4 t0_5 t0_6 t0_7 t0_8 t0_9 t0_10 t0_11 t0_12 t0_13 t0_14 t0_15 t0_16 t0_17 t0_18 t0_19 t0_20 t0_21 t1_0 t2_0 t3_0 t4_0 t5_0 t6_0 t7_0 t8_0 t9_0)) := by
  intro sz
  refine q_into (by decide) (Nat.le_of_ble_eq_true rfl) ?_
  intro p e s m below meth c ls hsz C0 V hl
  have hx := C0.1
  have hb := C0.2.1
  obtain ⟨btt0_1, hZ9⟩ := n_w157 hI hT0
  obtain ⟨btt0_2, hZ9⟩ := hZ9
  obtain ⟨btt0_3, hZ9⟩ := hZ9
  obtain ⟨btt0_10, btt0_19⟩ := hZ9
  replace btt0_1 : q_F (0 ≤ t0_1.toInt ∧ t0_1.toInt ≤ 256) := btt0_1
  replace btt0_2 : q_F (0 ≤ t0_2.toInt ∧ t0_2.toInt ≤ 9) := btt0_2
  replace btt0_3 : q_F (0 ≤ t0_3.toInt ∧ t0_3.toInt ≤ 4096) := btt0_3
  replace btt0_10 : q_F (0 ≤ t0_10.toInt ∧ t0_10.toInt ≤ 1) := btt0_10
  replace btt0_19 : q_F (0 ≤ t0_19.toInt ∧ t0_19.toInt ≤ 1) := btt0_19
  have hF : q_un ws ws [157, 163, 164, 165, 166] := q_u0
  have hl : lv_has ls 2 [(0, .ref (q 157))] := hl
  refine lv_aload_n hx hb d_16_41_0 rfl (lv_at hl 0 rfl) ?_
  refine lv_iconst (v := 0) hx hb d_16_41_1 (by decide) ?_
  refine q_put (ci := 17) (j := 0) (v := .int 0) (ty := .int) C0 V i_VR o_VR n_VR rfl rfl hT0 (by decide) w_2198 rfl rfl rfl rfl (Nat.le_of_ble_eq_true rfl) d_16_41_2 (fun H locs w55 hu56 hT0 V => ?_)
  replace hT0 : w55[157]? = (some (q 157, .inr (17, [.int 0, .ref (q 158), .int t0_1, .int t0_2, .ref (q 159), .ref (q 160), .ref (q 161), .ref (q 162), .ref (q 163), .int t0_3, .ref (q 164), .int t0_4, .int t0_5, .int t0_6, .int t0_7, .int t0_8, .int t0_9, .int t0_10, .int t0_11, .int t0_12, .int t0_13, .int t0_14, .int t0_15, .int t0_16, .ref (q 165), .int t0_17, .int t0_18, .int t0_19, .ref (q 166), .int t0_20, .int t0_21])) : Option (Nat × va_E)) := hT0
  replace hI := n_p157 hI hu56 hT0 (by first | with_reducible exact q_fe btt0_1 | exact ⟨(by have t1 : 0 ≤ t0_1.toInt ∧ t0_1.toInt ≤ 256 := btt0_1; omega), (by have t1 : 0 ≤ t0_1.toInt ∧ t0_1.toInt ≤ 256 := btt0_1; omega)⟩) (by first | with_reducible exact q_fe btt0_2 | exact ⟨(by have t1 : 0 ≤ t0_2.toInt ∧ t0_2.toInt ≤ 9 := btt0_2; omega), (by have t1 : 0 ≤ t0_2.toInt ∧ t0_2.toInt ≤ 9 := btt0_2; omega)⟩) (by first | with_reducible exact q_fe btt0_3 | exact ⟨(by have t1 : 0 ≤ t0_3.toInt ∧ t0_3.toInt ≤ 4096 := btt0_3; omega), (by have t1 : 0 ≤ t0_3.toInt ∧ t0_3.toInt ≤ 4096 := btt0_3; omega)⟩) (by first | with_reducible exact q_fe btt0_10 | exact ⟨(by have t1 : 0 ≤ t0_10.toInt ∧ t0_10.toInt ≤ 1 := btt0_10; omega), (by have t1 : 0 ≤ t0_10.toInt ∧ t0_10.toInt ≤ 1 := btt0_10; omega)⟩) (by first | with_reducible exact q_fe btt0_19 | exact ⟨(by have t1 : 0 ≤ t0_19.toInt ∧ t0_19.toInt ≤ 1 := btt0_19; omega), (by have t1 : 0 ≤ t0_19.toInt ∧ t0_19.toInt ≤ 1 := btt0_19; omega)⟩)
  replace hT1 := (hu56 _ (by decide)).trans hT1
  replace hT2 := (hu56 _ (by decide)).trans hT2
  replace hT3 := (hu56 _ (by decide)).trans hT3
  replace hT4 := (hu56 _ (by decide)).trans hT4
  replace hT5 := (hu56 _ (by decide)).trans hT5
  replace hT6 := (hu56 _ (by decide)).trans hT6
  replace hT7 := (hu56 _ (by decide)).trans hT7
  replace hT8 := (hu56 _ (by decide)).trans hT8
  replace hT9 := (hu56 _ (by decide)).trans hT9
  replace hF := q_us hF hu56 (by simp)
  refine lv_aload_n hx hb d_16_41_5 rfl (lv_at hl 0 rfl) ?_
  refine lv_aload_n hx hb d_16_41_6 rfl (lv_at hl 0 rfl) ?_
  have ob57 : True ∧ S_VR_run (0 : Int32) t0_1 t0_2 t0_3 t0_4 t0_5 t0_6 t0_7 t0_8 t0_9 t0_10 t0_11 t0_12 t0_13 t0_14 t0_15 t0_16 t0_17 t0_18 t0_19 t0_20 t0_21 t1_0 t2_0 t3_0 t4_0 t5_0 t7_0 t8_0 t9_0 := (by have h := hS; rw [S_VR_print.eq_1] at h; with_reducible exact h.2.1)
  refine q_goi V (q_runV (As := []) (rest := [.ref (q 157)]) (d := 8) (mc := 0) (ms := 0) (ci := 17) C0 V rfl LV_VR_210 (X_VR_run l D g q w55   hI 0 t0_1 t0_2 t0_3 t0_4 t0_5 t0_6 t0_7 t0_8 t0_9 t0_10 t0_11 t0_12 t0_13 t0_14 t0_15 t0_16 t0_17 t0_18 t0_19 t0_20 t0_21 hT0 t1_0 hT1 t2_0 hT2 t3_0 hT3 t4_0 hT4 t5_0 hT5 t7_0 hT7 t8_0 hT8 t9_0 hT9 ob57 _) rfl rfl hT0 rfl hl.1 rfl (Nat.le_of_ble_eq_true rfl) ⟨by decide, by decide⟩ ⟨Nat.le_of_ble_eq_true rfl, Nat.le_of_ble_eq_true rfl⟩ d_16_41_7) (fun a60 u58 H locs hp59 V => ?_)
  obtain ⟨hI, hZ9⟩ := hp59
  obtain ⟨hu95, hZ9⟩ := hZ9
  obtain ⟨y62, hZ9⟩ := hZ9
  obtain ⟨y63, hZ9⟩ := hZ9
  obtain ⟨y64, hZ9⟩ := hZ9
  obtain ⟨y65, hZ9⟩ := hZ9
  obtain ⟨y66, hZ9⟩ := hZ9
  obtain ⟨y67, hZ9⟩ := hZ9
  obtain ⟨y68, hZ9⟩ := hZ9
  obtain ⟨y69, hZ9⟩ := hZ9
  obtain ⟨y70, hZ9⟩ := hZ9
  obtain ⟨y71, hZ9⟩ := hZ9
  obtain ⟨y72, hZ9⟩ := hZ9
  obtain ⟨y73, hZ9⟩ := hZ9
  obtain ⟨y74, hZ9⟩ := hZ9
  obtain ⟨y75, hZ9⟩ := hZ9
  obtain ⟨y76, hZ9⟩ := hZ9
  obtain ⟨y77, hZ9⟩ := hZ9
  obtain ⟨y78, hZ9⟩ := hZ9
  obtain ⟨f79, hZ9⟩ := hZ9
  obtain ⟨f81, hZ9⟩ := hZ9
  obtain ⟨f83, hZ9⟩ := hZ9
  obtain ⟨hO61, hZ9⟩ := hZ9
  obtain ⟨hA80, hZ9⟩ := hZ9
  obtain ⟨hA82, hZ9⟩ := hZ9
  obtain ⟨hA84, hZ9⟩ := hZ9
  obtain ⟨b85, hZ9⟩ := hZ9
  obtain ⟨b86, hZ9⟩ := hZ9
  obtain ⟨b87, hZ9⟩ := hZ9
  obtain ⟨b88, hZ9⟩ := hZ9
  obtain ⟨b89, hZ9⟩ := hZ9
  obtain ⟨b90, hZ9⟩ := hZ9
  obtain ⟨b91, hZ9⟩ := hZ9
  obtain ⟨b92, hZ9⟩ := hZ9
  obtain ⟨b93, hE94⟩ := hZ9
  replace hO61 : u58[157]? = (some (q 157, .inr (17, [.int 0, .ref (q 158), .int t0_1, .int t0_2, .ref (q 159), .ref (q 160), .ref (q 161), .ref (q 162), .ref (q 163), .int t0_3, .ref (q 164), .int y62, .int y63, .int t0_6, .int y64, .int y65, .int y66, .int y67, .int y68, .int y69, .int y70, .int y71, .int y72, .int y73, .ref (q 165), .int y74, .int y75, .int y76, .ref (q 166), .int y77, .int y78])) : Option (Nat × va_E)) := hO61
  replace hA80 : u58[164]? = (some (q 164, .inl (g 0, (4096 : Int32).toNatClampNeg, .inl f79)) : Option (Nat × va_E)) := hA80
  replace hA82 : u58[165]? = (some (q 165, .inl (g 0, (20200 : Int32).toNatClampNeg, .inl f81)) : Option (Nat × va_E)) := hA82
  replace hA84 : u58[166]? = (some (q 166, .inl (g 0, (64 : Int32).toNatClampNeg, .inl f83)) : Option (Nat × va_E)) := hA84
  obtain ⟨p96, e97⟩ : ∃ z, z = (F_VR_run (0 : Int32) t0_1 t0_2 t0_3 t0_4 t0_5 t0_6 t0_7 t0_8 t0_9 t0_10 t0_11 t0_12 t0_13 t0_14 t0_15 t0_16 t0_17 t0_18 t0_19 t0_20 t0_21 t1_0 t2_0 t3_0 t4_0 t5_0 t7_0 t8_0 t9_0) := ⟨_, rfl⟩
  have e98 : a60 = p96.1 := congrArg (fun z => z.1) (hE94.trans e97.symm)
  have e99 : y62 = p96.2.1 := congrArg (fun z => z.2.1) (hE94.trans e97.symm)
  have e100 : y63 = p96.2.2.1 := congrArg (fun z => z.2.2.1) (hE94.trans e97.symm)
  have e101 : y64 = p96.2.2.2.1 := congrArg (fun z => z.2.2.2.1) (hE94.trans e97.symm)
  have e102 : y65 = p96.2.2.2.2.1 := congrArg (fun z => z.2.2.2.2.1) (hE94.trans e97.symm)
  have e103 : y66 = p96.2.2.2.2.2.1 := congrArg (fun z => z.2.2.2.2.2.1) (hE94.trans e97.symm)
  have e104 : y67 = p96.2.2.2.2.2.2.1 := congrArg (fun z => z.2.2.2.2.2.2.1) (hE94.trans e97.symm)
  have e105 : y68 = p96.2.2.2.2.2.2.2.1 := congrArg (fun z => z.2.2.2.2.2.2.2.1) (hE94.trans e97.symm)
  have e106 : y69 = p96.2.2.2.2.2.2.2.2.1 := congrArg (fun z => z.2.2.2.2.2.2.2.2.1) (hE94.trans e97.symm)
  have e107 : y70 = p96.2.2.2.2.2.2.2.2.2.1 := congrArg (fun z => z.2.2.2.2.2.2.2.2.2.1) (hE94.trans e97.symm)
  have e108 : y71 = p96.2.2.2.2.2.2.2.2.2.2.1 := congrArg (fun z => z.2.2.2.2.2.2.2.2.2.2.1) (hE94.trans e97.symm)
  have e109 : y72 = p96.2.2.2.2.2.2.2.2.2.2.2.1 := congrArg (fun z => z.2.2.2.2.2.2.2.2.2.2.2.1) (hE94.trans e97.symm)
  have e110 : y73 = p96.2.2.2.2.2.2.2.2.2.2.2.2.1 := congrArg (fun z => z.2.2.2.2.2.2.2.2.2.2.2.2.1) (hE94.trans e97.symm)
  have e111 : y74 = p96.2.2.2.2.2.2.2.2.2.2.2.2.2.1 := congrArg (fun z => z.2.2.2.2.2.2.2.2.2.2.2.2.2.1) (hE94.trans e97.symm)
  have e112 : y75 = p96.2.2.2.2.2.2.2.2.2.2.2.2.2.2.1 := congrArg (fun z => z.2.2.2.2.2.2.2.2.2.2.2.2.2.2.1) (hE94.trans e97.symm)
  have e113 : y76 = p96.2.2.2.2.2.2.2.2.2.2.2.2.2.2.2.1 := congrArg (fun z => z.2.2.2.2.2.2.2.2.2.2.2.2.2.2.2.1) (hE94.trans e97.symm)
  have e114 : y77 = p96.2.2.2.2.2.2.2.2.2.2.2.2.2.2.2.2.1 := congrArg (fun z => z.2.2.2.2.2.2.2.2.2.2.2.2.2.2.2.2.1) (hE94.trans e97.symm)
  have e115 : y78 = p96.2.2.2.2.2.2.2.2.2.2.2.2.2.2.2.2.2.1 := congrArg (fun z => z.2.2.2.2.2.2.2.2.2.2.2.2.2.2.2.2.2.1) (hE94.trans e97.symm)
  have e116 : f79 = p96.2.2.2.2.2.2.2.2.2.2.2.2.2.2.2.2.2.2.1 := congrArg (fun z => z.2.2.2.2.2.2.2.2.2.2.2.2.2.2.2.2.2.2.1) (hE94.trans e97.symm)
  have e117 : f81 = p96.2.2.2.2.2.2.2.2.2.2.2.2.2.2.2.2.2.2.2.1 := congrArg (fun z => z.2.2.2.2.2.2.2.2.2.2.2.2.2.2.2.2.2.2.2.1) (hE94.trans e97.symm)
  have e118 : f83 = p96.2.2.2.2.2.2.2.2.2.2.2.2.2.2.2.2.2.2.2.2 := congrArg (fun z => z.2.2.2.2.2.2.2.2.2.2.2.2.2.2.2.2.2.2.2.2) (hE94.trans e97.symm)
  replace b85 : q_F (0 ≤ y62.toInt) := b85
  replace b86 : q_F (0 ≤ y63.toInt) := b86
  replace b87 : q_F (y63.toInt ≤ 12) := b87
  replace b88 : q_F (0 ≤ y67.toInt) := b88
  replace b89 : q_F (y67.toInt ≤ 1) := b89
  replace b90 : q_F (0 ≤ y76.toInt) := b90
  replace b91 : q_F (y76.toInt ≤ 1) := b91
  replace b92 : q_F (a60.toInt + 1 ≤ t0_1.toInt) := b92
  replace b93 : q_F (a60.toInt ≤ y63.toInt + 254) := b93
  replace hT1 := (hu95 _ (by decide)).trans hT1
  replace hT2 := (hu95 _ (by decide)).trans hT2
  replace hT3 := (hu95 _ (by decide)).trans hT3
  replace hT4 := (hu95 _ (by decide)).trans hT4
  replace hT5 := (hu95 _ (by decide)).trans hT5
  replace hT6 := (hu95 _ (by decide)).trans hT6
  replace hF := q_uc hF hu95 (by simp)
  have hR119 := (show F_VR_print_c7 t0_0 t0_1 t0_2 t0_3 t0_4 t0_5 t0_6 t0_7 t0_8 t0_9 t0_10 t0_11 t0_12 t0_13 t0_14 t0_15 t0_16 t0_17 t0_18 t0_19 t0_20 t0_21 t1_0 t2_0 t3_0 t4_0 t5_0 t6_0 t7_0 t8_0 t9_0 p96 = (F_VR_print t0_0 t0_1 t0_2 t0_3 t0_4 t0_5 t0_6 t0_7 t0_8 t0_9 t0_10 t0_11 t0_12 t0_13 t0_14 t0_15 t0_16 t0_17 t0_18 t0_19 t0_20 t0_21 t1_0 t2_0 t3_0 t4_0 t5_0 t6_0 t7_0 t8_0 t9_0) from (by rw [e97, F_VR_print.eq_1]))
  have hS120 := (show True ∧ S_VR_print_c7 t0_0 t0_1 t0_2 t0_3 t0_4 t0_5 t0_6 t0_7 t0_8 t0_9 t0_10 t0_11 t0_12 t0_13 t0_14 t0_15 t0_16 t0_17 t0_18 t0_19 t0_20 t0_21 t1_0 t2_0 t3_0 t4_0 t5_0 t6_0 t7_0 t8_0 t9_0 p96 from (by rw [e97]; have h := hS; rw [S_VR_print.eq_1] at h; replace h := q_s2 h; with_reducible exact h))
  refine q_put (ci := 17) (j := 13) (v := .int a60) (ty := .int) C0 V i_VR o_VR n_VR rfl rfl hO61 (by decide) w_2216 rfl rfl rfl rfl (Nat.le_of_ble_eq_true rfl) d_16_41_10 (fun H locs w124 hu125 hO61 V => ?_)
  replace hO61 : w124[157]? = (some (q 157, .inr (17, [.int 0, .ref (q 158), .int t0_1, .int t0_2, .ref (q 159), .ref (q 160), .ref (q 161), .ref (q 162), .ref (q 163), .int t0_3, .ref (q 164), .int y62, .int y63, .int a60, .int y64, .int y65, .int y66, .int y67, .int y68, .int y69, .int y70, .int y71, .int y72, .int y73, .ref (q 165), .int y74, .int y75, .int y76, .ref (q 166), .int y77, .int y78])) : Option (Nat × va_E)) := hO61
  replace hI := n_p157 hI hu125 hO61 (by first | with_reducible exact q_fe btt0_1 | exact ⟨(by have t1 : 0 ≤ t0_1.toInt ∧ t0_1.toInt ≤ 256 := btt0_1; omega), (by have t1 : 0 ≤ t0_1.toInt ∧ t0_1.toInt ≤ 256 := btt0_1; omega)⟩) (by first | with_reducible exact q_fe btt0_2 | exact ⟨(by have t1 : 0 ≤ t0_2.toInt ∧ t0_2.toInt ≤ 9 := btt0_2; omega), (by have t1 : 0 ≤ t0_2.toInt ∧ t0_2.toInt ≤ 9 := btt0_2; omega)⟩) (by first | with_reducible exact q_fe btt0_3 | exact ⟨(by have t1 : 0 ≤ t0_3.toInt ∧ t0_3.toInt ≤ 4096 := btt0_3; omega), (by have t1 : 0 ≤ t0_3.toInt ∧ t0_3.toInt ≤ 4096 := btt0_3; omega)⟩) ⟨(by first | with_reducible exact q_fe b88 | (have t1 : 0 ≤ y67.toInt := b88; omega)), (by first | with_reducible exact q_fe b89 | (have t1 : y67.toInt ≤ 1 := b89; omega))⟩ ⟨(by first | with_reducible exact q_fe b90 | (have t1 : 0 ≤ y76.toInt := b90; omega)), (by first | with_reducible exact q_fe b91 | (have t1 : y76.toInt ≤ 1 := b91; omega))⟩
  replace hT1 := (hu125 _ (by decide)).trans hT1
  replace hT2 := (hu125 _ (by decide)).trans hT2
  replace hT3 := (hu125 _ (by decide)).trans hT3
  replace hT4 := (hu125 _ (by decide)).trans hT4
  replace hT5 := (hu125 _ (by decide)).trans hT5
  replace hT6 := (hu125 _ (by decide)).trans hT6
  replace hA80 := (hu125 _ (by decide)).trans hA80
  replace hA82 := (hu125 _ (by decide)).trans hA82
  replace hA84 := (hu125 _ (by decide)).trans hA84
  replace hF := q_us hF hu125 (by simp)
  refine lv_aload_n hx hb d_16_41_13 rfl (lv_at hl 0 rfl) ?_
  refine lv_aload_n hx hb d_16_41_14 rfl (lv_at hl 0 rfl) ?_
  refine q_get (ci := 17) (j := 12) (v := .int y63) C0 V i_VR rfl rfl hO61 (by decide) w_2215 rfl d_16_41_15 ?_
  refine q_join (X := Int32) (fun z H locs ls _ => q_F (0 ≤ z.toInt) ∧ q_F (z.toInt ≤ y62.toInt) ∧ q_Wd D g (va_A ws sz) s w124 H locs ∧ lv_has ls 2 [(0, .ref (q 157))] ∧ F_VR_print_J29 t0_0 t0_1 t0_2 t0_3 t0_4 t0_5 t0_6 t0_7 t0_8 t0_9 t0_10 t0_11 t0_12 t0_13 t0_14 t0_15 t0_16 t0_17 t0_18 t0_19 t0_20 t0_21 t1_0 t2_0 t3_0 t4_0 t5_0 t6_0 t7_0 t8_0 t9_0 p96 y62 y63 a60 y64 y65 y66 y67 y68 y69 y70 y71 y72 y73 y74 y75 y76 y77 y78 f79 f81 f83 z = (F_VR_print t0_0 t0_1 t0_2 t0_3 t0_4 t0_5 t0_6 t0_7 t0_8 t0_9 t0_10 t0_11 t0_12 t0_13 t0_14 t0_15 t0_16 t0_17 t0_18 t0_19 t0_20 t0_21 t1_0 t2_0 t3_0 t4_0 t5_0 t6_0 t7_0 t8_0 t9_0) ∧ True ∧ S_VR_print_J29 t0_0 t0_1 t0_2 t0_3 t0_4 t0_5 t0_6 t0_7 t0_8 t0_9 t0_10 t0_11 t0_12 t0_13 t0_14 t0_15 t0_16 t0_17 t0_18 t0_19 t0_20 t0_21 t1_0 t2_0 t3_0 t4_0 t5_0 t6_0 t7_0 t8_0 t9_0 p96 y62 y63 a60 y64 y65 y66 y67 y68 y69 y70 y71 y72 y73 y74 y75 y76 y77 y78 f79 f81 f83 z) (fun z => [.int z, .ref (q 157)]) 29 0 0 ?_ ?_
  ·
    rintro lx126 H locs ls _ hZ9
    obtain ⟨i138, hZ9⟩ := hZ9
    obtain ⟨i139, hZ9⟩ := hZ9
    obtain ⟨V, hZ9⟩ := hZ9
    obtain ⟨hl, hZ9⟩ := hZ9
    obtain ⟨hR140, hS141⟩ := hZ9
    replace i138 : q_F (0 ≤ lx126.toInt) := i138
    replace i139 : q_F (lx126.toInt ≤ y62.toInt) := i139
    replace hl : lv_has ls 2 [(0, .ref (q 157))] := hl
    refine q_put (ci := 17) (j := 9) (v := .int lx126) (ty := .int) C0 V i_VR o_VR n_VR rfl rfl hO61 (by decide) w_2211 rfl rfl rfl rfl (Nat.le_of_ble_eq_true rfl) d_16_41_29 (fun H locs w145 hu146 hO61 V => ?_)
    replace hO61 : w145[157]? = (some (q 157, .inr (17, [.int 0, .ref (q 158), .int t0_1, .int t0_2, .ref (q 159), .ref (q 160), .ref (q 161), .ref (q 162), .ref (q 163), .int lx126, .ref (q 164), .int y62, .int y63, .int a60, .int y64, .int y65, .int y66, .int y67, .int y68, .int y69, .int y70, .int y71, .int y72, .int y73, .ref (q 165), .int y74, .int y75, .int y76, .ref (q 166), .int y77, .int y78])) : Option (Nat × va_E)) := hO61
    have ob147 : q_F (lx126.toInt ≤ 4096) := (by have h := hS141; rw [S_VR_print_J29.eq_1] at h; exact h.2.1)
    replace hI := n_p157 hI hu146 hO61 (by first | with_reducible exact q_fe btt0_1 | exact ⟨(by have t1 : 0 ≤ t0_1.toInt ∧ t0_1.toInt ≤ 256 := btt0_1; omega), (by have t1 : 0 ≤ t0_1.toInt ∧ t0_1.toInt ≤ 256 := btt0_1; omega)⟩) (by first | with_reducible exact q_fe btt0_2 | exact ⟨(by have t1 : 0 ≤ t0_2.toInt ∧ t0_2.toInt ≤ 9 := btt0_2; omega), (by have t1 : 0 ≤ t0_2.toInt ∧ t0_2.toInt ≤ 9 := btt0_2; omega)⟩) ⟨(by first | with_reducible exact q_fe i138 | (have t1 : 0 ≤ lx126.toInt := i138; omega)), (by first | with_reducible exact q_fe ob147 | (have t1 : lx126.toInt ≤ 4096 := ob147; omega))⟩ ⟨(by first | with_reducible exact q_fe b88 | (have t1 : 0 ≤ y67.toInt := b88; omega)), (by first | with_reducible exact q_fe b89 | (have t1 : y67.toInt ≤ 1 := b89; omega))⟩ ⟨(by first | with_reducible exact q_fe b90 | (have t1 : 0 ≤ y76.toInt := b90; omega)), (by first | with_reducible exact q_fe b91 | (have t1 : y76.toInt ≤ 1 := b91; omega))⟩
    replace hT1 := (hu146 _ (by decide)).trans hT1
    replace hT2 := (hu146 _ (by decide)).trans hT2
    replace hT3 := (hu146 _ (by decide)).trans hT3
    replace hT4 := (hu146 _ (by decide)).trans hT4
    replace hT5 := (hu146 _ (by decide)).trans hT5
    replace hT6 := (hu146 _ (by decide)).trans hT6
    replace hA80 := (hu146 _ (by decide)).trans hA80
    replace hA82 := (hu146 _ (by decide)).trans hA82
    replace hA84 := (hu146 _ (by decide)).trans hA84
    replace hF := q_us hF hu146 (by simp)
    refine lv_aload_n hx hb d_16_41_32 rfl (lv_at hl 0 rfl) ?_
    refine q_get (ci := 17) (j := 12) (v := .int y63) C0 V i_VR rfl rfl hO61 (by decide) w_2215 rfl d_16_41_33 ?_
    refine lv_if_le (tgt := 41) hx hb d_16_41_36 (by decide) (fun c148 => ?_) (fun c148 => ?_)
    ·
      have b149 : q_F (y63.toInt ≤ 0) := (q_leI c148)
      refine lv_iconst (v := 0) hx hb d_16_41_41 (by decide) ?_
      refine lv_istore_n (lv' := [(1, .int 0), (0, .ref (q 157))]) hx hb d_16_41_42 rfl hl (by decide) rfl (fun ls hl => ?_)
      refine q_loop (X := Int32 × (Nat → Int32)) (fun z H locs ls w157 => q_F (z.1.toInt ≤ 4096) ∧ q_F (z.1.toInt ≤ y62.toInt) ∧ q_F (y63.toInt ≤ z.1.toInt) ∧ q_Wd D g (va_A ws sz) s w157 H locs ∧ lv_has ls 2 [(1, .int z.1), (0, .ref (q 157))] ∧ q_I (msh g q) q w157 ∧ q_un ws w157 [157, 163, 164, 165, 166] ∧ w157[157]? = (some (q 157, .inr (17, [.int 0, .ref (q 158), .int t0_1, .int t0_2, .ref (q 159), .ref (q 160), .ref (q 161), .ref (q 162), .ref (q 163), .int lx126, .ref (q 164), .int y62, .int y63, .int a60, .int y64, .int y65, .int y66, .int y67, .int y68, .int y69, .int y70, .int y71, .int y72, .int y73, .ref (q 165), .int y74, .int y75, .int y76, .ref (q 166), .int y77, .int y78])) : Option (Nat × va_E)) ∧ w157[158]? = (some (q 158, .inl (g 0, (256 : Int32).toNatClampNeg, .inl t1_0)) : Option (Nat × va_E)) ∧ w157[159]? = (some (q 159, .inl (g 0, (9 : Int32).toNatClampNeg, .inl t2_0)) : Option (Nat × va_E)) ∧ w157[160]? = (some (q 160, .inl (g 0, (9 : Int32).toNatClampNeg, .inl t3_0)) : Option (Nat × va_E)) ∧ w157[161]? = (some (q 161, .inl (g 1, 9, .inr (.inl t4_0))) : Option (Nat × va_E)) ∧ w157[162]? = (some (q 162, .inl (g 0, (576 : Int32).toNatClampNeg, .inl t5_0)) : Option (Nat × va_E)) ∧ w157[163]? = (some (q 163, .inl (g 0, (4096 : Int32).toNatClampNeg, .inl z.2)) : Option (Nat × va_E)) ∧ w157[164]? = (some (q 164, .inl (g 0, (4096 : Int32).toNatClampNeg, .inl f79)) : Option (Nat × va_E)) ∧ w157[165]? = (some (q 165, .inl (g 0, (20200 : Int32).toNatClampNeg, .inl f81)) : Option (Nat × va_E)) ∧ w157[166]? = (some (q 166, .inl (g 0, (64 : Int32).toNatClampNeg, .inl f83)) : Option (Nat × va_E)) ∧ (∃ n, (4096 - z.1.toInt).toNat < n ∧ F_VR_print_L43 t0_0 t0_1 t0_2 t0_3 t0_4 t0_5 t0_6 t0_7 t0_8 t0_9 t0_10 t0_11 t0_12 t0_13 t0_14 t0_15 t0_16 t0_17 t0_18 t0_19 t0_20 t0_21 t1_0 t2_0 t3_0 t4_0 t5_0 t6_0 t7_0 t8_0 t9_0 p96 y62 y63 a60 y64 y65 y66 y67 y68 y69 y70 y71 y72 y73 y74 y75 y76 y77 y78 f79 f81 f83 lx126 n z.1 z.2 = (F_VR_print t0_0 t0_1 t0_2 t0_3 t0_4 t0_5 t0_6 t0_7 t0_8 t0_9 t0_10 t0_11 t0_12 t0_13 t0_14 t0_15 t0_16 t0_17 t0_18 t0_19 t0_20 t0_21 t1_0 t2_0 t3_0 t4_0 t5_0 t6_0 t7_0 t8_0 t9_0) ∧ True ∧ S_VR_print_L43 t0_0 t0_1 t0_2 t0_3 t0_4 t0_5 t0_6 t0_7 t0_8 t0_9 t0_10 t0_11 t0_12 t0_13 t0_14 t0_15 t0_16 t0_17 t0_18 t0_19 t0_20 t0_21 t1_0 t2_0 t3_0 t4_0 t5_0 t6_0 t7_0 t8_0 t9_0 p96 y62 y63 a60 y64 y65 y66 y67 y68 y69 y70 y71 y72 y73 y74 y75 y76 y77 y78 f79 f81 f83 lx126 n z.1 z.2)) (fun z => (4096 - z.1.toInt).toNat) ?_ ((0 : Int32), (t6_0 : (Nat → Int32))) _ _ _ w145 ⟨(show q_F (0 ≤ 4096) from (show 0 ≤ 4096 from by omega)), (show q_F (0 ≤ y62.toInt) from (show 0 ≤ y62.toInt from by have t1 : 0 ≤ y62.toInt := b85; omega)), (show q_F (y63.toInt ≤ 0) from (show y63.toInt ≤ 0 from by have t1 : y63.toInt ≤ 0 := b149; omega)), V, q_lw hl (q_lw1 0 rfl (q_lw1 1 rfl q_lw0)), hI, hF, hO61, hT1, hT2, hT3, hT4, hT5, hT6, hA80, hA82, hA84, ⟨((4096 - (0 : Int32).toInt).toNat + 1), Nat.lt_succ_self _, (show F_VR_print_L43 t0_0 t0_1 t0_2 t0_3 t0_4 t0_5 t0_6 t0_7 t0_8 t0_9 t0_10 t0_11 t0_12 t0_13 t0_14 t0_15 t0_16 t0_17 t0_18 t0_19 t0_20 t0_21 t1_0 t2_0 t3_0 t4_0 t5_0 t6_0 t7_0 t8_0 t9_0 p96 y62 y63 a60 y64 y65 y66 y67 y68 y69 y70 y71 y72 y73 y74 y75 y76 y77 y78 f79 f81 f83 lx126 ((4096 - (0 : Int32).toInt).toNat + 1) 0 t6_0 = (F_VR_print t0_0 t0_1 t0_2 t0_3 t0_4 t0_5 t0_6 t0_7 t0_8 t0_9 t0_10 t0_11 t0_12 t0_13 t0_14 t0_15 t0_16 t0_17 t0_18 t0_19 t0_20 t0_21 t1_0 t2_0 t3_0 t4_0 t5_0 t6_0 t7_0 t8_0 t9_0) from Eq.trans (by rw [F_VR_print_J29.eq_1, if_pos c148]) hR140), (show True ∧ S_VR_print_L43 t0_0 t0_1 t0_2 t0_3 t0_4 t0_5 t0_6 t0_7 t0_8 t0_9 t0_10 t0_11 t0_12 t0_13 t0_14 t0_15 t0_16 t0_17 t0_18 t0_19 t0_20 t0_21 t1_0 t2_0 t3_0 t4_0 t5_0 t6_0 t7_0 t8_0 t9_0 p96 y62 y63 a60 y64 y65 y66 y67 y68 y69 y70 y71 y72 y73 y74 y75 y76 y77 y78 f79 f81 f83 lx126 ((4096 - (0 : Int32).toInt).toNat + 1) 0 t6_0 from (by have h := hS141; rw [S_VR_print_J29.eq_1] at h; replace h := q_s2 h; rw [if_pos c148] at h; with_reducible exact h))⟩⟩
      rintro ⟨lx151, lx152⟩ H locs ls w157 ⟨i153, i154, i155, V, hl, hI, hF, hO158, hO159, hO160, hO161, hO162, hO163, hO164, hO165, hO166, hO167, ⟨fu170, hf171, hR168, hS169⟩⟩ ih156
      obtain ⟨fm172, rfl⟩ : ∃ m, fu170 = m + 1 := ⟨fu170 - 1, by omega⟩
      replace i153 : q_F (lx151.toInt ≤ 4096) := i153
      clear i154
      replace i155 : q_F (y63.toInt ≤ lx151.toInt) := i155
      replace hl : lv_has ls 2 [(1, .int lx151), (0, .ref (q 157))] := hl
      replace hO158 : w157[157]? = (some (q 157, .inr (17, [.int 0, .ref (q 158), .int t0_1, .int t0_2, .ref (q 159), .ref (q 160), .ref (q 161), .ref (q 162), .ref (q 163), .int lx126, .ref (q 164), .int y62, .int y63, .int a60, .int y64, .int y65, .int y66, .int y67, .int y68, .int y69, .int y70, .int y71, .int y72, .int y73, .ref (q 165), .int y74, .int y75, .int y76, .ref (q 166), .int y77, .int y78])) : Option (Nat × va_E)) := hO158
      replace hO159 : w157[158]? = (some (q 158, .inl (g 0, (256 : Int32).toNatClampNeg, .inl t1_0)) : Option (Nat × va_E)) := hO159
      replace hO160 : w157[159]? = (some (q 159, .inl (g 0, (9 : Int32).toNatClampNeg, .inl t2_0)) : Option (Nat × va_E)) := hO160
      replace hO161 : w157[160]? = (some (q 160, .inl (g 0, (9 : Int32).toNatClampNeg, .inl t3_0)) : Option (Nat × va_E)) := hO161
      replace hO162 : w157[161]? = (some (q 161, .inl (g 1, 9, .inr (.inl t4_0))) : Option (Nat × va_E)) := hO162
      replace hO163 : w157[162]? = (some (q 162, .inl (g 0, (576 : Int32).toNatClampNeg, .inl t5_0)) : Option (Nat × va_E)) := hO163
      replace hO164 : w157[163]? = (some (q 163, .inl (g 0, (4096 : Int32).toNatClampNeg, .inl lx152)) : Option (Nat × va_E)) := hO164
      replace hO165 : w157[164]? = (some (q 164, .inl (g 0, (4096 : Int32).toNatClampNeg, .inl f79)) : Option (Nat × va_E)) := hO165
      replace hO166 : w157[165]? = (some (q 165, .inl (g 0, (20200 : Int32).toNatClampNeg, .inl f81)) : Option (Nat × va_E)) := hO166
      replace hO167 : w157[166]? = (some (q 166, .inl (g 0, (64 : Int32).toNatClampNeg, .inl f83)) : Option (Nat × va_E)) := hO167
      refine lv_iload_n hx hb d_16_41_43 rfl (lv_at hl 0 rfl) ?_
      refine lv_aload_n hx hb d_16_41_44 rfl (lv_at hl 1 rfl) ?_
      refine q_get (ci := 17) (j := 11) (v := .int y62) C0 V i_VR rfl rfl hO158 (by decide) w_2213 rfl d_16_41_45 ?_
      refine lv_icmp_ge (tgt := 69) hx hb d_16_41_48 (by decide) (fun c173 => ?_) (fun c173 => ?_)
      ·
        refine lv_aload_n hx hb d_16_41_69 rfl (lv_at hl 1 rfl) ?_
        refine q_get (ci := 17) (j := 9) (v := .int lx126) C0 V i_VR rfl rfl hO158 (by decide) w_2211 rfl d_16_41_70 ?_
        exact q_reti C0 V (⟨hI, hF, 0, lx126, y62, y63, a60, y64, y65, y66, y67, y68, y69, y70, y71, y72, y73, y74, y75, y76, y77, y78, lx152, f79, f81, f83, hO158, hO164, hO165, hO166, hO167, (show 0 ≤ (0 : Int32).toInt from (by have z32 : (0 : Int32).toInt = 0 := rfl; omega)), (show (0 : Int32).toInt ≤ 0 from (by have z32 : (0 : Int32).toInt = 0 := rfl; omega)), (show a60.toInt + 1 ≤ t0_1.toInt from (by have z32 : (0 : Int32).toInt = 0 := rfl; have t1 : a60.toInt + 1 ≤ t0_1.toInt := b92; omega)), (show (0 : Int32).toInt ≤ lx126.toInt + 1 from (by have z32 : (0 : Int32).toInt = 0 := rfl; have t1 : 0 ≤ lx126.toInt := i138; omega)), (show lx126.toInt ≤ lx126.toInt from (by have z32 : (0 : Int32).toInt = 0 := rfl; omega)), (show lx126.toInt ≤ (0 : Int32).toInt + 4096 from (by have z32 : (0 : Int32).toInt = 0 := rfl; have t1 : lx126.toInt ≤ 4096 := ob147; omega)), (show (0 : Int32).toInt ≤ lx126.toInt from (by have z32 : (0 : Int32).toInt = 0 := rfl; have t1 : 0 ≤ lx126.toInt := i138; omega)), (show y63.toInt ≤ (0 : Int32).toInt + 12 from (by have z32 : (0 : Int32).toInt = 0 := rfl; have t1 : y63.toInt ≤ 12 := b87; omega)), (show (0 : Int32).toInt ≤ y63.toInt from (by have z32 : (0 : Int32).toInt = 0 := rfl; have t1 : 0 ≤ y63.toInt := b86; omega)), (show y67.toInt ≤ (0 : Int32).toInt + 1 from (by have z32 : (0 : Int32).toInt = 0 := rfl; have t1 : y67.toInt ≤ 1 := b89; omega)), (show (0 : Int32).toInt ≤ y67.toInt from (by have z32 : (0 : Int32).toInt = 0 := rfl; have t1 : 0 ≤ y67.toInt := b88; omega)), (show y76.toInt ≤ (0 : Int32).toInt + 1 from (by have z32 : (0 : Int32).toInt = 0 := rfl; have t1 : y76.toInt ≤ 1 := b91; omega)), (show (0 : Int32).toInt ≤ y76.toInt from (by have z32 : (0 : Int32).toInt = 0 := rfl; have t1 : 0 ≤ y76.toInt := b90; omega)), (show lx126.toInt ≤ y62.toInt from (by have z32 : (0 : Int32).toInt = 0 := rfl; have t1 : lx126.toInt ≤ y62.toInt := i139; omega)), (show a60.toInt ≤ y63.toInt + 254 from (by have z32 : (0 : Int32).toInt = 0 := rfl; have t1 : a60.toInt ≤ y63.toInt + 254 := b93; omega)), (show (lx126, (0 : Int32), lx126, y62, y63, a60, y64, y65, y66, y67, y68, y69, y70, y71, y72, y73, y74, y75, y76, y77, y78, lx152, f79, f81, f83) = (F_VR_print t0_0 t0_1 t0_2 t0_3 t0_4 t0_5 t0_6 t0_7 t0_8 t0_9 t0_10 t0_11 t0_12 t0_13 t0_14 t0_15 t0_16 t0_17 t0_18 t0_19 t0_20 t0_21 t1_0 t2_0 t3_0 t4_0 t5_0 t6_0 t7_0 t8_0 t9_0) from Eq.trans (by rw [F_VR_print_L43.eq_2, if_pos c173]) hR168)⟩) d_16_41_73
      ·
        have b175 : q_F (lx151.toInt < y62.toInt) := (q_nleI c173)
        refine lv_aload_n hx hb d_16_41_51 rfl (lv_at hl 1 rfl) ?_
        refine q_get (ci := 17) (j := 8) (v := .ref (q 163)) C0 V i_VR rfl rfl hO158 (by decide) w_2209 rfl d_16_41_52 ?_
        refine lv_iload_n hx hb d_16_41_55 rfl (lv_at hl 0 rfl) ?_
        refine lv_aload_n hx hb d_16_41_56 rfl (lv_at hl 1 rfl) ?_
        refine q_get (ci := 17) (j := 10) (v := .ref (q 164)) C0 V i_VR rfl rfl hO158 (by decide) w_2212 rfl d_16_41_57 ?_
        refine lv_iload_n hx hb d_16_41_60 rfl (lv_at hl 0 rfl) ?_
        have ob176 : q_F (lx151.toInt ≤ 4095) := (by have h := hS169; rw [S_VR_print_L43.eq_2] at h; rw [if_neg c173] at h; exact h.2.1)
        refine q_iald C0 V hO165 (q_ix (x := lx151.toInt) rfl (by have t1 : 0 ≤ y63.toInt := b86; have t2 : y63.toInt ≤ lx151.toInt := i155; omega) (by have t1 : 0 ≤ y63.toInt := b86; have t2 : y63.toInt ≤ lx151.toInt := i155; have t3 : lx151.toInt ≤ 4095 := ob176; have e9 : (((4096 : Int32).toNatClampNeg : Nat) : Int) = 4096 := (by decide); omega)) d_16_41_61 ?_
        obtain ⟨a177, e178⟩ := q_nm (f79 lx151.toNatClampNeg : Int32)
        refine q_ti (v := a177) e178 ?_
        refine q_iast C0 V hO164 (q_ix (x := lx151.toInt) rfl (by have t1 : 0 ≤ y63.toInt := b86; have t2 : y63.toInt ≤ lx151.toInt := i155; omega) (by have t1 : 0 ≤ y63.toInt := b86; have t2 : y63.toInt ≤ lx151.toInt := i155; have t3 : lx151.toInt ≤ 4095 := ob176; have e9 : (((4096 : Int32).toNatClampNeg : Nat) : Int) = 4096 := (by decide); omega)) d_16_41_62 (fun H locs w179 hu180 hO164 V => ?_)
        replace hI := n_ai' hI (n_r163 g q).1 hu180 hO164 (q_updB (fun _ => s_bnd) s_bnd)
        replace hO158 := (hu180 _ (by decide)).trans hO158
        replace hO159 := (hu180 _ (by decide)).trans hO159
        replace hO160 := (hu180 _ (by decide)).trans hO160
        replace hO161 := (hu180 _ (by decide)).trans hO161
        replace hO162 := (hu180 _ (by decide)).trans hO162
        replace hO163 := (hu180 _ (by decide)).trans hO163
        replace hO165 := (hu180 _ (by decide)).trans hO165
        replace hO166 := (hu180 _ (by decide)).trans hO166
        replace hO167 := (hu180 _ (by decide)).trans hO167
        replace hF := q_us hF hu180 (by simp)
        obtain ⟨f181, e182⟩ := q_nm (upd lx152 lx151.toNatClampNeg a177 : (Nat → Int32))
        rw [e182] at hO164
        obtain ⟨a183, e184⟩ := q_nm (lx151 + 1 : Int32)
        have b185 : q_F (a183.toInt = lx151.toInt + 1) := (by rw [← e184]; exact q_addI (y := 1) rfl (by decide) (by have _ := q_lo32 (x := lx151); have _ := q_hi32 (x := lx151); have t1 : lx151.toInt ≤ 4096 := i153; omega) (by have _ := q_lo32 (x := lx151); have _ := q_hi32 (x := lx151); have t1 : lx151.toInt ≤ 4096 := i153; omega))
        refine lv_iinc (v := a183) (lv' := [(1, .int a183), (0, .ref (q 157))]) hx hb d_16_41_63 hl (k := 0) rfl (e184) (by decide) rfl (fun ls hl => ?_)
        refine lv_goto (tgt := 43) hx hb d_16_41_66 (by decide) ?_
        exact ih156 ((a183 : Int32), (f181 : (Nat → Int32))) _ _ _ _ (show (4096 - a183.toInt).toNat < (4096 - lx151.toInt).toNat from by have t1 : a183.toInt = lx151.toInt + 1 := b185; have t2 : lx151.toInt ≤ 4096 := i153; have t3 : lx151.toInt ≤ 4095 := ob176; omega) ⟨(show q_F (a183.toInt ≤ 4096) from (show a183.toInt ≤ 4096 from by have t1 : lx151.toInt ≤ 4095 := ob176; have t2 : a183.toInt = lx151.toInt + 1 := b185; omega)), (show q_F (a183.toInt ≤ y62.toInt) from (show a183.toInt ≤ y62.toInt from by have t1 : lx151.toInt < y62.toInt := b175; have t2 : a183.toInt = lx151.toInt + 1 := b185; omega)), (show q_F (y63.toInt ≤ a183.toInt) from (show y63.toInt ≤ a183.toInt from by have t1 : y63.toInt ≤ lx151.toInt := i155; have t2 : a183.toInt = lx151.toInt + 1 := b185; omega)), V, q_lw hl (q_lw1 0 rfl (q_lw1 1 rfl q_lw0)), hI, hF, hO158, hO159, hO160, hO161, hO162, hO163, hO164, hO165, hO166, hO167, ⟨fm172, Nat.lt_of_lt_of_le (show (4096 - a183.toInt).toNat < (4096 - lx151.toInt).toNat from by have t1 : a183.toInt = lx151.toInt + 1 := b185; have t2 : lx151.toInt ≤ 4096 := i153; have t3 : lx151.toInt ≤ 4095 := ob176; omega) (Nat.le_of_lt_succ hf171), (show F_VR_print_L43 t0_0 t0_1 t0_2 t0_3 t0_4 t0_5 t0_6 t0_7 t0_8 t0_9 t0_10 t0_11 t0_12 t0_13 t0_14 t0_15 t0_16 t0_17 t0_18 t0_19 t0_20 t0_21 t1_0 t2_0 t3_0 t4_0 t5_0 t6_0 t7_0 t8_0 t9_0 p96 y62 y63 a60 y64 y65 y66 y67 y68 y69 y70 y71 y72 y73 y74 y75 y76 y77 y78 f79 f81 f83 lx126 fm172 a183 f181 = (F_VR_print t0_0 t0_1 t0_2 t0_3 t0_4 t0_5 t0_6 t0_7 t0_8 t0_9 t0_10 t0_11 t0_12 t0_13 t0_14 t0_15 t0_16 t0_17 t0_18 t0_19 t0_20 t0_21 t1_0 t2_0 t3_0 t4_0 t5_0 t6_0 t7_0 t8_0 t9_0) from Eq.trans (by rw [← e184, ← e182, ← e178, F_VR_print_L43.eq_2, if_neg c173]) hR168), (show True ∧ S_VR_print_L43 t0_0 t0_1 t0_2 t0_3 t0_4 t0_5 t0_6 t0_7 t0_8 t0_9 t0_10 t0_11 t0_12 t0_13 t0_14 t0_15 t0_16 t0_17 t0_18 t0_19 t0_20 t0_21 t1_0 t2_0 t3_0 t4_0 t5_0 t6_0 t7_0 t8_0 t9_0 p96 y62 y63 a60 y64 y65 y66 y67 y68 y69 y70 y71 y72 y73 y74 y75 y76 y77 y78 f79 f81 f83 lx126 fm172 a183 f181 from (by rw [← e184, ← e182, ← e178]; have h := hS169; rw [S_VR_print_L43.eq_2] at h; rw [if_neg c173] at h; replace h := q_s2 h; with_reducible exact h))⟩⟩
    ·
      refine lv_iconst (v := (-1)) hx hb d_16_41_39 (by decide) ?_
      exact q_reti C0 V (⟨hI, hF, 0, lx126, y62, y63, a60, y64, y65, y66, y67, y68, y69, y70, y71, y72, y73, y74, y75, y76, y77, y78, t6_0, f79, f81, f83, hO61, hT6, hA80, hA82, hA84, (show 0 ≤ (0 : Int32).toInt from (by have z31 : (-1 : Int32).toInt = -1 := rfl; have z32 : (0 : Int32).toInt = 0 := rfl; omega)), (show (0 : Int32).toInt ≤ 0 from (by have z31 : (-1 : Int32).toInt = -1 := rfl; have z32 : (0 : Int32).toInt = 0 := rfl; omega)), (show a60.toInt + 1 ≤ t0_1.toInt from (by have z31 : (-1 : Int32).toInt = -1 := rfl; have z32 : (0 : Int32).toInt = 0 := rfl; have t1 : a60.toInt + 1 ≤ t0_1.toInt := b92; omega)), (show (0 : Int32).toInt ≤ (-1 : Int32).toInt + 1 from (by have z31 : (-1 : Int32).toInt = -1 := rfl; have z32 : (0 : Int32).toInt = 0 := rfl; omega)), (show (-1 : Int32).toInt ≤ lx126.toInt from (by have z31 : (-1 : Int32).toInt = -1 := rfl; have z32 : (0 : Int32).toInt = 0 := rfl; have t1 : 0 ≤ lx126.toInt := i138; omega)), (show lx126.toInt ≤ (0 : Int32).toInt + 4096 from (by have z31 : (-1 : Int32).toInt = -1 := rfl; have z32 : (0 : Int32).toInt = 0 := rfl; have t1 : lx126.toInt ≤ 4096 := ob147; omega)), (show (0 : Int32).toInt ≤ lx126.toInt from (by have z31 : (-1 : Int32).toInt = -1 := rfl; have z32 : (0 : Int32).toInt = 0 := rfl; have t1 : 0 ≤ lx126.toInt := i138; omega)), (show y63.toInt ≤ (0 : Int32).toInt + 12 from (by have z31 : (-1 : Int32).toInt = -1 := rfl; have z32 : (0 : Int32).toInt = 0 := rfl; have t1 : y63.toInt ≤ 12 := b87; omega)), (show (0 : Int32).toInt ≤ y63.toInt from (by have z31 : (-1 : Int32).toInt = -1 := rfl; have z32 : (0 : Int32).toInt = 0 := rfl; have t1 : 0 ≤ y63.toInt := b86; omega)), (show y67.toInt ≤ (0 : Int32).toInt + 1 from (by have z31 : (-1 : Int32).toInt = -1 := rfl; have z32 : (0 : Int32).toInt = 0 := rfl; have t1 : y67.toInt ≤ 1 := b89; omega)), (show (0 : Int32).toInt ≤ y67.toInt from (by have z31 : (-1 : Int32).toInt = -1 := rfl; have z32 : (0 : Int32).toInt = 0 := rfl; have t1 : 0 ≤ y67.toInt := b88; omega)), (show y76.toInt ≤ (0 : Int32).toInt + 1 from (by have z31 : (-1 : Int32).toInt = -1 := rfl; have z32 : (0 : Int32).toInt = 0 := rfl; have t1 : y76.toInt ≤ 1 := b91; omega)), (show (0 : Int32).toInt ≤ y76.toInt from (by have z31 : (-1 : Int32).toInt = -1 := rfl; have z32 : (0 : Int32).toInt = 0 := rfl; have t1 : 0 ≤ y76.toInt := b90; omega)), (show lx126.toInt ≤ y62.toInt from (by have z31 : (-1 : Int32).toInt = -1 := rfl; have z32 : (0 : Int32).toInt = 0 := rfl; have t1 : lx126.toInt ≤ y62.toInt := i139; omega)), (show a60.toInt ≤ y63.toInt + 254 from (by have z31 : (-1 : Int32).toInt = -1 := rfl; have z32 : (0 : Int32).toInt = 0 := rfl; have t1 : a60.toInt ≤ y63.toInt + 254 := b93; omega)), (show ((-1 : Int32), (0 : Int32), lx126, y62, y63, a60, y64, y65, y66, y67, y68, y69, y70, y71, y72, y73, y74, y75, y76, y77, y78, t6_0, f79, f81, f83) = (F_VR_print t0_0 t0_1 t0_2 t0_3 t0_4 t0_5 t0_6 t0_7 t0_8 t0_9 t0_10 t0_11 t0_12 t0_13 t0_14 t0_15 t0_16 t0_17 t0_18 t0_19 t0_20 t0_21 t1_0 t2_0 t3_0 t4_0 t5_0 t6_0 t7_0 t8_0 t9_0) from Eq.trans (by rw [F_VR_print_J29.eq_1, if_neg c148]) hR140)⟩) d_16_41_40
  ·
    intro J137
    refine lv_if_le (tgt := 25) hx hb d_16_41_18 (by decide) (fun c187 => ?_) (fun c187 => ?_)
    ·
      refine lv_aload_n hx hb d_16_41_25 rfl (lv_at hl 0 rfl) ?_
      refine q_get (ci := 17) (j := 11) (v := .int y62) C0 V i_VR rfl rfl hO61 (by decide) w_2213 rfl d_16_41_26 ?_
      exact J137 ((y62 : Int32)) _ _ _ w124 ⟨(show q_F (0 ≤ y62.toInt) from (show 0 ≤ y62.toInt from by have t1 : 0 ≤ y62.toInt := b85; omega)), (show q_F (y62.toInt ≤ y62.toInt) from (show y62.toInt ≤ y62.toInt from by omega)), V, q_lw hl (q_lw1 0 rfl q_lw0), (show F_VR_print_J29 t0_0 t0_1 t0_2 t0_3 t0_4 t0_5 t0_6 t0_7 t0_8 t0_9 t0_10 t0_11 t0_12 t0_13 t0_14 t0_15 t0_16 t0_17 t0_18 t0_19 t0_20 t0_21 t1_0 t2_0 t3_0 t4_0 t5_0 t6_0 t7_0 t8_0 t9_0 p96 y62 y63 a60 y64 y65 y66 y67 y68 y69 y70 y71 y72 y73 y74 y75 y76 y77 y78 f79 f81 f83 y62 = (F_VR_print t0_0 t0_1 t0_2 t0_3 t0_4 t0_5 t0_6 t0_7 t0_8 t0_9 t0_10 t0_11 t0_12 t0_13 t0_14 t0_15 t0_16 t0_17 t0_18 t0_19 t0_20 t0_21 t1_0 t2_0 t3_0 t4_0 t5_0 t6_0 t7_0 t8_0 t9_0) from Eq.trans (by have c187x := c187; rw [e100] at c187x; rw [e118, e117, e116, e115, e114, e113, e112, e111, e110, e109, e108, e107, e106, e105, e104, e103, e102, e101, e100, e99, e98, F_VR_print_c7.eq_1, if_pos c187x]) hR119), (show True ∧ S_VR_print_J29 t0_0 t0_1 t0_2 t0_3 t0_4 t0_5 t0_6 t0_7 t0_8 t0_9 t0_10 t0_11 t0_12 t0_13 t0_14 t0_15 t0_16 t0_17 t0_18 t0_19 t0_20 t0_21 t1_0 t2_0 t3_0 t4_0 t5_0 t6_0 t7_0 t8_0 t9_0 p96 y62 y63 a60 y64 y65 y66 y67 y68 y69 y70 y71 y72 y73 y74 y75 y76 y77 y78 f79 f81 f83 y62 from (by rw [e118, e117, e116, e115, e114, e113, e112, e111, e110, e109, e108, e107, e106, e105, e104, e103, e102, e101, e100, e99, e98]; have h := hS120; rw [S_VR_print_c7.eq_1] at h; have c187x := c187; rw [e100] at c187x; rw [if_pos c187x] at h; with_reducible exact h))⟩
    ·
      refine lv_iconst (v := 0) hx hb d_16_41_21 (by decide) ?_
      refine lv_goto (tgt := 29) hx hb d_16_41_22 (by decide) ?_
      exact J137 ((0 : Int32)) _ _ _ w124 ⟨(show q_F (0 ≤ 0) from (show 0 ≤ 0 from by omega)), (show q_F (0 ≤ y62.toInt) from (show 0 ≤ y62.toInt from by have t1 : 0 ≤ y62.toInt := b85; omega)), V, q_lw hl (q_lw1 0 rfl q_lw0), (show F_VR_print_J29 t0_0 t0_1 t0_2 t0_3 t0_4 t0_5 t0_6 t0_7 t0_8 t0_9 t0_10 t0_11 t0_12 t0_13 t0_14 t0_15 t0_16 t0_17 t0_18 t0_19 t0_20 t0_21 t1_0 t2_0 t3_0 t4_0 t5_0 t6_0 t7_0 t8_0 t9_0 p96 y62 y63 a60 y64 y65 y66 y67 y68 y69 y70 y71 y72 y73 y74 y75 y76 y77 y78 f79 f81 f83 0 = (F_VR_print t0_0 t0_1 t0_2 t0_3 t0_4 t0_5 t0_6 t0_7 t0_8 t0_9 t0_10 t0_11 t0_12 t0_13 t0_14 t0_15 t0_16 t0_17 t0_18 t0_19 t0_20 t0_21 t1_0 t2_0 t3_0 t4_0 t5_0 t6_0 t7_0 t8_0 t9_0) from Eq.trans (by have c187x := c187; rw [e100] at c187x; rw [e118, e117, e116, e115, e114, e113, e112, e111, e110, e109, e108, e107, e106, e105, e104, e103, e102, e101, e100, e99, e98, F_VR_print_c7.eq_1, if_neg c187x]) hR119), (show True ∧ S_VR_print_J29 t0_0 t0_1 t0_2 t0_3 t0_4 t0_5 t0_6 t0_7 t0_8 t0_9 t0_10 t0_11 t0_12 t0_13 t0_14 t0_15 t0_16 t0_17 t0_18 t0_19 t0_20 t0_21 t1_0 t2_0 t3_0 t4_0 t5_0 t6_0 t7_0 t8_0 t9_0 p96 y62 y63 a60 y64 y65 y66 y67 y68 y69 y70 y71 y72 y73 y74 y75 y76 y77 y78 f79 f81 f83 0 from (by rw [e118, e117, e116, e115, e114, e113, e112, e111, e110, e109, e108, e107, e106, e105, e104, e103, e102, e101, e100, e99, e98]; have h := hS120; rw [S_VR_print_c7.eq_1] at h; have c187x := c187; rw [e100] at c187x; rw [if_neg c187x] at h; with_reducible exact h))⟩

/-! DirectiveRows: put, word, spread, keep -/
def Q_VR_put (t0_17 : Int32) (p : Int32 × (Nat → Int32)) : Prop := p.1.toInt = t0_17.toInt + 1
theorem T_VR_put {x2 : Int32} {t0_0 : Int32} {t0_1 : Int32} {t0_2 : Int32} {t0_3 : Int32} {t0_4 : Int32} {t0_5 : Int32} {t0_6 : Int32} {t0_7 : Int32} {t0_8 : Int32} {t0_9 : Int32} {t0_10 : Int32} {t0_11 : Int32} {t0_12 : Int32} {t0_13 : Int32} {t0_14 : Int32} {t0_15 : Int32} {t0_16 : Int32} {t0_17 : Int32} {t0_18 : Int32} {t0_19 : Int32} {t0_20 : Int32} {t0_21 : Int32} {t1_0 : (Nat → Int32)} (hL : 0 ≤ t0_17.toInt ∧ t0_17.toInt ≤ 20198) : (S_VR_put x2 t0_0 t0_1 t0_2 t0_3 t0_4 t0_5 t0_6 t0_7 t0_8 t0_9 t0_10 t0_11 t0_12 t0_13 t0_14 t0_15 t0_16 t0_17 t0_18 t0_19 t0_20 t0_21 t1_0) ∧ Q_VR_put t0_17 (F_VR_put x2 t0_0 t0_1 t0_2 t0_3 t0_4 t0_5 t0_6 t0_7 t0_8 t0_9 t0_10 t0_11 t0_12 t0_13 t0_14 t0_15 t0_16 t0_17 t0_18 t0_19 t0_20 t0_21 t1_0) := by
  have e0 : (0 : Int32).toInt = 0 := rfl
  have e1 : (1 : Int32).toInt = 1 := rfl
  have eL0 : (0 : Int64).toInt = 0 := rfl
  have em : (-1 : Int32).toInt = -1 := rfl
  unfold S_VR_put F_VR_put
  refine v_cons (by first | omega | decide) ?_
  refine v_cons (by first | omega | decide) ?_
  refine ⟨trivial, ?_⟩
  (unfold Q_VR_put; dsimp only; exact q_addI (y := 1) rfl (by decide) (by omega) (by omega))
def Q_VR_word (t0_17 : Int32) (p : Int32 × (Nat → Int32)) : Prop := t0_17.toInt ≤ p.1.toInt ∧ p.1.toInt ≤ t0_17.toInt + 8
theorem vv_wd {x2 : Int64} {t0_0 : Int32} {t0_1 : Int32} {t0_2 : Int32} {t0_3 : Int32} {t0_4 : Int32} {t0_5 : Int32} {t0_6 : Int32} {t0_7 : Int32} {t0_8 : Int32} {t0_9 : Int32} {t0_10 : Int32} {t0_11 : Int32} {t0_12 : Int32} {t0_13 : Int32} {t0_14 : Int32} {t0_15 : Int32} {t0_16 : Int32} {t0_17 : Int32} {t0_18 : Int32} {t0_19 : Int32} {t0_20 : Int32} {t0_21 : Int32} {t1_0 : (Nat → Int32)} (hL : 0 ≤ t0_17.toInt ∧ t0_17.toInt ≤ 20100) : ∀ (n : Nat) (lx33 : Int64) (lx34 : Int32) (lx35 : (Nat → Int32)), (0 ≤ lx33.toInt) → (∃ j : Nat, lx33.toInt < 256 ^ j ∧ j < n ∧ lx34.toInt + (j : Int) ≤ t0_17.toInt + 8) → (t0_17.toInt ≤ lx34.toInt) → (S_VR_word_L2 x2 t0_0 t0_1 t0_2 t0_3 t0_4 t0_5 t0_6 t0_7 t0_8 t0_9 t0_10 t0_11 t0_12 t0_13 t0_14 t0_15 t0_16 t0_17 t0_18 t0_19 t0_20 t0_21 t1_0 n lx33 lx34 lx35) ∧ Q_VR_word t0_17 (F_VR_word_L2 x2 t0_0 t0_1 t0_2 t0_3 t0_4 t0_5 t0_6 t0_7 t0_8 t0_9 t0_10 t0_11 t0_12 t0_13 t0_14 t0_15 t0_16 t0_17 t0_18 t0_19 t0_20 t0_21 t1_0 n lx33 lx34 lx35) := by
  intro n
  induction n with
  | zero => intro lx33 lx34 lx35 hx hj h0; obtain ⟨j, -, a, -⟩ := hj; omega
  | succ n ih =>
    intro lx33 lx34 lx35 hx hj h0
    have e0 : (0 : Int32).toInt = 0 := rfl
    have e1 : (1 : Int32).toInt = 1 := rfl
    have eL0 : (0 : Int64).toInt = 0 := rfl
    have em : (-1 : Int32).toInt = -1 := rfl
    have h8 : lx34.toInt ≤ t0_17.toInt + 8 := by obtain ⟨j, a, b, c⟩ := hj; omega
    rw [S_VR_word_L2.eq_2, F_VR_word_L2.eq_2]
    by_cases g1 : (lg_cmp lx33 0 : Int32) = (0 : Int32)
    ·
      rw [if_pos g1, if_pos g1]
      refine ⟨trivial, ?_⟩
      (unfold Q_VR_word; dsimp only; exact ⟨by omega, by omega⟩)
    ·
      rw [if_neg g1, if_neg g1]
      have nz := fl_lnz g1
      have h2 := T_VR_put (x2 := ((lx33 &&& 255 : Int64).toInt32 : Int32)) (t0_0 := t0_0) (t0_1 := t0_1) (t0_2 := t0_2) (t0_3 := t0_3) (t0_4 := t0_4) (t0_5 := t0_5) (t0_6 := t0_6) (t0_7 := t0_7) (t0_8 := t0_8) (t0_9 := t0_9) (t0_10 := t0_10) (t0_11 := t0_11) (t0_12 := t0_12) (t0_13 := t0_13) (t0_14 := t0_14) (t0_15 := t0_15) (t0_16 := t0_16) (t0_17 := lx34) (t0_18 := t0_18) (t0_19 := t0_19) (t0_20 := t0_20) (t0_21 := t0_21) (t1_0 := lx35) ⟨by first | omega | decide, by first | omega | decide⟩
      with_reducible refine v_owe h2.1 ?_
      replace h2 := h2.2
      generalize F_VR_put ((lx33 &&& 255 : Int64).toInt32 : Int32) t0_0 t0_1 t0_2 t0_3 t0_4 t0_5 t0_6 t0_7 t0_8 t0_9 t0_10 t0_11 t0_12 t0_13 t0_14 t0_15 t0_16 lx34 t0_18 t0_19 t0_20 t0_21 lx35 = p70 at *
      unfold Q_VR_put at h2
      unfold S_VR_word_c15 F_VR_word_c15
      obtain ⟨j, a, b, c⟩ := hj; have q := tr_256 a (by omega); exact ih _ _ _ (by rw [tr_shr8]; omega) ⟨j - 1, by rw [tr_shr8]; exact q.2, by omega, by omega⟩ (by omega)
theorem T_VR_word {x2 : Int64} {t0_0 : Int32} {t0_1 : Int32} {t0_2 : Int32} {t0_3 : Int32} {t0_4 : Int32} {t0_5 : Int32} {t0_6 : Int32} {t0_7 : Int32} {t0_8 : Int32} {t0_9 : Int32} {t0_10 : Int32} {t0_11 : Int32} {t0_12 : Int32} {t0_13 : Int32} {t0_14 : Int32} {t0_15 : Int32} {t0_16 : Int32} {t0_17 : Int32} {t0_18 : Int32} {t0_19 : Int32} {t0_20 : Int32} {t0_21 : Int32} {t1_0 : (Nat → Int32)} (hL : 0 ≤ t0_17.toInt ∧ t0_17.toInt ≤ 20100) (hx : 0 ≤ x2.toInt) : (S_VR_word x2 t0_0 t0_1 t0_2 t0_3 t0_4 t0_5 t0_6 t0_7 t0_8 t0_9 t0_10 t0_11 t0_12 t0_13 t0_14 t0_15 t0_16 t0_17 t0_18 t0_19 t0_20 t0_21 t1_0) ∧ Q_VR_word t0_17 (F_VR_word x2 t0_0 t0_1 t0_2 t0_3 t0_4 t0_5 t0_6 t0_7 t0_8 t0_9 t0_10 t0_11 t0_12 t0_13 t0_14 t0_15 t0_16 t0_17 t0_18 t0_19 t0_20 t0_21 t1_0) := by
  have e0 : (0 : Int32).toInt = 0 := rfl
  have e1 : (1 : Int32).toInt = 1 := rfl
  have eL0 : (0 : Int64).toInt = 0 := rfl
  have em : (-1 : Int32).toInt = -1 := rfl
  unfold S_VR_word F_VR_word
  exact vv_wd hL 1000000 _ _ _ hx ⟨8, tr_lt8, by decide, by omega⟩ (by omega)
theorem T_VR_figureAt {x2 : Int32} {t0_0 : Int32} {t0_1 : Int32} {t0_2 : Int32} {t0_3 : Int32} {t0_4 : Int32} {t0_5 : Int32} {t0_6 : Int32} {t0_7 : Int32} {t0_8 : Int32} {t0_9 : Int32} {t0_10 : Int32} {t0_11 : Int32} {t0_12 : Int32} {t0_13 : Int32} {t0_14 : Int32} {t0_15 : Int32} {t0_16 : Int32} {t0_17 : Int32} {t0_18 : Int32} {t0_19 : Int32} {t0_20 : Int32} {t0_21 : Int32} {t1_0 : (Nat → Int32)} (h20 : t0_20.toInt ≤ 64) : (S_VR_figureAt x2 t0_0 t0_1 t0_2 t0_3 t0_4 t0_5 t0_6 t0_7 t0_8 t0_9 t0_10 t0_11 t0_12 t0_13 t0_14 t0_15 t0_16 t0_17 t0_18 t0_19 t0_20 t0_21 t1_0) := by
  have e0 : (0 : Int32).toInt = 0 := rfl
  have e1 : (1 : Int32).toInt = 1 := rfl
  have eL0 : (0 : Int64).toInt = 0 := rfl
  have em : (-1 : Int32).toInt = -1 := rfl
  unfold S_VR_figureAt
  by_cases g1 : x2 < (0 : Int32)
  ·
    rw [if_pos g1]
    have g1i : x2.toInt < 0 := q_ltI g1
    exact trivial
  ·
    rw [if_neg g1]
    have g1i : 0 ≤ x2.toInt := q_nltI g1
    by_cases g2 : t0_20 ≤ x2
    ·
      rw [if_pos g2]
      have g2i : t0_20.toInt ≤ x2.toInt := q_leI g2
      exact trivial
    ·
      rw [if_neg g2]
      have g2i : x2.toInt < t0_20.toInt := q_nleI g2
      refine And.intro (by first | omega | decide) ?_
      exact trivial
theorem vv_iz {t0_0 : Int32} {t0_1 : Int32} {t0_2 : Int32} {t0_3 : Int32} {t0_4 : Int32} {t0_5 : Int32} {t0_6 : Int32} {t0_7 : Int32} {t0_8 : Int32} {t0_9 : Int32} {t0_10 : Int32} {t0_11 : Int32} {t0_12 : Int32} {t0_13 : Int32} {t0_14 : Int32} {t0_15 : Int32} {t0_16 : Int32} {t0_17 : Int32} {t0_18 : Int32} {t0_19 : Int32} {t0_20 : Int32} {t0_21 : Int32} {t1_0 : (Nat → Int32)} (h20 : t0_20.toInt ≤ 64) : ∀ (n : Nat) (lx34 : Int32) (lx35 : Int32), (0 ≤ lx34.toInt ∧ lx34.toInt ≤ 64) → (64 - lx34.toInt < (n : Int)) → (S_VR_isZero_L4 t0_0 t0_1 t0_2 t0_3 t0_4 t0_5 t0_6 t0_7 t0_8 t0_9 t0_10 t0_11 t0_12 t0_13 t0_14 t0_15 t0_16 t0_17 t0_18 t0_19 t0_20 t0_21 t1_0 n lx34 lx35) := by
  intro n
  induction n with
  | zero => intro lx34 lx35 h0 hm; exact absurd (show False by omega) id
  | succ n ih =>
    intro lx34 lx35 h0 hm
    have e0 : (0 : Int32).toInt = 0 := rfl
    have e1 : (1 : Int32).toInt = 1 := rfl
    have eL0 : (0 : Int64).toInt = 0 := rfl
    have em : (-1 : Int32).toInt = -1 := rfl
    rw [S_VR_isZero_L4.eq_2]
    by_cases g1 : t0_20 ≤ lx34
    ·
      rw [if_pos g1]
      have g1i : t0_20.toInt ≤ lx34.toInt := q_leI g1
      exact trivial
    ·
      rw [if_neg g1]
      have g1i : lx34.toInt < t0_20.toInt := q_nleI g1
      by_cases g2 : lx35 = (0 : Int32)
      ·
        rw [if_pos g2]
        obtain ⟨a3, e4⟩ := q_nm (lx34 + 1 : Int32)
        rw [e4]
        have a3i : a3.toInt = lx34.toInt + 1 := by rw [← e4]; exact q_addI (x := lx34.toInt) (y := 1) rfl (by decide) (by omega) (by omega)
        exact ih _ _ ⟨by omega, by omega⟩ (by omega)
      ·
        rw [if_neg g2]
        refine And.intro (by first | omega | decide) ?_
        by_cases g5 : (t1_0 lx34.toNatClampNeg : Int32) = (0 : Int32)
        ·
          rw [if_pos g5]
          obtain ⟨a6, e7⟩ := q_nm (lx34 + 1 : Int32)
          rw [e7]
          have a6i : a6.toInt = lx34.toInt + 1 := by rw [← e7]; exact q_addI (x := lx34.toInt) (y := 1) rfl (by decide) (by omega) (by omega)
          exact ih _ _ ⟨by omega, by omega⟩ (by omega)
        ·
          rw [if_neg g5]
          obtain ⟨a8, e9⟩ := q_nm (lx34 + 1 : Int32)
          rw [e9]
          have a8i : a8.toInt = lx34.toInt + 1 := by rw [← e9]; exact q_addI (x := lx34.toInt) (y := 1) rfl (by decide) (by omega) (by omega)
          exact ih _ _ ⟨by omega, by omega⟩ (by omega)
theorem T_VR_isZero {t0_0 : Int32} {t0_1 : Int32} {t0_2 : Int32} {t0_3 : Int32} {t0_4 : Int32} {t0_5 : Int32} {t0_6 : Int32} {t0_7 : Int32} {t0_8 : Int32} {t0_9 : Int32} {t0_10 : Int32} {t0_11 : Int32} {t0_12 : Int32} {t0_13 : Int32} {t0_14 : Int32} {t0_15 : Int32} {t0_16 : Int32} {t0_17 : Int32} {t0_18 : Int32} {t0_19 : Int32} {t0_20 : Int32} {t0_21 : Int32} {t1_0 : (Nat → Int32)} (h20 : t0_20.toInt ≤ 64) : (S_VR_isZero t0_0 t0_1 t0_2 t0_3 t0_4 t0_5 t0_6 t0_7 t0_8 t0_9 t0_10 t0_11 t0_12 t0_13 t0_14 t0_15 t0_16 t0_17 t0_18 t0_19 t0_20 t0_21 t1_0) := by
  have e0 : (0 : Int32).toInt = 0 := rfl
  have e1 : (1 : Int32).toInt = 1 := rfl
  have eL0 : (0 : Int64).toInt = 0 := rfl
  have em : (-1 : Int32).toInt = -1 := rfl
  unfold S_VR_isZero
  exact vv_iz h20 _ _ _ (by decide) (by decide)
def Q_VR_keep (t0_20 t0_21 : Int32) (p : Int32 × Int32 × (Nat → Int32)) : Prop := (0 ≤ p.1.toInt ∧ p.1.toInt ≤ t0_20.toInt) ∧ (t0_21.toInt ≤ p.2.1.toInt ∧ p.2.1.toInt ≤ t0_21.toInt + 1)
theorem vv_k2 {K_F_VR_keep_L49 : Int32 → Int32 → (Nat → Int32) → (Int32 × Int32 × (Nat → Int32))} {x2 : Int32} {t0_0 : Int32} {t0_1 : Int32} {t0_2 : Int32} {t0_3 : Int32} {t0_4 : Int32} {t0_5 : Int32} {t0_6 : Int32} {t0_7 : Int32} {t0_8 : Int32} {t0_9 : Int32} {t0_10 : Int32} {t0_11 : Int32} {t0_12 : Int32} {t0_13 : Int32} {t0_14 : Int32} {t0_15 : Int32} {t0_16 : Int32} {t0_17 : Int32} {t0_18 : Int32} {t0_19 : Int32} {t0_20 : Int32} {t0_21 : Int32} {t1_0 : (Nat → Int32)} {lx34 : Int32} {lx45 : Int32} {lx64 : Int32} {lx65 : Int32} {lx66 : (Nat → Int32)} {K_S_VR_keep_L49 : Int32 → Int32 → (Nat → Int32) → Prop} (h20 : 0 ≤ t0_20.toInt ∧ t0_20.toInt ≤ 60) (h21 : -100000 ≤ t0_21.toInt ∧ t0_21.toInt ≤ 100000)(h45 : 0 ≤ lx45.toInt ∧ lx45.toInt ≤ t0_20.toInt)(h46 : lx45.toInt < t0_20.toInt) : ∀ (n : Nat) (lx93 : Int32) (lx94 : (Nat → Int32)), (0 ≤ lx93.toInt ∧ lx93.toInt ≤ 60) → (lx93.toInt + 1 < (n : Int)) → (S_VR_keep_L112 K_S_VR_keep_L49 x2 t0_0 t0_1 t0_2 t0_3 t0_4 t0_5 t0_6 t0_7 t0_8 t0_9 t0_10 t0_11 t0_12 t0_13 t0_14 t0_15 t0_16 t0_17 t0_18 t0_19 t0_20 t0_21 t1_0 lx34 lx45 lx64 lx65 lx66 n lx93 lx94) ∧ Q_VR_keep t0_20 t0_21 (F_VR_keep_L112 K_F_VR_keep_L49 x2 t0_0 t0_1 t0_2 t0_3 t0_4 t0_5 t0_6 t0_7 t0_8 t0_9 t0_10 t0_11 t0_12 t0_13 t0_14 t0_15 t0_16 t0_17 t0_18 t0_19 t0_20 t0_21 t1_0 lx34 lx45 lx64 lx65 lx66 n lx93 lx94) := by
  intro n
  induction n with
  | zero => intro lx93 lx94 h0 hm; exact absurd (show False by omega) id
  | succ n ih =>
    intro lx93 lx94 h0 hm
    have e0 : (0 : Int32).toInt = 0 := rfl
    have e1 : (1 : Int32).toInt = 1 := rfl
    have eL0 : (0 : Int64).toInt = 0 := rfl
    have em : (-1 : Int32).toInt = -1 := rfl
    rw [S_VR_keep_L112.eq_2, F_VR_keep_L112.eq_2]
    by_cases g1 : lx93 ≤ (0 : Int32)
    ·
      rw [if_pos g1, if_pos g1]
      have g1i : lx93.toInt ≤ 0 := q_leI g1
      refine ⟨trivial, ?_⟩
      (unfold Q_VR_keep; dsimp only; first | exact ⟨⟨by omega, by omega⟩, ⟨by omega, by omega⟩⟩ | (have eA : (lx45 + 1 : Int32).toInt = lx45.toInt + 1 := q_addI (y := 1) rfl (by decide) (by omega) (by omega); have eB : (t0_21 + 1 : Int32).toInt = t0_21.toInt + 1 := q_addI (y := 1) rfl (by decide) (by omega) (by omega); exact ⟨⟨by omega, by omega⟩, ⟨by omega, by omega⟩⟩))
    ·
      rw [if_neg g1, if_neg g1]
      have g1i : 0 < lx93.toInt := q_nleI g1
      obtain ⟨a2, e3⟩ := q_nm (lx93 - 1 : Int32)
      rw [e3]
      have a2i : a2.toInt = lx93.toInt - 1 := by rw [← e3]; exact q_subI (x := lx93.toInt) (y := 1) rfl (by decide) (by omega) (by omega)
      refine v_cons (by first | omega | decide) ?_
      refine v_cons (by first | omega | decide) ?_
      obtain ⟨a4, e5⟩ := q_nm (lx93 + (-1) : Int32)
      rw [e5]
      have a4i : a4.toInt = lx93.toInt + (-1) := by rw [← e5]; exact q_addI (x := lx93.toInt) (y := (-1)) rfl (by decide) (by omega) (by omega)
      exact ih _ _ ⟨by omega, by omega⟩ (by omega)
theorem vv_k1 {x2 : Int32} {t0_0 : Int32} {t0_1 : Int32} {t0_2 : Int32} {t0_3 : Int32} {t0_4 : Int32} {t0_5 : Int32} {t0_6 : Int32} {t0_7 : Int32} {t0_8 : Int32} {t0_9 : Int32} {t0_10 : Int32} {t0_11 : Int32} {t0_12 : Int32} {t0_13 : Int32} {t0_14 : Int32} {t0_15 : Int32} {t0_16 : Int32} {t0_17 : Int32} {t0_18 : Int32} {t0_19 : Int32} {t0_20 : Int32} {t0_21 : Int32} {t1_0 : (Nat → Int32)} {lx34 : Int32} {lx45 : Int32} (h20 : 0 ≤ t0_20.toInt ∧ t0_20.toInt ≤ 60) (h21 : -100000 ≤ t0_21.toInt ∧ t0_21.toInt ≤ 100000)(h45 : 0 ≤ lx45.toInt ∧ lx45.toInt ≤ t0_20.toInt) : ∀ (n : Nat) (lx64 : Int32) (lx65 : Int32) (lx66 : (Nat → Int32)), (-1 ≤ lx64.toInt ∧ lx64.toInt ≤ 60) → (lx64.toInt + 1 < (n : Int)) → (lx65.toInt ≠ 0 → lx45.toInt < t0_20.toInt) → (S_VR_keep_L49 x2 t0_0 t0_1 t0_2 t0_3 t0_4 t0_5 t0_6 t0_7 t0_8 t0_9 t0_10 t0_11 t0_12 t0_13 t0_14 t0_15 t0_16 t0_17 t0_18 t0_19 t0_20 t0_21 t1_0 lx34 lx45 n lx64 lx65 lx66) ∧ Q_VR_keep t0_20 t0_21 (F_VR_keep_L49 x2 t0_0 t0_1 t0_2 t0_3 t0_4 t0_5 t0_6 t0_7 t0_8 t0_9 t0_10 t0_11 t0_12 t0_13 t0_14 t0_15 t0_16 t0_17 t0_18 t0_19 t0_20 t0_21 t1_0 lx34 lx45 n lx64 lx65 lx66) := by
  intro n
  induction n with
  | zero => intro lx64 lx65 lx66 h0 hm hu; exact absurd (show False by omega) id
  | succ n ih =>
    intro lx64 lx65 lx66 h0 hm hu
    have e0 : (0 : Int32).toInt = 0 := rfl
    have e1 : (1 : Int32).toInt = 1 := rfl
    have eL0 : (0 : Int64).toInt = 0 := rfl
    have em : (-1 : Int32).toInt = -1 := rfl
    rw [S_VR_keep_L49.eq_2, F_VR_keep_L49.eq_2]
    by_cases g1 : lx65 = (0 : Int32)
    ·
      rw [if_pos g1, if_pos g1]
      have g1i : lx65.toInt = 0 := q_eqI g1
      unfold S_VR_keep_J102 F_VR_keep_J102
      rw [if_pos g1, if_pos g1]
      refine ⟨trivial, ?_⟩
      (unfold Q_VR_keep; dsimp only; first | exact ⟨⟨by omega, by omega⟩, ⟨by omega, by omega⟩⟩ | (have eA : (lx45 + 1 : Int32).toInt = lx45.toInt + 1 := q_addI (y := 1) rfl (by decide) (by omega) (by omega); have eB : (t0_21 + 1 : Int32).toInt = t0_21.toInt + 1 := q_addI (y := 1) rfl (by decide) (by omega) (by omega); exact ⟨⟨by omega, by omega⟩, ⟨by omega, by omega⟩⟩))
    ·
      rw [if_neg g1, if_neg g1]
      have g1i : lx65.toInt ≠ 0 := q_neI g1
      by_cases g2 : lx64 < (0 : Int32)
      ·
        rw [if_pos g2, if_pos g2]
        have g2i : lx64.toInt < 0 := q_ltI g2
        unfold S_VR_keep_J102 F_VR_keep_J102
        rw [if_neg g1, if_neg g1]
        exact vv_k2 h20 h21 h45 (hu (by omega)) _ _ _ ⟨by omega, by omega⟩ (by omega)
      ·
        rw [if_neg g2, if_neg g2]
        have g2i : 0 ≤ lx64.toInt := q_nltI g2
        refine v_cons (by first | omega | decide) ?_
        by_cases g3 : (lx66 lx64.toNatClampNeg : Int32) = (9 : Int32)
        ·
          rw [if_pos g3, if_pos g3]
          unfold S_VR_keep_J73 F_VR_keep_J73
          have g4 : ¬ ((1 : Int32) = (0 : Int32)) := (by decide)
          rw [if_neg g4, if_neg g4]
          obtain ⟨a5, e6⟩ := q_nm (lx64 + (-1) : Int32)
          rw [e6]
          have a5i : a5.toInt = lx64.toInt + (-1) := by rw [← e6]; exact q_addI (x := lx64.toInt) (y := (-1)) rfl (by decide) (by omega) (by omega)
          exact ih _ _ _ ⟨by omega, by omega⟩ (by omega) (fun _ => hu (by omega))
        ·
          rw [if_neg g3, if_neg g3]
          unfold S_VR_keep_J73 F_VR_keep_J73
          have g7 : ((0 : Int32) = (0 : Int32)) := (by decide)
          rw [if_pos g7, if_pos g7]
          obtain ⟨a8, e9⟩ := q_nm (lx64 + (-1) : Int32)
          rw [e9]
          have a8i : a8.toInt = lx64.toInt + (-1) := by rw [← e9]; exact q_addI (x := lx64.toInt) (y := (-1)) rfl (by decide) (by omega) (by omega)
          exact ih _ _ _ ⟨by omega, by omega⟩ (by omega) (fun _ => hu (by omega))
theorem T_VR_keep {x2 : Int32} {t0_0 : Int32} {t0_1 : Int32} {t0_2 : Int32} {t0_3 : Int32} {t0_4 : Int32} {t0_5 : Int32} {t0_6 : Int32} {t0_7 : Int32} {t0_8 : Int32} {t0_9 : Int32} {t0_10 : Int32} {t0_11 : Int32} {t0_12 : Int32} {t0_13 : Int32} {t0_14 : Int32} {t0_15 : Int32} {t0_16 : Int32} {t0_17 : Int32} {t0_18 : Int32} {t0_19 : Int32} {t0_20 : Int32} {t0_21 : Int32} {t1_0 : (Nat → Int32)} (h20 : 0 ≤ t0_20.toInt ∧ t0_20.toInt ≤ 60) (h21 : -100000 ≤ t0_21.toInt ∧ t0_21.toInt ≤ 100000) : (S_VR_keep x2 t0_0 t0_1 t0_2 t0_3 t0_4 t0_5 t0_6 t0_7 t0_8 t0_9 t0_10 t0_11 t0_12 t0_13 t0_14 t0_15 t0_16 t0_17 t0_18 t0_19 t0_20 t0_21 t1_0) ∧ Q_VR_keep t0_20 t0_21 (F_VR_keep x2 t0_0 t0_1 t0_2 t0_3 t0_4 t0_5 t0_6 t0_7 t0_8 t0_9 t0_10 t0_11 t0_12 t0_13 t0_14 t0_15 t0_16 t0_17 t0_18 t0_19 t0_20 t0_21 t1_0) := by
  have e0 : (0 : Int32).toInt = 0 := rfl
  have e1 : (1 : Int32).toInt = 1 := rfl
  have eL0 : (0 : Int64).toInt = 0 := rfl
  have em : (-1 : Int32).toInt = -1 := rfl
  unfold S_VR_keep F_VR_keep
  by_cases g1 : x2 < t0_20
  ·
    rw [if_pos g1, if_pos g1]
    have g1i : x2.toInt < t0_20.toInt := q_ltI g1
    by_cases g2 : x2 < (0 : Int32)
    ·
      rw [if_pos g2, if_pos g2]
      have g2i : x2.toInt < 0 := q_ltI g2
      unfold S_VR_keep_J27 F_VR_keep_J27
      unfold S_VR_keep_J28 F_VR_keep_J28
      by_cases g3 : (0 : Int32) ≤ x2
      ·
        rw [if_pos g3, if_pos g3]
        have g3i : 0 ≤ x2.toInt := q_leI g3
        unfold S_VR_keep_J39 F_VR_keep_J39
        have eK : (x2 - 1 : Int32).toInt = x2.toInt - 1 := q_subI (y := 1) rfl (by decide) (by omega) (by omega); exact vv_k1 h20 h21 ⟨by first | omega | decide, by first | omega | (rw [e0]; omega)⟩ _ _ _ _ ⟨by first | omega | decide, by first | omega | decide⟩ (by first | omega | decide) (fun h => by first | omega | exact absurd rfl h)
      ·
        rw [if_neg g3, if_neg g3]
        have g3i : x2.toInt < 0 := q_nleI g3
        unfold S_VR_keep_J39 F_VR_keep_J39
        exact vv_k1 h20 h21 ⟨by first | omega | decide, by first | omega | (rw [e0]; omega)⟩ _ _ _ _ ⟨by first | omega | decide, by first | omega | decide⟩ (by first | omega | decide) (fun h => by first | omega | exact absurd rfl h)
    ·
      rw [if_neg g2, if_neg g2]
      have g2i : 0 ≤ x2.toInt := q_nltI g2
      refine v_cons (by first | omega | decide) ?_
      by_cases g4 : (t1_0 x2.toNatClampNeg : Int32) < (5 : Int32)
      ·
        rw [if_pos g4, if_pos g4]
        unfold S_VR_keep_J27 F_VR_keep_J27
        unfold S_VR_keep_J28 F_VR_keep_J28
        by_cases g5 : (0 : Int32) ≤ x2
        ·
          rw [if_pos g5, if_pos g5]
          have g5i : 0 ≤ x2.toInt := q_leI g5
          unfold S_VR_keep_J39 F_VR_keep_J39
          have eK : (x2 - 1 : Int32).toInt = x2.toInt - 1 := q_subI (y := 1) rfl (by decide) (by omega) (by omega); exact vv_k1 h20 h21 ⟨by first | omega | decide, by first | omega | (rw [e0]; omega)⟩ _ _ _ _ ⟨by first | omega | decide, by first | omega | decide⟩ (by first | omega | decide) (fun h => by first | omega | exact absurd rfl h)
        ·
          rw [if_neg g5, if_neg g5]
          have g5i : x2.toInt < 0 := q_nleI g5
          unfold S_VR_keep_J39 F_VR_keep_J39
          exact vv_k1 h20 h21 ⟨by first | omega | decide, by first | omega | (rw [e0]; omega)⟩ _ _ _ _ ⟨by first | omega | decide, by first | omega | decide⟩ (by first | omega | decide) (fun h => by first | omega | exact absurd rfl h)
      ·
        rw [if_neg g4, if_neg g4]
        unfold S_VR_keep_J28 F_VR_keep_J28
        by_cases g6 : (0 : Int32) ≤ x2
        ·
          rw [if_pos g6, if_pos g6]
          have g6i : 0 ≤ x2.toInt := q_leI g6
          unfold S_VR_keep_J39 F_VR_keep_J39
          have eK : (x2 - 1 : Int32).toInt = x2.toInt - 1 := q_subI (y := 1) rfl (by decide) (by omega) (by omega); exact vv_k1 h20 h21 ⟨by first | omega | decide, by first | omega | (rw [e0]; omega)⟩ _ _ _ _ ⟨by first | omega | decide, by first | omega | decide⟩ (by first | omega | decide) (fun h => by first | omega | exact absurd rfl h)
        ·
          rw [if_neg g6, if_neg g6]
          have g6i : x2.toInt < 0 := q_nleI g6
          unfold S_VR_keep_J39 F_VR_keep_J39
          exact vv_k1 h20 h21 ⟨by first | omega | decide, by first | omega | (rw [e0]; omega)⟩ _ _ _ _ ⟨by first | omega | decide, by first | omega | decide⟩ (by first | omega | decide) (fun h => by first | omega | exact absurd rfl h)
  ·
    rw [if_neg g1, if_neg g1]
    have g1i : t0_20.toInt ≤ x2.toInt := q_nltI g1
    refine ⟨trivial, ?_⟩
    (unfold Q_VR_keep; dsimp only; first | exact ⟨⟨by omega, by omega⟩, ⟨by omega, by omega⟩⟩ | (have eA : (lx45 + 1 : Int32).toInt = lx45.toInt + 1 := q_addI (y := 1) rfl (by decide) (by omega) (by omega); have eB : (t0_21 + 1 : Int32).toInt = t0_21.toInt + 1 := q_addI (y := 1) rfl (by decide) (by omega) (by omega); exact ⟨⟨by omega, by omega⟩, ⟨by omega, by omega⟩⟩))
theorem vr_ush {x : Int64} : ((x.toUInt64 >>> ((1 : Int32).toInt64.toUInt64 &&& Int64.toUInt64 63)).toInt64).toInt = ((x.toBitVec.toNat / 2 : Nat) : Int) := by
  have h1 : ((x.toUInt64 >>> ((1 : Int32).toInt64.toUInt64 &&& Int64.toUInt64 63)).toInt64).toBitVec.toNat = x.toBitVec.toNat / 2 := by
    show (x.toUInt64 >>> ((1 : Int32).toInt64.toUInt64 &&& Int64.toUInt64 63)).toBitVec.toNat = _
    rw [UInt64.toBitVec_shiftRight, BitVec.ushiftRight_eq', BitVec.toNat_ushiftRight, show (((1 : Int32).toInt64.toUInt64 &&& Int64.toUInt64 63).toBitVec % 64).toNat = 1 by decide, Nat.shiftRight_eq_div_pow]
    rfl
  have h2 := x.toBitVec.isLt
  exact s_ofL h1 (by omega)
theorem vr_half {x : Int64} : 0 ≤ ((x.toUInt64 >>> ((1 : Int32).toInt64.toUInt64 &&& Int64.toUInt64 63)).toInt64).toInt ∧ ((x.toUInt64 >>> ((1 : Int32).toInt64.toUInt64 &&& Int64.toUInt64 63)).toInt64).toInt < 9223372036854775808 ∧ (0 ≤ x.toInt → ((x.toUInt64 >>> ((1 : Int32).toInt64.toUInt64 &&& Int64.toUInt64 63)).toInt64).toInt = x.toInt / 2) := by
  rw [vr_ush]
  have h2 := x.toBitVec.isLt
  refine ⟨by omega, by omega, fun h => ?_⟩
  obtain ⟨h1, -, -⟩ := s_nnL h
  omega
/-- one figure of spread: y is x >>> 1 -/
theorem vr_sp {x y : Int64} {b : Int32} (hb : 8 ≤ b.toInt ∧ b.toInt ≤ 16) (hy : 0 ≤ y.toInt ∧ y.toInt < 9223372036854775808) (hx : 0 ≤ x.toInt → y.toInt = x.toInt / 2) : (0 ≤ ((y / b.toInt64) * 2 : Int64).toInt ∧ ((y / b.toInt64) * 2 : Int64).toInt ≤ 2305843009213693952) ∧ (((y / b.toInt64) * 2 : Int64) + 1).toInt = ((y / b.toInt64) * 2 : Int64).toInt + 1 ∧ (0 ≤ x.toInt → ((y / b.toInt64) * 2 : Int64).toInt * b.toInt ≤ x.toInt) ∧ (0 ≤ x.toInt → b.toInt ≤ (x - ((y / b.toInt64) * 2 : Int64) * b.toInt64 : Int64).toInt → (((y / b.toInt64) * 2 : Int64).toInt + 1) * b.toInt ≤ x.toInt) := by
  have eb : b.toInt64.toInt = b.toInt := q_i2l rfl
  have xi : x.toInt < 9223372036854775808 := Int64.toInt_lt x
  have e1 : (y / b.toInt64 : Int64).toInt = y.toInt / b.toInt := by rw [v_divL hy.1 (by omega), eb]
  have d0 : 0 ≤ y.toInt / b.toInt := Int.ediv_nonneg hy.1 (by omega)
  have d1 : y.toInt / b.toInt * b.toInt ≤ y.toInt := Int.ediv_mul_le _ (by omega)
  have d2 : y.toInt / b.toInt * 8 ≤ y.toInt / b.toInt * b.toInt := Int.mul_le_mul_of_nonneg_left hb.1 d0
  generalize y.toInt / b.toInt = q at *
  have e2 : ((y / b.toInt64) * 2 : Int64).toInt = q * 2 := q_mulL e1 (by decide) (by omega) (by omega)
  generalize ((y / b.toInt64) * 2 : Int64) = h at *
  have e3 : (h + 1 : Int64).toInt = h.toInt + 1 := q_addL (y := 1) rfl (by decide) (by omega) (by omega)
  have m1 : h.toInt * b.toInt = q * b.toInt * 2 := by rw [e2, Int.mul_right_comm]
  refine ⟨by omega, e3, fun x0 => ?_, fun x0 hr => ?_⟩
  · have := hx x0
    rw [m1]; omega
  · have hx2 := hx x0
    have e4 : (h * b.toInt64 : Int64).toInt = h.toInt * b.toInt := q_mulL rfl eb (by omega) (by omega)
    have e5 : (x - h * b.toInt64 : Int64).toInt = x.toInt - h.toInt * b.toInt := q_subL rfl e4 (by omega) (by omega)
    rw [e5] at hr
    rw [Int.add_mul, Int.one_mul]
    omega
/-- the number that is left to be spread, m figures behind it -/
def vrN (v : Int64) (m : Int) : Prop := m = 0 ∨ (0 ≤ v.toInt ∧ ∃ j : Nat, v.toInt < 8 ^ j ∧ m + (j : Int) ≤ 24)
theorem vrN.go {v w : Int64} {b : Int32} {m : Int} (h : vrN v m) (hm : 0 ≤ m) (hb : 8 ≤ b.toInt ∧ b.toInt ≤ 16) (hz : m = 0 ∨ v.toInt ≠ 0) (h0 : 0 ≤ w.toInt ∧ w.toInt ≤ 2305843009213693953) (h1 : 0 ≤ v.toInt → w.toInt * b.toInt ≤ v.toInt) : vrN w (m + 1) ∧ m + 1 ≤ 24 := by
  by_cases c : m = 0
  · have e : (8 : Int) ^ 21 = 9223372036854775808 := by decide
    exact ⟨Or.inr ⟨h0.1, 21, by rw [e]; omega, by omega⟩, by omega⟩
  · rcases h with h | ⟨a, j, j1, j2⟩
    · exact absurd h c
    · have vz : v.toInt ≠ 0 := by rcases hz with z | z; exact absurd z c; exact z
      have d := h1 a
      have d2 : w.toInt * 8 ≤ w.toInt * b.toInt := Int.mul_le_mul_of_nonneg_left hb.1 h0.1
      have jp : 1 ≤ j := by
        by_cases q : j = 0
        · rw [q, Int.pow_zero] at j1; omega
        · omega
      have p : (8 : Int) ^ j = 8 ^ (j - 1) * 8 := by rw [← fl_pw, show j - 1 + 1 = j by omega]
      rw [p] at j1
      refine ⟨Or.inr ⟨h0.1, j - 1, ?_, by omega⟩, by omega⟩
      generalize (8 : Int) ^ (j - 1) = P at *
      omega
def Q_VR_spread (p : Int32 × Int32 × (Nat → Int32)) : Prop := (1 ≤ p.1.toInt ∧ p.1.toInt ≤ 24) ∧ p.2.1 = p.1
theorem vv_s2 {K_F_VR_spread_L8 : Int64 → Int32 → (Nat → Int32) → (Int32 × Int32 × (Nat → Int32))} {x2 : Int64} {x3 : Int32} {t0_0 : Int32} {t0_1 : Int32} {t0_2 : Int32} {t0_3 : Int32} {t0_4 : Int32} {t0_5 : Int32} {t0_6 : Int32} {t0_7 : Int32} {t0_8 : Int32} {t0_9 : Int32} {t0_10 : Int32} {t0_11 : Int32} {t0_12 : Int32} {t0_13 : Int32} {t0_14 : Int32} {t0_15 : Int32} {t0_16 : Int32} {t0_17 : Int32} {t0_18 : Int32} {t0_19 : Int32} {t0_20 : Int32} {t0_21 : Int32} {t1_0 : (Nat → Int32)} {lx35 : Int64} {lx36 : Int32} {lx37 : (Nat → Int32)} {K_S_VR_spread_L8 : Int64 → Int32 → (Nat → Int32) → Prop} (h36 : 1 ≤ lx36.toInt ∧ lx36.toInt ≤ 24) : ∀ (n : Nat) (lx127 : Int32) (lx128 : Int32) (lx129 : (Nat → Int32)), (-1 ≤ lx127.toInt ∧ lx127.toInt ≤ 30) → (0 ≤ lx128.toInt ∧ lx128.toInt ≤ 31) → (lx127.toInt + 1 < (n : Int)) → (S_VR_spread_L110 K_S_VR_spread_L8 x2 x3 t0_0 t0_1 t0_2 t0_3 t0_4 t0_5 t0_6 t0_7 t0_8 t0_9 t0_10 t0_11 t0_12 t0_13 t0_14 t0_15 t0_16 t0_17 t0_18 t0_19 t0_20 t0_21 t1_0 lx35 lx36 lx37 n lx127 lx128 lx129) ∧ Q_VR_spread (F_VR_spread_L110 K_F_VR_spread_L8 x2 x3 t0_0 t0_1 t0_2 t0_3 t0_4 t0_5 t0_6 t0_7 t0_8 t0_9 t0_10 t0_11 t0_12 t0_13 t0_14 t0_15 t0_16 t0_17 t0_18 t0_19 t0_20 t0_21 t1_0 lx35 lx36 lx37 n lx127 lx128 lx129) := by
  intro n
  induction n with
  | zero => intro lx127 lx128 lx129 h0 h1 hm; exact absurd (show False by omega) id
  | succ n ih =>
    intro lx127 lx128 lx129 h0 h1 hm
    have e0 : (0 : Int32).toInt = 0 := rfl
    have e1 : (1 : Int32).toInt = 1 := rfl
    have eL0 : (0 : Int64).toInt = 0 := rfl
    have em : (-1 : Int32).toInt = -1 := rfl
    rw [S_VR_spread_L110.eq_2, F_VR_spread_L110.eq_2]
    by_cases g1 : lx127 ≤ lx128
    ·
      rw [if_pos g1, if_pos g1]
      have g1i : lx127.toInt ≤ lx128.toInt := q_leI g1
      refine ⟨trivial, ?_⟩
      (unfold Q_VR_spread; dsimp only; exact ⟨h36, rfl⟩)
    ·
      rw [if_neg g1, if_neg g1]
      have g1i : lx128.toInt < lx127.toInt := q_nleI g1
      refine v_cons (by first | omega | decide) ?_
      refine v_cons (by first | omega | decide) ?_
      obtain ⟨a2, e3⟩ := q_nm (lx127 + (-1) : Int32)
      rw [e3]
      have a2i : a2.toInt = lx127.toInt + (-1) := by rw [← e3]; exact q_addI (x := lx127.toInt) (y := (-1)) rfl (by decide) (by omega) (by omega)
      obtain ⟨a4, e5⟩ := q_nm (lx128 + 1 : Int32)
      rw [e5]
      have a4i : a4.toInt = lx128.toInt + 1 := by rw [← e5]; exact q_addI (x := lx128.toInt) (y := 1) rfl (by decide) (by omega) (by omega)
      exact ih _ _ _ ⟨by omega, by omega⟩ ⟨by omega, by omega⟩ (by omega)
theorem vv_s1 {x2 : Int64} {x3 : Int32} {t0_0 : Int32} {t0_1 : Int32} {t0_2 : Int32} {t0_3 : Int32} {t0_4 : Int32} {t0_5 : Int32} {t0_6 : Int32} {t0_7 : Int32} {t0_8 : Int32} {t0_9 : Int32} {t0_10 : Int32} {t0_11 : Int32} {t0_12 : Int32} {t0_13 : Int32} {t0_14 : Int32} {t0_15 : Int32} {t0_16 : Int32} {t0_17 : Int32} {t0_18 : Int32} {t0_19 : Int32} {t0_20 : Int32} {t0_21 : Int32} {t1_0 : (Nat → Int32)} (hx3 : 8 ≤ x3.toInt ∧ x3.toInt ≤ 16) : ∀ (n : Nat) (lx35 : Int64) (lx36 : Int32) (lx37 : (Nat → Int32)), (0 ≤ lx36.toInt ∧ lx36.toInt ≤ 24) → (vrN lx35 lx36.toInt) → (256 - lx36.toInt < (n : Int)) → (S_VR_spread_L8 x2 x3 t0_0 t0_1 t0_2 t0_3 t0_4 t0_5 t0_6 t0_7 t0_8 t0_9 t0_10 t0_11 t0_12 t0_13 t0_14 t0_15 t0_16 t0_17 t0_18 t0_19 t0_20 t0_21 t1_0 n lx35 lx36 lx37) ∧ Q_VR_spread (F_VR_spread_L8 x2 x3 t0_0 t0_1 t0_2 t0_3 t0_4 t0_5 t0_6 t0_7 t0_8 t0_9 t0_10 t0_11 t0_12 t0_13 t0_14 t0_15 t0_16 t0_17 t0_18 t0_19 t0_20 t0_21 t1_0 n lx35 lx36 lx37) := by
  intro n
  induction n with
  | zero => intro lx35 lx36 lx37 h0 hN hm; exact absurd (show False by omega) id
  | succ n ih =>
    intro lx35 lx36 lx37 h0 hN hm
    have e0 : (0 : Int32).toInt = 0 := rfl
    have e1 : (1 : Int32).toInt = 1 := rfl
    have eL0 : (0 : Int64).toInt = 0 := rfl
    have em : (-1 : Int32).toInt = -1 := rfl
    have ex3 : x3.toInt64.toInt = x3.toInt := q_i2l rfl
    have yh := vr_half (x := lx35)
    have sp := vr_sp (x := lx35) hx3 ⟨yh.1, yh.2.1⟩ yh.2.2
    clear yh
    rw [S_VR_spread_L8.eq_2, F_VR_spread_L8.eq_2]
    by_cases g1 : (lg_cmp lx35 0 : Int32) = (0 : Int32)
    ·
      rw [if_pos g1, if_pos g1]
      by_cases g2 : lx36 = (0 : Int32)
      ·
        rw [if_pos g2, if_pos g2]
        have hz : lx36.toInt = 0 ∨ lx35.toInt ≠ 0 := Or.inl (q_eqI g2)
        unfold S_VR_spread_J22 F_VR_spread_J22
        refine v_cons (by first | omega | decide) ?_
        by_cases g3 : (lg_cmp (lx35 - (((((lx35.toUInt64 >>> ((1 : Int32).toInt64.toUInt64 &&& Int64.toUInt64 63)).toInt64 : Int64) / (x3.toInt64 : Int64) : Int64) * 2 : Int64) * (x3.toInt64 : Int64) : Int64) : Int64) (x3.toInt64 : Int64) : Int32) < (0 : Int32)
        ·
          rw [if_pos g3, if_pos g3]
          have g3l := g_lc1 g3
          obtain ⟨lx84, e4⟩ := q_nm (((((lx35.toUInt64 >>> ((1 : Int32).toInt64.toUInt64 &&& Int64.toUInt64 63)).toInt64 : Int64) / (x3.toInt64 : Int64) : Int64) * 2 : Int64) : Int64)
          rw [e4]
          have lx84c : vrN lx84 (lx36.toInt + 1) ∧ lx36.toInt + 1 ≤ 24 := by rw [← e4]; exact hN.go h0.1 hx3 hz ⟨by omega, by omega⟩ sp.2.2.1
          unfold S_VR_spread_J62 F_VR_spread_J62
          refine v_cons (by first | omega | decide) ?_
          obtain ⟨a5, e6⟩ := q_nm (lx36 + 1 : Int32)
          rw [e6]
          have a5i : a5.toInt = lx36.toInt + 1 := by rw [← e6]; exact q_addI (x := lx36.toInt) (y := 1) rfl (by decide) (by omega) (by omega)
          exact ih _ _ _ ⟨by omega, by omega⟩ (by rw [a5i]; exact lx84c.1) (by omega)
        ·
          rw [if_neg g3, if_neg g3]
          have g3l := g_lc2 g3
          obtain ⟨lx84, e7⟩ := q_nm ((((((lx35.toUInt64 >>> ((1 : Int32).toInt64.toUInt64 &&& Int64.toUInt64 63)).toInt64 : Int64) / (x3.toInt64 : Int64) : Int64) * 2 : Int64) + 1 : Int64) : Int64)
          rw [e7]
          have lx84c : vrN lx84 (lx36.toInt + 1) ∧ lx36.toInt + 1 ≤ 24 := by rw [← e7]; exact hN.go h0.1 hx3 hz ⟨by rw [sp.2.1]; omega, by rw [sp.2.1]; omega⟩ (fun x0 => by rw [sp.2.1]; exact sp.2.2.2 x0 (by rw [← ex3]; omega))
          unfold S_VR_spread_J62 F_VR_spread_J62
          refine v_cons (by first | omega | decide) ?_
          obtain ⟨a8, e9⟩ := q_nm (lx36 + 1 : Int32)
          rw [e9]
          have a8i : a8.toInt = lx36.toInt + 1 := by rw [← e9]; exact q_addI (x := lx36.toInt) (y := 1) rfl (by decide) (by omega) (by omega)
          exact ih _ _ _ ⟨by omega, by omega⟩ (by rw [a8i]; exact lx84c.1) (by omega)
      ·
        rw [if_neg g2, if_neg g2]
        have g2i : lx36.toInt ≠ 0 := q_neI g2
        have eK : (lx36 - 1 : Int32).toInt = lx36.toInt - 1 := q_subI (y := 1) rfl (by decide) (by omega) (by omega); exact vv_s2 ⟨by omega, by omega⟩ _ _ _ _ ⟨by omega, by omega⟩ (by decide) (by omega)
    ·
      rw [if_neg g1, if_neg g1]
      have hz : lx36.toInt = 0 ∨ lx35.toInt ≠ 0 := Or.inr (fl_lnz g1)
      unfold S_VR_spread_J22 F_VR_spread_J22
      refine v_cons (by first | omega | decide) ?_
      by_cases g10 : (lg_cmp (lx35 - (((((lx35.toUInt64 >>> ((1 : Int32).toInt64.toUInt64 &&& Int64.toUInt64 63)).toInt64 : Int64) / (x3.toInt64 : Int64) : Int64) * 2 : Int64) * (x3.toInt64 : Int64) : Int64) : Int64) (x3.toInt64 : Int64) : Int32) < (0 : Int32)
      ·
        rw [if_pos g10, if_pos g10]
        have g10l := g_lc1 g10
        obtain ⟨lx84, e11⟩ := q_nm (((((lx35.toUInt64 >>> ((1 : Int32).toInt64.toUInt64 &&& Int64.toUInt64 63)).toInt64 : Int64) / (x3.toInt64 : Int64) : Int64) * 2 : Int64) : Int64)
        rw [e11]
        have lx84c : vrN lx84 (lx36.toInt + 1) ∧ lx36.toInt + 1 ≤ 24 := by rw [← e11]; exact hN.go h0.1 hx3 hz ⟨by omega, by omega⟩ sp.2.2.1
        unfold S_VR_spread_J62 F_VR_spread_J62
        refine v_cons (by first | omega | decide) ?_
        obtain ⟨a12, e13⟩ := q_nm (lx36 + 1 : Int32)
        rw [e13]
        have a12i : a12.toInt = lx36.toInt + 1 := by rw [← e13]; exact q_addI (x := lx36.toInt) (y := 1) rfl (by decide) (by omega) (by omega)
        exact ih _ _ _ ⟨by omega, by omega⟩ (by rw [a12i]; exact lx84c.1) (by omega)
      ·
        rw [if_neg g10, if_neg g10]
        have g10l := g_lc2 g10
        obtain ⟨lx84, e14⟩ := q_nm ((((((lx35.toUInt64 >>> ((1 : Int32).toInt64.toUInt64 &&& Int64.toUInt64 63)).toInt64 : Int64) / (x3.toInt64 : Int64) : Int64) * 2 : Int64) + 1 : Int64) : Int64)
        rw [e14]
        have lx84c : vrN lx84 (lx36.toInt + 1) ∧ lx36.toInt + 1 ≤ 24 := by rw [← e14]; exact hN.go h0.1 hx3 hz ⟨by rw [sp.2.1]; omega, by rw [sp.2.1]; omega⟩ (fun x0 => by rw [sp.2.1]; exact sp.2.2.2 x0 (by rw [← ex3]; omega))
        unfold S_VR_spread_J62 F_VR_spread_J62
        refine v_cons (by first | omega | decide) ?_
        obtain ⟨a15, e16⟩ := q_nm (lx36 + 1 : Int32)
        rw [e16]
        have a15i : a15.toInt = lx36.toInt + 1 := by rw [← e16]; exact q_addI (x := lx36.toInt) (y := 1) rfl (by decide) (by omega) (by omega)
        exact ih _ _ _ ⟨by omega, by omega⟩ (by rw [a15i]; exact lx84c.1) (by omega)
theorem T_VR_spread {x2 : Int64} {x3 : Int32} {t0_0 : Int32} {t0_1 : Int32} {t0_2 : Int32} {t0_3 : Int32} {t0_4 : Int32} {t0_5 : Int32} {t0_6 : Int32} {t0_7 : Int32} {t0_8 : Int32} {t0_9 : Int32} {t0_10 : Int32} {t0_11 : Int32} {t0_12 : Int32} {t0_13 : Int32} {t0_14 : Int32} {t0_15 : Int32} {t0_16 : Int32} {t0_17 : Int32} {t0_18 : Int32} {t0_19 : Int32} {t0_20 : Int32} {t0_21 : Int32} {t1_0 : (Nat → Int32)} (hx3 : 8 ≤ x3.toInt ∧ x3.toInt ≤ 16) : (S_VR_spread x2 x3 t0_0 t0_1 t0_2 t0_3 t0_4 t0_5 t0_6 t0_7 t0_8 t0_9 t0_10 t0_11 t0_12 t0_13 t0_14 t0_15 t0_16 t0_17 t0_18 t0_19 t0_20 t0_21 t1_0) ∧ Q_VR_spread (F_VR_spread x2 x3 t0_0 t0_1 t0_2 t0_3 t0_4 t0_5 t0_6 t0_7 t0_8 t0_9 t0_10 t0_11 t0_12 t0_13 t0_14 t0_15 t0_16 t0_17 t0_18 t0_19 t0_20 t0_21 t1_0) := by
  have e0 : (0 : Int32).toInt = 0 := rfl
  have e1 : (1 : Int32).toInt = 1 := rfl
  have eL0 : (0 : Int64).toInt = 0 := rfl
  have em : (-1 : Int32).toInt = -1 := rfl
  unfold S_VR_spread F_VR_spread
  exact vv_s1 hx3 _ _ _ _ ⟨by decide, by decide⟩ (Or.inl rfl) (by decide)

