theorem d_17_33_0 : decode prog_17_method_33_code 0 = .ok (.aload_n 0, 1) := by decide +kernel
theorem d_17_33_1 : decode prog_17_method_33_code 1 = .ok (.lload_n 1, 1) := by decide +kernel
theorem d_17_33_2 : decode prog_17_method_33_code 2 = .ok (.iload_n 3, 1) := by decide +kernel
theorem d_17_33_19 : decode prog_17_method_33_code 19 = .ok (.invokevirtual 126, 3) := by decide +kernel
set_option maxRecDepth 100000 in
theorem w_2591 : (Cond.code ({ cls := "NumberHouseModel$FloatRows", name := "open", desc := "(JZ)V" } : MethodName) prog_17_method_4_code (4 : Nat) (none : Option ClassFile.FieldType)) ∈ q_tbl := q_of11 191 rfl (by decide +kernel)
set_option maxRecDepth 100000 in
theorem w_2588 : (Cond.methodLink "NumberHouseModel$FloatRows" (126 : Nat) ({ cls := "NumberHouseModel$FloatRows", name := "open", desc := "(JZ)V" } : MethodName)) ∈ q_tbl := q_of11 188 rfl (by decide +kernel)
set_option maxRecDepth 100000 in
theorem w_2590 : (Cond.instanceMethod ({ cls := "NumberHouseModel$FloatRows", name := "open", desc := "(JZ)V" } : MethodName)) ∈ q_tbl := q_of11 190 rfl (by decide +kernel)
theorem ws_89 : Cond.selects "NumberHouseModel$FloatRows" (⟨"NumberHouseModel$FloatRows", "open", "(JZ)V"⟩ : MethodName) (⟨"NumberHouseModel$FloatRows", "open", "(JZ)V"⟩ : MethodName) ∈ q_tbl := q_ofs 89 (by decide +kernel) (by decide +kernel)
theorem LV_FR_126 : q_LV "NumberHouseModel$FloatRows" 126 y_FR_open prog_17_method_4_code 4 none 2 := ⟨w_2591, w_17, w_2588, w_2590, ws_89, ⟨by decide, by decide, by decide +kernel⟩⟩
theorem d_17_33_22 : decode prog_17_method_33_code 22 = .ok (.aload_n 0, 1) := by decide +kernel
theorem d_17_33_23 : decode prog_17_method_33_code 23 = .ok (.lload_n 1, 1) := by decide +kernel
theorem d_17_33_24 : decode prog_17_method_33_code 24 = .ok (.iload_n 3, 1) := by decide +kernel
theorem d_17_33_25 : decode prog_17_method_33_code 25 = .ok (.invokestatic 122, 3) := by decide +kernel
set_option maxRecDepth 100000 in
theorem w_2587 : (Cond.code ({ cls := "NumberHouseModel$FloatRows", name := "isWrong", desc := "(JZ)Z" } : MethodName) prog_17_method_3_code (3 : Nat) (some .boolean)) ∈ q_tbl := q_of11 187 rfl (by decide +kernel)
set_option maxRecDepth 100000 in
theorem w_2585 : (Cond.methodLink "NumberHouseModel$FloatRows" (122 : Nat) ({ cls := "NumberHouseModel$FloatRows", name := "isWrong", desc := "(JZ)Z" } : MethodName)) ∈ q_tbl := q_of11 185 rfl (by decide +kernel)
set_option maxRecDepth 100000 in
theorem w_2586 : (Cond.static ({ cls := "NumberHouseModel$FloatRows", name := "isWrong", desc := "(JZ)Z" } : MethodName)) ∈ q_tbl := q_of11 186 rfl (by decide +kernel)
theorem LS_FR_122 : q_LS "NumberHouseModel$FloatRows" 122 y_FR_isWrong prog_17_method_3_code 3 (some .boolean) 2 := ⟨w_2587, w_17, w_2585, w_2586, ⟨by decide, by decide, by decide +kernel⟩⟩
theorem d_17_33_47 : decode prog_17_method_33_code 47 = .ok (.putfield 31, 3) := by decide +kernel
set_option maxRecDepth 100000 in
theorem w_2074 : (Cond.fieldLink "NumberHouseModel$FloatRows" (31 : Nat) "NumberHouseModel$FloatRows" "thrown" "I") ∈ q_tbl := q_of9 154 rfl (by decide +kernel)
theorem d_17_33_50 : decode prog_17_method_33_code 50 = .ok (.aload_n 0, 1) := by decide +kernel
theorem d_17_33_51 : decode prog_17_method_33_code 51 = .ok (.getfield 31, 3) := by decide +kernel
theorem d_17_33_54 : decode prog_17_method_33_code 54 = .ok (.ifCond .gt 12, 3) := by decide +kernel
theorem d_17_33_66 : decode prog_17_method_33_code 66 = .ok (.lconst 0, 1) := by decide +kernel
theorem d_17_33_67 : decode prog_17_method_33_code 67 = .ok (.lreturn, 1) := by decide +kernel
theorem d_17_33_57 : decode prog_17_method_33_code 57 = .ok (.aload_n 0, 1) := by decide +kernel
theorem d_17_33_58 : decode prog_17_method_33_code 58 = .ok (.getfield 52, 3) := by decide +kernel
theorem d_17_33_61 : decode prog_17_method_33_code 61 = .ok (.lconst 0, 1) := by decide +kernel
theorem d_17_33_62 : decode prog_17_method_33_code 62 = .ok (.lcmp, 1) := by decide +kernel
theorem d_17_33_63 : decode prog_17_method_33_code 63 = .ok (.ifCond .ne 5, 3) := by decide +kernel
theorem d_17_33_68 : decode prog_17_method_33_code 68 = .ok (.aload_n 0, 1) := by decide +kernel
theorem d_17_33_69 : decode prog_17_method_33_code 69 = .ok (.invokevirtual 136, 3) := by decide +kernel
set_option maxRecDepth 100000 in
theorem w_2599 : (Cond.code ({ cls := "NumberHouseModel$FloatRows", name := "findShortest", desc := "()V" } : MethodName) prog_17_method_15_code (9 : Nat) (none : Option ClassFile.FieldType)) ∈ q_tbl := q_of11 199 rfl (by decide +kernel)
set_option maxRecDepth 100000 in
theorem w_2596 : (Cond.methodLink "NumberHouseModel$FloatRows" (136 : Nat) ({ cls := "NumberHouseModel$FloatRows", name := "findShortest", desc := "()V" } : MethodName)) ∈ q_tbl := q_of11 196 rfl (by decide +kernel)
set_option maxRecDepth 100000 in
theorem w_2598 : (Cond.instanceMethod ({ cls := "NumberHouseModel$FloatRows", name := "findShortest", desc := "()V" } : MethodName)) ∈ q_tbl := q_of11 198 rfl (by decide +kernel)
theorem ws_91 : Cond.selects "NumberHouseModel$FloatRows" (⟨"NumberHouseModel$FloatRows", "findShortest", "()V"⟩ : MethodName) (⟨"NumberHouseModel$FloatRows", "findShortest", "()V"⟩ : MethodName) ∈ q_tbl := q_ofs 91 (by decide +kernel) (by decide +kernel)
theorem LV_FR_136 : q_LV "NumberHouseModel$FloatRows" 136 y_FR_findShortest prog_17_method_15_code 9 none 0 := ⟨w_2599, w_17, w_2596, w_2598, ws_91, ⟨by decide, by decide, by decide +kernel⟩⟩
theorem d_17_33_72 : decode prog_17_method_33_code 72 = .ok (.aload_n 0, 1) := by decide +kernel
theorem d_17_33_73 : decode prog_17_method_33_code 73 = .ok (.getfield 102, 3) := by decide +kernel
theorem d_17_33_76 : decode prog_17_method_33_code 76 = .ok (.lreturn, 1) := by decide +kernel
theorem d_17_33_28 : decode prog_17_method_33_code 28 = .ok (.ifCond .eq 7, 3) := by decide +kernel
theorem d_17_33_35 : decode prog_17_method_33_code 35 = .ok (.aload_n 0, 1) := by decide +kernel
theorem d_17_33_36 : decode prog_17_method_33_code 36 = .ok (.invokevirtual 130, 3) := by decide +kernel
set_option maxRecDepth 100000 in
theorem w_2595 : (Cond.code ({ cls := "NumberHouseModel$FloatRows", name := "isFinite", desc := "()Z" } : MethodName) prog_17_method_5_code (1 : Nat) (some .boolean)) ∈ q_tbl := q_of11 195 rfl (by decide +kernel)
set_option maxRecDepth 100000 in
theorem w_2592 : (Cond.methodLink "NumberHouseModel$FloatRows" (130 : Nat) ({ cls := "NumberHouseModel$FloatRows", name := "isFinite", desc := "()Z" } : MethodName)) ∈ q_tbl := q_of11 192 rfl (by decide +kernel)
set_option maxRecDepth 100000 in
theorem w_2594 : (Cond.instanceMethod ({ cls := "NumberHouseModel$FloatRows", name := "isFinite", desc := "()Z" } : MethodName)) ∈ q_tbl := q_of11 194 rfl (by decide +kernel)
theorem ws_90 : Cond.selects "NumberHouseModel$FloatRows" (⟨"NumberHouseModel$FloatRows", "isFinite", "()Z"⟩ : MethodName) (⟨"NumberHouseModel$FloatRows", "isFinite", "()Z"⟩ : MethodName) ∈ q_tbl := q_ofs 90 (by decide +kernel) (by decide +kernel)
theorem LV_FR_130 : q_LV "NumberHouseModel$FloatRows" 130 y_FR_isFinite prog_17_method_5_code 1 (some .boolean) 0 := ⟨w_2595, w_17, w_2592, w_2594, ws_90, ⟨by decide, by decide, by decide +kernel⟩⟩
theorem d_17_33_39 : decode prog_17_method_33_code 39 = .ok (.ifCond .ne 7, 3) := by decide +kernel
theorem d_17_33_46 : decode prog_17_method_33_code 46 = .ok (.iconst 0, 1) := by decide +kernel
theorem d_17_33_42 : decode prog_17_method_33_code 42 = .ok (.iconst 2, 1) := by decide +kernel
theorem d_17_33_43 : decode prog_17_method_33_code 43 = .ok (.goto 4, 3) := by decide +kernel
theorem d_17_33_31 : decode prog_17_method_33_code 31 = .ok (.iconst 1, 1) := by decide +kernel
theorem d_17_33_32 : decode prog_17_method_33_code 32 = .ok (.goto 15, 3) := by decide +kernel
theorem d_17_33_18 : decode prog_17_method_33_code 18 = .ok (.iconst 0, 1) := by decide +kernel
theorem d_17_33_3 : decode prog_17_method_33_code 3 = .ok (.ifCond .eq 15, 3) := by decide +kernel
theorem d_17_33_6 : decode prog_17_method_33_code 6 = .ok (.lload_n 1, 1) := by decide +kernel
theorem d_17_33_7 : decode prog_17_method_33_code 7 = .ok (.iload_n 3, 1) := by decide +kernel
theorem d_17_33_8 : decode prog_17_method_33_code 8 = .ok (.invokestatic 122, 3) := by decide +kernel
theorem d_17_33_11 : decode prog_17_method_33_code 11 = .ok (.ifCond .ne 7, 3) := by decide +kernel
theorem d_17_33_14 : decode prog_17_method_33_code 14 = .ok (.iconst 1, 1) := by decide +kernel
theorem d_17_33_15 : decode prog_17_method_33_code 15 = .ok (.goto 4, 3) := by decide +kernel
def y_FR_digits : MethodName := ⟨"NumberHouseModel$FloatRows", "digits", "(JZ)J"⟩
def F_FR_digits_c69 (x2 : Int64) (x3 : Int32) (t0_0 : Int32) (t0_1 : Int32) (t0_2 : Int32) (t0_3 : Int32) (t0_4 : Int64) (t0_5 : Int32) (t0_6 : Int32) (t0_7 : Int64) (t0_8 : Int32) (t0_9 : Int64) (t0_10 : Int32) (t1_0 : (Nat → Int32)) (t2_0 : (Nat → Int32)) (t3_0 : (Nat → Int32)) (t4_0 : (Nat → Int32)) (t5_0 : (Nat → Int32)) (t6_0 : (Nat → Int32)) (lx32 : Int32) (p85 : (Int32 × Int32 × Int32 × Int32 × Int64 × Int32 × Int32 × Int64 × Int32 × Int64 × Int32)) (y51 : Int32) (y52 : Int32) (y53 : Int32) (y54 : Int32) (y55 : Int64) (y56 : Int32) (y57 : Int32) (y58 : Int64) (y59 : Int32) (y60 : Int64) (y61 : Int32) (lx110 : Int32) (p183 : (Int32 × Int32 × Int32 × Int32 × Int64 × Int32 × Int32 × Int64 × Int32 × Int64 × Int32 × (Nat → Int32) × (Nat → Int32) × (Nat → Int32) × (Nat → Int32) × (Nat → Int32) × (Nat → Int32))) : Int64 × Int32 × Int32 × Int32 × Int32 × Int64 × Int32 × Int32 × Int64 × Int32 × Int64 × Int32 × (Nat → Int32) × (Nat → Int32) × (Nat → Int32) × (Nat → Int32) × (Nat → Int32) × (Nat → Int32) := ((p183.2.2.2.2.2.2.2.2.2.1 : Int64), (p183.1 : Int32), (p183.2.1 : Int32), (p183.2.2.1 : Int32), (p183.2.2.2.1 : Int32), (p183.2.2.2.2.1 : Int64), (p183.2.2.2.2.2.1 : Int32), (p183.2.2.2.2.2.2.1 : Int32), (p183.2.2.2.2.2.2.2.1 : Int64), (p183.2.2.2.2.2.2.2.2.1 : Int32), (p183.2.2.2.2.2.2.2.2.2.1 : Int64), (p183.2.2.2.2.2.2.2.2.2.2.1 : Int32), (p183.2.2.2.2.2.2.2.2.2.2.2.1 : (Nat → Int32)), (p183.2.2.2.2.2.2.2.2.2.2.2.2.1 : (Nat → Int32)), (p183.2.2.2.2.2.2.2.2.2.2.2.2.2.1 : (Nat → Int32)), (p183.2.2.2.2.2.2.2.2.2.2.2.2.2.2.1 : (Nat → Int32)), (p183.2.2.2.2.2.2.2.2.2.2.2.2.2.2.2.1 : (Nat → Int32)), (p183.2.2.2.2.2.2.2.2.2.2.2.2.2.2.2.2 : (Nat → Int32)))
def F_FR_digits_J47 (x2 : Int64) (x3 : Int32) (t0_0 : Int32) (t0_1 : Int32) (t0_2 : Int32) (t0_3 : Int32) (t0_4 : Int64) (t0_5 : Int32) (t0_6 : Int32) (t0_7 : Int64) (t0_8 : Int32) (t0_9 : Int64) (t0_10 : Int32) (t1_0 : (Nat → Int32)) (t2_0 : (Nat → Int32)) (t3_0 : (Nat → Int32)) (t4_0 : (Nat → Int32)) (t5_0 : (Nat → Int32)) (t6_0 : (Nat → Int32)) (lx32 : Int32) (p85 : (Int32 × Int32 × Int32 × Int32 × Int64 × Int32 × Int32 × Int64 × Int32 × Int64 × Int32)) (y51 : Int32) (y52 : Int32) (y53 : Int32) (y54 : Int32) (y55 : Int64) (y56 : Int32) (y57 : Int32) (y58 : Int64) (y59 : Int32) (y60 : Int64) (y61 : Int32) (lx110 : Int32) : Int64 × Int32 × Int32 × Int32 × Int32 × Int64 × Int32 × Int32 × Int64 × Int32 × Int64 × Int32 × (Nat → Int32) × (Nat → Int32) × (Nat → Int32) × (Nat → Int32) × (Nat → Int32) × (Nat → Int32) := if (0 : Int32) < lx110 then (((0 : Int64), lx110, y52, y53, y54, y55, y56, y57, y58, y59, y60, y61, t1_0, t2_0, t3_0, t4_0, t5_0, t6_0)) else (if (lg_cmp y58 0 : Int32) = (0 : Int32) then (((0 : Int64), lx110, y52, y53, y54, y55, y56, y57, y58, y59, y60, y61, t1_0, t2_0, t3_0, t4_0, t5_0, t6_0)) else (F_FR_digits_c69 x2 x3 t0_0 t0_1 t0_2 t0_3 t0_4 t0_5 t0_6 t0_7 t0_8 t0_9 t0_10 t1_0 t2_0 t3_0 t4_0 t5_0 t6_0 lx32 p85 y51 y52 y53 y54 y55 y56 y57 y58 y59 y60 y61 lx110 ((F_FR_findShortest lx110 y52 y53 y54 y55 y56 y57 y58 y59 y60 y61 t1_0 t2_0 t3_0 t4_0 t5_0 t6_0) : (Int32 × Int32 × Int32 × Int32 × Int64 × Int32 × Int32 × Int64 × Int32 × Int64 × Int32 × (Nat → Int32) × (Nat → Int32) × (Nat → Int32) × (Nat → Int32) × (Nat → Int32) × (Nat → Int32)))))
def F_FR_digits_c19 (x2 : Int64) (x3 : Int32) (t0_0 : Int32) (t0_1 : Int32) (t0_2 : Int32) (t0_3 : Int32) (t0_4 : Int64) (t0_5 : Int32) (t0_6 : Int32) (t0_7 : Int64) (t0_8 : Int32) (t0_9 : Int64) (t0_10 : Int32) (t1_0 : (Nat → Int32)) (t2_0 : (Nat → Int32)) (t3_0 : (Nat → Int32)) (t4_0 : (Nat → Int32)) (t5_0 : (Nat → Int32)) (t6_0 : (Nat → Int32)) (lx32 : Int32) (p85 : (Int32 × Int32 × Int32 × Int32 × Int64 × Int32 × Int32 × Int64 × Int32 × Int64 × Int32)) : Int64 × Int32 × Int32 × Int32 × Int32 × Int64 × Int32 × Int32 × Int64 × Int32 × Int64 × Int32 × (Nat → Int32) × (Nat → Int32) × (Nat → Int32) × (Nat → Int32) × (Nat → Int32) × (Nat → Int32) := if ((F_FR_isWrong x2 x3) : Int32) = (0 : Int32) then (if ((F_FR_isFinite (p85.1 : Int32) (p85.2.1 : Int32) (p85.2.2.1 : Int32) (p85.2.2.2.1 : Int32) (p85.2.2.2.2.1 : Int64) (p85.2.2.2.2.2.1 : Int32) (p85.2.2.2.2.2.2.1 : Int32) (p85.2.2.2.2.2.2.2.1 : Int64) (p85.2.2.2.2.2.2.2.2.1 : Int32) (p85.2.2.2.2.2.2.2.2.2.1 : Int64) (p85.2.2.2.2.2.2.2.2.2.2 : Int32)) : Int32) = (0 : Int32) then (F_FR_digits_J47 x2 x3 t0_0 t0_1 t0_2 t0_3 t0_4 t0_5 t0_6 t0_7 t0_8 t0_9 t0_10 t1_0 t2_0 t3_0 t4_0 t5_0 t6_0 lx32 p85 (p85.1 : Int32) (p85.2.1 : Int32) (p85.2.2.1 : Int32) (p85.2.2.2.1 : Int32) (p85.2.2.2.2.1 : Int64) (p85.2.2.2.2.2.1 : Int32) (p85.2.2.2.2.2.2.1 : Int32) (p85.2.2.2.2.2.2.2.1 : Int64) (p85.2.2.2.2.2.2.2.2.1 : Int32) (p85.2.2.2.2.2.2.2.2.2.1 : Int64) (p85.2.2.2.2.2.2.2.2.2.2 : Int32) 2) else (F_FR_digits_J47 x2 x3 t0_0 t0_1 t0_2 t0_3 t0_4 t0_5 t0_6 t0_7 t0_8 t0_9 t0_10 t1_0 t2_0 t3_0 t4_0 t5_0 t6_0 lx32 p85 (p85.1 : Int32) (p85.2.1 : Int32) (p85.2.2.1 : Int32) (p85.2.2.2.1 : Int32) (p85.2.2.2.2.1 : Int64) (p85.2.2.2.2.2.1 : Int32) (p85.2.2.2.2.2.2.1 : Int32) (p85.2.2.2.2.2.2.2.1 : Int64) (p85.2.2.2.2.2.2.2.2.1 : Int32) (p85.2.2.2.2.2.2.2.2.2.1 : Int64) (p85.2.2.2.2.2.2.2.2.2.2 : Int32) 0)) else (F_FR_digits_J47 x2 x3 t0_0 t0_1 t0_2 t0_3 t0_4 t0_5 t0_6 t0_7 t0_8 t0_9 t0_10 t1_0 t2_0 t3_0 t4_0 t5_0 t6_0 lx32 p85 (p85.1 : Int32) (p85.2.1 : Int32) (p85.2.2.1 : Int32) (p85.2.2.2.1 : Int32) (p85.2.2.2.2.1 : Int64) (p85.2.2.2.2.2.1 : Int32) (p85.2.2.2.2.2.2.1 : Int32) (p85.2.2.2.2.2.2.2.1 : Int64) (p85.2.2.2.2.2.2.2.2.1 : Int32) (p85.2.2.2.2.2.2.2.2.2.1 : Int64) (p85.2.2.2.2.2.2.2.2.2.2 : Int32) 1)
def F_FR_digits_J19 (x2 : Int64) (x3 : Int32) (t0_0 : Int32) (t0_1 : Int32) (t0_2 : Int32) (t0_3 : Int32) (t0_4 : Int64) (t0_5 : Int32) (t0_6 : Int32) (t0_7 : Int64) (t0_8 : Int32) (t0_9 : Int64) (t0_10 : Int32) (t1_0 : (Nat → Int32)) (t2_0 : (Nat → Int32)) (t3_0 : (Nat → Int32)) (t4_0 : (Nat → Int32)) (t5_0 : (Nat → Int32)) (t6_0 : (Nat → Int32)) (lx32 : Int32) : Int64 × Int32 × Int32 × Int32 × Int32 × Int64 × Int32 × Int32 × Int64 × Int32 × Int64 × Int32 × (Nat → Int32) × (Nat → Int32) × (Nat → Int32) × (Nat → Int32) × (Nat → Int32) × (Nat → Int32) := F_FR_digits_c19 x2 x3 t0_0 t0_1 t0_2 t0_3 t0_4 t0_5 t0_6 t0_7 t0_8 t0_9 t0_10 t1_0 t2_0 t3_0 t4_0 t5_0 t6_0 lx32 ((F_FR_open x2 lx32 t0_0 t0_1 t0_2 t0_3 t0_4 t0_5 t0_6 t0_7 t0_8 t0_9 t0_10) : (Int32 × Int32 × Int32 × Int32 × Int64 × Int32 × Int32 × Int64 × Int32 × Int64 × Int32))
def F_FR_digits_J18 (x2 : Int64) (x3 : Int32) (t0_0 : Int32) (t0_1 : Int32) (t0_2 : Int32) (t0_3 : Int32) (t0_4 : Int64) (t0_5 : Int32) (t0_6 : Int32) (t0_7 : Int64) (t0_8 : Int32) (t0_9 : Int64) (t0_10 : Int32) (t1_0 : (Nat → Int32)) (t2_0 : (Nat → Int32)) (t3_0 : (Nat → Int32)) (t4_0 : (Nat → Int32)) (t5_0 : (Nat → Int32)) (t6_0 : (Nat → Int32)) : Int64 × Int32 × Int32 × Int32 × Int32 × Int64 × Int32 × Int32 × Int64 × Int32 × Int64 × Int32 × (Nat → Int32) × (Nat → Int32) × (Nat → Int32) × (Nat → Int32) × (Nat → Int32) × (Nat → Int32) := F_FR_digits_J19 x2 x3 t0_0 t0_1 t0_2 t0_3 t0_4 t0_5 t0_6 t0_7 t0_8 t0_9 t0_10 t1_0 t2_0 t3_0 t4_0 t5_0 t6_0 0
def F_FR_digits (x2 : Int64) (x3 : Int32) (t0_0 : Int32) (t0_1 : Int32) (t0_2 : Int32) (t0_3 : Int32) (t0_4 : Int64) (t0_5 : Int32) (t0_6 : Int32) (t0_7 : Int64) (t0_8 : Int32) (t0_9 : Int64) (t0_10 : Int32) (t1_0 : (Nat → Int32)) (t2_0 : (Nat → Int32)) (t3_0 : (Nat → Int32)) (t4_0 : (Nat → Int32)) (t5_0 : (Nat → Int32)) (t6_0 : (Nat → Int32)) : Int64 × Int32 × Int32 × Int32 × Int32 × Int64 × Int32 × Int32 × Int64 × Int32 × Int64 × Int32 × (Nat → Int32) × (Nat → Int32) × (Nat → Int32) × (Nat → Int32) × (Nat → Int32) × (Nat → Int32) := if x3 = (0 : Int32) then (F_FR_digits_J18 x2 x3 t0_0 t0_1 t0_2 t0_3 t0_4 t0_5 t0_6 t0_7 t0_8 t0_9 t0_10 t1_0 t2_0 t3_0 t4_0 t5_0 t6_0) else (if ((F_FR_isWrong x2 x3) : Int32) = (0 : Int32) then (F_FR_digits_J19 x2 x3 t0_0 t0_1 t0_2 t0_3 t0_4 t0_5 t0_6 t0_7 t0_8 t0_9 t0_10 t1_0 t2_0 t3_0 t4_0 t5_0 t6_0 1) else (F_FR_digits_J18 x2 x3 t0_0 t0_1 t0_2 t0_3 t0_4 t0_5 t0_6 t0_7 t0_8 t0_9 t0_10 t1_0 t2_0 t3_0 t4_0 t5_0 t6_0))
def S_FR_digits_c69 (x2 : Int64) (x3 : Int32) (t0_0 : Int32) (t0_1 : Int32) (t0_2 : Int32) (t0_3 : Int32) (t0_4 : Int64) (t0_5 : Int32) (t0_6 : Int32) (t0_7 : Int64) (t0_8 : Int32) (t0_9 : Int64) (t0_10 : Int32) (t1_0 : (Nat → Int32)) (t2_0 : (Nat → Int32)) (t3_0 : (Nat → Int32)) (t4_0 : (Nat → Int32)) (t5_0 : (Nat → Int32)) (t6_0 : (Nat → Int32)) (lx32 : Int32) (p85 : (Int32 × Int32 × Int32 × Int32 × Int64 × Int32 × Int32 × Int64 × Int32 × Int64 × Int32)) (y51 : Int32) (y52 : Int32) (y53 : Int32) (y54 : Int32) (y55 : Int64) (y56 : Int32) (y57 : Int32) (y58 : Int64) (y59 : Int32) (y60 : Int64) (y61 : Int32) (lx110 : Int32) (p183 : (Int32 × Int32 × Int32 × Int32 × Int64 × Int32 × Int32 × Int64 × Int32 × Int64 × Int32 × (Nat → Int32) × (Nat → Int32) × (Nat → Int32) × (Nat → Int32) × (Nat → Int32) × (Nat → Int32))) : Prop := True
def S_FR_digits_J47 (x2 : Int64) (x3 : Int32) (t0_0 : Int32) (t0_1 : Int32) (t0_2 : Int32) (t0_3 : Int32) (t0_4 : Int64) (t0_5 : Int32) (t0_6 : Int32) (t0_7 : Int64) (t0_8 : Int32) (t0_9 : Int64) (t0_10 : Int32) (t1_0 : (Nat → Int32)) (t2_0 : (Nat → Int32)) (t3_0 : (Nat → Int32)) (t4_0 : (Nat → Int32)) (t5_0 : (Nat → Int32)) (t6_0 : (Nat → Int32)) (lx32 : Int32) (p85 : (Int32 × Int32 × Int32 × Int32 × Int64 × Int32 × Int32 × Int64 × Int32 × Int64 × Int32)) (y51 : Int32) (y52 : Int32) (y53 : Int32) (y54 : Int32) (y55 : Int64) (y56 : Int32) (y57 : Int32) (y58 : Int64) (y59 : Int32) (y60 : Int64) (y61 : Int32) (lx110 : Int32) : Prop := if (0 : Int32) < lx110 then (True) else (if (lg_cmp y58 0 : Int32) = (0 : Int32) then (True) else ((True ∧ S_FR_findShortest lx110 y52 y53 y54 y55 y56 y57 y58 y59 y60 y61 t1_0 t2_0 t3_0 t4_0 t5_0 t6_0) ∧ (S_FR_digits_c69 x2 x3 t0_0 t0_1 t0_2 t0_3 t0_4 t0_5 t0_6 t0_7 t0_8 t0_9 t0_10 t1_0 t2_0 t3_0 t4_0 t5_0 t6_0 lx32 p85 y51 y52 y53 y54 y55 y56 y57 y58 y59 y60 y61 lx110 ((F_FR_findShortest lx110 y52 y53 y54 y55 y56 y57 y58 y59 y60 y61 t1_0 t2_0 t3_0 t4_0 t5_0 t6_0) : (Int32 × Int32 × Int32 × Int32 × Int64 × Int32 × Int32 × Int64 × Int32 × Int64 × Int32 × (Nat → Int32) × (Nat → Int32) × (Nat → Int32) × (Nat → Int32) × (Nat → Int32) × (Nat → Int32))))))
def S_FR_digits_c19 (x2 : Int64) (x3 : Int32) (t0_0 : Int32) (t0_1 : Int32) (t0_2 : Int32) (t0_3 : Int32) (t0_4 : Int64) (t0_5 : Int32) (t0_6 : Int32) (t0_7 : Int64) (t0_8 : Int32) (t0_9 : Int64) (t0_10 : Int32) (t1_0 : (Nat → Int32)) (t2_0 : (Nat → Int32)) (t3_0 : (Nat → Int32)) (t4_0 : (Nat → Int32)) (t5_0 : (Nat → Int32)) (t6_0 : (Nat → Int32)) (lx32 : Int32) (p85 : (Int32 × Int32 × Int32 × Int32 × Int64 × Int32 × Int32 × Int64 × Int32 × Int64 × Int32)) : Prop := if ((F_FR_isWrong x2 x3) : Int32) = (0 : Int32) then (if ((F_FR_isFinite (p85.1 : Int32) (p85.2.1 : Int32) (p85.2.2.1 : Int32) (p85.2.2.2.1 : Int32) (p85.2.2.2.2.1 : Int64) (p85.2.2.2.2.2.1 : Int32) (p85.2.2.2.2.2.2.1 : Int32) (p85.2.2.2.2.2.2.2.1 : Int64) (p85.2.2.2.2.2.2.2.2.1 : Int32) (p85.2.2.2.2.2.2.2.2.2.1 : Int64) (p85.2.2.2.2.2.2.2.2.2.2 : Int32)) : Int32) = (0 : Int32) then (S_FR_digits_J47 x2 x3 t0_0 t0_1 t0_2 t0_3 t0_4 t0_5 t0_6 t0_7 t0_8 t0_9 t0_10 t1_0 t2_0 t3_0 t4_0 t5_0 t6_0 lx32 p85 (p85.1 : Int32) (p85.2.1 : Int32) (p85.2.2.1 : Int32) (p85.2.2.2.1 : Int32) (p85.2.2.2.2.1 : Int64) (p85.2.2.2.2.2.1 : Int32) (p85.2.2.2.2.2.2.1 : Int32) (p85.2.2.2.2.2.2.2.1 : Int64) (p85.2.2.2.2.2.2.2.2.1 : Int32) (p85.2.2.2.2.2.2.2.2.2.1 : Int64) (p85.2.2.2.2.2.2.2.2.2.2 : Int32) 2) else (S_FR_digits_J47 x2 x3 t0_0 t0_1 t0_2 t0_3 t0_4 t0_5 t0_6 t0_7 t0_8 t0_9 t0_10 t1_0 t2_0 t3_0 t4_0 t5_0 t6_0 lx32 p85 (p85.1 : Int32) (p85.2.1 : Int32) (p85.2.2.1 : Int32) (p85.2.2.2.1 : Int32) (p85.2.2.2.2.1 : Int64) (p85.2.2.2.2.2.1 : Int32) (p85.2.2.2.2.2.2.1 : Int32) (p85.2.2.2.2.2.2.2.1 : Int64) (p85.2.2.2.2.2.2.2.2.1 : Int32) (p85.2.2.2.2.2.2.2.2.2.1 : Int64) (p85.2.2.2.2.2.2.2.2.2.2 : Int32) 0)) else (S_FR_digits_J47 x2 x3 t0_0 t0_1 t0_2 t0_3 t0_4 t0_5 t0_6 t0_7 t0_8 t0_9 t0_10 t1_0 t2_0 t3_0 t4_0 t5_0 t6_0 lx32 p85 (p85.1 : Int32) (p85.2.1 : Int32) (p85.2.2.1 : Int32) (p85.2.2.2.1 : Int32) (p85.2.2.2.2.1 : Int64) (p85.2.2.2.2.2.1 : Int32) (p85.2.2.2.2.2.2.1 : Int32) (p85.2.2.2.2.2.2.2.1 : Int64) (p85.2.2.2.2.2.2.2.2.1 : Int32) (p85.2.2.2.2.2.2.2.2.2.1 : Int64) (p85.2.2.2.2.2.2.2.2.2.2 : Int32) 1)
def S_FR_digits_J19 (x2 : Int64) (x3 : Int32) (t0_0 : Int32) (t0_1 : Int32) (t0_2 : Int32) (t0_3 : Int32) (t0_4 : Int64) (t0_5 : Int32) (t0_6 : Int32) (t0_7 : Int64) (t0_8 : Int32) (t0_9 : Int64) (t0_10 : Int32) (t1_0 : (Nat → Int32)) (t2_0 : (Nat → Int32)) (t3_0 : (Nat → Int32)) (t4_0 : (Nat → Int32)) (t5_0 : (Nat → Int32)) (t6_0 : (Nat → Int32)) (lx32 : Int32) : Prop := S_FR_digits_c19 x2 x3 t0_0 t0_1 t0_2 t0_3 t0_4 t0_5 t0_6 t0_7 t0_8 t0_9 t0_10 t1_0 t2_0 t3_0 t4_0 t5_0 t6_0 lx32 ((F_FR_open x2 lx32 t0_0 t0_1 t0_2 t0_3 t0_4 t0_5 t0_6 t0_7 t0_8 t0_9 t0_10) : (Int32 × Int32 × Int32 × Int32 × Int64 × Int32 × Int32 × Int64 × Int32 × Int64 × Int32))
def S_FR_digits_J18 (x2 : Int64) (x3 : Int32) (t0_0 : Int32) (t0_1 : Int32) (t0_2 : Int32) (t0_3 : Int32) (t0_4 : Int64) (t0_5 : Int32) (t0_6 : Int32) (t0_7 : Int64) (t0_8 : Int32) (t0_9 : Int64) (t0_10 : Int32) (t1_0 : (Nat → Int32)) (t2_0 : (Nat → Int32)) (t3_0 : (Nat → Int32)) (t4_0 : (Nat → Int32)) (t5_0 : (Nat → Int32)) (t6_0 : (Nat → Int32)) : Prop := S_FR_digits_J19 x2 x3 t0_0 t0_1 t0_2 t0_3 t0_4 t0_5 t0_6 t0_7 t0_8 t0_9 t0_10 t1_0 t2_0 t3_0 t4_0 t5_0 t6_0 0
def S_FR_digits (x2 : Int64) (x3 : Int32) (t0_0 : Int32) (t0_1 : Int32) (t0_2 : Int32) (t0_3 : Int32) (t0_4 : Int64) (t0_5 : Int32) (t0_6 : Int32) (t0_7 : Int64) (t0_8 : Int32) (t0_9 : Int64) (t0_10 : Int32) (t1_0 : (Nat → Int32)) (t2_0 : (Nat → Int32)) (t3_0 : (Nat → Int32)) (t4_0 : (Nat → Int32)) (t5_0 : (Nat → Int32)) (t6_0 : (Nat → Int32)) : Prop := if x3 = (0 : Int32) then (S_FR_digits_J18 x2 x3 t0_0 t0_1 t0_2 t0_3 t0_4 t0_5 t0_6 t0_7 t0_8 t0_9 t0_10 t1_0 t2_0 t3_0 t4_0 t5_0 t6_0) else (if ((F_FR_isWrong x2 x3) : Int32) = (0 : Int32) then (S_FR_digits_J19 x2 x3 t0_0 t0_1 t0_2 t0_3 t0_4 t0_5 t0_6 t0_7 t0_8 t0_9 t0_10 t1_0 t2_0 t3_0 t4_0 t5_0 t6_0 1) else (S_FR_digits_J18 x2 x3 t0_0 t0_1 t0_2 t0_3 t0_4 t0_5 t0_6 t0_7 t0_8 t0_9 t0_10 t1_0 t2_0 t3_0 t4_0 t5_0 t6_0))
set_option maxRecDepth 100000 in
set_option maxHeartbeats 4000000 in
theorem X_FR_digits (l : Launch) (D : va_G) (g : Nat → ClassId) (q : Nat → Nat) (ws : va_W) (x2 : Int64) (x3 : Int32) (hI : q_I (msh g q) q ws) (t0_0 : Int32) (t0_1 : Int32) (t0_2 : Int32) (t0_3 : Int32) (t0_4 : Int64) (t0_5 : Int32) (t0_6 : Int32) (t0_7 : Int64) (t0_8 : Int32) (t0_9 : Int64) (t0_10 : Int32) (hT0 : ws[145]? = (some (q 145, .inr (15, [.int t0_0, .ref (q 146), .ref (q 147), .ref (q 148), .ref (q 149), .ref (q 150), .ref (q 151), .ref (q 152), .int t0_1, .int t0_2, .int t0_3, .long t0_4, .int t0_5, .int t0_6, .long t0_7, .int t0_8, .long t0_9, .int t0_10])) : Option (Nat × va_E))) (t1_0 : (Nat → Int32)) (hT1 : ws[146]? = (some (q 146, .inl (g 0, (156 : Int32).toNatClampNeg, .inl t1_0)) : Option (Nat × va_E))) (t2_0 : (Nat → Int32)) (hT2 : ws[147]? = (some (q 147, .inl (g 0, (156 : Int32).toNatClampNeg, .inl t2_0)) : Option (Nat × va_E))) (t3_0 : (Nat → Int32)) (hT3 : ws[148]? = (some (q 148, .inl (g 0, (1404 : Int32).toNatClampNeg, .inl t3_0)) : Option (Nat × va_E))) (t4_0 : (Nat → Int32)) (hT4 : ws[149]? = (some (q 149, .inl (g 0, (1404 : Int32).toNatClampNeg, .inl t4_0)) : Option (Nat × va_E))) (t5_0 : (Nat → Int32)) (hT5 : ws[150]? = (some (q 150, .inl (g 0, (1404 : Int32).toNatClampNeg, .inl t5_0)) : Option (Nat × va_E))) (t6_0 : (Nat → Int32)) (hT6 : ws[151]? = (some (q 151, .inl (g 0, (1404 : Int32).toNatClampNeg, .inl t6_0)) : Option (Nat × va_E))) (hzx3 : 0 ≤ x3.toInt ∧ x3.toInt ≤ 1) (hS : True ∧ S_FR_digits x2 x3 t0_0 t0_1 t0_2 t0_3 t0_4 t0_5 t0_6 t0_7 t0_8 t0_9 t0_10 t1_0 t2_0 t3_0 t4_0 t5_0 t6_0) : q_mL l y_FR_digits prog_17_method_33_code 4 5 0 0 D g [.ref (q 145), .long x2, .int x3] ws (fun r u => q_I (msh g q) q u ∧ q_un ws u [145, 146, 147, 148, 149, 150, 151] ∧ ∃ (u0_0 : Int32) (u0_1 : Int32) (u0_2 : Int32) (u0_3 : Int32) (u0_4 : Int64) (u0_5 : Int32) (u0_6 : Int32) (u0_7 : Int64) (u0_8 : Int32) (u0_9 : Int64) (u0_10 : Int32) (u1_0 : (Nat → Int32)) (u2_0 : (Nat → Int32)) (u3_0 : (Nat → Int32)) (u4_0 : (Nat → Int32)) (u5_0 : (Nat → Int32)) (u6_0 : (Nat → Int32)), u[145]? = (some (q 145, .inr (15, [.int u0_0, .ref (q 146), .ref (q 147), .ref (q 148), .ref (q 149), .ref (q 150), .ref (q 151), .ref (q 152), .int u0_1, .int u0_2, .int u0_3, .long u0_4, .int u0_5, .int u0_6, .long u0_7, .int u0_8, .long u0_9, .int u0_10])) : Option (Nat × va_E)) ∧ u[146]? = (some (q 146, .inl (g 0, (156 : Int32).toNatClampNeg, .inl u1_0)) : Option (Nat × va_E)) ∧ u[147]? = (some (q 147, .inl (g 0, (156 : Int32).toNatClampNeg, .inl u2_0)) : Option (Nat × va_E)) ∧ u[148]? = (some (q 148, .inl (g 0, (1404 : Int32).toNatClampNeg, .inl u3_0)) : Option (Nat × va_E)) ∧ u[149]? = (some (q 149, .inl (g 0, (1404 : Int32).toNatClampNeg, .inl u4_0)) : Option (Nat × va_E)) ∧ u[150]? = (some (q 150, .inl (g 0, (1404 : Int32).toNatClampNeg, .inl u5_0)) : Option (Nat × va_E)) ∧ u[151]? = (some (q 151, .inl (g 0, (1404 : Int32).toNatClampNeg, .inl u6_0)) : Option (Nat × va_E)) ∧ (0 ≤ u0_0.toInt) ∧ (u0_0.toInt ≤ 2) ∧ (0 ≤ u0_2.toInt) ∧ (u0_2.toInt ≤ 1) ∧ (0 ≤ u0_3.toInt) ∧ (23 ≤ u0_5.toInt) ∧ (u0_5.toInt ≤ 52) ∧ (255 ≤ u0_6.toInt) ∧ (u0_6.toInt ≤ 2047) ∧ (0 ≤ u0_8.toInt + 1074) ∧ (t0_1.toInt ≤ u0_1.toInt) ∧ (u0_1.toInt ≤ t0_1.toInt) ∧ (u0_8.toInt ≤ x3.toInt + 1896) ∧ (u0_3.toInt ≤ u0_6.toInt) ∧ (u0_8.toInt + 149 ≤ u0_3.toInt) ∧ (u0_3.toInt ≤ u0_8.toInt + 1075) ∧ (u0_8.toInt + 150 ≤ u0_6.toInt) ∧ (r, u0_0, u0_1, u0_2, u0_3, u0_4, u0_5, u0_6, u0_7, u0_8, u0_9, u0_10, u1_0, u2_0, u3_0, u4_0, u5_0, u6_0) = (F_FR_digits x2 x3 t0_0 t0_1 t0_2 t0_3 t0_4 t0_5 t0_6 t0_7 t0_8 t0_9 t0_10 t1_0 t2_0 t3_0 t4_0 t5_0 t6_0)) := by
  intro sz
  refine q_into (by decide) (Nat.le_of_ble_eq_true rfl) ?_
  intro p e s m below meth c ls hsz C0 V hl
  have hx := C0.1
  have hb := C0.2.1
  replace hzx3 : q_F (0 ≤ x3.toInt ∧ x3.toInt ≤ 1) := hzx3
  obtain ⟨yy0_0, yy0_1, yy0_2, yy0_3, yy0_4, yy0_5, yy0_6, yy0_7, yy0_8, yy0_9, yy0_10, hh0, btt0_2⟩ := n_o145 hI
  obtain ⟨rfl, rfl, rfl, rfl, rfl, rfl, rfl, rfl, rfl, rfl, rfl⟩ : t0_0 = yy0_0 ∧ t0_1 = yy0_1 ∧ t0_2 = yy0_2 ∧ t0_3 = yy0_3 ∧ t0_4 = yy0_4 ∧ t0_5 = yy0_5 ∧ t0_6 = yy0_6 ∧ t0_7 = yy0_7 ∧ t0_8 = yy0_8 ∧ t0_9 = yy0_9 ∧ t0_10 = yy0_10 := by have z := Option.some.inj (hT0.symm.trans hh0); simpa using z
  replace btt0_2 : q_F (0 ≤ t0_2.toInt ∧ t0_2.toInt ≤ 1) := btt0_2
  have hF : q_un ws ws [145, 146, 147, 148, 149, 150, 151] := q_u0
  have hl : lv_has ls 4 [(0, .ref (q 145)), (1, .long x2), (3, .int x3)] := hl
  refine lv_aload_n hx hb d_17_33_0 rfl (lv_at hl 0 rfl) ?_
  refine lv_lload_n hx hb d_17_33_1 rfl (lv_at hl 1 rfl) ?_
  refine lv_iload_n hx hb d_17_33_2 rfl (lv_at hl 2 rfl) ?_
  refine q_join (X := Int32) (fun z H locs ls _ => q_F (0 ≤ z.toInt) ∧ q_F (z.toInt ≤ x3.toInt) ∧ q_Wd D g (va_A ws sz) s ws H locs ∧ lv_has ls 4 [(0, .ref (q 145)), (1, .long x2), (3, .int x3)] ∧ F_FR_digits_J19 x2 x3 t0_0 t0_1 t0_2 t0_3 t0_4 t0_5 t0_6 t0_7 t0_8 t0_9 t0_10 t1_0 t2_0 t3_0 t4_0 t5_0 t6_0 z = (F_FR_digits x2 x3 t0_0 t0_1 t0_2 t0_3 t0_4 t0_5 t0_6 t0_7 t0_8 t0_9 t0_10 t1_0 t2_0 t3_0 t4_0 t5_0 t6_0) ∧ True ∧ S_FR_digits_J19 x2 x3 t0_0 t0_1 t0_2 t0_3 t0_4 t0_5 t0_6 t0_7 t0_8 t0_9 t0_10 t1_0 t2_0 t3_0 t4_0 t5_0 t6_0 z) (fun z => [.int z, .long x2, .ref (q 145)]) 19 0 0 ?_ ?_
  ·
    rintro lx32 H locs ls _ ⟨i41, i42, V, hl, hR43, hS44⟩
    replace i41 : q_F (0 ≤ lx32.toInt) := i41
    replace i42 : q_F (lx32.toInt ≤ x3.toInt) := i42
    replace hl : lv_has ls 4 [(0, .ref (q 145)), (1, .long x2), (3, .int x3)] := hl
    refine q_gov V (q_runV (As := [.long x2, .int lx32]) (rest := []) (d := 1) (mc := 0) (ms := 0) (ci := 15) C0 V rfl LV_FR_126 (X_FR_open l D g q ws  x2 lx32 hI t0_0 t0_1 t0_2 t0_3 t0_4 t0_5 t0_6 t0_7 t0_8 t0_9 t0_10 hT0 ⟨(by have t1 : 0 ≤ lx32.toInt := i41; omega), (by have t1 : 0 ≤ x3.toInt ∧ x3.toInt ≤ 1 := hzx3; have t2 : lx32.toInt ≤ x3.toInt := i42; omega)⟩ _) rfl rfl hT0 rfl hl.1 rfl (Nat.le_of_ble_eq_true rfl) ⟨by decide, by decide⟩ ⟨Nat.le_of_ble_eq_true rfl, Nat.le_of_ble_eq_true rfl⟩ d_17_33_19) (fun u48 H locs hp49 V => ?_)
    obtain ⟨hI, hu84, y51, y52, y53, y54, y55, y56, y57, y58, y59, y60, y61, hO50, b62, b63, b64, b65, b66, b67, b68, b69, b70, b71, b72, b73, b74, b75, b76, b77, b78, b79, b80, b81, b82, hE83⟩ := hp49
    replace hO50 : u48[145]? = (some (q 145, .inr (15, [.int y51, .ref (q 146), .ref (q 147), .ref (q 148), .ref (q 149), .ref (q 150), .ref (q 151), .ref (q 152), .int y52, .int y53, .int y54, .long y55, .int y56, .int y57, .long y58, .int y59, .long y60, .int y61])) : Option (Nat × va_E)) := hO50
    obtain ⟨p85, e86⟩ : ∃ z, z = (F_FR_open x2 lx32 t0_0 t0_1 t0_2 t0_3 t0_4 t0_5 t0_6 t0_7 t0_8 t0_9 t0_10) := ⟨_, rfl⟩
    have e87 : y51 = p85.1 := congrArg (fun z => z.1) (hE83.trans e86.symm)
    have e88 : y52 = p85.2.1 := congrArg (fun z => z.2.1) (hE83.trans e86.symm)
    have e89 : y53 = p85.2.2.1 := congrArg (fun z => z.2.2.1) (hE83.trans e86.symm)
    have e90 : y54 = p85.2.2.2.1 := congrArg (fun z => z.2.2.2.1) (hE83.trans e86.symm)
    have e91 : y55 = p85.2.2.2.2.1 := congrArg (fun z => z.2.2.2.2.1) (hE83.trans e86.symm)
    have e92 : y56 = p85.2.2.2.2.2.1 := congrArg (fun z => z.2.2.2.2.2.1) (hE83.trans e86.symm)
    have e93 : y57 = p85.2.2.2.2.2.2.1 := congrArg (fun z => z.2.2.2.2.2.2.1) (hE83.trans e86.symm)
    have e94 : y58 = p85.2.2.2.2.2.2.2.1 := congrArg (fun z => z.2.2.2.2.2.2.2.1) (hE83.trans e86.symm)
    have e95 : y59 = p85.2.2.2.2.2.2.2.2.1 := congrArg (fun z => z.2.2.2.2.2.2.2.2.1) (hE83.trans e86.symm)
    have e96 : y60 = p85.2.2.2.2.2.2.2.2.2.1 := congrArg (fun z => z.2.2.2.2.2.2.2.2.2.1) (hE83.trans e86.symm)
    have e97 : y61 = p85.2.2.2.2.2.2.2.2.2.2 := congrArg (fun z => z.2.2.2.2.2.2.2.2.2.2) (hE83.trans e86.symm)
    replace b62 : q_F (0 ≤ y53.toInt) := b62
    replace b63 : q_F (y53.toInt ≤ 1) := b63
    replace b64 : q_F (0 ≤ y54.toInt) := b64
    replace b65 : q_F (23 ≤ y56.toInt) := b65
    replace b66 : q_F (y56.toInt ≤ 52) := b66
    replace b67 : q_F (255 ≤ y57.toInt) := b67
    replace b68 : q_F (y57.toInt ≤ 2047) := b68
    replace b69 : q_F (t0_0.toInt ≤ y51.toInt) := b69
    replace b70 : q_F (y51.toInt ≤ t0_0.toInt) := b70
    replace b71 : q_F (t0_1.toInt ≤ y52.toInt) := b71
    replace b72 : q_F (y52.toInt ≤ t0_1.toInt) := b72
    replace b73 : q_F (lx32.toInt ≤ y59.toInt + 1074) := b73
    replace b74 : q_F (y59.toInt ≤ lx32.toInt + 1896) := b74
    replace b75 : q_F (t0_9.toInt ≤ y60.toInt) := b75
    replace b76 : q_F (y60.toInt ≤ t0_9.toInt) := b76
    replace b77 : q_F (t0_10.toInt ≤ y61.toInt) := b77
    replace b78 : q_F (y61.toInt ≤ t0_10.toInt) := b78
    replace b79 : q_F (y54.toInt ≤ y57.toInt) := b79
    replace b80 : q_F (y59.toInt + 149 ≤ y54.toInt) := b80
    replace b81 : q_F (y54.toInt ≤ y59.toInt + 1075) := b81
    replace b82 : q_F (y59.toInt + 150 ≤ y57.toInt) := b82
    replace hT1 := (hu84 _ (by decide)).trans hT1
    replace hT2 := (hu84 _ (by decide)).trans hT2
    replace hT3 := (hu84 _ (by decide)).trans hT3
    replace hT4 := (hu84 _ (by decide)).trans hT4
    replace hT5 := (hu84 _ (by decide)).trans hT5
    replace hT6 := (hu84 _ (by decide)).trans hT6
    replace hF := q_uc hF hu84 (by simp)
    have hR98 := (show F_FR_digits_c19 x2 x3 t0_0 t0_1 t0_2 t0_3 t0_4 t0_5 t0_6 t0_7 t0_8 t0_9 t0_10 t1_0 t2_0 t3_0 t4_0 t5_0 t6_0 lx32 p85 = (F_FR_digits x2 x3 t0_0 t0_1 t0_2 t0_3 t0_4 t0_5 t0_6 t0_7 t0_8 t0_9 t0_10 t1_0 t2_0 t3_0 t4_0 t5_0 t6_0) from Eq.trans (by rw [e86, F_FR_digits_J19.eq_1]) hR43)
    have hS99 := (show True ∧ S_FR_digits_c19 x2 x3 t0_0 t0_1 t0_2 t0_3 t0_4 t0_5 t0_6 t0_7 t0_8 t0_9 t0_10 t1_0 t2_0 t3_0 t4_0 t5_0 t6_0 lx32 p85 from (by rw [e86]; have h := hS44; rw [S_FR_digits_J19.eq_1] at h; with_reducible exact h))
    refine lv_aload_n hx hb d_17_33_22 rfl (lv_at hl 0 rfl) ?_
    refine lv_lload_n hx hb d_17_33_23 rfl (lv_at hl 1 rfl) ?_
    refine lv_iload_n hx hb d_17_33_24 rfl (lv_at hl 2 rfl) ?_
    refine q_goi V (q_runS (As := [.long x2, .int x3]) (rest := [.ref (q 145)]) (d := 1) (mc := 0) (ms := 0) C0 V rfl LS_FR_122 (X_FR_isWrong l D g q u48  x2 x3 hI  ⟨(by have t1 : 0 ≤ x3.toInt ∧ x3.toInt ≤ 1 := hzx3; omega), (by have t1 : 0 ≤ x3.toInt ∧ x3.toInt ≤ 1 := hzx3; omega)⟩ _) rfl hl.1 rfl (Nat.le_of_ble_eq_true rfl) ⟨by decide, by decide⟩ ⟨Nat.le_of_ble_eq_true rfl, Nat.le_of_ble_eq_true rfl⟩ d_17_33_25) (fun a105 u103 H locs hp104 V => ?_)
    obtain ⟨rfl, b106, b107, hE108⟩ := hp104
    have e109 : a105 = (F_FR_isWrong x2 x3) := hE108
    replace b106 : q_F (0 ≤ a105.toInt) := b106
    replace b107 : q_F (a105.toInt ≤ x3.toInt) := b107
    refine q_join (X := Int32) (fun z H locs ls _ => q_F (0 ≤ z.toInt) ∧ q_F (z.toInt ≤ 2) ∧ q_Wd D g (va_A ws sz) s u48 H locs ∧ lv_has ls 4 [(0, .ref (q 145))] ∧ F_FR_digits_J47 x2 x3 t0_0 t0_1 t0_2 t0_3 t0_4 t0_5 t0_6 t0_7 t0_8 t0_9 t0_10 t1_0 t2_0 t3_0 t4_0 t5_0 t6_0 lx32 p85 y51 y52 y53 y54 y55 y56 y57 y58 y59 y60 y61 z = (F_FR_digits x2 x3 t0_0 t0_1 t0_2 t0_3 t0_4 t0_5 t0_6 t0_7 t0_8 t0_9 t0_10 t1_0 t2_0 t3_0 t4_0 t5_0 t6_0) ∧ True ∧ S_FR_digits_J47 x2 x3 t0_0 t0_1 t0_2 t0_3 t0_4 t0_5 t0_6 t0_7 t0_8 t0_9 t0_10 t1_0 t2_0 t3_0 t4_0 t5_0 t6_0 lx32 p85 y51 y52 y53 y54 y55 y56 y57 y58 y59 y60 y61 z) (fun z => [.int z, .ref (q 145)]) 47 0 0 ?_ ?_
    ·
      rintro lx110 H locs ls _ ⟨i119, i120, V, hl, hR121, hS122⟩
      replace i119 : q_F (0 ≤ lx110.toInt) := i119
      replace i120 : q_F (lx110.toInt ≤ 2) := i120
      replace hl : lv_has ls 4 [(0, .ref (q 145))] := hl
      refine q_put (ci := 15) (j := 0) (v := .int lx110) (ty := .int) C0 V i_FR o_FR n_FR rfl rfl hO50 (by decide) w_2074 rfl rfl rfl rfl (Nat.le_of_ble_eq_true rfl) d_17_33_47 (fun H locs w126 hu127 hO50 V => ?_)
      replace hO50 : w126[145]? = (some (q 145, .inr (15, [.int lx110, .ref (q 146), .ref (q 147), .ref (q 148), .ref (q 149), .ref (q 150), .ref (q 151), .ref (q 152), .int y52, .int y53, .int y54, .long y55, .int y56, .int y57, .long y58, .int y59, .long y60, .int y61])) : Option (Nat × va_E)) := hO50
      replace hI := n_p145 hI hu127 hO50 ⟨(by have t1 : 0 ≤ y53.toInt := b62; omega), (by have t1 : y53.toInt ≤ 1 := b63; omega)⟩
      replace hT1 := (hu127 _ (by decide)).trans hT1
      replace hT2 := (hu127 _ (by decide)).trans hT2
      replace hT3 := (hu127 _ (by decide)).trans hT3
      replace hT4 := (hu127 _ (by decide)).trans hT4
      replace hT5 := (hu127 _ (by decide)).trans hT5
      replace hT6 := (hu127 _ (by decide)).trans hT6
      replace hF := q_us hF hu127 (by simp)
      refine lv_aload_n hx hb d_17_33_50 rfl (lv_at hl 0 rfl) ?_
      refine q_get (ci := 15) (j := 0) (v := .int lx110) C0 V i_FR rfl rfl hO50 (by decide) w_2074 rfl d_17_33_51 ?_
      refine lv_if_gt (tgt := 66) hx hb d_17_33_54 (by decide) (fun c128 => ?_) (fun c128 => ?_)
      ·
        have b129 : q_F (0 < lx110.toInt) := (q_ltI c128)
        refine lv_lconst (v := 0) hx hb d_17_33_66 (by decide) ?_
        exact q_retl C0 V (⟨hI, hF, lx110, y52, y53, y54, y55, y56, y57, y58, y59, y60, y61, t1_0, t2_0, t3_0, t4_0, t5_0, t6_0, hO50, hT1, hT2, hT3, hT4, hT5, hT6, (show 0 ≤ lx110.toInt from (by have z19 : (0 : Int64).toInt = 0 := rfl; have t1 : 0 ≤ lx110.toInt := i119; omega)), (show lx110.toInt ≤ 2 from (by have z19 : (0 : Int64).toInt = 0 := rfl; have t1 : lx110.toInt ≤ 2 := i120; omega)), (show 0 ≤ y53.toInt from (by have z19 : (0 : Int64).toInt = 0 := rfl; have t1 : 0 ≤ y53.toInt := b62; omega)), (show y53.toInt ≤ 1 from (by have z19 : (0 : Int64).toInt = 0 := rfl; have t1 : y53.toInt ≤ 1 := b63; omega)), (show 0 ≤ y54.toInt from (by have z19 : (0 : Int64).toInt = 0 := rfl; have t1 : 0 ≤ y54.toInt := b64; omega)), (show 23 ≤ y56.toInt from (by have z19 : (0 : Int64).toInt = 0 := rfl; have t1 : 23 ≤ y56.toInt := b65; omega)), (show y56.toInt ≤ 52 from (by have z19 : (0 : Int64).toInt = 0 := rfl; have t1 : y56.toInt ≤ 52 := b66; omega)), (show 255 ≤ y57.toInt from (by have z19 : (0 : Int64).toInt = 0 := rfl; have t1 : 255 ≤ y57.toInt := b67; omega)), (show y57.toInt ≤ 2047 from (by have z19 : (0 : Int64).toInt = 0 := rfl; have t1 : y57.toInt ≤ 2047 := b68; omega)), (show 0 ≤ y59.toInt + 1074 from (by have z19 : (0 : Int64).toInt = 0 := rfl; have t1 : 0 ≤ lx32.toInt := i41; have t2 : lx32.toInt ≤ y59.toInt + 1074 := b73; omega)), (show t0_1.toInt ≤ y52.toInt from (by have z19 : (0 : Int64).toInt = 0 := rfl; have t1 : t0_1.toInt ≤ y52.toInt := b71; omega)), (show y52.toInt ≤ t0_1.toInt from (by have z19 : (0 : Int64).toInt = 0 := rfl; have t1 : y52.toInt ≤ t0_1.toInt := b72; omega)), (show y59.toInt ≤ x3.toInt + 1896 from (by have z19 : (0 : Int64).toInt = 0 := rfl; have t1 : lx32.toInt ≤ x3.toInt := i42; have t2 : y59.toInt ≤ lx32.toInt + 1896 := b74; omega)), (show y54.toInt ≤ y57.toInt from (by have z19 : (0 : Int64).toInt = 0 := rfl; have t1 : y54.toInt ≤ y57.toInt := b79; omega)), (show y59.toInt + 149 ≤ y54.toInt from (by have z19 : (0 : Int64).toInt = 0 := rfl; have t1 : y59.toInt + 149 ≤ y54.toInt := b80; omega)), (show y54.toInt ≤ y59.toInt + 1075 from (by have z19 : (0 : Int64).toInt = 0 := rfl; have t1 : y54.toInt ≤ y59.toInt + 1075 := b81; omega)), (show y59.toInt + 150 ≤ y57.toInt from (by have z19 : (0 : Int64).toInt = 0 := rfl; have t1 : y59.toInt + 150 ≤ y57.toInt := b82; omega)), (show ((0 : Int64), lx110, y52, y53, y54, y55, y56, y57, y58, y59, y60, y61, t1_0, t2_0, t3_0, t4_0, t5_0, t6_0) = (F_FR_digits x2 x3 t0_0 t0_1 t0_2 t0_3 t0_4 t0_5 t0_6 t0_7 t0_8 t0_9 t0_10 t1_0 t2_0 t3_0 t4_0 t5_0 t6_0) from Eq.trans (by rw [F_FR_digits_J47.eq_1, if_pos c128]) hR121)⟩) d_17_33_67
      ·
        have b130 : q_F (lx110.toInt ≤ 0) := (q_nltI c128)
        refine lv_aload_n hx hb d_17_33_57 rfl (lv_at hl 0 rfl) ?_
        refine q_get (ci := 15) (j := 14) (v := .long y58) C0 V i_FR rfl rfl hO50 (by decide) w_2090 rfl d_17_33_58 ?_
        refine lv_lconst (v := 0) hx hb d_17_33_61 (by decide) ?_
        refine W.lcmp hx hb d_17_33_62 ?_
        obtain ⟨a131, e132⟩ := q_nm (lg_cmp y58 0 : Int32)
        refine q_ti (v := a131) e132 ?_
        have b133 : q_F (-1 ≤ a131.toInt ∧ a131.toInt ≤ 1 ∧ ((a131.toInt = -1 ∧ y58.toInt < 0) ∨ (a131.toInt = 0 ∧ y58.toInt = 0) ∨ (a131.toInt = 1 ∧ 0 < y58.toInt))) := (by rw [← e132]; show -1 ≤ (lg_cmp y58 0 : Int32).toInt ∧ (lg_cmp y58 0 : Int32).toInt ≤ 1 ∧ (((lg_cmp y58 0 : Int32).toInt = -1 ∧ y58.toInt < 0) ∨ ((lg_cmp y58 0 : Int32).toInt = 0 ∧ y58.toInt = 0) ∨ ((lg_cmp y58 0 : Int32).toInt = 1 ∧ 0 < y58.toInt)); exact (by have y1 : (0 : Int64).toInt = 0 := rfl; have z := s_lcmp (a := y58) (b := 0); omega))
        refine lv_if_ne (tgt := 68) hx hb d_17_33_63 (by decide) (fun c134 => ?_) (fun c134 => ?_)
        ·
          have b135 : q_F (a131.toInt ≠ 0) := (q_neI c134)
          refine lv_aload_n hx hb d_17_33_68 rfl (lv_at hl 0 rfl) ?_
          have ob136 : True ∧ S_FR_findShortest lx110 y52 y53 y54 y55 y56 y57 y58 y59 y60 y61 t1_0 t2_0 t3_0 t4_0 t5_0 t6_0 := (by have h := hS122; rw [S_FR_digits_J47.eq_1] at h; rw [if_neg c128] at h; have c134x := c134; rw [← e132] at c134x; rw [if_neg c134x] at h; with_reducible exact h.2.1)
          refine q_gov V (q_runV (As := []) (rest := []) (d := 4) (mc := 0) (ms := 0) (ci := 15) C0 V rfl LV_FR_136 (X_FR_findShortest l D g q w126   hI lx110 y52 y53 y54 y55 y56 y57 y58 y59 y60 y61 hO50 t1_0 hT1 t2_0 hT2 t3_0 hT3 t4_0 hT4 t5_0 hT5 t6_0 hT6 ob136 _) rfl rfl hO50 rfl hl.1 rfl (Nat.le_of_ble_eq_true rfl) ⟨by decide, by decide⟩ ⟨Nat.le_of_ble_eq_true rfl, Nat.le_of_ble_eq_true rfl⟩ d_17_33_69) (fun u137 H locs hp138 V => ?_)
          obtain ⟨hI, hu182, y140, y141, y142, y143, y144, y145, y146, y147, y148, y149, y150, f151, f153, f155, f157, f159, f161, hO139, hA152, hA154, hA156, hA158, hA160, hA162, b163, b164, b165, b166, b167, b168, b169, b170, b171, b172, b173, b174, b175, b176, b177, b178, b179, b180, hE181⟩ := hp138
          replace hO139 : u137[145]? = (some (q 145, .inr (15, [.int y140, .ref (q 146), .ref (q 147), .ref (q 148), .ref (q 149), .ref (q 150), .ref (q 151), .ref (q 152), .int y141, .int y142, .int y143, .long y144, .int y145, .int y146, .long y147, .int y148, .long y149, .int y150])) : Option (Nat × va_E)) := hO139
          replace hA152 : u137[146]? = (some (q 146, .inl (g 0, (156 : Int32).toNatClampNeg, .inl f151)) : Option (Nat × va_E)) := hA152
          replace hA154 : u137[147]? = (some (q 147, .inl (g 0, (156 : Int32).toNatClampNeg, .inl f153)) : Option (Nat × va_E)) := hA154
          replace hA156 : u137[148]? = (some (q 148, .inl (g 0, (1404 : Int32).toNatClampNeg, .inl f155)) : Option (Nat × va_E)) := hA156
          replace hA158 : u137[149]? = (some (q 149, .inl (g 0, (1404 : Int32).toNatClampNeg, .inl f157)) : Option (Nat × va_E)) := hA158
          replace hA160 : u137[150]? = (some (q 150, .inl (g 0, (1404 : Int32).toNatClampNeg, .inl f159)) : Option (Nat × va_E)) := hA160
          replace hA162 : u137[151]? = (some (q 151, .inl (g 0, (1404 : Int32).toNatClampNeg, .inl f161)) : Option (Nat × va_E)) := hA162
          obtain ⟨p183, e184⟩ : ∃ z, z = (F_FR_findShortest lx110 y52 y53 y54 y55 y56 y57 y58 y59 y60 y61 t1_0 t2_0 t3_0 t4_0 t5_0 t6_0) := ⟨_, rfl⟩
          have e185 : y140 = p183.1 := congrArg (fun z => z.1) (hE181.trans e184.symm)
          have e186 : y141 = p183.2.1 := congrArg (fun z => z.2.1) (hE181.trans e184.symm)
          have e187 : y142 = p183.2.2.1 := congrArg (fun z => z.2.2.1) (hE181.trans e184.symm)
          have e188 : y143 = p183.2.2.2.1 := congrArg (fun z => z.2.2.2.1) (hE181.trans e184.symm)
          have e189 : y144 = p183.2.2.2.2.1 := congrArg (fun z => z.2.2.2.2.1) (hE181.trans e184.symm)
          have e190 : y145 = p183.2.2.2.2.2.1 := congrArg (fun z => z.2.2.2.2.2.1) (hE181.trans e184.symm)
          have e191 : y146 = p183.2.2.2.2.2.2.1 := congrArg (fun z => z.2.2.2.2.2.2.1) (hE181.trans e184.symm)
          have e192 : y147 = p183.2.2.2.2.2.2.2.1 := congrArg (fun z => z.2.2.2.2.2.2.2.1) (hE181.trans e184.symm)
          have e193 : y148 = p183.2.2.2.2.2.2.2.2.1 := congrArg (fun z => z.2.2.2.2.2.2.2.2.1) (hE181.trans e184.symm)
          have e194 : y149 = p183.2.2.2.2.2.2.2.2.2.1 := congrArg (fun z => z.2.2.2.2.2.2.2.2.2.1) (hE181.trans e184.symm)
          have e195 : y150 = p183.2.2.2.2.2.2.2.2.2.2.1 := congrArg (fun z => z.2.2.2.2.2.2.2.2.2.2.1) (hE181.trans e184.symm)
          have e196 : f151 = p183.2.2.2.2.2.2.2.2.2.2.2.1 := congrArg (fun z => z.2.2.2.2.2.2.2.2.2.2.2.1) (hE181.trans e184.symm)
          have e197 : f153 = p183.2.2.2.2.2.2.2.2.2.2.2.2.1 := congrArg (fun z => z.2.2.2.2.2.2.2.2.2.2.2.2.1) (hE181.trans e184.symm)
          have e198 : f155 = p183.2.2.2.2.2.2.2.2.2.2.2.2.2.1 := congrArg (fun z => z.2.2.2.2.2.2.2.2.2.2.2.2.2.1) (hE181.trans e184.symm)
          have e199 : f157 = p183.2.2.2.2.2.2.2.2.2.2.2.2.2.2.1 := congrArg (fun z => z.2.2.2.2.2.2.2.2.2.2.2.2.2.2.1) (hE181.trans e184.symm)
          have e200 : f159 = p183.2.2.2.2.2.2.2.2.2.2.2.2.2.2.2.1 := congrArg (fun z => z.2.2.2.2.2.2.2.2.2.2.2.2.2.2.2.1) (hE181.trans e184.symm)
          have e201 : f161 = p183.2.2.2.2.2.2.2.2.2.2.2.2.2.2.2.2 := congrArg (fun z => z.2.2.2.2.2.2.2.2.2.2.2.2.2.2.2.2) (hE181.trans e184.symm)
          replace b163 : q_F (lx110.toInt ≤ y140.toInt) := b163
          replace b164 : q_F (y140.toInt ≤ lx110.toInt) := b164
          replace b165 : q_F (y52.toInt ≤ y141.toInt) := b165
          replace b166 : q_F (y141.toInt ≤ y52.toInt) := b166
          replace b167 : q_F (y53.toInt ≤ y142.toInt) := b167
          replace b168 : q_F (y142.toInt ≤ y53.toInt) := b168
          replace b169 : q_F (y54.toInt ≤ y143.toInt) := b169
          replace b170 : q_F (y143.toInt ≤ y54.toInt) := b170
          replace b171 : q_F (y55.toInt ≤ y144.toInt) := b171
          replace b172 : q_F (y144.toInt ≤ y55.toInt) := b172
          replace b173 : q_F (y56.toInt ≤ y145.toInt) := b173
          replace b174 : q_F (y145.toInt ≤ y56.toInt) := b174
          replace b175 : q_F (y57.toInt ≤ y146.toInt) := b175
          replace b176 : q_F (y146.toInt ≤ y57.toInt) := b176
          replace b177 : q_F (y58.toInt ≤ y147.toInt) := b177
          replace b178 : q_F (y147.toInt ≤ y58.toInt) := b178
          replace b179 : q_F (y59.toInt ≤ y148.toInt) := b179
          replace b180 : q_F (y148.toInt ≤ y59.toInt) := b180
          replace hF := q_uc hF hu182 (by simp)
          have hR202 := (show F_FR_digits_c69 x2 x3 t0_0 t0_1 t0_2 t0_3 t0_4 t0_5 t0_6 t0_7 t0_8 t0_9 t0_10 t1_0 t2_0 t3_0 t4_0 t5_0 t6_0 lx32 p85 y51 y52 y53 y54 y55 y56 y57 y58 y59 y60 y61 lx110 p183 = (F_FR_digits x2 x3 t0_0 t0_1 t0_2 t0_3 t0_4 t0_5 t0_6 t0_7 t0_8 t0_9 t0_10 t1_0 t2_0 t3_0 t4_0 t5_0 t6_0) from Eq.trans (by have c134x := c134; rw [← e132] at c134x; rw [e184, F_FR_digits_J47.eq_1, if_neg c128, if_neg c134x]) hR121)
          have hS203 := (show True ∧ S_FR_digits_c69 x2 x3 t0_0 t0_1 t0_2 t0_3 t0_4 t0_5 t0_6 t0_7 t0_8 t0_9 t0_10 t1_0 t2_0 t3_0 t4_0 t5_0 t6_0 lx32 p85 y51 y52 y53 y54 y55 y56 y57 y58 y59 y60 y61 lx110 p183 from (by rw [e184]; have h := hS122; rw [S_FR_digits_J47.eq_1] at h; rw [if_neg c128] at h; have c134x := c134; rw [← e132] at c134x; rw [if_neg c134x] at h; replace h := q_s2 h; with_reducible exact h))
          refine lv_aload_n hx hb d_17_33_72 rfl (lv_at hl 0 rfl) ?_
          refine q_get (ci := 15) (j := 16) (v := .long y149) C0 V i_FR rfl rfl hO139 (by decide) w_2092 rfl d_17_33_73 ?_
          exact q_retl C0 V (⟨hI, hF, y140, y141, y142, y143, y144, y145, y146, y147, y148, y149, y150, f151, f153, f155, f157, f159, f161, hO139, hA152, hA154, hA156, hA158, hA160, hA162, (show 0 ≤ y140.toInt from (by have t1 : 0 ≤ lx110.toInt := i119; have t2 : lx110.toInt ≤ y140.toInt := b163; omega)), (show y140.toInt ≤ 2 from (by have t1 : lx110.toInt ≤ 2 := i120; have t2 : y140.toInt ≤ lx110.toInt := b164; omega)), (show 0 ≤ y142.toInt from (by have t1 : 0 ≤ y53.toInt := b62; have t2 : y53.toInt ≤ y142.toInt := b167; omega)), (show y142.toInt ≤ 1 from (by have t1 : y53.toInt ≤ 1 := b63; have t2 : y142.toInt ≤ y53.toInt := b168; omega)), (show 0 ≤ y143.toInt from (by have t1 : 0 ≤ y54.toInt := b64; have t2 : y54.toInt ≤ y143.toInt := b169; omega)), (show 23 ≤ y145.toInt from (by have t1 : 23 ≤ y56.toInt := b65; have t2 : y56.toInt ≤ y145.toInt := b173; omega)), (show y145.toInt ≤ 52 from (by have t1 : y56.toInt ≤ 52 := b66; have t2 : y145.toInt ≤ y56.toInt := b174; omega)), (show 255 ≤ y146.toInt from (by have t1 : 255 ≤ y57.toInt := b67; have t2 : y57.toInt ≤ y146.toInt := b175; omega)), (show y146.toInt ≤ 2047 from (by have t1 : y57.toInt ≤ 2047 := b68; have t2 : y146.toInt ≤ y57.toInt := b176; omega)), (show 0 ≤ y148.toInt + 1074 from (by have t1 : 0 ≤ lx32.toInt := i41; have t2 : lx32.toInt ≤ y59.toInt + 1074 := b73; have t3 : y59.toInt ≤ y148.toInt := b179; omega)), (show t0_1.toInt ≤ y141.toInt from (by have t1 : t0_1.toInt ≤ y52.toInt := b71; have t2 : y52.toInt ≤ y141.toInt := b165; omega)), (show y141.toInt ≤ t0_1.toInt from (by have t1 : y52.toInt ≤ t0_1.toInt := b72; have t2 : y141.toInt ≤ y52.toInt := b166; omega)), (show y148.toInt ≤ x3.toInt + 1896 from (by have t1 : lx32.toInt ≤ x3.toInt := i42; have t2 : y59.toInt ≤ lx32.toInt + 1896 := b74; have t3 : y148.toInt ≤ y59.toInt := b180; omega)), (show y143.toInt ≤ y146.toInt from (by have t1 : y54.toInt ≤ y57.toInt := b79; have t2 : y143.toInt ≤ y54.toInt := b170; have t3 : y57.toInt ≤ y146.toInt := b175; omega)), (show y148.toInt + 149 ≤ y143.toInt from (by have t1 : y59.toInt + 149 ≤ y54.toInt := b80; have t2 : y54.toInt ≤ y143.toInt := b169; have t3 : y148.toInt ≤ y59.toInt := b180; omega)), (show y143.toInt ≤ y148.toInt + 1075 from (by have t1 : y54.toInt ≤ y59.toInt + 1075 := b81; have t2 : y143.toInt ≤ y54.toInt := b170; have t3 : y59.toInt ≤ y148.toInt := b179; omega)), (show y148.toInt + 150 ≤ y146.toInt from (by have t1 : y59.toInt + 150 ≤ y57.toInt := b82; have t2 : y57.toInt ≤ y146.toInt := b175; have t3 : y148.toInt ≤ y59.toInt := b180; omega)), (show (y149, y140, y141, y142, y143, y144, y145, y146, y147, y148, y149, y150, f151, f153, f155, f157, f159, f161) = (F_FR_digits x2 x3 t0_0 t0_1 t0_2 t0_3 t0_4 t0_5 t0_6 t0_7 t0_8 t0_9 t0_10 t1_0 t2_0 t3_0 t4_0 t5_0 t6_0) from Eq.trans (by rw [e201, e200, e199, e198, e197, e196, e195, e194, e193, e192, e191, e190, e189, e188, e187, e186, e185, F_FR_digits_c69.eq_1]) hR202)⟩) d_17_33_76
        ·
          have b207 : q_F (a131.toInt = 0) := (q_eqI c134)
          refine lv_lconst (v := 0) hx hb d_17_33_66 (by decide) ?_
          exact q_retl C0 V (⟨hI, hF, lx110, y52, y53, y54, y55, y56, y57, y58, y59, y60, y61, t1_0, t2_0, t3_0, t4_0, t5_0, t6_0, hO50, hT1, hT2, hT3, hT4, hT5, hT6, (show 0 ≤ lx110.toInt from (by have z19 : (0 : Int64).toInt = 0 := rfl; have t1 : 0 ≤ lx110.toInt := i119; omega)), (show lx110.toInt ≤ 2 from (by have z19 : (0 : Int64).toInt = 0 := rfl; have t1 : lx110.toInt ≤ 2 := i120; omega)), (show 0 ≤ y53.toInt from (by have z19 : (0 : Int64).toInt = 0 := rfl; have t1 : 0 ≤ y53.toInt := b62; omega)), (show y53.toInt ≤ 1 from (by have z19 : (0 : Int64).toInt = 0 := rfl; have t1 : y53.toInt ≤ 1 := b63; omega)), (show 0 ≤ y54.toInt from (by have z19 : (0 : Int64).toInt = 0 := rfl; have t1 : 0 ≤ y54.toInt := b64; omega)), (show 23 ≤ y56.toInt from (by have z19 : (0 : Int64).toInt = 0 := rfl; have t1 : 23 ≤ y56.toInt := b65; omega)), (show y56.toInt ≤ 52 from (by have z19 : (0 : Int64).toInt = 0 := rfl; have t1 : y56.toInt ≤ 52 := b66; omega)), (show 255 ≤ y57.toInt from (by have z19 : (0 : Int64).toInt = 0 := rfl; have t1 : 255 ≤ y57.toInt := b67; omega)), (show y57.toInt ≤ 2047 from (by have z19 : (0 : Int64).toInt = 0 := rfl; have t1 : y57.toInt ≤ 2047 := b68; omega)), (show 0 ≤ y59.toInt + 1074 from (by have z19 : (0 : Int64).toInt = 0 := rfl; have t1 : 0 ≤ lx32.toInt := i41; have t2 : lx32.toInt ≤ y59.toInt + 1074 := b73; omega)), (show t0_1.toInt ≤ y52.toInt from (by have z19 : (0 : Int64).toInt = 0 := rfl; have t1 : t0_1.toInt ≤ y52.toInt := b71; omega)), (show y52.toInt ≤ t0_1.toInt from (by have z19 : (0 : Int64).toInt = 0 := rfl; have t1 : y52.toInt ≤ t0_1.toInt := b72; omega)), (show y59.toInt ≤ x3.toInt + 1896 from (by have z19 : (0 : Int64).toInt = 0 := rfl; have t1 : lx32.toInt ≤ x3.toInt := i42; have t2 : y59.toInt ≤ lx32.toInt + 1896 := b74; omega)), (show y54.toInt ≤ y57.toInt from (by have z19 : (0 : Int64).toInt = 0 := rfl; have t1 : y54.toInt ≤ y57.toInt := b79; omega)), (show y59.toInt + 149 ≤ y54.toInt from (by have z19 : (0 : Int64).toInt = 0 := rfl; have t1 : y59.toInt + 149 ≤ y54.toInt := b80; omega)), (show y54.toInt ≤ y59.toInt + 1075 from (by have z19 : (0 : Int64).toInt = 0 := rfl; have t1 : y54.toInt ≤ y59.toInt + 1075 := b81; omega)), (show y59.toInt + 150 ≤ y57.toInt from (by have z19 : (0 : Int64).toInt = 0 := rfl; have t1 : y59.toInt + 150 ≤ y57.toInt := b82; omega)), (show ((0 : Int64), lx110, y52, y53, y54, y55, y56, y57, y58, y59, y60, y61, t1_0, t2_0, t3_0, t4_0, t5_0, t6_0) = (F_FR_digits x2 x3 t0_0 t0_1 t0_2 t0_3 t0_4 t0_5 t0_6 t0_7 t0_8 t0_9 t0_10 t1_0 t2_0 t3_0 t4_0 t5_0 t6_0) from Eq.trans (by have c134x := c134; rw [← e132] at c134x; rw [F_FR_digits_J47.eq_1, if_neg c128, if_pos c134x]) hR121)⟩) d_17_33_67
    ·
      intro J118
      refine lv_if_eq (tgt := 35) hx hb d_17_33_28 (by decide) (fun c208 => ?_) (fun c208 => ?_)
      ·
        have b209 : q_F (a105.toInt = 0) := (q_eqI c208)
        refine lv_aload_n hx hb d_17_33_35 rfl (lv_at hl 0 rfl) ?_
        refine q_goi V (q_runV (As := []) (rest := [.ref (q 145)]) (d := 1) (mc := 0) (ms := 0) (ci := 15) C0 V rfl LV_FR_130 (X_FR_isFinite l D g q u48   hI y51 y52 y53 y54 y55 y56 y57 y58 y59 y60 y61 hO50  _) rfl rfl hO50 rfl hl.1 rfl (Nat.le_of_ble_eq_true rfl) ⟨by decide, by decide⟩ ⟨Nat.le_of_ble_eq_true rfl, Nat.le_of_ble_eq_true rfl⟩ d_17_33_36) (fun a212 u210 H locs hp211 V => ?_)
        obtain ⟨rfl, b213, b214, hE215⟩ := hp211
        have e216 : a212 = (F_FR_isFinite y51 y52 y53 y54 y55 y56 y57 y58 y59 y60 y61) := hE215
        replace b213 : q_F (0 ≤ a212.toInt) := b213
        replace b214 : q_F (a212.toInt ≤ 1) := b214
        refine lv_if_ne (tgt := 46) hx hb d_17_33_39 (by decide) (fun c217 => ?_) (fun c217 => ?_)
        ·
          have b218 : q_F (a212.toInt ≠ 0) := (q_neI c217)
          refine lv_iconst (v := 0) hx hb d_17_33_46 (by decide) ?_
          exact J118 ((0 : Int32)) _ _ _ u48 ⟨(show q_F (0 ≤ 0) from (show 0 ≤ 0 from by omega)), (show q_F (0 ≤ 2) from (show 0 ≤ 2 from by omega)), V, q_lw hl (q_lw1 0 rfl q_lw0), (show F_FR_digits_J47 x2 x3 t0_0 t0_1 t0_2 t0_3 t0_4 t0_5 t0_6 t0_7 t0_8 t0_9 t0_10 t1_0 t2_0 t3_0 t4_0 t5_0 t6_0 lx32 p85 y51 y52 y53 y54 y55 y56 y57 y58 y59 y60 y61 0 = (F_FR_digits x2 x3 t0_0 t0_1 t0_2 t0_3 t0_4 t0_5 t0_6 t0_7 t0_8 t0_9 t0_10 t1_0 t2_0 t3_0 t4_0 t5_0 t6_0) from Eq.trans (by have c208x := c208; rw [e109] at c208x; have c217x := c217; rw [e216, e97, e96, e95, e94, e93, e92, e91, e90, e89, e88, e87] at c217x; rw [e97, e96, e95, e94, e93, e92, e91, e90, e89, e88, e87, F_FR_digits_c19.eq_1, if_pos c208x, if_neg c217x]) hR98), (show True ∧ S_FR_digits_J47 x2 x3 t0_0 t0_1 t0_2 t0_3 t0_4 t0_5 t0_6 t0_7 t0_8 t0_9 t0_10 t1_0 t2_0 t3_0 t4_0 t5_0 t6_0 lx32 p85 y51 y52 y53 y54 y55 y56 y57 y58 y59 y60 y61 0 from (by rw [e97, e96, e95, e94, e93, e92, e91, e90, e89, e88, e87]; have h := hS99; rw [S_FR_digits_c19.eq_1] at h; have c208x := c208; rw [e109] at c208x; rw [if_pos c208x] at h; have c217x := c217; rw [e216, e97, e96, e95, e94, e93, e92, e91, e90, e89, e88, e87] at c217x; rw [if_neg c217x] at h; with_reducible exact h))⟩
        ·
          have b219 : q_F (a212.toInt = 0) := (q_eqI c217)
          refine lv_iconst (v := 2) hx hb d_17_33_42 (by decide) ?_
          refine lv_goto (tgt := 47) hx hb d_17_33_43 (by decide) ?_
          exact J118 ((2 : Int32)) _ _ _ u48 ⟨(show q_F (0 ≤ 2) from (show 0 ≤ 2 from by omega)), (show q_F (2 ≤ 2) from (show 2 ≤ 2 from by omega)), V, q_lw hl (q_lw1 0 rfl q_lw0), (show F_FR_digits_J47 x2 x3 t0_0 t0_1 t0_2 t0_3 t0_4 t0_5 t0_6 t0_7 t0_8 t0_9 t0_10 t1_0 t2_0 t3_0 t4_0 t5_0 t6_0 lx32 p85 y51 y52 y53 y54 y55 y56 y57 y58 y59 y60 y61 2 = (F_FR_digits x2 x3 t0_0 t0_1 t0_2 t0_3 t0_4 t0_5 t0_6 t0_7 t0_8 t0_9 t0_10 t1_0 t2_0 t3_0 t4_0 t5_0 t6_0) from Eq.trans (by have c208x := c208; rw [e109] at c208x; have c217x := c217; rw [e216, e97, e96, e95, e94, e93, e92, e91, e90, e89, e88, e87] at c217x; rw [e97, e96, e95, e94, e93, e92, e91, e90, e89, e88, e87, F_FR_digits_c19.eq_1, if_pos c208x, if_pos c217x]) hR98), (show True ∧ S_FR_digits_J47 x2 x3 t0_0 t0_1 t0_2 t0_3 t0_4 t0_5 t0_6 t0_7 t0_8 t0_9 t0_10 t1_0 t2_0 t3_0 t4_0 t5_0 t6_0 lx32 p85 y51 y52 y53 y54 y55 y56 y57 y58 y59 y60 y61 2 from (by rw [e97, e96, e95, e94, e93, e92, e91, e90, e89, e88, e87]; have h := hS99; rw [S_FR_digits_c19.eq_1] at h; have c208x := c208; rw [e109] at c208x; rw [if_pos c208x] at h; have c217x := c217; rw [e216, e97, e96, e95, e94, e93, e92, e91, e90, e89, e88, e87] at c217x; rw [if_pos c217x] at h; with_reducible exact h))⟩
      ·
        have b220 : q_F (a105.toInt ≠ 0) := (q_neI c208)
        refine lv_iconst (v := 1) hx hb d_17_33_31 (by decide) ?_
        refine lv_goto (tgt := 47) hx hb d_17_33_32 (by decide) ?_
        exact J118 ((1 : Int32)) _ _ _ u48 ⟨(show q_F (0 ≤ 1) from (show 0 ≤ 1 from by omega)), (show q_F (1 ≤ 2) from (show 1 ≤ 2 from by omega)), V, q_lw hl (q_lw1 0 rfl q_lw0), (show F_FR_digits_J47 x2 x3 t0_0 t0_1 t0_2 t0_3 t0_4 t0_5 t0_6 t0_7 t0_8 t0_9 t0_10 t1_0 t2_0 t3_0 t4_0 t5_0 t6_0 lx32 p85 y51 y52 y53 y54 y55 y56 y57 y58 y59 y60 y61 1 = (F_FR_digits x2 x3 t0_0 t0_1 t0_2 t0_3 t0_4 t0_5 t0_6 t0_7 t0_8 t0_9 t0_10 t1_0 t2_0 t3_0 t4_0 t5_0 t6_0) from Eq.trans (by have c208x := c208; rw [e109] at c208x; rw [e97, e96, e95, e94, e93, e92, e91, e90, e89, e88, e87, F_FR_digits_c19.eq_1, if_neg c208x]) hR98), (show True ∧ S_FR_digits_J47 x2 x3 t0_0 t0_1 t0_2 t0_3 t0_4 t0_5 t0_6 t0_7 t0_8 t0_9 t0_10 t1_0 t2_0 t3_0 t4_0 t5_0 t6_0 lx32 p85 y51 y52 y53 y54 y55 y56 y57 y58 y59 y60 y61 1 from (by rw [e97, e96, e95, e94, e93, e92, e91, e90, e89, e88, e87]; have h := hS99; rw [S_FR_digits_c19.eq_1] at h; have c208x := c208; rw [e109] at c208x; rw [if_neg c208x] at h; with_reducible exact h))⟩
  ·
    intro J40
    refine q_join (X := Unit) (fun z H locs ls _ => q_Wd D g (va_A ws sz) s ws H locs ∧ lv_has ls 4 [(0, .ref (q 145)), (1, .long x2), (3, .int x3)] ∧ F_FR_digits_J18 x2 x3 t0_0 t0_1 t0_2 t0_3 t0_4 t0_5 t0_6 t0_7 t0_8 t0_9 t0_10 t1_0 t2_0 t3_0 t4_0 t5_0 t6_0 = (F_FR_digits x2 x3 t0_0 t0_1 t0_2 t0_3 t0_4 t0_5 t0_6 t0_7 t0_8 t0_9 t0_10 t1_0 t2_0 t3_0 t4_0 t5_0 t6_0) ∧ True ∧ S_FR_digits_J18 x2 x3 t0_0 t0_1 t0_2 t0_3 t0_4 t0_5 t0_6 t0_7 t0_8 t0_9 t0_10 t1_0 t2_0 t3_0 t4_0 t5_0 t6_0) (fun z => [.long x2, .ref (q 145)]) 18 0 0 ?_ ?_
    ·
      rintro _ H locs ls _ ⟨V, hl, hR229, hS230⟩
      replace hl : lv_has ls 4 [(0, .ref (q 145)), (1, .long x2), (3, .int x3)] := hl
      refine lv_iconst (v := 0) hx hb d_17_33_18 (by decide) ?_
      exact J40 ((0 : Int32)) _ _ _ ws ⟨(show q_F (0 ≤ 0) from (show 0 ≤ 0 from by omega)), (show q_F (0 ≤ x3.toInt) from (show 0 ≤ x3.toInt from by have t1 : 0 ≤ x3.toInt ∧ x3.toInt ≤ 1 := hzx3; omega)), V, q_lw hl (q_lw1 0 rfl (q_lw1 1 rfl (q_lw1 2 rfl q_lw0))), (show F_FR_digits_J19 x2 x3 t0_0 t0_1 t0_2 t0_3 t0_4 t0_5 t0_6 t0_7 t0_8 t0_9 t0_10 t1_0 t2_0 t3_0 t4_0 t5_0 t6_0 0 = (F_FR_digits x2 x3 t0_0 t0_1 t0_2 t0_3 t0_4 t0_5 t0_6 t0_7 t0_8 t0_9 t0_10 t1_0 t2_0 t3_0 t4_0 t5_0 t6_0) from Eq.trans (by rw [F_FR_digits_J18.eq_1]) hR229), (show True ∧ S_FR_digits_J19 x2 x3 t0_0 t0_1 t0_2 t0_3 t0_4 t0_5 t0_6 t0_7 t0_8 t0_9 t0_10 t1_0 t2_0 t3_0 t4_0 t5_0 t6_0 0 from (by have h := hS230; rw [S_FR_digits_J18.eq_1] at h; with_reducible exact h))⟩
    ·
      intro J228
      refine lv_if_eq (tgt := 18) hx hb d_17_33_3 (by decide) (fun c234 => ?_) (fun c234 => ?_)
      ·
        have b235 : q_F (x3.toInt = 0) := (q_eqI c234)
        exact J228 (()) _ _ _ ws ⟨V, q_lw hl (q_lw1 0 rfl (q_lw1 1 rfl (q_lw1 2 rfl q_lw0))), (show F_FR_digits_J18 x2 x3 t0_0 t0_1 t0_2 t0_3 t0_4 t0_5 t0_6 t0_7 t0_8 t0_9 t0_10 t1_0 t2_0 t3_0 t4_0 t5_0 t6_0 = (F_FR_digits x2 x3 t0_0 t0_1 t0_2 t0_3 t0_4 t0_5 t0_6 t0_7 t0_8 t0_9 t0_10 t1_0 t2_0 t3_0 t4_0 t5_0 t6_0) from (by rw [F_FR_digits.eq_1, if_pos c234])), (show True ∧ S_FR_digits_J18 x2 x3 t0_0 t0_1 t0_2 t0_3 t0_4 t0_5 t0_6 t0_7 t0_8 t0_9 t0_10 t1_0 t2_0 t3_0 t4_0 t5_0 t6_0 from (by have h := hS; rw [S_FR_digits.eq_1] at h; rw [if_pos c234] at h; with_reducible exact h))⟩
      ·
        have b236 : q_F (x3.toInt ≠ 0) := (q_neI c234)
        refine lv_lload_n hx hb d_17_33_6 rfl (lv_at hl 1 rfl) ?_
        refine lv_iload_n hx hb d_17_33_7 rfl (lv_at hl 2 rfl) ?_
        refine q_goi V (q_runS (As := [.long x2, .int x3]) (rest := [.long x2, .ref (q 145)]) (d := 1) (mc := 0) (ms := 0) C0 V rfl LS_FR_122 (X_FR_isWrong l D g q ws  x2 x3 hI  ⟨(by have t1 : 0 ≤ x3.toInt ∧ x3.toInt ≤ 1 := hzx3; omega), (by have t1 : 0 ≤ x3.toInt ∧ x3.toInt ≤ 1 := hzx3; omega)⟩ _) rfl hl.1 rfl (Nat.le_of_ble_eq_true rfl) ⟨by decide, by decide⟩ ⟨Nat.le_of_ble_eq_true rfl, Nat.le_of_ble_eq_true rfl⟩ d_17_33_8) (fun a239 u237 H locs hp238 V => ?_)
        obtain ⟨rfl, b240, b241, hE242⟩ := hp238
        have e243 : a239 = (F_FR_isWrong x2 x3) := hE242
        replace b240 : q_F (0 ≤ a239.toInt) := b240
        replace b241 : q_F (a239.toInt ≤ x3.toInt) := b241
        refine lv_if_ne (tgt := 18) hx hb d_17_33_11 (by decide) (fun c244 => ?_) (fun c244 => ?_)
        ·
          have b245 : q_F (a239.toInt ≠ 0) := (q_neI c244)
          exact J228 (()) _ _ _ ws ⟨V, q_lw hl (q_lw1 0 rfl (q_lw1 1 rfl (q_lw1 2 rfl q_lw0))), (show F_FR_digits_J18 x2 x3 t0_0 t0_1 t0_2 t0_3 t0_4 t0_5 t0_6 t0_7 t0_8 t0_9 t0_10 t1_0 t2_0 t3_0 t4_0 t5_0 t6_0 = (F_FR_digits x2 x3 t0_0 t0_1 t0_2 t0_3 t0_4 t0_5 t0_6 t0_7 t0_8 t0_9 t0_10 t1_0 t2_0 t3_0 t4_0 t5_0 t6_0) from (by have c244x := c244; rw [e243] at c244x; rw [F_FR_digits.eq_1, if_neg c234, if_neg c244x])), (show True ∧ S_FR_digits_J18 x2 x3 t0_0 t0_1 t0_2 t0_3 t0_4 t0_5 t0_6 t0_7 t0_8 t0_9 t0_10 t1_0 t2_0 t3_0 t4_0 t5_0 t6_0 from (by have h := hS; rw [S_FR_digits.eq_1] at h; rw [if_neg c234] at h; have c244x := c244; rw [e243] at c244x; rw [if_neg c244x] at h; with_reducible exact h))⟩
        ·
          have b246 : q_F (a239.toInt = 0) := (q_eqI c244)
          refine lv_iconst (v := 1) hx hb d_17_33_14 (by decide) ?_
          refine lv_goto (tgt := 19) hx hb d_17_33_15 (by decide) ?_
          exact J40 ((1 : Int32)) _ _ _ ws ⟨(show q_F (0 ≤ 1) from (show 0 ≤ 1 from by omega)), (show q_F (1 ≤ x3.toInt) from (show 1 ≤ x3.toInt from by have t1 : 0 ≤ x3.toInt ∧ x3.toInt ≤ 1 := hzx3; have t2 : x3.toInt ≠ 0 := b236; omega)), V, q_lw hl (q_lw1 0 rfl (q_lw1 1 rfl (q_lw1 2 rfl q_lw0))), (show F_FR_digits_J19 x2 x3 t0_0 t0_1 t0_2 t0_3 t0_4 t0_5 t0_6 t0_7 t0_8 t0_9 t0_10 t1_0 t2_0 t3_0 t4_0 t5_0 t6_0 1 = (F_FR_digits x2 x3 t0_0 t0_1 t0_2 t0_3 t0_4 t0_5 t0_6 t0_7 t0_8 t0_9 t0_10 t1_0 t2_0 t3_0 t4_0 t5_0 t6_0) from (by have c244x := c244; rw [e243] at c244x; rw [F_FR_digits.eq_1, if_neg c234, if_pos c244x])), (show True ∧ S_FR_digits_J19 x2 x3 t0_0 t0_1 t0_2 t0_3 t0_4 t0_5 t0_6 t0_7 t0_8 t0_9 t0_10 t1_0 t2_0 t3_0 t4_0 t5_0 t6_0 1 from (by have h := hS; rw [S_FR_digits.eq_1] at h; rw [if_neg c234] at h; have c244x := c244; rw [e243] at c244x; rw [if_pos c244x] at h; with_reducible exact h))⟩
theorem d_17_34_0 : decode prog_17_method_34_code 0 = .ok (.aload_n 0, 1) := by decide +kernel
theorem d_17_34_1 : decode prog_17_method_34_code 1 = .ok (.lload_n 1, 1) := by decide +kernel
theorem d_17_34_2 : decode prog_17_method_34_code 2 = .ok (.iload_n 3, 1) := by decide +kernel
theorem d_17_34_19 : decode prog_17_method_34_code 19 = .ok (.invokevirtual 126, 3) := by decide +kernel
theorem d_17_34_22 : decode prog_17_method_34_code 22 = .ok (.aload_n 0, 1) := by decide +kernel
theorem d_17_34_23 : decode prog_17_method_34_code 23 = .ok (.lload_n 1, 1) := by decide +kernel
theorem d_17_34_24 : decode prog_17_method_34_code 24 = .ok (.iload_n 3, 1) := by decide +kernel
theorem d_17_34_25 : decode prog_17_method_34_code 25 = .ok (.invokestatic 122, 3) := by decide +kernel
theorem d_17_34_47 : decode prog_17_method_34_code 47 = .ok (.putfield 31, 3) := by decide +kernel
theorem d_17_34_50 : decode prog_17_method_34_code 50 = .ok (.aload_n 0, 1) := by decide +kernel
theorem d_17_34_51 : decode prog_17_method_34_code 51 = .ok (.getfield 31, 3) := by decide +kernel
theorem d_17_34_54 : decode prog_17_method_34_code 54 = .ok (.ifCond .gt 12, 3) := by decide +kernel
theorem d_17_34_66 : decode prog_17_method_34_code 66 = .ok (.iconst 0, 1) := by decide +kernel
theorem d_17_34_67 : decode prog_17_method_34_code 67 = .ok (.ireturn, 1) := by decide +kernel
theorem d_17_34_57 : decode prog_17_method_34_code 57 = .ok (.aload_n 0, 1) := by decide +kernel
theorem d_17_34_58 : decode prog_17_method_34_code 58 = .ok (.getfield 52, 3) := by decide +kernel
theorem d_17_34_61 : decode prog_17_method_34_code 61 = .ok (.lconst 0, 1) := by decide +kernel
theorem d_17_34_62 : decode prog_17_method_34_code 62 = .ok (.lcmp, 1) := by decide +kernel
theorem d_17_34_63 : decode prog_17_method_34_code 63 = .ok (.ifCond .ne 5, 3) := by decide +kernel
theorem d_17_34_68 : decode prog_17_method_34_code 68 = .ok (.aload_n 0, 1) := by decide +kernel
theorem d_17_34_69 : decode prog_17_method_34_code 69 = .ok (.invokevirtual 136, 3) := by decide +kernel
theorem d_17_34_72 : decode prog_17_method_34_code 72 = .ok (.aload_n 0, 1) := by decide +kernel
theorem d_17_34_73 : decode prog_17_method_34_code 73 = .ok (.getfield 95, 3) := by decide +kernel
theorem d_17_34_76 : decode prog_17_method_34_code 76 = .ok (.sipush 1080, 3) := by decide +kernel
theorem d_17_34_79 : decode prog_17_method_34_code 79 = .ok (.isub, 1) := by decide +kernel
theorem d_17_34_80 : decode prog_17_method_34_code 80 = .ok (.ireturn, 1) := by decide +kernel
theorem d_17_34_28 : decode prog_17_method_34_code 28 = .ok (.ifCond .eq 7, 3) := by decide +kernel
theorem d_17_34_35 : decode prog_17_method_34_code 35 = .ok (.aload_n 0, 1) := by decide +kernel
theorem d_17_34_36 : decode prog_17_method_34_code 36 = .ok (.invokevirtual 130, 3) := by decide +kernel
theorem d_17_34_39 : decode prog_17_method_34_code 39 = .ok (.ifCond .ne 7, 3) := by decide +kernel
theorem d_17_34_46 : decode prog_17_method_34_code 46 = .ok (.iconst 0, 1) := by decide +kernel
theorem d_17_34_42 : decode prog_17_method_34_code 42 = .ok (.iconst 2, 1) := by decide +kernel
theorem d_17_34_43 : decode prog_17_method_34_code 43 = .ok (.goto 4, 3) := by decide +kernel
theorem d_17_34_31 : decode prog_17_method_34_code 31 = .ok (.iconst 1, 1) := by decide +kernel
theorem d_17_34_32 : decode prog_17_method_34_code 32 = .ok (.goto 15, 3) := by decide +kernel
theorem d_17_34_18 : decode prog_17_method_34_code 18 = .ok (.iconst 0, 1) := by decide +kernel
theorem d_17_34_3 : decode prog_17_method_34_code 3 = .ok (.ifCond .eq 15, 3) := by decide +kernel
theorem d_17_34_6 : decode prog_17_method_34_code 6 = .ok (.lload_n 1, 1) := by decide +kernel
theorem d_17_34_7 : decode prog_17_method_34_code 7 = .ok (.iload_n 3, 1) := by decide +kernel
theorem d_17_34_8 : decode prog_17_method_34_code 8 = .ok (.invokestatic 122, 3) := by decide +kernel
theorem d_17_34_11 : decode prog_17_method_34_code 11 = .ok (.ifCond .ne 7, 3) := by decide +kernel
theorem d_17_34_14 : decode prog_17_method_34_code 14 = .ok (.iconst 1, 1) := by decide +kernel
theorem d_17_34_15 : decode prog_17_method_34_code 15 = .ok (.goto 4, 3) := by decide +kernel
def y_FR_power : MethodName := ⟨"NumberHouseModel$FloatRows", "power", "(JZ)I"⟩
def F_FR_power_c69 (x2 : Int64) (x3 : Int32) (t0_0 : Int32) (t0_1 : Int32) (t0_2 : Int32) (t0_3 : Int32) (t0_4 : Int64) (t0_5 : Int32) (t0_6 : Int32) (t0_7 : Int64) (t0_8 : Int32) (t0_9 : Int64) (t0_10 : Int32) (t1_0 : (Nat → Int32)) (t2_0 : (Nat → Int32)) (t3_0 : (Nat → Int32)) (t4_0 : (Nat → Int32)) (t5_0 : (Nat → Int32)) (t6_0 : (Nat → Int32)) (lx32 : Int32) (p85 : (Int32 × Int32 × Int32 × Int32 × Int64 × Int32 × Int32 × Int64 × Int32 × Int64 × Int32)) (y51 : Int32) (y52 : Int32) (y53 : Int32) (y54 : Int32) (y55 : Int64) (y56 : Int32) (y57 : Int32) (y58 : Int64) (y59 : Int32) (y60 : Int64) (y61 : Int32) (lx110 : Int32) (p183 : (Int32 × Int32 × Int32 × Int32 × Int64 × Int32 × Int32 × Int64 × Int32 × Int64 × Int32 × (Nat → Int32) × (Nat → Int32) × (Nat → Int32) × (Nat → Int32) × (Nat → Int32) × (Nat → Int32))) : Int32 × Int32 × Int32 × Int32 × Int32 × Int64 × Int32 × Int32 × Int64 × Int32 × Int64 × Int32 × (Nat → Int32) × (Nat → Int32) × (Nat → Int32) × (Nat → Int32) × (Nat → Int32) × (Nat → Int32) := (((p183.2.2.2.2.2.2.2.2.2.2.1 : Int32) - 1080 : Int32), (p183.1 : Int32), (p183.2.1 : Int32), (p183.2.2.1 : Int32), (p183.2.2.2.1 : Int32), (p183.2.2.2.2.1 : Int64), (p183.2.2.2.2.2.1 : Int32), (p183.2.2.2.2.2.2.1 : Int32), (p183.2.2.2.2.2.2.2.1 : Int64), (p183.2.2.2.2.2.2.2.2.1 : Int32), (p183.2.2.2.2.2.2.2.2.2.1 : Int64), (p183.2.2.2.2.2.2.2.2.2.2.1 : Int32), (p183.2.2.2.2.2.2.2.2.2.2.2.1 : (Nat → Int32)), (p183.2.2.2.2.2.2.2.2.2.2.2.2.1 : (Nat → Int32)), (p183.2.2.2.2.2.2.2.2.2.2.2.2.2.1 : (Nat → Int32)), (p183.2.2.2.2.2.2.2.2.2.2.2.2.2.2.1 : (Nat → Int32)), (p183.2.2.2.2.2.2.2.2.2.2.2.2.2.2.2.1 : (Nat → Int32)), (p183.2.2.2.2.2.2.2.2.2.2.2.2.2.2.2.2 : (Nat → Int32)))
def F_FR_power_J47 (x2 : Int64) (x3 : Int32) (t0_0 : Int32) (t0_1 : Int32) (t0_2 : Int32) (t0_3 : Int32) (t0_4 : Int64) (t0_5 : Int32) (t0_6 : Int32) (t0_7 : Int64) (t0_8 : Int32) (t0_9 : Int64) (t0_10 : Int32) (t1_0 : (Nat → Int32)) (t2_0 : (Nat → Int32)) (t3_0 : (Nat → Int32)) (t4_0 : (Nat → Int32)) (t5_0 : (Nat → Int32)) (t6_0 : (Nat → Int32)) (lx32 : Int32) (p85 : (Int32 × Int32 × Int32 × Int32 × Int64 × Int32 × Int32 × Int64 × Int32 × Int64 × Int32)) (y51 : Int32) (y52 : Int32) (y53 : Int32) (y54 : Int32) (y55 : Int64) (y56 : Int32) (y57 : Int32) (y58 : Int64) (y59 : Int32) (y60 : Int64) (y61 : Int32) (lx110 : Int32) : Int32 × Int32 × Int32 × Int32 × Int32 × Int64 × Int32 × Int32 × Int64 × Int32 × Int64 × Int32 × (Nat → Int32) × (Nat → Int32) × (Nat → Int32) × (Nat → Int32) × (Nat → Int32) × (Nat → Int32) := if (0 : Int32) < lx110 then (((0 : Int32), lx110, y52, y53, y54, y55, y56, y57, y58, y59, y60, y61, t1_0, t2_0, t3_0, t4_0, t5_0, t6_0)) else (if (lg_cmp y58 0 : Int32) = (0 : Int32) then (((0 : Int32), lx110, y52, y53, y54, y55, y56, y57, y58, y59, y60, y61, t1_0, t2_0, t3_0, t4_0, t5_0, t6_0)) else (F_FR_power_c69 x2 x3 t0_0 t0_1 t0_2 t0_3 t0_4 t0_5 t0_6 t0_7 t0_8 t0_9 t0_10 t1_0 t2_0 t3_0 t4_0 t5_0 t6_0 lx32 p85 y51 y52 y53 y54 y55 y56 y57 y58 y59 y60 y61 lx110 ((F_FR_findShortest lx110 y52 y53 y54 y55 y56 y57 y58 y59 y60 y61 t1_0 t2_0 t3_0 t4_0 t5_0 t6_0) : (Int32 × Int32 × Int32 × Int32 × Int64 × Int32 × Int32 × Int64 × Int32 × Int64 × Int32 × (Nat → Int32) × (Nat → Int32) × (Nat → Int32) × (Nat → Int32) × (Nat → Int32) × (Nat → Int32)))))
def F_FR_power_c19 (x2 : Int64) (x3 : Int32) (t0_0 : Int32) (t0_1 : Int32) (t0_2 : Int32) (t0_3 : Int32) (t0_4 : Int64) (t0_5 : Int32) (t0_6 : Int32) (t0_7 : Int64) (t0_8 : Int32) (t0_9 : Int64) (t0_10 : Int32) (t1_0 : (Nat → Int32)) (t2_0 : (Nat → Int32)) (t3_0 : (Nat → Int32)) (t4_0 : (Nat → Int32)) (t5_0 : (Nat → Int32)) (t6_0 : (Nat → Int32)) (lx32 : Int32) (p85 : (Int32 × Int32 × Int32 × Int32 × Int64 × Int32 × Int32 × Int64 × Int32 × Int64 × Int32)) : Int32 × Int32 × Int32 × Int32 × Int32 × Int64 × Int32 × Int32 × Int64 × Int32 × Int64 × Int32 × (Nat → Int32) × (Nat → Int32) × (Nat → Int32) × (Nat → Int32) × (Nat → Int32) × (Nat → Int32) := if ((F_FR_isWrong x2 x3) : Int32) = (0 : Int32) then (if ((F_FR_isFinite (p85.1 : Int32) (p85.2.1 : Int32) (p85.2.2.1 : Int32) (p85.2.2.2.1 : Int32) (p85.2.2.2.2.1 : Int64) (p85.2.2.2.2.2.1 : Int32) (p85.2.2.2.2.2.2.1 : Int32) (p85.2.2.2.2.2.2.2.1 : Int64) (p85.2.2.2.2.2.2.2.2.1 : Int32) (p85.2.2.2.2.2.2.2.2.2.1 : Int64) (p85.2.2.2.2.2.2.2.2.2.2 : Int32)) : Int32) = (0 : Int32) then (F_FR_power_J47 x2 x3 t0_0 t0_1 t0_2 t0_3 t0_4 t0_5 t0_6 t0_7 t0_8 t0_9 t0_10 t1_0 t2_0 t3_0 t4_0 t5_0 t6_0 lx32 p85 (p85.1 : Int32) (p85.2.1 : Int32) (p85.2.2.1 : Int32) (p85.2.2.2.1 : Int32) (p85.2.2.2.2.1 : Int64) (p85.2.2.2.2.2.1 : Int32) (p85.2.2.2.2.2.2.1 : Int32) (p85.2.2.2.2.2.2.2.1 : Int64) (p85.2.2.2.2.2.2.2.2.1 : Int32) (p85.2.2.2.2.2.2.2.2.2.1 : Int64) (p85.2.2.2.2.2.2.2.2.2.2 : Int32) 2) else (F_FR_power_J47 x2 x3 t0_0 t0_1 t0_2 t0_3 t0_4 t0_5 t0_6 t0_7 t0_8 t0_9 t0_10 t1_0 t2_0 t3_0 t4_0 t5_0 t6_0 lx32 p85 (p85.1 : Int32) (p85.2.1 : Int32) (p85.2.2.1 : Int32) (p85.2.2.2.1 : Int32) (p85.2.2.2.2.1 : Int64) (p85.2.2.2.2.2.1 : Int32) (p85.2.2.2.2.2.2.1 : Int32) (p85.2.2.2.2.2.2.2.1 : Int64) (p85.2.2.2.2.2.2.2.2.1 : Int32) (p85.2.2.2.2.2.2.2.2.2.1 : Int64) (p85.2.2.2.2.2.2.2.2.2.2 : Int32) 0)) else (F_FR_power_J47 x2 x3 t0_0 t0_1 t0_2 t0_3 t0_4 t0_5 t0_6 t0_7 t0_8 t0_9 t0_10 t1_0 t2_0 t3_0 t4_0 t5_0 t6_0 lx32 p85 (p85.1 : Int32) (p85.2.1 : Int32) (p85.2.2.1 : Int32) (p85.2.2.2.1 : Int32) (p85.2.2.2.2.1 : Int64) (p85.2.2.2.2.2.1 : Int32) (p85.2.2.2.2.2.2.1 : Int32) (p85.2.2.2.2.2.2.2.1 : Int64) (p85.2.2.2.2.2.2.2.2.1 : Int32) (p85.2.2.2.2.2.2.2.2.2.1 : Int64) (p85.2.2.2.2.2.2.2.2.2.2 : Int32) 1)
def F_FR_power_J19 (x2 : Int64) (x3 : Int32) (t0_0 : Int32) (t0_1 : Int32) (t0_2 : Int32) (t0_3 : Int32) (t0_4 : Int64) (t0_5 : Int32) (t0_6 : Int32) (t0_7 : Int64) (t0_8 : Int32) (t0_9 : Int64) (t0_10 : Int32) (t1_0 : (Nat → Int32)) (t2_0 : (Nat → Int32)) (t3_0 : (Nat → Int32)) (t4_0 : (Nat → Int32)) (t5_0 : (Nat → Int32)) (t6_0 : (Nat → Int32)) (lx32 : Int32) : Int32 × Int32 × Int32 × Int32 × Int32 × Int64 × Int32 × Int32 × Int64 × Int32 × Int64 × Int32 × (Nat → Int32) × (Nat → Int32) × (Nat → Int32) × (Nat → Int32) × (Nat → Int32) × (Nat → Int32) := F_FR_power_c19 x2 x3 t0_0 t0_1 t0_2 t0_3 t0_4 t0_5 t0_6 t0_7 t0_8 t0_9 t0_10 t1_0 t2_0 t3_0 t4_0 t5_0 t6_0 lx32 ((F_FR_open x2 lx32 t0_0 t0_1 t0_2 t0_3 t0_4 t0_5 t0_6 t0_7 t0_8 t0_9 t0_10) : (Int32 × Int32 × Int32 × Int32 × Int64 × Int32 × Int32 × Int64 × Int32 × Int64 × Int32))
def F_FR_power_J18 (x2 : Int64) (x3 : Int32) (t0_0 : Int32) (t0_1 : Int32) (t0_2 : Int32) (t0_3 : Int32) (t0_4 : Int64) (t0_5 : Int32) (t0_6 : Int32) (t0_7 : Int64) (t0_8 : Int32) (t0_9 : Int64) (t0_10 : Int32) (t1_0 : (Nat → Int32)) (t2_0 : (Nat → Int32)) (t3_0 : (Nat → Int32)) (t4_0 : (Nat → Int32)) (t5_0 : (Nat → Int32)) (t6_0 : (Nat → Int32)) : Int32 × Int32 × Int32 × Int32 × Int32 × Int64 × Int32 × Int32 × Int64 × Int32 × Int64 × Int32 × (Nat → Int32) × (Nat → Int32) × (Nat → Int32) × (Nat → Int32) × (Nat → Int32) × (Nat → Int32) := F_FR_power_J19 x2 x3 t0_0 t0_1 t0_2 t0_3 t0_4 t0_5 t0_6 t0_7 t0_8 t0_9 t0_10 t1_0 t2_0 t3_0 t4_0 t5_0 t6_0 0
def F_FR_power (x2 : Int64) (x3 : Int32) (t0_0 : Int32) (t0_1 : Int32) (t0_2 : Int32) (t0_3 : Int32) (t0_4 : Int64) (t0_5 : Int32) (t0_6 : Int32) (t0_7 : Int64) (t0_8 : Int32) (t0_9 : Int64) (t0_10 : Int32) (t1_0 : (Nat → Int32)) (t2_0 : (Nat → Int32)) (t3_0 : (Nat → Int32)) (t4_0 : (Nat → Int32)) (t5_0 : (Nat → Int32)) (t6_0 : (Nat → Int32)) : Int32 × Int32 × Int32 × Int32 × Int32 × Int64 × Int32 × Int32 × Int64 × Int32 × Int64 × Int32 × (Nat → Int32) × (Nat → Int32) × (Nat → Int32) × (Nat → Int32) × (Nat → Int32) × (Nat → Int32) := if x3 = (0 : Int32) then (F_FR_power_J18 x2 x3 t0_0 t0_1 t0_2 t0_3 t0_4 t0_5 t0_6 t0_7 t0_8 t0_9 t0_10 t1_0 t2_0 t3_0 t4_0 t5_0 t6_0) else (if ((F_FR_isWrong x2 x3) : Int32) = (0 : Int32) then (F_FR_power_J19 x2 x3 t0_0 t0_1 t0_2 t0_3 t0_4 t0_5 t0_6 t0_7 t0_8 t0_9 t0_10 t1_0 t2_0 t3_0 t4_0 t5_0 t6_0 1) else (F_FR_power_J18 x2 x3 t0_0 t0_1 t0_2 t0_3 t0_4 t0_5 t0_6 t0_7 t0_8 t0_9 t0_10 t1_0 t2_0 t3_0 t4_0 t5_0 t6_0))
def S_FR_power_c69 (x2 : Int64) (x3 : Int32) (t0_0 : Int32) (t0_1 : Int32) (t0_2 : Int32) (t0_3 : Int32) (t0_4 : Int64) (t0_5 : Int32) (t0_6 : Int32) (t0_7 : Int64) (t0_8 : Int32) (t0_9 : Int64) (t0_10 : Int32) (t1_0 : (Nat → Int32)) (t2_0 : (Nat → Int32)) (t3_0 : (Nat → Int32)) (t4_0 : (Nat → Int32)) (t5_0 : (Nat → Int32)) (t6_0 : (Nat → Int32)) (lx32 : Int32) (p85 : (Int32 × Int32 × Int32 × Int32 × Int64 × Int32 × Int32 × Int64 × Int32 × Int64 × Int32)) (y51 : Int32) (y52 : Int32) (y53 : Int32) (y54 : Int32) (y55 : Int64) (y56 : Int32) (y57 : Int32) (y58 : Int64) (y59 : Int32) (y60 : Int64) (y61 : Int32) (lx110 : Int32) (p183 : (Int32 × Int32 × Int32 × Int32 × Int64 × Int32 × Int32 × Int64 × Int32 × Int64 × Int32 × (Nat → Int32) × (Nat → Int32) × (Nat → Int32) × (Nat → Int32) × (Nat → Int32) × (Nat → Int32))) : Prop := True
def S_FR_power_J47 (x2 : Int64) (x3 : Int32) (t0_0 : Int32) (t0_1 : Int32) (t0_2 : Int32) (t0_3 : Int32) (t0_4 : Int64) (t0_5 : Int32) (t0_6 : Int32) (t0_7 : Int64) (t0_8 : Int32) (t0_9 : Int64) (t0_10 : Int32) (t1_0 : (Nat → Int32)) (t2_0 : (Nat → Int32)) (t3_0 : (Nat → Int32)) (t4_0 : (Nat → Int32)) (t5_0 : (Nat → Int32)) (t6_0 : (Nat → Int32)) (lx32 : Int32) (p85 : (Int32 × Int32 × Int32 × Int32 × Int64 × Int32 × Int32 × Int64 × Int32 × Int64 × Int32)) (y51 : Int32) (y52 : Int32) (y53 : Int32) (y54 : Int32) (y55 : Int64) (y56 : Int32) (y57 : Int32) (y58 : Int64) (y59 : Int32) (y60 : Int64) (y61 : Int32) (lx110 : Int32) : Prop := if (0 : Int32) < lx110 then (True) else (if (lg_cmp y58 0 : Int32) = (0 : Int32) then (True) else ((True ∧ S_FR_findShortest lx110 y52 y53 y54 y55 y56 y57 y58 y59 y60 y61 t1_0 t2_0 t3_0 t4_0 t5_0 t6_0) ∧ (S_FR_power_c69 x2 x3 t0_0 t0_1 t0_2 t0_3 t0_4 t0_5 t0_6 t0_7 t0_8 t0_9 t0_10 t1_0 t2_0 t3_0 t4_0 t5_0 t6_0 lx32 p85 y51 y52 y53 y54 y55 y56 y57 y58 y59 y60 y61 lx110 ((F_FR_findShortest lx110 y52 y53 y54 y55 y56 y57 y58 y59 y60 y61 t1_0 t2_0 t3_0 t4_0 t5_0 t6_0) : (Int32 × Int32 × Int32 × Int32 × Int64 × Int32 × Int32 × Int64 × Int32 × Int64 × Int32 × (Nat → Int32) × (Nat → Int32) × (Nat → Int32) × (Nat → Int32) × (Nat → Int32) × (Nat → Int32))))))
def S_FR_power_c19 (x2 : Int64) (x3 : Int32) (t0_0 : Int32) (t0_1 : Int32) (t0_2 : Int32) (t0_3 : Int32) (t0_4 : Int64) (t0_5 : Int32) (t0_6 : Int32) (t0_7 : Int64) (t0_8 : Int32) (t0_9 : Int64) (t0_10 : Int32) (t1_0 : (Nat → Int32)) (t2_0 : (Nat → Int32)) (t3_0 : (Nat → Int32)) (t4_0 : (Nat → Int32)) (t5_0 : (Nat → Int32)) (t6_0 : (Nat → Int32)) (lx32 : Int32) (p85 : (Int32 × Int32 × Int32 × Int32 × Int64 × Int32 × Int32 × Int64 × Int32 × Int64 × Int32)) : Prop := if ((F_FR_isWrong x2 x3) : Int32) = (0 : Int32) then (if ((F_FR_isFinite (p85.1 : Int32) (p85.2.1 : Int32) (p85.2.2.1 : Int32) (p85.2.2.2.1 : Int32) (p85.2.2.2.2.1 : Int64) (p85.2.2.2.2.2.1 : Int32) (p85.2.2.2.2.2.2.1 : Int32) (p85.2.2.2.2.2.2.2.1 : Int64) (p85.2.2.2.2.2.2.2.2.1 : Int32) (p85.2.2.2.2.2.2.2.2.2.1 : Int64) (p85.2.2.2.2.2.2.2.2.2.2 : Int32)) : Int32) = (0 : Int32) then (S_FR_power_J47 x2 x3 t0_0 t0_1 t0_2 t0_3 t0_4 t0_5 t0_6 t0_7 t0_8 t0_9 t0_10 t1_0 t2_0 t3_0 t4_0 t5_0 t6_0 lx32 p85 (p85.1 : Int32) (p85.2.1 : Int32) (p85.2.2.1 : Int32) (p85.2.2.2.1 : Int32) (p85.2.2.2.2.1 : Int64) (p85.2.2.2.2.2.1 : Int32) (p85.2.2.2.2.2.2.1 : Int32) (p85.2.2.2.2.2.2.2.1 : Int64) (p85.2.2.2.2.2.2.2.2.1 : Int32) (p85.2.2.2.2.2.2.2.2.2.1 : Int64) (p85.2.2.2.2.2.2.2.2.2.2 : Int32) 2) else (S_FR_power_J47 x2 x3 t0_0 t0_1 t0_2 t0_3 t0_4 t0_5 t0_6 t0_7 t0_8 t0_9 t0_10 t1_0 t2_0 t3_0 t4_0 t5_0 t6_0 lx32 p85 (p85.1 : Int32) (p85.2.1 : Int32) (p85.2.2.1 : Int32) (p85.2.2.2.1 : Int32) (p85.2.2.2.2.1 : Int64) (p85.2.2.2.2.2.1 : Int32) (p85.2.2.2.2.2.2.1 : Int32) (p85.2.2.2.2.2.2.2.1 : Int64) (p85.2.2.2.2.2.2.2.2.1 : Int32) (p85.2.2.2.2.2.2.2.2.2.1 : Int64) (p85.2.2.2.2.2.2.2.2.2.2 : Int32) 0)) else (S_FR_power_J47 x2 x3 t0_0 t0_1 t0_2 t0_3 t0_4 t0_5 t0_6 t0_7 t0_8 t0_9 t0_10 t1_0 t2_0 t3_0 t4_0 t5_0 t6_0 lx32 p85 (p85.1 : Int32) (p85.2.1 : Int32) (p85.2.2.1 : Int32) (p85.2.2.2.1 : Int32) (p85.2.2.2.2.1 : Int64) (p85.2.2.2.2.2.1 : Int32) (p85.2.2.2.2.2.2.1 : Int32) (p85.2.2.2.2.2.2.2.1 : Int64) (p85.2.2.2.2.2.2.2.2.1 : Int32) (p85.2.2.2.2.2.2.2.2.2.1 : Int64) (p85.2.2.2.2.2.2.2.2.2.2 : Int32) 1)
def S_FR_power_J19 (x2 : Int64) (x3 : Int32) (t0_0 : Int32) (t0_1 : Int32) (t0_2 : Int32) (t0_3 : Int32) (t0_4 : Int64) (t0_5 : Int32) (t0_6 : Int32) (t0_7 : Int64) (t0_8 : Int32) (t0_9 : Int64) (t0_10 : Int32) (t1_0 : (Nat → Int32)) (t2_0 : (Nat → Int32)) (t3_0 : (Nat → Int32)) (t4_0 : (Nat → Int32)) (t5_0 : (Nat → Int32)) (t6_0 : (Nat → Int32)) (lx32 : Int32) : Prop := S_FR_power_c19 x2 x3 t0_0 t0_1 t0_2 t0_3 t0_4 t0_5 t0_6 t0_7 t0_8 t0_9 t0_10 t1_0 t2_0 t3_0 t4_0 t5_0 t6_0 lx32 ((F_FR_open x2 lx32 t0_0 t0_1 t0_2 t0_3 t0_4 t0_5 t0_6 t0_7 t0_8 t0_9 t0_10) : (Int32 × Int32 × Int32 × Int32 × Int64 × Int32 × Int32 × Int64 × Int32 × Int64 × Int32))
def S_FR_power_J18 (x2 : Int64) (x3 : Int32) (t0_0 : Int32) (t0_1 : Int32) (t0_2 : Int32) (t0_3 : Int32) (t0_4 : Int64) (t0_5 : Int32) (t0_6 : Int32) (t0_7 : Int64) (t0_8 : Int32) (t0_9 : Int64) (t0_10 : Int32) (t1_0 : (Nat → Int32)) (t2_0 : (Nat → Int32)) (t3_0 : (Nat → Int32)) (t4_0 : (Nat → Int32)) (t5_0 : (Nat → Int32)) (t6_0 : (Nat → Int32)) : Prop := S_FR_power_J19 x2 x3 t0_0 t0_1 t0_2 t0_3 t0_4 t0_5 t0_6 t0_7 t0_8 t0_9 t0_10 t1_0 t2_0 t3_0 t4_0 t5_0 t6_0 0
def S_FR_power (x2 : Int64) (x3 : Int32) (t0_0 : Int32) (t0_1 : Int32) (t0_2 : Int32) (t0_3 : Int32) (t0_4 : Int64) (t0_5 : Int32) (t0_6 : Int32) (t0_7 : Int64) (t0_8 : Int32) (t0_9 : Int64) (t0_10 : Int32) (t1_0 : (Nat → Int32)) (t2_0 : (Nat → Int32)) (t3_0 : (Nat → Int32)) (t4_0 : (Nat → Int32)) (t5_0 : (Nat → Int32)) (t6_0 : (Nat → Int32)) : Prop := if x3 = (0 : Int32) then (S_FR_power_J18 x2 x3 t0_0 t0_1 t0_2 t0_3 t0_4 t0_5 t0_6 t0_7 t0_8 t0_9 t0_10 t1_0 t2_0 t3_0 t4_0 t5_0 t6_0) else (if ((F_FR_isWrong x2 x3) : Int32) = (0 : Int32) then (S_FR_power_J19 x2 x3 t0_0 t0_1 t0_2 t0_3 t0_4 t0_5 t0_6 t0_7 t0_8 t0_9 t0_10 t1_0 t2_0 t3_0 t4_0 t5_0 t6_0 1) else (S_FR_power_J18 x2 x3 t0_0 t0_1 t0_2 t0_3 t0_4 t0_5 t0_6 t0_7 t0_8 t0_9 t0_10 t1_0 t2_0 t3_0 t4_0 t5_0 t6_0))
set_option maxRecDepth 100000 in
set_option maxHeartbeats 4000000 in
theorem X_FR_power (l : Launch) (D : va_G) (g : Nat → ClassId) (q : Nat → Nat) (ws : va_W) (x2 : Int64) (x3 : Int32) (hI : q_I (msh g q) q ws) (t0_0 : Int32) (t0_1 : Int32) (t0_2 : Int32) (t0_3 : Int32) (t0_4 : Int64) (t0_5 : Int32) (t0_6 : Int32) (t0_7 : Int64) (t0_8 : Int32) (t0_9 : Int64) (t0_10 : Int32) (hT0 : ws[145]? = (some (q 145, .inr (15, [.int t0_0, .ref (q 146), .ref (q 147), .ref (q 148), .ref (q 149), .ref (q 150), .ref (q 151), .ref (q 152), .int t0_1, .int t0_2, .int t0_3, .long t0_4, .int t0_5, .int t0_6, .long t0_7, .int t0_8, .long t0_9, .int t0_10])) : Option (Nat × va_E))) (t1_0 : (Nat → Int32)) (hT1 : ws[146]? = (some (q 146, .inl (g 0, (156 : Int32).toNatClampNeg, .inl t1_0)) : Option (Nat × va_E))) (t2_0 : (Nat → Int32)) (hT2 : ws[147]? = (some (q 147, .inl (g 0, (156 : Int32).toNatClampNeg, .inl t2_0)) : Option (Nat × va_E))) (t3_0 : (Nat → Int32)) (hT3 : ws[148]? = (some (q 148, .inl (g 0, (1404 : Int32).toNatClampNeg, .inl t3_0)) : Option (Nat × va_E))) (t4_0 : (Nat → Int32)) (hT4 : ws[149]? = (some (q 149, .inl (g 0, (1404 : Int32).toNatClampNeg, .inl t4_0)) : Option (Nat × va_E))) (t5_0 : (Nat → Int32)) (hT5 : ws[150]? = (some (q 150, .inl (g 0, (1404 : Int32).toNatClampNeg, .inl t5_0)) : Option (Nat × va_E))) (t6_0 : (Nat → Int32)) (hT6 : ws[151]? = (some (q 151, .inl (g 0, (1404 : Int32).toNatClampNeg, .inl t6_0)) : Option (Nat × va_E))) (hzx3 : 0 ≤ x3.toInt ∧ x3.toInt ≤ 1) (hS : True ∧ S_FR_power x2 x3 t0_0 t0_1 t0_2 t0_3 t0_4 t0_5 t0_6 t0_7 t0_8 t0_9 t0_10 t1_0 t2_0 t3_0 t4_0 t5_0 t6_0) : q_mI l y_FR_power prog_17_method_34_code 4 (.int) 5 0 0 D g [.ref (q 145), .long x2, .int x3] ws (fun r u => q_I (msh g q) q u ∧ q_un ws u [145, 146, 147, 148, 149, 150, 151] ∧ ∃ (u0_0 : Int32) (u0_1 : Int32) (u0_2 : Int32) (u0_3 : Int32) (u0_4 : Int64) (u0_5 : Int32) (u0_6 : Int32) (u0_7 : Int64) (u0_8 : Int32) (u0_9 : Int64) (u0_10 : Int32) (u1_0 : (Nat → Int32)) (u2_0 : (Nat → Int32)) (u3_0 : (Nat → Int32)) (u4_0 : (Nat → Int32)) (u5_0 : (Nat → Int32)) (u6_0 : (Nat → Int32)), u[145]? = (some (q 145, .inr (15, [.int u0_0, .ref (q 146), .ref (q 147), .ref (q 148), .ref (q 149), .ref (q 150), .ref (q 151), .ref (q 152), .int u0_1, .int u0_2, .int u0_3, .long u0_4, .int u0_5, .int u0_6, .long u0_7, .int u0_8, .long u0_9, .int u0_10])) : Option (Nat × va_E)) ∧ u[146]? = (some (q 146, .inl (g 0, (156 : Int32).toNatClampNeg, .inl u1_0)) : Option (Nat × va_E)) ∧ u[147]? = (some (q 147, .inl (g 0, (156 : Int32).toNatClampNeg, .inl u2_0)) : Option (Nat × va_E)) ∧ u[148]? = (some (q 148, .inl (g 0, (1404 : Int32).toNatClampNeg, .inl u3_0)) : Option (Nat × va_E)) ∧ u[149]? = (some (q 149, .inl (g 0, (1404 : Int32).toNatClampNeg, .inl u4_0)) : Option (Nat × va_E)) ∧ u[150]? = (some (q 150, .inl (g 0, (1404 : Int32).toNatClampNeg, .inl u5_0)) : Option (Nat × va_E)) ∧ u[151]? = (some (q 151, .inl (g 0, (1404 : Int32).toNatClampNeg, .inl u6_0)) : Option (Nat × va_E)) ∧ (0 ≤ u0_0.toInt) ∧ (u0_0.toInt ≤ 2) ∧ (0 ≤ u0_2.toInt) ∧ (u0_2.toInt ≤ 1) ∧ (0 ≤ u0_3.toInt) ∧ (23 ≤ u0_5.toInt) ∧ (u0_5.toInt ≤ 52) ∧ (255 ≤ u0_6.toInt) ∧ (u0_6.toInt ≤ 2047) ∧ (0 ≤ u0_8.toInt + 1074) ∧ (t0_1.toInt ≤ u0_1.toInt) ∧ (u0_1.toInt ≤ t0_1.toInt) ∧ (u0_8.toInt ≤ x3.toInt + 1896) ∧ (u0_3.toInt ≤ u0_6.toInt) ∧ (u0_8.toInt + 149 ≤ u0_3.toInt) ∧ (u0_3.toInt ≤ u0_8.toInt + 1075) ∧ (u0_8.toInt + 150 ≤ u0_6.toInt) ∧ (r, u0_0, u0_1, u0_2, u0_3, u0_4, u0_5, u0_6, u0_7, u0_8, u0_9, u0_10, u1_0, u2_0, u3_0, u4_0, u5_0, u6_0) = (F_FR_power x2 x3 t0_0 t0_1 t0_2 t0_3 t0_4 t0_5 t0_6 t0_7 t0_8 t0_9 t0_10 t1_0 t2_0 t3_0 t4_0 t5_0 t6_0)) := by
  intro sz
  refine q_into (by decide) (Nat.le_of_ble_eq_true rfl) ?_
  intro p e s m below meth c ls hsz C0 V hl
  have hx := C0.1
  have hb := C0.2.1
  replace hzx3 : q_F (0 ≤ x3.toInt ∧ x3.toInt ≤ 1) := hzx3
  obtain ⟨yy0_0, yy0_1, yy0_2, yy0_3, yy0_4, yy0_5, yy0_6, yy0_7, yy0_8, yy0_9, yy0_10, hh0, btt0_2⟩ := n_o145 hI
  obtain ⟨rfl, rfl, rfl, rfl, rfl, rfl, rfl, rfl, rfl, rfl, rfl⟩ : t0_0 = yy0_0 ∧ t0_1 = yy0_1 ∧ t0_2 = yy0_2 ∧ t0_3 = yy0_3 ∧ t0_4 = yy0_4 ∧ t0_5 = yy0_5 ∧ t0_6 = yy0_6 ∧ t0_7 = yy0_7 ∧ t0_8 = yy0_8 ∧ t0_9 = yy0_9 ∧ t0_10 = yy0_10 := by have z := Option.some.inj (hT0.symm.trans hh0); simpa using z
  replace btt0_2 : q_F (0 ≤ t0_2.toInt ∧ t0_2.toInt ≤ 1) := btt0_2
  have hF : q_un ws ws [145, 146, 147, 148, 149, 150, 151] := q_u0
  have hl : lv_has ls 4 [(0, .ref (q 145)), (1, .long x2), (3, .int x3)] := hl
  refine lv_aload_n hx hb d_17_34_0 rfl (lv_at hl 0 rfl) ?_
  refine lv_lload_n hx hb d_17_34_1 rfl (lv_at hl 1 rfl) ?_
  refine lv_iload_n hx hb d_17_34_2 rfl (lv_at hl 2 rfl) ?_
  refine q_join (X := Int32) (fun z H locs ls _ => q_F (0 ≤ z.toInt) ∧ q_F (z.toInt ≤ x3.toInt) ∧ q_Wd D g (va_A ws sz) s ws H locs ∧ lv_has ls 4 [(0, .ref (q 145)), (1, .long x2), (3, .int x3)] ∧ F_FR_power_J19 x2 x3 t0_0 t0_1 t0_2 t0_3 t0_4 t0_5 t0_6 t0_7 t0_8 t0_9 t0_10 t1_0 t2_0 t3_0 t4_0 t5_0 t6_0 z = (F_FR_power x2 x3 t0_0 t0_1 t0_2 t0_3 t0_4 t0_5 t0_6 t0_7 t0_8 t0_9 t0_10 t1_0 t2_0 t3_0 t4_0 t5_0 t6_0) ∧ True ∧ S_FR_power_J19 x2 x3 t0_0 t0_1 t0_2 t0_3 t0_4 t0_5 t0_6 t0_7 t0_8 t0_9 t0_10 t1_0 t2_0 t3_0 t4_0 t5_0 t6_0 z) (fun z => [.int z, .long x2, .ref (q 145)]) 19 0 0 ?_ ?_
  ·
    rintro lx32 H locs ls _ ⟨i41, i42, V, hl, hR43, hS44⟩
    replace i41 : q_F (0 ≤ lx32.toInt) := i41
    replace i42 : q_F (lx32.toInt ≤ x3.toInt) := i42
    replace hl : lv_has ls 4 [(0, .ref (q 145)), (1, .long x2), (3, .int x3)] := hl
    refine q_gov V (q_runV (As := [.long x2, .int lx32]) (rest := []) (d := 1) (mc := 0) (ms := 0) (ci := 15) C0 V rfl LV_FR_126 (X_FR_open l D g q ws  x2 lx32 hI t0_0 t0_1 t0_2 t0_3 t0_4 t0_5 t0_6 t0_7 t0_8 t0_9 t0_10 hT0 ⟨(by have t1 : 0 ≤ lx32.toInt := i41; omega), (by have t1 : 0 ≤ x3.toInt ∧ x3.toInt ≤ 1 := hzx3; have t2 : lx32.toInt ≤ x3.toInt := i42; omega)⟩ _) rfl rfl hT0 rfl hl.1 rfl (Nat.le_of_ble_eq_true rfl) ⟨by decide, by decide⟩ ⟨Nat.le_of_ble_eq_true rfl, Nat.le_of_ble_eq_true rfl⟩ d_17_34_19) (fun u48 H locs hp49 V => ?_)
    obtain ⟨hI, hu84, y51, y52, y53, y54, y55, y56, y57, y58, y59, y60, y61, hO50, b62, b63, b64, b65, b66, b67, b68, b69, b70, b71, b72, b73, b74, b75, b76, b77, b78, b79, b80, b81, b82, hE83⟩ := hp49
    replace hO50 : u48[145]? = (some (q 145, .inr (15, [.int y51, .ref (q 146), .ref (q 147), .ref (q 148), .ref (q 149), .ref (q 150), .ref (q 151), .ref (q 152), .int y52, .int y53, .int y54, .long y55, .int y56, .int y57, .long y58, .int y59, .long y60, .int y61])) : Option (Nat × va_E)) := hO50
    obtain ⟨p85, e86⟩ : ∃ z, z = (F_FR_open x2 lx32 t0_0 t0_1 t0_2 t0_3 t0_4 t0_5 t0_6 t0_7 t0_8 t0_9 t0_10) := ⟨_, rfl⟩
    have e87 : y51 = p85.1 := congrArg (fun z => z.1) (hE83.trans e86.symm)
    have e88 : y52 = p85.2.1 := congrArg (fun z => z.2.1) (hE83.trans e86.symm)
    have e89 : y53 = p85.2.2.1 := congrArg (fun z => z.2.2.1) (hE83.trans e86.symm)
    have e90 : y54 = p85.2.2.2.1 := congrArg (fun z => z.2.2.2.1) (hE83.trans e86.symm)
    have e91 : y55 = p85.2.2.2.2.1 := congrArg (fun z => z.2.2.2.2.1) (hE83.trans e86.symm)
    have e92 : y56 = p85.2.2.2.2.2.1 := congrArg (fun z => z.2.2.2.2.2.1) (hE83.trans e86.symm)
    have e93 : y57 = p85.2.2.2.2.2.2.1 := congrArg (fun z => z.2.2.2.2.2.2.1) (hE83.trans e86.symm)
    have e94 : y58 = p85.2.2.2.2.2.2.2.1 := congrArg (fun z => z.2.2.2.2.2.2.2.1) (hE83.trans e86.symm)
    have e95 : y59 = p85.2.2.2.2.2.2.2.2.1 := congrArg (fun z => z.2.2.2.2.2.2.2.2.1) (hE83.trans e86.symm)
    have e96 : y60 = p85.2.2.2.2.2.2.2.2.2.1 := congrArg (fun z => z.2.2.2.2.2.2.2.2.2.1) (hE83.trans e86.symm)
    have e97 : y61 = p85.2.2.2.2.2.2.2.2.2.2 := congrArg (fun z => z.2.2.2.2.2.2.2.2.2.2) (hE83.trans e86.symm)
    replace b62 : q_F (0 ≤ y53.toInt) := b62
    replace b63 : q_F (y53.toInt ≤ 1) := b63
    replace b64 : q_F (0 ≤ y54.toInt) := b64
    replace b65 : q_F (23 ≤ y56.toInt) := b65
    replace b66 : q_F (y56.toInt ≤ 52) := b66
    replace b67 : q_F (255 ≤ y57.toInt) := b67
    replace b68 : q_F (y57.toInt ≤ 2047) := b68
    replace b69 : q_F (t0_0.toInt ≤ y51.toInt) := b69
    replace b70 : q_F (y51.toInt ≤ t0_0.toInt) := b70
    replace b71 : q_F (t0_1.toInt ≤ y52.toInt) := b71
    replace b72 : q_F (y52.toInt ≤ t0_1.toInt) := b72
    replace b73 : q_F (lx32.toInt ≤ y59.toInt + 1074) := b73
    replace b74 : q_F (y59.toInt ≤ lx32.toInt + 1896) := b74
    replace b75 : q_F (t0_9.toInt ≤ y60.toInt) := b75
    replace b76 : q_F (y60.toInt ≤ t0_9.toInt) := b76
    replace b77 : q_F (t0_10.toInt ≤ y61.toInt) := b77
    replace b78 : q_F (y61.toInt ≤ t0_10.toInt) := b78
    replace b79 : q_F (y54.toInt ≤ y57.toInt) := b79
    replace b80 : q_F (y59.toInt + 149 ≤ y54.toInt) := b80
    replace b81 : q_F (y54.toInt ≤ y59.toInt + 1075) := b81
    replace b82 : q_F (y59.toInt + 150 ≤ y57.toInt) := b82
    replace hT1 := (hu84 _ (by decide)).trans hT1
    replace hT2 := (hu84 _ (by decide)).trans hT2
    replace hT3 := (hu84 _ (by decide)).trans hT3
    replace hT4 := (hu84 _ (by decide)).trans hT4
    replace hT5 := (hu84 _ (by decide)).trans hT5
    replace hT6 := (hu84 _ (by decide)).trans hT6
    replace hF := q_uc hF hu84 (by simp)
    have hR98 := (show F_FR_power_c19 x2 x3 t0_0 t0_1 t0_2 t0_3 t0_4 t0_5 t0_6 t0_7 t0_8 t0_9 t0_10 t1_0 t2_0 t3_0 t4_0 t5_0 t6_0 lx32 p85 = (F_FR_power x2 x3 t0_0 t0_1 t0_2 t0_3 t0_4 t0_5 t0_6 t0_7 t0_8 t0_9 t0_10 t1_0 t2_0 t3_0 t4_0 t5_0 t6_0) from Eq.trans (by rw [e86, F_FR_power_J19.eq_1]) hR43)
    have hS99 := (show True ∧ S_FR_power_c19 x2 x3 t0_0 t0_1 t0_2 t0_3 t0_4 t0_5 t0_6 t0_7 t0_8 t0_9 t0_10 t1_0 t2_0 t3_0 t4_0 t5_0 t6_0 lx32 p85 from (by rw [e86]; have h := hS44; rw [S_FR_power_J19.eq_1] at h; with_reducible exact h))
    refine lv_aload_n hx hb d_17_34_22 rfl (lv_at hl 0 rfl) ?_
    refine lv_lload_n hx hb d_17_34_23 rfl (lv_at hl 1 rfl) ?_
    refine lv_iload_n hx hb d_17_34_24 rfl (lv_at hl 2 rfl) ?_
    refine q_goi V (q_runS (As := [.long x2, .int x3]) (rest := [.ref (q 145)]) (d := 1) (mc := 0) (ms := 0) C0 V rfl LS_FR_122 (X_FR_isWrong l D g q u48  x2 x3 hI  ⟨(by have t1 : 0 ≤ x3.toInt ∧ x3.toInt ≤ 1 := hzx3; omega), (by have t1 : 0 ≤ x3.toInt ∧ x3.toInt ≤ 1 := hzx3; omega)⟩ _) rfl hl.1 rfl (Nat.le_of_ble_eq_true rfl) ⟨by decide, by decide⟩ ⟨Nat.le_of_ble_eq_true rfl, Nat.le_of_ble_eq_true rfl⟩ d_17_34_25) (fun a105 u103 H locs hp104 V => ?_)
    obtain ⟨rfl, b106, b107, hE108⟩ := hp104
    have e109 : a105 = (F_FR_isWrong x2 x3) := hE108
    replace b106 : q_F (0 ≤ a105.toInt) := b106
    replace b107 : q_F (a105.toInt ≤ x3.toInt) := b107
    refine q_join (X := Int32) (fun z H locs ls _ => q_F (0 ≤ z.toInt) ∧ q_F (z.toInt ≤ 2) ∧ q_Wd D g (va_A ws sz) s u48 H locs ∧ lv_has ls 4 [(0, .ref (q 145))] ∧ F_FR_power_J47 x2 x3 t0_0 t0_1 t0_2 t0_3 t0_4 t0_5 t0_6 t0_7 t0_8 t0_9 t0_10 t1_0 t2_0 t3_0 t4_0 t5_0 t6_0 lx32 p85 y51 y52 y53 y54 y55 y56 y57 y58 y59 y60 y61 z = (F_FR_power x2 x3 t0_0 t0_1 t0_2 t0_3 t0_4 t0_5 t0_6 t0_7 t0_8 t0_9 t0_10 t1_0 t2_0 t3_0 t4_0 t5_0 t6_0) ∧ True ∧ S_FR_power_J47 x2 x3 t0_0 t0_1 t0_2 t0_3 t0_4 t0_5 t0_6 t0_7 t0_8 t0_9 t0_10 t1_0 t2_0 t3_0 t4_0 t5_0 t6_0 lx32 p85 y51 y52 y53 y54 y55 y56 y57 y58 y59 y60 y61 z) (fun z => [.int z, .ref (q 145)]) 47 0 0 ?_ ?_
    ·
      rintro lx110 H locs ls _ ⟨i119, i120, V, hl, hR121, hS122⟩
      replace i119 : q_F (0 ≤ lx110.toInt) := i119
      replace i120 : q_F (lx110.toInt ≤ 2) := i120
      replace hl : lv_has ls 4 [(0, .ref (q 145))] := hl
      refine q_put (ci := 15) (j := 0) (v := .int lx110) (ty := .int) C0 V i_FR o_FR n_FR rfl rfl hO50 (by decide) w_2074 rfl rfl rfl rfl (Nat.le_of_ble_eq_true rfl) d_17_34_47 (fun H locs w126 hu127 hO50 V => ?_)
      replace hO50 : w126[145]? = (some (q 145, .inr (15, [.int lx110, .ref (q 146), .ref (q 147), .ref (q 148), .ref (q 149), .ref (q 150), .ref (q 151), .ref (q 152), .int y52, .int y53, .int y54, .long y55, .int y56, .int y57, .long y58, .int y59, .long y60, .int y61])) : Option (Nat × va_E)) := hO50
      replace hI := n_p145 hI hu127 hO50 ⟨(by have t1 : 0 ≤ y53.toInt := b62; omega), (by have t1 : y53.toInt ≤ 1 := b63; omega)⟩
      replace hT1 := (hu127 _ (by decide)).trans hT1
      replace hT2 := (hu127 _ (by decide)).trans hT2
      replace hT3 := (hu127 _ (by decide)).trans hT3
      replace hT4 := (hu127 _ (by decide)).trans hT4
      replace hT5 := (hu127 _ (by decide)).trans hT5
      replace hT6 := (hu127 _ (by decide)).trans hT6
      replace hF := q_us hF hu127 (by simp)
      refine lv_aload_n hx hb d_17_34_50 rfl (lv_at hl 0 rfl) ?_
      refine q_get (ci := 15) (j := 0) (v := .int lx110) C0 V i_FR rfl rfl hO50 (by decide) w_2074 rfl d_17_34_51 ?_
      refine lv_if_gt (tgt := 66) hx hb d_17_34_54 (by decide) (fun c128 => ?_) (fun c128 => ?_)
      ·
        have b129 : q_F (0 < lx110.toInt) := (q_ltI c128)
        refine lv_iconst (v := 0) hx hb d_17_34_66 (by decide) ?_
        exact q_reti C0 V (⟨hI, hF, lx110, y52, y53, y54, y55, y56, y57, y58, y59, y60, y61, t1_0, t2_0, t3_0, t4_0, t5_0, t6_0, hO50, hT1, hT2, hT3, hT4, hT5, hT6, (show 0 ≤ lx110.toInt from (by have z19 : (0 : Int32).toInt = 0 := rfl; have t1 : 0 ≤ lx110.toInt := i119; omega)), (show lx110.toInt ≤ 2 from (by have z19 : (0 : Int32).toInt = 0 := rfl; have t1 : lx110.toInt ≤ 2 := i120; omega)), (show 0 ≤ y53.toInt from (by have z19 : (0 : Int32).toInt = 0 := rfl; have t1 : 0 ≤ y53.toInt := b62; omega)), (show y53.toInt ≤ 1 from (by have z19 : (0 : Int32).toInt = 0 := rfl; have t1 : y53.toInt ≤ 1 := b63; omega)), (show 0 ≤ y54.toInt from (by have z19 : (0 : Int32).toInt = 0 := rfl; have t1 : 0 ≤ y54.toInt := b64; omega)), (show 23 ≤ y56.toInt from (by have z19 : (0 : Int32).toInt = 0 := rfl; have t1 : 23 ≤ y56.toInt := b65; omega)), (show y56.toInt ≤ 52 from (by have z19 : (0 : Int32).toInt = 0 := rfl; have t1 : y56.toInt ≤ 52 := b66; omega)), (show 255 ≤ y57.toInt from (by have z19 : (0 : Int32).toInt = 0 := rfl; have t1 : 255 ≤ y57.toInt := b67; omega)), (show y57.toInt ≤ 2047 from (by have z19 : (0 : Int32).toInt = 0 := rfl; have t1 : y57.toInt ≤ 2047 := b68; omega)), (show 0 ≤ y59.toInt + 1074 from (by have z19 : (0 : Int32).toInt = 0 := rfl; have t1 : 0 ≤ lx32.toInt := i41; have t2 : lx32.toInt ≤ y59.toInt + 1074 := b73; omega)), (show t0_1.toInt ≤ y52.toInt from (by have z19 : (0 : Int32).toInt = 0 := rfl; have t1 : t0_1.toInt ≤ y52.toInt := b71; omega)), (show y52.toInt ≤ t0_1.toInt from (by have z19 : (0 : Int32).toInt = 0 := rfl; have t1 : y52.toInt ≤ t0_1.toInt := b72; omega)), (show y59.toInt ≤ x3.toInt + 1896 from (by have z19 : (0 : Int32).toInt = 0 := rfl; have t1 : lx32.toInt ≤ x3.toInt := i42; have t2 : y59.toInt ≤ lx32.toInt + 1896 := b74; omega)), (show y54.toInt ≤ y57.toInt from (by have z19 : (0 : Int32).toInt = 0 := rfl; have t1 : y54.toInt ≤ y57.toInt := b79; omega)), (show y59.toInt + 149 ≤ y54.toInt from (by have z19 : (0 : Int32).toInt = 0 := rfl; have t1 : y59.toInt + 149 ≤ y54.toInt := b80; omega)), (show y54.toInt ≤ y59.toInt + 1075 from (by have z19 : (0 : Int32).toInt = 0 := rfl; have t1 : y54.toInt ≤ y59.toInt + 1075 := b81; omega)), (show y59.toInt + 150 ≤ y57.toInt from (by have z19 : (0 : Int32).toInt = 0 := rfl; have t1 : y59.toInt + 150 ≤ y57.toInt := b82; omega)), (show ((0 : Int32), lx110, y52, y53, y54, y55, y56, y57, y58, y59, y60, y61, t1_0, t2_0, t3_0, t4_0, t5_0, t6_0) = (F_FR_power x2 x3 t0_0 t0_1 t0_2 t0_3 t0_4 t0_5 t0_6 t0_7 t0_8 t0_9 t0_10 t1_0 t2_0 t3_0 t4_0 t5_0 t6_0) from Eq.trans (by rw [F_FR_power_J47.eq_1, if_pos c128]) hR121)⟩) d_17_34_67
      ·
        have b130 : q_F (lx110.toInt ≤ 0) := (q_nltI c128)
        refine lv_aload_n hx hb d_17_34_57 rfl (lv_at hl 0 rfl) ?_
        refine q_get (ci := 15) (j := 14) (v := .long y58) C0 V i_FR rfl rfl hO50 (by decide) w_2090 rfl d_17_34_58 ?_
        refine lv_lconst (v := 0) hx hb d_17_34_61 (by decide) ?_
        refine W.lcmp hx hb d_17_34_62 ?_
        obtain ⟨a131, e132⟩ := q_nm (lg_cmp y58 0 : Int32)
        refine q_ti (v := a131) e132 ?_
        have b133 : q_F (-1 ≤ a131.toInt ∧ a131.toInt ≤ 1 ∧ ((a131.toInt = -1 ∧ y58.toInt < 0) ∨ (a131.toInt = 0 ∧ y58.toInt = 0) ∨ (a131.toInt = 1 ∧ 0 < y58.toInt))) := (by rw [← e132]; show -1 ≤ (lg_cmp y58 0 : Int32).toInt ∧ (lg_cmp y58 0 : Int32).toInt ≤ 1 ∧ (((lg_cmp y58 0 : Int32).toInt = -1 ∧ y58.toInt < 0) ∨ ((lg_cmp y58 0 : Int32).toInt = 0 ∧ y58.toInt = 0) ∨ ((lg_cmp y58 0 : Int32).toInt = 1 ∧ 0 < y58.toInt)); exact (by have y1 : (0 : Int64).toInt = 0 := rfl; have z := s_lcmp (a := y58) (b := 0); omega))
        refine lv_if_ne (tgt := 68) hx hb d_17_34_63 (by decide) (fun c134 => ?_) (fun c134 => ?_)
        ·
          have b135 : q_F (a131.toInt ≠ 0) := (q_neI c134)
          refine lv_aload_n hx hb d_17_34_68 rfl (lv_at hl 0 rfl) ?_
          have ob136 : True ∧ S_FR_findShortest lx110 y52 y53 y54 y55 y56 y57 y58 y59 y60 y61 t1_0 t2_0 t3_0 t4_0 t5_0 t6_0 := (by have h := hS122; rw [S_FR_power_J47.eq_1] at h; rw [if_neg c128] at h; have c134x := c134; rw [← e132] at c134x; rw [if_neg c134x] at h; with_reducible exact h.2.1)
          refine q_gov V (q_runV (As := []) (rest := []) (d := 4) (mc := 0) (ms := 0) (ci := 15) C0 V rfl LV_FR_136 (X_FR_findShortest l D g q w126   hI lx110 y52 y53 y54 y55 y56 y57 y58 y59 y60 y61 hO50 t1_0 hT1 t2_0 hT2 t3_0 hT3 t4_0 hT4 t5_0 hT5 t6_0 hT6 ob136 _) rfl rfl hO50 rfl hl.1 rfl (Nat.le_of_ble_eq_true rfl) ⟨by decide, by decide⟩ ⟨Nat.le_of_ble_eq_true rfl, Nat.le_of_ble_eq_true rfl⟩ d_17_34_69) (fun u137 H locs hp138 V => ?_)
          obtain ⟨hI, hu182, y140, y141, y142, y143, y144, y145, y146, y147, y148, y149, y150, f151, f153, f155, f157, f159, f161, hO139, hA152, hA154, hA156, hA158, hA160, hA162, b163, b164, b165, b166, b167, b168, b169, b170, b171, b172, b173, b174, b175, b176, b177, b178, b179, b180, hE181⟩ := hp138
          replace hO139 : u137[145]? = (some (q 145, .inr (15, [.int y140, .ref (q 146), .ref (q 147), .ref (q 148), .ref (q 149), .ref (q 150), .ref (q 151), .ref (q 152), .int y141, .int y142, .int y143, .long y144, .int y145, .int y146, .long y147, .int y148, .long y149, .int y150])) : Option (Nat × va_E)) := hO139
          replace hA152 : u137[146]? = (some (q 146, .inl (g 0, (156 : Int32).toNatClampNeg, .inl f151)) : Option (Nat × va_E)) := hA152
          replace hA154 : u137[147]? = (some (q 147, .inl (g 0, (156 : Int32).toNatClampNeg, .inl f153)) : Option (Nat × va_E)) := hA154
          replace hA156 : u137[148]? = (some (q 148, .inl (g 0, (1404 : Int32).toNatClampNeg, .inl f155)) : Option (Nat × va_E)) := hA156
          replace hA158 : u137[149]? = (some (q 149, .inl (g 0, (1404 : Int32).toNatClampNeg, .inl f157)) : Option (Nat × va_E)) := hA158
          replace hA160 : u137[150]? = (some (q 150, .inl (g 0, (1404 : Int32).toNatClampNeg, .inl f159)) : Option (Nat × va_E)) := hA160
          replace hA162 : u137[151]? = (some (q 151, .inl (g 0, (1404 : Int32).toNatClampNeg, .inl f161)) : Option (Nat × va_E)) := hA162
          obtain ⟨p183, e184⟩ : ∃ z, z = (F_FR_findShortest lx110 y52 y53 y54 y55 y56 y57 y58 y59 y60 y61 t1_0 t2_0 t3_0 t4_0 t5_0 t6_0) := ⟨_, rfl⟩
          have e185 : y140 = p183.1 := congrArg (fun z => z.1) (hE181.trans e184.symm)
          have e186 : y141 = p183.2.1 := congrArg (fun z => z.2.1) (hE181.trans e184.symm)
          have e187 : y142 = p183.2.2.1 := congrArg (fun z => z.2.2.1) (hE181.trans e184.symm)
          have e188 : y143 = p183.2.2.2.1 := congrArg (fun z => z.2.2.2.1) (hE181.trans e184.symm)
          have e189 : y144 = p183.2.2.2.2.1 := congrArg (fun z => z.2.2.2.2.1) (hE181.trans e184.symm)
          have e190 : y145 = p183.2.2.2.2.2.1 := congrArg (fun z => z.2.2.2.2.2.1) (hE181.trans e184.symm)
          have e191 : y146 = p183.2.2.2.2.2.2.1 := congrArg (fun z => z.2.2.2.2.2.2.1) (hE181.trans e184.symm)
          have e192 : y147 = p183.2.2.2.2.2.2.2.1 := congrArg (fun z => z.2.2.2.2.2.2.2.1) (hE181.trans e184.symm)
          have e193 : y148 = p183.2.2.2.2.2.2.2.2.1 := congrArg (fun z => z.2.2.2.2.2.2.2.2.1) (hE181.trans e184.symm)
          have e194 : y149 = p183.2.2.2.2.2.2.2.2.2.1 := congrArg (fun z => z.2.2.2.2.2.2.2.2.2.1) (hE181.trans e184.symm)
          have e195 : y150 = p183.2.2.2.2.2.2.2.2.2.2.1 := congrArg (fun z => z.2.2.2.2.2.2.2.2.2.2.1) (hE181.trans e184.symm)
          have e196 : f151 = p183.2.2.2.2.2.2.2.2.2.2.2.1 := congrArg (fun z => z.2.2.2.2.2.2.2.2.2.2.2.1) (hE181.trans e184.symm)
          have e197 : f153 = p183.2.2.2.2.2.2.2.2.2.2.2.2.1 := congrArg (fun z => z.2.2.2.2.2.2.2.2.2.2.2.2.1) (hE181.trans e184.symm)
          have e198 : f155 = p183.2.2.2.2.2.2.2.2.2.2.2.2.2.1 := congrArg (fun z => z.2.2.2.2.2.2.2.2.2.2.2.2.2.1) (hE181.trans e184.symm)
          have e199 : f157 = p183.2.2.2.2.2.2.2.2.2.2.2.2.2.2.1 := congrArg (fun z => z.2.2.2.2.2.2.2.2.2.2.2.2.2.2.1) (hE181.trans e184.symm)
          have e200 : f159 = p183.2.2.2.2.2.2.2.2.2.2.2.2.2.2.2.1 := congrArg (fun z => z.2.2.2.2.2.2.2.2.2.2.2.2.2.2.2.1) (hE181.trans e184.symm)
          have e201 : f161 = p183.2.2.2.2.2.2.2.2.2.2.2.2.2.2.2.2 := congrArg (fun z => z.2.2.2.2.2.2.2.2.2.2.2.2.2.2.2.2) (hE181.trans e184.symm)
          replace b163 : q_F (lx110.toInt ≤ y140.toInt) := b163
          replace b164 : q_F (y140.toInt ≤ lx110.toInt) := b164
          replace b165 : q_F (y52.toInt ≤ y141.toInt) := b165
          replace b166 : q_F (y141.toInt ≤ y52.toInt) := b166
          replace b167 : q_F (y53.toInt ≤ y142.toInt) := b167
          replace b168 : q_F (y142.toInt ≤ y53.toInt) := b168
          replace b169 : q_F (y54.toInt ≤ y143.toInt) := b169
          replace b170 : q_F (y143.toInt ≤ y54.toInt) := b170
          replace b171 : q_F (y55.toInt ≤ y144.toInt) := b171
          replace b172 : q_F (y144.toInt ≤ y55.toInt) := b172
          replace b173 : q_F (y56.toInt ≤ y145.toInt) := b173
          replace b174 : q_F (y145.toInt ≤ y56.toInt) := b174
          replace b175 : q_F (y57.toInt ≤ y146.toInt) := b175
          replace b176 : q_F (y146.toInt ≤ y57.toInt) := b176
          replace b177 : q_F (y58.toInt ≤ y147.toInt) := b177
          replace b178 : q_F (y147.toInt ≤ y58.toInt) := b178
          replace b179 : q_F (y59.toInt ≤ y148.toInt) := b179
          replace b180 : q_F (y148.toInt ≤ y59.toInt) := b180
          replace hF := q_uc hF hu182 (by simp)
          have hR202 := (show F_FR_power_c69 x2 x3 t0_0 t0_1 t0_2 t0_3 t0_4 t0_5 t0_6 t0_7 t0_8 t0_9 t0_10 t1_0 t2_0 t3_0 t4_0 t5_0 t6_0 lx32 p85 y51 y52 y53 y54 y55 y56 y57 y58 y59 y60 y61 lx110 p183 = (F_FR_power x2 x3 t0_0 t0_1 t0_2 t0_3 t0_4 t0_5 t0_6 t0_7 t0_8 t0_9 t0_10 t1_0 t2_0 t3_0 t4_0 t5_0 t6_0) from Eq.trans (by have c134x := c134; rw [← e132] at c134x; rw [e184, F_FR_power_J47.eq_1, if_neg c128, if_neg c134x]) hR121)
          have hS203 := (show True ∧ S_FR_power_c69 x2 x3 t0_0 t0_1 t0_2 t0_3 t0_4 t0_5 t0_6 t0_7 t0_8 t0_9 t0_10 t1_0 t2_0 t3_0 t4_0 t5_0 t6_0 lx32 p85 y51 y52 y53 y54 y55 y56 y57 y58 y59 y60 y61 lx110 p183 from (by rw [e184]; have h := hS122; rw [S_FR_power_J47.eq_1] at h; rw [if_neg c128] at h; have c134x := c134; rw [← e132] at c134x; rw [if_neg c134x] at h; replace h := q_s2 h; with_reducible exact h))
          refine lv_aload_n hx hb d_17_34_72 rfl (lv_at hl 0 rfl) ?_
          refine q_get (ci := 15) (j := 17) (v := .int y150) C0 V i_FR rfl rfl hO139 (by decide) w_2093 rfl d_17_34_73 ?_
          refine lv_sipush (v := 1080) hx hb d_17_34_76 (by decide) ?_
          refine lv_isub hx hb d_17_34_79 ?_
          obtain ⟨a207, e208⟩ := q_nm (y150 - 1080 : Int32)
          refine q_ti (v := a207) e208 ?_
          exact q_reti C0 V (⟨hI, hF, y140, y141, y142, y143, y144, y145, y146, y147, y148, y149, y150, f151, f153, f155, f157, f159, f161, hO139, hA152, hA154, hA156, hA158, hA160, hA162, (show 0 ≤ y140.toInt from (by have t1 : 0 ≤ lx110.toInt := i119; have t2 : lx110.toInt ≤ y140.toInt := b163; omega)), (show y140.toInt ≤ 2 from (by have t1 : lx110.toInt ≤ 2 := i120; have t2 : y140.toInt ≤ lx110.toInt := b164; omega)), (show 0 ≤ y142.toInt from (by have t1 : 0 ≤ y53.toInt := b62; have t2 : y53.toInt ≤ y142.toInt := b167; omega)), (show y142.toInt ≤ 1 from (by have t1 : y53.toInt ≤ 1 := b63; have t2 : y142.toInt ≤ y53.toInt := b168; omega)), (show 0 ≤ y143.toInt from (by have t1 : 0 ≤ y54.toInt := b64; have t2 : y54.toInt ≤ y143.toInt := b169; omega)), (show 23 ≤ y145.toInt from (by have t1 : 23 ≤ y56.toInt := b65; have t2 : y56.toInt ≤ y145.toInt := b173; omega)), (show y145.toInt ≤ 52 from (by have t1 : y56.toInt ≤ 52 := b66; have t2 : y145.toInt ≤ y56.toInt := b174; omega)), (show 255 ≤ y146.toInt from (by have t1 : 255 ≤ y57.toInt := b67; have t2 : y57.toInt ≤ y146.toInt := b175; omega)), (show y146.toInt ≤ 2047 from (by have t1 : y57.toInt ≤ 2047 := b68; have t2 : y146.toInt ≤ y57.toInt := b176; omega)), (show 0 ≤ y148.toInt + 1074 from (by have t1 : 0 ≤ lx32.toInt := i41; have t2 : lx32.toInt ≤ y59.toInt + 1074 := b73; have t3 : y59.toInt ≤ y148.toInt := b179; omega)), (show t0_1.toInt ≤ y141.toInt from (by have t1 : t0_1.toInt ≤ y52.toInt := b71; have t2 : y52.toInt ≤ y141.toInt := b165; omega)), (show y141.toInt ≤ t0_1.toInt from (by have t1 : y52.toInt ≤ t0_1.toInt := b72; have t2 : y141.toInt ≤ y52.toInt := b166; omega)), (show y148.toInt ≤ x3.toInt + 1896 from (by have t1 : lx32.toInt ≤ x3.toInt := i42; have t2 : y59.toInt ≤ lx32.toInt + 1896 := b74; have t3 : y148.toInt ≤ y59.toInt := b180; omega)), (show y143.toInt ≤ y146.toInt from (by have t1 : y54.toInt ≤ y57.toInt := b79; have t2 : y143.toInt ≤ y54.toInt := b170; have t3 : y57.toInt ≤ y146.toInt := b175; omega)), (show y148.toInt + 149 ≤ y143.toInt from (by have t1 : y59.toInt + 149 ≤ y54.toInt := b80; have t2 : y54.toInt ≤ y143.toInt := b169; have t3 : y148.toInt ≤ y59.toInt := b180; omega)), (show y143.toInt ≤ y148.toInt + 1075 from (by have t1 : y54.toInt ≤ y59.toInt + 1075 := b81; have t2 : y143.toInt ≤ y54.toInt := b170; have t3 : y59.toInt ≤ y148.toInt := b179; omega)), (show y148.toInt + 150 ≤ y146.toInt from (by have t1 : y59.toInt + 150 ≤ y57.toInt := b82; have t2 : y57.toInt ≤ y146.toInt := b175; have t3 : y148.toInt ≤ y59.toInt := b180; omega)), (show (a207, y140, y141, y142, y143, y144, y145, y146, y147, y148, y149, y150, f151, f153, f155, f157, f159, f161) = (F_FR_power x2 x3 t0_0 t0_1 t0_2 t0_3 t0_4 t0_5 t0_6 t0_7 t0_8 t0_9 t0_10 t1_0 t2_0 t3_0 t4_0 t5_0 t6_0) from Eq.trans (by rw [← e208, e201, e200, e199, e198, e197, e196, e195, e194, e193, e192, e191, e190, e189, e188, e187, e186, e185, F_FR_power_c69.eq_1]) hR202)⟩) d_17_34_80
        ·
          have b209 : q_F (a131.toInt = 0) := (q_eqI c134)
          refine lv_iconst (v := 0) hx hb d_17_34_66 (by decide) ?_
          exact q_reti C0 V (⟨hI, hF, lx110, y52, y53, y54, y55, y56, y57, y58, y59, y60, y61, t1_0, t2_0, t3_0, t4_0, t5_0, t6_0, hO50, hT1, hT2, hT3, hT4, hT5, hT6, (show 0 ≤ lx110.toInt from (by have z19 : (0 : Int32).toInt = 0 := rfl; have t1 : 0 ≤ lx110.toInt := i119; omega)), (show lx110.toInt ≤ 2 from (by have z19 : (0 : Int32).toInt = 0 := rfl; have t1 : lx110.toInt ≤ 2 := i120; omega)), (show 0 ≤ y53.toInt from (by have z19 : (0 : Int32).toInt = 0 := rfl; have t1 : 0 ≤ y53.toInt := b62; omega)), (show y53.toInt ≤ 1 from (by have z19 : (0 : Int32).toInt = 0 := rfl; have t1 : y53.toInt ≤ 1 := b63; omega)), (show 0 ≤ y54.toInt from (by have z19 : (0 : Int32).toInt = 0 := rfl; have t1 : 0 ≤ y54.toInt := b64; omega)), (show 23 ≤ y56.toInt from (by have z19 : (0 : Int32).toInt = 0 := rfl; have t1 : 23 ≤ y56.toInt := b65; omega)), (show y56.toInt ≤ 52 from (by have z19 : (0 : Int32).toInt = 0 := rfl; have t1 : y56.toInt ≤ 52 := b66; omega)), (show 255 ≤ y57.toInt from (by have z19 : (0 : Int32).toInt = 0 := rfl; have t1 : 255 ≤ y57.toInt := b67; omega)), (show y57.toInt ≤ 2047 from (by have z19 : (0 : Int32).toInt = 0 := rfl; have t1 : y57.toInt ≤ 2047 := b68; omega)), (show 0 ≤ y59.toInt + 1074 from (by have z19 : (0 : Int32).toInt = 0 := rfl; have t1 : 0 ≤ lx32.toInt := i41; have t2 : lx32.toInt ≤ y59.toInt + 1074 := b73; omega)), (show t0_1.toInt ≤ y52.toInt from (by have z19 : (0 : Int32).toInt = 0 := rfl; have t1 : t0_1.toInt ≤ y52.toInt := b71; omega)), (show y52.toInt ≤ t0_1.toInt from (by have z19 : (0 : Int32).toInt = 0 := rfl; have t1 : y52.toInt ≤ t0_1.toInt := b72; omega)), (show y59.toInt ≤ x3.toInt + 1896 from (by have z19 : (0 : Int32).toInt = 0 := rfl; have t1 : lx32.toInt ≤ x3.toInt := i42; have t2 : y59.toInt ≤ lx32.toInt + 1896 := b74; omega)), (show y54.toInt ≤ y57.toInt from (by have z19 : (0 : Int32).toInt = 0 := rfl; have t1 : y54.toInt ≤ y57.toInt := b79; omega)), (show y59.toInt + 149 ≤ y54.toInt from (by have z19 : (0 : Int32).toInt = 0 := rfl; have t1 : y59.toInt + 149 ≤ y54.toInt := b80; omega)), (show y54.toInt ≤ y59.toInt + 1075 from (by have z19 : (0 : Int32).toInt = 0 := rfl; have t1 : y54.toInt ≤ y59.toInt + 1075 := b81; omega)), (show y59.toInt + 150 ≤ y57.toInt from (by have z19 : (0 : Int32).toInt = 0 := rfl; have t1 : y59.toInt + 150 ≤ y57.toInt := b82; omega)), (show ((0 : Int32), lx110, y52, y53, y54, y55, y56, y57, y58, y59, y60, y61, t1_0, t2_0, t3_0, t4_0, t5_0, t6_0) = (F_FR_power x2 x3 t0_0 t0_1 t0_2 t0_3 t0_4 t0_5 t0_6 t0_7 t0_8 t0_9 t0_10 t1_0 t2_0 t3_0 t4_0 t5_0 t6_0) from Eq.trans (by have c134x := c134; rw [← e132] at c134x; rw [F_FR_power_J47.eq_1, if_neg c128, if_pos c134x]) hR121)⟩) d_17_34_67
    ·
      intro J118
      refine lv_if_eq (tgt := 35) hx hb d_17_34_28 (by decide) (fun c210 => ?_) (fun c210 => ?_)
      ·
        have b211 : q_F (a105.toInt = 0) := (q_eqI c210)
        refine lv_aload_n hx hb d_17_34_35 rfl (lv_at hl 0 rfl) ?_
        refine q_goi V (q_runV (As := []) (rest := [.ref (q 145)]) (d := 1) (mc := 0) (ms := 0) (ci := 15) C0 V rfl LV_FR_130 (X_FR_isFinite l D g q u48   hI y51 y52 y53 y54 y55 y56 y57 y58 y59 y60 y61 hO50  _) rfl rfl hO50 rfl hl.1 rfl (Nat.le_of_ble_eq_true rfl) ⟨by decide, by decide⟩ ⟨Nat.le_of_ble_eq_true rfl, Nat.le_of_ble_eq_true rfl⟩ d_17_34_36) (fun a214 u212 H locs hp213 V => ?_)
        obtain ⟨rfl, b215, b216, hE217⟩ := hp213
        have e218 : a214 = (F_FR_isFinite y51 y52 y53 y54 y55 y56 y57 y58 y59 y60 y61) := hE217
        replace b215 : q_F (0 ≤ a214.toInt) := b215
        replace b216 : q_F (a214.toInt ≤ 1) := b216
        refine lv_if_ne (tgt := 46) hx hb d_17_34_39 (by decide) (fun c219 => ?_) (fun c219 => ?_)
        ·
          have b220 : q_F (a214.toInt ≠ 0) := (q_neI c219)
          refine lv_iconst (v := 0) hx hb d_17_34_46 (by decide) ?_
          exact J118 ((0 : Int32)) _ _ _ u48 ⟨(show q_F (0 ≤ 0) from (show 0 ≤ 0 from by omega)), (show q_F (0 ≤ 2) from (show 0 ≤ 2 from by omega)), V, q_lw hl (q_lw1 0 rfl q_lw0), (show F_FR_power_J47 x2 x3 t0_0 t0_1 t0_2 t0_3 t0_4 t0_5 t0_6 t0_7 t0_8 t0_9 t0_10 t1_0 t2_0 t3_0 t4_0 t5_0 t6_0 lx32 p85 y51 y52 y53 y54 y55 y56 y57 y58 y59 y60 y61 0 = (F_FR_power x2 x3 t0_0 t0_1 t0_2 t0_3 t0_4 t0_5 t0_6 t0_7 t0_8 t0_9 t0_10 t1_0 t2_0 t3_0 t4_0 t5_0 t6_0) from Eq.trans (by have c210x := c210; rw [e109] at c210x; have c219x := c219; rw [e218, e97, e96, e95, e94, e93, e92, e91, e90, e89, e88, e87] at c219x; rw [e97, e96, e95, e94, e93, e92, e91, e90, e89, e88, e87, F_FR_power_c19.eq_1, if_pos c210x, if_neg c219x]) hR98), (show True ∧ S_FR_power_J47 x2 x3 t0_0 t0_1 t0_2 t0_3 t0_4 t0_5 t0_6 t0_7 t0_8 t0_9 t0_10 t1_0 t2_0 t3_0 t4_0 t5_0 t6_0 lx32 p85 y51 y52 y53 y54 y55 y56 y57 y58 y59 y60 y61 0 from (by rw [e97, e96, e95, e94, e93, e92, e91, e90, e89, e88, e87]; have h := hS99; rw [S_FR_power_c19.eq_1] at h; have c210x := c210; rw [e109] at c210x; rw [if_pos c210x] at h; have c219x := c219; rw [e218, e97, e96, e95, e94, e93, e92, e91, e90, e89, e88, e87] at c219x; rw [if_neg c219x] at h; with_reducible exact h))⟩
        ·
          have b221 : q_F (a214.toInt = 0) := (q_eqI c219)
          refine lv_iconst (v := 2) hx hb d_17_34_42 (by decide) ?_
          refine lv_goto (tgt := 47) hx hb d_17_34_43 (by decide) ?_
          exact J118 ((2 : Int32)) _ _ _ u48 ⟨(show q_F (0 ≤ 2) from (show 0 ≤ 2 from by omega)), (show q_F (2 ≤ 2) from (show 2 ≤ 2 from by omega)), V, q_lw hl (q_lw1 0 rfl q_lw0), (show F_FR_power_J47 x2 x3 t0_0 t0_1 t0_2 t0_3 t0_4 t0_5 t0_6 t0_7 t0_8 t0_9 t0_10 t1_0 t2_0 t3_0 t4_0 t5_0 t6_0 lx32 p85 y51 y52 y53 y54 y55 y56 y57 y58 y59 y60 y61 2 = (F_FR_power x2 x3 t0_0 t0_1 t0_2 t0_3 t0_4 t0_5 t0_6 t0_7 t0_8 t0_9 t0_10 t1_0 t2_0 t3_0 t4_0 t5_0 t6_0) from Eq.trans (by have c210x := c210; rw [e109] at c210x; have c219x := c219; rw [e218, e97, e96, e95, e94, e93, e92, e91, e90, e89, e88, e87] at c219x; rw [e97, e96, e95, e94, e93, e92, e91, e90, e89, e88, e87, F_FR_power_c19.eq_1, if_pos c210x, if_pos c219x]) hR98), (show True ∧ S_FR_power_J47 x2 x3 t0_0 t0_1 t0_2 t0_3 t0_4 t0_5 t0_6 t0_7 t0_8 t0_9 t0_10 t1_0 t2_0 t3_0 t4_0 t5_0 t6_0 lx32 p85 y51 y52 y53 y54 y55 y56 y57 y58 y59 y60 y61 2 from (by rw [e97, e96, e95, e94, e93, e92, e91, e90, e89, e88, e87]; have h := hS99; rw [S_FR_power_c19.eq_1] at h; have c210x := c210; rw [e109] at c210x; rw [if_pos c210x] at h; have c219x := c219; rw [e218, e97, e96, e95, e94, e93, e92, e91, e90, e89, e88, e87] at c219x; rw [if_pos c219x] at h; with_reducible exact h))⟩
      ·
        have b222 : q_F (a105.toInt ≠ 0) := (q_neI c210)
        refine lv_iconst (v := 1) hx hb d_17_34_31 (by decide) ?_
        refine lv_goto (tgt := 47) hx hb d_17_34_32 (by decide) ?_
        exact J118 ((1 : Int32)) _ _ _ u48 ⟨(show q_F (0 ≤ 1) from (show 0 ≤ 1 from by omega)), (show q_F (1 ≤ 2) from (show 1 ≤ 2 from by omega)), V, q_lw hl (q_lw1 0 rfl q_lw0), (show F_FR_power_J47 x2 x3 t0_0 t0_1 t0_2 t0_3 t0_4 t0_5 t0_6 t0_7 t0_8 t0_9 t0_10 t1_0 t2_0 t3_0 t4_0 t5_0 t6_0 lx32 p85 y51 y52 y53 y54 y55 y56 y57 y58 y59 y60 y61 1 = (F_FR_power x2 x3 t0_0 t0_1 t0_2 t0_3 t0_4 t0_5 t0_6 t0_7 t0_8 t0_9 t0_10 t1_0 t2_0 t3_0 t4_0 t5_0 t6_0) from Eq.trans (by have c210x := c210; rw [e109] at c210x; rw [e97, e96, e95, e94, e93, e92, e91, e90, e89, e88, e87, F_FR_power_c19.eq_1, if_neg c210x]) hR98), (show True ∧ S_FR_power_J47 x2 x3 t0_0 t0_1 t0_2 t0_3 t0_4 t0_5 t0_6 t0_7 t0_8 t0_9 t0_10 t1_0 t2_0 t3_0 t4_0 t5_0 t6_0 lx32 p85 y51 y52 y53 y54 y55 y56 y57 y58 y59 y60 y61 1 from (by rw [e97, e96, e95, e94, e93, e92, e91, e90, e89, e88, e87]; have h := hS99; rw [S_FR_power_c19.eq_1] at h; have c210x := c210; rw [e109] at c210x; rw [if_neg c210x] at h; with_reducible exact h))⟩
  ·
    intro J40
    refine q_join (X := Unit) (fun z H locs ls _ => q_Wd D g (va_A ws sz) s ws H locs ∧ lv_has ls 4 [(0, .ref (q 145)), (1, .long x2), (3, .int x3)] ∧ F_FR_power_J18 x2 x3 t0_0 t0_1 t0_2 t0_3 t0_4 t0_5 t0_6 t0_7 t0_8 t0_9 t0_10 t1_0 t2_0 t3_0 t4_0 t5_0 t6_0 = (F_FR_power x2 x3 t0_0 t0_1 t0_2 t0_3 t0_4 t0_5 t0_6 t0_7 t0_8 t0_9 t0_10 t1_0 t2_0 t3_0 t4_0 t5_0 t6_0) ∧ True ∧ S_FR_power_J18 x2 x3 t0_0 t0_1 t0_2 t0_3 t0_4 t0_5 t0_6 t0_7 t0_8 t0_9 t0_10 t1_0 t2_0 t3_0 t4_0 t5_0 t6_0) (fun z => [.long x2, .ref (q 145)]) 18 0 0 ?_ ?_
    ·
      rintro _ H locs ls _ ⟨V, hl, hR231, hS232⟩
      replace hl : lv_has ls 4 [(0, .ref (q 145)), (1, .long x2), (3, .int x3)] := hl
      refine lv_iconst (v := 0) hx hb d_17_34_18 (by decide) ?_
      exact J40 ((0 : Int32)) _ _ _ ws ⟨(show q_F (0 ≤ 0) from (show 0 ≤ 0 from by omega)), (show q_F (0 ≤ x3.toInt) from (show 0 ≤ x3.toInt from by have t1 : 0 ≤ x3.toInt ∧ x3.toInt ≤ 1 := hzx3; omega)), V, q_lw hl (q_lw1 0 rfl (q_lw1 1 rfl (q_lw1 2 rfl q_lw0))), (show F_FR_power_J19 x2 x3 t0_0 t0_1 t0_2 t0_3 t0_4 t0_5 t0_6 t0_7 t0_8 t0_9 t0_10 t1_0 t2_0 t3_0 t4_0 t5_0 t6_0 0 = (F_FR_power x2 x3 t0_0 t0_1 t0_2 t0_3 t0_4 t0_5 t0_6 t0_7 t0_8 t0_9 t0_10 t1_0 t2_0 t3_0 t4_0 t5_0 t6_0) from Eq.trans (by rw [F_FR_power_J18.eq_1]) hR231), (show True ∧ S_FR_power_J19 x2 x3 t0_0 t0_1 t0_2 t0_3 t0_4 t0_5 t0_6 t0_7 t0_8 t0_9 t0_10 t1_0 t2_0 t3_0 t4_0 t5_0 t6_0 0 from (by have h := hS232; rw [S_FR_power_J18.eq_1] at h; with_reducible exact h))⟩
    ·
      intro J230
      refine lv_if_eq (tgt := 18) hx hb d_17_34_3 (by decide) (fun c236 => ?_) (fun c236 => ?_)
      ·
        have b237 : q_F (x3.toInt = 0) := (q_eqI c236)
        exact J230 (()) _ _ _ ws ⟨V, q_lw hl (q_lw1 0 rfl (q_lw1 1 rfl (q_lw1 2 rfl q_lw0))), (show F_FR_power_J18 x2 x3 t0_0 t0_1 t0_2 t0_3 t0_4 t0_5 t0_6 t0_7 t0_8 t0_9 t0_10 t1_0 t2_0 t3_0 t4_0 t5_0 t6_0 = (F_FR_power x2 x3 t0_0 t0_1 t0_2 t0_3 t0_4 t0_5 t0_6 t0_7 t0_8 t0_9 t0_10 t1_0 t2_0 t3_0 t4_0 t5_0 t6_0) from (by rw [F_FR_power.eq_1, if_pos c236])), (show True ∧ S_FR_power_J18 x2 x3 t0_0 t0_1 t0_2 t0_3 t0_4 t0_5 t0_6 t0_7 t0_8 t0_9 t0_10 t1_0 t2_0 t3_0 t4_0 t5_0 t6_0 from (by have h := hS; rw [S_FR_power.eq_1] at h; rw [if_pos c236] at h; with_reducible exact h))⟩
      ·
        have b238 : q_F (x3.toInt ≠ 0) := (q_neI c236)
        refine lv_lload_n hx hb d_17_34_6 rfl (lv_at hl 1 rfl) ?_
        refine lv_iload_n hx hb d_17_34_7 rfl (lv_at hl 2 rfl) ?_
        refine q_goi V (q_runS (As := [.long x2, .int x3]) (rest := [.long x2, .ref (q 145)]) (d := 1) (mc := 0) (ms := 0) C0 V rfl LS_FR_122 (X_FR_isWrong l D g q ws  x2 x3 hI  ⟨(by have t1 : 0 ≤ x3.toInt ∧ x3.toInt ≤ 1 := hzx3; omega), (by have t1 : 0 ≤ x3.toInt ∧ x3.toInt ≤ 1 := hzx3; omega)⟩ _) rfl hl.1 rfl (Nat.le_of_ble_eq_true rfl) ⟨by decide, by decide⟩ ⟨Nat.le_of_ble_eq_true rfl, Nat.le_of_ble_eq_true rfl⟩ d_17_34_8) (fun a241 u239 H locs hp240 V => ?_)
        obtain ⟨rfl, b242, b243, hE244⟩ := hp240
        have e245 : a241 = (F_FR_isWrong x2 x3) := hE244
        replace b242 : q_F (0 ≤ a241.toInt) := b242
        replace b243 : q_F (a241.toInt ≤ x3.toInt) := b243
        refine lv_if_ne (tgt := 18) hx hb d_17_34_11 (by decide) (fun c246 => ?_) (fun c246 => ?_)
        ·
          have b247 : q_F (a241.toInt ≠ 0) := (q_neI c246)
          exact J230 (()) _ _ _ ws ⟨V, q_lw hl (q_lw1 0 rfl (q_lw1 1 rfl (q_lw1 2 rfl q_lw0))), (show F_FR_power_J18 x2 x3 t0_0 t0_1 t0_2 t0_3 t0_4 t0_5 t0_6 t0_7 t0_8 t0_9 t0_10 t1_0 t2_0 t3_0 t4_0 t5_0 t6_0 = (F_FR_power x2 x3 t0_0 t0_1 t0_2 t0_3 t0_4 t0_5 t0_6 t0_7 t0_8 t0_9 t0_10 t1_0 t2_0 t3_0 t4_0 t5_0 t6_0) from (by have c246x := c246; rw [e245] at c246x; rw [F_FR_power.eq_1, if_neg c236, if_neg c246x])), (show True ∧ S_FR_power_J18 x2 x3 t0_0 t0_1 t0_2 t0_3 t0_4 t0_5 t0_6 t0_7 t0_8 t0_9 t0_10 t1_0 t2_0 t3_0 t4_0 t5_0 t6_0 from (by have h := hS; rw [S_FR_power.eq_1] at h; rw [if_neg c236] at h; have c246x := c246; rw [e245] at c246x; rw [if_neg c246x] at h; with_reducible exact h))⟩
        ·
          have b248 : q_F (a241.toInt = 0) := (q_eqI c246)
          refine lv_iconst (v := 1) hx hb d_17_34_14 (by decide) ?_
          refine lv_goto (tgt := 19) hx hb d_17_34_15 (by decide) ?_
          exact J40 ((1 : Int32)) _ _ _ ws ⟨(show q_F (0 ≤ 1) from (show 0 ≤ 1 from by omega)), (show q_F (1 ≤ x3.toInt) from (show 1 ≤ x3.toInt from by have t1 : 0 ≤ x3.toInt ∧ x3.toInt ≤ 1 := hzx3; have t2 : x3.toInt ≠ 0 := b238; omega)), V, q_lw hl (q_lw1 0 rfl (q_lw1 1 rfl (q_lw1 2 rfl q_lw0))), (show F_FR_power_J19 x2 x3 t0_0 t0_1 t0_2 t0_3 t0_4 t0_5 t0_6 t0_7 t0_8 t0_9 t0_10 t1_0 t2_0 t3_0 t4_0 t5_0 t6_0 1 = (F_FR_power x2 x3 t0_0 t0_1 t0_2 t0_3 t0_4 t0_5 t0_6 t0_7 t0_8 t0_9 t0_10 t1_0 t2_0 t3_0 t4_0 t5_0 t6_0) from (by have c246x := c246; rw [e245] at c246x; rw [F_FR_power.eq_1, if_neg c236, if_pos c246x])), (show True ∧ S_FR_power_J19 x2 x3 t0_0 t0_1 t0_2 t0_3 t0_4 t0_5 t0_6 t0_7 t0_8 t0_9 t0_10 t1_0 t2_0 t3_0 t4_0 t5_0 t6_0 1 from (by have h := hS; rw [S_FR_power.eq_1] at h; rw [if_neg c236] at h; have c246x := c246; rw [e245] at c246x; rw [if_pos c246x] at h; with_reducible exact h))⟩
