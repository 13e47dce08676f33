theorem d_15_21_0 : decode prog_15_method_21_code 0 = .ok (.aload_n 0, 1) := by decide +kernel
theorem d_15_21_1 : decode prog_15_method_21_code 1 = .ok (.iload_n 1, 1) := by decide +kernel
theorem d_15_21_2 : decode prog_15_method_21_code 2 = .ok (.invokestatic 113, 3) := by decide +kernel
set_option maxRecDepth 100000 in
theorem w_2395 : (Cond.code ({ cls := "NumberHouseModel$DecimalRows", name := "no", desc := "(I)Z" } : MethodName) prog_15_method_3_code (1 : Nat) (some .boolean)) ∈ q_tbl := q_of10 235 rfl (by decide +kernel)
set_option maxRecDepth 100000 in
theorem w_2393 : (Cond.methodLink "NumberHouseModel$DecimalRows" (113 : Nat) ({ cls := "NumberHouseModel$DecimalRows", name := "no", desc := "(I)Z" } : MethodName)) ∈ q_tbl := q_of10 233 rfl (by decide +kernel)
set_option maxRecDepth 100000 in
theorem w_2394 : (Cond.static ({ cls := "NumberHouseModel$DecimalRows", name := "no", desc := "(I)Z" } : MethodName)) ∈ q_tbl := q_of10 234 rfl (by decide +kernel)
theorem LS_DR_113 : q_LS "NumberHouseModel$DecimalRows" 113 y_DR_no prog_15_method_3_code 1 (some .boolean) 1 := ⟨w_2395, w_16, w_2393, w_2394, ⟨by decide, by decide, by decide +kernel⟩⟩
theorem d_15_21_24 : decode prog_15_method_21_code 24 = .ok (.putfield 41, 3) := by decide +kernel
theorem d_15_21_27 : decode prog_15_method_21_code 27 = .ok (.aload_n 0, 1) := by decide +kernel
theorem d_15_21_28 : decode prog_15_method_21_code 28 = .ok (.getfield 41, 3) := by decide +kernel
theorem d_15_21_31 : decode prog_15_method_21_code 31 = .ok (.ifCond .ne 32, 3) := by decide +kernel
theorem d_15_21_63 : decode prog_15_method_21_code 63 = .ok (.return_, 1) := by decide +kernel
theorem d_15_21_34 : decode prog_15_method_21_code 34 = .ok (.aload_n 0, 1) := by decide +kernel
theorem d_15_21_35 : decode prog_15_method_21_code 35 = .ok (.iconst 3, 1) := by decide +kernel
theorem d_15_21_36 : decode prog_15_method_21_code 36 = .ok (.putfield 66, 3) := by decide +kernel
theorem d_15_21_39 : decode prog_15_method_21_code 39 = .ok (.aload_n 0, 1) := by decide +kernel
theorem d_15_21_40 : decode prog_15_method_21_code 40 = .ok (.iload_n 1, 1) := by decide +kernel
theorem d_15_21_41 : decode prog_15_method_21_code 41 = .ok (.invokevirtual 89, 3) := by decide +kernel
set_option maxRecDepth 100000 in
theorem w_2412 : (Cond.code ({ cls := "NumberHouseModel$DecimalRows", name := "store", desc := "(I)V" } : MethodName) prog_15_method_8_code (3 : Nat) (none : Option ClassFile.FieldType)) ∈ q_tbl := q_of11 12 rfl (by decide +kernel)
set_option maxRecDepth 100000 in
theorem w_2409 : (Cond.methodLink "NumberHouseModel$DecimalRows" (89 : Nat) ({ cls := "NumberHouseModel$DecimalRows", name := "store", desc := "(I)V" } : MethodName)) ∈ q_tbl := q_of11 9 rfl (by decide +kernel)
set_option maxRecDepth 100000 in
theorem w_2411 : (Cond.instanceMethod ({ cls := "NumberHouseModel$DecimalRows", name := "store", desc := "(I)V" } : MethodName)) ∈ q_tbl := q_of11 11 rfl (by decide +kernel)
theorem ws_63 : Cond.selects "NumberHouseModel$DecimalRows" (⟨"NumberHouseModel$DecimalRows", "store", "(I)V"⟩ : MethodName) (⟨"NumberHouseModel$DecimalRows", "store", "(I)V"⟩ : MethodName) ∈ q_tbl := q_ofs 63 (by decide +kernel) (by decide +kernel)
theorem LV_DR_89 : q_LV "NumberHouseModel$DecimalRows" 89 y_DR_store prog_15_method_8_code 3 none 1 := ⟨w_2412, w_16, w_2409, w_2411, ws_63, ⟨by decide, by decide, by decide +kernel⟩⟩
theorem d_15_21_44 : decode prog_15_method_21_code 44 = .ok (.aload_n 0, 1) := by decide +kernel
theorem d_15_21_45 : decode prog_15_method_21_code 45 = .ok (.aload_n 0, 1) := by decide +kernel
theorem d_15_21_46 : decode prog_15_method_21_code 46 = .ok (.getfield 41, 3) := by decide +kernel
theorem d_15_21_49 : decode prog_15_method_21_code 49 = .ok (.ifCond .ne 7, 3) := by decide +kernel
theorem d_15_21_56 : decode prog_15_method_21_code 56 = .ok (.aload_n 0, 1) := by decide +kernel
theorem d_15_21_57 : decode prog_15_method_21_code 57 = .ok (.getfield 99, 3) := by decide +kernel
theorem d_15_21_60 : decode prog_15_method_21_code 60 = .ok (.putfield 99, 3) := by decide +kernel
theorem d_15_21_52 : decode prog_15_method_21_code 52 = .ok (.iconst 0, 1) := by decide +kernel
theorem d_15_21_53 : decode prog_15_method_21_code 53 = .ok (.goto 7, 3) := by decide +kernel
theorem d_15_21_5 : decode prog_15_method_21_code 5 = .ok (.ifCond .eq 7, 3) := by decide +kernel
theorem d_15_21_12 : decode prog_15_method_21_code 12 = .ok (.aload_n 0, 1) := by decide +kernel
theorem d_15_21_13 : decode prog_15_method_21_code 13 = .ok (.invokevirtual 116, 3) := by decide +kernel
set_option maxRecDepth 100000 in
theorem w_2399 : (Cond.code ({ cls := "NumberHouseModel$DecimalRows", name := "says", desc := "()Z" } : MethodName) prog_15_method_20_code (7 : Nat) (some .boolean)) ∈ q_tbl := q_of10 239 rfl (by decide +kernel)
set_option maxRecDepth 100000 in
theorem w_2396 : (Cond.methodLink "NumberHouseModel$DecimalRows" (116 : Nat) ({ cls := "NumberHouseModel$DecimalRows", name := "says", desc := "()Z" } : MethodName)) ∈ q_tbl := q_of10 236 rfl (by decide +kernel)
set_option maxRecDepth 100000 in
theorem w_2398 : (Cond.instanceMethod ({ cls := "NumberHouseModel$DecimalRows", name := "says", desc := "()Z" } : MethodName)) ∈ q_tbl := q_of10 238 rfl (by decide +kernel)
theorem ws_61 : Cond.selects "NumberHouseModel$DecimalRows" (⟨"NumberHouseModel$DecimalRows", "says", "()Z"⟩ : MethodName) (⟨"NumberHouseModel$DecimalRows", "says", "()Z"⟩ : MethodName) ∈ q_tbl := q_ofs 61 (by decide +kernel) (by decide +kernel)
theorem LV_DR_116 : q_LV "NumberHouseModel$DecimalRows" 116 y_DR_says prog_15_method_20_code 7 (some .boolean) 0 := ⟨w_2399, w_16, w_2396, w_2398, ws_61, ⟨by decide, by decide, by decide +kernel⟩⟩
theorem d_15_21_16 : decode prog_15_method_21_code 16 = .ok (.ifCond .ne 7, 3) := by decide +kernel
theorem d_15_21_23 : decode prog_15_method_21_code 23 = .ok (.iconst 0, 1) := by decide +kernel
theorem d_15_21_19 : decode prog_15_method_21_code 19 = .ok (.iconst 2, 1) := by decide +kernel
theorem d_15_21_20 : decode prog_15_method_21_code 20 = .ok (.goto 4, 3) := by decide +kernel
theorem d_15_21_8 : decode prog_15_method_21_code 8 = .ok (.iconst 1, 1) := by decide +kernel
theorem d_15_21_9 : decode prog_15_method_21_code 9 = .ok (.goto 15, 3) := by decide +kernel
def y_DR_read : MethodName := ⟨"NumberHouseModel$DecimalRows", "read", "(I)V"⟩
def F_DR_read_c41 (x2 : Int32) (t0_0 : Int32) (t0_1 : Int32) (t0_2 : Int32) (t0_3 : Int64) (t0_4 : Int32) (t0_5 : Int32) (t0_6 : Int32) (t0_7 : Int32) (t0_8 : Int32) (t0_9 : Int32) (t0_10 : Int32) (t1_0 : (Nat → Int32)) (t2_0 : (Nat → Int32)) (t3_0 : (Nat → Int32)) (t4_0 : (Nat → Int32)) (t5_0 : (Nat → Int32)) (t6_0 : (Nat → Int32)) (lx42 : Int32) (lx43 : Int32) (lx44 : Int32) (lx45 : Int32) (lx46 : Int64) (lx47 : Int32) (lx48 : Int32) (lx49 : Int32) (lx50 : Int32) (lx51 : Int32) (lx52 : Int32) (lx53 : Int32) (lx54 : (Nat → Int32)) (p145 : (Int32 × Int32 × Int32 × Int64 × Int32 × Int32 × Int32 × Int32 × Int32 × Int32 × Int32 × (Nat → Int32) × (Nat → Int32) × (Nat → Int32) × (Nat → Int32) × (Nat → Int32))) : Int32 × Int32 × Int32 × Int64 × Int32 × Int32 × Int32 × Int32 × Int32 × Int32 × Int32 × (Nat → Int32) × (Nat → Int32) × (Nat → Int32) × (Nat → Int32) × (Nat → Int32) := if (p145.1 : Int32) = (0 : Int32) then (((p145.1 : Int32), (0 : Int32), (p145.2.2.1 : Int32), (p145.2.2.2.1 : Int64), (p145.2.2.2.2.1 : Int32), (p145.2.2.2.2.2.1 : Int32), (p145.2.2.2.2.2.2.1 : Int32), (p145.2.2.2.2.2.2.2.1 : Int32), (p145.2.2.2.2.2.2.2.2.1 : Int32), (p145.2.2.2.2.2.2.2.2.2.1 : Int32), (p145.2.2.2.2.2.2.2.2.2.2.1 : Int32), (p145.2.2.2.2.2.2.2.2.2.2.2.1 : (Nat → Int32)), (p145.2.2.2.2.2.2.2.2.2.2.2.2.1 : (Nat → Int32)), (p145.2.2.2.2.2.2.2.2.2.2.2.2.2.1 : (Nat → Int32)), (p145.2.2.2.2.2.2.2.2.2.2.2.2.2.2.1 : (Nat → Int32)), (p145.2.2.2.2.2.2.2.2.2.2.2.2.2.2.2 : (Nat → Int32)))) else (((p145.1 : Int32), (p145.2.1 : Int32), (p145.2.2.1 : Int32), (p145.2.2.2.1 : Int64), (p145.2.2.2.2.1 : Int32), (p145.2.2.2.2.2.1 : Int32), (p145.2.2.2.2.2.2.1 : Int32), (p145.2.2.2.2.2.2.2.1 : Int32), (p145.2.2.2.2.2.2.2.2.1 : Int32), (p145.2.2.2.2.2.2.2.2.2.1 : Int32), (p145.2.2.2.2.2.2.2.2.2.2.1 : Int32), (p145.2.2.2.2.2.2.2.2.2.2.2.1 : (Nat → Int32)), (p145.2.2.2.2.2.2.2.2.2.2.2.2.1 : (Nat → Int32)), (p145.2.2.2.2.2.2.2.2.2.2.2.2.2.1 : (Nat → Int32)), (p145.2.2.2.2.2.2.2.2.2.2.2.2.2.2.1 : (Nat → Int32)), (p145.2.2.2.2.2.2.2.2.2.2.2.2.2.2.2 : (Nat → Int32))))
def F_DR_read_J24 (x2 : Int32) (t0_0 : Int32) (t0_1 : Int32) (t0_2 : Int32) (t0_3 : Int64) (t0_4 : Int32) (t0_5 : Int32) (t0_6 : Int32) (t0_7 : Int32) (t0_8 : Int32) (t0_9 : Int32) (t0_10 : Int32) (t1_0 : (Nat → Int32)) (t2_0 : (Nat → Int32)) (t3_0 : (Nat → Int32)) (t4_0 : (Nat → Int32)) (t5_0 : (Nat → Int32)) (t6_0 : (Nat → Int32)) (lx42 : Int32) (lx43 : Int32) (lx44 : Int32) (lx45 : Int32) (lx46 : Int64) (lx47 : Int32) (lx48 : Int32) (lx49 : Int32) (lx50 : Int32) (lx51 : Int32) (lx52 : Int32) (lx53 : Int32) (lx54 : (Nat → Int32)) : Int32 × Int32 × Int32 × Int64 × Int32 × Int32 × Int32 × Int32 × Int32 × Int32 × Int32 × (Nat → Int32) × (Nat → Int32) × (Nat → Int32) × (Nat → Int32) × (Nat → Int32) := if lx42 = (0 : Int32) then (F_DR_read_c41 x2 t0_0 t0_1 t0_2 t0_3 t0_4 t0_5 t0_6 t0_7 t0_8 t0_9 t0_10 t1_0 t2_0 t3_0 t4_0 t5_0 t6_0 lx42 lx43 lx44 lx45 lx46 lx47 lx48 lx49 lx50 lx51 lx52 lx53 lx54 ((F_DR_store x2 lx42 lx44 lx45 lx46 lx47 lx48 lx49 lx50 lx51 lx52 (3 : Int32) t2_0 t3_0 t4_0 t5_0 lx54) : (Int32 × Int32 × Int32 × Int64 × Int32 × Int32 × Int32 × Int32 × Int32 × Int32 × Int32 × (Nat → Int32) × (Nat → Int32) × (Nat → Int32) × (Nat → Int32) × (Nat → Int32)))) else ((lx42, lx44, lx45, lx46, lx47, lx48, lx49, lx50, lx51, lx52, lx53, t2_0, t3_0, t4_0, t5_0, lx54))
def F_DR_read_c13 (x2 : Int32) (t0_0 : Int32) (t0_1 : Int32) (t0_2 : Int32) (t0_3 : Int64) (t0_4 : Int32) (t0_5 : Int32) (t0_6 : Int32) (t0_7 : Int32) (t0_8 : Int32) (t0_9 : Int32) (t0_10 : Int32) (t1_0 : (Nat → Int32)) (t2_0 : (Nat → Int32)) (t3_0 : (Nat → Int32)) (t4_0 : (Nat → Int32)) (t5_0 : (Nat → Int32)) (t6_0 : (Nat → Int32)) (p219 : (Int32 × Int32 × Int32 × Int32 × Int64 × Int32 × Int32 × Int32 × Int32 × Int32 × Int32 × Int32 × (Nat → Int32))) : Int32 × Int32 × Int32 × Int64 × Int32 × Int32 × Int32 × Int32 × Int32 × Int32 × Int32 × (Nat → Int32) × (Nat → Int32) × (Nat → Int32) × (Nat → Int32) × (Nat → Int32) := if (p219.1 : Int32) = (0 : Int32) then (F_DR_read_J24 x2 t0_0 t0_1 t0_2 t0_3 t0_4 t0_5 t0_6 t0_7 t0_8 t0_9 t0_10 t1_0 t2_0 t3_0 t4_0 t5_0 t6_0 2 (p219.2.1 : Int32) (p219.2.2.1 : Int32) (p219.2.2.2.1 : Int32) (p219.2.2.2.2.1 : Int64) (p219.2.2.2.2.2.1 : Int32) (p219.2.2.2.2.2.2.1 : Int32) (p219.2.2.2.2.2.2.2.1 : Int32) (p219.2.2.2.2.2.2.2.2.1 : Int32) (p219.2.2.2.2.2.2.2.2.2.1 : Int32) (p219.2.2.2.2.2.2.2.2.2.2.1 : Int32) (p219.2.2.2.2.2.2.2.2.2.2.2.1 : Int32) (p219.2.2.2.2.2.2.2.2.2.2.2.2 : (Nat → Int32))) else (F_DR_read_J24 x2 t0_0 t0_1 t0_2 t0_3 t0_4 t0_5 t0_6 t0_7 t0_8 t0_9 t0_10 t1_0 t2_0 t3_0 t4_0 t5_0 t6_0 0 (p219.2.1 : Int32) (p219.2.2.1 : Int32) (p219.2.2.2.1 : Int32) (p219.2.2.2.2.1 : Int64) (p219.2.2.2.2.2.1 : Int32) (p219.2.2.2.2.2.2.1 : Int32) (p219.2.2.2.2.2.2.2.1 : Int32) (p219.2.2.2.2.2.2.2.2.1 : Int32) (p219.2.2.2.2.2.2.2.2.2.1 : Int32) (p219.2.2.2.2.2.2.2.2.2.2.1 : Int32) (p219.2.2.2.2.2.2.2.2.2.2.2.1 : Int32) (p219.2.2.2.2.2.2.2.2.2.2.2.2 : (Nat → Int32)))
def F_DR_read (x2 : Int32) (t0_0 : Int32) (t0_1 : Int32) (t0_2 : Int32) (t0_3 : Int64) (t0_4 : Int32) (t0_5 : Int32) (t0_6 : Int32) (t0_7 : Int32) (t0_8 : Int32) (t0_9 : Int32) (t0_10 : Int32) (t1_0 : (Nat → Int32)) (t2_0 : (Nat → Int32)) (t3_0 : (Nat → Int32)) (t4_0 : (Nat → Int32)) (t5_0 : (Nat → Int32)) (t6_0 : (Nat → Int32)) : Int32 × Int32 × Int32 × Int64 × Int32 × Int32 × Int32 × Int32 × Int32 × Int32 × Int32 × (Nat → Int32) × (Nat → Int32) × (Nat → Int32) × (Nat → Int32) × (Nat → Int32) := if ((F_DR_no x2) : Int32) = (0 : Int32) then (F_DR_read_c13 x2 t0_0 t0_1 t0_2 t0_3 t0_4 t0_5 t0_6 t0_7 t0_8 t0_9 t0_10 t1_0 t2_0 t3_0 t4_0 t5_0 t6_0 ((F_DR_says t0_0 t0_1 t0_2 t0_3 t0_4 t0_5 t0_6 t0_7 t0_8 t0_9 t0_10 t1_0 t6_0) : (Int32 × Int32 × Int32 × Int32 × Int64 × Int32 × Int32 × Int32 × Int32 × Int32 × Int32 × Int32 × (Nat → Int32)))) else (F_DR_read_J24 x2 t0_0 t0_1 t0_2 t0_3 t0_4 t0_5 t0_6 t0_7 t0_8 t0_9 t0_10 t1_0 t2_0 t3_0 t4_0 t5_0 t6_0 1 t0_0 t0_1 t0_2 t0_3 t0_4 t0_5 t0_6 t0_7 t0_8 t0_9 t0_10 t6_0)
def S_DR_read_c41 (x2 : Int32) (t0_0 : Int32) (t0_1 : Int32) (t0_2 : Int32) (t0_3 : Int64) (t0_4 : Int32) (t0_5 : Int32) (t0_6 : Int32) (t0_7 : Int32) (t0_8 : Int32) (t0_9 : Int32) (t0_10 : Int32) (t1_0 : (Nat → Int32)) (t2_0 : (Nat → Int32)) (t3_0 : (Nat → Int32)) (t4_0 : (Nat → Int32)) (t5_0 : (Nat → Int32)) (t6_0 : (Nat → Int32)) (lx42 : Int32) (lx43 : Int32) (lx44 : Int32) (lx45 : Int32) (lx46 : Int64) (lx47 : Int32) (lx48 : Int32) (lx49 : Int32) (lx50 : Int32) (lx51 : Int32) (lx52 : Int32) (lx53 : Int32) (lx54 : (Nat → Int32)) (p145 : (Int32 × Int32 × Int32 × Int64 × Int32 × Int32 × Int32 × Int32 × Int32 × Int32 × Int32 × (Nat → Int32) × (Nat → Int32) × (Nat → Int32) × (Nat → Int32) × (Nat → Int32))) : Prop := if (p145.1 : Int32) = (0 : Int32) then (True) else (True)
def S_DR_read_J24 (x2 : Int32) (t0_0 : Int32) (t0_1 : Int32) (t0_2 : Int32) (t0_3 : Int64) (t0_4 : Int32) (t0_5 : Int32) (t0_6 : Int32) (t0_7 : Int32) (t0_8 : Int32) (t0_9 : Int32) (t0_10 : Int32) (t1_0 : (Nat → Int32)) (t2_0 : (Nat → Int32)) (t3_0 : (Nat → Int32)) (t4_0 : (Nat → Int32)) (t5_0 : (Nat → Int32)) (t6_0 : (Nat → Int32)) (lx42 : Int32) (lx43 : Int32) (lx44 : Int32) (lx45 : Int32) (lx46 : Int64) (lx47 : Int32) (lx48 : Int32) (lx49 : Int32) (lx50 : Int32) (lx51 : Int32) (lx52 : Int32) (lx53 : Int32) (lx54 : (Nat → Int32)) : Prop := if lx42 = (0 : Int32) then ((True ∧ S_DR_store x2 lx42 lx44 lx45 lx46 lx47 lx48 lx49 lx50 lx51 lx52 (3 : Int32) t2_0 t3_0 t4_0 t5_0 lx54) ∧ (S_DR_read_c41 x2 t0_0 t0_1 t0_2 t0_3 t0_4 t0_5 t0_6 t0_7 t0_8 t0_9 t0_10 t1_0 t2_0 t3_0 t4_0 t5_0 t6_0 lx42 lx43 lx44 lx45 lx46 lx47 lx48 lx49 lx50 lx51 lx52 lx53 lx54 ((F_DR_store x2 lx42 lx44 lx45 lx46 lx47 lx48 lx49 lx50 lx51 lx52 (3 : Int32) t2_0 t3_0 t4_0 t5_0 lx54) : (Int32 × Int32 × Int32 × Int64 × Int32 × Int32 × Int32 × Int32 × Int32 × Int32 × Int32 × (Nat → Int32) × (Nat → Int32) × (Nat → Int32) × (Nat → Int32) × (Nat → Int32))))) else (True)
def S_DR_read_c13 (x2 : Int32) (t0_0 : Int32) (t0_1 : Int32) (t0_2 : Int32) (t0_3 : Int64) (t0_4 : Int32) (t0_5 : Int32) (t0_6 : Int32) (t0_7 : Int32) (t0_8 : Int32) (t0_9 : Int32) (t0_10 : Int32) (t1_0 : (Nat → Int32)) (t2_0 : (Nat → Int32)) (t3_0 : (Nat → Int32)) (t4_0 : (Nat → Int32)) (t5_0 : (Nat → Int32)) (t6_0 : (Nat → Int32)) (p219 : (Int32 × Int32 × Int32 × Int32 × Int64 × Int32 × Int32 × Int32 × Int32 × Int32 × Int32 × Int32 × (Nat → Int32))) : Prop := if (p219.1 : Int32) = (0 : Int32) then (S_DR_read_J24 x2 t0_0 t0_1 t0_2 t0_3 t0_4 t0_5 t0_6 t0_7 t0_8 t0_9 t0_10 t1_0 t2_0 t3_0 t4_0 t5_0 t6_0 2 (p219.2.1 : Int32) (p219.2.2.1 : Int32) (p219.2.2.2.1 : Int32) (p219.2.2.2.2.1 : Int64) (p219.2.2.2.2.2.1 : Int32) (p219.2.2.2.2.2.2.1 : Int32) (p219.2.2.2.2.2.2.2.1 : Int32) (p219.2.2.2.2.2.2.2.2.1 : Int32) (p219.2.2.2.2.2.2.2.2.2.1 : Int32) (p219.2.2.2.2.2.2.2.2.2.2.1 : Int32) (p219.2.2.2.2.2.2.2.2.2.2.2.1 : Int32) (p219.2.2.2.2.2.2.2.2.2.2.2.2 : (Nat → Int32))) else (S_DR_read_J24 x2 t0_0 t0_1 t0_2 t0_3 t0_4 t0_5 t0_6 t0_7 t0_8 t0_9 t0_10 t1_0 t2_0 t3_0 t4_0 t5_0 t6_0 0 (p219.2.1 : Int32) (p219.2.2.1 : Int32) (p219.2.2.2.1 : Int32) (p219.2.2.2.2.1 : Int64) (p219.2.2.2.2.2.1 : Int32) (p219.2.2.2.2.2.2.1 : Int32) (p219.2.2.2.2.2.2.2.1 : Int32) (p219.2.2.2.2.2.2.2.2.1 : Int32) (p219.2.2.2.2.2.2.2.2.2.1 : Int32) (p219.2.2.2.2.2.2.2.2.2.2.1 : Int32) (p219.2.2.2.2.2.2.2.2.2.2.2.1 : Int32) (p219.2.2.2.2.2.2.2.2.2.2.2.2 : (Nat → Int32)))
def S_DR_read (x2 : Int32) (t0_0 : Int32) (t0_1 : Int32) (t0_2 : Int32) (t0_3 : Int64) (t0_4 : Int32) (t0_5 : Int32) (t0_6 : Int32) (t0_7 : Int32) (t0_8 : Int32) (t0_9 : Int32) (t0_10 : Int32) (t1_0 : (Nat → Int32)) (t2_0 : (Nat → Int32)) (t3_0 : (Nat → Int32)) (t4_0 : (Nat → Int32)) (t5_0 : (Nat → Int32)) (t6_0 : (Nat → Int32)) : Prop := if ((F_DR_no x2) : Int32) = (0 : Int32) then ((True ∧ S_DR_says t0_0 t0_1 t0_2 t0_3 t0_4 t0_5 t0_6 t0_7 t0_8 t0_9 t0_10 t1_0 t6_0) ∧ (S_DR_read_c13 x2 t0_0 t0_1 t0_2 t0_3 t0_4 t0_5 t0_6 t0_7 t0_8 t0_9 t0_10 t1_0 t2_0 t3_0 t4_0 t5_0 t6_0 ((F_DR_says t0_0 t0_1 t0_2 t0_3 t0_4 t0_5 t0_6 t0_7 t0_8 t0_9 t0_10 t1_0 t6_0) : (Int32 × Int32 × Int32 × Int32 × Int64 × Int32 × Int32 × Int32 × Int32 × Int32 × Int32 × Int32 × (Nat → Int32))))) else (S_DR_read_J24 x2 t0_0 t0_1 t0_2 t0_3 t0_4 t0_5 t0_6 t0_7 t0_8 t0_9 t0_10 t1_0 t2_0 t3_0 t4_0 t5_0 t6_0 1 t0_0 t0_1 t0_2 t0_3 t0_4 t0_5 t0_6 t0_7 t0_8 t0_9 t0_10 t6_0)
set_option maxRecDepth 100000 in
set_option maxHeartbeats 4000000 in
theorem X_DR_read (l : Launch) (D : va_G) (g : Nat → ClassId) (q : Nat → Nat) (ws : va_W) (x2 : Int32) (hI : q_I (msh g q) q ws) (t0_0 : Int32) (t0_1 : Int32) (t0_2 : Int32) (t0_3 : Int64) (t0_4 : Int32) (t0_5 : Int32) (t0_6 : Int32) (t0_7 : Int32) (t0_8 : Int32) (t0_9 : Int32) (t0_10 : Int32) (hT0 : ws[134]? = (some (q 134, .inr (14, [.int t0_0, .ref (q 135), .int t0_1, .ref (q 136), .ref (q 137), .ref (q 138), .ref (q 139), .ref (q 140), .int t0_2, .long t0_3, .int t0_4, .int t0_5, .ref (q 141), .int t0_6, .ref (q 142), .int t0_7, .ref (q 143), .int t0_8, .ref (q 144), .int t0_9, .int t0_10])) : Option (Nat × va_E))) (t1_0 : (Nat → Int32)) (hT1 : ws[135]? = (some (q 135, .inl (g 0, (4100 : Int32).toNatClampNeg, .inl t1_0)) : Option (Nat × va_E))) (t2_0 : (Nat → Int32)) (hT2 : ws[136]? = (some (q 136, .inl (g 0, (10000 : Int32).toNatClampNeg, .inl t2_0)) : Option (Nat × va_E))) (t3_0 : (Nat → Int32)) (hT3 : ws[137]? = (some (q 137, .inl (g 0, (10 : Int32).toNatClampNeg, .inl t3_0)) : Option (Nat × va_E))) (t4_0 : (Nat → Int32)) (hT4 : ws[138]? = (some (q 138, .inl (g 3, 10, .inl t4_0)) : Option (Nat × va_E))) (t5_0 : (Nat → Int32)) (hT5 : ws[139]? = (some (q 139, .inl (g 0, (10 : Int32).toNatClampNeg, .inl t5_0)) : Option (Nat × va_E))) (t6_0 : (Nat → Int32)) (hT6 : ws[140]? = (some (q 140, .inl (g 0, (4400 : Int32).toNatClampNeg, .inl t6_0)) : Option (Nat × va_E))) (hS : True ∧ S_DR_read x2 t0_0 t0_1 t0_2 t0_3 t0_4 t0_5 t0_6 t0_7 t0_8 t0_9 t0_10 t1_0 t2_0 t3_0 t4_0 t5_0 t6_0) : q_mV l y_DR_read prog_15_method_21_code 2 3 0 0 D g [.ref (q 134), .int x2] ws (fun u => q_I (msh g q) q u ∧ q_un ws u [134, 136, 137, 138, 139, 140] ∧ ∃ (u0_0 : Int32) (u0_1 : Int32) (u0_2 : Int32) (u0_3 : Int64) (u0_4 : Int32) (u0_5 : Int32) (u0_6 : Int32) (u0_7 : Int32) (u0_8 : Int32) (u0_9 : Int32) (u0_10 : Int32) (u2_0 : (Nat → Int32)) (u3_0 : (Nat → Int32)) (u4_0 : (Nat → Int32)) (u5_0 : (Nat → Int32)) (u6_0 : (Nat → Int32)), u[134]? = (some (q 134, .inr (14, [.int u0_0, .ref (q 135), .int u0_1, .ref (q 136), .ref (q 137), .ref (q 138), .ref (q 139), .ref (q 140), .int u0_2, .long u0_3, .int u0_4, .int u0_5, .ref (q 141), .int u0_6, .ref (q 142), .int u0_7, .ref (q 143), .int u0_8, .ref (q 144), .int u0_9, .int u0_10])) : Option (Nat × va_E)) ∧ u[136]? = (some (q 136, .inl (g 0, (10000 : Int32).toNatClampNeg, .inl u2_0)) : Option (Nat × va_E)) ∧ u[137]? = (some (q 137, .inl (g 0, (10 : Int32).toNatClampNeg, .inl u3_0)) : Option (Nat × va_E)) ∧ u[138]? = (some (q 138, .inl (g 3, 10, .inl u4_0)) : Option (Nat × va_E)) ∧ u[139]? = (some (q 139, .inl (g 0, (10 : Int32).toNatClampNeg, .inl u5_0)) : Option (Nat × va_E)) ∧ u[140]? = (some (q 140, .inl (g 0, (4400 : Int32).toNatClampNeg, .inl u6_0)) : Option (Nat × va_E)) ∧ (0 ≤ u0_1.toInt) ∧ (0 ≤ u0_4.toInt) ∧ (0 ≤ u0_5.toInt) ∧ (u0_5.toInt ≤ 1) ∧ (u0_1.toInt ≤ t0_1.toInt) ∧ (u0_4.toInt ≤ t0_4.toInt) ∧ (t0_6.toInt ≤ u0_6.toInt) ∧ (u0_6.toInt ≤ t0_6.toInt) ∧ (t0_7.toInt ≤ u0_7.toInt) ∧ (u0_7.toInt ≤ t0_7.toInt) ∧ (t0_8.toInt ≤ u0_8.toInt) ∧ (u0_8.toInt ≤ t0_8.toInt) ∧ (t0_9.toInt ≤ u0_9.toInt) ∧ (u0_9.toInt ≤ t0_9.toInt) ∧ (u0_0, u0_1, u0_2, u0_3, u0_4, u0_5, u0_6, u0_7, u0_8, u0_9, u0_10, u2_0, u3_0, u4_0, u5_0, u6_0) = (F_DR_read x2 t0_0 t0_1 t0_2 t0_3 t0_4 t0_5 t0_6 t0_7 t0_8 t0_9 t0_10 t1_0 t2_0 t3_0 t4_0 t5_0 t6_0)) := by
  intro sz
  refine q_into (by decide) (Nat.le_of_ble_eq_true rfl) ?_
  intro p e s m below meth c ls hsz C0 V hl
  have hx := C0.1
  have hb := C0.2.1
  obtain ⟨yy0_0, yy0_1, yy0_2, yy0_3, yy0_4, yy0_5, yy0_6, yy0_7, yy0_8, yy0_9, yy0_10, hh0, btt0_1, btt0_4, btt0_5, btt0_9⟩ := n_o134 hI
  obtain ⟨rfl, rfl, rfl, rfl, rfl, rfl, rfl, rfl, rfl, rfl, rfl⟩ : t0_0 = yy0_0 ∧ t0_1 = yy0_1 ∧ t0_2 = yy0_2 ∧ t0_3 = yy0_3 ∧ t0_4 = yy0_4 ∧ t0_5 = yy0_5 ∧ t0_6 = yy0_6 ∧ t0_7 = yy0_7 ∧ t0_8 = yy0_8 ∧ t0_9 = yy0_9 ∧ t0_10 = yy0_10 := by have z := Option.some.inj (hT0.symm.trans hh0); simpa using z
  replace btt0_1 : q_F (0 ≤ t0_1.toInt ∧ t0_1.toInt ≤ 4100) := btt0_1
  replace btt0_4 : q_F (0 ≤ t0_4.toInt ∧ t0_4.toInt ≤ 1) := btt0_4
  replace btt0_5 : q_F (0 ≤ t0_5.toInt ∧ t0_5.toInt ≤ 1) := btt0_5
  replace btt0_9 : q_F (0 ≤ t0_9.toInt ∧ t0_9.toInt ≤ 12200) := btt0_9
  have hF : q_un ws ws [134, 136, 137, 138, 139, 140] := q_u0
  have hl : lv_has ls 2 [(0, .ref (q 134)), (1, .int x2)] := hl
  refine lv_aload_n hx hb d_15_21_0 rfl (lv_at hl 0 rfl) ?_
  refine lv_iload_n hx hb d_15_21_1 rfl (lv_at hl 1 rfl) ?_
  refine q_goi V (q_runS (As := [.int x2]) (rest := [.ref (q 134)]) (d := 1) (mc := 0) (ms := 0) C0 V rfl LS_DR_113 (X_DR_no l D g q ws  x2 hI   _) rfl hl.1 rfl (Nat.le_of_ble_eq_true rfl) ⟨by decide, by decide⟩ ⟨Nat.le_of_ble_eq_true rfl, Nat.le_of_ble_eq_true rfl⟩ d_15_21_2) (fun a37 u35 H locs hp36 V => ?_)
  obtain ⟨rfl, b38, b39, hE40⟩ := hp36
  have e41 : a37 = (F_DR_no x2) := hE40
  replace b38 : q_F (0 ≤ a37.toInt) := b38
  replace b39 : q_F (a37.toInt ≤ 1) := b39
  refine q_join (X := Int32 × Int32 × Int32 × Int32 × Int64 × Int32 × Int32 × Int32 × Int32 × Int32 × Int32 × Int32 × (Nat → Int32)) (fun z H locs ls w83 => q_F (z.1.toInt ≤ 2) ∧ q_F (0 ≤ z.2.2.2.2.2.1.toInt) ∧ q_F (0 ≤ z.2.2.2.2.2.2.1.toInt) ∧ q_F (z.2.2.2.2.2.2.1.toInt ≤ 1) ∧ q_F (a37.toInt ≤ z.1.toInt) ∧ q_F (t0_0.toInt ≤ z.2.1.toInt) ∧ q_F (z.2.1.toInt ≤ t0_0.toInt) ∧ q_F (t0_1.toInt ≤ z.2.2.1.toInt) ∧ q_F (z.2.2.1.toInt ≤ t0_1.toInt) ∧ q_F (z.2.2.2.2.2.1.toInt ≤ t0_4.toInt) ∧ q_F (t0_6.toInt ≤ z.2.2.2.2.2.2.2.1.toInt) ∧ q_F (z.2.2.2.2.2.2.2.1.toInt ≤ t0_6.toInt) ∧ q_F (t0_7.toInt ≤ z.2.2.2.2.2.2.2.2.1.toInt) ∧ q_F (z.2.2.2.2.2.2.2.2.1.toInt ≤ t0_7.toInt) ∧ q_F (t0_8.toInt ≤ z.2.2.2.2.2.2.2.2.2.1.toInt) ∧ q_F (z.2.2.2.2.2.2.2.2.2.1.toInt ≤ t0_8.toInt) ∧ q_F (t0_9.toInt ≤ z.2.2.2.2.2.2.2.2.2.2.1.toInt) ∧ q_F (z.2.2.2.2.2.2.2.2.2.2.1.toInt ≤ t0_9.toInt) ∧ q_F (t0_10.toInt ≤ z.2.2.2.2.2.2.2.2.2.2.2.1.toInt) ∧ q_F (z.2.2.2.2.2.2.2.2.2.2.2.1.toInt ≤ t0_10.toInt) ∧ q_Wd D g (va_A ws sz) s w83 H locs ∧ lv_has ls 2 [(0, .ref (q 134)), (1, .int x2)] ∧ q_I (msh g q) q w83 ∧ q_un ws w83 [134, 136, 137, 138, 139, 140] ∧ w83[134]? = (some (q 134, .inr (14, [.int z.2.1, .ref (q 135), .int z.2.2.1, .ref (q 136), .ref (q 137), .ref (q 138), .ref (q 139), .ref (q 140), .int z.2.2.2.1, .long z.2.2.2.2.1, .int z.2.2.2.2.2.1, .int z.2.2.2.2.2.2.1, .ref (q 141), .int z.2.2.2.2.2.2.2.1, .ref (q 142), .int z.2.2.2.2.2.2.2.2.1, .ref (q 143), .int z.2.2.2.2.2.2.2.2.2.1, .ref (q 144), .int z.2.2.2.2.2.2.2.2.2.2.1, .int z.2.2.2.2.2.2.2.2.2.2.2.1])) : Option (Nat × va_E)) ∧ w83[135]? = (some (q 135, .inl (g 0, (4100 : Int32).toNatClampNeg, .inl t1_0)) : Option (Nat × va_E)) ∧ w83[136]? = (some (q 136, .inl (g 0, (10000 : Int32).toNatClampNeg, .inl t2_0)) : Option (Nat × va_E)) ∧ w83[137]? = (some (q 137, .inl (g 0, (10 : Int32).toNatClampNeg, .inl t3_0)) : Option (Nat × va_E)) ∧ w83[138]? = (some (q 138, .inl (g 3, 10, .inl t4_0)) : Option (Nat × va_E)) ∧ w83[139]? = (some (q 139, .inl (g 0, (10 : Int32).toNatClampNeg, .inl t5_0)) : Option (Nat × va_E)) ∧ w83[140]? = (some (q 140, .inl (g 0, (4400 : Int32).toNatClampNeg, .inl z.2.2.2.2.2.2.2.2.2.2.2.2)) : Option (Nat × va_E)) ∧ F_DR_read_J24 x2 t0_0 t0_1 t0_2 t0_3 t0_4 t0_5 t0_6 t0_7 t0_8 t0_9 t0_10 t1_0 t2_0 t3_0 t4_0 t5_0 t6_0 z.1 z.2.1 z.2.2.1 z.2.2.2.1 z.2.2.2.2.1 z.2.2.2.2.2.1 z.2.2.2.2.2.2.1 z.2.2.2.2.2.2.2.1 z.2.2.2.2.2.2.2.2.1 z.2.2.2.2.2.2.2.2.2.1 z.2.2.2.2.2.2.2.2.2.2.1 z.2.2.2.2.2.2.2.2.2.2.2.1 z.2.2.2.2.2.2.2.2.2.2.2.2 = (F_DR_read x2 t0_0 t0_1 t0_2 t0_3 t0_4 t0_5 t0_6 t0_7 t0_8 t0_9 t0_10 t1_0 t2_0 t3_0 t4_0 t5_0 t6_0) ∧ True ∧ S_DR_read_J24 x2 t0_0 t0_1 t0_2 t0_3 t0_4 t0_5 t0_6 t0_7 t0_8 t0_9 t0_10 t1_0 t2_0 t3_0 t4_0 t5_0 t6_0 z.1 z.2.1 z.2.2.1 z.2.2.2.1 z.2.2.2.2.1 z.2.2.2.2.2.1 z.2.2.2.2.2.2.1 z.2.2.2.2.2.2.2.1 z.2.2.2.2.2.2.2.2.1 z.2.2.2.2.2.2.2.2.2.1 z.2.2.2.2.2.2.2.2.2.2.1 z.2.2.2.2.2.2.2.2.2.2.2.1 z.2.2.2.2.2.2.2.2.2.2.2.2) (fun z => [.int z.1, .ref (q 134)]) 24 0 0 ?_ ?_
  ·
    rintro ⟨lx42, lx43, lx44, lx45, lx46, lx47, lx48, lx49, lx50, lx51, lx52, lx53, lx54⟩ H locs ls w83 ⟨i63, i64, i65, i66, i67, i68, i69, i70, i71, i72, i73, i74, i75, i76, i77, i78, i79, i80, i81, i82, V, hl, hI, hF, hO55, hA56, hA57, hA58, hA59, hA60, hA61, hR84, hS85⟩
    replace i63 : q_F (lx42.toInt ≤ 2) := i63
    replace i64 : q_F (0 ≤ lx47.toInt) := i64
    replace i65 : q_F (0 ≤ lx48.toInt) := i65
    replace i66 : q_F (lx48.toInt ≤ 1) := i66
    replace i67 : q_F (a37.toInt ≤ lx42.toInt) := i67
    replace i68 : q_F (t0_0.toInt ≤ lx43.toInt) := i68
    replace i69 : q_F (lx43.toInt ≤ t0_0.toInt) := i69
    replace i70 : q_F (t0_1.toInt ≤ lx44.toInt) := i70
    replace i71 : q_F (lx44.toInt ≤ t0_1.toInt) := i71
    replace i72 : q_F (lx47.toInt ≤ t0_4.toInt) := i72
    replace i73 : q_F (t0_6.toInt ≤ lx49.toInt) := i73
    replace i74 : q_F (lx49.toInt ≤ t0_6.toInt) := i74
    replace i75 : q_F (t0_7.toInt ≤ lx50.toInt) := i75
    replace i76 : q_F (lx50.toInt ≤ t0_7.toInt) := i76
    replace i77 : q_F (t0_8.toInt ≤ lx51.toInt) := i77
    replace i78 : q_F (lx51.toInt ≤ t0_8.toInt) := i78
    replace i79 : q_F (t0_9.toInt ≤ lx52.toInt) := i79
    replace i80 : q_F (lx52.toInt ≤ t0_9.toInt) := i80
    replace i81 : q_F (t0_10.toInt ≤ lx53.toInt) := i81
    replace i82 : q_F (lx53.toInt ≤ t0_10.toInt) := i82
    replace hl : lv_has ls 2 [(0, .ref (q 134)), (1, .int x2)] := hl
    replace hO55 : w83[134]? = (some (q 134, .inr (14, [.int lx43, .ref (q 135), .int lx44, .ref (q 136), .ref (q 137), .ref (q 138), .ref (q 139), .ref (q 140), .int lx45, .long lx46, .int lx47, .int lx48, .ref (q 141), .int lx49, .ref (q 142), .int lx50, .ref (q 143), .int lx51, .ref (q 144), .int lx52, .int lx53])) : Option (Nat × va_E)) := hO55
    replace hA56 : w83[135]? = (some (q 135, .inl (g 0, (4100 : Int32).toNatClampNeg, .inl t1_0)) : Option (Nat × va_E)) := hA56
    replace hA57 : w83[136]? = (some (q 136, .inl (g 0, (10000 : Int32).toNatClampNeg, .inl t2_0)) : Option (Nat × va_E)) := hA57
    replace hA58 : w83[137]? = (some (q 137, .inl (g 0, (10 : Int32).toNatClampNeg, .inl t3_0)) : Option (Nat × va_E)) := hA58
    replace hA59 : w83[138]? = (some (q 138, .inl (g 3, 10, .inl t4_0)) : Option (Nat × va_E)) := hA59
    replace hA60 : w83[139]? = (some (q 139, .inl (g 0, (10 : Int32).toNatClampNeg, .inl t5_0)) : Option (Nat × va_E)) := hA60
    replace hA61 : w83[140]? = (some (q 140, .inl (g 0, (4400 : Int32).toNatClampNeg, .inl lx54)) : Option (Nat × va_E)) := hA61
    refine q_put (ci := 14) (j := 0) (v := .int lx42) (ty := .int) C0 V i_DR o_DR n_DR rfl rfl hO55 (by decide) w_1996 rfl rfl rfl rfl (Nat.le_of_ble_eq_true rfl) d_15_21_24 (fun H locs w89 hu90 hO55 V => ?_)
    replace hO55 : w89[134]? = (some (q 134, .inr (14, [.int lx42, .ref (q 135), .int lx44, .ref (q 136), .ref (q 137), .ref (q 138), .ref (q 139), .ref (q 140), .int lx45, .long lx46, .int lx47, .int lx48, .ref (q 141), .int lx49, .ref (q 142), .int lx50, .ref (q 143), .int lx51, .ref (q 144), .int lx52, .int lx53])) : Option (Nat × va_E)) := hO55
    replace hI := n_p134 hI hu90 hO55 ⟨(by have t1 : 0 ≤ t0_1.toInt ∧ t0_1.toInt ≤ 4100 := btt0_1; have t2 : t0_1.toInt ≤ lx44.toInt := i70; omega), (by have t1 : 0 ≤ t0_1.toInt ∧ t0_1.toInt ≤ 4100 := btt0_1; have t2 : lx44.toInt ≤ t0_1.toInt := i71; omega)⟩ ⟨(by have t1 : 0 ≤ lx47.toInt := i64; omega), (by have t1 : 0 ≤ t0_4.toInt ∧ t0_4.toInt ≤ 1 := btt0_4; have t2 : lx47.toInt ≤ t0_4.toInt := i72; omega)⟩ ⟨(by have t1 : 0 ≤ lx48.toInt := i65; omega), (by have t1 : lx48.toInt ≤ 1 := i66; omega)⟩ ⟨(by have t1 : 0 ≤ t0_9.toInt ∧ t0_9.toInt ≤ 12200 := btt0_9; have t2 : t0_9.toInt ≤ lx52.toInt := i79; omega), (by have t1 : 0 ≤ t0_9.toInt ∧ t0_9.toInt ≤ 12200 := btt0_9; have t2 : lx52.toInt ≤ t0_9.toInt := i80; omega)⟩
    replace hA56 := (hu90 _ (by decide)).trans hA56
    replace hA57 := (hu90 _ (by decide)).trans hA57
    replace hA58 := (hu90 _ (by decide)).trans hA58
    replace hA59 := (hu90 _ (by decide)).trans hA59
    replace hA60 := (hu90 _ (by decide)).trans hA60
    replace hA61 := (hu90 _ (by decide)).trans hA61
    replace hF := q_us hF hu90 (by simp)
    refine lv_aload_n hx hb d_15_21_27 rfl (lv_at hl 0 rfl) ?_
    refine q_get (ci := 14) (j := 0) (v := .int lx42) C0 V i_DR rfl rfl hO55 (by decide) w_1996 rfl d_15_21_28 ?_
    refine lv_if_ne (tgt := 63) hx hb d_15_21_31 (by decide) (fun c91 => ?_) (fun c91 => ?_)
    ·
      have b92 : q_F (lx42.toInt ≠ 0) := (q_neI c91)
      exact q_retv C0 V (⟨hI, hF, lx42, lx44, lx45, lx46, lx47, lx48, lx49, lx50, lx51, lx52, lx53, t2_0, t3_0, t4_0, t5_0, lx54, hO55, hA57, hA58, hA59, hA60, hA61, (show 0 ≤ lx44.toInt from (by have t1 : 0 ≤ t0_1.toInt ∧ t0_1.toInt ≤ 4100 := btt0_1; have t2 : t0_1.toInt ≤ lx44.toInt := i70; omega)), (show 0 ≤ lx47.toInt from (by have t1 : 0 ≤ lx47.toInt := i64; omega)), (show 0 ≤ lx48.toInt from (by have t1 : 0 ≤ lx48.toInt := i65; omega)), (show lx48.toInt ≤ 1 from (by have t1 : lx48.toInt ≤ 1 := i66; omega)), (show lx44.toInt ≤ t0_1.toInt from (by have t1 : lx44.toInt ≤ t0_1.toInt := i71; omega)), (show lx47.toInt ≤ t0_4.toInt from (by have t1 : lx47.toInt ≤ t0_4.toInt := i72; omega)), (show t0_6.toInt ≤ lx49.toInt from (by have t1 : t0_6.toInt ≤ lx49.toInt := i73; omega)), (show lx49.toInt ≤ t0_6.toInt from (by have t1 : lx49.toInt ≤ t0_6.toInt := i74; omega)), (show t0_7.toInt ≤ lx50.toInt from (by have t1 : t0_7.toInt ≤ lx50.toInt := i75; omega)), (show lx50.toInt ≤ t0_7.toInt from (by have t1 : lx50.toInt ≤ t0_7.toInt := i76; omega)), (show t0_8.toInt ≤ lx51.toInt from (by have t1 : t0_8.toInt ≤ lx51.toInt := i77; omega)), (show lx51.toInt ≤ t0_8.toInt from (by have t1 : lx51.toInt ≤ t0_8.toInt := i78; omega)), (show t0_9.toInt ≤ lx52.toInt from (by have t1 : t0_9.toInt ≤ lx52.toInt := i79; omega)), (show lx52.toInt ≤ t0_9.toInt from (by have t1 : lx52.toInt ≤ t0_9.toInt := i80; omega)), (show (lx42, lx44, lx45, lx46, lx47, lx48, lx49, lx50, lx51, lx52, lx53, t2_0, t3_0, t4_0, t5_0, lx54) = (F_DR_read x2 t0_0 t0_1 t0_2 t0_3 t0_4 t0_5 t0_6 t0_7 t0_8 t0_9 t0_10 t1_0 t2_0 t3_0 t4_0 t5_0 t6_0) from Eq.trans (by rw [F_DR_read_J24.eq_1, if_neg c91]) hR84)⟩) d_15_21_63
    ·
      have b93 : q_F (lx42.toInt = 0) := (q_eqI c91)
      refine lv_aload_n hx hb d_15_21_34 rfl (lv_at hl 0 rfl) ?_
      refine lv_iconst (v := 3) hx hb d_15_21_35 (by decide) ?_
      refine q_put (ci := 14) (j := 20) (v := .int 3) (ty := .int) C0 V i_DR o_DR n_DR rfl rfl hO55 (by decide) w_2024 rfl rfl rfl rfl (Nat.le_of_ble_eq_true rfl) d_15_21_36 (fun H locs w94 hu95 hO55 V => ?_)
      replace hO55 : w94[134]? = (some (q 134, .inr (14, [.int lx42, .ref (q 135), .int lx44, .ref (q 136), .ref (q 137), .ref (q 138), .ref (q 139), .ref (q 140), .int lx45, .long lx46, .int lx47, .int lx48, .ref (q 141), .int lx49, .ref (q 142), .int lx50, .ref (q 143), .int lx51, .ref (q 144), .int lx52, .int 3])) : Option (Nat × va_E)) := hO55
      replace hI := n_p134 hI hu95 hO55 ⟨(by have t1 : 0 ≤ t0_1.toInt ∧ t0_1.toInt ≤ 4100 := btt0_1; have t2 : t0_1.toInt ≤ lx44.toInt := i70; omega), (by have t1 : 0 ≤ t0_1.toInt ∧ t0_1.toInt ≤ 4100 := btt0_1; have t2 : lx44.toInt ≤ t0_1.toInt := i71; omega)⟩ ⟨(by have t1 : 0 ≤ lx47.toInt := i64; omega), (by have t1 : 0 ≤ t0_4.toInt ∧ t0_4.toInt ≤ 1 := btt0_4; have t2 : lx47.toInt ≤ t0_4.toInt := i72; omega)⟩ ⟨(by have t1 : 0 ≤ lx48.toInt := i65; omega), (by have t1 : lx48.toInt ≤ 1 := i66; omega)⟩ ⟨(by have t1 : 0 ≤ t0_9.toInt ∧ t0_9.toInt ≤ 12200 := btt0_9; have t2 : t0_9.toInt ≤ lx52.toInt := i79; omega), (by have t1 : 0 ≤ t0_9.toInt ∧ t0_9.toInt ≤ 12200 := btt0_9; have t2 : lx52.toInt ≤ t0_9.toInt := i80; omega)⟩
      replace hA56 := (hu95 _ (by decide)).trans hA56
      replace hA57 := (hu95 _ (by decide)).trans hA57
      replace hA58 := (hu95 _ (by decide)).trans hA58
      replace hA59 := (hu95 _ (by decide)).trans hA59
      replace hA60 := (hu95 _ (by decide)).trans hA60
      replace hA61 := (hu95 _ (by decide)).trans hA61
      replace hF := q_us hF hu95 (by simp)
      refine lv_aload_n hx hb d_15_21_39 rfl (lv_at hl 0 rfl) ?_
      refine lv_iload_n hx hb d_15_21_40 rfl (lv_at hl 1 rfl) ?_
      have ob96 : True ∧ S_DR_store x2 lx42 lx44 lx45 lx46 lx47 lx48 lx49 lx50 lx51 lx52 (3 : Int32) t2_0 t3_0 t4_0 t5_0 lx54 := (by have h := hS85; rw [S_DR_read_J24.eq_1] at h; rw [if_pos c91] at h; with_reducible exact h.2.1)
      refine q_gov V (q_runV (As := [.int x2]) (rest := []) (d := 2) (mc := 0) (ms := 0) (ci := 14) C0 V rfl LV_DR_89 (X_DR_store l D g q w94  x2 hI lx42 lx44 lx45 lx46 lx47 lx48 lx49 lx50 lx51 lx52 3 hO55 t2_0 hA57 t3_0 hA58 t4_0 hA59 t5_0 hA60 lx54 hA61 ob96 _) rfl rfl hO55 rfl hl.1 rfl (Nat.le_of_ble_eq_true rfl) ⟨by decide, by decide⟩ ⟨Nat.le_of_ble_eq_true rfl, Nat.le_of_ble_eq_true rfl⟩ d_15_21_41) (fun u97 H locs hp98 V => ?_)
      obtain ⟨hI, hu144, y100, y101, y102, y103, y104, y105, y106, y107, y108, y109, y110, f111, f113, f115, f117, f119, hO99, hA112, hA114, hA116, hA118, hA120, b121, b122, b123, b124, b125, b126, b127, b128, b129, b130, b131, b132, b133, b134, b135, b136, b137, b138, b139, b140, b141, b142, hE143⟩ := hp98
      replace hO99 : u97[134]? = (some (q 134, .inr (14, [.int y100, .ref (q 135), .int y101, .ref (q 136), .ref (q 137), .ref (q 138), .ref (q 139), .ref (q 140), .int y102, .long y103, .int y104, .int y105, .ref (q 141), .int y106, .ref (q 142), .int y107, .ref (q 143), .int y108, .ref (q 144), .int y109, .int y110])) : Option (Nat × va_E)) := hO99
      replace hA112 : u97[136]? = (some (q 136, .inl (g 0, (10000 : Int32).toNatClampNeg, .inl f111)) : Option (Nat × va_E)) := hA112
      replace hA114 : u97[137]? = (some (q 137, .inl (g 0, (10 : Int32).toNatClampNeg, .inl f113)) : Option (Nat × va_E)) := hA114
      replace hA116 : u97[138]? = (some (q 138, .inl (g 3, 10, .inl f115)) : Option (Nat × va_E)) := hA116
      replace hA118 : u97[139]? = (some (q 139, .inl (g 0, (10 : Int32).toNatClampNeg, .inl f117)) : Option (Nat × va_E)) := hA118
      replace hA120 : u97[140]? = (some (q 140, .inl (g 0, (4400 : Int32).toNatClampNeg, .inl f119)) : Option (Nat × va_E)) := hA120
      obtain ⟨p145, e146⟩ : ∃ z, z = (F_DR_store x2 lx42 lx44 lx45 lx46 lx47 lx48 lx49 lx50 lx51 lx52 (3 : Int32) t2_0 t3_0 t4_0 t5_0 lx54) := ⟨_, rfl⟩
      have e147 : y100 = p145.1 := congrArg (fun z => z.1) (hE143.trans e146.symm)
      have e148 : y101 = p145.2.1 := congrArg (fun z => z.2.1) (hE143.trans e146.symm)
      have e149 : y102 = p145.2.2.1 := congrArg (fun z => z.2.2.1) (hE143.trans e146.symm)
      have e150 : y103 = p145.2.2.2.1 := congrArg (fun z => z.2.2.2.1) (hE143.trans e146.symm)
      have e151 : y104 = p145.2.2.2.2.1 := congrArg (fun z => z.2.2.2.2.1) (hE143.trans e146.symm)
      have e152 : y105 = p145.2.2.2.2.2.1 := congrArg (fun z => z.2.2.2.2.2.1) (hE143.trans e146.symm)
      have e153 : y106 = p145.2.2.2.2.2.2.1 := congrArg (fun z => z.2.2.2.2.2.2.1) (hE143.trans e146.symm)
      have e154 : y107 = p145.2.2.2.2.2.2.2.1 := congrArg (fun z => z.2.2.2.2.2.2.2.1) (hE143.trans e146.symm)
      have e155 : y108 = p145.2.2.2.2.2.2.2.2.1 := congrArg (fun z => z.2.2.2.2.2.2.2.2.1) (hE143.trans e146.symm)
      have e156 : y109 = p145.2.2.2.2.2.2.2.2.2.1 := congrArg (fun z => z.2.2.2.2.2.2.2.2.2.1) (hE143.trans e146.symm)
      have e157 : y110 = p145.2.2.2.2.2.2.2.2.2.2.1 := congrArg (fun z => z.2.2.2.2.2.2.2.2.2.2.1) (hE143.trans e146.symm)
      have e158 : f111 = p145.2.2.2.2.2.2.2.2.2.2.2.1 := congrArg (fun z => z.2.2.2.2.2.2.2.2.2.2.2.1) (hE143.trans e146.symm)
      have e159 : f113 = p145.2.2.2.2.2.2.2.2.2.2.2.2.1 := congrArg (fun z => z.2.2.2.2.2.2.2.2.2.2.2.2.1) (hE143.trans e146.symm)
      have e160 : f115 = p145.2.2.2.2.2.2.2.2.2.2.2.2.2.1 := congrArg (fun z => z.2.2.2.2.2.2.2.2.2.2.2.2.2.1) (hE143.trans e146.symm)
      have e161 : f117 = p145.2.2.2.2.2.2.2.2.2.2.2.2.2.2.1 := congrArg (fun z => z.2.2.2.2.2.2.2.2.2.2.2.2.2.2.1) (hE143.trans e146.symm)
      have e162 : f119 = p145.2.2.2.2.2.2.2.2.2.2.2.2.2.2.2 := congrArg (fun z => z.2.2.2.2.2.2.2.2.2.2.2.2.2.2.2) (hE143.trans e146.symm)
      replace b121 : q_F (0 ≤ y105.toInt) := b121
      replace b122 : q_F (lx44.toInt ≤ y101.toInt) := b122
      replace b123 : q_F (y101.toInt ≤ lx44.toInt) := b123
      replace b124 : q_F (lx45.toInt ≤ y101.toInt + 24400) := b124
      replace b125 : q_F (lx46.toInt ≤ y103.toInt) := b125
      replace b126 : q_F (y103.toInt ≤ lx46.toInt) := b126
      replace b127 : q_F (lx45.toInt ≤ y104.toInt + 24400) := b127
      replace b128 : q_F (lx47.toInt ≤ y104.toInt) := b128
      replace b129 : q_F (y104.toInt ≤ lx47.toInt) := b129
      replace b130 : q_F (lx45.toInt ≤ y105.toInt + 24400) := b130
      replace b131 : q_F (y105.toInt ≤ lx48.toInt) := b131
      replace b132 : q_F (lx49.toInt ≤ y106.toInt) := b132
      replace b133 : q_F (y106.toInt ≤ lx49.toInt) := b133
      replace b134 : q_F (lx50.toInt ≤ y107.toInt) := b134
      replace b135 : q_F (y107.toInt ≤ lx50.toInt) := b135
      replace b136 : q_F (lx51.toInt ≤ y108.toInt) := b136
      replace b137 : q_F (y108.toInt ≤ lx51.toInt) := b137
      replace b138 : q_F (lx45.toInt ≤ y109.toInt + 24400) := b138
      replace b139 : q_F (lx52.toInt ≤ y109.toInt) := b139
      replace b140 : q_F (y109.toInt ≤ lx52.toInt) := b140
      replace b141 : q_F (3 ≤ y110.toInt) := b141
      replace b142 : q_F (y110.toInt ≤ 3) := b142
      replace hA56 := (hu144 _ (by decide)).trans hA56
      replace hF := q_uc hF hu144 (by simp)
      have hR163 := (show F_DR_read_c41 x2 t0_0 t0_1 t0_2 t0_3 t0_4 t0_5 t0_6 t0_7 t0_8 t0_9 t0_10 t1_0 t2_0 t3_0 t4_0 t5_0 t6_0 lx42 lx43 lx44 lx45 lx46 lx47 lx48 lx49 lx50 lx51 lx52 lx53 lx54 p145 = (F_DR_read x2 t0_0 t0_1 t0_2 t0_3 t0_4 t0_5 t0_6 t0_7 t0_8 t0_9 t0_10 t1_0 t2_0 t3_0 t4_0 t5_0 t6_0) from Eq.trans (by rw [e146, F_DR_read_J24.eq_1, if_pos c91]) hR84)
      have hS164 := (show True ∧ S_DR_read_c41 x2 t0_0 t0_1 t0_2 t0_3 t0_4 t0_5 t0_6 t0_7 t0_8 t0_9 t0_10 t1_0 t2_0 t3_0 t4_0 t5_0 t6_0 lx42 lx43 lx44 lx45 lx46 lx47 lx48 lx49 lx50 lx51 lx52 lx53 lx54 p145 from (by rw [e146]; have h := hS85; rw [S_DR_read_J24.eq_1] at h; rw [if_pos c91] at h; replace h := q_s2 h; with_reducible exact h))
      refine lv_aload_n hx hb d_15_21_44 rfl (lv_at hl 0 rfl) ?_
      refine lv_aload_n hx hb d_15_21_45 rfl (lv_at hl 0 rfl) ?_
      refine q_get (ci := 14) (j := 0) (v := .int y100) C0 V i_DR rfl rfl hO99 (by decide) w_1996 rfl d_15_21_46 ?_
      refine lv_if_ne (tgt := 56) hx hb d_15_21_49 (by decide) (fun c168 => ?_) (fun c168 => ?_)
      ·
        have b169 : q_F (y100.toInt ≠ 0) := (q_neI c168)
        refine lv_aload_n hx hb d_15_21_56 rfl (lv_at hl 0 rfl) ?_
        refine q_get (ci := 14) (j := 2) (v := .int y101) C0 V i_DR rfl rfl hO99 (by decide) w_2001 rfl d_15_21_57 ?_
        refine q_put (ci := 14) (j := 2) (v := .int y101) (ty := .int) C0 V i_DR o_DR n_DR rfl rfl hO99 (by decide) w_2001 rfl rfl rfl rfl (Nat.le_of_ble_eq_true rfl) d_15_21_60 (fun H locs w170 hu171 hO99 V => ?_)
        replace hO99 : w170[134]? = (some (q 134, .inr (14, [.int y100, .ref (q 135), .int y101, .ref (q 136), .ref (q 137), .ref (q 138), .ref (q 139), .ref (q 140), .int y102, .long y103, .int y104, .int y105, .ref (q 141), .int y106, .ref (q 142), .int y107, .ref (q 143), .int y108, .ref (q 144), .int y109, .int y110])) : Option (Nat × va_E)) := hO99
        replace hI := n_p134 hI hu171 hO99 ⟨(by have t1 : 0 ≤ t0_1.toInt ∧ t0_1.toInt ≤ 4100 := btt0_1; have t2 : t0_1.toInt ≤ lx44.toInt := i70; have t3 : lx44.toInt ≤ y101.toInt := b122; omega), (by have t1 : 0 ≤ t0_1.toInt ∧ t0_1.toInt ≤ 4100 := btt0_1; have t2 : lx44.toInt ≤ t0_1.toInt := i71; have t3 : y101.toInt ≤ lx44.toInt := b123; omega)⟩ ⟨(by have t1 : 0 ≤ lx47.toInt := i64; have t2 : lx47.toInt ≤ y104.toInt := b128; omega), (by have t1 : 0 ≤ t0_4.toInt ∧ t0_4.toInt ≤ 1 := btt0_4; have t2 : lx47.toInt ≤ t0_4.toInt := i72; have t3 : y104.toInt ≤ lx47.toInt := b129; omega)⟩ ⟨(by have t1 : 0 ≤ y105.toInt := b121; omega), (by have t1 : lx48.toInt ≤ 1 := i66; have t2 : y105.toInt ≤ lx48.toInt := b131; omega)⟩ ⟨(by have t1 : 0 ≤ t0_9.toInt ∧ t0_9.toInt ≤ 12200 := btt0_9; have t2 : t0_9.toInt ≤ lx52.toInt := i79; have t3 : lx52.toInt ≤ y109.toInt := b139; omega), (by have t1 : 0 ≤ t0_9.toInt ∧ t0_9.toInt ≤ 12200 := btt0_9; have t2 : lx52.toInt ≤ t0_9.toInt := i80; have t3 : y109.toInt ≤ lx52.toInt := b140; omega)⟩
        replace hA56 := (hu171 _ (by decide)).trans hA56
        replace hA112 := (hu171 _ (by decide)).trans hA112
        replace hA114 := (hu171 _ (by decide)).trans hA114
        replace hA116 := (hu171 _ (by decide)).trans hA116
        replace hA118 := (hu171 _ (by decide)).trans hA118
        replace hA120 := (hu171 _ (by decide)).trans hA120
        replace hF := q_us hF hu171 (by simp)
        exact q_retv C0 V (⟨hI, hF, y100, y101, y102, y103, y104, y105, y106, y107, y108, y109, y110, f111, f113, f115, f117, f119, hO99, hA112, hA114, hA116, hA118, hA120, (show 0 ≤ y101.toInt from (by have t1 : 0 ≤ t0_1.toInt ∧ t0_1.toInt ≤ 4100 := btt0_1; have t2 : t0_1.toInt ≤ lx44.toInt := i70; have t3 : lx44.toInt ≤ y101.toInt := b122; omega)), (show 0 ≤ y104.toInt from (by have t1 : 0 ≤ lx47.toInt := i64; have t2 : lx47.toInt ≤ y104.toInt := b128; omega)), (show 0 ≤ y105.toInt from (by have t1 : 0 ≤ y105.toInt := b121; omega)), (show y105.toInt ≤ 1 from (by have t1 : lx48.toInt ≤ 1 := i66; have t2 : y105.toInt ≤ lx48.toInt := b131; omega)), (show y101.toInt ≤ t0_1.toInt from (by have t1 : lx44.toInt ≤ t0_1.toInt := i71; have t2 : y101.toInt ≤ lx44.toInt := b123; omega)), (show y104.toInt ≤ t0_4.toInt from (by have t1 : lx47.toInt ≤ t0_4.toInt := i72; have t2 : y104.toInt ≤ lx47.toInt := b129; omega)), (show t0_6.toInt ≤ y106.toInt from (by have t1 : t0_6.toInt ≤ lx49.toInt := i73; have t2 : lx49.toInt ≤ y106.toInt := b132; omega)), (show y106.toInt ≤ t0_6.toInt from (by have t1 : lx49.toInt ≤ t0_6.toInt := i74; have t2 : y106.toInt ≤ lx49.toInt := b133; omega)), (show t0_7.toInt ≤ y107.toInt from (by have t1 : t0_7.toInt ≤ lx50.toInt := i75; have t2 : lx50.toInt ≤ y107.toInt := b134; omega)), (show y107.toInt ≤ t0_7.toInt from (by have t1 : lx50.toInt ≤ t0_7.toInt := i76; have t2 : y107.toInt ≤ lx50.toInt := b135; omega)), (show t0_8.toInt ≤ y108.toInt from (by have t1 : t0_8.toInt ≤ lx51.toInt := i77; have t2 : lx51.toInt ≤ y108.toInt := b136; omega)), (show y108.toInt ≤ t0_8.toInt from (by have t1 : lx51.toInt ≤ t0_8.toInt := i78; have t2 : y108.toInt ≤ lx51.toInt := b137; omega)), (show t0_9.toInt ≤ y109.toInt from (by have t1 : t0_9.toInt ≤ lx52.toInt := i79; have t2 : lx52.toInt ≤ y109.toInt := b139; omega)), (show y109.toInt ≤ t0_9.toInt from (by have t1 : lx52.toInt ≤ t0_9.toInt := i80; have t2 : y109.toInt ≤ lx52.toInt := b140; omega)), (show (y100, y101, y102, y103, y104, y105, y106, y107, y108, y109, y110, f111, f113, f115, f117, f119) = (F_DR_read x2 t0_0 t0_1 t0_2 t0_3 t0_4 t0_5 t0_6 t0_7 t0_8 t0_9 t0_10 t1_0 t2_0 t3_0 t4_0 t5_0 t6_0) from Eq.trans (by have c168x := c168; rw [e147] at c168x; rw [e162, e161, e160, e159, e158, e157, e156, e155, e154, e153, e152, e151, e150, e149, e148, e147, F_DR_read_c41.eq_1, if_neg c168x]) hR163)⟩) d_15_21_63
      ·
        have b172 : q_F (y100.toInt = 0) := (q_eqI c168)
        refine lv_iconst (v := 0) hx hb d_15_21_52 (by decide) ?_
        refine lv_goto (tgt := 60) hx hb d_15_21_53 (by decide) ?_
        refine q_put (ci := 14) (j := 2) (v := .int 0) (ty := .int) C0 V i_DR o_DR n_DR rfl rfl hO99 (by decide) w_2001 rfl rfl rfl rfl (Nat.le_of_ble_eq_true rfl) d_15_21_60 (fun H locs w173 hu174 hO99 V => ?_)
        replace hO99 : w173[134]? = (some (q 134, .inr (14, [.int y100, .ref (q 135), .int 0, .ref (q 136), .ref (q 137), .ref (q 138), .ref (q 139), .ref (q 140), .int y102, .long y103, .int y104, .int y105, .ref (q 141), .int y106, .ref (q 142), .int y107, .ref (q 143), .int y108, .ref (q 144), .int y109, .int y110])) : Option (Nat × va_E)) := hO99
        replace hI := n_p134 hI hu174 hO99 ⟨(by have z9 : (0 : Int32).toInt = 0 := rfl; omega), (by have z9 : (0 : Int32).toInt = 0 := rfl; omega)⟩ ⟨(by have t1 : 0 ≤ lx47.toInt := i64; have t2 : lx47.toInt ≤ y104.toInt := b128; omega), (by have t1 : 0 ≤ t0_4.toInt ∧ t0_4.toInt ≤ 1 := btt0_4; have t2 : lx47.toInt ≤ t0_4.toInt := i72; have t3 : y104.toInt ≤ lx47.toInt := b129; omega)⟩ ⟨(by have t1 : 0 ≤ y105.toInt := b121; omega), (by have t1 : lx48.toInt ≤ 1 := i66; have t2 : y105.toInt ≤ lx48.toInt := b131; omega)⟩ ⟨(by have t1 : 0 ≤ t0_9.toInt ∧ t0_9.toInt ≤ 12200 := btt0_9; have t2 : t0_9.toInt ≤ lx52.toInt := i79; have t3 : lx52.toInt ≤ y109.toInt := b139; omega), (by have t1 : 0 ≤ t0_9.toInt ∧ t0_9.toInt ≤ 12200 := btt0_9; have t2 : lx52.toInt ≤ t0_9.toInt := i80; have t3 : y109.toInt ≤ lx52.toInt := b140; omega)⟩
        replace hA56 := (hu174 _ (by decide)).trans hA56
        replace hA112 := (hu174 _ (by decide)).trans hA112
        replace hA114 := (hu174 _ (by decide)).trans hA114
        replace hA116 := (hu174 _ (by decide)).trans hA116
        replace hA118 := (hu174 _ (by decide)).trans hA118
        replace hA120 := (hu174 _ (by decide)).trans hA120
        replace hF := q_us hF hu174 (by simp)
        exact q_retv C0 V (⟨hI, hF, y100, 0, y102, y103, y104, y105, y106, y107, y108, y109, y110, f111, f113, f115, f117, f119, hO99, hA112, hA114, hA116, hA118, hA120, (show 0 ≤ (0 : Int32).toInt from (by have z19 : (0 : Int32).toInt = 0 := rfl; omega)), (show 0 ≤ y104.toInt from (by have z19 : (0 : Int32).toInt = 0 := rfl; have t1 : 0 ≤ lx47.toInt := i64; have t2 : lx47.toInt ≤ y104.toInt := b128; omega)), (show 0 ≤ y105.toInt from (by have z19 : (0 : Int32).toInt = 0 := rfl; have t1 : 0 ≤ y105.toInt := b121; omega)), (show y105.toInt ≤ 1 from (by have z19 : (0 : Int32).toInt = 0 := rfl; have t1 : lx48.toInt ≤ 1 := i66; have t2 : y105.toInt ≤ lx48.toInt := b131; omega)), (show (0 : Int32).toInt ≤ t0_1.toInt from (by have z19 : (0 : Int32).toInt = 0 := rfl; have t1 : 0 ≤ t0_1.toInt ∧ t0_1.toInt ≤ 4100 := btt0_1; omega)), (show y104.toInt ≤ t0_4.toInt from (by have z19 : (0 : Int32).toInt = 0 := rfl; have t1 : lx47.toInt ≤ t0_4.toInt := i72; have t2 : y104.toInt ≤ lx47.toInt := b129; omega)), (show t0_6.toInt ≤ y106.toInt from (by have z19 : (0 : Int32).toInt = 0 := rfl; have t1 : t0_6.toInt ≤ lx49.toInt := i73; have t2 : lx49.toInt ≤ y106.toInt := b132; omega)), (show y106.toInt ≤ t0_6.toInt from (by have z19 : (0 : Int32).toInt = 0 := rfl; have t1 : lx49.toInt ≤ t0_6.toInt := i74; have t2 : y106.toInt ≤ lx49.toInt := b133; omega)), (show t0_7.toInt ≤ y107.toInt from (by have z19 : (0 : Int32).toInt = 0 := rfl; have t1 : t0_7.toInt ≤ lx50.toInt := i75; have t2 : lx50.toInt ≤ y107.toInt := b134; omega)), (show y107.toInt ≤ t0_7.toInt from (by have z19 : (0 : Int32).toInt = 0 := rfl; have t1 : lx50.toInt ≤ t0_7.toInt := i76; have t2 : y107.toInt ≤ lx50.toInt := b135; omega)), (show t0_8.toInt ≤ y108.toInt from (by have z19 : (0 : Int32).toInt = 0 := rfl; have t1 : t0_8.toInt ≤ lx51.toInt := i77; have t2 : lx51.toInt ≤ y108.toInt := b136; omega)), (show y108.toInt ≤ t0_8.toInt from (by have z19 : (0 : Int32).toInt = 0 := rfl; have t1 : lx51.toInt ≤ t0_8.toInt := i78; have t2 : y108.toInt ≤ lx51.toInt := b137; omega)), (show t0_9.toInt ≤ y109.toInt from (by have z19 : (0 : Int32).toInt = 0 := rfl; have t1 : t0_9.toInt ≤ lx52.toInt := i79; have t2 : lx52.toInt ≤ y109.toInt := b139; omega)), (show y109.toInt ≤ t0_9.toInt from (by have z19 : (0 : Int32).toInt = 0 := rfl; have t1 : lx52.toInt ≤ t0_9.toInt := i80; have t2 : y109.toInt ≤ lx52.toInt := b140; omega)), (show (y100, (0 : Int32), y102, y103, y104, y105, y106, y107, y108, y109, y110, f111, f113, f115, f117, f119) = (F_DR_read x2 t0_0 t0_1 t0_2 t0_3 t0_4 t0_5 t0_6 t0_7 t0_8 t0_9 t0_10 t1_0 t2_0 t3_0 t4_0 t5_0 t6_0) from Eq.trans (by have c168x := c168; rw [e147] at c168x; rw [e162, e161, e160, e159, e158, e157, e156, e155, e154, e153, e152, e151, e150, e149, e147, F_DR_read_c41.eq_1, if_pos c168x]) hR163)⟩) d_15_21_63
  ·
    intro J62
    refine lv_if_eq (tgt := 12) hx hb d_15_21_5 (by decide) (fun c175 => ?_) (fun c175 => ?_)
    ·
      have b176 : q_F (a37.toInt = 0) := (q_eqI c175)
      refine lv_aload_n hx hb d_15_21_12 rfl (lv_at hl 0 rfl) ?_
      have ob177 : True ∧ S_DR_says t0_0 t0_1 t0_2 t0_3 t0_4 t0_5 t0_6 t0_7 t0_8 t0_9 t0_10 t1_0 t6_0 := (by have h := hS; rw [S_DR_read.eq_1] at h; have c175x := c175; rw [e41] at c175x; rw [if_pos c175x] at h; with_reducible exact h.2.1)
      refine q_goi V (q_runV (As := []) (rest := [.ref (q 134)]) (d := 2) (mc := 0) (ms := 0) (ci := 14) C0 V rfl LV_DR_116 (X_DR_says l D g q ws   hI t0_0 t0_1 t0_2 t0_3 t0_4 t0_5 t0_6 t0_7 t0_8 t0_9 t0_10 hT0 t1_0 hT1 t6_0 hT6 ob177 _) rfl rfl hT0 rfl hl.1 rfl (Nat.le_of_ble_eq_true rfl) ⟨by decide, by decide⟩ ⟨Nat.le_of_ble_eq_true rfl, Nat.le_of_ble_eq_true rfl⟩ d_15_21_13) (fun a180 u178 H locs hp179 V => ?_)
      obtain ⟨hI, hu218, y182, y183, y184, y185, y186, y187, y188, y189, y190, y191, y192, f193, hO181, hA194, b195, b196, b197, b198, b199, b200, b201, b202, b203, b204, b205, b206, b207, b208, b209, b210, b211, b212, b213, b214, b215, b216, hE217⟩ := hp179
      replace hO181 : u178[134]? = (some (q 134, .inr (14, [.int y182, .ref (q 135), .int y183, .ref (q 136), .ref (q 137), .ref (q 138), .ref (q 139), .ref (q 140), .int y184, .long y185, .int y186, .int y187, .ref (q 141), .int y188, .ref (q 142), .int y189, .ref (q 143), .int y190, .ref (q 144), .int y191, .int y192])) : Option (Nat × va_E)) := hO181
      replace hA194 : u178[140]? = (some (q 140, .inl (g 0, (4400 : Int32).toNatClampNeg, .inl f193)) : Option (Nat × va_E)) := hA194
      obtain ⟨p219, e220⟩ : ∃ z, z = (F_DR_says t0_0 t0_1 t0_2 t0_3 t0_4 t0_5 t0_6 t0_7 t0_8 t0_9 t0_10 t1_0 t6_0) := ⟨_, rfl⟩
      have e221 : a180 = p219.1 := congrArg (fun z => z.1) (hE217.trans e220.symm)
      have e222 : y182 = p219.2.1 := congrArg (fun z => z.2.1) (hE217.trans e220.symm)
      have e223 : y183 = p219.2.2.1 := congrArg (fun z => z.2.2.1) (hE217.trans e220.symm)
      have e224 : y184 = p219.2.2.2.1 := congrArg (fun z => z.2.2.2.1) (hE217.trans e220.symm)
      have e225 : y185 = p219.2.2.2.2.1 := congrArg (fun z => z.2.2.2.2.1) (hE217.trans e220.symm)
      have e226 : y186 = p219.2.2.2.2.2.1 := congrArg (fun z => z.2.2.2.2.2.1) (hE217.trans e220.symm)
      have e227 : y187 = p219.2.2.2.2.2.2.1 := congrArg (fun z => z.2.2.2.2.2.2.1) (hE217.trans e220.symm)
      have e228 : y188 = p219.2.2.2.2.2.2.2.1 := congrArg (fun z => z.2.2.2.2.2.2.2.1) (hE217.trans e220.symm)
      have e229 : y189 = p219.2.2.2.2.2.2.2.2.1 := congrArg (fun z => z.2.2.2.2.2.2.2.2.1) (hE217.trans e220.symm)
      have e230 : y190 = p219.2.2.2.2.2.2.2.2.2.1 := congrArg (fun z => z.2.2.2.2.2.2.2.2.2.1) (hE217.trans e220.symm)
      have e231 : y191 = p219.2.2.2.2.2.2.2.2.2.2.1 := congrArg (fun z => z.2.2.2.2.2.2.2.2.2.2.1) (hE217.trans e220.symm)
      have e232 : y192 = p219.2.2.2.2.2.2.2.2.2.2.2.1 := congrArg (fun z => z.2.2.2.2.2.2.2.2.2.2.2.1) (hE217.trans e220.symm)
      have e233 : f193 = p219.2.2.2.2.2.2.2.2.2.2.2.2 := congrArg (fun z => z.2.2.2.2.2.2.2.2.2.2.2.2) (hE217.trans e220.symm)
      replace b195 : q_F (0 ≤ y186.toInt) := b195
      replace b196 : q_F (y186.toInt ≤ 0) := b196
      replace b197 : q_F (t0_0.toInt ≤ y182.toInt) := b197
      replace b198 : q_F (y182.toInt ≤ t0_0.toInt) := b198
      replace b199 : q_F (t0_1.toInt ≤ y183.toInt) := b199
      replace b200 : q_F (y183.toInt ≤ t0_1.toInt) := b200
      replace b201 : q_F (t0_6.toInt ≤ y188.toInt) := b201
      replace b202 : q_F (y188.toInt ≤ t0_6.toInt) := b202
      replace b203 : q_F (t0_7.toInt ≤ y189.toInt) := b203
      replace b204 : q_F (y189.toInt ≤ t0_7.toInt) := b204
      replace b205 : q_F (t0_8.toInt ≤ y190.toInt) := b205
      replace b206 : q_F (y190.toInt ≤ t0_8.toInt) := b206
      replace b207 : q_F (t0_9.toInt ≤ y191.toInt) := b207
      replace b208 : q_F (y191.toInt ≤ t0_9.toInt) := b208
      replace b209 : q_F (t0_10.toInt ≤ y192.toInt) := b209
      replace b210 : q_F (y192.toInt ≤ t0_10.toInt) := b210
      replace b211 : q_F (a180.toInt ≤ y184.toInt) := b211
      replace b212 : q_F (y186.toInt ≤ a180.toInt) := b212
      replace b213 : q_F (a180.toInt ≤ y186.toInt + 1) := b213
      replace b214 : q_F (y184.toInt ≤ y186.toInt + 12200) := b214
      replace b215 : q_F (y187.toInt ≤ y186.toInt + 1) := b215
      replace b216 : q_F (y186.toInt ≤ y187.toInt) := b216
      replace hT1 := (hu218 _ (by decide)).trans hT1
      replace hT2 := (hu218 _ (by decide)).trans hT2
      replace hT3 := (hu218 _ (by decide)).trans hT3
      replace hT4 := (hu218 _ (by decide)).trans hT4
      replace hT5 := (hu218 _ (by decide)).trans hT5
      replace hF := q_uc hF hu218 (by simp)
      have hR234 := (show F_DR_read_c13 x2 t0_0 t0_1 t0_2 t0_3 t0_4 t0_5 t0_6 t0_7 t0_8 t0_9 t0_10 t1_0 t2_0 t3_0 t4_0 t5_0 t6_0 p219 = (F_DR_read x2 t0_0 t0_1 t0_2 t0_3 t0_4 t0_5 t0_6 t0_7 t0_8 t0_9 t0_10 t1_0 t2_0 t3_0 t4_0 t5_0 t6_0) from (by have c175x := c175; rw [e41] at c175x; rw [e220, F_DR_read.eq_1, if_pos c175x]))
      have hS235 := (show True ∧ S_DR_read_c13 x2 t0_0 t0_1 t0_2 t0_3 t0_4 t0_5 t0_6 t0_7 t0_8 t0_9 t0_10 t1_0 t2_0 t3_0 t4_0 t5_0 t6_0 p219 from (by rw [e220]; have h := hS; rw [S_DR_read.eq_1] at h; have c175x := c175; rw [e41] at c175x; rw [if_pos c175x] at h; replace h := q_s2 h; with_reducible exact h))
      refine lv_if_ne (tgt := 23) hx hb d_15_21_16 (by decide) (fun c239 => ?_) (fun c239 => ?_)
      ·
        have b240 : q_F (a180.toInt ≠ 0) := (q_neI c239)
        refine lv_iconst (v := 0) hx hb d_15_21_23 (by decide) ?_
        exact J62 ((0 : Int32), (y182 : Int32), (y183 : Int32), (y184 : Int32), (y185 : Int64), (y186 : Int32), (y187 : Int32), (y188 : Int32), (y189 : Int32), (y190 : Int32), (y191 : Int32), (y192 : Int32), (f193 : (Nat → Int32))) _ _ _ _ ⟨(show q_F (0 ≤ 2) from (show 0 ≤ 2 from by omega)), (show q_F (0 ≤ y186.toInt) from (show 0 ≤ y186.toInt from by have t1 : 0 ≤ y186.toInt := b195; omega)), (show q_F (0 ≤ y187.toInt) from (show 0 ≤ y187.toInt from by have t1 : 0 ≤ y186.toInt := b195; have t2 : y186.toInt ≤ y187.toInt := b216; omega)), (show q_F (y187.toInt ≤ 1) from (show y187.toInt ≤ 1 from by have t1 : y186.toInt ≤ 0 := b196; have t2 : y187.toInt ≤ y186.toInt + 1 := b215; omega)), (show q_F (a37.toInt ≤ 0) from (show a37.toInt ≤ 0 from by have t1 : a37.toInt = 0 := b176; omega)), (show q_F (t0_0.toInt ≤ y182.toInt) from (show t0_0.toInt ≤ y182.toInt from by have t1 : t0_0.toInt ≤ y182.toInt := b197; omega)), (show q_F (y182.toInt ≤ t0_0.toInt) from (show y182.toInt ≤ t0_0.toInt from by have t1 : y182.toInt ≤ t0_0.toInt := b198; omega)), (show q_F (t0_1.toInt ≤ y183.toInt) from (show t0_1.toInt ≤ y183.toInt from by have t1 : t0_1.toInt ≤ y183.toInt := b199; omega)), (show q_F (y183.toInt ≤ t0_1.toInt) from (show y183.toInt ≤ t0_1.toInt from by have t1 : y183.toInt ≤ t0_1.toInt := b200; omega)), (show q_F (y186.toInt ≤ t0_4.toInt) from (show y186.toInt ≤ t0_4.toInt from by have t1 : 0 ≤ t0_4.toInt ∧ t0_4.toInt ≤ 1 := btt0_4; have t2 : y186.toInt ≤ 0 := b196; omega)), (show q_F (t0_6.toInt ≤ y188.toInt) from (show t0_6.toInt ≤ y188.toInt from by have t1 : t0_6.toInt ≤ y188.toInt := b201; omega)), (show q_F (y188.toInt ≤ t0_6.toInt) from (show y188.toInt ≤ t0_6.toInt from by have t1 : y188.toInt ≤ t0_6.toInt := b202; omega)), (show q_F (t0_7.toInt ≤ y189.toInt) from (show t0_7.toInt ≤ y189.toInt from by have t1 : t0_7.toInt ≤ y189.toInt := b203; omega)), (show q_F (y189.toInt ≤ t0_7.toInt) from (show y189.toInt ≤ t0_7.toInt from by have t1 : y189.toInt ≤ t0_7.toInt := b204; omega)), (show q_F (t0_8.toInt ≤ y190.toInt) from (show t0_8.toInt ≤ y190.toInt from by have t1 : t0_8.toInt ≤ y190.toInt := b205; omega)), (show q_F (y190.toInt ≤ t0_8.toInt) from (show y190.toInt ≤ t0_8.toInt from by have t1 : y190.toInt ≤ t0_8.toInt := b206; omega)), (show q_F (t0_9.toInt ≤ y191.toInt) from (show t0_9.toInt ≤ y191.toInt from by have t1 : t0_9.toInt ≤ y191.toInt := b207; omega)), (show q_F (y191.toInt ≤ t0_9.toInt) from (show y191.toInt ≤ t0_9.toInt from by have t1 : y191.toInt ≤ t0_9.toInt := b208; omega)), (show q_F (t0_10.toInt ≤ y192.toInt) from (show t0_10.toInt ≤ y192.toInt from by have t1 : t0_10.toInt ≤ y192.toInt := b209; omega)), (show q_F (y192.toInt ≤ t0_10.toInt) from (show y192.toInt ≤ t0_10.toInt from by have t1 : y192.toInt ≤ t0_10.toInt := b210; omega)), V, q_lw hl (q_lw1 0 rfl (q_lw1 1 rfl q_lw0)), hI, hF, hO181, hT1, hT2, hT3, hT4, hT5, hA194, (show F_DR_read_J24 x2 t0_0 t0_1 t0_2 t0_3 t0_4 t0_5 t0_6 t0_7 t0_8 t0_9 t0_10 t1_0 t2_0 t3_0 t4_0 t5_0 t6_0 0 y182 y183 y184 y185 y186 y187 y188 y189 y190 y191 y192 f193 = (F_DR_read x2 t0_0 t0_1 t0_2 t0_3 t0_4 t0_5 t0_6 t0_7 t0_8 t0_9 t0_10 t1_0 t2_0 t3_0 t4_0 t5_0 t6_0) from Eq.trans (by have c239x := c239; rw [e221] at c239x; rw [e233, e232, e231, e230, e229, e228, e227, e226, e225, e224, e223, e222, F_DR_read_c13.eq_1, if_neg c239x]) hR234), (show True ∧ S_DR_read_J24 x2 t0_0 t0_1 t0_2 t0_3 t0_4 t0_5 t0_6 t0_7 t0_8 t0_9 t0_10 t1_0 t2_0 t3_0 t4_0 t5_0 t6_0 0 y182 y183 y184 y185 y186 y187 y188 y189 y190 y191 y192 f193 from (by rw [e233, e232, e231, e230, e229, e228, e227, e226, e225, e224, e223, e222]; have h := hS235; rw [S_DR_read_c13.eq_1] at h; have c239x := c239; rw [e221] at c239x; rw [if_neg c239x] at h; with_reducible exact h))⟩
      ·
        have b241 : q_F (a180.toInt = 0) := (q_eqI c239)
        refine lv_iconst (v := 2) hx hb d_15_21_19 (by decide) ?_
        refine lv_goto (tgt := 24) hx hb d_15_21_20 (by decide) ?_
        exact J62 ((2 : Int32), (y182 : Int32), (y183 : Int32), (y184 : Int32), (y185 : Int64), (y186 : Int32), (y187 : Int32), (y188 : Int32), (y189 : Int32), (y190 : Int32), (y191 : Int32), (y192 : Int32), (f193 : (Nat → Int32))) _ _ _ _ ⟨(show q_F (2 ≤ 2) from (show 2 ≤ 2 from by omega)), (show q_F (0 ≤ y186.toInt) from (show 0 ≤ y186.toInt from by have t1 : 0 ≤ y186.toInt := b195; omega)), (show q_F (0 ≤ y187.toInt) from (show 0 ≤ y187.toInt from by have t1 : 0 ≤ y186.toInt := b195; have t2 : y186.toInt ≤ y187.toInt := b216; omega)), (show q_F (y187.toInt ≤ 1) from (show y187.toInt ≤ 1 from by have t1 : y186.toInt ≤ 0 := b196; have t2 : y187.toInt ≤ y186.toInt + 1 := b215; omega)), (show q_F (a37.toInt ≤ 2) from (show a37.toInt ≤ 2 from by have t1 : a37.toInt ≤ 1 := b39; omega)), (show q_F (t0_0.toInt ≤ y182.toInt) from (show t0_0.toInt ≤ y182.toInt from by have t1 : t0_0.toInt ≤ y182.toInt := b197; omega)), (show q_F (y182.toInt ≤ t0_0.toInt) from (show y182.toInt ≤ t0_0.toInt from by have t1 : y182.toInt ≤ t0_0.toInt := b198; omega)), (show q_F (t0_1.toInt ≤ y183.toInt) from (show t0_1.toInt ≤ y183.toInt from by have t1 : t0_1.toInt ≤ y183.toInt := b199; omega)), (show q_F (y183.toInt ≤ t0_1.toInt) from (show y183.toInt ≤ t0_1.toInt from by have t1 : y183.toInt ≤ t0_1.toInt := b200; omega)), (show q_F (y186.toInt ≤ t0_4.toInt) from (show y186.toInt ≤ t0_4.toInt from by have t1 : 0 ≤ t0_4.toInt ∧ t0_4.toInt ≤ 1 := btt0_4; have t2 : y186.toInt ≤ 0 := b196; omega)), (show q_F (t0_6.toInt ≤ y188.toInt) from (show t0_6.toInt ≤ y188.toInt from by have t1 : t0_6.toInt ≤ y188.toInt := b201; omega)), (show q_F (y188.toInt ≤ t0_6.toInt) from (show y188.toInt ≤ t0_6.toInt from by have t1 : y188.toInt ≤ t0_6.toInt := b202; omega)), (show q_F (t0_7.toInt ≤ y189.toInt) from (show t0_7.toInt ≤ y189.toInt from by have t1 : t0_7.toInt ≤ y189.toInt := b203; omega)), (show q_F (y189.toInt ≤ t0_7.toInt) from (show y189.toInt ≤ t0_7.toInt from by have t1 : y189.toInt ≤ t0_7.toInt := b204; omega)), (show q_F (t0_8.toInt ≤ y190.toInt) from (show t0_8.toInt ≤ y190.toInt from by have t1 : t0_8.toInt ≤ y190.toInt := b205; omega)), (show q_F (y190.toInt ≤ t0_8.toInt) from (show y190.toInt ≤ t0_8.toInt from by have t1 : y190.toInt ≤ t0_8.toInt := b206; omega)), (show q_F (t0_9.toInt ≤ y191.toInt) from (show t0_9.toInt ≤ y191.toInt from by have t1 : t0_9.toInt ≤ y191.toInt := b207; omega)), (show q_F (y191.toInt ≤ t0_9.toInt) from (show y191.toInt ≤ t0_9.toInt from by have t1 : y191.toInt ≤ t0_9.toInt := b208; omega)), (show q_F (t0_10.toInt ≤ y192.toInt) from (show t0_10.toInt ≤ y192.toInt from by have t1 : t0_10.toInt ≤ y192.toInt := b209; omega)), (show q_F (y192.toInt ≤ t0_10.toInt) from (show y192.toInt ≤ t0_10.toInt from by have t1 : y192.toInt ≤ t0_10.toInt := b210; omega)), V, q_lw hl (q_lw1 0 rfl (q_lw1 1 rfl q_lw0)), hI, hF, hO181, hT1, hT2, hT3, hT4, hT5, hA194, (show F_DR_read_J24 x2 t0_0 t0_1 t0_2 t0_3 t0_4 t0_5 t0_6 t0_7 t0_8 t0_9 t0_10 t1_0 t2_0 t3_0 t4_0 t5_0 t6_0 2 y182 y183 y184 y185 y186 y187 y188 y189 y190 y191 y192 f193 = (F_DR_read x2 t0_0 t0_1 t0_2 t0_3 t0_4 t0_5 t0_6 t0_7 t0_8 t0_9 t0_10 t1_0 t2_0 t3_0 t4_0 t5_0 t6_0) from Eq.trans (by have c239x := c239; rw [e221] at c239x; rw [e233, e232, e231, e230, e229, e228, e227, e226, e225, e224, e223, e222, F_DR_read_c13.eq_1, if_pos c239x]) hR234), (show True ∧ S_DR_read_J24 x2 t0_0 t0_1 t0_2 t0_3 t0_4 t0_5 t0_6 t0_7 t0_8 t0_9 t0_10 t1_0 t2_0 t3_0 t4_0 t5_0 t6_0 2 y182 y183 y184 y185 y186 y187 y188 y189 y190 y191 y192 f193 from (by rw [e233, e232, e231, e230, e229, e228, e227, e226, e225, e224, e223, e222]; have h := hS235; rw [S_DR_read_c13.eq_1] at h; have c239x := c239; rw [e221] at c239x; rw [if_pos c239x] at h; with_reducible exact h))⟩
    ·
      have b242 : q_F (a37.toInt ≠ 0) := (q_neI c175)
      refine lv_iconst (v := 1) hx hb d_15_21_8 (by decide) ?_
      refine lv_goto (tgt := 24) hx hb d_15_21_9 (by decide) ?_
      exact J62 ((1 : Int32), (t0_0 : Int32), (t0_1 : Int32), (t0_2 : Int32), (t0_3 : Int64), (t0_4 : Int32), (t0_5 : Int32), (t0_6 : Int32), (t0_7 : Int32), (t0_8 : Int32), (t0_9 : Int32), (t0_10 : Int32), (t6_0 : (Nat → Int32))) _ _ _ _ ⟨(show q_F (1 ≤ 2) from (show 1 ≤ 2 from by omega)), (show q_F (0 ≤ t0_4.toInt) from (show 0 ≤ t0_4.toInt from by have t1 : 0 ≤ t0_4.toInt ∧ t0_4.toInt ≤ 1 := btt0_4; omega)), (show q_F (0 ≤ t0_5.toInt) from (show 0 ≤ t0_5.toInt from by have t1 : 0 ≤ t0_5.toInt ∧ t0_5.toInt ≤ 1 := btt0_5; omega)), (show q_F (t0_5.toInt ≤ 1) from (show t0_5.toInt ≤ 1 from by have t1 : 0 ≤ t0_5.toInt ∧ t0_5.toInt ≤ 1 := btt0_5; omega)), (show q_F (a37.toInt ≤ 1) from (show a37.toInt ≤ 1 from by have t1 : a37.toInt ≤ 1 := b39; omega)), (show q_F (t0_0.toInt ≤ t0_0.toInt) from (show t0_0.toInt ≤ t0_0.toInt from by omega)), (show q_F (t0_0.toInt ≤ t0_0.toInt) from (show t0_0.toInt ≤ t0_0.toInt from by omega)), (show q_F (t0_1.toInt ≤ t0_1.toInt) from (show t0_1.toInt ≤ t0_1.toInt from by omega)), (show q_F (t0_1.toInt ≤ t0_1.toInt) from (show t0_1.toInt ≤ t0_1.toInt from by omega)), (show q_F (t0_4.toInt ≤ t0_4.toInt) from (show t0_4.toInt ≤ t0_4.toInt from by omega)), (show q_F (t0_6.toInt ≤ t0_6.toInt) from (show t0_6.toInt ≤ t0_6.toInt from by omega)), (show q_F (t0_6.toInt ≤ t0_6.toInt) from (show t0_6.toInt ≤ t0_6.toInt from by omega)), (show q_F (t0_7.toInt ≤ t0_7.toInt) from (show t0_7.toInt ≤ t0_7.toInt from by omega)), (show q_F (t0_7.toInt ≤ t0_7.toInt) from (show t0_7.toInt ≤ t0_7.toInt from by omega)), (show q_F (t0_8.toInt ≤ t0_8.toInt) from (show t0_8.toInt ≤ t0_8.toInt from by omega)), (show q_F (t0_8.toInt ≤ t0_8.toInt) from (show t0_8.toInt ≤ t0_8.toInt from by omega)), (show q_F (t0_9.toInt ≤ t0_9.toInt) from (show t0_9.toInt ≤ t0_9.toInt from by omega)), (show q_F (t0_9.toInt ≤ t0_9.toInt) from (show t0_9.toInt ≤ t0_9.toInt from by omega)), (show q_F (t0_10.toInt ≤ t0_10.toInt) from (show t0_10.toInt ≤ t0_10.toInt from by omega)), (show q_F (t0_10.toInt ≤ t0_10.toInt) from (show t0_10.toInt ≤ t0_10.toInt from by omega)), V, q_lw hl (q_lw1 0 rfl (q_lw1 1 rfl q_lw0)), hI, hF, hT0, hT1, hT2, hT3, hT4, hT5, hT6, (show F_DR_read_J24 x2 t0_0 t0_1 t0_2 t0_3 t0_4 t0_5 t0_6 t0_7 t0_8 t0_9 t0_10 t1_0 t2_0 t3_0 t4_0 t5_0 t6_0 1 t0_0 t0_1 t0_2 t0_3 t0_4 t0_5 t0_6 t0_7 t0_8 t0_9 t0_10 t6_0 = (F_DR_read x2 t0_0 t0_1 t0_2 t0_3 t0_4 t0_5 t0_6 t0_7 t0_8 t0_9 t0_10 t1_0 t2_0 t3_0 t4_0 t5_0 t6_0) from (by have c175x := c175; rw [e41] at c175x; rw [F_DR_read.eq_1, if_neg c175x])), (show True ∧ S_DR_read_J24 x2 t0_0 t0_1 t0_2 t0_3 t0_4 t0_5 t0_6 t0_7 t0_8 t0_9 t0_10 t1_0 t2_0 t3_0 t4_0 t5_0 t6_0 1 t0_0 t0_1 t0_2 t0_3 t0_4 t0_5 t0_6 t0_7 t0_8 t0_9 t0_10 t6_0 from (by have h := hS; rw [S_DR_read.eq_1] at h; have c175x := c175; rw [e41] at c175x; rw [if_neg c175x] at h; with_reducible exact h))⟩
theorem d_15_22_0 : decode prog_15_method_22_code 0 = .ok (.aload_n 0, 1) := by decide +kernel
theorem d_15_22_1 : decode prog_15_method_22_code 1 = .ok (.iload_n 1, 1) := by decide +kernel
theorem d_15_22_2 : decode prog_15_method_22_code 2 = .ok (.invokestatic 113, 3) := by decide +kernel
theorem d_15_22_13 : decode prog_15_method_22_code 13 = .ok (.putfield 41, 3) := by decide +kernel
theorem d_15_22_16 : decode prog_15_method_22_code 16 = .ok (.aload_n 0, 1) := by decide +kernel
theorem d_15_22_17 : decode prog_15_method_22_code 17 = .ok (.getfield 41, 3) := by decide +kernel
theorem d_15_22_20 : decode prog_15_method_22_code 20 = .ok (.ifCond .le 4, 3) := by decide +kernel
theorem d_15_22_24 : decode prog_15_method_22_code 24 = .ok (.aload_n 0, 1) := by decide +kernel
theorem d_15_22_25 : decode prog_15_method_22_code 25 = .ok (.iconst 2, 1) := by decide +kernel
theorem d_15_22_26 : decode prog_15_method_22_code 26 = .ok (.putfield 66, 3) := by decide +kernel
theorem d_15_22_29 : decode prog_15_method_22_code 29 = .ok (.aload_n 0, 1) := by decide +kernel
theorem d_15_22_30 : decode prog_15_method_22_code 30 = .ok (.lload_n 2, 1) := by decide +kernel
theorem d_15_22_31 : decode prog_15_method_22_code 31 = .ok (.lconst 0, 1) := by decide +kernel
theorem d_15_22_32 : decode prog_15_method_22_code 32 = .ok (.lcmp, 1) := by decide +kernel
theorem d_15_22_41 : decode prog_15_method_22_code 41 = .ok (.putfield 56, 3) := by decide +kernel
theorem d_15_22_44 : decode prog_15_method_22_code 44 = .ok (.aload_n 0, 1) := by decide +kernel
theorem d_15_22_45 : decode prog_15_method_22_code 45 = .ok (.iconst 0, 1) := by decide +kernel
theorem d_15_22_46 : decode prog_15_method_22_code 46 = .ok (.putfield 52, 3) := by decide +kernel
theorem d_15_22_49 : decode prog_15_method_22_code 49 = .ok (.aload_n 0, 1) := by decide +kernel
theorem d_15_22_50 : decode prog_15_method_22_code 50 = .ok (.iload 4, 2) := by decide +kernel
theorem d_15_22_52 : decode prog_15_method_22_code 52 = .ok (.i2l, 1) := by decide +kernel
theorem d_15_22_53 : decode prog_15_method_22_code 53 = .ok (.putfield 48, 3) := by decide +kernel
theorem d_15_22_56 : decode prog_15_method_22_code 56 = .ok (.aload_n 0, 1) := by decide +kernel
theorem d_15_22_57 : decode prog_15_method_22_code 57 = .ok (.bipush 19, 2) := by decide +kernel
theorem d_15_22_59 : decode prog_15_method_22_code 59 = .ok (.putfield 45, 3) := by decide +kernel
theorem d_15_22_62 : decode prog_15_method_22_code 62 = .ok (.lload_n 2, 1) := by decide +kernel
theorem d_15_22_63 : decode prog_15_method_22_code 63 = .ok (.lstore 5, 2) := by decide +kernel
theorem d_15_22_65 : decode prog_15_method_22_code 65 = .ok (.bipush 18, 2) := by decide +kernel
theorem d_15_22_67 : decode prog_15_method_22_code 67 = .ok (.istore 7, 2) := by decide +kernel
theorem d_15_22_69 : decode prog_15_method_22_code 69 = .ok (.iload 7, 2) := by decide +kernel
theorem d_15_22_71 : decode prog_15_method_22_code 71 = .ok (.ifCond .lt 48, 3) := by decide +kernel
theorem d_15_22_119 : decode prog_15_method_22_code 119 = .ok (.aload_n 0, 1) := by decide +kernel
theorem d_15_22_120 : decode prog_15_method_22_code 120 = .ok (.iload_n 1, 1) := by decide +kernel
theorem d_15_22_121 : decode prog_15_method_22_code 121 = .ok (.invokevirtual 89, 3) := by decide +kernel
theorem d_15_22_124 : decode prog_15_method_22_code 124 = .ok (.return_, 1) := by decide +kernel
theorem d_15_22_74 : decode prog_15_method_22_code 74 = .ok (.lload 5, 2) := by decide +kernel
theorem d_15_22_76 : decode prog_15_method_22_code 76 = .ok (.ldc2_w 109, 3) := by decide +kernel
theorem d_15_22_79 : decode prog_15_method_22_code 79 = .ok (.lrem, 1) := by decide +kernel
theorem d_15_22_80 : decode prog_15_method_22_code 80 = .ok (.lstore 8, 2) := by decide +kernel
theorem d_15_22_82 : decode prog_15_method_22_code 82 = .ok (.aload_n 0, 1) := by decide +kernel
theorem d_15_22_83 : decode prog_15_method_22_code 83 = .ok (.getfield 26, 3) := by decide +kernel
theorem d_15_22_86 : decode prog_15_method_22_code 86 = .ok (.iload 7, 2) := by decide +kernel
theorem d_15_22_88 : decode prog_15_method_22_code 88 = .ok (.lload 8, 2) := by decide +kernel
theorem d_15_22_90 : decode prog_15_method_22_code 90 = .ok (.lconst 0, 1) := by decide +kernel
theorem d_15_22_91 : decode prog_15_method_22_code 91 = .ok (.lcmp, 1) := by decide +kernel
theorem d_15_22_92 : decode prog_15_method_22_code 92 = .ok (.ifCond .ge 9, 3) := by decide +kernel
theorem d_15_22_101 : decode prog_15_method_22_code 101 = .ok (.lload 8, 2) := by decide +kernel
theorem d_15_22_103 : decode prog_15_method_22_code 103 = .ok (.l2i, 1) := by decide +kernel
theorem d_15_22_104 : decode prog_15_method_22_code 104 = .ok (.iastore, 1) := by decide +kernel
theorem d_15_22_105 : decode prog_15_method_22_code 105 = .ok (.lload 5, 2) := by decide +kernel
theorem d_15_22_107 : decode prog_15_method_22_code 107 = .ok (.ldc2_w 109, 3) := by decide +kernel
theorem d_15_22_110 : decode prog_15_method_22_code 110 = .ok (.ldiv, 1) := by decide +kernel
theorem d_15_22_111 : decode prog_15_method_22_code 111 = .ok (.lstore 5, 2) := by decide +kernel
theorem d_15_22_113 : decode prog_15_method_22_code 113 = .ok (.iinc 7 (-1), 3) := by decide +kernel
theorem d_15_22_116 : decode prog_15_method_22_code 116 = .ok (.goto (-47), 3) := by decide +kernel
theorem d_15_22_95 : decode prog_15_method_22_code 95 = .ok (.lload 8, 2) := by decide +kernel
theorem d_15_22_97 : decode prog_15_method_22_code 97 = .ok (.lneg, 1) := by decide +kernel
theorem d_15_22_98 : decode prog_15_method_22_code 98 = .ok (.goto 5, 3) := by decide +kernel
theorem d_15_22_33 : decode prog_15_method_22_code 33 = .ok (.ifCond .ge 7, 3) := by decide +kernel
theorem d_15_22_40 : decode prog_15_method_22_code 40 = .ok (.iconst 0, 1) := by decide +kernel
theorem d_15_22_36 : decode prog_15_method_22_code 36 = .ok (.iconst 1, 1) := by decide +kernel
theorem d_15_22_37 : decode prog_15_method_22_code 37 = .ok (.goto 4, 3) := by decide +kernel
theorem d_15_22_23 : decode prog_15_method_22_code 23 = .ok (.return_, 1) := by decide +kernel
theorem d_15_22_5 : decode prog_15_method_22_code 5 = .ok (.ifCond .eq 7, 3) := by decide +kernel
theorem d_15_22_12 : decode prog_15_method_22_code 12 = .ok (.iconst 0, 1) := by decide +kernel
theorem d_15_22_8 : decode prog_15_method_22_code 8 = .ok (.iconst 1, 1) := by decide +kernel
theorem d_15_22_9 : decode prog_15_method_22_code 9 = .ok (.goto 4, 3) := by decide +kernel
def y_DR_put : MethodName := ⟨"NumberHouseModel$DecimalRows", "put", "(IJI)V"⟩
def F_DR_put_c121 (K_F_DR_put_L69 : Int32 → Int64 → (Nat → Int32) → (Int32 × Int32 × Int32 × Int64 × Int32 × Int32 × Int32 × Int32 × Int32 × Int32 × Int32 × (Nat → Int32) × (Nat → Int32) × (Nat → Int32) × (Nat → Int32) × (Nat → Int32))) (x2 : Int32) (x3 : Int64) (x4 : Int32) (t0_0 : Int32) (t0_1 : Int32) (t0_2 : Int32) (t0_3 : Int64) (t0_4 : Int32) (t0_5 : Int32) (t0_6 : Int32) (t0_7 : Int32) (t0_8 : Int32) (t0_9 : Int32) (t0_10 : Int32) (t1_0 : (Nat → Int32)) (t2_0 : (Nat → Int32)) (t3_0 : (Nat → Int32)) (t4_0 : (Nat → Int32)) (t5_0 : (Nat → Int32)) (lx39 : Int32) (lx63 : Int32) (j82 : Int64) (lx91 : Int32) (lx92 : Int64) (lx93 : (Nat → Int32)) (p160 : (Int32 × Int32 × Int32 × Int64 × Int32 × Int32 × Int32 × Int32 × Int32 × Int32 × Int32 × (Nat → Int32) × (Nat → Int32) × (Nat → Int32) × (Nat → Int32) × (Nat → Int32))) : Int32 × Int32 × Int32 × Int64 × Int32 × Int32 × Int32 × Int32 × Int32 × Int32 × Int32 × (Nat → Int32) × (Nat → Int32) × (Nat → Int32) × (Nat → Int32) × (Nat → Int32) := ((p160.1 : Int32), (p160.2.1 : Int32), (p160.2.2.1 : Int32), (p160.2.2.2.1 : Int64), (p160.2.2.2.2.1 : Int32), (p160.2.2.2.2.2.1 : Int32), (p160.2.2.2.2.2.2.1 : Int32), (p160.2.2.2.2.2.2.2.1 : Int32), (p160.2.2.2.2.2.2.2.2.1 : Int32), (p160.2.2.2.2.2.2.2.2.2.1 : Int32), (p160.2.2.2.2.2.2.2.2.2.2.1 : Int32), (p160.2.2.2.2.2.2.2.2.2.2.2.1 : (Nat → Int32)), (p160.2.2.2.2.2.2.2.2.2.2.2.2.1 : (Nat → Int32)), (p160.2.2.2.2.2.2.2.2.2.2.2.2.2.1 : (Nat → Int32)), (p160.2.2.2.2.2.2.2.2.2.2.2.2.2.2.1 : (Nat → Int32)), (p160.2.2.2.2.2.2.2.2.2.2.2.2.2.2.2 : (Nat → Int32)))
def F_DR_put_L69 (x2 : Int32) (x3 : Int64) (x4 : Int32) (t0_0 : Int32) (t0_1 : Int32) (t0_2 : Int32) (t0_3 : Int64) (t0_4 : Int32) (t0_5 : Int32) (t0_6 : Int32) (t0_7 : Int32) (t0_8 : Int32) (t0_9 : Int32) (t0_10 : Int32) (t1_0 : (Nat → Int32)) (t2_0 : (Nat → Int32)) (t3_0 : (Nat → Int32)) (t4_0 : (Nat → Int32)) (t5_0 : (Nat → Int32)) (lx39 : Int32) (lx63 : Int32) (j82 : Int64) : Nat → Int32 → Int64 → (Nat → Int32) → (Int32 × Int32 × Int32 × Int64 × Int32 × Int32 × Int32 × Int32 × Int32 × Int32 × Int32 × (Nat → Int32) × (Nat → Int32) × (Nat → Int32) × (Nat → Int32) × (Nat → Int32))
  | 0, _, _, _ => default
  | fm + 1, lx91, lx92, lx93 => if lx91 < (0 : Int32) then (F_DR_put_c121 (F_DR_put_L69 x2 x3 x4 t0_0 t0_1 t0_2 t0_3 t0_4 t0_5 t0_6 t0_7 t0_8 t0_9 t0_10 t1_0 t2_0 t3_0 t4_0 t5_0 lx39 lx63 j82 fm) x2 x3 x4 t0_0 t0_1 t0_2 t0_3 t0_4 t0_5 t0_6 t0_7 t0_8 t0_9 t0_10 t1_0 t2_0 t3_0 t4_0 t5_0 lx39 lx63 j82 lx91 lx92 lx93 ((F_DR_store x2 lx39 t0_1 (19 : Int32) j82 (0 : Int32) lx63 t0_6 t0_7 t0_8 t0_9 (2 : Int32) t1_0 t2_0 t3_0 t4_0 lx93) : (Int32 × Int32 × Int32 × Int64 × Int32 × Int32 × Int32 × Int32 × Int32 × Int32 × Int32 × (Nat → Int32) × (Nat → Int32) × (Nat → Int32) × (Nat → Int32) × (Nat → Int32)))) else (if (0 : Int32) ≤ (lg_cmp (lx92 - lx92 / 10 * 10 : Int64) 0 : Int32) then (F_DR_put_L69 x2 x3 x4 t0_0 t0_1 t0_2 t0_3 t0_4 t0_5 t0_6 t0_7 t0_8 t0_9 t0_10 t1_0 t2_0 t3_0 t4_0 t5_0 lx39 lx63 j82 fm (lx91 + (-1) : Int32) (lx92 / 10 : Int64) (upd lx93 lx91.toNatClampNeg ((lx92 - lx92 / 10 * 10 : Int64).toInt32 : Int32) : (Nat → Int32))) else (F_DR_put_L69 x2 x3 x4 t0_0 t0_1 t0_2 t0_3 t0_4 t0_5 t0_6 t0_7 t0_8 t0_9 t0_10 t1_0 t2_0 t3_0 t4_0 t5_0 lx39 lx63 j82 fm (lx91 + (-1) : Int32) (lx92 / 10 : Int64) (upd lx93 lx91.toNatClampNeg ((-(lx92 - lx92 / 10 * 10 : Int64) : Int64).toInt32 : Int32) : (Nat → Int32))))
def F_DR_put_J41 (x2 : Int32) (x3 : Int64) (x4 : Int32) (t0_0 : Int32) (t0_1 : Int32) (t0_2 : Int32) (t0_3 : Int64) (t0_4 : Int32) (t0_5 : Int32) (t0_6 : Int32) (t0_7 : Int32) (t0_8 : Int32) (t0_9 : Int32) (t0_10 : Int32) (t1_0 : (Nat → Int32)) (t2_0 : (Nat → Int32)) (t3_0 : (Nat → Int32)) (t4_0 : (Nat → Int32)) (t5_0 : (Nat → Int32)) (lx39 : Int32) (lx63 : Int32) : Int32 × Int32 × Int32 × Int64 × Int32 × Int32 × Int32 × Int32 × Int32 × Int32 × Int32 × (Nat → Int32) × (Nat → Int32) × (Nat → Int32) × (Nat → Int32) × (Nat → Int32) := F_DR_put_L69 x2 x3 x4 t0_0 t0_1 t0_2 t0_3 t0_4 t0_5 t0_6 t0_7 t0_8 t0_9 t0_10 t1_0 t2_0 t3_0 t4_0 t5_0 lx39 lx63 (x4.toInt64 : Int64) (((18 : Int32).toInt - ((-1))).toNat + 1) 18 x3 t5_0
def F_DR_put_J13 (x2 : Int32) (x3 : Int64) (x4 : Int32) (t0_0 : Int32) (t0_1 : Int32) (t0_2 : Int32) (t0_3 : Int64) (t0_4 : Int32) (t0_5 : Int32) (t0_6 : Int32) (t0_7 : Int32) (t0_8 : Int32) (t0_9 : Int32) (t0_10 : Int32) (t1_0 : (Nat → Int32)) (t2_0 : (Nat → Int32)) (t3_0 : (Nat → Int32)) (t4_0 : (Nat → Int32)) (t5_0 : (Nat → Int32)) (lx39 : Int32) : Int32 × Int32 × Int32 × Int64 × Int32 × Int32 × Int32 × Int32 × Int32 × Int32 × Int32 × (Nat → Int32) × (Nat → Int32) × (Nat → Int32) × (Nat → Int32) × (Nat → Int32) := if lx39 ≤ (0 : Int32) then (if (0 : Int32) ≤ (lg_cmp x3 0 : Int32) then (F_DR_put_J41 x2 x3 x4 t0_0 t0_1 t0_2 t0_3 t0_4 t0_5 t0_6 t0_7 t0_8 t0_9 t0_10 t1_0 t2_0 t3_0 t4_0 t5_0 lx39 0) else (F_DR_put_J41 x2 x3 x4 t0_0 t0_1 t0_2 t0_3 t0_4 t0_5 t0_6 t0_7 t0_8 t0_9 t0_10 t1_0 t2_0 t3_0 t4_0 t5_0 lx39 1)) else ((lx39, t0_1, t0_2, t0_3, t0_4, t0_5, t0_6, t0_7, t0_8, t0_9, t0_10, t1_0, t2_0, t3_0, t4_0, t5_0))
def F_DR_put (x2 : Int32) (x3 : Int64) (x4 : Int32) (t0_0 : Int32) (t0_1 : Int32) (t0_2 : Int32) (t0_3 : Int64) (t0_4 : Int32) (t0_5 : Int32) (t0_6 : Int32) (t0_7 : Int32) (t0_8 : Int32) (t0_9 : Int32) (t0_10 : Int32) (t1_0 : (Nat → Int32)) (t2_0 : (Nat → Int32)) (t3_0 : (Nat → Int32)) (t4_0 : (Nat → Int32)) (t5_0 : (Nat → Int32)) : Int32 × Int32 × Int32 × Int64 × Int32 × Int32 × Int32 × Int32 × Int32 × Int32 × Int32 × (Nat → Int32) × (Nat → Int32) × (Nat → Int32) × (Nat → Int32) × (Nat → Int32) := if ((F_DR_no x2) : Int32) = (0 : Int32) then (F_DR_put_J13 x2 x3 x4 t0_0 t0_1 t0_2 t0_3 t0_4 t0_5 t0_6 t0_7 t0_8 t0_9 t0_10 t1_0 t2_0 t3_0 t4_0 t5_0 0) else (F_DR_put_J13 x2 x3 x4 t0_0 t0_1 t0_2 t0_3 t0_4 t0_5 t0_6 t0_7 t0_8 t0_9 t0_10 t1_0 t2_0 t3_0 t4_0 t5_0 1)
def S_DR_put_c121 (K_S_DR_put_L69 : Int32 → Int64 → (Nat → Int32) → Prop) (x2 : Int32) (x3 : Int64) (x4 : Int32) (t0_0 : Int32) (t0_1 : Int32) (t0_2 : Int32) (t0_3 : Int64) (t0_4 : Int32) (t0_5 : Int32) (t0_6 : Int32) (t0_7 : Int32) (t0_8 : Int32) (t0_9 : Int32) (t0_10 : Int32) (t1_0 : (Nat → Int32)) (t2_0 : (Nat → Int32)) (t3_0 : (Nat → Int32)) (t4_0 : (Nat → Int32)) (t5_0 : (Nat → Int32)) (lx39 : Int32) (lx63 : Int32) (j82 : Int64) (lx91 : Int32) (lx92 : Int64) (lx93 : (Nat → Int32)) (p160 : (Int32 × Int32 × Int32 × Int64 × Int32 × Int32 × Int32 × Int32 × Int32 × Int32 × Int32 × (Nat → Int32) × (Nat → Int32) × (Nat → Int32) × (Nat → Int32) × (Nat → Int32))) : Prop := True
def S_DR_put_L69 (x2 : Int32) (x3 : Int64) (x4 : Int32) (t0_0 : Int32) (t0_1 : Int32) (t0_2 : Int32) (t0_3 : Int64) (t0_4 : Int32) (t0_5 : Int32) (t0_6 : Int32) (t0_7 : Int32) (t0_8 : Int32) (t0_9 : Int32) (t0_10 : Int32) (t1_0 : (Nat → Int32)) (t2_0 : (Nat → Int32)) (t3_0 : (Nat → Int32)) (t4_0 : (Nat → Int32)) (t5_0 : (Nat → Int32)) (lx39 : Int32) (lx63 : Int32) (j82 : Int64) : Nat → Int32 → Int64 → (Nat → Int32) → Prop
  | 0, _, _, _ => False
  | fm + 1, lx91, lx92, lx93 => if lx91 < (0 : Int32) then ((True ∧ S_DR_store x2 lx39 t0_1 (19 : Int32) j82 (0 : Int32) lx63 t0_6 t0_7 t0_8 t0_9 (2 : Int32) t1_0 t2_0 t3_0 t4_0 lx93) ∧ (S_DR_put_c121 (S_DR_put_L69 x2 x3 x4 t0_0 t0_1 t0_2 t0_3 t0_4 t0_5 t0_6 t0_7 t0_8 t0_9 t0_10 t1_0 t2_0 t3_0 t4_0 t5_0 lx39 lx63 j82 fm) x2 x3 x4 t0_0 t0_1 t0_2 t0_3 t0_4 t0_5 t0_6 t0_7 t0_8 t0_9 t0_10 t1_0 t2_0 t3_0 t4_0 t5_0 lx39 lx63 j82 lx91 lx92 lx93 ((F_DR_store x2 lx39 t0_1 (19 : Int32) j82 (0 : Int32) lx63 t0_6 t0_7 t0_8 t0_9 (2 : Int32) t1_0 t2_0 t3_0 t4_0 lx93) : (Int32 × Int32 × Int32 × Int64 × Int32 × Int32 × Int32 × Int32 × Int32 × Int32 × Int32 × (Nat → Int32) × (Nat → Int32) × (Nat → Int32) × (Nat → Int32) × (Nat → Int32))))) else (if (0 : Int32) ≤ (lg_cmp (lx92 - lx92 / 10 * 10 : Int64) 0 : Int32) then (S_DR_put_L69 x2 x3 x4 t0_0 t0_1 t0_2 t0_3 t0_4 t0_5 t0_6 t0_7 t0_8 t0_9 t0_10 t1_0 t2_0 t3_0 t4_0 t5_0 lx39 lx63 j82 fm (lx91 + (-1) : Int32) (lx92 / 10 : Int64) (upd lx93 lx91.toNatClampNeg ((lx92 - lx92 / 10 * 10 : Int64).toInt32 : Int32) : (Nat → Int32))) else (S_DR_put_L69 x2 x3 x4 t0_0 t0_1 t0_2 t0_3 t0_4 t0_5 t0_6 t0_7 t0_8 t0_9 t0_10 t1_0 t2_0 t3_0 t4_0 t5_0 lx39 lx63 j82 fm (lx91 + (-1) : Int32) (lx92 / 10 : Int64) (upd lx93 lx91.toNatClampNeg ((-(lx92 - lx92 / 10 * 10 : Int64) : Int64).toInt32 : Int32) : (Nat → Int32))))
def S_DR_put_J41 (x2 : Int32) (x3 : Int64) (x4 : Int32) (t0_0 : Int32) (t0_1 : Int32) (t0_2 : Int32) (t0_3 : Int64) (t0_4 : Int32) (t0_5 : Int32) (t0_6 : Int32) (t0_7 : Int32) (t0_8 : Int32) (t0_9 : Int32) (t0_10 : Int32) (t1_0 : (Nat → Int32)) (t2_0 : (Nat → Int32)) (t3_0 : (Nat → Int32)) (t4_0 : (Nat → Int32)) (t5_0 : (Nat → Int32)) (lx39 : Int32) (lx63 : Int32) : Prop := S_DR_put_L69 x2 x3 x4 t0_0 t0_1 t0_2 t0_3 t0_4 t0_5 t0_6 t0_7 t0_8 t0_9 t0_10 t1_0 t2_0 t3_0 t4_0 t5_0 lx39 lx63 (x4.toInt64 : Int64) (((18 : Int32).toInt - ((-1))).toNat + 1) 18 x3 t5_0
def S_DR_put_J13 (x2 : Int32) (x3 : Int64) (x4 : Int32) (t0_0 : Int32) (t0_1 : Int32) (t0_2 : Int32) (t0_3 : Int64) (t0_4 : Int32) (t0_5 : Int32) (t0_6 : Int32) (t0_7 : Int32) (t0_8 : Int32) (t0_9 : Int32) (t0_10 : Int32) (t1_0 : (Nat → Int32)) (t2_0 : (Nat → Int32)) (t3_0 : (Nat → Int32)) (t4_0 : (Nat → Int32)) (t5_0 : (Nat → Int32)) (lx39 : Int32) : Prop := if lx39 ≤ (0 : Int32) then (if (0 : Int32) ≤ (lg_cmp x3 0 : Int32) then (S_DR_put_J41 x2 x3 x4 t0_0 t0_1 t0_2 t0_3 t0_4 t0_5 t0_6 t0_7 t0_8 t0_9 t0_10 t1_0 t2_0 t3_0 t4_0 t5_0 lx39 0) else (S_DR_put_J41 x2 x3 x4 t0_0 t0_1 t0_2 t0_3 t0_4 t0_5 t0_6 t0_7 t0_8 t0_9 t0_10 t1_0 t2_0 t3_0 t4_0 t5_0 lx39 1)) else (True)
def S_DR_put (x2 : Int32) (x3 : Int64) (x4 : Int32) (t0_0 : Int32) (t0_1 : Int32) (t0_2 : Int32) (t0_3 : Int64) (t0_4 : Int32) (t0_5 : Int32) (t0_6 : Int32) (t0_7 : Int32) (t0_8 : Int32) (t0_9 : Int32) (t0_10 : Int32) (t1_0 : (Nat → Int32)) (t2_0 : (Nat → Int32)) (t3_0 : (Nat → Int32)) (t4_0 : (Nat → Int32)) (t5_0 : (Nat → Int32)) : Prop := if ((F_DR_no x2) : Int32) = (0 : Int32) then (S_DR_put_J13 x2 x3 x4 t0_0 t0_1 t0_2 t0_3 t0_4 t0_5 t0_6 t0_7 t0_8 t0_9 t0_10 t1_0 t2_0 t3_0 t4_0 t5_0 0) else (S_DR_put_J13 x2 x3 x4 t0_0 t0_1 t0_2 t0_3 t0_4 t0_5 t0_6 t0_7 t0_8 t0_9 t0_10 t1_0 t2_0 t3_0 t4_0 t5_0 1)
set_option maxRecDepth 100000 in
set_option maxHeartbeats 4000000 in
theorem X_DR_put (l : Launch) (D : va_G) (g : Nat → ClassId) (q : Nat → Nat) (ws : va_W) (x2 : Int32) (x3 : Int64) (x4 : Int32) (hI : q_I (msh g q) q ws) (t0_0 : Int32) (t0_1 : Int32) (t0_2 : Int32) (t0_3 : Int64) (t0_4 : Int32) (t0_5 : Int32) (t0_6 : Int32) (t0_7 : Int32) (t0_8 : Int32) (t0_9 : Int32) (t0_10 : Int32) (hT0 : ws[134]? = (some (q 134, .inr (14, [.int t0_0, .ref (q 135), .int t0_1, .ref (q 136), .ref (q 137), .ref (q 138), .ref (q 139), .ref (q 140), .int t0_2, .long t0_3, .int t0_4, .int t0_5, .ref (q 141), .int t0_6, .ref (q 142), .int t0_7, .ref (q 143), .int t0_8, .ref (q 144), .int t0_9, .int t0_10])) : Option (Nat × va_E))) (t1_0 : (Nat → Int32)) (hT1 : ws[136]? = (some (q 136, .inl (g 0, (10000 : Int32).toNatClampNeg, .inl t1_0)) : Option (Nat × va_E))) (t2_0 : (Nat → Int32)) (hT2 : ws[137]? = (some (q 137, .inl (g 0, (10 : Int32).toNatClampNeg, .inl t2_0)) : Option (Nat × va_E))) (t3_0 : (Nat → Int32)) (hT3 : ws[138]? = (some (q 138, .inl (g 3, 10, .inl t3_0)) : Option (Nat × va_E))) (t4_0 : (Nat → Int32)) (hT4 : ws[139]? = (some (q 139, .inl (g 0, (10 : Int32).toNatClampNeg, .inl t4_0)) : Option (Nat × va_E))) (t5_0 : (Nat → Int32)) (hT5 : ws[140]? = (some (q 140, .inl (g 0, (4400 : Int32).toNatClampNeg, .inl t5_0)) : Option (Nat × va_E))) (hS : True ∧ S_DR_put x2 x3 x4 t0_0 t0_1 t0_2 t0_3 t0_4 t0_5 t0_6 t0_7 t0_8 t0_9 t0_10 t1_0 t2_0 t3_0 t4_0 t5_0) : q_mV l y_DR_put prog_15_method_22_code 10 3 0 0 D g [.ref (q 134), .int x2, .long x3, .int x4] ws (fun u => q_I (msh g q) q u ∧ q_un ws u [134, 136, 137, 138, 139, 140] ∧ ∃ (u0_0 : Int32) (u0_1 : Int32) (u0_2 : Int32) (u0_3 : Int64) (u0_4 : Int32) (u0_5 : Int32) (u0_6 : Int32) (u0_7 : Int32) (u0_8 : Int32) (u0_9 : Int32) (u0_10 : Int32) (u1_0 : (Nat → Int32)) (u2_0 : (Nat → Int32)) (u3_0 : (Nat → Int32)) (u4_0 : (Nat → Int32)) (u5_0 : (Nat → Int32)), u[134]? = (some (q 134, .inr (14, [.int u0_0, .ref (q 135), .int u0_1, .ref (q 136), .ref (q 137), .ref (q 138), .ref (q 139), .ref (q 140), .int u0_2, .long u0_3, .int u0_4, .int u0_5, .ref (q 141), .int u0_6, .ref (q 142), .int u0_7, .ref (q 143), .int u0_8, .ref (q 144), .int u0_9, .int u0_10])) : Option (Nat × va_E)) ∧ u[136]? = (some (q 136, .inl (g 0, (10000 : Int32).toNatClampNeg, .inl u1_0)) : Option (Nat × va_E)) ∧ u[137]? = (some (q 137, .inl (g 0, (10 : Int32).toNatClampNeg, .inl u2_0)) : Option (Nat × va_E)) ∧ u[138]? = (some (q 138, .inl (g 3, 10, .inl u3_0)) : Option (Nat × va_E)) ∧ u[139]? = (some (q 139, .inl (g 0, (10 : Int32).toNatClampNeg, .inl u4_0)) : Option (Nat × va_E)) ∧ u[140]? = (some (q 140, .inl (g 0, (4400 : Int32).toNatClampNeg, .inl u5_0)) : Option (Nat × va_E)) ∧ (0 ≤ u0_4.toInt) ∧ (0 ≤ u0_5.toInt) ∧ (u0_5.toInt ≤ 1) ∧ (t0_1.toInt ≤ u0_1.toInt) ∧ (u0_1.toInt ≤ t0_1.toInt) ∧ (u0_4.toInt ≤ t0_4.toInt) ∧ (t0_6.toInt ≤ u0_6.toInt) ∧ (u0_6.toInt ≤ t0_6.toInt) ∧ (t0_7.toInt ≤ u0_7.toInt) ∧ (u0_7.toInt ≤ t0_7.toInt) ∧ (t0_8.toInt ≤ u0_8.toInt) ∧ (u0_8.toInt ≤ t0_8.toInt) ∧ (t0_9.toInt ≤ u0_9.toInt) ∧ (u0_9.toInt ≤ t0_9.toInt) ∧ (u0_0, u0_1, u0_2, u0_3, u0_4, u0_5, u0_6, u0_7, u0_8, u0_9, u0_10, u1_0, u2_0, u3_0, u4_0, u5_0) = (F_DR_put x2 x3 x4 t0_0 t0_1 t0_2 t0_3 t0_4 t0_5 t0_6 t0_7 t0_8 t0_9 t0_10 t1_0 t2_0 t3_0 t4_0 t5_0)) := by
  intro sz
  refine q_into (by decide) (Nat.le_of_ble_eq_true rfl) ?_
  intro p e s m below meth c ls hsz C0 V hl
  have hx := C0.1
  have hb := C0.2.1
  obtain ⟨yy0_0, yy0_1, yy0_2, yy0_3, yy0_4, yy0_5, yy0_6, yy0_7, yy0_8, yy0_9, yy0_10, hh0, btt0_1, btt0_4, btt0_5, btt0_9⟩ := n_o134 hI
  obtain ⟨rfl, rfl, rfl, rfl, rfl, rfl, rfl, rfl, rfl, rfl, rfl⟩ : t0_0 = yy0_0 ∧ t0_1 = yy0_1 ∧ t0_2 = yy0_2 ∧ t0_3 = yy0_3 ∧ t0_4 = yy0_4 ∧ t0_5 = yy0_5 ∧ t0_6 = yy0_6 ∧ t0_7 = yy0_7 ∧ t0_8 = yy0_8 ∧ t0_9 = yy0_9 ∧ t0_10 = yy0_10 := by have z := Option.some.inj (hT0.symm.trans hh0); simpa using z
  replace btt0_1 : q_F (0 ≤ t0_1.toInt ∧ t0_1.toInt ≤ 4100) := btt0_1
  replace btt0_4 : q_F (0 ≤ t0_4.toInt ∧ t0_4.toInt ≤ 1) := btt0_4
  replace btt0_5 : q_F (0 ≤ t0_5.toInt ∧ t0_5.toInt ≤ 1) := btt0_5
  replace btt0_9 : q_F (0 ≤ t0_9.toInt ∧ t0_9.toInt ≤ 12200) := btt0_9
  have hF : q_un ws ws [134, 136, 137, 138, 139, 140] := q_u0
  have hl : lv_has ls 10 [(0, .ref (q 134)), (1, .int x2), (2, .long x3), (4, .int x4)] := hl
  refine lv_aload_n hx hb d_15_22_0 rfl (lv_at hl 0 rfl) ?_
  refine lv_iload_n hx hb d_15_22_1 rfl (lv_at hl 1 rfl) ?_
  refine q_goi V (q_runS (As := [.int x2]) (rest := [.ref (q 134)]) (d := 1) (mc := 0) (ms := 0) C0 V rfl LS_DR_113 (X_DR_no l D g q ws  x2 hI   _) rfl hl.1 rfl (Nat.le_of_ble_eq_true rfl) ⟨by decide, by decide⟩ ⟨Nat.le_of_ble_eq_true rfl, Nat.le_of_ble_eq_true rfl⟩ d_15_22_2) (fun a34 u32 H locs hp33 V => ?_)
  obtain ⟨rfl, b35, b36, hE37⟩ := hp33
  have e38 : a34 = (F_DR_no x2) := hE37
  replace b35 : q_F (0 ≤ a34.toInt) := b35
  replace b36 : q_F (a34.toInt ≤ 1) := b36
  refine q_join (X := Int32) (fun z H locs ls _ => q_F (0 ≤ z.toInt) ∧ q_F (z.toInt ≤ 1) ∧ q_Wd D g (va_A ws sz) s ws H locs ∧ lv_has ls 10 [(0, .ref (q 134)), (1, .int x2), (2, .long x3), (4, .int x4)] ∧ F_DR_put_J13 x2 x3 x4 t0_0 t0_1 t0_2 t0_3 t0_4 t0_5 t0_6 t0_7 t0_8 t0_9 t0_10 t1_0 t2_0 t3_0 t4_0 t5_0 z = (F_DR_put x2 x3 x4 t0_0 t0_1 t0_2 t0_3 t0_4 t0_5 t0_6 t0_7 t0_8 t0_9 t0_10 t1_0 t2_0 t3_0 t4_0 t5_0) ∧ True ∧ S_DR_put_J13 x2 x3 x4 t0_0 t0_1 t0_2 t0_3 t0_4 t0_5 t0_6 t0_7 t0_8 t0_9 t0_10 t1_0 t2_0 t3_0 t4_0 t5_0 z) (fun z => [.int z, .ref (q 134)]) 13 0 0 ?_ ?_
  ·
    rintro lx39 H locs ls _ ⟨i47, i48, V, hl, hR49, hS50⟩
    replace i47 : q_F (0 ≤ lx39.toInt) := i47
    replace i48 : q_F (lx39.toInt ≤ 1) := i48
    replace hl : lv_has ls 10 [(0, .ref (q 134)), (1, .int x2), (2, .long x3), (4, .int x4)] := hl
    refine q_put (ci := 14) (j := 0) (v := .int lx39) (ty := .int) C0 V i_DR o_DR n_DR rfl rfl hT0 (by decide) w_1996 rfl rfl rfl rfl (Nat.le_of_ble_eq_true rfl) d_15_22_13 (fun H locs w54 hu55 hT0 V => ?_)
    replace hT0 : w54[134]? = (some (q 134, .inr (14, [.int lx39, .ref (q 135), .int t0_1, .ref (q 136), .ref (q 137), .ref (q 138), .ref (q 139), .ref (q 140), .int t0_2, .long t0_3, .int t0_4, .int t0_5, .ref (q 141), .int t0_6, .ref (q 142), .int t0_7, .ref (q 143), .int t0_8, .ref (q 144), .int t0_9, .int t0_10])) : Option (Nat × va_E)) := hT0
    replace hI := n_p134 hI hu55 hT0 ⟨(by have t1 : 0 ≤ t0_1.toInt ∧ t0_1.toInt ≤ 4100 := btt0_1; omega), (by have t1 : 0 ≤ t0_1.toInt ∧ t0_1.toInt ≤ 4100 := btt0_1; omega)⟩ ⟨(by have t1 : 0 ≤ t0_4.toInt ∧ t0_4.toInt ≤ 1 := btt0_4; omega), (by have t1 : 0 ≤ t0_4.toInt ∧ t0_4.toInt ≤ 1 := btt0_4; omega)⟩ ⟨(by have t1 : 0 ≤ t0_5.toInt ∧ t0_5.toInt ≤ 1 := btt0_5; omega), (by have t1 : 0 ≤ t0_5.toInt ∧ t0_5.toInt ≤ 1 := btt0_5; omega)⟩ ⟨(by have t1 : 0 ≤ t0_9.toInt ∧ t0_9.toInt ≤ 12200 := btt0_9; omega), (by have t1 : 0 ≤ t0_9.toInt ∧ t0_9.toInt ≤ 12200 := btt0_9; omega)⟩
    replace hT1 := (hu55 _ (by decide)).trans hT1
    replace hT2 := (hu55 _ (by decide)).trans hT2
    replace hT3 := (hu55 _ (by decide)).trans hT3
    replace hT4 := (hu55 _ (by decide)).trans hT4
    replace hT5 := (hu55 _ (by decide)).trans hT5
    replace hF := q_us hF hu55 (by simp)
    refine lv_aload_n hx hb d_15_22_16 rfl (lv_at hl 0 rfl) ?_
    refine q_get (ci := 14) (j := 0) (v := .int lx39) C0 V i_DR rfl rfl hT0 (by decide) w_1996 rfl d_15_22_17 ?_
    refine lv_if_le (tgt := 24) hx hb d_15_22_20 (by decide) (fun c56 => ?_) (fun c56 => ?_)
    ·
      have b57 : q_F (lx39.toInt ≤ 0) := (q_leI c56)
      refine lv_aload_n hx hb d_15_22_24 rfl (lv_at hl 0 rfl) ?_
      refine lv_iconst (v := 2) hx hb d_15_22_25 (by decide) ?_
      refine q_put (ci := 14) (j := 20) (v := .int 2) (ty := .int) C0 V i_DR o_DR n_DR rfl rfl hT0 (by decide) w_2024 rfl rfl rfl rfl (Nat.le_of_ble_eq_true rfl) d_15_22_26 (fun H locs w58 hu59 hT0 V => ?_)
      replace hT0 : w58[134]? = (some (q 134, .inr (14, [.int lx39, .ref (q 135), .int t0_1, .ref (q 136), .ref (q 137), .ref (q 138), .ref (q 139), .ref (q 140), .int t0_2, .long t0_3, .int t0_4, .int t0_5, .ref (q 141), .int t0_6, .ref (q 142), .int t0_7, .ref (q 143), .int t0_8, .ref (q 144), .int t0_9, .int 2])) : Option (Nat × va_E)) := hT0
      replace hI := n_p134 hI hu59 hT0 ⟨(by have t1 : 0 ≤ t0_1.toInt ∧ t0_1.toInt ≤ 4100 := btt0_1; omega), (by have t1 : 0 ≤ t0_1.toInt ∧ t0_1.toInt ≤ 4100 := btt0_1; omega)⟩ ⟨(by have t1 : 0 ≤ t0_4.toInt ∧ t0_4.toInt ≤ 1 := btt0_4; omega), (by have t1 : 0 ≤ t0_4.toInt ∧ t0_4.toInt ≤ 1 := btt0_4; omega)⟩ ⟨(by have t1 : 0 ≤ t0_5.toInt ∧ t0_5.toInt ≤ 1 := btt0_5; omega), (by have t1 : 0 ≤ t0_5.toInt ∧ t0_5.toInt ≤ 1 := btt0_5; omega)⟩ ⟨(by have t1 : 0 ≤ t0_9.toInt ∧ t0_9.toInt ≤ 12200 := btt0_9; omega), (by have t1 : 0 ≤ t0_9.toInt ∧ t0_9.toInt ≤ 12200 := btt0_9; omega)⟩
      replace hT1 := (hu59 _ (by decide)).trans hT1
      replace hT2 := (hu59 _ (by decide)).trans hT2
      replace hT3 := (hu59 _ (by decide)).trans hT3
      replace hT4 := (hu59 _ (by decide)).trans hT4
      replace hT5 := (hu59 _ (by decide)).trans hT5
      replace hF := q_us hF hu59 (by simp)
      refine lv_aload_n hx hb d_15_22_29 rfl (lv_at hl 0 rfl) ?_
      refine lv_lload_n hx hb d_15_22_30 rfl (lv_at hl 2 rfl) ?_
      refine lv_lconst (v := 0) hx hb d_15_22_31 (by decide) ?_
      refine W.lcmp hx hb d_15_22_32 ?_
      obtain ⟨a60, e61⟩ := q_nm (lg_cmp x3 0 : Int32)
      refine q_ti (v := a60) e61 ?_
      have b62 : q_F (-1 ≤ a60.toInt ∧ a60.toInt ≤ 1 ∧ ((a60.toInt = -1 ∧ x3.toInt < 0) ∨ (a60.toInt = 0 ∧ x3.toInt = 0) ∨ (a60.toInt = 1 ∧ 0 < x3.toInt))) := (by rw [← e61]; show -1 ≤ (lg_cmp x3 0 : Int32).toInt ∧ (lg_cmp x3 0 : Int32).toInt ≤ 1 ∧ (((lg_cmp x3 0 : Int32).toInt = -1 ∧ x3.toInt < 0) ∨ ((lg_cmp x3 0 : Int32).toInt = 0 ∧ x3.toInt = 0) ∨ ((lg_cmp x3 0 : Int32).toInt = 1 ∧ 0 < x3.toInt)); exact (by have y1 : (0 : Int64).toInt = 0 := rfl; have z := s_lcmp (a := x3) (b := 0); omega))
      refine q_join (X := Int32) (fun z H locs ls _ => q_F (lx39.toInt ≤ z.toInt) ∧ q_F (z.toInt ≤ lx39.toInt + 1) ∧ q_Wd D g (va_A ws sz) s w58 H locs ∧ lv_has ls 10 [(0, .ref (q 134)), (1, .int x2), (2, .long x3), (4, .int x4)] ∧ F_DR_put_J41 x2 x3 x4 t0_0 t0_1 t0_2 t0_3 t0_4 t0_5 t0_6 t0_7 t0_8 t0_9 t0_10 t1_0 t2_0 t3_0 t4_0 t5_0 lx39 z = (F_DR_put x2 x3 x4 t0_0 t0_1 t0_2 t0_3 t0_4 t0_5 t0_6 t0_7 t0_8 t0_9 t0_10 t1_0 t2_0 t3_0 t4_0 t5_0) ∧ True ∧ S_DR_put_J41 x2 x3 x4 t0_0 t0_1 t0_2 t0_3 t0_4 t0_5 t0_6 t0_7 t0_8 t0_9 t0_10 t1_0 t2_0 t3_0 t4_0 t5_0 lx39 z) (fun z => [.int z, .ref (q 134)]) 41 0 0 ?_ ?_
      ·
        rintro lx63 H locs ls _ ⟨i71, i72, V, hl, hR73, hS74⟩
        replace i71 : q_F (lx39.toInt ≤ lx63.toInt) := i71
        replace i72 : q_F (lx63.toInt ≤ lx39.toInt + 1) := i72
        replace hl : lv_has ls 10 [(0, .ref (q 134)), (1, .int x2), (2, .long x3), (4, .int x4)] := hl
        refine q_put (ci := 14) (j := 11) (v := .int lx63) (ty := .boolean) C0 V i_DR o_DR n_DR rfl rfl hT0 (by decide) w_2014 rfl rfl (q_nz01 (q_Ile (x := 0) (y := lx63.toInt) (by decide) rfl (by have t1 : 0 ≤ lx39.toInt := i47; have t2 : lx39.toInt ≤ lx63.toInt := i71; omega)) (q_Ile (x := lx63.toInt) (y := 1) rfl (by decide) (by have t1 : lx39.toInt ≤ 0 := b57; have t2 : lx63.toInt ≤ lx39.toInt + 1 := i72; omega))) (q_fz01 (q_Ile (x := 0) (y := lx63.toInt) (by decide) rfl (by have t1 : 0 ≤ lx39.toInt := i47; have t2 : lx39.toInt ≤ lx63.toInt := i71; omega)) (q_Ile (x := lx63.toInt) (y := 1) rfl (by decide) (by have t1 : lx39.toInt ≤ 0 := b57; have t2 : lx63.toInt ≤ lx39.toInt + 1 := i72; omega))) (Nat.le_of_ble_eq_true rfl) d_15_22_41 (fun H locs w78 hu79 hT0 V => ?_)
        replace hT0 : w78[134]? = (some (q 134, .inr (14, [.int lx39, .ref (q 135), .int t0_1, .ref (q 136), .ref (q 137), .ref (q 138), .ref (q 139), .ref (q 140), .int t0_2, .long t0_3, .int t0_4, .int lx63, .ref (q 141), .int t0_6, .ref (q 142), .int t0_7, .ref (q 143), .int t0_8, .ref (q 144), .int t0_9, .int 2])) : Option (Nat × va_E)) := hT0
        replace hI := n_p134 hI hu79 hT0 ⟨(by have t1 : 0 ≤ t0_1.toInt ∧ t0_1.toInt ≤ 4100 := btt0_1; omega), (by have t1 : 0 ≤ t0_1.toInt ∧ t0_1.toInt ≤ 4100 := btt0_1; omega)⟩ ⟨(by have t1 : 0 ≤ t0_4.toInt ∧ t0_4.toInt ≤ 1 := btt0_4; omega), (by have t1 : 0 ≤ t0_4.toInt ∧ t0_4.toInt ≤ 1 := btt0_4; omega)⟩ ⟨(by have t1 : 0 ≤ lx39.toInt := i47; have t2 : lx39.toInt ≤ lx63.toInt := i71; omega), (by have t1 : lx39.toInt ≤ 0 := b57; have t2 : lx63.toInt ≤ lx39.toInt + 1 := i72; omega)⟩ ⟨(by have t1 : 0 ≤ t0_9.toInt ∧ t0_9.toInt ≤ 12200 := btt0_9; omega), (by have t1 : 0 ≤ t0_9.toInt ∧ t0_9.toInt ≤ 12200 := btt0_9; omega)⟩
        replace hT1 := (hu79 _ (by decide)).trans hT1
        replace hT2 := (hu79 _ (by decide)).trans hT2
        replace hT3 := (hu79 _ (by decide)).trans hT3
        replace hT4 := (hu79 _ (by decide)).trans hT4
        replace hT5 := (hu79 _ (by decide)).trans hT5
        replace hF := q_us hF hu79 (by simp)
        refine lv_aload_n hx hb d_15_22_44 rfl (lv_at hl 0 rfl) ?_
        refine lv_iconst (v := 0) hx hb d_15_22_45 (by decide) ?_
        refine q_put (ci := 14) (j := 10) (v := .int 0) (ty := .boolean) C0 V i_DR o_DR n_DR rfl rfl hT0 (by decide) w_2013 rfl rfl rfl rfl (Nat.le_of_ble_eq_true rfl) d_15_22_46 (fun H locs w80 hu81 hT0 V => ?_)
        replace hT0 : w80[134]? = (some (q 134, .inr (14, [.int lx39, .ref (q 135), .int t0_1, .ref (q 136), .ref (q 137), .ref (q 138), .ref (q 139), .ref (q 140), .int t0_2, .long t0_3, .int 0, .int lx63, .ref (q 141), .int t0_6, .ref (q 142), .int t0_7, .ref (q 143), .int t0_8, .ref (q 144), .int t0_9, .int 2])) : Option (Nat × va_E)) := hT0
        replace hI := n_p134 hI hu81 hT0 ⟨(by have t1 : 0 ≤ t0_1.toInt ∧ t0_1.toInt ≤ 4100 := btt0_1; omega), (by have t1 : 0 ≤ t0_1.toInt ∧ t0_1.toInt ≤ 4100 := btt0_1; omega)⟩ ⟨(by have z9 : (0 : Int32).toInt = 0 := rfl; omega), (by have z9 : (0 : Int32).toInt = 0 := rfl; omega)⟩ ⟨(by have t1 : 0 ≤ lx39.toInt := i47; have t2 : lx39.toInt ≤ lx63.toInt := i71; omega), (by have t1 : lx39.toInt ≤ 0 := b57; have t2 : lx63.toInt ≤ lx39.toInt + 1 := i72; omega)⟩ ⟨(by have t1 : 0 ≤ t0_9.toInt ∧ t0_9.toInt ≤ 12200 := btt0_9; omega), (by have t1 : 0 ≤ t0_9.toInt ∧ t0_9.toInt ≤ 12200 := btt0_9; omega)⟩
        replace hT1 := (hu81 _ (by decide)).trans hT1
        replace hT2 := (hu81 _ (by decide)).trans hT2
        replace hT3 := (hu81 _ (by decide)).trans hT3
        replace hT4 := (hu81 _ (by decide)).trans hT4
        replace hT5 := (hu81 _ (by decide)).trans hT5
        replace hF := q_us hF hu81 (by simp)
        refine lv_aload_n hx hb d_15_22_49 rfl (lv_at hl 0 rfl) ?_
        refine lv_iload hx hb d_15_22_50 (lv_at hl 3 rfl) ?_
        refine lv_i2l hx hb d_15_22_52 rfl ?_
        obtain ⟨j82, e83⟩ := q_nm (x4.toInt64 : Int64)
        refine q_tl (v := j82) e83 ?_
        have b84 : q_F (j82.toInt = x4.toInt) := (by rw [← e83]; show (x4.toInt64 : Int64).toInt = x4.toInt; exact q_i2l rfl)
        refine q_put (ci := 14) (j := 9) (v := .long j82) (ty := .long) C0 V i_DR o_DR n_DR rfl rfl hT0 (by decide) w_2012 rfl rfl rfl rfl (Nat.le_of_ble_eq_true rfl) d_15_22_53 (fun H locs w85 hu86 hT0 V => ?_)
        replace hT0 : w85[134]? = (some (q 134, .inr (14, [.int lx39, .ref (q 135), .int t0_1, .ref (q 136), .ref (q 137), .ref (q 138), .ref (q 139), .ref (q 140), .int t0_2, .long j82, .int 0, .int lx63, .ref (q 141), .int t0_6, .ref (q 142), .int t0_7, .ref (q 143), .int t0_8, .ref (q 144), .int t0_9, .int 2])) : Option (Nat × va_E)) := hT0
        replace hI := n_p134 hI hu86 hT0 ⟨(by have t1 : 0 ≤ t0_1.toInt ∧ t0_1.toInt ≤ 4100 := btt0_1; omega), (by have t1 : 0 ≤ t0_1.toInt ∧ t0_1.toInt ≤ 4100 := btt0_1; omega)⟩ ⟨(by have z9 : (0 : Int32).toInt = 0 := rfl; omega), (by have z9 : (0 : Int32).toInt = 0 := rfl; omega)⟩ ⟨(by have t1 : 0 ≤ lx39.toInt := i47; have t2 : lx39.toInt ≤ lx63.toInt := i71; omega), (by have t1 : lx39.toInt ≤ 0 := b57; have t2 : lx63.toInt ≤ lx39.toInt + 1 := i72; omega)⟩ ⟨(by have t1 : 0 ≤ t0_9.toInt ∧ t0_9.toInt ≤ 12200 := btt0_9; omega), (by have t1 : 0 ≤ t0_9.toInt ∧ t0_9.toInt ≤ 12200 := btt0_9; omega)⟩
        replace hT1 := (hu86 _ (by decide)).trans hT1
        replace hT2 := (hu86 _ (by decide)).trans hT2
        replace hT3 := (hu86 _ (by decide)).trans hT3
        replace hT4 := (hu86 _ (by decide)).trans hT4
        replace hT5 := (hu86 _ (by decide)).trans hT5
        replace hF := q_us hF hu86 (by simp)
        refine lv_aload_n hx hb d_15_22_56 rfl (lv_at hl 0 rfl) ?_
        refine lv_bipush (v := 19) hx hb d_15_22_57 (by decide) ?_
        refine q_put (ci := 14) (j := 8) (v := .int 19) (ty := .int) C0 V i_DR o_DR n_DR rfl rfl hT0 (by decide) w_2011 rfl rfl rfl rfl (Nat.le_of_ble_eq_true rfl) d_15_22_59 (fun H locs w87 hu88 hT0 V => ?_)
        replace hT0 : w87[134]? = (some (q 134, .inr (14, [.int lx39, .ref (q 135), .int t0_1, .ref (q 136), .ref (q 137), .ref (q 138), .ref (q 139), .ref (q 140), .int 19, .long j82, .int 0, .int lx63, .ref (q 141), .int t0_6, .ref (q 142), .int t0_7, .ref (q 143), .int t0_8, .ref (q 144), .int t0_9, .int 2])) : Option (Nat × va_E)) := hT0
        replace hI := n_p134 hI hu88 hT0 ⟨(by have t1 : 0 ≤ t0_1.toInt ∧ t0_1.toInt ≤ 4100 := btt0_1; omega), (by have t1 : 0 ≤ t0_1.toInt ∧ t0_1.toInt ≤ 4100 := btt0_1; omega)⟩ ⟨(by have z9 : (0 : Int32).toInt = 0 := rfl; omega), (by have z9 : (0 : Int32).toInt = 0 := rfl; omega)⟩ ⟨(by have t1 : 0 ≤ lx39.toInt := i47; have t2 : lx39.toInt ≤ lx63.toInt := i71; omega), (by have t1 : lx39.toInt ≤ 0 := b57; have t2 : lx63.toInt ≤ lx39.toInt + 1 := i72; omega)⟩ ⟨(by have t1 : 0 ≤ t0_9.toInt ∧ t0_9.toInt ≤ 12200 := btt0_9; omega), (by have t1 : 0 ≤ t0_9.toInt ∧ t0_9.toInt ≤ 12200 := btt0_9; omega)⟩
        replace hT1 := (hu88 _ (by decide)).trans hT1
        replace hT2 := (hu88 _ (by decide)).trans hT2
        replace hT3 := (hu88 _ (by decide)).trans hT3
        replace hT4 := (hu88 _ (by decide)).trans hT4
        replace hT5 := (hu88 _ (by decide)).trans hT5
        replace hF := q_us hF hu88 (by simp)
        refine lv_lload_n hx hb d_15_22_62 rfl (lv_at hl 2 rfl) ?_
        refine lv_lstore (lv' := [(5, .long x3), (0, .ref (q 134)), (1, .int x2), (2, .long x3), (4, .int x4)]) hx hb d_15_22_63 hl (by decide) rfl (fun ls hl => ?_)
        refine lv_bipush (v := 18) hx hb d_15_22_65 (by decide) ?_
        refine lv_istore (lv' := [(7, .int 18), (5, .long x3), (0, .ref (q 134)), (1, .int x2), (2, .long x3), (4, .int x4)]) hx hb d_15_22_67 hl (by decide) rfl (fun ls hl => ?_)
        refine q_loop (X := Int32 × Int64 × (Nat → Int32)) (fun z H locs ls w97 => q_F (0 ≤ z.1.toInt + 1) ∧ q_F (z.1.toInt ≤ lx39.toInt + 18) ∧ q_Wd D g (va_A ws sz) s w97 H locs ∧ lv_has ls 10 [(7, .int z.1), (5, .long z.2.1), (0, .ref (q 134)), (1, .int x2)] ∧ q_I (msh g q) q w97 ∧ q_un ws w97 [134, 136, 137, 138, 139, 140] ∧ w97[134]? = (some (q 134, .inr (14, [.int lx39, .ref (q 135), .int t0_1, .ref (q 136), .ref (q 137), .ref (q 138), .ref (q 139), .ref (q 140), .int 19, .long j82, .int 0, .int lx63, .ref (q 141), .int t0_6, .ref (q 142), .int t0_7, .ref (q 143), .int t0_8, .ref (q 144), .int t0_9, .int 2])) : Option (Nat × va_E)) ∧ w97[136]? = (some (q 136, .inl (g 0, (10000 : Int32).toNatClampNeg, .inl t1_0)) : Option (Nat × va_E)) ∧ w97[137]? = (some (q 137, .inl (g 0, (10 : Int32).toNatClampNeg, .inl t2_0)) : Option (Nat × va_E)) ∧ w97[138]? = (some (q 138, .inl (g 3, 10, .inl t3_0)) : Option (Nat × va_E)) ∧ w97[139]? = (some (q 139, .inl (g 0, (10 : Int32).toNatClampNeg, .inl t4_0)) : Option (Nat × va_E)) ∧ w97[140]? = (some (q 140, .inl (g 0, (4400 : Int32).toNatClampNeg, .inl z.2.2)) : Option (Nat × va_E)) ∧ (∃ n, (z.1.toInt - ((-1))).toNat < n ∧ F_DR_put_L69 x2 x3 x4 t0_0 t0_1 t0_2 t0_3 t0_4 t0_5 t0_6 t0_7 t0_8 t0_9 t0_10 t1_0 t2_0 t3_0 t4_0 t5_0 lx39 lx63 j82 n z.1 z.2.1 z.2.2 = (F_DR_put x2 x3 x4 t0_0 t0_1 t0_2 t0_3 t0_4 t0_5 t0_6 t0_7 t0_8 t0_9 t0_10 t1_0 t2_0 t3_0 t4_0 t5_0) ∧ True ∧ S_DR_put_L69 x2 x3 x4 t0_0 t0_1 t0_2 t0_3 t0_4 t0_5 t0_6 t0_7 t0_8 t0_9 t0_10 t1_0 t2_0 t3_0 t4_0 t5_0 lx39 lx63 j82 n z.1 z.2.1 z.2.2)) (fun z => (z.1.toInt - ((-1))).toNat) ?_ ((18 : Int32), (x3 : Int64), (t5_0 : (Nat → Int32))) _ _ _ w87 ⟨(show q_F (0 ≤ 18 + 1) from (show 0 ≤ 18 + 1 from by omega)), (show q_F (18 ≤ lx39.toInt + 18) from (show 18 ≤ lx39.toInt + 18 from by have t1 : 0 ≤ lx39.toInt := i47; omega)), V, q_lw hl (q_lw1 0 rfl (q_lw1 1 rfl (q_lw1 2 rfl (q_lw1 3 rfl q_lw0)))), hI, hF, hT0, hT1, hT2, hT3, hT4, hT5, ⟨(((18 : Int32).toInt - ((-1))).toNat + 1), Nat.lt_succ_self _, (show F_DR_put_L69 x2 x3 x4 t0_0 t0_1 t0_2 t0_3 t0_4 t0_5 t0_6 t0_7 t0_8 t0_9 t0_10 t1_0 t2_0 t3_0 t4_0 t5_0 lx39 lx63 j82 (((18 : Int32).toInt - ((-1))).toNat + 1) 18 x3 t5_0 = (F_DR_put x2 x3 x4 t0_0 t0_1 t0_2 t0_3 t0_4 t0_5 t0_6 t0_7 t0_8 t0_9 t0_10 t1_0 t2_0 t3_0 t4_0 t5_0) from Eq.trans (by rw [← e83, F_DR_put_J41.eq_1]) hR73), (show True ∧ S_DR_put_L69 x2 x3 x4 t0_0 t0_1 t0_2 t0_3 t0_4 t0_5 t0_6 t0_7 t0_8 t0_9 t0_10 t1_0 t2_0 t3_0 t4_0 t5_0 lx39 lx63 j82 (((18 : Int32).toInt - ((-1))).toNat + 1) 18 x3 t5_0 from (by rw [← e83]; have h := hS74; rw [S_DR_put_J41.eq_1] at h; with_reducible exact h))⟩⟩
        rintro ⟨lx91, lx92, lx93⟩ H locs ls w97 ⟨i94, i95, V, hl, hI, hF, hO98, hO99, hO100, hO101, hO102, hO103, ⟨fu106, hf107, hR104, hS105⟩⟩ ih96
        obtain ⟨fm108, rfl⟩ : ∃ m, fu106 = m + 1 := ⟨fu106 - 1, by omega⟩
        replace i94 : q_F (0 ≤ lx91.toInt + 1) := i94
        replace i95 : q_F (lx91.toInt ≤ lx39.toInt + 18) := i95
        replace hl : lv_has ls 10 [(7, .int lx91), (5, .long lx92), (0, .ref (q 134)), (1, .int x2)] := hl
        replace hO98 : w97[134]? = (some (q 134, .inr (14, [.int lx39, .ref (q 135), .int t0_1, .ref (q 136), .ref (q 137), .ref (q 138), .ref (q 139), .ref (q 140), .int 19, .long j82, .int 0, .int lx63, .ref (q 141), .int t0_6, .ref (q 142), .int t0_7, .ref (q 143), .int t0_8, .ref (q 144), .int t0_9, .int 2])) : Option (Nat × va_E)) := hO98
        replace hO99 : w97[136]? = (some (q 136, .inl (g 0, (10000 : Int32).toNatClampNeg, .inl t1_0)) : Option (Nat × va_E)) := hO99
        replace hO100 : w97[137]? = (some (q 137, .inl (g 0, (10 : Int32).toNatClampNeg, .inl t2_0)) : Option (Nat × va_E)) := hO100
        replace hO101 : w97[138]? = (some (q 138, .inl (g 3, 10, .inl t3_0)) : Option (Nat × va_E)) := hO101
        replace hO102 : w97[139]? = (some (q 139, .inl (g 0, (10 : Int32).toNatClampNeg, .inl t4_0)) : Option (Nat × va_E)) := hO102
        replace hO103 : w97[140]? = (some (q 140, .inl (g 0, (4400 : Int32).toNatClampNeg, .inl lx93)) : Option (Nat × va_E)) := hO103
        refine lv_iload hx hb d_15_22_69 (lv_at hl 0 rfl) ?_
        refine lv_if_lt (tgt := 119) hx hb d_15_22_71 (by decide) (fun c109 => ?_) (fun c109 => ?_)
        ·
          have b110 : q_F (lx91.toInt < 0) := (q_ltI c109)
          refine lv_aload_n hx hb d_15_22_119 rfl (lv_at hl 2 rfl) ?_
          refine lv_iload_n hx hb d_15_22_120 rfl (lv_at hl 3 rfl) ?_
          have ob111 : True ∧ S_DR_store x2 lx39 t0_1 (19 : Int32) j82 (0 : Int32) lx63 t0_6 t0_7 t0_8 t0_9 (2 : Int32) t1_0 t2_0 t3_0 t4_0 lx93 := (by have h := hS105; rw [S_DR_put_L69.eq_2] at h; rw [if_pos c109] at h; with_reducible exact h.2.1)
          refine q_gov V (q_runV (As := [.int x2]) (rest := []) (d := 2) (mc := 0) (ms := 0) (ci := 14) C0 V rfl LV_DR_89 (X_DR_store l D g q w97  x2 hI lx39 t0_1 19 j82 0 lx63 t0_6 t0_7 t0_8 t0_9 2 hO98 t1_0 hO99 t2_0 hO100 t3_0 hO101 t4_0 hO102 lx93 hO103 ob111 _) rfl rfl hO98 rfl hl.1 rfl (Nat.le_of_ble_eq_true rfl) ⟨by decide, by decide⟩ ⟨Nat.le_of_ble_eq_true rfl, Nat.le_of_ble_eq_true rfl⟩ d_15_22_121) (fun u112 H locs hp113 V => ?_)
          obtain ⟨hI, hu159, y115, y116, y117, y118, y119, y120, y121, y122, y123, y124, y125, f126, f128, f130, f132, f134, hO114, hA127, hA129, hA131, hA133, hA135, b136, b137, b138, b139, b140, b141, b142, b143, b144, b145, b146, b147, b148, b149, b150, b151, b152, b153, b154, b155, b156, b157, hE158⟩ := hp113
          replace hO114 : u112[134]? = (some (q 134, .inr (14, [.int y115, .ref (q 135), .int y116, .ref (q 136), .ref (q 137), .ref (q 138), .ref (q 139), .ref (q 140), .int y117, .long y118, .int y119, .int y120, .ref (q 141), .int y121, .ref (q 142), .int y122, .ref (q 143), .int y123, .ref (q 144), .int y124, .int y125])) : Option (Nat × va_E)) := hO114
          replace hA127 : u112[136]? = (some (q 136, .inl (g 0, (10000 : Int32).toNatClampNeg, .inl f126)) : Option (Nat × va_E)) := hA127
          replace hA129 : u112[137]? = (some (q 137, .inl (g 0, (10 : Int32).toNatClampNeg, .inl f128)) : Option (Nat × va_E)) := hA129
          replace hA131 : u112[138]? = (some (q 138, .inl (g 3, 10, .inl f130)) : Option (Nat × va_E)) := hA131
          replace hA133 : u112[139]? = (some (q 139, .inl (g 0, (10 : Int32).toNatClampNeg, .inl f132)) : Option (Nat × va_E)) := hA133
          replace hA135 : u112[140]? = (some (q 140, .inl (g 0, (4400 : Int32).toNatClampNeg, .inl f134)) : Option (Nat × va_E)) := hA135
          obtain ⟨p160, e161⟩ : ∃ z, z = (F_DR_store x2 lx39 t0_1 (19 : Int32) j82 (0 : Int32) lx63 t0_6 t0_7 t0_8 t0_9 (2 : Int32) t1_0 t2_0 t3_0 t4_0 lx93) := ⟨_, rfl⟩
          have e162 : y115 = p160.1 := congrArg (fun z => z.1) (hE158.trans e161.symm)
          have e163 : y116 = p160.2.1 := congrArg (fun z => z.2.1) (hE158.trans e161.symm)
          have e164 : y117 = p160.2.2.1 := congrArg (fun z => z.2.2.1) (hE158.trans e161.symm)
          have e165 : y118 = p160.2.2.2.1 := congrArg (fun z => z.2.2.2.1) (hE158.trans e161.symm)
          have e166 : y119 = p160.2.2.2.2.1 := congrArg (fun z => z.2.2.2.2.1) (hE158.trans e161.symm)
          have e167 : y120 = p160.2.2.2.2.2.1 := congrArg (fun z => z.2.2.2.2.2.1) (hE158.trans e161.symm)
          have e168 : y121 = p160.2.2.2.2.2.2.1 := congrArg (fun z => z.2.2.2.2.2.2.1) (hE158.trans e161.symm)
          have e169 : y122 = p160.2.2.2.2.2.2.2.1 := congrArg (fun z => z.2.2.2.2.2.2.2.1) (hE158.trans e161.symm)
          have e170 : y123 = p160.2.2.2.2.2.2.2.2.1 := congrArg (fun z => z.2.2.2.2.2.2.2.2.1) (hE158.trans e161.symm)
          have e171 : y124 = p160.2.2.2.2.2.2.2.2.2.1 := congrArg (fun z => z.2.2.2.2.2.2.2.2.2.1) (hE158.trans e161.symm)
          have e172 : y125 = p160.2.2.2.2.2.2.2.2.2.2.1 := congrArg (fun z => z.2.2.2.2.2.2.2.2.2.2.1) (hE158.trans e161.symm)
          have e173 : f126 = p160.2.2.2.2.2.2.2.2.2.2.2.1 := congrArg (fun z => z.2.2.2.2.2.2.2.2.2.2.2.1) (hE158.trans e161.symm)
          have e174 : f128 = p160.2.2.2.2.2.2.2.2.2.2.2.2.1 := congrArg (fun z => z.2.2.2.2.2.2.2.2.2.2.2.2.1) (hE158.trans e161.symm)
          have e175 : f130 = p160.2.2.2.2.2.2.2.2.2.2.2.2.2.1 := congrArg (fun z => z.2.2.2.2.2.2.2.2.2.2.2.2.2.1) (hE158.trans e161.symm)
          have e176 : f132 = p160.2.2.2.2.2.2.2.2.2.2.2.2.2.2.1 := congrArg (fun z => z.2.2.2.2.2.2.2.2.2.2.2.2.2.2.1) (hE158.trans e161.symm)
          have e177 : f134 = p160.2.2.2.2.2.2.2.2.2.2.2.2.2.2.2 := congrArg (fun z => z.2.2.2.2.2.2.2.2.2.2.2.2.2.2.2) (hE158.trans e161.symm)
          replace b136 : q_F (0 ≤ y120.toInt) := b136
          replace b137 : q_F (t0_1.toInt ≤ y116.toInt) := b137
          replace b138 : q_F (y116.toInt ≤ t0_1.toInt) := b138
          replace b139 : q_F (19 ≤ y116.toInt + 24400) := b139
          replace b140 : q_F (j82.toInt ≤ y118.toInt) := b140
          replace b141 : q_F (y118.toInt ≤ j82.toInt) := b141
          replace b142 : q_F (19 ≤ y119.toInt + 24400) := b142
          replace b143 : q_F (0 ≤ y119.toInt) := b143
          replace b144 : q_F (y119.toInt ≤ 0) := b144
          replace b145 : q_F (19 ≤ y120.toInt + 24400) := b145
          replace b146 : q_F (y120.toInt ≤ lx63.toInt) := b146
          replace b147 : q_F (t0_6.toInt ≤ y121.toInt) := b147
          replace b148 : q_F (y121.toInt ≤ t0_6.toInt) := b148
          replace b149 : q_F (t0_7.toInt ≤ y122.toInt) := b149
          replace b150 : q_F (y122.toInt ≤ t0_7.toInt) := b150
          replace b151 : q_F (t0_8.toInt ≤ y123.toInt) := b151
          replace b152 : q_F (y123.toInt ≤ t0_8.toInt) := b152
          replace b153 : q_F (19 ≤ y124.toInt + 24400) := b153
          replace b154 : q_F (t0_9.toInt ≤ y124.toInt) := b154
          replace b155 : q_F (y124.toInt ≤ t0_9.toInt) := b155
          replace b156 : q_F (2 ≤ y125.toInt) := b156
          replace b157 : q_F (y125.toInt ≤ 2) := b157
          replace hF := q_uc hF hu159 (by simp)
          have hR178 := (show F_DR_put_c121 (F_DR_put_L69 x2 x3 x4 t0_0 t0_1 t0_2 t0_3 t0_4 t0_5 t0_6 t0_7 t0_8 t0_9 t0_10 t1_0 t2_0 t3_0 t4_0 t5_0 lx39 lx63 j82 fm108) x2 x3 x4 t0_0 t0_1 t0_2 t0_3 t0_4 t0_5 t0_6 t0_7 t0_8 t0_9 t0_10 t1_0 t2_0 t3_0 t4_0 t5_0 lx39 lx63 j82 lx91 lx92 lx93 p160 = (F_DR_put x2 x3 x4 t0_0 t0_1 t0_2 t0_3 t0_4 t0_5 t0_6 t0_7 t0_8 t0_9 t0_10 t1_0 t2_0 t3_0 t4_0 t5_0) from Eq.trans (by rw [e161, F_DR_put_L69.eq_2, if_pos c109]) hR104)
          have hS179 := (show True ∧ S_DR_put_c121 (S_DR_put_L69 x2 x3 x4 t0_0 t0_1 t0_2 t0_3 t0_4 t0_5 t0_6 t0_7 t0_8 t0_9 t0_10 t1_0 t2_0 t3_0 t4_0 t5_0 lx39 lx63 j82 fm108) x2 x3 x4 t0_0 t0_1 t0_2 t0_3 t0_4 t0_5 t0_6 t0_7 t0_8 t0_9 t0_10 t1_0 t2_0 t3_0 t4_0 t5_0 lx39 lx63 j82 lx91 lx92 lx93 p160 from (by rw [e161]; have h := hS105; rw [S_DR_put_L69.eq_2] at h; rw [if_pos c109] at h; replace h := q_s2 h; with_reducible exact h))
          exact q_retv C0 V (⟨hI, hF, y115, y116, y117, y118, y119, y120, y121, y122, y123, y124, y125, f126, f128, f130, f132, f134, hO114, hA127, hA129, hA131, hA133, hA135, (show 0 ≤ y119.toInt from (by have t1 : 0 ≤ y119.toInt := b143; omega)), (show 0 ≤ y120.toInt from (by have t1 : 0 ≤ y120.toInt := b136; omega)), (show y120.toInt ≤ 1 from (by have t1 : lx39.toInt ≤ 0 := b57; have t2 : lx63.toInt ≤ lx39.toInt + 1 := i72; have t3 : y120.toInt ≤ lx63.toInt := b146; omega)), (show t0_1.toInt ≤ y116.toInt from (by have t1 : t0_1.toInt ≤ y116.toInt := b137; omega)), (show y116.toInt ≤ t0_1.toInt from (by have t1 : y116.toInt ≤ t0_1.toInt := b138; omega)), (show y119.toInt ≤ t0_4.toInt from (by have t1 : 0 ≤ t0_4.toInt ∧ t0_4.toInt ≤ 1 := btt0_4; have t2 : y119.toInt ≤ 0 := b144; omega)), (show t0_6.toInt ≤ y121.toInt from (by have t1 : t0_6.toInt ≤ y121.toInt := b147; omega)), (show y121.toInt ≤ t0_6.toInt from (by have t1 : y121.toInt ≤ t0_6.toInt := b148; omega)), (show t0_7.toInt ≤ y122.toInt from (by have t1 : t0_7.toInt ≤ y122.toInt := b149; omega)), (show y122.toInt ≤ t0_7.toInt from (by have t1 : y122.toInt ≤ t0_7.toInt := b150; omega)), (show t0_8.toInt ≤ y123.toInt from (by have t1 : t0_8.toInt ≤ y123.toInt := b151; omega)), (show y123.toInt ≤ t0_8.toInt from (by have t1 : y123.toInt ≤ t0_8.toInt := b152; omega)), (show t0_9.toInt ≤ y124.toInt from (by have t1 : t0_9.toInt ≤ y124.toInt := b154; omega)), (show y124.toInt ≤ t0_9.toInt from (by have t1 : y124.toInt ≤ t0_9.toInt := b155; omega)), (show (y115, y116, y117, y118, y119, y120, y121, y122, y123, y124, y125, f126, f128, f130, f132, f134) = (F_DR_put x2 x3 x4 t0_0 t0_1 t0_2 t0_3 t0_4 t0_5 t0_6 t0_7 t0_8 t0_9 t0_10 t1_0 t2_0 t3_0 t4_0 t5_0) from Eq.trans (by rw [e177, e176, e175, e174, e173, e172, e171, e170, e169, e168, e167, e166, e165, e164, e163, e162, F_DR_put_c121.eq_1]) hR178)⟩) d_15_22_124
        ·
          have b183 : q_F (0 ≤ lx91.toInt) := (q_nltI c109)
          refine lv_lload hx hb d_15_22_74 (lv_at hl 1 rfl) ?_
          refine q_ldc2 C0 rfl w_2407 d_15_22_76 ?_
          refine lv_lrem hx hb d_15_22_79 (by decide) ?_
          obtain ⟨j184, e185⟩ := q_nm (lx92 - lx92 / 10 * 10 : Int64)
          refine q_tl (v := j184) e185 ?_
          refine lv_lstore (lv' := [(8, .long j184), (7, .int lx91), (5, .long lx92), (0, .ref (q 134)), (1, .int x2)]) hx hb d_15_22_80 hl (by decide) rfl (fun ls hl => ?_)
          refine lv_aload_n hx hb d_15_22_82 rfl (lv_at hl 3 rfl) ?_
          refine q_get (ci := 14) (j := 7) (v := .ref (q 140)) C0 V i_DR rfl rfl hO98 (by decide) w_2010 rfl d_15_22_83 ?_
          refine lv_iload hx hb d_15_22_86 (lv_at hl 1 rfl) ?_
          refine lv_lload hx hb d_15_22_88 (lv_at hl 0 rfl) ?_
          refine lv_lconst (v := 0) hx hb d_15_22_90 (by decide) ?_
          refine W.lcmp hx hb d_15_22_91 ?_
          obtain ⟨a186, e187⟩ := q_nm (lg_cmp j184 0 : Int32)
          refine q_ti (v := a186) e187 ?_
          have b188 : q_F (-1 ≤ a186.toInt ∧ a186.toInt ≤ 1 ∧ ((a186.toInt = -1 ∧ j184.toInt < 0) ∨ (a186.toInt = 0 ∧ j184.toInt = 0) ∨ (a186.toInt = 1 ∧ 0 < j184.toInt))) := (by rw [← e187]; show -1 ≤ (lg_cmp j184 0 : Int32).toInt ∧ (lg_cmp j184 0 : Int32).toInt ≤ 1 ∧ (((lg_cmp j184 0 : Int32).toInt = -1 ∧ j184.toInt < 0) ∨ ((lg_cmp j184 0 : Int32).toInt = 0 ∧ j184.toInt = 0) ∨ ((lg_cmp j184 0 : Int32).toInt = 1 ∧ 0 < j184.toInt)); exact (by have y1 : (0 : Int64).toInt = 0 := rfl; have z := s_lcmp (a := j184) (b := 0); omega))
          refine lv_if_ge (tgt := 101) hx hb d_15_22_92 (by decide) (fun c189 => ?_) (fun c189 => ?_)
          ·
            have b190 : q_F (0 ≤ a186.toInt) := (q_leI c189)
            refine lv_lload hx hb d_15_22_101 (lv_at hl 0 rfl) ?_
            refine lv_l2i hx hb d_15_22_103 rfl ?_
            obtain ⟨a191, e192⟩ := q_nm (j184.toInt32 : Int32)
            refine q_ti (v := a191) e192 ?_
            refine q_iast C0 V hO103 (q_ix (x := lx91.toInt) rfl (by have t1 : 0 ≤ lx91.toInt := b183; omega) (by have t1 : 0 ≤ lx91.toInt := b183; have t2 : lx39.toInt ≤ 1 := i48; have t3 : lx91.toInt ≤ lx39.toInt + 18 := i95; have e9 : (((4400 : Int32).toNatClampNeg : Nat) : Int) = 4400 := (by decide); omega)) d_15_22_104 (fun H locs w193 hu194 hO103 V => ?_)
            replace hI := n_ai' hI (n_r140 g q).1 hu194 hO103 (q_updB (fun _ => s_bnd) s_bnd)
            replace hO98 := (hu194 _ (by decide)).trans hO98
            replace hO99 := (hu194 _ (by decide)).trans hO99
            replace hO100 := (hu194 _ (by decide)).trans hO100
            replace hO101 := (hu194 _ (by decide)).trans hO101
            replace hO102 := (hu194 _ (by decide)).trans hO102
            replace hF := q_us hF hu194 (by simp)
            obtain ⟨f195, e196⟩ := q_nm (upd lx93 lx91.toNatClampNeg a191 : (Nat → Int32))
            rw [e196] at hO103
            refine lv_lload hx hb d_15_22_105 (lv_at hl 2 rfl) ?_
            refine q_ldc2 C0 rfl w_2407 d_15_22_107 ?_
            refine lv_ldiv hx hb d_15_22_110 (by decide) ?_
            obtain ⟨j197, e198⟩ := q_nm (lx92 / 10 : Int64)
            refine q_tl (v := j197) e198 ?_
            refine lv_lstore (lv' := [(5, .long j197), (8, .long j184), (7, .int lx91), (0, .ref (q 134)), (1, .int x2)]) hx hb d_15_22_111 hl (by decide) rfl (fun ls hl => ?_)
            obtain ⟨a199, e200⟩ := q_nm (lx91 + (-1) : Int32)
            have b201 : q_F (a199.toInt = lx91.toInt + (-1)) := (by rw [← e200]; exact q_addI (y := (-1)) rfl (by decide) (by have t1 : 0 ≤ lx91.toInt + 1 := i94; have _ := q_lo32 (x := lx91); have _ := q_hi32 (x := lx91); omega) (by have t1 : 0 ≤ lx91.toInt + 1 := i94; have _ := q_lo32 (x := lx91); have _ := q_hi32 (x := lx91); omega))
            refine lv_iinc (v := a199) (lv' := [(7, .int a199), (5, .long j197), (8, .long j184), (0, .ref (q 134)), (1, .int x2)]) hx hb d_15_22_113 hl (k := 2) rfl (e200) (by decide) rfl (fun ls hl => ?_)
            refine lv_goto (tgt := 69) hx hb d_15_22_116 (by decide) ?_
            exact ih96 ((a199 : Int32), (j197 : Int64), (f195 : (Nat → Int32))) _ _ _ _ (show (a199.toInt - ((-1))).toNat < (lx91.toInt - ((-1))).toNat from by have t1 : a199.toInt = lx91.toInt + (-1) := b201; have t2 : 0 ≤ lx91.toInt + 1 := i94; have t3 : 0 ≤ lx91.toInt := b183; omega) ⟨(show q_F (0 ≤ a199.toInt + 1) from (show 0 ≤ a199.toInt + 1 from by have t1 : 0 ≤ lx91.toInt := b183; have t2 : a199.toInt = lx91.toInt + (-1) := b201; omega)), (show q_F (a199.toInt ≤ lx39.toInt + 18) from (show a199.toInt ≤ lx39.toInt + 18 from by have t1 : lx91.toInt ≤ lx39.toInt + 18 := i95; have t2 : a199.toInt = lx91.toInt + (-1) := b201; omega)), V, q_lw hl (q_lw1 0 rfl (q_lw1 1 rfl (q_lw1 3 rfl (q_lw1 4 rfl q_lw0)))), hI, hF, hO98, hO99, hO100, hO101, hO102, hO103, ⟨fm108, Nat.lt_of_lt_of_le (show (a199.toInt - ((-1))).toNat < (lx91.toInt - ((-1))).toNat from by have t1 : a199.toInt = lx91.toInt + (-1) := b201; have t2 : 0 ≤ lx91.toInt + 1 := i94; have t3 : 0 ≤ lx91.toInt := b183; omega) (Nat.le_of_lt_succ hf107), (show F_DR_put_L69 x2 x3 x4 t0_0 t0_1 t0_2 t0_3 t0_4 t0_5 t0_6 t0_7 t0_8 t0_9 t0_10 t1_0 t2_0 t3_0 t4_0 t5_0 lx39 lx63 j82 fm108 a199 j197 f195 = (F_DR_put x2 x3 x4 t0_0 t0_1 t0_2 t0_3 t0_4 t0_5 t0_6 t0_7 t0_8 t0_9 t0_10 t1_0 t2_0 t3_0 t4_0 t5_0) from Eq.trans (by have c189x := c189; rw [← e187, ← e185] at c189x; rw [← e200, ← e198, ← e196, ← e192, ← e185, F_DR_put_L69.eq_2, if_neg c109, if_pos c189x]) hR104), (show True ∧ S_DR_put_L69 x2 x3 x4 t0_0 t0_1 t0_2 t0_3 t0_4 t0_5 t0_6 t0_7 t0_8 t0_9 t0_10 t1_0 t2_0 t3_0 t4_0 t5_0 lx39 lx63 j82 fm108 a199 j197 f195 from (by rw [← e200, ← e198, ← e196, ← e192, ← e185]; have h := hS105; rw [S_DR_put_L69.eq_2] at h; rw [if_neg c109] at h; have c189x := c189; rw [← e187, ← e185] at c189x; rw [if_pos c189x] at h; with_reducible exact h))⟩⟩
          ·
            have b202 : q_F (a186.toInt < 0) := (q_nleI c189)
            refine lv_lload hx hb d_15_22_95 (lv_at hl 0 rfl) ?_
            refine lv_lneg hx hb d_15_22_97 ?_
            obtain ⟨j203, e204⟩ := q_nm (-j184 : Int64)
            refine q_tl (v := j203) e204 ?_
            refine lv_goto (tgt := 103) hx hb d_15_22_98 (by decide) ?_
            refine lv_l2i hx hb d_15_22_103 rfl ?_
            obtain ⟨a205, e206⟩ := q_nm (j203.toInt32 : Int32)
            refine q_ti (v := a205) e206 ?_
            refine q_iast C0 V hO103 (q_ix (x := lx91.toInt) rfl (by have t1 : 0 ≤ lx91.toInt := b183; omega) (by have t1 : 0 ≤ lx91.toInt := b183; have t2 : lx39.toInt ≤ 1 := i48; have t3 : lx91.toInt ≤ lx39.toInt + 18 := i95; have e9 : (((4400 : Int32).toNatClampNeg : Nat) : Int) = 4400 := (by decide); omega)) d_15_22_104 (fun H locs w207 hu208 hO103 V => ?_)
            replace hI := n_ai' hI (n_r140 g q).1 hu208 hO103 (q_updB (fun _ => s_bnd) s_bnd)
            replace hO98 := (hu208 _ (by decide)).trans hO98
            replace hO99 := (hu208 _ (by decide)).trans hO99
            replace hO100 := (hu208 _ (by decide)).trans hO100
            replace hO101 := (hu208 _ (by decide)).trans hO101
            replace hO102 := (hu208 _ (by decide)).trans hO102
            replace hF := q_us hF hu208 (by simp)
            obtain ⟨f209, e210⟩ := q_nm (upd lx93 lx91.toNatClampNeg a205 : (Nat → Int32))
            rw [e210] at hO103
            refine lv_lload hx hb d_15_22_105 (lv_at hl 2 rfl) ?_
            refine q_ldc2 C0 rfl w_2407 d_15_22_107 ?_
            refine lv_ldiv hx hb d_15_22_110 (by decide) ?_
            obtain ⟨j211, e212⟩ := q_nm (lx92 / 10 : Int64)
            refine q_tl (v := j211) e212 ?_
            refine lv_lstore (lv' := [(5, .long j211), (8, .long j184), (7, .int lx91), (0, .ref (q 134)), (1, .int x2)]) hx hb d_15_22_111 hl (by decide) rfl (fun ls hl => ?_)
            obtain ⟨a213, e214⟩ := q_nm (lx91 + (-1) : Int32)
            have b215 : q_F (a213.toInt = lx91.toInt + (-1)) := (by rw [← e214]; exact q_addI (y := (-1)) rfl (by decide) (by have t1 : 0 ≤ lx91.toInt + 1 := i94; have _ := q_lo32 (x := lx91); have _ := q_hi32 (x := lx91); omega) (by have t1 : 0 ≤ lx91.toInt + 1 := i94; have _ := q_lo32 (x := lx91); have _ := q_hi32 (x := lx91); omega))
            refine lv_iinc (v := a213) (lv' := [(7, .int a213), (5, .long j211), (8, .long j184), (0, .ref (q 134)), (1, .int x2)]) hx hb d_15_22_113 hl (k := 2) rfl (e214) (by decide) rfl (fun ls hl => ?_)
            refine lv_goto (tgt := 69) hx hb d_15_22_116 (by decide) ?_
            exact ih96 ((a213 : Int32), (j211 : Int64), (f209 : (Nat → Int32))) _ _ _ _ (show (a213.toInt - ((-1))).toNat < (lx91.toInt - ((-1))).toNat from by have t1 : a213.toInt = lx91.toInt + (-1) := b215; have t2 : 0 ≤ lx91.toInt + 1 := i94; have t3 : 0 ≤ lx91.toInt := b183; omega) ⟨(show q_F (0 ≤ a213.toInt + 1) from (show 0 ≤ a213.toInt + 1 from by have t1 : 0 ≤ lx91.toInt := b183; have t2 : a213.toInt = lx91.toInt + (-1) := b215; omega)), (show q_F (a213.toInt ≤ lx39.toInt + 18) from (show a213.toInt ≤ lx39.toInt + 18 from by have t1 : lx91.toInt ≤ lx39.toInt + 18 := i95; have t2 : a213.toInt = lx91.toInt + (-1) := b215; omega)), V, q_lw hl (q_lw1 0 rfl (q_lw1 1 rfl (q_lw1 3 rfl (q_lw1 4 rfl q_lw0)))), hI, hF, hO98, hO99, hO100, hO101, hO102, hO103, ⟨fm108, Nat.lt_of_lt_of_le (show (a213.toInt - ((-1))).toNat < (lx91.toInt - ((-1))).toNat from by have t1 : a213.toInt = lx91.toInt + (-1) := b215; have t2 : 0 ≤ lx91.toInt + 1 := i94; have t3 : 0 ≤ lx91.toInt := b183; omega) (Nat.le_of_lt_succ hf107), (show F_DR_put_L69 x2 x3 x4 t0_0 t0_1 t0_2 t0_3 t0_4 t0_5 t0_6 t0_7 t0_8 t0_9 t0_10 t1_0 t2_0 t3_0 t4_0 t5_0 lx39 lx63 j82 fm108 a213 j211 f209 = (F_DR_put x2 x3 x4 t0_0 t0_1 t0_2 t0_3 t0_4 t0_5 t0_6 t0_7 t0_8 t0_9 t0_10 t1_0 t2_0 t3_0 t4_0 t5_0) from Eq.trans (by have c189x := c189; rw [← e187, ← e185] at c189x; rw [← e214, ← e212, ← e210, ← e206, ← e204, ← e185, F_DR_put_L69.eq_2, if_neg c109, if_neg c189x]) hR104), (show True ∧ S_DR_put_L69 x2 x3 x4 t0_0 t0_1 t0_2 t0_3 t0_4 t0_5 t0_6 t0_7 t0_8 t0_9 t0_10 t1_0 t2_0 t3_0 t4_0 t5_0 lx39 lx63 j82 fm108 a213 j211 f209 from (by rw [← e214, ← e212, ← e210, ← e206, ← e204, ← e185]; have h := hS105; rw [S_DR_put_L69.eq_2] at h; rw [if_neg c109] at h; have c189x := c189; rw [← e187, ← e185] at c189x; rw [if_neg c189x] at h; with_reducible exact h))⟩⟩
      ·
        intro J70
        refine lv_if_ge (tgt := 40) hx hb d_15_22_33 (by decide) (fun c216 => ?_) (fun c216 => ?_)
        ·
          have b217 : q_F (0 ≤ a60.toInt) := (q_leI c216)
          refine lv_iconst (v := 0) hx hb d_15_22_40 (by decide) ?_
          exact J70 ((0 : Int32)) _ _ _ w58 ⟨(show q_F (lx39.toInt ≤ 0) from (show lx39.toInt ≤ 0 from by have t1 : lx39.toInt ≤ 0 := b57; omega)), (show q_F (0 ≤ lx39.toInt + 1) from (show 0 ≤ lx39.toInt + 1 from by have t1 : 0 ≤ lx39.toInt := i47; omega)), V, q_lw hl (q_lw1 0 rfl (q_lw1 1 rfl (q_lw1 2 rfl (q_lw1 3 rfl q_lw0)))), (show F_DR_put_J41 x2 x3 x4 t0_0 t0_1 t0_2 t0_3 t0_4 t0_5 t0_6 t0_7 t0_8 t0_9 t0_10 t1_0 t2_0 t3_0 t4_0 t5_0 lx39 0 = (F_DR_put x2 x3 x4 t0_0 t0_1 t0_2 t0_3 t0_4 t0_5 t0_6 t0_7 t0_8 t0_9 t0_10 t1_0 t2_0 t3_0 t4_0 t5_0) from Eq.trans (by have c216x := c216; rw [← e61] at c216x; rw [F_DR_put_J13.eq_1, if_pos c56, if_pos c216x]) hR49), (show True ∧ S_DR_put_J41 x2 x3 x4 t0_0 t0_1 t0_2 t0_3 t0_4 t0_5 t0_6 t0_7 t0_8 t0_9 t0_10 t1_0 t2_0 t3_0 t4_0 t5_0 lx39 0 from (by have h := hS50; rw [S_DR_put_J13.eq_1] at h; rw [if_pos c56] at h; have c216x := c216; rw [← e61] at c216x; rw [if_pos c216x] at h; with_reducible exact h))⟩
        ·
          have b218 : q_F (a60.toInt < 0) := (q_nleI c216)
          refine lv_iconst (v := 1) hx hb d_15_22_36 (by decide) ?_
          refine lv_goto (tgt := 41) hx hb d_15_22_37 (by decide) ?_
          exact J70 ((1 : Int32)) _ _ _ w58 ⟨(show q_F (lx39.toInt ≤ 1) from (show lx39.toInt ≤ 1 from by have t1 : lx39.toInt ≤ 1 := i48; omega)), (show q_F (1 ≤ lx39.toInt + 1) from (show 1 ≤ lx39.toInt + 1 from by have t1 : 0 ≤ lx39.toInt := i47; omega)), V, q_lw hl (q_lw1 0 rfl (q_lw1 1 rfl (q_lw1 2 rfl (q_lw1 3 rfl q_lw0)))), (show F_DR_put_J41 x2 x3 x4 t0_0 t0_1 t0_2 t0_3 t0_4 t0_5 t0_6 t0_7 t0_8 t0_9 t0_10 t1_0 t2_0 t3_0 t4_0 t5_0 lx39 1 = (F_DR_put x2 x3 x4 t0_0 t0_1 t0_2 t0_3 t0_4 t0_5 t0_6 t0_7 t0_8 t0_9 t0_10 t1_0 t2_0 t3_0 t4_0 t5_0) from Eq.trans (by have c216x := c216; rw [← e61] at c216x; rw [F_DR_put_J13.eq_1, if_pos c56, if_neg c216x]) hR49), (show True ∧ S_DR_put_J41 x2 x3 x4 t0_0 t0_1 t0_2 t0_3 t0_4 t0_5 t0_6 t0_7 t0_8 t0_9 t0_10 t1_0 t2_0 t3_0 t4_0 t5_0 lx39 1 from (by have h := hS50; rw [S_DR_put_J13.eq_1] at h; rw [if_pos c56] at h; have c216x := c216; rw [← e61] at c216x; rw [if_neg c216x] at h; with_reducible exact h))⟩
    ·
      have b219 : q_F (0 < lx39.toInt) := (q_nleI c56)
      exact q_retv C0 V (⟨hI, hF, lx39, t0_1, t0_2, t0_3, t0_4, t0_5, t0_6, t0_7, t0_8, t0_9, t0_10, t1_0, t2_0, t3_0, t4_0, t5_0, hT0, hT1, hT2, hT3, hT4, hT5, (show 0 ≤ t0_4.toInt from (by have t1 : 0 ≤ t0_4.toInt ∧ t0_4.toInt ≤ 1 := btt0_4; omega)), (show 0 ≤ t0_5.toInt from (by have t1 : 0 ≤ t0_5.toInt ∧ t0_5.toInt ≤ 1 := btt0_5; omega)), (show t0_5.toInt ≤ 1 from (by have t1 : 0 ≤ t0_5.toInt ∧ t0_5.toInt ≤ 1 := btt0_5; omega)), (show t0_1.toInt ≤ t0_1.toInt from (by omega)), (show t0_1.toInt ≤ t0_1.toInt from (by omega)), (show t0_4.toInt ≤ t0_4.toInt from (by omega)), (show t0_6.toInt ≤ t0_6.toInt from (by omega)), (show t0_6.toInt ≤ t0_6.toInt from (by omega)), (show t0_7.toInt ≤ t0_7.toInt from (by omega)), (show t0_7.toInt ≤ t0_7.toInt from (by omega)), (show t0_8.toInt ≤ t0_8.toInt from (by omega)), (show t0_8.toInt ≤ t0_8.toInt from (by omega)), (show t0_9.toInt ≤ t0_9.toInt from (by omega)), (show t0_9.toInt ≤ t0_9.toInt from (by omega)), (show (lx39, t0_1, t0_2, t0_3, t0_4, t0_5, t0_6, t0_7, t0_8, t0_9, t0_10, t1_0, t2_0, t3_0, t4_0, t5_0) = (F_DR_put x2 x3 x4 t0_0 t0_1 t0_2 t0_3 t0_4 t0_5 t0_6 t0_7 t0_8 t0_9 t0_10 t1_0 t2_0 t3_0 t4_0 t5_0) from Eq.trans (by rw [F_DR_put_J13.eq_1, if_neg c56]) hR49)⟩) d_15_22_23
  ·
    intro J46
    refine lv_if_eq (tgt := 12) hx hb d_15_22_5 (by decide) (fun c220 => ?_) (fun c220 => ?_)
    ·
      have b221 : q_F (a34.toInt = 0) := (q_eqI c220)
      refine lv_iconst (v := 0) hx hb d_15_22_12 (by decide) ?_
      exact J46 ((0 : Int32)) _ _ _ ws ⟨(show q_F (0 ≤ 0) from (show 0 ≤ 0 from by omega)), (show q_F (0 ≤ 1) from (show 0 ≤ 1 from by omega)), V, q_lw hl (q_lw1 0 rfl (q_lw1 1 rfl (q_lw1 2 rfl (q_lw1 3 rfl q_lw0)))), (show F_DR_put_J13 x2 x3 x4 t0_0 t0_1 t0_2 t0_3 t0_4 t0_5 t0_6 t0_7 t0_8 t0_9 t0_10 t1_0 t2_0 t3_0 t4_0 t5_0 0 = (F_DR_put x2 x3 x4 t0_0 t0_1 t0_2 t0_3 t0_4 t0_5 t0_6 t0_7 t0_8 t0_9 t0_10 t1_0 t2_0 t3_0 t4_0 t5_0) from (by have c220x := c220; rw [e38] at c220x; rw [F_DR_put.eq_1, if_pos c220x])), (show True ∧ S_DR_put_J13 x2 x3 x4 t0_0 t0_1 t0_2 t0_3 t0_4 t0_5 t0_6 t0_7 t0_8 t0_9 t0_10 t1_0 t2_0 t3_0 t4_0 t5_0 0 from (by have h := hS; rw [S_DR_put.eq_1] at h; have c220x := c220; rw [e38] at c220x; rw [if_pos c220x] at h; with_reducible exact h))⟩
    ·
      have b222 : q_F (a34.toInt ≠ 0) := (q_neI c220)
      refine lv_iconst (v := 1) hx hb d_15_22_8 (by decide) ?_
      refine lv_goto (tgt := 13) hx hb d_15_22_9 (by decide) ?_
      exact J46 ((1 : Int32)) _ _ _ ws ⟨(show q_F (0 ≤ 1) from (show 0 ≤ 1 from by omega)), (show q_F (1 ≤ 1) from (show 1 ≤ 1 from by omega)), V, q_lw hl (q_lw1 0 rfl (q_lw1 1 rfl (q_lw1 2 rfl (q_lw1 3 rfl q_lw0)))), (show F_DR_put_J13 x2 x3 x4 t0_0 t0_1 t0_2 t0_3 t0_4 t0_5 t0_6 t0_7 t0_8 t0_9 t0_10 t1_0 t2_0 t3_0 t4_0 t5_0 1 = (F_DR_put x2 x3 x4 t0_0 t0_1 t0_2 t0_3 t0_4 t0_5 t0_6 t0_7 t0_8 t0_9 t0_10 t1_0 t2_0 t3_0 t4_0 t5_0) from (by have c220x := c220; rw [e38] at c220x; rw [F_DR_put.eq_1, if_neg c220x])), (show True ∧ S_DR_put_J13 x2 x3 x4 t0_0 t0_1 t0_2 t0_3 t0_4 t0_5 t0_6 t0_7 t0_8 t0_9 t0_10 t1_0 t2_0 t3_0 t4_0 t5_0 1 from (by have h := hS; rw [S_DR_put.eq_1] at h; have c220x := c220; rw [e38] at c220x; rw [if_neg c220x] at h; with_reducible exact h))⟩
