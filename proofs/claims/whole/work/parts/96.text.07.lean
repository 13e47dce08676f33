theorem d_18_30_0 : decode prog_18_method_30_code 0 = .ok (.aload_n 0, 1) := by decide +kernel
theorem d_18_30_1 : decode prog_18_method_30_code 1 = .ok (.aload_n 0, 1) := by decide +kernel
theorem d_18_30_2 : decode prog_18_method_30_code 2 = .ok (.invokevirtual 92, 3) := by decide +kernel
set_option maxRecDepth 100000 in
theorem w_2426 : (Cond.code ({ cls := "NumberHouseModel$TextRows", name := "scan", desc := "()Z" } : MethodName) prog_18_method_16_code (2 : Nat) (some .boolean)) ∈ q_tbl := q_of11 26 rfl (by decide +kernel)
set_option maxRecDepth 100000 in
theorem w_2423 : (Cond.methodLink "NumberHouseModel$TextRows" (92 : Nat) ({ cls := "NumberHouseModel$TextRows", name := "scan", desc := "()Z" } : MethodName)) ∈ q_tbl := q_of11 23 rfl (by decide +kernel)
set_option maxRecDepth 100000 in
theorem w_2425 : (Cond.instanceMethod ({ cls := "NumberHouseModel$TextRows", name := "scan", desc := "()Z" } : MethodName)) ∈ q_tbl := q_of11 25 rfl (by decide +kernel)
theorem ws_65 : Cond.selects "NumberHouseModel$TextRows" (⟨"NumberHouseModel$TextRows", "scan", "()Z"⟩ : MethodName) (⟨"NumberHouseModel$TextRows", "scan", "()Z"⟩ : MethodName) ∈ q_tbl := q_ofs 65 (by decide +kernel) (by decide +kernel)
theorem LV_TR_92 : q_LV "NumberHouseModel$TextRows" 92 y_TR_scan prog_18_method_16_code 2 (some .boolean) 0 := ⟨w_2426, w_18, w_2423, w_2425, ws_65, ⟨by decide, by decide, by decide +kernel⟩⟩
theorem d_18_30_13 : decode prog_18_method_30_code 13 = .ok (.putfield 19, 3) := by decide +kernel
set_option maxRecDepth 100000 in
theorem w_2138 : (Cond.fieldLink "NumberHouseModel$TextRows" (19 : Nat) "NumberHouseModel$TextRows" "thrown" "I") ∈ q_tbl := q_of9 218 rfl (by decide +kernel)
theorem d_18_30_16 : decode prog_18_method_30_code 16 = .ok (.aload_n 0, 1) := by decide +kernel
theorem d_18_30_17 : decode prog_18_method_30_code 17 = .ok (.getfield 19, 3) := by decide +kernel
theorem d_18_30_20 : decode prog_18_method_30_code 20 = .ok (.ifCond .le 5, 3) := by decide +kernel
theorem d_18_30_25 : decode prog_18_method_30_code 25 = .ok (.aload_n 0, 1) := by decide +kernel
theorem d_18_30_26 : decode prog_18_method_30_code 26 = .ok (.bipush 53, 2) := by decide +kernel
theorem d_18_30_28 : decode prog_18_method_30_code 28 = .ok (.sipush (-1074), 3) := by decide +kernel
theorem d_18_30_31 : decode prog_18_method_30_code 31 = .ok (.invokevirtual 172, 3) := by decide +kernel
set_option maxRecDepth 100000 in
theorem w_2470 : (Cond.code ({ cls := "NumberHouseModel$TextRows", name := "sizeRead", desc := "(II)J" } : MethodName) prog_18_method_29_code (3 : Nat) (some .long)) ∈ q_tbl := q_of11 70 rfl (by decide +kernel)
set_option maxRecDepth 100000 in
theorem w_2467 : (Cond.methodLink "NumberHouseModel$TextRows" (172 : Nat) ({ cls := "NumberHouseModel$TextRows", name := "sizeRead", desc := "(II)J" } : MethodName)) ∈ q_tbl := q_of11 67 rfl (by decide +kernel)
set_option maxRecDepth 100000 in
theorem w_2469 : (Cond.instanceMethod ({ cls := "NumberHouseModel$TextRows", name := "sizeRead", desc := "(II)J" } : MethodName)) ∈ q_tbl := q_of11 69 rfl (by decide +kernel)
theorem ws_73 : Cond.selects "NumberHouseModel$TextRows" (⟨"NumberHouseModel$TextRows", "sizeRead", "(II)J"⟩ : MethodName) (⟨"NumberHouseModel$TextRows", "sizeRead", "(II)J"⟩ : MethodName) ∈ q_tbl := q_ofs 73 (by decide +kernel) (by decide +kernel)
theorem LV_TR_172 : q_LV "NumberHouseModel$TextRows" 172 y_TR_sizeRead prog_18_method_29_code 3 (some .long) 2 := ⟨w_2470, w_18, w_2467, w_2469, ws_73, ⟨by decide, by decide, by decide +kernel⟩⟩
theorem d_18_30_34 : decode prog_18_method_30_code 34 = .ok (.lstore_n 1, 1) := by decide +kernel
theorem d_18_30_35 : decode prog_18_method_30_code 35 = .ok (.aload_n 0, 1) := by decide +kernel
theorem d_18_30_36 : decode prog_18_method_30_code 36 = .ok (.getfield 77, 3) := by decide +kernel
theorem d_18_30_39 : decode prog_18_method_30_code 39 = .ok (.ifCond .eq 19, 3) := by decide +kernel
theorem d_18_30_58 : decode prog_18_method_30_code 58 = .ok (.lload_n 1, 1) := by decide +kernel
theorem d_18_30_59 : decode prog_18_method_30_code 59 = .ok (.lreturn, 1) := by decide +kernel
theorem d_18_30_42 : decode prog_18_method_30_code 42 = .ok (.aload_n 0, 1) := by decide +kernel
theorem d_18_30_43 : decode prog_18_method_30_code 43 = .ok (.getfield 59, 3) := by decide +kernel
theorem d_18_30_46 : decode prog_18_method_30_code 46 = .ok (.iconst 3, 1) := by decide +kernel
theorem d_18_30_47 : decode prog_18_method_30_code 47 = .ok (.if_icmp .ge 11, 3) := by decide +kernel
theorem d_18_30_50 : decode prog_18_method_30_code 50 = .ok (.lload_n 1, 1) := by decide +kernel
theorem d_18_30_51 : decode prog_18_method_30_code 51 = .ok (.ldc2_w 176, 3) := by decide +kernel
set_option maxRecDepth 100000 in
theorem w_2524 : (Cond.constantLong "NumberHouseModel$TextRows" (176 : Nat) (-9223372036854775808 : Int64)) ∈ q_tbl := q_of11 124 rfl (by decide +kernel)
theorem d_18_30_54 : decode prog_18_method_30_code 54 = .ok (.lor, 1) := by decide +kernel
theorem d_18_30_55 : decode prog_18_method_30_code 55 = .ok (.goto 4, 3) := by decide +kernel
theorem d_18_30_23 : decode prog_18_method_30_code 23 = .ok (.lconst 0, 1) := by decide +kernel
theorem d_18_30_24 : decode prog_18_method_30_code 24 = .ok (.lreturn, 1) := by decide +kernel
theorem d_18_30_5 : decode prog_18_method_30_code 5 = .ok (.ifCond .eq 7, 3) := by decide +kernel
theorem d_18_30_12 : decode prog_18_method_30_code 12 = .ok (.iconst 1, 1) := by decide +kernel
theorem d_18_30_8 : decode prog_18_method_30_code 8 = .ok (.iconst 0, 1) := by decide +kernel
theorem d_18_30_9 : decode prog_18_method_30_code 9 = .ok (.goto 4, 3) := by decide +kernel
def y_TR_bits : MethodName := ⟨"NumberHouseModel$TextRows", "bits", "()J"⟩
def F_TR_bits_c31 (t0_0 : Int32) (t0_1 : Int32) (t0_2 : Int32) (t0_3 : Int32) (t0_4 : Int32) (t0_5 : Int32) (t0_6 : Int32) (t0_7 : Int64) (t0_8 : Int32) (t0_9 : Int32) (t0_10 : Int64) (t0_11 : Int64) (t0_12 : Int32) (t0_13 : Int32) (t1_0 : (Nat → Int32)) (t2_0 : (Nat → Int32)) (t3_0 : (Nat → Int32)) (p73 : (Int32 × Int32 × Int32 × Int32 × Int32 × Int32 × Int32 × Int32 × Int64 × Int32 × Int32 × Int64 × Int64 × Int32 × Int32 × (Nat → Int32))) (y33 : Int32) (y34 : Int32) (y35 : Int32) (y36 : Int32) (y37 : Int32) (y38 : Int32) (y39 : Int32) (y40 : Int64) (y41 : Int32) (y42 : Int32) (y43 : Int64) (y44 : Int64) (y45 : Int32) (y46 : Int32) (f47 : (Nat → Int32)) (lx96 : Int32) (p154 : (Int64 × Int32 × Int32 × Int32 × Int32 × Int32 × Int32 × Int32 × Int64 × Int32 × Int32 × Int64 × Int64 × Int32 × Int32 × (Nat → Int32))) : Int64 × Int32 × Int32 × Int32 × Int32 × Int32 × Int32 × Int32 × Int64 × Int32 × Int32 × Int64 × Int64 × Int32 × Int32 × (Nat → Int32) × (Nat → Int32) := if (p154.2.2.2.2.2.1 : Int32) = (0 : Int32) then (((p154.1 : Int64), (p154.2.1 : Int32), (p154.2.2.1 : Int32), (p154.2.2.2.1 : Int32), (p154.2.2.2.2.1 : Int32), (p154.2.2.2.2.2.1 : Int32), (p154.2.2.2.2.2.2.1 : Int32), (p154.2.2.2.2.2.2.2.1 : Int32), (p154.2.2.2.2.2.2.2.2.1 : Int64), (p154.2.2.2.2.2.2.2.2.2.1 : Int32), (p154.2.2.2.2.2.2.2.2.2.2.1 : Int32), (p154.2.2.2.2.2.2.2.2.2.2.2.1 : Int64), (p154.2.2.2.2.2.2.2.2.2.2.2.2.1 : Int64), (p154.2.2.2.2.2.2.2.2.2.2.2.2.2.1 : Int32), (p154.2.2.2.2.2.2.2.2.2.2.2.2.2.2.1 : Int32), f47, (p154.2.2.2.2.2.2.2.2.2.2.2.2.2.2.2 : (Nat → Int32)))) else (if (3 : Int32) ≤ (p154.2.2.2.1 : Int32) then (((p154.1 : Int64), (p154.2.1 : Int32), (p154.2.2.1 : Int32), (p154.2.2.2.1 : Int32), (p154.2.2.2.2.1 : Int32), (p154.2.2.2.2.2.1 : Int32), (p154.2.2.2.2.2.2.1 : Int32), (p154.2.2.2.2.2.2.2.1 : Int32), (p154.2.2.2.2.2.2.2.2.1 : Int64), (p154.2.2.2.2.2.2.2.2.2.1 : Int32), (p154.2.2.2.2.2.2.2.2.2.2.1 : Int32), (p154.2.2.2.2.2.2.2.2.2.2.2.1 : Int64), (p154.2.2.2.2.2.2.2.2.2.2.2.2.1 : Int64), (p154.2.2.2.2.2.2.2.2.2.2.2.2.2.1 : Int32), (p154.2.2.2.2.2.2.2.2.2.2.2.2.2.2.1 : Int32), f47, (p154.2.2.2.2.2.2.2.2.2.2.2.2.2.2.2 : (Nat → Int32)))) else ((((p154.1 : Int64) ||| (-9223372036854775808) : Int64), (p154.2.1 : Int32), (p154.2.2.1 : Int32), (p154.2.2.2.1 : Int32), (p154.2.2.2.2.1 : Int32), (p154.2.2.2.2.2.1 : Int32), (p154.2.2.2.2.2.2.1 : Int32), (p154.2.2.2.2.2.2.2.1 : Int32), (p154.2.2.2.2.2.2.2.2.1 : Int64), (p154.2.2.2.2.2.2.2.2.2.1 : Int32), (p154.2.2.2.2.2.2.2.2.2.2.1 : Int32), (p154.2.2.2.2.2.2.2.2.2.2.2.1 : Int64), (p154.2.2.2.2.2.2.2.2.2.2.2.2.1 : Int64), (p154.2.2.2.2.2.2.2.2.2.2.2.2.2.1 : Int32), (p154.2.2.2.2.2.2.2.2.2.2.2.2.2.2.1 : Int32), f47, (p154.2.2.2.2.2.2.2.2.2.2.2.2.2.2.2 : (Nat → Int32)))))
def F_TR_bits_J13 (t0_0 : Int32) (t0_1 : Int32) (t0_2 : Int32) (t0_3 : Int32) (t0_4 : Int32) (t0_5 : Int32) (t0_6 : Int32) (t0_7 : Int64) (t0_8 : Int32) (t0_9 : Int32) (t0_10 : Int64) (t0_11 : Int64) (t0_12 : Int32) (t0_13 : Int32) (t1_0 : (Nat → Int32)) (t2_0 : (Nat → Int32)) (t3_0 : (Nat → Int32)) (p73 : (Int32 × Int32 × Int32 × Int32 × Int32 × Int32 × Int32 × Int32 × Int64 × Int32 × Int32 × Int64 × Int64 × Int32 × Int32 × (Nat → Int32))) (y33 : Int32) (y34 : Int32) (y35 : Int32) (y36 : Int32) (y37 : Int32) (y38 : Int32) (y39 : Int32) (y40 : Int64) (y41 : Int32) (y42 : Int32) (y43 : Int64) (y44 : Int64) (y45 : Int32) (y46 : Int32) (f47 : (Nat → Int32)) (lx96 : Int32) : Int64 × Int32 × Int32 × Int32 × Int32 × Int32 × Int32 × Int32 × Int64 × Int32 × Int32 × Int64 × Int64 × Int32 × Int32 × (Nat → Int32) × (Nat → Int32) := if lx96 ≤ (0 : Int32) then (F_TR_bits_c31 t0_0 t0_1 t0_2 t0_3 t0_4 t0_5 t0_6 t0_7 t0_8 t0_9 t0_10 t0_11 t0_12 t0_13 t1_0 t2_0 t3_0 p73 y33 y34 y35 y36 y37 y38 y39 y40 y41 y42 y43 y44 y45 y46 f47 lx96 ((F_TR_sizeRead (53 : Int32) (-1074 : Int32) lx96 y34 y35 y36 y37 y38 y39 y40 y41 y42 y43 y44 y45 y46 f47 t3_0) : (Int64 × Int32 × Int32 × Int32 × Int32 × Int32 × Int32 × Int32 × Int64 × Int32 × Int32 × Int64 × Int64 × Int32 × Int32 × (Nat → Int32)))) else (((0 : Int64), lx96, y34, y35, y36, y37, y38, y39, y40, y41, y42, y43, y44, y45, y46, f47, t3_0))
def F_TR_bits_c2 (t0_0 : Int32) (t0_1 : Int32) (t0_2 : Int32) (t0_3 : Int32) (t0_4 : Int32) (t0_5 : Int32) (t0_6 : Int32) (t0_7 : Int64) (t0_8 : Int32) (t0_9 : Int32) (t0_10 : Int64) (t0_11 : Int64) (t0_12 : Int32) (t0_13 : Int32) (t1_0 : (Nat → Int32)) (t2_0 : (Nat → Int32)) (t3_0 : (Nat → Int32)) (p73 : (Int32 × Int32 × Int32 × Int32 × Int32 × Int32 × Int32 × Int32 × Int64 × Int32 × Int32 × Int64 × Int64 × Int32 × Int32 × (Nat → Int32))) : Int64 × Int32 × Int32 × Int32 × Int32 × Int32 × Int32 × Int32 × Int64 × Int32 × Int32 × Int64 × Int64 × Int32 × Int32 × (Nat → Int32) × (Nat → Int32) := if (p73.1 : Int32) = (0 : Int32) then (F_TR_bits_J13 t0_0 t0_1 t0_2 t0_3 t0_4 t0_5 t0_6 t0_7 t0_8 t0_9 t0_10 t0_11 t0_12 t0_13 t1_0 t2_0 t3_0 p73 (p73.2.1 : Int32) (p73.2.2.1 : Int32) (p73.2.2.2.1 : Int32) (p73.2.2.2.2.1 : Int32) (p73.2.2.2.2.2.1 : Int32) (p73.2.2.2.2.2.2.1 : Int32) (p73.2.2.2.2.2.2.2.1 : Int32) (p73.2.2.2.2.2.2.2.2.1 : Int64) (p73.2.2.2.2.2.2.2.2.2.1 : Int32) (p73.2.2.2.2.2.2.2.2.2.2.1 : Int32) (p73.2.2.2.2.2.2.2.2.2.2.2.1 : Int64) (p73.2.2.2.2.2.2.2.2.2.2.2.2.1 : Int64) (p73.2.2.2.2.2.2.2.2.2.2.2.2.2.1 : Int32) (p73.2.2.2.2.2.2.2.2.2.2.2.2.2.2.1 : Int32) (p73.2.2.2.2.2.2.2.2.2.2.2.2.2.2.2 : (Nat → Int32)) 1) else (F_TR_bits_J13 t0_0 t0_1 t0_2 t0_3 t0_4 t0_5 t0_6 t0_7 t0_8 t0_9 t0_10 t0_11 t0_12 t0_13 t1_0 t2_0 t3_0 p73 (p73.2.1 : Int32) (p73.2.2.1 : Int32) (p73.2.2.2.1 : Int32) (p73.2.2.2.2.1 : Int32) (p73.2.2.2.2.2.1 : Int32) (p73.2.2.2.2.2.2.1 : Int32) (p73.2.2.2.2.2.2.2.1 : Int32) (p73.2.2.2.2.2.2.2.2.1 : Int64) (p73.2.2.2.2.2.2.2.2.2.1 : Int32) (p73.2.2.2.2.2.2.2.2.2.2.1 : Int32) (p73.2.2.2.2.2.2.2.2.2.2.2.1 : Int64) (p73.2.2.2.2.2.2.2.2.2.2.2.2.1 : Int64) (p73.2.2.2.2.2.2.2.2.2.2.2.2.2.1 : Int32) (p73.2.2.2.2.2.2.2.2.2.2.2.2.2.2.1 : Int32) (p73.2.2.2.2.2.2.2.2.2.2.2.2.2.2.2 : (Nat → Int32)) 0)
def F_TR_bits (t0_0 : Int32) (t0_1 : Int32) (t0_2 : Int32) (t0_3 : Int32) (t0_4 : Int32) (t0_5 : Int32) (t0_6 : Int32) (t0_7 : Int64) (t0_8 : Int32) (t0_9 : Int32) (t0_10 : Int64) (t0_11 : Int64) (t0_12 : Int32) (t0_13 : Int32) (t1_0 : (Nat → Int32)) (t2_0 : (Nat → Int32)) (t3_0 : (Nat → Int32)) : Int64 × Int32 × Int32 × Int32 × Int32 × Int32 × Int32 × Int32 × Int64 × Int32 × Int32 × Int64 × Int64 × Int32 × Int32 × (Nat → Int32) × (Nat → Int32) := F_TR_bits_c2 t0_0 t0_1 t0_2 t0_3 t0_4 t0_5 t0_6 t0_7 t0_8 t0_9 t0_10 t0_11 t0_12 t0_13 t1_0 t2_0 t3_0 ((F_TR_scan t0_0 t0_1 t0_2 t0_3 t0_4 t0_5 t0_6 t0_7 t0_8 t0_9 t0_10 t0_11 t0_12 t0_13 t1_0 t2_0) : (Int32 × Int32 × Int32 × Int32 × Int32 × Int32 × Int32 × Int32 × Int64 × Int32 × Int32 × Int64 × Int64 × Int32 × Int32 × (Nat → Int32)))
def S_TR_bits_c31 (t0_0 : Int32) (t0_1 : Int32) (t0_2 : Int32) (t0_3 : Int32) (t0_4 : Int32) (t0_5 : Int32) (t0_6 : Int32) (t0_7 : Int64) (t0_8 : Int32) (t0_9 : Int32) (t0_10 : Int64) (t0_11 : Int64) (t0_12 : Int32) (t0_13 : Int32) (t1_0 : (Nat → Int32)) (t2_0 : (Nat → Int32)) (t3_0 : (Nat → Int32)) (p73 : (Int32 × Int32 × Int32 × Int32 × Int32 × Int32 × Int32 × Int32 × Int64 × Int32 × Int32 × Int64 × Int64 × Int32 × Int32 × (Nat → Int32))) (y33 : Int32) (y34 : Int32) (y35 : Int32) (y36 : Int32) (y37 : Int32) (y38 : Int32) (y39 : Int32) (y40 : Int64) (y41 : Int32) (y42 : Int32) (y43 : Int64) (y44 : Int64) (y45 : Int32) (y46 : Int32) (f47 : (Nat → Int32)) (lx96 : Int32) (p154 : (Int64 × Int32 × Int32 × Int32 × Int32 × Int32 × Int32 × Int32 × Int64 × Int32 × Int32 × Int64 × Int64 × Int32 × Int32 × (Nat → Int32))) : Prop := if (p154.2.2.2.2.2.1 : Int32) = (0 : Int32) then (True) else (if (3 : Int32) ≤ (p154.2.2.2.1 : Int32) then (True) else (True))
def S_TR_bits_J13 (t0_0 : Int32) (t0_1 : Int32) (t0_2 : Int32) (t0_3 : Int32) (t0_4 : Int32) (t0_5 : Int32) (t0_6 : Int32) (t0_7 : Int64) (t0_8 : Int32) (t0_9 : Int32) (t0_10 : Int64) (t0_11 : Int64) (t0_12 : Int32) (t0_13 : Int32) (t1_0 : (Nat → Int32)) (t2_0 : (Nat → Int32)) (t3_0 : (Nat → Int32)) (p73 : (Int32 × Int32 × Int32 × Int32 × Int32 × Int32 × Int32 × Int32 × Int64 × Int32 × Int32 × Int64 × Int64 × Int32 × Int32 × (Nat → Int32))) (y33 : Int32) (y34 : Int32) (y35 : Int32) (y36 : Int32) (y37 : Int32) (y38 : Int32) (y39 : Int32) (y40 : Int64) (y41 : Int32) (y42 : Int32) (y43 : Int64) (y44 : Int64) (y45 : Int32) (y46 : Int32) (f47 : (Nat → Int32)) (lx96 : Int32) : Prop := if lx96 ≤ (0 : Int32) then ((True ∧ S_TR_sizeRead (53 : Int32) (-1074 : Int32) lx96 y34 y35 y36 y37 y38 y39 y40 y41 y42 y43 y44 y45 y46 f47 t3_0) ∧ (S_TR_bits_c31 t0_0 t0_1 t0_2 t0_3 t0_4 t0_5 t0_6 t0_7 t0_8 t0_9 t0_10 t0_11 t0_12 t0_13 t1_0 t2_0 t3_0 p73 y33 y34 y35 y36 y37 y38 y39 y40 y41 y42 y43 y44 y45 y46 f47 lx96 ((F_TR_sizeRead (53 : Int32) (-1074 : Int32) lx96 y34 y35 y36 y37 y38 y39 y40 y41 y42 y43 y44 y45 y46 f47 t3_0) : (Int64 × Int32 × Int32 × Int32 × Int32 × Int32 × Int32 × Int32 × Int64 × Int32 × Int32 × Int64 × Int64 × Int32 × Int32 × (Nat → Int32))))) else (True)
def S_TR_bits_c2 (t0_0 : Int32) (t0_1 : Int32) (t0_2 : Int32) (t0_3 : Int32) (t0_4 : Int32) (t0_5 : Int32) (t0_6 : Int32) (t0_7 : Int64) (t0_8 : Int32) (t0_9 : Int32) (t0_10 : Int64) (t0_11 : Int64) (t0_12 : Int32) (t0_13 : Int32) (t1_0 : (Nat → Int32)) (t2_0 : (Nat → Int32)) (t3_0 : (Nat → Int32)) (p73 : (Int32 × Int32 × Int32 × Int32 × Int32 × Int32 × Int32 × Int32 × Int64 × Int32 × Int32 × Int64 × Int64 × Int32 × Int32 × (Nat → Int32))) : Prop := if (p73.1 : Int32) = (0 : Int32) then (S_TR_bits_J13 t0_0 t0_1 t0_2 t0_3 t0_4 t0_5 t0_6 t0_7 t0_8 t0_9 t0_10 t0_11 t0_12 t0_13 t1_0 t2_0 t3_0 p73 (p73.2.1 : Int32) (p73.2.2.1 : Int32) (p73.2.2.2.1 : Int32) (p73.2.2.2.2.1 : Int32) (p73.2.2.2.2.2.1 : Int32) (p73.2.2.2.2.2.2.1 : Int32) (p73.2.2.2.2.2.2.2.1 : Int32) (p73.2.2.2.2.2.2.2.2.1 : Int64) (p73.2.2.2.2.2.2.2.2.2.1 : Int32) (p73.2.2.2.2.2.2.2.2.2.2.1 : Int32) (p73.2.2.2.2.2.2.2.2.2.2.2.1 : Int64) (p73.2.2.2.2.2.2.2.2.2.2.2.2.1 : Int64) (p73.2.2.2.2.2.2.2.2.2.2.2.2.2.1 : Int32) (p73.2.2.2.2.2.2.2.2.2.2.2.2.2.2.1 : Int32) (p73.2.2.2.2.2.2.2.2.2.2.2.2.2.2.2 : (Nat → Int32)) 1) else (S_TR_bits_J13 t0_0 t0_1 t0_2 t0_3 t0_4 t0_5 t0_6 t0_7 t0_8 t0_9 t0_10 t0_11 t0_12 t0_13 t1_0 t2_0 t3_0 p73 (p73.2.1 : Int32) (p73.2.2.1 : Int32) (p73.2.2.2.1 : Int32) (p73.2.2.2.2.1 : Int32) (p73.2.2.2.2.2.1 : Int32) (p73.2.2.2.2.2.2.1 : Int32) (p73.2.2.2.2.2.2.2.1 : Int32) (p73.2.2.2.2.2.2.2.2.1 : Int64) (p73.2.2.2.2.2.2.2.2.2.1 : Int32) (p73.2.2.2.2.2.2.2.2.2.2.1 : Int32) (p73.2.2.2.2.2.2.2.2.2.2.2.1 : Int64) (p73.2.2.2.2.2.2.2.2.2.2.2.2.1 : Int64) (p73.2.2.2.2.2.2.2.2.2.2.2.2.2.1 : Int32) (p73.2.2.2.2.2.2.2.2.2.2.2.2.2.2.1 : Int32) (p73.2.2.2.2.2.2.2.2.2.2.2.2.2.2.2 : (Nat → Int32)) 0)
def S_TR_bits (t0_0 : Int32) (t0_1 : Int32) (t0_2 : Int32) (t0_3 : Int32) (t0_4 : Int32) (t0_5 : Int32) (t0_6 : Int32) (t0_7 : Int64) (t0_8 : Int32) (t0_9 : Int32) (t0_10 : Int64) (t0_11 : Int64) (t0_12 : Int32) (t0_13 : Int32) (t1_0 : (Nat → Int32)) (t2_0 : (Nat → Int32)) (t3_0 : (Nat → Int32)) : Prop := (True ∧ S_TR_scan t0_0 t0_1 t0_2 t0_3 t0_4 t0_5 t0_6 t0_7 t0_8 t0_9 t0_10 t0_11 t0_12 t0_13 t1_0 t2_0) ∧ (S_TR_bits_c2 t0_0 t0_1 t0_2 t0_3 t0_4 t0_5 t0_6 t0_7 t0_8 t0_9 t0_10 t0_11 t0_12 t0_13 t1_0 t2_0 t3_0 ((F_TR_scan t0_0 t0_1 t0_2 t0_3 t0_4 t0_5 t0_6 t0_7 t0_8 t0_9 t0_10 t0_11 t0_12 t0_13 t1_0 t2_0) : (Int32 × Int32 × Int32 × Int32 × Int32 × Int32 × Int32 × Int32 × Int64 × Int32 × Int32 × Int64 × Int64 × Int32 × Int32 × (Nat → Int32))))
set_option maxRecDepth 100000 in
set_option maxHeartbeats 4000000 in
theorem X_TR_bits (l : Launch) (D : va_G) (g : Nat → ClassId) (q : Nat → Nat) (ws : va_W) (hI : q_I (msh g q) q ws) (t0_0 : Int32) (t0_1 : Int32) (t0_2 : Int32) (t0_3 : Int32) (t0_4 : Int32) (t0_5 : Int32) (t0_6 : Int32) (t0_7 : Int64) (t0_8 : Int32) (t0_9 : Int32) (t0_10 : Int64) (t0_11 : Int64) (t0_12 : Int32) (t0_13 : Int32) (hT0 : ws[153]? = (some (q 153, .inr (16, [.int t0_0, .ref (q 154), .int t0_1, .int t0_2, .int t0_3, .int t0_4, .ref (q 155), .int t0_5, .int t0_6, .long t0_7, .ref (q 156), .int t0_8, .int t0_9, .long t0_10, .long t0_11, .int t0_12, .int t0_13])) : Option (Nat × va_E))) (t1_0 : (Nat → Int32)) (hT1 : ws[154]? = (some (q 154, .inl (g 0, (4100 : Int32).toNatClampNeg, .inl t1_0)) : Option (Nat × va_E))) (t2_0 : (Nat → Int32)) (hT2 : ws[155]? = (some (q 155, .inl (g 0, (4100 : Int32).toNatClampNeg, .inl t2_0)) : Option (Nat × va_E))) (t3_0 : (Nat → Int32)) (hT3 : ws[156]? = (some (q 156, .inl (g 0, (800 : Int32).toNatClampNeg, .inl t3_0)) : Option (Nat × va_E))) (hS : True ∧ S_TR_bits t0_0 t0_1 t0_2 t0_3 t0_4 t0_5 t0_6 t0_7 t0_8 t0_9 t0_10 t0_11 t0_12 t0_13 t1_0 t2_0 t3_0) : q_mL l y_TR_bits prog_18_method_30_code 3 6 0 0 D g [.ref (q 153)] ws (fun r u => q_I (msh g q) q u ∧ q_un ws u [153, 155, 156] ∧ ∃ (u0_0 : Int32) (u0_1 : Int32) (u0_2 : Int32) (u0_3 : Int32) (u0_4 : Int32) (u0_5 : Int32) (u0_6 : Int32) (u0_7 : Int64) (u0_8 : Int32) (u0_9 : Int32) (u0_10 : Int64) (u0_11 : Int64) (u0_12 : Int32) (u0_13 : Int32) (u2_0 : (Nat → Int32)) (u3_0 : (Nat → Int32)), u[153]? = (some (q 153, .inr (16, [.int u0_0, .ref (q 154), .int u0_1, .int u0_2, .int u0_3, .int u0_4, .ref (q 155), .int u0_5, .int u0_6, .long u0_7, .ref (q 156), .int u0_8, .int u0_9, .long u0_10, .long u0_11, .int u0_12, .int u0_13])) : Option (Nat × va_E)) ∧ u[155]? = (some (q 155, .inl (g 0, (4100 : Int32).toNatClampNeg, .inl u2_0)) : Option (Nat × va_E)) ∧ u[156]? = (some (q 156, .inl (g 0, (800 : Int32).toNatClampNeg, .inl u3_0)) : Option (Nat × va_E)) ∧ (0 ≤ u0_0.toInt) ∧ (u0_0.toInt ≤ 1) ∧ (0 ≤ u0_2.toInt) ∧ (u0_2.toInt ≤ 3) ∧ (0 ≤ u0_4.toInt) ∧ (u0_4.toInt ≤ 1) ∧ (0 ≤ u0_13.toInt) ∧ (u0_13.toInt ≤ 1) ∧ (t0_1.toInt ≤ u0_1.toInt) ∧ (u0_1.toInt ≤ t0_1.toInt) ∧ (r, u0_0, u0_1, u0_2, u0_3, u0_4, u0_5, u0_6, u0_7, u0_8, u0_9, u0_10, u0_11, u0_12, u0_13, u2_0, u3_0) = (F_TR_bits t0_0 t0_1 t0_2 t0_3 t0_4 t0_5 t0_6 t0_7 t0_8 t0_9 t0_10 t0_11 t0_12 t0_13 t1_0 t2_0 t3_0)) := by
  intro sz
  refine q_into (by decide) (Nat.le_of_ble_eq_true rfl) ?_
  intro p e s m below meth c ls hsz C0 V hl
  have hx := C0.1
  have hb := C0.2.1
  obtain ⟨yy0_0, yy0_1, yy0_2, yy0_3, yy0_4, yy0_5, yy0_6, yy0_7, yy0_8, yy0_9, yy0_10, yy0_11, yy0_12, yy0_13, hh0, btt0_1, btt0_4, btt0_13⟩ := n_o153 hI
  obtain ⟨rfl, rfl, rfl, rfl, rfl, rfl, rfl, rfl, rfl, rfl, rfl, rfl, rfl, rfl⟩ : t0_0 = yy0_0 ∧ t0_1 = yy0_1 ∧ t0_2 = yy0_2 ∧ t0_3 = yy0_3 ∧ t0_4 = yy0_4 ∧ t0_5 = yy0_5 ∧ t0_6 = yy0_6 ∧ t0_7 = yy0_7 ∧ t0_8 = yy0_8 ∧ t0_9 = yy0_9 ∧ t0_10 = yy0_10 ∧ t0_11 = yy0_11 ∧ t0_12 = yy0_12 ∧ t0_13 = yy0_13 := by have z := Option.some.inj (hT0.symm.trans hh0); simpa using z
  replace btt0_1 : q_F (0 ≤ t0_1.toInt ∧ t0_1.toInt ≤ 4100) := btt0_1
  replace btt0_4 : q_F (0 ≤ t0_4.toInt ∧ t0_4.toInt ≤ 1) := btt0_4
  replace btt0_13 : q_F (0 ≤ t0_13.toInt ∧ t0_13.toInt ≤ 1) := btt0_13
  have hF : q_un ws ws [153, 155, 156] := q_u0
  have hl : lv_has ls 3 [(0, .ref (q 153))] := hl
  refine lv_aload_n hx hb d_18_30_0 rfl (lv_at hl 0 rfl) ?_
  refine lv_aload_n hx hb d_18_30_1 rfl (lv_at hl 0 rfl) ?_
  have ob28 : True ∧ S_TR_scan t0_0 t0_1 t0_2 t0_3 t0_4 t0_5 t0_6 t0_7 t0_8 t0_9 t0_10 t0_11 t0_12 t0_13 t1_0 t2_0 := (by have h := hS; rw [S_TR_bits.eq_1] at h; with_reducible exact h.2.1)
  refine q_goi V (q_runV (As := []) (rest := [.ref (q 153)]) (d := 5) (mc := 0) (ms := 0) (ci := 16) C0 V rfl LV_TR_92 (X_TR_scan l D g q ws   hI t0_0 t0_1 t0_2 t0_3 t0_4 t0_5 t0_6 t0_7 t0_8 t0_9 t0_10 t0_11 t0_12 t0_13 hT0 t1_0 hT1 t2_0 hT2 ob28 _) rfl rfl hT0 rfl hl.1 rfl (Nat.le_of_ble_eq_true rfl) ⟨by decide, by decide⟩ ⟨Nat.le_of_ble_eq_true rfl, Nat.le_of_ble_eq_true rfl⟩ d_18_30_2) (fun a31 u29 H locs hp30 V => ?_)
  obtain ⟨hI, hu72, y33, y34, y35, y36, y37, y38, y39, y40, y41, y42, y43, y44, y45, y46, f47, hO32, hA48, b49, b50, b51, b52, b53, b54, b55, b56, b57, b58, b59, b60, b61, b62, b63, b64, b65, b66, b67, b68, b69, b70, hE71⟩ := hp30
  replace hO32 : u29[153]? = (some (q 153, .inr (16, [.int y33, .ref (q 154), .int y34, .int y35, .int y36, .int y37, .ref (q 155), .int y38, .int y39, .long y40, .ref (q 156), .int y41, .int y42, .long y43, .long y44, .int y45, .int y46])) : Option (Nat × va_E)) := hO32
  replace hA48 : u29[155]? = (some (q 155, .inl (g 0, (4100 : Int32).toNatClampNeg, .inl f47)) : Option (Nat × va_E)) := hA48
  obtain ⟨p73, e74⟩ : ∃ z, z = (F_TR_scan t0_0 t0_1 t0_2 t0_3 t0_4 t0_5 t0_6 t0_7 t0_8 t0_9 t0_10 t0_11 t0_12 t0_13 t1_0 t2_0) := ⟨_, rfl⟩
  have e75 : a31 = p73.1 := congrArg (fun z => z.1) (hE71.trans e74.symm)
  have e76 : y33 = p73.2.1 := congrArg (fun z => z.2.1) (hE71.trans e74.symm)
  have e77 : y34 = p73.2.2.1 := congrArg (fun z => z.2.2.1) (hE71.trans e74.symm)
  have e78 : y35 = p73.2.2.2.1 := congrArg (fun z => z.2.2.2.1) (hE71.trans e74.symm)
  have e79 : y36 = p73.2.2.2.2.1 := congrArg (fun z => z.2.2.2.2.1) (hE71.trans e74.symm)
  have e80 : y37 = p73.2.2.2.2.2.1 := congrArg (fun z => z.2.2.2.2.2.1) (hE71.trans e74.symm)
  have e81 : y38 = p73.2.2.2.2.2.2.1 := congrArg (fun z => z.2.2.2.2.2.2.1) (hE71.trans e74.symm)
  have e82 : y39 = p73.2.2.2.2.2.2.2.1 := congrArg (fun z => z.2.2.2.2.2.2.2.1) (hE71.trans e74.symm)
  have e83 : y40 = p73.2.2.2.2.2.2.2.2.1 := congrArg (fun z => z.2.2.2.2.2.2.2.2.1) (hE71.trans e74.symm)
  have e84 : y41 = p73.2.2.2.2.2.2.2.2.2.1 := congrArg (fun z => z.2.2.2.2.2.2.2.2.2.1) (hE71.trans e74.symm)
  have e85 : y42 = p73.2.2.2.2.2.2.2.2.2.2.1 := congrArg (fun z => z.2.2.2.2.2.2.2.2.2.2.1) (hE71.trans e74.symm)
  have e86 : y43 = p73.2.2.2.2.2.2.2.2.2.2.2.1 := congrArg (fun z => z.2.2.2.2.2.2.2.2.2.2.2.1) (hE71.trans e74.symm)
  have e87 : y44 = p73.2.2.2.2.2.2.2.2.2.2.2.2.1 := congrArg (fun z => z.2.2.2.2.2.2.2.2.2.2.2.2.1) (hE71.trans e74.symm)
  have e88 : y45 = p73.2.2.2.2.2.2.2.2.2.2.2.2.2.1 := congrArg (fun z => z.2.2.2.2.2.2.2.2.2.2.2.2.2.1) (hE71.trans e74.symm)
  have e89 : y46 = p73.2.2.2.2.2.2.2.2.2.2.2.2.2.2.1 := congrArg (fun z => z.2.2.2.2.2.2.2.2.2.2.2.2.2.2.1) (hE71.trans e74.symm)
  have e90 : f47 = p73.2.2.2.2.2.2.2.2.2.2.2.2.2.2.2 := congrArg (fun z => z.2.2.2.2.2.2.2.2.2.2.2.2.2.2.2) (hE71.trans e74.symm)
  replace b49 : q_F (0 ≤ a31.toInt) := b49
  replace b50 : q_F (a31.toInt ≤ 1) := b50
  replace b51 : q_F (0 ≤ y35.toInt) := b51
  replace b52 : q_F (y35.toInt ≤ 3) := b52
  replace b53 : q_F (0 ≤ y37.toInt) := b53
  replace b54 : q_F (y37.toInt ≤ 1) := b54
  replace b55 : q_F (t0_0.toInt ≤ y33.toInt) := b55
  replace b56 : q_F (y33.toInt ≤ t0_0.toInt) := b56
  replace b57 : q_F (t0_1.toInt ≤ y34.toInt) := b57
  replace b58 : q_F (y34.toInt ≤ t0_1.toInt) := b58
  replace b59 : q_F (t0_8.toInt ≤ y41.toInt) := b59
  replace b60 : q_F (y41.toInt ≤ t0_8.toInt) := b60
  replace b61 : q_F (t0_9.toInt ≤ y42.toInt) := b61
  replace b62 : q_F (y42.toInt ≤ t0_9.toInt) := b62
  replace b63 : q_F (t0_10.toInt ≤ y43.toInt) := b63
  replace b64 : q_F (y43.toInt ≤ t0_10.toInt) := b64
  replace b65 : q_F (t0_11.toInt ≤ y44.toInt) := b65
  replace b66 : q_F (y44.toInt ≤ t0_11.toInt) := b66
  replace b67 : q_F (t0_12.toInt ≤ y45.toInt) := b67
  replace b68 : q_F (y45.toInt ≤ t0_12.toInt) := b68
  replace b69 : q_F (t0_13.toInt ≤ y46.toInt) := b69
  replace b70 : q_F (y46.toInt ≤ t0_13.toInt) := b70
  replace hT1 := (hu72 _ (by decide)).trans hT1
  replace hT3 := (hu72 _ (by decide)).trans hT3
  replace hF := q_uc hF hu72 (by simp)
  have hR91 := (show F_TR_bits_c2 t0_0 t0_1 t0_2 t0_3 t0_4 t0_5 t0_6 t0_7 t0_8 t0_9 t0_10 t0_11 t0_12 t0_13 t1_0 t2_0 t3_0 p73 = (F_TR_bits t0_0 t0_1 t0_2 t0_3 t0_4 t0_5 t0_6 t0_7 t0_8 t0_9 t0_10 t0_11 t0_12 t0_13 t1_0 t2_0 t3_0) from (by rw [e74, F_TR_bits.eq_1]))
  have hS92 := (show True ∧ S_TR_bits_c2 t0_0 t0_1 t0_2 t0_3 t0_4 t0_5 t0_6 t0_7 t0_8 t0_9 t0_10 t0_11 t0_12 t0_13 t1_0 t2_0 t3_0 p73 from (by rw [e74]; have h := hS; rw [S_TR_bits.eq_1] at h; replace h := q_s2 h; with_reducible exact h))
  refine q_join (X := Int32) (fun z H locs ls _ => q_F (0 ≤ z.toInt) ∧ q_F (z.toInt ≤ 1) ∧ q_Wd D g (va_A ws sz) s u29 H locs ∧ lv_has ls 3 [(0, .ref (q 153))] ∧ F_TR_bits_J13 t0_0 t0_1 t0_2 t0_3 t0_4 t0_5 t0_6 t0_7 t0_8 t0_9 t0_10 t0_11 t0_12 t0_13 t1_0 t2_0 t3_0 p73 y33 y34 y35 y36 y37 y38 y39 y40 y41 y42 y43 y44 y45 y46 f47 z = (F_TR_bits t0_0 t0_1 t0_2 t0_3 t0_4 t0_5 t0_6 t0_7 t0_8 t0_9 t0_10 t0_11 t0_12 t0_13 t1_0 t2_0 t3_0) ∧ True ∧ S_TR_bits_J13 t0_0 t0_1 t0_2 t0_3 t0_4 t0_5 t0_6 t0_7 t0_8 t0_9 t0_10 t0_11 t0_12 t0_13 t1_0 t2_0 t3_0 p73 y33 y34 y35 y36 y37 y38 y39 y40 y41 y42 y43 y44 y45 y46 f47 z) (fun z => [.int z, .ref (q 153)]) 13 0 0 ?_ ?_
  ·
    rintro lx96 H locs ls _ ⟨i102, i103, V, hl, hR104, hS105⟩
    replace i102 : q_F (0 ≤ lx96.toInt) := i102
    replace i103 : q_F (lx96.toInt ≤ 1) := i103
    replace hl : lv_has ls 3 [(0, .ref (q 153))] := hl
    refine q_put (ci := 16) (j := 0) (v := .int lx96) (ty := .int) C0 V i_TR o_TR n_TR rfl rfl hO32 (by decide) w_2138 rfl rfl rfl rfl (Nat.le_of_ble_eq_true rfl) d_18_30_13 (fun H locs w109 hu110 hO32 V => ?_)
    replace hO32 : w109[153]? = (some (q 153, .inr (16, [.int lx96, .ref (q 154), .int y34, .int y35, .int y36, .int y37, .ref (q 155), .int y38, .int y39, .long y40, .ref (q 156), .int y41, .int y42, .long y43, .long y44, .int y45, .int y46])) : Option (Nat × va_E)) := hO32
    replace hI := n_p153 hI hu110 hO32 ⟨(by have t1 : 0 ≤ t0_1.toInt ∧ t0_1.toInt ≤ 4100 := btt0_1; have t2 : t0_1.toInt ≤ y34.toInt := b57; omega), (by have t1 : 0 ≤ t0_1.toInt ∧ t0_1.toInt ≤ 4100 := btt0_1; have t2 : y34.toInt ≤ t0_1.toInt := b58; omega)⟩ ⟨(by have t1 : 0 ≤ y37.toInt := b53; omega), (by have t1 : y37.toInt ≤ 1 := b54; omega)⟩ ⟨(by have t1 : 0 ≤ t0_13.toInt ∧ t0_13.toInt ≤ 1 := btt0_13; have t2 : t0_13.toInt ≤ y46.toInt := b69; omega), (by have t1 : 0 ≤ t0_13.toInt ∧ t0_13.toInt ≤ 1 := btt0_13; have t2 : y46.toInt ≤ t0_13.toInt := b70; omega)⟩
    replace hT1 := (hu110 _ (by decide)).trans hT1
    replace hA48 := (hu110 _ (by decide)).trans hA48
    replace hT3 := (hu110 _ (by decide)).trans hT3
    replace hF := q_us hF hu110 (by simp)
    refine lv_aload_n hx hb d_18_30_16 rfl (lv_at hl 0 rfl) ?_
    refine q_get (ci := 16) (j := 0) (v := .int lx96) C0 V i_TR rfl rfl hO32 (by decide) w_2138 rfl d_18_30_17 ?_
    refine lv_if_le (tgt := 25) hx hb d_18_30_20 (by decide) (fun c111 => ?_) (fun c111 => ?_)
    ·
      have b112 : q_F (lx96.toInt ≤ 0) := (q_leI c111)
      refine lv_aload_n hx hb d_18_30_25 rfl (lv_at hl 0 rfl) ?_
      refine lv_bipush (v := 53) hx hb d_18_30_26 (by decide) ?_
      refine lv_sipush (v := (-1074)) hx hb d_18_30_28 (by decide) ?_
      have ob113 : True ∧ S_TR_sizeRead (53 : Int32) (-1074 : Int32) lx96 y34 y35 y36 y37 y38 y39 y40 y41 y42 y43 y44 y45 y46 f47 t3_0 := (by have h := hS105; rw [S_TR_bits_J13.eq_1] at h; rw [if_pos c111] at h; with_reducible exact h.2.1)
      refine q_gol V (q_runV (As := [.int 53, .int (-1074)]) (rest := []) (d := 4) (mc := 0) (ms := 0) (ci := 16) C0 V rfl LV_TR_172 (X_TR_sizeRead l D g q w109  53 (-1074) hI lx96 y34 y35 y36 y37 y38 y39 y40 y41 y42 y43 y44 y45 y46 hO32 f47 hA48 t3_0 hT3 ob113 _) rfl rfl hO32 rfl hl.1 rfl (Nat.le_of_ble_eq_true rfl) ⟨by decide, by decide⟩ ⟨Nat.le_of_ble_eq_true rfl, Nat.le_of_ble_eq_true rfl⟩ d_18_30_31) (fun j116 u114 H locs hp115 V => ?_)
      obtain ⟨hI, hu153, y118, y119, y120, y121, y122, y123, y124, y125, y126, y127, y128, y129, y130, y131, f132, hO117, hA133, b134, b135, b136, b137, b138, b139, b140, b141, b142, b143, b144, b145, b146, b147, b148, b149, b150, b151, hE152⟩ := hp115
      replace hO117 : u114[153]? = (some (q 153, .inr (16, [.int y118, .ref (q 154), .int y119, .int y120, .int y121, .int y122, .ref (q 155), .int y123, .int y124, .long y125, .ref (q 156), .int y126, .int y127, .long y128, .long y129, .int y130, .int y131])) : Option (Nat × va_E)) := hO117
      replace hA133 : u114[156]? = (some (q 156, .inl (g 0, (800 : Int32).toNatClampNeg, .inl f132)) : Option (Nat × va_E)) := hA133
      obtain ⟨p154, e155⟩ : ∃ z, z = (F_TR_sizeRead (53 : Int32) (-1074 : Int32) lx96 y34 y35 y36 y37 y38 y39 y40 y41 y42 y43 y44 y45 y46 f47 t3_0) := ⟨_, rfl⟩
      have e156 : j116 = p154.1 := congrArg (fun z => z.1) (hE152.trans e155.symm)
      have e157 : y118 = p154.2.1 := congrArg (fun z => z.2.1) (hE152.trans e155.symm)
      have e158 : y119 = p154.2.2.1 := congrArg (fun z => z.2.2.1) (hE152.trans e155.symm)
      have e159 : y120 = p154.2.2.2.1 := congrArg (fun z => z.2.2.2.1) (hE152.trans e155.symm)
      have e160 : y121 = p154.2.2.2.2.1 := congrArg (fun z => z.2.2.2.2.1) (hE152.trans e155.symm)
      have e161 : y122 = p154.2.2.2.2.2.1 := congrArg (fun z => z.2.2.2.2.2.1) (hE152.trans e155.symm)
      have e162 : y123 = p154.2.2.2.2.2.2.1 := congrArg (fun z => z.2.2.2.2.2.2.1) (hE152.trans e155.symm)
      have e163 : y124 = p154.2.2.2.2.2.2.2.1 := congrArg (fun z => z.2.2.2.2.2.2.2.1) (hE152.trans e155.symm)
      have e164 : y125 = p154.2.2.2.2.2.2.2.2.1 := congrArg (fun z => z.2.2.2.2.2.2.2.2.1) (hE152.trans e155.symm)
      have e165 : y126 = p154.2.2.2.2.2.2.2.2.2.1 := congrArg (fun z => z.2.2.2.2.2.2.2.2.2.1) (hE152.trans e155.symm)
      have e166 : y127 = p154.2.2.2.2.2.2.2.2.2.2.1 := congrArg (fun z => z.2.2.2.2.2.2.2.2.2.2.1) (hE152.trans e155.symm)
      have e167 : y128 = p154.2.2.2.2.2.2.2.2.2.2.2.1 := congrArg (fun z => z.2.2.2.2.2.2.2.2.2.2.2.1) (hE152.trans e155.symm)
      have e168 : y129 = p154.2.2.2.2.2.2.2.2.2.2.2.2.1 := congrArg (fun z => z.2.2.2.2.2.2.2.2.2.2.2.2.1) (hE152.trans e155.symm)
      have e169 : y130 = p154.2.2.2.2.2.2.2.2.2.2.2.2.2.1 := congrArg (fun z => z.2.2.2.2.2.2.2.2.2.2.2.2.2.1) (hE152.trans e155.symm)
      have e170 : y131 = p154.2.2.2.2.2.2.2.2.2.2.2.2.2.2.1 := congrArg (fun z => z.2.2.2.2.2.2.2.2.2.2.2.2.2.2.1) (hE152.trans e155.symm)
      have e171 : f132 = p154.2.2.2.2.2.2.2.2.2.2.2.2.2.2.2 := congrArg (fun z => z.2.2.2.2.2.2.2.2.2.2.2.2.2.2.2) (hE152.trans e155.symm)
      replace b134 : q_F (0 ≤ y131.toInt) := b134
      replace b135 : q_F (y131.toInt ≤ 1) := b135
      replace b136 : q_F (lx96.toInt ≤ y118.toInt) := b136
      replace b137 : q_F (y118.toInt ≤ lx96.toInt) := b137
      replace b138 : q_F (y34.toInt ≤ y119.toInt) := b138
      replace b139 : q_F (y119.toInt ≤ y34.toInt) := b139
      replace b140 : q_F (y35.toInt ≤ y120.toInt) := b140
      replace b141 : q_F (y120.toInt ≤ y35.toInt) := b141
      replace b142 : q_F (y36.toInt ≤ y121.toInt) := b142
      replace b143 : q_F (y121.toInt ≤ y36.toInt) := b143
      replace b144 : q_F (y37.toInt ≤ y122.toInt) := b144
      replace b145 : q_F (y122.toInt ≤ y37.toInt) := b145
      replace b146 : q_F (y38.toInt ≤ y123.toInt) := b146
      replace b147 : q_F (y123.toInt ≤ y38.toInt) := b147
      replace b148 : q_F (y39.toInt ≤ y124.toInt) := b148
      replace b149 : q_F (y124.toInt ≤ y39.toInt) := b149
      replace b150 : q_F (y40.toInt ≤ y125.toInt) := b150
      replace b151 : q_F (y125.toInt ≤ y40.toInt) := b151
      replace hT1 := (hu153 _ (by decide)).trans hT1
      replace hA48 := (hu153 _ (by decide)).trans hA48
      replace hF := q_uc hF hu153 (by simp)
      have hR172 := (show F_TR_bits_c31 t0_0 t0_1 t0_2 t0_3 t0_4 t0_5 t0_6 t0_7 t0_8 t0_9 t0_10 t0_11 t0_12 t0_13 t1_0 t2_0 t3_0 p73 y33 y34 y35 y36 y37 y38 y39 y40 y41 y42 y43 y44 y45 y46 f47 lx96 p154 = (F_TR_bits t0_0 t0_1 t0_2 t0_3 t0_4 t0_5 t0_6 t0_7 t0_8 t0_9 t0_10 t0_11 t0_12 t0_13 t1_0 t2_0 t3_0) from Eq.trans (by rw [e155, F_TR_bits_J13.eq_1, if_pos c111]) hR104)
      have hS173 := (show True ∧ S_TR_bits_c31 t0_0 t0_1 t0_2 t0_3 t0_4 t0_5 t0_6 t0_7 t0_8 t0_9 t0_10 t0_11 t0_12 t0_13 t1_0 t2_0 t3_0 p73 y33 y34 y35 y36 y37 y38 y39 y40 y41 y42 y43 y44 y45 y46 f47 lx96 p154 from (by rw [e155]; have h := hS105; rw [S_TR_bits_J13.eq_1] at h; rw [if_pos c111] at h; replace h := q_s2 h; with_reducible exact h))
      refine lv_lstore_n (lv' := [(1, .long j116), (0, .ref (q 153))]) hx hb d_18_30_34 rfl hl (by decide) rfl (fun ls hl => ?_)
      refine lv_aload_n hx hb d_18_30_35 rfl (lv_at hl 1 rfl) ?_
      refine q_get (ci := 16) (j := 5) (v := .int y122) C0 V i_TR rfl rfl hO117 (by decide) w_2145 rfl d_18_30_36 ?_
      refine lv_if_eq (tgt := 58) hx hb d_18_30_39 (by decide) (fun c177 => ?_) (fun c177 => ?_)
      ·
        have b178 : q_F (y122.toInt = 0) := (q_eqI c177)
        refine lv_lload_n hx hb d_18_30_58 rfl (lv_at hl 0 rfl) ?_
        exact q_retl C0 V (⟨hI, hF, y118, y119, y120, y121, y122, y123, y124, y125, y126, y127, y128, y129, y130, y131, f47, f132, hO117, hA48, hA133, (show 0 ≤ y118.toInt from (by have t1 : 0 ≤ lx96.toInt := i102; have t2 : lx96.toInt ≤ y118.toInt := b136; omega)), (show y118.toInt ≤ 1 from (by have t1 : lx96.toInt ≤ 1 := i103; have t2 : y118.toInt ≤ lx96.toInt := b137; omega)), (show 0 ≤ y120.toInt from (by have t1 : 0 ≤ y35.toInt := b51; have t2 : y35.toInt ≤ y120.toInt := b140; omega)), (show y120.toInt ≤ 3 from (by have t1 : y35.toInt ≤ 3 := b52; have t2 : y120.toInt ≤ y35.toInt := b141; omega)), (show 0 ≤ y122.toInt from (by have t1 : y122.toInt = 0 := b178; omega)), (show y122.toInt ≤ 1 from (by have t1 : y122.toInt = 0 := b178; omega)), (show 0 ≤ y131.toInt from (by have t1 : 0 ≤ y131.toInt := b134; omega)), (show y131.toInt ≤ 1 from (by have t1 : y131.toInt ≤ 1 := b135; omega)), (show t0_1.toInt ≤ y119.toInt from (by have t1 : t0_1.toInt ≤ y34.toInt := b57; have t2 : y34.toInt ≤ y119.toInt := b138; omega)), (show y119.toInt ≤ t0_1.toInt from (by have t1 : y34.toInt ≤ t0_1.toInt := b58; have t2 : y119.toInt ≤ y34.toInt := b139; omega)), (show (j116, y118, y119, y120, y121, y122, y123, y124, y125, y126, y127, y128, y129, y130, y131, f47, f132) = (F_TR_bits t0_0 t0_1 t0_2 t0_3 t0_4 t0_5 t0_6 t0_7 t0_8 t0_9 t0_10 t0_11 t0_12 t0_13 t1_0 t2_0 t3_0) from Eq.trans (by have c177x := c177; rw [e161] at c177x; rw [e171, e170, e169, e168, e167, e166, e165, e164, e163, e162, e161, e160, e159, e158, e157, e156, F_TR_bits_c31.eq_1, if_pos c177x]) hR172)⟩) d_18_30_59
      ·
        have b179 : q_F (y122.toInt ≠ 0) := (q_neI c177)
        refine lv_aload_n hx hb d_18_30_42 rfl (lv_at hl 1 rfl) ?_
        refine q_get (ci := 16) (j := 3) (v := .int y120) C0 V i_TR rfl rfl hO117 (by decide) w_2143 rfl d_18_30_43 ?_
        refine lv_iconst (v := 3) hx hb d_18_30_46 (by decide) ?_
        refine lv_icmp_ge (tgt := 58) hx hb d_18_30_47 (by decide) (fun c180 => ?_) (fun c180 => ?_)
        ·
          have b181 : q_F (3 ≤ y120.toInt) := (q_leI c180)
          refine lv_lload_n hx hb d_18_30_58 rfl (lv_at hl 0 rfl) ?_
          exact q_retl C0 V (⟨hI, hF, y118, y119, y120, y121, y122, y123, y124, y125, y126, y127, y128, y129, y130, y131, f47, f132, hO117, hA48, hA133, (show 0 ≤ y118.toInt from (by have t1 : 0 ≤ lx96.toInt := i102; have t2 : lx96.toInt ≤ y118.toInt := b136; omega)), (show y118.toInt ≤ 1 from (by have t1 : lx96.toInt ≤ 1 := i103; have t2 : y118.toInt ≤ lx96.toInt := b137; omega)), (show 0 ≤ y120.toInt from (by have t1 : 3 ≤ y120.toInt := b181; omega)), (show y120.toInt ≤ 3 from (by have t1 : y35.toInt ≤ 3 := b52; have t2 : y120.toInt ≤ y35.toInt := b141; omega)), (show 0 ≤ y122.toInt from (by have t1 : 0 ≤ y37.toInt := b53; have t2 : y37.toInt ≤ y122.toInt := b144; omega)), (show y122.toInt ≤ 1 from (by have t1 : y37.toInt ≤ 1 := b54; have t2 : y122.toInt ≤ y37.toInt := b145; omega)), (show 0 ≤ y131.toInt from (by have t1 : 0 ≤ y131.toInt := b134; omega)), (show y131.toInt ≤ 1 from (by have t1 : y131.toInt ≤ 1 := b135; omega)), (show t0_1.toInt ≤ y119.toInt from (by have t1 : t0_1.toInt ≤ y34.toInt := b57; have t2 : y34.toInt ≤ y119.toInt := b138; omega)), (show y119.toInt ≤ t0_1.toInt from (by have t1 : y34.toInt ≤ t0_1.toInt := b58; have t2 : y119.toInt ≤ y34.toInt := b139; omega)), (show (j116, y118, y119, y120, y121, y122, y123, y124, y125, y126, y127, y128, y129, y130, y131, f47, f132) = (F_TR_bits t0_0 t0_1 t0_2 t0_3 t0_4 t0_5 t0_6 t0_7 t0_8 t0_9 t0_10 t0_11 t0_12 t0_13 t1_0 t2_0 t3_0) from Eq.trans (by have c177x := c177; rw [e161] at c177x; have c180x := c180; rw [e159] at c180x; rw [e171, e170, e169, e168, e167, e166, e165, e164, e163, e162, e161, e160, e159, e158, e157, e156, F_TR_bits_c31.eq_1, if_neg c177x, if_pos c180x]) hR172)⟩) d_18_30_59
        ·
          have b182 : q_F (y120.toInt < 3) := (q_nleI c180)
          refine lv_lload_n hx hb d_18_30_50 rfl (lv_at hl 0 rfl) ?_
          refine q_ldc2 C0 rfl w_2524 d_18_30_51 ?_
          refine lv_lor hx hb d_18_30_54 ?_
          obtain ⟨j183, e184⟩ := q_nm (j116 ||| (-9223372036854775808) : Int64)
          refine q_tl (v := j183) e184 ?_
          refine lv_goto (tgt := 59) hx hb d_18_30_55 (by decide) ?_
          exact q_retl C0 V (⟨hI, hF, y118, y119, y120, y121, y122, y123, y124, y125, y126, y127, y128, y129, y130, y131, f47, f132, hO117, hA48, hA133, (show 0 ≤ y118.toInt from (by have t1 : 0 ≤ lx96.toInt := i102; have t2 : lx96.toInt ≤ y118.toInt := b136; omega)), (show y118.toInt ≤ 1 from (by have t1 : lx96.toInt ≤ 1 := i103; have t2 : y118.toInt ≤ lx96.toInt := b137; omega)), (show 0 ≤ y120.toInt from (by have t1 : 0 ≤ y35.toInt := b51; have t2 : y35.toInt ≤ y120.toInt := b140; omega)), (show y120.toInt ≤ 3 from (by have t1 : y120.toInt < 3 := b182; omega)), (show 0 ≤ y122.toInt from (by have t1 : 0 ≤ y37.toInt := b53; have t2 : y37.toInt ≤ y122.toInt := b144; omega)), (show y122.toInt ≤ 1 from (by have t1 : y37.toInt ≤ 1 := b54; have t2 : y122.toInt ≤ y37.toInt := b145; omega)), (show 0 ≤ y131.toInt from (by have t1 : 0 ≤ y131.toInt := b134; omega)), (show y131.toInt ≤ 1 from (by have t1 : y131.toInt ≤ 1 := b135; omega)), (show t0_1.toInt ≤ y119.toInt from (by have t1 : t0_1.toInt ≤ y34.toInt := b57; have t2 : y34.toInt ≤ y119.toInt := b138; omega)), (show y119.toInt ≤ t0_1.toInt from (by have t1 : y34.toInt ≤ t0_1.toInt := b58; have t2 : y119.toInt ≤ y34.toInt := b139; omega)), (show (j183, y118, y119, y120, y121, y122, y123, y124, y125, y126, y127, y128, y129, y130, y131, f47, f132) = (F_TR_bits t0_0 t0_1 t0_2 t0_3 t0_4 t0_5 t0_6 t0_7 t0_8 t0_9 t0_10 t0_11 t0_12 t0_13 t1_0 t2_0 t3_0) from Eq.trans (by have c177x := c177; rw [e161] at c177x; have c180x := c180; rw [e159] at c180x; rw [← e184, e171, e170, e169, e168, e167, e166, e165, e164, e163, e162, e161, e160, e159, e158, e157, e156, F_TR_bits_c31.eq_1, if_neg c177x, if_neg c180x]) hR172)⟩) d_18_30_59
    ·
      have b185 : q_F (0 < lx96.toInt) := (q_nleI c111)
      refine lv_lconst (v := 0) hx hb d_18_30_23 (by decide) ?_
      exact q_retl C0 V (⟨hI, hF, lx96, y34, y35, y36, y37, y38, y39, y40, y41, y42, y43, y44, y45, y46, f47, t3_0, hO32, hA48, hT3, (show 0 ≤ lx96.toInt from (by have z17 : (0 : Int64).toInt = 0 := rfl; have t1 : 0 ≤ lx96.toInt := i102; omega)), (show lx96.toInt ≤ 1 from (by have z17 : (0 : Int64).toInt = 0 := rfl; have t1 : lx96.toInt ≤ 1 := i103; omega)), (show 0 ≤ y35.toInt from (by have z17 : (0 : Int64).toInt = 0 := rfl; have t1 : 0 ≤ y35.toInt := b51; omega)), (show y35.toInt ≤ 3 from (by have z17 : (0 : Int64).toInt = 0 := rfl; have t1 : y35.toInt ≤ 3 := b52; omega)), (show 0 ≤ y37.toInt from (by have z17 : (0 : Int64).toInt = 0 := rfl; have t1 : 0 ≤ y37.toInt := b53; omega)), (show y37.toInt ≤ 1 from (by have z17 : (0 : Int64).toInt = 0 := rfl; have t1 : y37.toInt ≤ 1 := b54; omega)), (show 0 ≤ y46.toInt from (by have z17 : (0 : Int64).toInt = 0 := rfl; have t1 : 0 ≤ t0_13.toInt ∧ t0_13.toInt ≤ 1 := btt0_13; have t2 : t0_13.toInt ≤ y46.toInt := b69; omega)), (show y46.toInt ≤ 1 from (by have z17 : (0 : Int64).toInt = 0 := rfl; have t1 : 0 ≤ t0_13.toInt ∧ t0_13.toInt ≤ 1 := btt0_13; have t2 : y46.toInt ≤ t0_13.toInt := b70; omega)), (show t0_1.toInt ≤ y34.toInt from (by have z17 : (0 : Int64).toInt = 0 := rfl; have t1 : t0_1.toInt ≤ y34.toInt := b57; omega)), (show y34.toInt ≤ t0_1.toInt from (by have z17 : (0 : Int64).toInt = 0 := rfl; have t1 : y34.toInt ≤ t0_1.toInt := b58; omega)), (show ((0 : Int64), lx96, y34, y35, y36, y37, y38, y39, y40, y41, y42, y43, y44, y45, y46, f47, t3_0) = (F_TR_bits t0_0 t0_1 t0_2 t0_3 t0_4 t0_5 t0_6 t0_7 t0_8 t0_9 t0_10 t0_11 t0_12 t0_13 t1_0 t2_0 t3_0) from Eq.trans (by rw [F_TR_bits_J13.eq_1, if_neg c111]) hR104)⟩) d_18_30_24
  ·
    intro J101
    refine lv_if_eq (tgt := 12) hx hb d_18_30_5 (by decide) (fun c186 => ?_) (fun c186 => ?_)
    ·
      have b187 : q_F (a31.toInt = 0) := (q_eqI c186)
      refine lv_iconst (v := 1) hx hb d_18_30_12 (by decide) ?_
      exact J101 ((1 : Int32)) _ _ _ u29 ⟨(show q_F (0 ≤ 1) from (show 0 ≤ 1 from by omega)), (show q_F (1 ≤ 1) from (show 1 ≤ 1 from by omega)), V, q_lw hl (q_lw1 0 rfl q_lw0), (show F_TR_bits_J13 t0_0 t0_1 t0_2 t0_3 t0_4 t0_5 t0_6 t0_7 t0_8 t0_9 t0_10 t0_11 t0_12 t0_13 t1_0 t2_0 t3_0 p73 y33 y34 y35 y36 y37 y38 y39 y40 y41 y42 y43 y44 y45 y46 f47 1 = (F_TR_bits t0_0 t0_1 t0_2 t0_3 t0_4 t0_5 t0_6 t0_7 t0_8 t0_9 t0_10 t0_11 t0_12 t0_13 t1_0 t2_0 t3_0) from Eq.trans (by have c186x := c186; rw [e75] at c186x; rw [e90, e89, e88, e87, e86, e85, e84, e83, e82, e81, e80, e79, e78, e77, e76, F_TR_bits_c2.eq_1, if_pos c186x]) hR91), (show True ∧ S_TR_bits_J13 t0_0 t0_1 t0_2 t0_3 t0_4 t0_5 t0_6 t0_7 t0_8 t0_9 t0_10 t0_11 t0_12 t0_13 t1_0 t2_0 t3_0 p73 y33 y34 y35 y36 y37 y38 y39 y40 y41 y42 y43 y44 y45 y46 f47 1 from (by rw [e90, e89, e88, e87, e86, e85, e84, e83, e82, e81, e80, e79, e78, e77, e76]; have h := hS92; rw [S_TR_bits_c2.eq_1] at h; have c186x := c186; rw [e75] at c186x; rw [if_pos c186x] at h; with_reducible exact h))⟩
    ·
      have b188 : q_F (a31.toInt ≠ 0) := (q_neI c186)
      refine lv_iconst (v := 0) hx hb d_18_30_8 (by decide) ?_
      refine lv_goto (tgt := 13) hx hb d_18_30_9 (by decide) ?_
      exact J101 ((0 : Int32)) _ _ _ u29 ⟨(show q_F (0 ≤ 0) from (show 0 ≤ 0 from by omega)), (show q_F (0 ≤ 1) from (show 0 ≤ 1 from by omega)), V, q_lw hl (q_lw1 0 rfl q_lw0), (show F_TR_bits_J13 t0_0 t0_1 t0_2 t0_3 t0_4 t0_5 t0_6 t0_7 t0_8 t0_9 t0_10 t0_11 t0_12 t0_13 t1_0 t2_0 t3_0 p73 y33 y34 y35 y36 y37 y38 y39 y40 y41 y42 y43 y44 y45 y46 f47 0 = (F_TR_bits t0_0 t0_1 t0_2 t0_3 t0_4 t0_5 t0_6 t0_7 t0_8 t0_9 t0_10 t0_11 t0_12 t0_13 t1_0 t2_0 t3_0) from Eq.trans (by have c186x := c186; rw [e75] at c186x; rw [e90, e89, e88, e87, e86, e85, e84, e83, e82, e81, e80, e79, e78, e77, e76, F_TR_bits_c2.eq_1, if_neg c186x]) hR91), (show True ∧ S_TR_bits_J13 t0_0 t0_1 t0_2 t0_3 t0_4 t0_5 t0_6 t0_7 t0_8 t0_9 t0_10 t0_11 t0_12 t0_13 t1_0 t2_0 t3_0 p73 y33 y34 y35 y36 y37 y38 y39 y40 y41 y42 y43 y44 y45 y46 f47 0 from (by rw [e90, e89, e88, e87, e86, e85, e84, e83, e82, e81, e80, e79, e78, e77, e76]; have h := hS92; rw [S_TR_bits_c2.eq_1] at h; have c186x := c186; rw [e75] at c186x; rw [if_neg c186x] at h; with_reducible exact h))⟩
theorem d_18_31_0 : decode prog_18_method_31_code 0 = .ok (.aload_n 0, 1) := by decide +kernel
theorem d_18_31_1 : decode prog_18_method_31_code 1 = .ok (.aload_n 0, 1) := by decide +kernel
theorem d_18_31_2 : decode prog_18_method_31_code 2 = .ok (.invokevirtual 92, 3) := by decide +kernel
theorem d_18_31_13 : decode prog_18_method_31_code 13 = .ok (.putfield 19, 3) := by decide +kernel
theorem d_18_31_16 : decode prog_18_method_31_code 16 = .ok (.aload_n 0, 1) := by decide +kernel
theorem d_18_31_17 : decode prog_18_method_31_code 17 = .ok (.getfield 19, 3) := by decide +kernel
theorem d_18_31_20 : decode prog_18_method_31_code 20 = .ok (.ifCond .le 5, 3) := by decide +kernel
theorem d_18_31_25 : decode prog_18_method_31_code 25 = .ok (.aload_n 0, 1) := by decide +kernel
theorem d_18_31_26 : decode prog_18_method_31_code 26 = .ok (.bipush 24, 2) := by decide +kernel
theorem d_18_31_28 : decode prog_18_method_31_code 28 = .ok (.sipush (-149), 3) := by decide +kernel
theorem d_18_31_31 : decode prog_18_method_31_code 31 = .ok (.invokevirtual 172, 3) := by decide +kernel
theorem d_18_31_34 : decode prog_18_method_31_code 34 = .ok (.l2i, 1) := by decide +kernel
theorem d_18_31_35 : decode prog_18_method_31_code 35 = .ok (.istore_n 1, 1) := by decide +kernel
theorem d_18_31_36 : decode prog_18_method_31_code 36 = .ok (.aload_n 0, 1) := by decide +kernel
theorem d_18_31_37 : decode prog_18_method_31_code 37 = .ok (.getfield 77, 3) := by decide +kernel
theorem d_18_31_40 : decode prog_18_method_31_code 40 = .ok (.ifCond .eq 18, 3) := by decide +kernel
theorem d_18_31_58 : decode prog_18_method_31_code 58 = .ok (.iload_n 1, 1) := by decide +kernel
theorem d_18_31_59 : decode prog_18_method_31_code 59 = .ok (.ireturn, 1) := by decide +kernel
theorem d_18_31_43 : decode prog_18_method_31_code 43 = .ok (.aload_n 0, 1) := by decide +kernel
theorem d_18_31_44 : decode prog_18_method_31_code 44 = .ok (.getfield 59, 3) := by decide +kernel
theorem d_18_31_47 : decode prog_18_method_31_code 47 = .ok (.iconst 3, 1) := by decide +kernel
theorem d_18_31_48 : decode prog_18_method_31_code 48 = .ok (.if_icmp .ge 10, 3) := by decide +kernel
theorem d_18_31_51 : decode prog_18_method_31_code 51 = .ok (.iload_n 1, 1) := by decide +kernel
theorem d_18_31_52 : decode prog_18_method_31_code 52 = .ok (.ldc 178, 2) := by decide +kernel
set_option maxRecDepth 100000 in
theorem w_2529 : (Cond.constant "NumberHouseModel$TextRows" (178 : Nat) (-2147483648 : Int32)) ∈ q_tbl := q_of11 129 rfl (by decide +kernel)
theorem d_18_31_54 : decode prog_18_method_31_code 54 = .ok (.ior, 1) := by decide +kernel
theorem d_18_31_55 : decode prog_18_method_31_code 55 = .ok (.goto 4, 3) := by decide +kernel
theorem d_18_31_23 : decode prog_18_method_31_code 23 = .ok (.iconst 0, 1) := by decide +kernel
theorem d_18_31_24 : decode prog_18_method_31_code 24 = .ok (.ireturn, 1) := by decide +kernel
theorem d_18_31_5 : decode prog_18_method_31_code 5 = .ok (.ifCond .eq 7, 3) := by decide +kernel
theorem d_18_31_12 : decode prog_18_method_31_code 12 = .ok (.iconst 1, 1) := by decide +kernel
theorem d_18_31_8 : decode prog_18_method_31_code 8 = .ok (.iconst 0, 1) := by decide +kernel
theorem d_18_31_9 : decode prog_18_method_31_code 9 = .ok (.goto 4, 3) := by decide +kernel
def y_TR_floatBits : MethodName := ⟨"NumberHouseModel$TextRows", "floatBits", "()I"⟩
def F_TR_floatBits_c31 (t0_0 : Int32) (t0_1 : Int32) (t0_2 : Int32) (t0_3 : Int32) (t0_4 : Int32) (t0_5 : Int32) (t0_6 : Int32) (t0_7 : Int64) (t0_8 : Int32) (t0_9 : Int32) (t0_10 : Int64) (t0_11 : Int64) (t0_12 : Int32) (t0_13 : Int32) (t1_0 : (Nat → Int32)) (t2_0 : (Nat → Int32)) (t3_0 : (Nat → Int32)) (p73 : (Int32 × Int32 × Int32 × Int32 × Int32 × Int32 × Int32 × Int32 × Int64 × Int32 × Int32 × Int64 × Int64 × Int32 × Int32 × (Nat → Int32))) (y33 : Int32) (y34 : Int32) (y35 : Int32) (y36 : Int32) (y37 : Int32) (y38 : Int32) (y39 : Int32) (y40 : Int64) (y41 : Int32) (y42 : Int32) (y43 : Int64) (y44 : Int64) (y45 : Int32) (y46 : Int32) (f47 : (Nat → Int32)) (lx96 : Int32) (p154 : (Int64 × Int32 × Int32 × Int32 × Int32 × Int32 × Int32 × Int32 × Int64 × Int32 × Int32 × Int64 × Int64 × Int32 × Int32 × (Nat → Int32))) : Int32 × Int32 × Int32 × Int32 × Int32 × Int32 × Int32 × Int32 × Int64 × Int32 × Int32 × Int64 × Int64 × Int32 × Int32 × (Nat → Int32) × (Nat → Int32) := if (p154.2.2.2.2.2.1 : Int32) = (0 : Int32) then ((((p154.1 : Int64).toInt32 : Int32), (p154.2.1 : Int32), (p154.2.2.1 : Int32), (p154.2.2.2.1 : Int32), (p154.2.2.2.2.1 : Int32), (p154.2.2.2.2.2.1 : Int32), (p154.2.2.2.2.2.2.1 : Int32), (p154.2.2.2.2.2.2.2.1 : Int32), (p154.2.2.2.2.2.2.2.2.1 : Int64), (p154.2.2.2.2.2.2.2.2.2.1 : Int32), (p154.2.2.2.2.2.2.2.2.2.2.1 : Int32), (p154.2.2.2.2.2.2.2.2.2.2.2.1 : Int64), (p154.2.2.2.2.2.2.2.2.2.2.2.2.1 : Int64), (p154.2.2.2.2.2.2.2.2.2.2.2.2.2.1 : Int32), (p154.2.2.2.2.2.2.2.2.2.2.2.2.2.2.1 : Int32), f47, (p154.2.2.2.2.2.2.2.2.2.2.2.2.2.2.2 : (Nat → Int32)))) else (if (3 : Int32) ≤ (p154.2.2.2.1 : Int32) then ((((p154.1 : Int64).toInt32 : Int32), (p154.2.1 : Int32), (p154.2.2.1 : Int32), (p154.2.2.2.1 : Int32), (p154.2.2.2.2.1 : Int32), (p154.2.2.2.2.2.1 : Int32), (p154.2.2.2.2.2.2.1 : Int32), (p154.2.2.2.2.2.2.2.1 : Int32), (p154.2.2.2.2.2.2.2.2.1 : Int64), (p154.2.2.2.2.2.2.2.2.2.1 : Int32), (p154.2.2.2.2.2.2.2.2.2.2.1 : Int32), (p154.2.2.2.2.2.2.2.2.2.2.2.1 : Int64), (p154.2.2.2.2.2.2.2.2.2.2.2.2.1 : Int64), (p154.2.2.2.2.2.2.2.2.2.2.2.2.2.1 : Int32), (p154.2.2.2.2.2.2.2.2.2.2.2.2.2.2.1 : Int32), f47, (p154.2.2.2.2.2.2.2.2.2.2.2.2.2.2.2 : (Nat → Int32)))) else (((((p154.1 : Int64).toInt32 : Int32) ||| (-2147483648) : Int32), (p154.2.1 : Int32), (p154.2.2.1 : Int32), (p154.2.2.2.1 : Int32), (p154.2.2.2.2.1 : Int32), (p154.2.2.2.2.2.1 : Int32), (p154.2.2.2.2.2.2.1 : Int32), (p154.2.2.2.2.2.2.2.1 : Int32), (p154.2.2.2.2.2.2.2.2.1 : Int64), (p154.2.2.2.2.2.2.2.2.2.1 : Int32), (p154.2.2.2.2.2.2.2.2.2.2.1 : Int32), (p154.2.2.2.2.2.2.2.2.2.2.2.1 : Int64), (p154.2.2.2.2.2.2.2.2.2.2.2.2.1 : Int64), (p154.2.2.2.2.2.2.2.2.2.2.2.2.2.1 : Int32), (p154.2.2.2.2.2.2.2.2.2.2.2.2.2.2.1 : Int32), f47, (p154.2.2.2.2.2.2.2.2.2.2.2.2.2.2.2 : (Nat → Int32)))))
def F_TR_floatBits_J13 (t0_0 : Int32) (t0_1 : Int32) (t0_2 : Int32) (t0_3 : Int32) (t0_4 : Int32) (t0_5 : Int32) (t0_6 : Int32) (t0_7 : Int64) (t0_8 : Int32) (t0_9 : Int32) (t0_10 : Int64) (t0_11 : Int64) (t0_12 : Int32) (t0_13 : Int32) (t1_0 : (Nat → Int32)) (t2_0 : (Nat → Int32)) (t3_0 : (Nat → Int32)) (p73 : (Int32 × Int32 × Int32 × Int32 × Int32 × Int32 × Int32 × Int32 × Int64 × Int32 × Int32 × Int64 × Int64 × Int32 × Int32 × (Nat → Int32))) (y33 : Int32) (y34 : Int32) (y35 : Int32) (y36 : Int32) (y37 : Int32) (y38 : Int32) (y39 : Int32) (y40 : Int64) (y41 : Int32) (y42 : Int32) (y43 : Int64) (y44 : Int64) (y45 : Int32) (y46 : Int32) (f47 : (Nat → Int32)) (lx96 : Int32) : Int32 × Int32 × Int32 × Int32 × Int32 × Int32 × Int32 × Int32 × Int64 × Int32 × Int32 × Int64 × Int64 × Int32 × Int32 × (Nat → Int32) × (Nat → Int32) := if lx96 ≤ (0 : Int32) then (F_TR_floatBits_c31 t0_0 t0_1 t0_2 t0_3 t0_4 t0_5 t0_6 t0_7 t0_8 t0_9 t0_10 t0_11 t0_12 t0_13 t1_0 t2_0 t3_0 p73 y33 y34 y35 y36 y37 y38 y39 y40 y41 y42 y43 y44 y45 y46 f47 lx96 ((F_TR_sizeRead (24 : Int32) (-149 : Int32) lx96 y34 y35 y36 y37 y38 y39 y40 y41 y42 y43 y44 y45 y46 f47 t3_0) : (Int64 × Int32 × Int32 × Int32 × Int32 × Int32 × Int32 × Int32 × Int64 × Int32 × Int32 × Int64 × Int64 × Int32 × Int32 × (Nat → Int32)))) else (((0 : Int32), lx96, y34, y35, y36, y37, y38, y39, y40, y41, y42, y43, y44, y45, y46, f47, t3_0))
def F_TR_floatBits_c2 (t0_0 : Int32) (t0_1 : Int32) (t0_2 : Int32) (t0_3 : Int32) (t0_4 : Int32) (t0_5 : Int32) (t0_6 : Int32) (t0_7 : Int64) (t0_8 : Int32) (t0_9 : Int32) (t0_10 : Int64) (t0_11 : Int64) (t0_12 : Int32) (t0_13 : Int32) (t1_0 : (Nat → Int32)) (t2_0 : (Nat → Int32)) (t3_0 : (Nat → Int32)) (p73 : (Int32 × Int32 × Int32 × Int32 × Int32 × Int32 × Int32 × Int32 × Int64 × Int32 × Int32 × Int64 × Int64 × Int32 × Int32 × (Nat → Int32))) : Int32 × Int32 × Int32 × Int32 × Int32 × Int32 × Int32 × Int32 × Int64 × Int32 × Int32 × Int64 × Int64 × Int32 × Int32 × (Nat → Int32) × (Nat → Int32) := if (p73.1 : Int32) = (0 : Int32) then (F_TR_floatBits_J13 t0_0 t0_1 t0_2 t0_3 t0_4 t0_5 t0_6 t0_7 t0_8 t0_9 t0_10 t0_11 t0_12 t0_13 t1_0 t2_0 t3_0 p73 (p73.2.1 : Int32) (p73.2.2.1 : Int32) (p73.2.2.2.1 : Int32) (p73.2.2.2.2.1 : Int32) (p73.2.2.2.2.2.1 : Int32) (p73.2.2.2.2.2.2.1 : Int32) (p73.2.2.2.2.2.2.2.1 : Int32) (p73.2.2.2.2.2.2.2.2.1 : Int64) (p73.2.2.2.2.2.2.2.2.2.1 : Int32) (p73.2.2.2.2.2.2.2.2.2.2.1 : Int32) (p73.2.2.2.2.2.2.2.2.2.2.2.1 : Int64) (p73.2.2.2.2.2.2.2.2.2.2.2.2.1 : Int64) (p73.2.2.2.2.2.2.2.2.2.2.2.2.2.1 : Int32) (p73.2.2.2.2.2.2.2.2.2.2.2.2.2.2.1 : Int32) (p73.2.2.2.2.2.2.2.2.2.2.2.2.2.2.2 : (Nat → Int32)) 1) else (F_TR_floatBits_J13 t0_0 t0_1 t0_2 t0_3 t0_4 t0_5 t0_6 t0_7 t0_8 t0_9 t0_10 t0_11 t0_12 t0_13 t1_0 t2_0 t3_0 p73 (p73.2.1 : Int32) (p73.2.2.1 : Int32) (p73.2.2.2.1 : Int32) (p73.2.2.2.2.1 : Int32) (p73.2.2.2.2.2.1 : Int32) (p73.2.2.2.2.2.2.1 : Int32) (p73.2.2.2.2.2.2.2.1 : Int32) (p73.2.2.2.2.2.2.2.2.1 : Int64) (p73.2.2.2.2.2.2.2.2.2.1 : Int32) (p73.2.2.2.2.2.2.2.2.2.2.1 : Int32) (p73.2.2.2.2.2.2.2.2.2.2.2.1 : Int64) (p73.2.2.2.2.2.2.2.2.2.2.2.2.1 : Int64) (p73.2.2.2.2.2.2.2.2.2.2.2.2.2.1 : Int32) (p73.2.2.2.2.2.2.2.2.2.2.2.2.2.2.1 : Int32) (p73.2.2.2.2.2.2.2.2.2.2.2.2.2.2.2 : (Nat → Int32)) 0)
def F_TR_floatBits (t0_0 : Int32) (t0_1 : Int32) (t0_2 : Int32) (t0_3 : Int32) (t0_4 : Int32) (t0_5 : Int32) (t0_6 : Int32) (t0_7 : Int64) (t0_8 : Int32) (t0_9 : Int32) (t0_10 : Int64) (t0_11 : Int64) (t0_12 : Int32) (t0_13 : Int32) (t1_0 : (Nat → Int32)) (t2_0 : (Nat → Int32)) (t3_0 : (Nat → Int32)) : Int32 × Int32 × Int32 × Int32 × Int32 × Int32 × Int32 × Int32 × Int64 × Int32 × Int32 × Int64 × Int64 × Int32 × Int32 × (Nat → Int32) × (Nat → Int32) := F_TR_floatBits_c2 t0_0 t0_1 t0_2 t0_3 t0_4 t0_5 t0_6 t0_7 t0_8 t0_9 t0_10 t0_11 t0_12 t0_13 t1_0 t2_0 t3_0 ((F_TR_scan t0_0 t0_1 t0_2 t0_3 t0_4 t0_5 t0_6 t0_7 t0_8 t0_9 t0_10 t0_11 t0_12 t0_13 t1_0 t2_0) : (Int32 × Int32 × Int32 × Int32 × Int32 × Int32 × Int32 × Int32 × Int64 × Int32 × Int32 × Int64 × Int64 × Int32 × Int32 × (Nat → Int32)))
def S_TR_floatBits_c31 (t0_0 : Int32) (t0_1 : Int32) (t0_2 : Int32) (t0_3 : Int32) (t0_4 : Int32) (t0_5 : Int32) (t0_6 : Int32) (t0_7 : Int64) (t0_8 : Int32) (t0_9 : Int32) (t0_10 : Int64) (t0_11 : Int64) (t0_12 : Int32) (t0_13 : Int32) (t1_0 : (Nat → Int32)) (t2_0 : (Nat → Int32)) (t3_0 : (Nat → Int32)) (p73 : (Int32 × Int32 × Int32 × Int32 × Int32 × Int32 × Int32 × Int32 × Int64 × Int32 × Int32 × Int64 × Int64 × Int32 × Int32 × (Nat → Int32))) (y33 : Int32) (y34 : Int32) (y35 : Int32) (y36 : Int32) (y37 : Int32) (y38 : Int32) (y39 : Int32) (y40 : Int64) (y41 : Int32) (y42 : Int32) (y43 : Int64) (y44 : Int64) (y45 : Int32) (y46 : Int32) (f47 : (Nat → Int32)) (lx96 : Int32) (p154 : (Int64 × Int32 × Int32 × Int32 × Int32 × Int32 × Int32 × Int32 × Int64 × Int32 × Int32 × Int64 × Int64 × Int32 × Int32 × (Nat → Int32))) : Prop := if (p154.2.2.2.2.2.1 : Int32) = (0 : Int32) then (True) else (if (3 : Int32) ≤ (p154.2.2.2.1 : Int32) then (True) else (True))
def S_TR_floatBits_J13 (t0_0 : Int32) (t0_1 : Int32) (t0_2 : Int32) (t0_3 : Int32) (t0_4 : Int32) (t0_5 : Int32) (t0_6 : Int32) (t0_7 : Int64) (t0_8 : Int32) (t0_9 : Int32) (t0_10 : Int64) (t0_11 : Int64) (t0_12 : Int32) (t0_13 : Int32) (t1_0 : (Nat → Int32)) (t2_0 : (Nat → Int32)) (t3_0 : (Nat → Int32)) (p73 : (Int32 × Int32 × Int32 × Int32 × Int32 × Int32 × Int32 × Int32 × Int64 × Int32 × Int32 × Int64 × Int64 × Int32 × Int32 × (Nat → Int32))) (y33 : Int32) (y34 : Int32) (y35 : Int32) (y36 : Int32) (y37 : Int32) (y38 : Int32) (y39 : Int32) (y40 : Int64) (y41 : Int32) (y42 : Int32) (y43 : Int64) (y44 : Int64) (y45 : Int32) (y46 : Int32) (f47 : (Nat → Int32)) (lx96 : Int32) : Prop := if lx96 ≤ (0 : Int32) then ((True ∧ S_TR_sizeRead (24 : Int32) (-149 : Int32) lx96 y34 y35 y36 y37 y38 y39 y40 y41 y42 y43 y44 y45 y46 f47 t3_0) ∧ (S_TR_floatBits_c31 t0_0 t0_1 t0_2 t0_3 t0_4 t0_5 t0_6 t0_7 t0_8 t0_9 t0_10 t0_11 t0_12 t0_13 t1_0 t2_0 t3_0 p73 y33 y34 y35 y36 y37 y38 y39 y40 y41 y42 y43 y44 y45 y46 f47 lx96 ((F_TR_sizeRead (24 : Int32) (-149 : Int32) lx96 y34 y35 y36 y37 y38 y39 y40 y41 y42 y43 y44 y45 y46 f47 t3_0) : (Int64 × Int32 × Int32 × Int32 × Int32 × Int32 × Int32 × Int32 × Int64 × Int32 × Int32 × Int64 × Int64 × Int32 × Int32 × (Nat → Int32))))) else (True)
def S_TR_floatBits_c2 (t0_0 : Int32) (t0_1 : Int32) (t0_2 : Int32) (t0_3 : Int32) (t0_4 : Int32) (t0_5 : Int32) (t0_6 : Int32) (t0_7 : Int64) (t0_8 : Int32) (t0_9 : Int32) (t0_10 : Int64) (t0_11 : Int64) (t0_12 : Int32) (t0_13 : Int32) (t1_0 : (Nat → Int32)) (t2_0 : (Nat → Int32)) (t3_0 : (Nat → Int32)) (p73 : (Int32 × Int32 × Int32 × Int32 × Int32 × Int32 × Int32 × Int32 × Int64 × Int32 × Int32 × Int64 × Int64 × Int32 × Int32 × (Nat → Int32))) : Prop := if (p73.1 : Int32) = (0 : Int32) then (S_TR_floatBits_J13 t0_0 t0_1 t0_2 t0_3 t0_4 t0_5 t0_6 t0_7 t0_8 t0_9 t0_10 t0_11 t0_12 t0_13 t1_0 t2_0 t3_0 p73 (p73.2.1 : Int32) (p73.2.2.1 : Int32) (p73.2.2.2.1 : Int32) (p73.2.2.2.2.1 : Int32) (p73.2.2.2.2.2.1 : Int32) (p73.2.2.2.2.2.2.1 : Int32) (p73.2.2.2.2.2.2.2.1 : Int32) (p73.2.2.2.2.2.2.2.2.1 : Int64) (p73.2.2.2.2.2.2.2.2.2.1 : Int32) (p73.2.2.2.2.2.2.2.2.2.2.1 : Int32) (p73.2.2.2.2.2.2.2.2.2.2.2.1 : Int64) (p73.2.2.2.2.2.2.2.2.2.2.2.2.1 : Int64) (p73.2.2.2.2.2.2.2.2.2.2.2.2.2.1 : Int32) (p73.2.2.2.2.2.2.2.2.2.2.2.2.2.2.1 : Int32) (p73.2.2.2.2.2.2.2.2.2.2.2.2.2.2.2 : (Nat → Int32)) 1) else (S_TR_floatBits_J13 t0_0 t0_1 t0_2 t0_3 t0_4 t0_5 t0_6 t0_7 t0_8 t0_9 t0_10 t0_11 t0_12 t0_13 t1_0 t2_0 t3_0 p73 (p73.2.1 : Int32) (p73.2.2.1 : Int32) (p73.2.2.2.1 : Int32) (p73.2.2.2.2.1 : Int32) (p73.2.2.2.2.2.1 : Int32) (p73.2.2.2.2.2.2.1 : Int32) (p73.2.2.2.2.2.2.2.1 : Int32) (p73.2.2.2.2.2.2.2.2.1 : Int64) (p73.2.2.2.2.2.2.2.2.2.1 : Int32) (p73.2.2.2.2.2.2.2.2.2.2.1 : Int32) (p73.2.2.2.2.2.2.2.2.2.2.2.1 : Int64) (p73.2.2.2.2.2.2.2.2.2.2.2.2.1 : Int64) (p73.2.2.2.2.2.2.2.2.2.2.2.2.2.1 : Int32) (p73.2.2.2.2.2.2.2.2.2.2.2.2.2.2.1 : Int32) (p73.2.2.2.2.2.2.2.2.2.2.2.2.2.2.2 : (Nat → Int32)) 0)
def S_TR_floatBits (t0_0 : Int32) (t0_1 : Int32) (t0_2 : Int32) (t0_3 : Int32) (t0_4 : Int32) (t0_5 : Int32) (t0_6 : Int32) (t0_7 : Int64) (t0_8 : Int32) (t0_9 : Int32) (t0_10 : Int64) (t0_11 : Int64) (t0_12 : Int32) (t0_13 : Int32) (t1_0 : (Nat → Int32)) (t2_0 : (Nat → Int32)) (t3_0 : (Nat → Int32)) : Prop := (True ∧ S_TR_scan t0_0 t0_1 t0_2 t0_3 t0_4 t0_5 t0_6 t0_7 t0_8 t0_9 t0_10 t0_11 t0_12 t0_13 t1_0 t2_0) ∧ (S_TR_floatBits_c2 t0_0 t0_1 t0_2 t0_3 t0_4 t0_5 t0_6 t0_7 t0_8 t0_9 t0_10 t0_11 t0_12 t0_13 t1_0 t2_0 t3_0 ((F_TR_scan t0_0 t0_1 t0_2 t0_3 t0_4 t0_5 t0_6 t0_7 t0_8 t0_9 t0_10 t0_11 t0_12 t0_13 t1_0 t2_0) : (Int32 × Int32 × Int32 × Int32 × Int32 × Int32 × Int32 × Int32 × Int64 × Int32 × Int32 × Int64 × Int64 × Int32 × Int32 × (Nat → Int32))))
set_option maxRecDepth 100000 in
set_option maxHeartbeats 4000000 in
theorem X_TR_floatBits (l : Launch) (D : va_G) (g : Nat → ClassId) (q : Nat → Nat) (ws : va_W) (hI : q_I (msh g q) q ws) (t0_0 : Int32) (t0_1 : Int32) (t0_2 : Int32) (t0_3 : Int32) (t0_4 : Int32) (t0_5 : Int32) (t0_6 : Int32) (t0_7 : Int64) (t0_8 : Int32) (t0_9 : Int32) (t0_10 : Int64) (t0_11 : Int64) (t0_12 : Int32) (t0_13 : Int32) (hT0 : ws[153]? = (some (q 153, .inr (16, [.int t0_0, .ref (q 154), .int t0_1, .int t0_2, .int t0_3, .int t0_4, .ref (q 155), .int t0_5, .int t0_6, .long t0_7, .ref (q 156), .int t0_8, .int t0_9, .long t0_10, .long t0_11, .int t0_12, .int t0_13])) : Option (Nat × va_E))) (t1_0 : (Nat → Int32)) (hT1 : ws[154]? = (some (q 154, .inl (g 0, (4100 : Int32).toNatClampNeg, .inl t1_0)) : Option (Nat × va_E))) (t2_0 : (Nat → Int32)) (hT2 : ws[155]? = (some (q 155, .inl (g 0, (4100 : Int32).toNatClampNeg, .inl t2_0)) : Option (Nat × va_E))) (t3_0 : (Nat → Int32)) (hT3 : ws[156]? = (some (q 156, .inl (g 0, (800 : Int32).toNatClampNeg, .inl t3_0)) : Option (Nat × va_E))) (hS : True ∧ S_TR_floatBits t0_0 t0_1 t0_2 t0_3 t0_4 t0_5 t0_6 t0_7 t0_8 t0_9 t0_10 t0_11 t0_12 t0_13 t1_0 t2_0 t3_0) : q_mI l y_TR_floatBits prog_18_method_31_code 2 (.int) 6 0 0 D g [.ref (q 153)] ws (fun r u => q_I (msh g q) q u ∧ q_un ws u [153, 155, 156] ∧ ∃ (u0_0 : Int32) (u0_1 : Int32) (u0_2 : Int32) (u0_3 : Int32) (u0_4 : Int32) (u0_5 : Int32) (u0_6 : Int32) (u0_7 : Int64) (u0_8 : Int32) (u0_9 : Int32) (u0_10 : Int64) (u0_11 : Int64) (u0_12 : Int32) (u0_13 : Int32) (u2_0 : (Nat → Int32)) (u3_0 : (Nat → Int32)), u[153]? = (some (q 153, .inr (16, [.int u0_0, .ref (q 154), .int u0_1, .int u0_2, .int u0_3, .int u0_4, .ref (q 155), .int u0_5, .int u0_6, .long u0_7, .ref (q 156), .int u0_8, .int u0_9, .long u0_10, .long u0_11, .int u0_12, .int u0_13])) : Option (Nat × va_E)) ∧ u[155]? = (some (q 155, .inl (g 0, (4100 : Int32).toNatClampNeg, .inl u2_0)) : Option (Nat × va_E)) ∧ u[156]? = (some (q 156, .inl (g 0, (800 : Int32).toNatClampNeg, .inl u3_0)) : Option (Nat × va_E)) ∧ (0 ≤ u0_0.toInt) ∧ (u0_0.toInt ≤ 1) ∧ (0 ≤ u0_2.toInt) ∧ (u0_2.toInt ≤ 3) ∧ (0 ≤ u0_4.toInt) ∧ (u0_4.toInt ≤ 1) ∧ (0 ≤ u0_13.toInt) ∧ (u0_13.toInt ≤ 1) ∧ (t0_1.toInt ≤ u0_1.toInt) ∧ (u0_1.toInt ≤ t0_1.toInt) ∧ (r, u0_0, u0_1, u0_2, u0_3, u0_4, u0_5, u0_6, u0_7, u0_8, u0_9, u0_10, u0_11, u0_12, u0_13, u2_0, u3_0) = (F_TR_floatBits t0_0 t0_1 t0_2 t0_3 t0_4 t0_5 t0_6 t0_7 t0_8 t0_9 t0_10 t0_11 t0_12 t0_13 t1_0 t2_0 t3_0)) := by
  intro sz
  refine q_into (by decide) (Nat.le_of_ble_eq_true rfl) ?_
  intro p e s m below meth c ls hsz C0 V hl
  have hx := C0.1
  have hb := C0.2.1
  obtain ⟨yy0_0, yy0_1, yy0_2, yy0_3, yy0_4, yy0_5, yy0_6, yy0_7, yy0_8, yy0_9, yy0_10, yy0_11, yy0_12, yy0_13, hh0, btt0_1, btt0_4, btt0_13⟩ := n_o153 hI
  obtain ⟨rfl, rfl, rfl, rfl, rfl, rfl, rfl, rfl, rfl, rfl, rfl, rfl, rfl, rfl⟩ : t0_0 = yy0_0 ∧ t0_1 = yy0_1 ∧ t0_2 = yy0_2 ∧ t0_3 = yy0_3 ∧ t0_4 = yy0_4 ∧ t0_5 = yy0_5 ∧ t0_6 = yy0_6 ∧ t0_7 = yy0_7 ∧ t0_8 = yy0_8 ∧ t0_9 = yy0_9 ∧ t0_10 = yy0_10 ∧ t0_11 = yy0_11 ∧ t0_12 = yy0_12 ∧ t0_13 = yy0_13 := by have z := Option.some.inj (hT0.symm.trans hh0); simpa using z
  replace btt0_1 : q_F (0 ≤ t0_1.toInt ∧ t0_1.toInt ≤ 4100) := btt0_1
  replace btt0_4 : q_F (0 ≤ t0_4.toInt ∧ t0_4.toInt ≤ 1) := btt0_4
  replace btt0_13 : q_F (0 ≤ t0_13.toInt ∧ t0_13.toInt ≤ 1) := btt0_13
  have hF : q_un ws ws [153, 155, 156] := q_u0
  have hl : lv_has ls 2 [(0, .ref (q 153))] := hl
  refine lv_aload_n hx hb d_18_31_0 rfl (lv_at hl 0 rfl) ?_
  refine lv_aload_n hx hb d_18_31_1 rfl (lv_at hl 0 rfl) ?_
  have ob28 : True ∧ S_TR_scan t0_0 t0_1 t0_2 t0_3 t0_4 t0_5 t0_6 t0_7 t0_8 t0_9 t0_10 t0_11 t0_12 t0_13 t1_0 t2_0 := (by have h := hS; rw [S_TR_floatBits.eq_1] at h; with_reducible exact h.2.1)
  refine q_goi V (q_runV (As := []) (rest := [.ref (q 153)]) (d := 5) (mc := 0) (ms := 0) (ci := 16) C0 V rfl LV_TR_92 (X_TR_scan l D g q ws   hI t0_0 t0_1 t0_2 t0_3 t0_4 t0_5 t0_6 t0_7 t0_8 t0_9 t0_10 t0_11 t0_12 t0_13 hT0 t1_0 hT1 t2_0 hT2 ob28 _) rfl rfl hT0 rfl hl.1 rfl (Nat.le_of_ble_eq_true rfl) ⟨by decide, by decide⟩ ⟨Nat.le_of_ble_eq_true rfl, Nat.le_of_ble_eq_true rfl⟩ d_18_31_2) (fun a31 u29 H locs hp30 V => ?_)
  obtain ⟨hI, hu72, y33, y34, y35, y36, y37, y38, y39, y40, y41, y42, y43, y44, y45, y46, f47, hO32, hA48, b49, b50, b51, b52, b53, b54, b55, b56, b57, b58, b59, b60, b61, b62, b63, b64, b65, b66, b67, b68, b69, b70, hE71⟩ := hp30
  replace hO32 : u29[153]? = (some (q 153, .inr (16, [.int y33, .ref (q 154), .int y34, .int y35, .int y36, .int y37, .ref (q 155), .int y38, .int y39, .long y40, .ref (q 156), .int y41, .int y42, .long y43, .long y44, .int y45, .int y46])) : Option (Nat × va_E)) := hO32
  replace hA48 : u29[155]? = (some (q 155, .inl (g 0, (4100 : Int32).toNatClampNeg, .inl f47)) : Option (Nat × va_E)) := hA48
  obtain ⟨p73, e74⟩ : ∃ z, z = (F_TR_scan t0_0 t0_1 t0_2 t0_3 t0_4 t0_5 t0_6 t0_7 t0_8 t0_9 t0_10 t0_11 t0_12 t0_13 t1_0 t2_0) := ⟨_, rfl⟩
  have e75 : a31 = p73.1 := congrArg (fun z => z.1) (hE71.trans e74.symm)
  have e76 : y33 = p73.2.1 := congrArg (fun z => z.2.1) (hE71.trans e74.symm)
  have e77 : y34 = p73.2.2.1 := congrArg (fun z => z.2.2.1) (hE71.trans e74.symm)
  have e78 : y35 = p73.2.2.2.1 := congrArg (fun z => z.2.2.2.1) (hE71.trans e74.symm)
  have e79 : y36 = p73.2.2.2.2.1 := congrArg (fun z => z.2.2.2.2.1) (hE71.trans e74.symm)
  have e80 : y37 = p73.2.2.2.2.2.1 := congrArg (fun z => z.2.2.2.2.2.1) (hE71.trans e74.symm)
  have e81 : y38 = p73.2.2.2.2.2.2.1 := congrArg (fun z => z.2.2.2.2.2.2.1) (hE71.trans e74.symm)
  have e82 : y39 = p73.2.2.2.2.2.2.2.1 := congrArg (fun z => z.2.2.2.2.2.2.2.1) (hE71.trans e74.symm)
  have e83 : y40 = p73.2.2.2.2.2.2.2.2.1 := congrArg (fun z => z.2.2.2.2.2.2.2.2.1) (hE71.trans e74.symm)
  have e84 : y41 = p73.2.2.2.2.2.2.2.2.2.1 := congrArg (fun z => z.2.2.2.2.2.2.2.2.2.1) (hE71.trans e74.symm)
  have e85 : y42 = p73.2.2.2.2.2.2.2.2.2.2.1 := congrArg (fun z => z.2.2.2.2.2.2.2.2.2.2.1) (hE71.trans e74.symm)
  have e86 : y43 = p73.2.2.2.2.2.2.2.2.2.2.2.1 := congrArg (fun z => z.2.2.2.2.2.2.2.2.2.2.2.1) (hE71.trans e74.symm)
  have e87 : y44 = p73.2.2.2.2.2.2.2.2.2.2.2.2.1 := congrArg (fun z => z.2.2.2.2.2.2.2.2.2.2.2.2.1) (hE71.trans e74.symm)
  have e88 : y45 = p73.2.2.2.2.2.2.2.2.2.2.2.2.2.1 := congrArg (fun z => z.2.2.2.2.2.2.2.2.2.2.2.2.2.1) (hE71.trans e74.symm)
  have e89 : y46 = p73.2.2.2.2.2.2.2.2.2.2.2.2.2.2.1 := congrArg (fun z => z.2.2.2.2.2.2.2.2.2.2.2.2.2.2.1) (hE71.trans e74.symm)
  have e90 : f47 = p73.2.2.2.2.2.2.2.2.2.2.2.2.2.2.2 := congrArg (fun z => z.2.2.2.2.2.2.2.2.2.2.2.2.2.2.2) (hE71.trans e74.symm)
  replace b49 : q_F (0 ≤ a31.toInt) := b49
  replace b50 : q_F (a31.toInt ≤ 1) := b50
  replace b51 : q_F (0 ≤ y35.toInt) := b51
  replace b52 : q_F (y35.toInt ≤ 3) := b52
  replace b53 : q_F (0 ≤ y37.toInt) := b53
  replace b54 : q_F (y37.toInt ≤ 1) := b54
  replace b55 : q_F (t0_0.toInt ≤ y33.toInt) := b55
  replace b56 : q_F (y33.toInt ≤ t0_0.toInt) := b56
  replace b57 : q_F (t0_1.toInt ≤ y34.toInt) := b57
  replace b58 : q_F (y34.toInt ≤ t0_1.toInt) := b58
  replace b59 : q_F (t0_8.toInt ≤ y41.toInt) := b59
  replace b60 : q_F (y41.toInt ≤ t0_8.toInt) := b60
  replace b61 : q_F (t0_9.toInt ≤ y42.toInt) := b61
  replace b62 : q_F (y42.toInt ≤ t0_9.toInt) := b62
  replace b63 : q_F (t0_10.toInt ≤ y43.toInt) := b63
  replace b64 : q_F (y43.toInt ≤ t0_10.toInt) := b64
  replace b65 : q_F (t0_11.toInt ≤ y44.toInt) := b65
  replace b66 : q_F (y44.toInt ≤ t0_11.toInt) := b66
  replace b67 : q_F (t0_12.toInt ≤ y45.toInt) := b67
  replace b68 : q_F (y45.toInt ≤ t0_12.toInt) := b68
  replace b69 : q_F (t0_13.toInt ≤ y46.toInt) := b69
  replace b70 : q_F (y46.toInt ≤ t0_13.toInt) := b70
  replace hT1 := (hu72 _ (by decide)).trans hT1
  replace hT3 := (hu72 _ (by decide)).trans hT3
  replace hF := q_uc hF hu72 (by simp)
  have hR91 := (show F_TR_floatBits_c2 t0_0 t0_1 t0_2 t0_3 t0_4 t0_5 t0_6 t0_7 t0_8 t0_9 t0_10 t0_11 t0_12 t0_13 t1_0 t2_0 t3_0 p73 = (F_TR_floatBits t0_0 t0_1 t0_2 t0_3 t0_4 t0_5 t0_6 t0_7 t0_8 t0_9 t0_10 t0_11 t0_12 t0_13 t1_0 t2_0 t3_0) from (by rw [e74, F_TR_floatBits.eq_1]))
  have hS92 := (show True ∧ S_TR_floatBits_c2 t0_0 t0_1 t0_2 t0_3 t0_4 t0_5 t0_6 t0_7 t0_8 t0_9 t0_10 t0_11 t0_12 t0_13 t1_0 t2_0 t3_0 p73 from (by rw [e74]; have h := hS; rw [S_TR_floatBits.eq_1] at h; replace h := q_s2 h; with_reducible exact h))
  refine q_join (X := Int32) (fun z H locs ls _ => q_F (0 ≤ z.toInt) ∧ q_F (z.toInt ≤ 1) ∧ q_Wd D g (va_A ws sz) s u29 H locs ∧ lv_has ls 2 [(0, .ref (q 153))] ∧ F_TR_floatBits_J13 t0_0 t0_1 t0_2 t0_3 t0_4 t0_5 t0_6 t0_7 t0_8 t0_9 t0_10 t0_11 t0_12 t0_13 t1_0 t2_0 t3_0 p73 y33 y34 y35 y36 y37 y38 y39 y40 y41 y42 y43 y44 y45 y46 f47 z = (F_TR_floatBits t0_0 t0_1 t0_2 t0_3 t0_4 t0_5 t0_6 t0_7 t0_8 t0_9 t0_10 t0_11 t0_12 t0_13 t1_0 t2_0 t3_0) ∧ True ∧ S_TR_floatBits_J13 t0_0 t0_1 t0_2 t0_3 t0_4 t0_5 t0_6 t0_7 t0_8 t0_9 t0_10 t0_11 t0_12 t0_13 t1_0 t2_0 t3_0 p73 y33 y34 y35 y36 y37 y38 y39 y40 y41 y42 y43 y44 y45 y46 f47 z) (fun z => [.int z, .ref (q 153)]) 13 0 0 ?_ ?_
  ·
    rintro lx96 H locs ls _ ⟨i102, i103, V, hl, hR104, hS105⟩
    replace i102 : q_F (0 ≤ lx96.toInt) := i102
    replace i103 : q_F (lx96.toInt ≤ 1) := i103
    replace hl : lv_has ls 2 [(0, .ref (q 153))] := hl
    refine q_put (ci := 16) (j := 0) (v := .int lx96) (ty := .int) C0 V i_TR o_TR n_TR rfl rfl hO32 (by decide) w_2138 rfl rfl rfl rfl (Nat.le_of_ble_eq_true rfl) d_18_31_13 (fun H locs w109 hu110 hO32 V => ?_)
    replace hO32 : w109[153]? = (some (q 153, .inr (16, [.int lx96, .ref (q 154), .int y34, .int y35, .int y36, .int y37, .ref (q 155), .int y38, .int y39, .long y40, .ref (q 156), .int y41, .int y42, .long y43, .long y44, .int y45, .int y46])) : Option (Nat × va_E)) := hO32
    replace hI := n_p153 hI hu110 hO32 ⟨(by have t1 : 0 ≤ t0_1.toInt ∧ t0_1.toInt ≤ 4100 := btt0_1; have t2 : t0_1.toInt ≤ y34.toInt := b57; omega), (by have t1 : 0 ≤ t0_1.toInt ∧ t0_1.toInt ≤ 4100 := btt0_1; have t2 : y34.toInt ≤ t0_1.toInt := b58; omega)⟩ ⟨(by have t1 : 0 ≤ y37.toInt := b53; omega), (by have t1 : y37.toInt ≤ 1 := b54; omega)⟩ ⟨(by have t1 : 0 ≤ t0_13.toInt ∧ t0_13.toInt ≤ 1 := btt0_13; have t2 : t0_13.toInt ≤ y46.toInt := b69; omega), (by have t1 : 0 ≤ t0_13.toInt ∧ t0_13.toInt ≤ 1 := btt0_13; have t2 : y46.toInt ≤ t0_13.toInt := b70; omega)⟩
    replace hT1 := (hu110 _ (by decide)).trans hT1
    replace hA48 := (hu110 _ (by decide)).trans hA48
    replace hT3 := (hu110 _ (by decide)).trans hT3
    replace hF := q_us hF hu110 (by simp)
    refine lv_aload_n hx hb d_18_31_16 rfl (lv_at hl 0 rfl) ?_
    refine q_get (ci := 16) (j := 0) (v := .int lx96) C0 V i_TR rfl rfl hO32 (by decide) w_2138 rfl d_18_31_17 ?_
    refine lv_if_le (tgt := 25) hx hb d_18_31_20 (by decide) (fun c111 => ?_) (fun c111 => ?_)
    ·
      have b112 : q_F (lx96.toInt ≤ 0) := (q_leI c111)
      refine lv_aload_n hx hb d_18_31_25 rfl (lv_at hl 0 rfl) ?_
      refine lv_bipush (v := 24) hx hb d_18_31_26 (by decide) ?_
      refine lv_sipush (v := (-149)) hx hb d_18_31_28 (by decide) ?_
      have ob113 : True ∧ S_TR_sizeRead (24 : Int32) (-149 : Int32) lx96 y34 y35 y36 y37 y38 y39 y40 y41 y42 y43 y44 y45 y46 f47 t3_0 := (by have h := hS105; rw [S_TR_floatBits_J13.eq_1] at h; rw [if_pos c111] at h; with_reducible exact h.2.1)
      refine q_gol V (q_runV (As := [.int 24, .int (-149)]) (rest := []) (d := 4) (mc := 0) (ms := 0) (ci := 16) C0 V rfl LV_TR_172 (X_TR_sizeRead l D g q w109  24 (-149) hI lx96 y34 y35 y36 y37 y38 y39 y40 y41 y42 y43 y44 y45 y46 hO32 f47 hA48 t3_0 hT3 ob113 _) rfl rfl hO32 rfl hl.1 rfl (Nat.le_of_ble_eq_true rfl) ⟨by decide, by decide⟩ ⟨Nat.le_of_ble_eq_true rfl, Nat.le_of_ble_eq_true rfl⟩ d_18_31_31) (fun j116 u114 H locs hp115 V => ?_)
      obtain ⟨hI, hu153, y118, y119, y120, y121, y122, y123, y124, y125, y126, y127, y128, y129, y130, y131, f132, hO117, hA133, b134, b135, b136, b137, b138, b139, b140, b141, b142, b143, b144, b145, b146, b147, b148, b149, b150, b151, hE152⟩ := hp115
      replace hO117 : u114[153]? = (some (q 153, .inr (16, [.int y118, .ref (q 154), .int y119, .int y120, .int y121, .int y122, .ref (q 155), .int y123, .int y124, .long y125, .ref (q 156), .int y126, .int y127, .long y128, .long y129, .int y130, .int y131])) : Option (Nat × va_E)) := hO117
      replace hA133 : u114[156]? = (some (q 156, .inl (g 0, (800 : Int32).toNatClampNeg, .inl f132)) : Option (Nat × va_E)) := hA133
      obtain ⟨p154, e155⟩ : ∃ z, z = (F_TR_sizeRead (24 : Int32) (-149 : Int32) lx96 y34 y35 y36 y37 y38 y39 y40 y41 y42 y43 y44 y45 y46 f47 t3_0) := ⟨_, rfl⟩
      have e156 : j116 = p154.1 := congrArg (fun z => z.1) (hE152.trans e155.symm)
      have e157 : y118 = p154.2.1 := congrArg (fun z => z.2.1) (hE152.trans e155.symm)
      have e158 : y119 = p154.2.2.1 := congrArg (fun z => z.2.2.1) (hE152.trans e155.symm)
      have e159 : y120 = p154.2.2.2.1 := congrArg (fun z => z.2.2.2.1) (hE152.trans e155.symm)
      have e160 : y121 = p154.2.2.2.2.1 := congrArg (fun z => z.2.2.2.2.1) (hE152.trans e155.symm)
      have e161 : y122 = p154.2.2.2.2.2.1 := congrArg (fun z => z.2.2.2.2.2.1) (hE152.trans e155.symm)
      have e162 : y123 = p154.2.2.2.2.2.2.1 := congrArg (fun z => z.2.2.2.2.2.2.1) (hE152.trans e155.symm)
      have e163 : y124 = p154.2.2.2.2.2.2.2.1 := congrArg (fun z => z.2.2.2.2.2.2.2.1) (hE152.trans e155.symm)
      have e164 : y125 = p154.2.2.2.2.2.2.2.2.1 := congrArg (fun z => z.2.2.2.2.2.2.2.2.1) (hE152.trans e155.symm)
      have e165 : y126 = p154.2.2.2.2.2.2.2.2.2.1 := congrArg (fun z => z.2.2.2.2.2.2.2.2.2.1) (hE152.trans e155.symm)
      have e166 : y127 = p154.2.2.2.2.2.2.2.2.2.2.1 := congrArg (fun z => z.2.2.2.2.2.2.2.2.2.2.1) (hE152.trans e155.symm)
      have e167 : y128 = p154.2.2.2.2.2.2.2.2.2.2.2.1 := congrArg (fun z => z.2.2.2.2.2.2.2.2.2.2.2.1) (hE152.trans e155.symm)
      have e168 : y129 = p154.2.2.2.2.2.2.2.2.2.2.2.2.1 := congrArg (fun z => z.2.2.2.2.2.2.2.2.2.2.2.2.1) (hE152.trans e155.symm)
      have e169 : y130 = p154.2.2.2.2.2.2.2.2.2.2.2.2.2.1 := congrArg (fun z => z.2.2.2.2.2.2.2.2.2.2.2.2.2.1) (hE152.trans e155.symm)
      have e170 : y131 = p154.2.2.2.2.2.2.2.2.2.2.2.2.2.2.1 := congrArg (fun z => z.2.2.2.2.2.2.2.2.2.2.2.2.2.2.1) (hE152.trans e155.symm)
      have e171 : f132 = p154.2.2.2.2.2.2.2.2.2.2.2.2.2.2.2 := congrArg (fun z => z.2.2.2.2.2.2.2.2.2.2.2.2.2.2.2) (hE152.trans e155.symm)
      replace b134 : q_F (0 ≤ y131.toInt) := b134
      replace b135 : q_F (y131.toInt ≤ 1) := b135
      replace b136 : q_F (lx96.toInt ≤ y118.toInt) := b136
      replace b137 : q_F (y118.toInt ≤ lx96.toInt) := b137
      replace b138 : q_F (y34.toInt ≤ y119.toInt) := b138
      replace b139 : q_F (y119.toInt ≤ y34.toInt) := b139
      replace b140 : q_F (y35.toInt ≤ y120.toInt) := b140
      replace b141 : q_F (y120.toInt ≤ y35.toInt) := b141
      replace b142 : q_F (y36.toInt ≤ y121.toInt) := b142
      replace b143 : q_F (y121.toInt ≤ y36.toInt) := b143
      replace b144 : q_F (y37.toInt ≤ y122.toInt) := b144
      replace b145 : q_F (y122.toInt ≤ y37.toInt) := b145
      replace b146 : q_F (y38.toInt ≤ y123.toInt) := b146
      replace b147 : q_F (y123.toInt ≤ y38.toInt) := b147
      replace b148 : q_F (y39.toInt ≤ y124.toInt) := b148
      replace b149 : q_F (y124.toInt ≤ y39.toInt) := b149
      replace b150 : q_F (y40.toInt ≤ y125.toInt) := b150
      replace b151 : q_F (y125.toInt ≤ y40.toInt) := b151
      replace hT1 := (hu153 _ (by decide)).trans hT1
      replace hA48 := (hu153 _ (by decide)).trans hA48
      replace hF := q_uc hF hu153 (by simp)
      have hR172 := (show F_TR_floatBits_c31 t0_0 t0_1 t0_2 t0_3 t0_4 t0_5 t0_6 t0_7 t0_8 t0_9 t0_10 t0_11 t0_12 t0_13 t1_0 t2_0 t3_0 p73 y33 y34 y35 y36 y37 y38 y39 y40 y41 y42 y43 y44 y45 y46 f47 lx96 p154 = (F_TR_floatBits t0_0 t0_1 t0_2 t0_3 t0_4 t0_5 t0_6 t0_7 t0_8 t0_9 t0_10 t0_11 t0_12 t0_13 t1_0 t2_0 t3_0) from Eq.trans (by rw [e155, F_TR_floatBits_J13.eq_1, if_pos c111]) hR104)
      have hS173 := (show True ∧ S_TR_floatBits_c31 t0_0 t0_1 t0_2 t0_3 t0_4 t0_5 t0_6 t0_7 t0_8 t0_9 t0_10 t0_11 t0_12 t0_13 t1_0 t2_0 t3_0 p73 y33 y34 y35 y36 y37 y38 y39 y40 y41 y42 y43 y44 y45 y46 f47 lx96 p154 from (by rw [e155]; have h := hS105; rw [S_TR_floatBits_J13.eq_1] at h; rw [if_pos c111] at h; replace h := q_s2 h; with_reducible exact h))
      refine lv_l2i hx hb d_18_31_34 rfl ?_
      obtain ⟨a177, e178⟩ := q_nm (j116.toInt32 : Int32)
      refine q_ti (v := a177) e178 ?_
      refine lv_istore_n (lv' := [(1, .int a177), (0, .ref (q 153))]) hx hb d_18_31_35 rfl hl (by decide) rfl (fun ls hl => ?_)
      refine lv_aload_n hx hb d_18_31_36 rfl (lv_at hl 1 rfl) ?_
      refine q_get (ci := 16) (j := 5) (v := .int y122) C0 V i_TR rfl rfl hO117 (by decide) w_2145 rfl d_18_31_37 ?_
      refine lv_if_eq (tgt := 58) hx hb d_18_31_40 (by decide) (fun c179 => ?_) (fun c179 => ?_)
      ·
        have b180 : q_F (y122.toInt = 0) := (q_eqI c179)
        refine lv_iload_n hx hb d_18_31_58 rfl (lv_at hl 0 rfl) ?_
        exact q_reti C0 V (⟨hI, hF, y118, y119, y120, y121, y122, y123, y124, y125, y126, y127, y128, y129, y130, y131, f47, f132, hO117, hA48, hA133, (show 0 ≤ y118.toInt from (by have t1 : 0 ≤ lx96.toInt := i102; have t2 : lx96.toInt ≤ y118.toInt := b136; omega)), (show y118.toInt ≤ 1 from (by have t1 : lx96.toInt ≤ 1 := i103; have t2 : y118.toInt ≤ lx96.toInt := b137; omega)), (show 0 ≤ y120.toInt from (by have t1 : 0 ≤ y35.toInt := b51; have t2 : y35.toInt ≤ y120.toInt := b140; omega)), (show y120.toInt ≤ 3 from (by have t1 : y35.toInt ≤ 3 := b52; have t2 : y120.toInt ≤ y35.toInt := b141; omega)), (show 0 ≤ y122.toInt from (by have t1 : y122.toInt = 0 := b180; omega)), (show y122.toInt ≤ 1 from (by have t1 : y122.toInt = 0 := b180; omega)), (show 0 ≤ y131.toInt from (by have t1 : 0 ≤ y131.toInt := b134; omega)), (show y131.toInt ≤ 1 from (by have t1 : y131.toInt ≤ 1 := b135; omega)), (show t0_1.toInt ≤ y119.toInt from (by have t1 : t0_1.toInt ≤ y34.toInt := b57; have t2 : y34.toInt ≤ y119.toInt := b138; omega)), (show y119.toInt ≤ t0_1.toInt from (by have t1 : y34.toInt ≤ t0_1.toInt := b58; have t2 : y119.toInt ≤ y34.toInt := b139; omega)), (show (a177, y118, y119, y120, y121, y122, y123, y124, y125, y126, y127, y128, y129, y130, y131, f47, f132) = (F_TR_floatBits t0_0 t0_1 t0_2 t0_3 t0_4 t0_5 t0_6 t0_7 t0_8 t0_9 t0_10 t0_11 t0_12 t0_13 t1_0 t2_0 t3_0) from Eq.trans (by have c179x := c179; rw [e161] at c179x; rw [← e178, e171, e170, e169, e168, e167, e166, e165, e164, e163, e162, e161, e160, e159, e158, e157, e156, F_TR_floatBits_c31.eq_1, if_pos c179x]) hR172)⟩) d_18_31_59
      ·
        have b181 : q_F (y122.toInt ≠ 0) := (q_neI c179)
        refine lv_aload_n hx hb d_18_31_43 rfl (lv_at hl 1 rfl) ?_
        refine q_get (ci := 16) (j := 3) (v := .int y120) C0 V i_TR rfl rfl hO117 (by decide) w_2143 rfl d_18_31_44 ?_
        refine lv_iconst (v := 3) hx hb d_18_31_47 (by decide) ?_
        refine lv_icmp_ge (tgt := 58) hx hb d_18_31_48 (by decide) (fun c182 => ?_) (fun c182 => ?_)
        ·
          have b183 : q_F (3 ≤ y120.toInt) := (q_leI c182)
          refine lv_iload_n hx hb d_18_31_58 rfl (lv_at hl 0 rfl) ?_
          exact q_reti C0 V (⟨hI, hF, y118, y119, y120, y121, y122, y123, y124, y125, y126, y127, y128, y129, y130, y131, f47, f132, hO117, hA48, hA133, (show 0 ≤ y118.toInt from (by have t1 : 0 ≤ lx96.toInt := i102; have t2 : lx96.toInt ≤ y118.toInt := b136; omega)), (show y118.toInt ≤ 1 from (by have t1 : lx96.toInt ≤ 1 := i103; have t2 : y118.toInt ≤ lx96.toInt := b137; omega)), (show 0 ≤ y120.toInt from (by have t1 : 3 ≤ y120.toInt := b183; omega)), (show y120.toInt ≤ 3 from (by have t1 : y35.toInt ≤ 3 := b52; have t2 : y120.toInt ≤ y35.toInt := b141; omega)), (show 0 ≤ y122.toInt from (by have t1 : 0 ≤ y37.toInt := b53; have t2 : y37.toInt ≤ y122.toInt := b144; omega)), (show y122.toInt ≤ 1 from (by have t1 : y37.toInt ≤ 1 := b54; have t2 : y122.toInt ≤ y37.toInt := b145; omega)), (show 0 ≤ y131.toInt from (by have t1 : 0 ≤ y131.toInt := b134; omega)), (show y131.toInt ≤ 1 from (by have t1 : y131.toInt ≤ 1 := b135; omega)), (show t0_1.toInt ≤ y119.toInt from (by have t1 : t0_1.toInt ≤ y34.toInt := b57; have t2 : y34.toInt ≤ y119.toInt := b138; omega)), (show y119.toInt ≤ t0_1.toInt from (by have t1 : y34.toInt ≤ t0_1.toInt := b58; have t2 : y119.toInt ≤ y34.toInt := b139; omega)), (show (a177, y118, y119, y120, y121, y122, y123, y124, y125, y126, y127, y128, y129, y130, y131, f47, f132) = (F_TR_floatBits t0_0 t0_1 t0_2 t0_3 t0_4 t0_5 t0_6 t0_7 t0_8 t0_9 t0_10 t0_11 t0_12 t0_13 t1_0 t2_0 t3_0) from Eq.trans (by have c179x := c179; rw [e161] at c179x; have c182x := c182; rw [e159] at c182x; rw [← e178, e171, e170, e169, e168, e167, e166, e165, e164, e163, e162, e161, e160, e159, e158, e157, e156, F_TR_floatBits_c31.eq_1, if_neg c179x, if_pos c182x]) hR172)⟩) d_18_31_59
        ·
          have b184 : q_F (y120.toInt < 3) := (q_nleI c182)
          refine lv_iload_n hx hb d_18_31_51 rfl (lv_at hl 0 rfl) ?_
          refine q_ldc C0 rfl w_2529 d_18_31_52 ?_
          refine lv_ior hx hb d_18_31_54 ?_
          obtain ⟨a185, e186⟩ := q_nm (a177 ||| (-2147483648) : Int32)
          refine q_ti (v := a185) e186 ?_
          refine lv_goto (tgt := 59) hx hb d_18_31_55 (by decide) ?_
          exact q_reti C0 V (⟨hI, hF, y118, y119, y120, y121, y122, y123, y124, y125, y126, y127, y128, y129, y130, y131, f47, f132, hO117, hA48, hA133, (show 0 ≤ y118.toInt from (by have t1 : 0 ≤ lx96.toInt := i102; have t2 : lx96.toInt ≤ y118.toInt := b136; omega)), (show y118.toInt ≤ 1 from (by have t1 : lx96.toInt ≤ 1 := i103; have t2 : y118.toInt ≤ lx96.toInt := b137; omega)), (show 0 ≤ y120.toInt from (by have t1 : 0 ≤ y35.toInt := b51; have t2 : y35.toInt ≤ y120.toInt := b140; omega)), (show y120.toInt ≤ 3 from (by have t1 : y120.toInt < 3 := b184; omega)), (show 0 ≤ y122.toInt from (by have t1 : 0 ≤ y37.toInt := b53; have t2 : y37.toInt ≤ y122.toInt := b144; omega)), (show y122.toInt ≤ 1 from (by have t1 : y37.toInt ≤ 1 := b54; have t2 : y122.toInt ≤ y37.toInt := b145; omega)), (show 0 ≤ y131.toInt from (by have t1 : 0 ≤ y131.toInt := b134; omega)), (show y131.toInt ≤ 1 from (by have t1 : y131.toInt ≤ 1 := b135; omega)), (show t0_1.toInt ≤ y119.toInt from (by have t1 : t0_1.toInt ≤ y34.toInt := b57; have t2 : y34.toInt ≤ y119.toInt := b138; omega)), (show y119.toInt ≤ t0_1.toInt from (by have t1 : y34.toInt ≤ t0_1.toInt := b58; have t2 : y119.toInt ≤ y34.toInt := b139; omega)), (show (a185, y118, y119, y120, y121, y122, y123, y124, y125, y126, y127, y128, y129, y130, y131, f47, f132) = (F_TR_floatBits t0_0 t0_1 t0_2 t0_3 t0_4 t0_5 t0_6 t0_7 t0_8 t0_9 t0_10 t0_11 t0_12 t0_13 t1_0 t2_0 t3_0) from Eq.trans (by have c179x := c179; rw [e161] at c179x; have c182x := c182; rw [e159] at c182x; rw [← e186, ← e178, e171, e170, e169, e168, e167, e166, e165, e164, e163, e162, e161, e160, e159, e158, e157, e156, F_TR_floatBits_c31.eq_1, if_neg c179x, if_neg c182x]) hR172)⟩) d_18_31_59
    ·
      have b187 : q_F (0 < lx96.toInt) := (q_nleI c111)
      refine lv_iconst (v := 0) hx hb d_18_31_23 (by decide) ?_
      exact q_reti C0 V (⟨hI, hF, lx96, y34, y35, y36, y37, y38, y39, y40, y41, y42, y43, y44, y45, y46, f47, t3_0, hO32, hA48, hT3, (show 0 ≤ lx96.toInt from (by have z17 : (0 : Int32).toInt = 0 := rfl; have t1 : 0 ≤ lx96.toInt := i102; omega)), (show lx96.toInt ≤ 1 from (by have z17 : (0 : Int32).toInt = 0 := rfl; have t1 : lx96.toInt ≤ 1 := i103; omega)), (show 0 ≤ y35.toInt from (by have z17 : (0 : Int32).toInt = 0 := rfl; have t1 : 0 ≤ y35.toInt := b51; omega)), (show y35.toInt ≤ 3 from (by have z17 : (0 : Int32).toInt = 0 := rfl; have t1 : y35.toInt ≤ 3 := b52; omega)), (show 0 ≤ y37.toInt from (by have z17 : (0 : Int32).toInt = 0 := rfl; have t1 : 0 ≤ y37.toInt := b53; omega)), (show y37.toInt ≤ 1 from (by have z17 : (0 : Int32).toInt = 0 := rfl; have t1 : y37.toInt ≤ 1 := b54; omega)), (show 0 ≤ y46.toInt from (by have z17 : (0 : Int32).toInt = 0 := rfl; have t1 : 0 ≤ t0_13.toInt ∧ t0_13.toInt ≤ 1 := btt0_13; have t2 : t0_13.toInt ≤ y46.toInt := b69; omega)), (show y46.toInt ≤ 1 from (by have z17 : (0 : Int32).toInt = 0 := rfl; have t1 : 0 ≤ t0_13.toInt ∧ t0_13.toInt ≤ 1 := btt0_13; have t2 : y46.toInt ≤ t0_13.toInt := b70; omega)), (show t0_1.toInt ≤ y34.toInt from (by have z17 : (0 : Int32).toInt = 0 := rfl; have t1 : t0_1.toInt ≤ y34.toInt := b57; omega)), (show y34.toInt ≤ t0_1.toInt from (by have z17 : (0 : Int32).toInt = 0 := rfl; have t1 : y34.toInt ≤ t0_1.toInt := b58; omega)), (show ((0 : Int32), lx96, y34, y35, y36, y37, y38, y39, y40, y41, y42, y43, y44, y45, y46, f47, t3_0) = (F_TR_floatBits t0_0 t0_1 t0_2 t0_3 t0_4 t0_5 t0_6 t0_7 t0_8 t0_9 t0_10 t0_11 t0_12 t0_13 t1_0 t2_0 t3_0) from Eq.trans (by rw [F_TR_floatBits_J13.eq_1, if_neg c111]) hR104)⟩) d_18_31_24
  ·
    intro J101
    refine lv_if_eq (tgt := 12) hx hb d_18_31_5 (by decide) (fun c188 => ?_) (fun c188 => ?_)
    ·
      have b189 : q_F (a31.toInt = 0) := (q_eqI c188)
      refine lv_iconst (v := 1) hx hb d_18_31_12 (by decide) ?_
      exact J101 ((1 : Int32)) _ _ _ u29 ⟨(show q_F (0 ≤ 1) from (show 0 ≤ 1 from by omega)), (show q_F (1 ≤ 1) from (show 1 ≤ 1 from by omega)), V, q_lw hl (q_lw1 0 rfl q_lw0), (show F_TR_floatBits_J13 t0_0 t0_1 t0_2 t0_3 t0_4 t0_5 t0_6 t0_7 t0_8 t0_9 t0_10 t0_11 t0_12 t0_13 t1_0 t2_0 t3_0 p73 y33 y34 y35 y36 y37 y38 y39 y40 y41 y42 y43 y44 y45 y46 f47 1 = (F_TR_floatBits t0_0 t0_1 t0_2 t0_3 t0_4 t0_5 t0_6 t0_7 t0_8 t0_9 t0_10 t0_11 t0_12 t0_13 t1_0 t2_0 t3_0) from Eq.trans (by have c188x := c188; rw [e75] at c188x; rw [e90, e89, e88, e87, e86, e85, e84, e83, e82, e81, e80, e79, e78, e77, e76, F_TR_floatBits_c2.eq_1, if_pos c188x]) hR91), (show True ∧ S_TR_floatBits_J13 t0_0 t0_1 t0_2 t0_3 t0_4 t0_5 t0_6 t0_7 t0_8 t0_9 t0_10 t0_11 t0_12 t0_13 t1_0 t2_0 t3_0 p73 y33 y34 y35 y36 y37 y38 y39 y40 y41 y42 y43 y44 y45 y46 f47 1 from (by rw [e90, e89, e88, e87, e86, e85, e84, e83, e82, e81, e80, e79, e78, e77, e76]; have h := hS92; rw [S_TR_floatBits_c2.eq_1] at h; have c188x := c188; rw [e75] at c188x; rw [if_pos c188x] at h; with_reducible exact h))⟩
    ·
      have b190 : q_F (a31.toInt ≠ 0) := (q_neI c188)
      refine lv_iconst (v := 0) hx hb d_18_31_8 (by decide) ?_
      refine lv_goto (tgt := 13) hx hb d_18_31_9 (by decide) ?_
      exact J101 ((0 : Int32)) _ _ _ u29 ⟨(show q_F (0 ≤ 0) from (show 0 ≤ 0 from by omega)), (show q_F (0 ≤ 1) from (show 0 ≤ 1 from by omega)), V, q_lw hl (q_lw1 0 rfl q_lw0), (show F_TR_floatBits_J13 t0_0 t0_1 t0_2 t0_3 t0_4 t0_5 t0_6 t0_7 t0_8 t0_9 t0_10 t0_11 t0_12 t0_13 t1_0 t2_0 t3_0 p73 y33 y34 y35 y36 y37 y38 y39 y40 y41 y42 y43 y44 y45 y46 f47 0 = (F_TR_floatBits t0_0 t0_1 t0_2 t0_3 t0_4 t0_5 t0_6 t0_7 t0_8 t0_9 t0_10 t0_11 t0_12 t0_13 t1_0 t2_0 t3_0) from Eq.trans (by have c188x := c188; rw [e75] at c188x; rw [e90, e89, e88, e87, e86, e85, e84, e83, e82, e81, e80, e79, e78, e77, e76, F_TR_floatBits_c2.eq_1, if_neg c188x]) hR91), (show True ∧ S_TR_floatBits_J13 t0_0 t0_1 t0_2 t0_3 t0_4 t0_5 t0_6 t0_7 t0_8 t0_9 t0_10 t0_11 t0_12 t0_13 t1_0 t2_0 t3_0 p73 y33 y34 y35 y36 y37 y38 y39 y40 y41 y42 y43 y44 y45 y46 f47 0 from (by rw [e90, e89, e88, e87, e86, e85, e84, e83, e82, e81, e80, e79, e78, e77, e76]; have h := hS92; rw [S_TR_floatBits_c2.eq_1] at h; have c188x := c188; rw [e75] at c188x; rw [if_neg c188x] at h; with_reducible exact h))⟩
