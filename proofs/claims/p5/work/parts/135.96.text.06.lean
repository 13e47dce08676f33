theorem d_18_26_0 : decode prog_18_method_26_code 0 = .ok (.iconst 0, 1) := by decide +kernel
theorem d_18_26_1 : decode prog_18_method_26_code 1 = .ok (.istore_n 3, 1) := by decide +kernel
theorem d_18_26_2 : decode prog_18_method_26_code 2 = .ok (.iload_n 3, 1) := by decide +kernel
theorem d_18_26_3 : decode prog_18_method_26_code 3 = .ok (.aload_n 0, 1) := by decide +kernel
theorem d_18_26_4 : decode prog_18_method_26_code 4 = .ok (.getfield 39, 3) := by decide +kernel
theorem d_18_26_25 : decode prog_18_method_26_code 25 = .ok (.iload_n 3, 1) := by decide +kernel
theorem d_18_26_26 : decode prog_18_method_26_code 26 = .ok (.aload_n 0, 1) := by decide +kernel
theorem d_18_26_27 : decode prog_18_method_26_code 27 = .ok (.getfield 39, 3) := by decide +kernel
theorem d_18_26_30 : decode prog_18_method_26_code 30 = .ok (.if_icmp .ne 27, 3) := by decide +kernel
theorem d_18_26_57 : decode prog_18_method_26_code 57 = .ok (.aload_n 0, 1) := by decide +kernel
theorem d_18_26_58 : decode prog_18_method_26_code 58 = .ok (.getfield 59, 3) := by decide +kernel
theorem d_18_26_61 : decode prog_18_method_26_code 61 = .ok (.ifCond .ne 13, 3) := by decide +kernel
theorem d_18_26_74 : decode prog_18_method_26_code 74 = .ok (.aload_n 0, 1) := by decide +kernel
theorem d_18_26_75 : decode prog_18_method_26_code 75 = .ok (.iload_n 3, 1) := by decide +kernel
theorem d_18_26_76 : decode prog_18_method_26_code 76 = .ok (.iload_n 1, 1) := by decide +kernel
theorem d_18_26_77 : decode prog_18_method_26_code 77 = .ok (.iload_n 2, 1) := by decide +kernel
theorem d_18_26_78 : decode prog_18_method_26_code 78 = .ok (.invokevirtual 157, 3) := by decide +kernel
set_option maxRecDepth 100000 in
theorem w_2505 : (Cond.code ({ cls := "NumberHouseModel$TextRows", name := "findHexadecimal", desc := "(III)V" } : MethodName) prog_18_method_25_code (12 : Nat) (none : Option ClassFile.FieldType)) ∈ q_tbl := q_of11 105 rfl (by decide +kernel)
set_option maxRecDepth 100000 in
theorem w_2502 : (Cond.methodLink "NumberHouseModel$TextRows" (157 : Nat) ({ cls := "NumberHouseModel$TextRows", name := "findHexadecimal", desc := "(III)V" } : MethodName)) ∈ q_tbl := q_of11 102 rfl (by decide +kernel)
set_option maxRecDepth 100000 in
theorem w_2504 : (Cond.instanceMethod ({ cls := "NumberHouseModel$TextRows", name := "findHexadecimal", desc := "(III)V" } : MethodName)) ∈ q_tbl := q_of11 104 rfl (by decide +kernel)
theorem ws_80 : Cond.selects "NumberHouseModel$TextRows" (⟨"NumberHouseModel$TextRows", "findHexadecimal", "(III)V"⟩ : MethodName) (⟨"NumberHouseModel$TextRows", "findHexadecimal", "(III)V"⟩ : MethodName) ∈ q_tbl := q_ofs 80 (by decide +kernel) (by decide +kernel)
theorem LV_TR_157 : q_LV "NumberHouseModel$TextRows" 157 y_TR_findHexadecimal prog_18_method_25_code 12 none 3 := ⟨w_2505, w_18, w_2502, w_2504, ws_80, ⟨by decide, by decide, by decide +kernel⟩⟩
theorem d_18_26_81 : decode prog_18_method_26_code 81 = .ok (.return_, 1) := by decide +kernel
theorem d_18_26_64 : decode prog_18_method_26_code 64 = .ok (.aload_n 0, 1) := by decide +kernel
theorem d_18_26_65 : decode prog_18_method_26_code 65 = .ok (.iload_n 3, 1) := by decide +kernel
theorem d_18_26_66 : decode prog_18_method_26_code 66 = .ok (.iload_n 1, 1) := by decide +kernel
theorem d_18_26_67 : decode prog_18_method_26_code 67 = .ok (.iload_n 2, 1) := by decide +kernel
theorem d_18_26_68 : decode prog_18_method_26_code 68 = .ok (.invokevirtual 153, 3) := by decide +kernel
set_option maxRecDepth 100000 in
theorem w_2479 : (Cond.code ({ cls := "NumberHouseModel$TextRows", name := "findDecimal", desc := "(III)V" } : MethodName) prog_18_method_23_code (8 : Nat) (none : Option ClassFile.FieldType)) ∈ q_tbl := q_of11 79 rfl (by decide +kernel)
set_option maxRecDepth 100000 in
theorem w_2476 : (Cond.methodLink "NumberHouseModel$TextRows" (153 : Nat) ({ cls := "NumberHouseModel$TextRows", name := "findDecimal", desc := "(III)V" } : MethodName)) ∈ q_tbl := q_of11 76 rfl (by decide +kernel)
set_option maxRecDepth 100000 in
theorem w_2478 : (Cond.instanceMethod ({ cls := "NumberHouseModel$TextRows", name := "findDecimal", desc := "(III)V" } : MethodName)) ∈ q_tbl := q_of11 78 rfl (by decide +kernel)
theorem ws_75 : Cond.selects "NumberHouseModel$TextRows" (⟨"NumberHouseModel$TextRows", "findDecimal", "(III)V"⟩ : MethodName) (⟨"NumberHouseModel$TextRows", "findDecimal", "(III)V"⟩ : MethodName) ∈ q_tbl := q_ofs 75 (by decide +kernel) (by decide +kernel)
theorem LV_TR_153 : q_LV "NumberHouseModel$TextRows" 153 y_TR_findDecimal prog_18_method_23_code 8 none 3 := ⟨w_2479, w_18, w_2476, w_2478, ws_75, ⟨by decide, by decide, by decide +kernel⟩⟩
theorem d_18_26_71 : decode prog_18_method_26_code 71 = .ok (.goto 10, 3) := by decide +kernel
theorem d_18_26_33 : decode prog_18_method_26_code 33 = .ok (.aload_n 0, 1) := by decide +kernel
theorem d_18_26_34 : decode prog_18_method_26_code 34 = .ok (.iconst 0, 1) := by decide +kernel
theorem d_18_26_35 : decode prog_18_method_26_code 35 = .ok (.putfield 109, 3) := by decide +kernel
theorem d_18_26_38 : decode prog_18_method_26_code 38 = .ok (.aload_n 0, 1) := by decide +kernel
theorem d_18_26_39 : decode prog_18_method_26_code 39 = .ok (.lconst 0, 1) := by decide +kernel
theorem d_18_26_40 : decode prog_18_method_26_code 40 = .ok (.putfield 114, 3) := by decide +kernel
theorem d_18_26_43 : decode prog_18_method_26_code 43 = .ok (.aload_n 0, 1) := by decide +kernel
theorem d_18_26_44 : decode prog_18_method_26_code 44 = .ok (.iload_n 2, 1) := by decide +kernel
theorem d_18_26_45 : decode prog_18_method_26_code 45 = .ok (.i2l, 1) := by decide +kernel
theorem d_18_26_46 : decode prog_18_method_26_code 46 = .ok (.putfield 117, 3) := by decide +kernel
theorem d_18_26_49 : decode prog_18_method_26_code 49 = .ok (.aload_n 0, 1) := by decide +kernel
theorem d_18_26_50 : decode prog_18_method_26_code 50 = .ok (.iconst 0, 1) := by decide +kernel
theorem d_18_26_51 : decode prog_18_method_26_code 51 = .ok (.putfield 120, 3) := by decide +kernel
theorem d_18_26_54 : decode prog_18_method_26_code 54 = .ok (.goto 27, 3) := by decide +kernel
theorem d_18_26_7 : decode prog_18_method_26_code 7 = .ok (.if_icmp .ge 18, 3) := by decide +kernel
theorem d_18_26_10 : decode prog_18_method_26_code 10 = .ok (.aload_n 0, 1) := by decide +kernel
theorem d_18_26_11 : decode prog_18_method_26_code 11 = .ok (.getfield 13, 3) := by decide +kernel
theorem d_18_26_14 : decode prog_18_method_26_code 14 = .ok (.iload_n 3, 1) := by decide +kernel
theorem d_18_26_15 : decode prog_18_method_26_code 15 = .ok (.iaload, 1) := by decide +kernel
theorem d_18_26_16 : decode prog_18_method_26_code 16 = .ok (.ifCond .ne 9, 3) := by decide +kernel
theorem d_18_26_19 : decode prog_18_method_26_code 19 = .ok (.iinc 3 1, 3) := by decide +kernel
theorem d_18_26_22 : decode prog_18_method_26_code 22 = .ok (.goto (-20), 3) := by decide +kernel
def y_TR_find : MethodName := ⟨"NumberHouseModel$TextRows", "find", "(II)V"⟩
def F_TR_find_c78 (K_F_TR_find_L2 : Int32 → (Int32 × Int32 × Int32 × Int32 × Int32 × Int32 × Int32 × Int64 × Int32 × Int32 × Int64 × Int64 × Int32 × Int32 × (Nat → Int32))) (x2 : Int32) (x3 : Int32) (t0_0 : Int32) (t0_1 : Int32) (t0_2 : Int32) (t0_3 : Int32) (t0_4 : Int32) (t0_5 : Int32) (t0_6 : Int32) (t0_7 : Int64) (t0_8 : Int32) (t0_9 : Int32) (t0_10 : Int64) (t0_11 : Int64) (t0_12 : Int32) (t0_13 : Int32) (t1_0 : (Nat → Int32)) (t2_0 : (Nat → Int32)) (lx26 : Int32) (p99 : (Int32 × Int32 × Int32 × Int32 × Int32 × Int32 × Int32 × Int64 × Int32 × Int32 × Int64 × Int64 × Int32 × Int32)) : Int32 × Int32 × Int32 × Int32 × Int32 × Int32 × Int32 × Int64 × Int32 × Int32 × Int64 × Int64 × Int32 × Int32 × (Nat → Int32) := ((p99.1 : Int32), (p99.2.1 : Int32), (p99.2.2.1 : Int32), (p99.2.2.2.1 : Int32), (p99.2.2.2.2.1 : Int32), (p99.2.2.2.2.2.1 : Int32), (p99.2.2.2.2.2.2.1 : Int32), (p99.2.2.2.2.2.2.2.1 : Int64), (p99.2.2.2.2.2.2.2.2.1 : Int32), (p99.2.2.2.2.2.2.2.2.2.1 : Int32), (p99.2.2.2.2.2.2.2.2.2.2.1 : Int64), (p99.2.2.2.2.2.2.2.2.2.2.2.1 : Int64), (p99.2.2.2.2.2.2.2.2.2.2.2.2.1 : Int32), (p99.2.2.2.2.2.2.2.2.2.2.2.2.2 : Int32), t2_0)
def F_TR_find_c68 (K_F_TR_find_L2 : Int32 → (Int32 × Int32 × Int32 × Int32 × Int32 × Int32 × Int32 × Int64 × Int32 × Int32 × Int64 × Int64 × Int32 × Int32 × (Nat → Int32))) (x2 : Int32) (x3 : Int32) (t0_0 : Int32) (t0_1 : Int32) (t0_2 : Int32) (t0_3 : Int32) (t0_4 : Int32) (t0_5 : Int32) (t0_6 : Int32) (t0_7 : Int64) (t0_8 : Int32) (t0_9 : Int32) (t0_10 : Int64) (t0_11 : Int64) (t0_12 : Int32) (t0_13 : Int32) (t1_0 : (Nat → Int32)) (t2_0 : (Nat → Int32)) (lx26 : Int32) (p163 : (Int32 × Int32 × Int32 × Int32 × Int32 × Int32 × Int32 × Int64 × Int32 × Int32 × Int64 × Int64 × Int32 × Int32 × (Nat → Int32))) : Int32 × Int32 × Int32 × Int32 × Int32 × Int32 × Int32 × Int64 × Int32 × Int32 × Int64 × Int64 × Int32 × Int32 × (Nat → Int32) := ((p163.1 : Int32), (p163.2.1 : Int32), (p163.2.2.1 : Int32), (p163.2.2.2.1 : Int32), (p163.2.2.2.2.1 : Int32), (p163.2.2.2.2.2.1 : Int32), (p163.2.2.2.2.2.2.1 : Int32), (p163.2.2.2.2.2.2.2.1 : Int64), (p163.2.2.2.2.2.2.2.2.1 : Int32), (p163.2.2.2.2.2.2.2.2.2.1 : Int32), (p163.2.2.2.2.2.2.2.2.2.2.1 : Int64), (p163.2.2.2.2.2.2.2.2.2.2.2.1 : Int64), (p163.2.2.2.2.2.2.2.2.2.2.2.2.1 : Int32), (p163.2.2.2.2.2.2.2.2.2.2.2.2.2.1 : Int32), (p163.2.2.2.2.2.2.2.2.2.2.2.2.2.2 : (Nat → Int32)))
def F_TR_find_J25 (K_F_TR_find_L2 : Int32 → (Int32 × Int32 × Int32 × Int32 × Int32 × Int32 × Int32 × Int64 × Int32 × Int32 × Int64 × Int64 × Int32 × Int32 × (Nat → Int32))) (x2 : Int32) (x3 : Int32) (t0_0 : Int32) (t0_1 : Int32) (t0_2 : Int32) (t0_3 : Int32) (t0_4 : Int32) (t0_5 : Int32) (t0_6 : Int32) (t0_7 : Int64) (t0_8 : Int32) (t0_9 : Int32) (t0_10 : Int64) (t0_11 : Int64) (t0_12 : Int32) (t0_13 : Int32) (t1_0 : (Nat → Int32)) (t2_0 : (Nat → Int32)) (lx26 : Int32) : Int32 × Int32 × Int32 × Int32 × Int32 × Int32 × Int32 × Int64 × Int32 × Int32 × Int64 × Int64 × Int32 × Int32 × (Nat → Int32) := if lx26 = t0_5 then ((t0_0, t0_1, t0_2, t0_3, t0_4, t0_5, t0_6, t0_7, t0_8, t0_9, (0 : Int64), (x3.toInt64 : Int64), (0 : Int32), (0 : Int32), t2_0)) else (if t0_2 = (0 : Int32) then (F_TR_find_c68 K_F_TR_find_L2 x2 x3 t0_0 t0_1 t0_2 t0_3 t0_4 t0_5 t0_6 t0_7 t0_8 t0_9 t0_10 t0_11 t0_12 t0_13 t1_0 t2_0 lx26 ((F_TR_findDecimal lx26 x2 x3 t0_0 t0_1 t0_2 t0_3 t0_4 t0_5 t0_6 t0_7 t0_8 t0_9 t0_10 t0_11 t0_12 t0_13 t1_0 t2_0) : (Int32 × Int32 × Int32 × Int32 × Int32 × Int32 × Int32 × Int64 × Int32 × Int32 × Int64 × Int64 × Int32 × Int32 × (Nat → Int32)))) else (F_TR_find_c78 K_F_TR_find_L2 x2 x3 t0_0 t0_1 t0_2 t0_3 t0_4 t0_5 t0_6 t0_7 t0_8 t0_9 t0_10 t0_11 t0_12 t0_13 t1_0 t2_0 lx26 ((F_TR_findHexadecimal lx26 x2 x3 t0_0 t0_1 t0_2 t0_3 t0_4 t0_5 t0_6 t0_7 t0_8 t0_9 t0_10 t0_11 t0_12 t0_13 t1_0) : (Int32 × Int32 × Int32 × Int32 × Int32 × Int32 × Int32 × Int64 × Int32 × Int32 × Int64 × Int64 × Int32 × Int32))))
def F_TR_find_L2 (x2 : Int32) (x3 : Int32) (t0_0 : Int32) (t0_1 : Int32) (t0_2 : Int32) (t0_3 : Int32) (t0_4 : Int32) (t0_5 : Int32) (t0_6 : Int32) (t0_7 : Int64) (t0_8 : Int32) (t0_9 : Int32) (t0_10 : Int64) (t0_11 : Int64) (t0_12 : Int32) (t0_13 : Int32) (t1_0 : (Nat → Int32)) (t2_0 : (Nat → Int32)) : Nat → Int32 → (Int32 × Int32 × Int32 × Int32 × Int32 × Int32 × Int32 × Int64 × Int32 × Int32 × Int64 × Int64 × Int32 × Int32 × (Nat → Int32))
  | 0, _ => default
  | fm + 1, lx26 => if t0_5 ≤ lx26 then (F_TR_find_J25 (F_TR_find_L2 x2 x3 t0_0 t0_1 t0_2 t0_3 t0_4 t0_5 t0_6 t0_7 t0_8 t0_9 t0_10 t0_11 t0_12 t0_13 t1_0 t2_0 fm) x2 x3 t0_0 t0_1 t0_2 t0_3 t0_4 t0_5 t0_6 t0_7 t0_8 t0_9 t0_10 t0_11 t0_12 t0_13 t1_0 t2_0 lx26) else (if (t1_0 lx26.toNatClampNeg : Int32) = (0 : Int32) then (F_TR_find_L2 x2 x3 t0_0 t0_1 t0_2 t0_3 t0_4 t0_5 t0_6 t0_7 t0_8 t0_9 t0_10 t0_11 t0_12 t0_13 t1_0 t2_0 fm (lx26 + 1 : Int32)) else (F_TR_find_J25 (F_TR_find_L2 x2 x3 t0_0 t0_1 t0_2 t0_3 t0_4 t0_5 t0_6 t0_7 t0_8 t0_9 t0_10 t0_11 t0_12 t0_13 t1_0 t2_0 fm) x2 x3 t0_0 t0_1 t0_2 t0_3 t0_4 t0_5 t0_6 t0_7 t0_8 t0_9 t0_10 t0_11 t0_12 t0_13 t1_0 t2_0 lx26))
def F_TR_find (x2 : Int32) (x3 : Int32) (t0_0 : Int32) (t0_1 : Int32) (t0_2 : Int32) (t0_3 : Int32) (t0_4 : Int32) (t0_5 : Int32) (t0_6 : Int32) (t0_7 : Int64) (t0_8 : Int32) (t0_9 : Int32) (t0_10 : Int64) (t0_11 : Int64) (t0_12 : Int32) (t0_13 : Int32) (t1_0 : (Nat → Int32)) (t2_0 : (Nat → Int32)) : Int32 × Int32 × Int32 × Int32 × Int32 × Int32 × Int32 × Int64 × Int32 × Int32 × Int64 × Int64 × Int32 × Int32 × (Nat → Int32) := F_TR_find_L2 x2 x3 t0_0 t0_1 t0_2 t0_3 t0_4 t0_5 t0_6 t0_7 t0_8 t0_9 t0_10 t0_11 t0_12 t0_13 t1_0 t2_0 ((4100 - (0 : Int32).toInt).toNat + 1) 0
def S_TR_find_c78 (K_S_TR_find_L2 : Int32 → Prop) (x2 : Int32) (x3 : Int32) (t0_0 : Int32) (t0_1 : Int32) (t0_2 : Int32) (t0_3 : Int32) (t0_4 : Int32) (t0_5 : Int32) (t0_6 : Int32) (t0_7 : Int64) (t0_8 : Int32) (t0_9 : Int32) (t0_10 : Int64) (t0_11 : Int64) (t0_12 : Int32) (t0_13 : Int32) (t1_0 : (Nat → Int32)) (t2_0 : (Nat → Int32)) (lx26 : Int32) (p99 : (Int32 × Int32 × Int32 × Int32 × Int32 × Int32 × Int32 × Int64 × Int32 × Int32 × Int64 × Int64 × Int32 × Int32)) : Prop := True
def S_TR_find_c68 (K_S_TR_find_L2 : Int32 → Prop) (x2 : Int32) (x3 : Int32) (t0_0 : Int32) (t0_1 : Int32) (t0_2 : Int32) (t0_3 : Int32) (t0_4 : Int32) (t0_5 : Int32) (t0_6 : Int32) (t0_7 : Int64) (t0_8 : Int32) (t0_9 : Int32) (t0_10 : Int64) (t0_11 : Int64) (t0_12 : Int32) (t0_13 : Int32) (t1_0 : (Nat → Int32)) (t2_0 : (Nat → Int32)) (lx26 : Int32) (p163 : (Int32 × Int32 × Int32 × Int32 × Int32 × Int32 × Int32 × Int64 × Int32 × Int32 × Int64 × Int64 × Int32 × Int32 × (Nat → Int32))) : Prop := True
def S_TR_find_J25 (K_S_TR_find_L2 : Int32 → Prop) (x2 : Int32) (x3 : Int32) (t0_0 : Int32) (t0_1 : Int32) (t0_2 : Int32) (t0_3 : Int32) (t0_4 : Int32) (t0_5 : Int32) (t0_6 : Int32) (t0_7 : Int64) (t0_8 : Int32) (t0_9 : Int32) (t0_10 : Int64) (t0_11 : Int64) (t0_12 : Int32) (t0_13 : Int32) (t1_0 : (Nat → Int32)) (t2_0 : (Nat → Int32)) (lx26 : Int32) : Prop := if lx26 = t0_5 then (True) else (if t0_2 = (0 : Int32) then ((True ∧ S_TR_findDecimal lx26 x2 x3 t0_0 t0_1 t0_2 t0_3 t0_4 t0_5 t0_6 t0_7 t0_8 t0_9 t0_10 t0_11 t0_12 t0_13 t1_0 t2_0) ∧ (S_TR_find_c68 K_S_TR_find_L2 x2 x3 t0_0 t0_1 t0_2 t0_3 t0_4 t0_5 t0_6 t0_7 t0_8 t0_9 t0_10 t0_11 t0_12 t0_13 t1_0 t2_0 lx26 ((F_TR_findDecimal lx26 x2 x3 t0_0 t0_1 t0_2 t0_3 t0_4 t0_5 t0_6 t0_7 t0_8 t0_9 t0_10 t0_11 t0_12 t0_13 t1_0 t2_0) : (Int32 × Int32 × Int32 × Int32 × Int32 × Int32 × Int32 × Int64 × Int32 × Int32 × Int64 × Int64 × Int32 × Int32 × (Nat → Int32))))) else ((True ∧ S_TR_findHexadecimal lx26 x2 x3 t0_0 t0_1 t0_2 t0_3 t0_4 t0_5 t0_6 t0_7 t0_8 t0_9 t0_10 t0_11 t0_12 t0_13 t1_0) ∧ (S_TR_find_c78 K_S_TR_find_L2 x2 x3 t0_0 t0_1 t0_2 t0_3 t0_4 t0_5 t0_6 t0_7 t0_8 t0_9 t0_10 t0_11 t0_12 t0_13 t1_0 t2_0 lx26 ((F_TR_findHexadecimal lx26 x2 x3 t0_0 t0_1 t0_2 t0_3 t0_4 t0_5 t0_6 t0_7 t0_8 t0_9 t0_10 t0_11 t0_12 t0_13 t1_0) : (Int32 × Int32 × Int32 × Int32 × Int32 × Int32 × Int32 × Int64 × Int32 × Int32 × Int64 × Int64 × Int32 × Int32)))))
def S_TR_find_L2 (x2 : Int32) (x3 : Int32) (t0_0 : Int32) (t0_1 : Int32) (t0_2 : Int32) (t0_3 : Int32) (t0_4 : Int32) (t0_5 : Int32) (t0_6 : Int32) (t0_7 : Int64) (t0_8 : Int32) (t0_9 : Int32) (t0_10 : Int64) (t0_11 : Int64) (t0_12 : Int32) (t0_13 : Int32) (t1_0 : (Nat → Int32)) (t2_0 : (Nat → Int32)) : Nat → Int32 → Prop
  | 0, _ => False
  | fm + 1, lx26 => if t0_5 ≤ lx26 then (S_TR_find_J25 (S_TR_find_L2 x2 x3 t0_0 t0_1 t0_2 t0_3 t0_4 t0_5 t0_6 t0_7 t0_8 t0_9 t0_10 t0_11 t0_12 t0_13 t1_0 t2_0 fm) x2 x3 t0_0 t0_1 t0_2 t0_3 t0_4 t0_5 t0_6 t0_7 t0_8 t0_9 t0_10 t0_11 t0_12 t0_13 t1_0 t2_0 lx26) else ((lx26.toInt ≤ 4099) ∧ (if (t1_0 lx26.toNatClampNeg : Int32) = (0 : Int32) then (S_TR_find_L2 x2 x3 t0_0 t0_1 t0_2 t0_3 t0_4 t0_5 t0_6 t0_7 t0_8 t0_9 t0_10 t0_11 t0_12 t0_13 t1_0 t2_0 fm (lx26 + 1 : Int32)) else (S_TR_find_J25 (S_TR_find_L2 x2 x3 t0_0 t0_1 t0_2 t0_3 t0_4 t0_5 t0_6 t0_7 t0_8 t0_9 t0_10 t0_11 t0_12 t0_13 t1_0 t2_0 fm) x2 x3 t0_0 t0_1 t0_2 t0_3 t0_4 t0_5 t0_6 t0_7 t0_8 t0_9 t0_10 t0_11 t0_12 t0_13 t1_0 t2_0 lx26)))
def S_TR_find (x2 : Int32) (x3 : Int32) (t0_0 : Int32) (t0_1 : Int32) (t0_2 : Int32) (t0_3 : Int32) (t0_4 : Int32) (t0_5 : Int32) (t0_6 : Int32) (t0_7 : Int64) (t0_8 : Int32) (t0_9 : Int32) (t0_10 : Int64) (t0_11 : Int64) (t0_12 : Int32) (t0_13 : Int32) (t1_0 : (Nat → Int32)) (t2_0 : (Nat → Int32)) : Prop := S_TR_find_L2 x2 x3 t0_0 t0_1 t0_2 t0_3 t0_4 t0_5 t0_6 t0_7 t0_8 t0_9 t0_10 t0_11 t0_12 t0_13 t1_0 t2_0 ((4100 - (0 : Int32).toInt).toNat + 1) 0
set_option maxRecDepth 100000 in
set_option maxHeartbeats 4000000 in
theorem X_TR_find (l : Launch) (D : va_G) (g : Nat → ClassId) (q : Nat → Nat) (ws : va_W) (x2 : Int32) (x3 : Int32) (hI : q_I (msh g q) q ws) (t0_0 : Int32) (t0_1 : Int32) (t0_2 : Int32) (t0_3 : Int32) (t0_4 : Int32) (t0_5 : Int32) (t0_6 : Int32) (t0_7 : Int64) (t0_8 : Int32) (t0_9 : Int32) (t0_10 : Int64) (t0_11 : Int64) (t0_12 : Int32) (t0_13 : Int32) (hT0 : ws[153]? = (some (q 153, .inr (16, [.int t0_0, .ref (q 154), .int t0_1, .int t0_2, .int t0_3, .int t0_4, .ref (q 155), .int t0_5, .int t0_6, .long t0_7, .ref (q 156), .int t0_8, .int t0_9, .long t0_10, .long t0_11, .int t0_12, .int t0_13])) : Option (Nat × va_E))) (t1_0 : (Nat → Int32)) (hT1 : ws[155]? = (some (q 155, .inl (g 0, (4100 : Int32).toNatClampNeg, .inl t1_0)) : Option (Nat × va_E))) (t2_0 : (Nat → Int32)) (hT2 : ws[156]? = (some (q 156, .inl (g 0, (800 : Int32).toNatClampNeg, .inl t2_0)) : Option (Nat × va_E))) (hS : True ∧ S_TR_find x2 x3 t0_0 t0_1 t0_2 t0_3 t0_4 t0_5 t0_6 t0_7 t0_8 t0_9 t0_10 t0_11 t0_12 t0_13 t1_0 t2_0) : q_mV l y_TR_find prog_18_method_26_code 4 3 0 0 D g [.ref (q 153), .int x2, .int x3] ws (fun u => q_I (msh g q) q u ∧ q_un ws u [153, 156] ∧ ∃ (u0_0 : Int32) (u0_1 : Int32) (u0_2 : Int32) (u0_3 : Int32) (u0_4 : Int32) (u0_5 : Int32) (u0_6 : Int32) (u0_7 : Int64) (u0_8 : Int32) (u0_9 : Int32) (u0_10 : Int64) (u0_11 : Int64) (u0_12 : Int32) (u0_13 : Int32) (u2_0 : (Nat → Int32)), u[153]? = (some (q 153, .inr (16, [.int u0_0, .ref (q 154), .int u0_1, .int u0_2, .int u0_3, .int u0_4, .ref (q 155), .int u0_5, .int u0_6, .long u0_7, .ref (q 156), .int u0_8, .int u0_9, .long u0_10, .long u0_11, .int u0_12, .int u0_13])) : Option (Nat × va_E)) ∧ u[156]? = (some (q 156, .inl (g 0, (800 : Int32).toNatClampNeg, .inl u2_0)) : Option (Nat × va_E)) ∧ (u0_12.toInt ≤ 3) ∧ (0 ≤ u0_13.toInt) ∧ (u0_13.toInt ≤ 1) ∧ (t0_0.toInt ≤ u0_0.toInt) ∧ (u0_0.toInt ≤ t0_0.toInt) ∧ (t0_1.toInt ≤ u0_1.toInt) ∧ (u0_1.toInt ≤ t0_1.toInt) ∧ (t0_2.toInt ≤ u0_2.toInt) ∧ (u0_2.toInt ≤ t0_2.toInt) ∧ (t0_3.toInt ≤ u0_3.toInt) ∧ (u0_3.toInt ≤ t0_3.toInt) ∧ (t0_4.toInt ≤ u0_4.toInt) ∧ (u0_4.toInt ≤ t0_4.toInt) ∧ (t0_5.toInt ≤ u0_5.toInt) ∧ (u0_5.toInt ≤ t0_5.toInt) ∧ (t0_6.toInt ≤ u0_6.toInt) ∧ (u0_6.toInt ≤ t0_6.toInt) ∧ (t0_7.toInt ≤ u0_7.toInt) ∧ (u0_7.toInt ≤ t0_7.toInt) ∧ (u0_13.toInt ≤ u0_12.toInt) ∧ (u0_0, u0_1, u0_2, u0_3, u0_4, u0_5, u0_6, u0_7, u0_8, u0_9, u0_10, u0_11, u0_12, u0_13, u2_0) = (F_TR_find x2 x3 t0_0 t0_1 t0_2 t0_3 t0_4 t0_5 t0_6 t0_7 t0_8 t0_9 t0_10 t0_11 t0_12 t0_13 t1_0 t2_0)) := by
  intro sz
  refine q_into (by decide) (Nat.le_of_ble_eq_true rfl) ?_
  intro p e s m below meth c ls hsz C0 V hl
  have hx := C0.1
  have hb := C0.2.1
  obtain ⟨btt0_1, hZ9⟩ := n_w153 hI hT0
  obtain ⟨btt0_4, -⟩ := hZ9
  replace btt0_1 : q_F (0 ≤ t0_1.toInt ∧ t0_1.toInt ≤ 4100) := btt0_1
  replace btt0_4 : q_F (0 ≤ t0_4.toInt ∧ t0_4.toInt ≤ 1) := btt0_4
  have hF : q_un ws ws [153, 156] := q_u0
  have hl : lv_has ls 4 [(0, .ref (q 153)), (1, .int x2), (2, .int x3)] := hl
  refine lv_iconst (v := 0) hx hb d_18_26_0 (by decide) ?_
  refine lv_istore_n (lv' := [(3, .int 0), (0, .ref (q 153)), (1, .int x2), (2, .int x3)]) hx hb d_18_26_1 rfl hl (by decide) rfl (fun ls hl => ?_)
  refine q_loop (X := Int32) (fun z H locs ls _ => q_F (0 ≤ z.toInt) ∧ q_F (z.toInt ≤ 4100) ∧ q_Wd D g (va_A ws sz) s ws H locs ∧ lv_has ls 4 [(3, .int z), (0, .ref (q 153)), (1, .int x2), (2, .int x3)] ∧ (∃ n, (4100 - z.toInt).toNat < n ∧ F_TR_find_L2 x2 x3 t0_0 t0_1 t0_2 t0_3 t0_4 t0_5 t0_6 t0_7 t0_8 t0_9 t0_10 t0_11 t0_12 t0_13 t1_0 t2_0 n z = (F_TR_find x2 x3 t0_0 t0_1 t0_2 t0_3 t0_4 t0_5 t0_6 t0_7 t0_8 t0_9 t0_10 t0_11 t0_12 t0_13 t1_0 t2_0) ∧ True ∧ S_TR_find_L2 x2 x3 t0_0 t0_1 t0_2 t0_3 t0_4 t0_5 t0_6 t0_7 t0_8 t0_9 t0_10 t0_11 t0_12 t0_13 t1_0 t2_0 n z)) (fun z => (4100 - z.toInt).toNat) ?_ ((0 : Int32)) _ _ _ ws ⟨(show q_F (0 ≤ 0) from (show 0 ≤ 0 from by omega)), (show q_F (0 ≤ 4100) from (show 0 ≤ 4100 from by omega)), V, q_lw hl (q_lw1 0 rfl (q_lw1 1 rfl (q_lw1 2 rfl (q_lw1 3 rfl q_lw0)))), ⟨((4100 - (0 : Int32).toInt).toNat + 1), Nat.lt_succ_self _, (show F_TR_find_L2 x2 x3 t0_0 t0_1 t0_2 t0_3 t0_4 t0_5 t0_6 t0_7 t0_8 t0_9 t0_10 t0_11 t0_12 t0_13 t1_0 t2_0 ((4100 - (0 : Int32).toInt).toNat + 1) 0 = (F_TR_find x2 x3 t0_0 t0_1 t0_2 t0_3 t0_4 t0_5 t0_6 t0_7 t0_8 t0_9 t0_10 t0_11 t0_12 t0_13 t1_0 t2_0) from (by rw [F_TR_find.eq_1])), (show True ∧ S_TR_find_L2 x2 x3 t0_0 t0_1 t0_2 t0_3 t0_4 t0_5 t0_6 t0_7 t0_8 t0_9 t0_10 t0_11 t0_12 t0_13 t1_0 t2_0 ((4100 - (0 : Int32).toInt).toNat + 1) 0 from (by have h := hS; rw [S_TR_find.eq_1] at h; with_reducible exact h))⟩⟩
  rintro lx26 H locs ls _ ⟨i27, i28, V, hl, ⟨fu32, hf33, hR30, hS31⟩⟩ ih29
  obtain ⟨fm34, rfl⟩ : ∃ m, fu32 = m + 1 := ⟨fu32 - 1, by omega⟩
  replace i27 : q_F (0 ≤ lx26.toInt) := i27
  replace i28 : q_F (lx26.toInt ≤ 4100) := i28
  replace hl : lv_has ls 4 [(3, .int lx26), (0, .ref (q 153)), (1, .int x2), (2, .int x3)] := hl
  refine lv_iload_n hx hb d_18_26_2 rfl (lv_at hl 0 rfl) ?_
  refine lv_aload_n hx hb d_18_26_3 rfl (lv_at hl 1 rfl) ?_
  refine q_get (ci := 16) (j := 7) (v := .int t0_5) C0 V i_TR rfl rfl hT0 (by decide) w_2147 rfl d_18_26_4 ?_
  refine q_join (X := Unit) (fun z H locs ls _ => q_Wd D g (va_A ws sz) s ws H locs ∧ lv_has ls 4 [(3, .int lx26), (0, .ref (q 153)), (1, .int x2), (2, .int x3)] ∧ F_TR_find_J25 (F_TR_find_L2 x2 x3 t0_0 t0_1 t0_2 t0_3 t0_4 t0_5 t0_6 t0_7 t0_8 t0_9 t0_10 t0_11 t0_12 t0_13 t1_0 t2_0 fm34) x2 x3 t0_0 t0_1 t0_2 t0_3 t0_4 t0_5 t0_6 t0_7 t0_8 t0_9 t0_10 t0_11 t0_12 t0_13 t1_0 t2_0 lx26 = (F_TR_find x2 x3 t0_0 t0_1 t0_2 t0_3 t0_4 t0_5 t0_6 t0_7 t0_8 t0_9 t0_10 t0_11 t0_12 t0_13 t1_0 t2_0) ∧ True ∧ S_TR_find_J25 (S_TR_find_L2 x2 x3 t0_0 t0_1 t0_2 t0_3 t0_4 t0_5 t0_6 t0_7 t0_8 t0_9 t0_10 t0_11 t0_12 t0_13 t1_0 t2_0 fm34) x2 x3 t0_0 t0_1 t0_2 t0_3 t0_4 t0_5 t0_6 t0_7 t0_8 t0_9 t0_10 t0_11 t0_12 t0_13 t1_0 t2_0 lx26) (fun z => []) 25 0 0 ?_ ?_
  ·
    rintro _ H locs ls _ ⟨V, hl, hR39, hS40⟩
    replace hl : lv_has ls 4 [(3, .int lx26), (0, .ref (q 153)), (1, .int x2), (2, .int x3)] := hl
    refine lv_iload_n hx hb d_18_26_25 rfl (lv_at hl 0 rfl) ?_
    refine lv_aload_n hx hb d_18_26_26 rfl (lv_at hl 1 rfl) ?_
    refine q_get (ci := 16) (j := 7) (v := .int t0_5) C0 V i_TR rfl rfl hT0 (by decide) w_2147 rfl d_18_26_27 ?_
    refine lv_icmp_ne (tgt := 57) hx hb d_18_26_30 (by decide) (fun c44 => ?_) (fun c44 => ?_)
    ·
      refine lv_aload_n hx hb d_18_26_57 rfl (lv_at hl 1 rfl) ?_
      refine q_get (ci := 16) (j := 3) (v := .int t0_2) C0 V i_TR rfl rfl hT0 (by decide) w_2143 rfl d_18_26_58 ?_
      refine lv_if_ne (tgt := 74) hx hb d_18_26_61 (by decide) (fun c46 => ?_) (fun c46 => ?_)
      ·
        refine lv_aload_n hx hb d_18_26_74 rfl (lv_at hl 1 rfl) ?_
        refine lv_iload_n hx hb d_18_26_75 rfl (lv_at hl 0 rfl) ?_
        refine lv_iload_n hx hb d_18_26_76 rfl (lv_at hl 2 rfl) ?_
        refine lv_iload_n hx hb d_18_26_77 rfl (lv_at hl 3 rfl) ?_
        have ob48 : True ∧ S_TR_findHexadecimal lx26 x2 x3 t0_0 t0_1 t0_2 t0_3 t0_4 t0_5 t0_6 t0_7 t0_8 t0_9 t0_10 t0_11 t0_12 t0_13 t1_0 := (by have h := hS40; rw [S_TR_find_J25.eq_1] at h; rw [if_neg c44] at h; rw [if_neg c46] at h; with_reducible exact h.2.1)
        refine q_gov V (q_runV (As := [.int lx26, .int x2, .int x3]) (rest := []) (d := 2) (mc := 0) (ms := 0) (ci := 16) C0 V rfl LV_TR_157 (X_TR_findHexadecimal l D g q ws  lx26 x2 x3 hI t0_0 t0_1 t0_2 t0_3 t0_4 t0_5 t0_6 t0_7 t0_8 t0_9 t0_10 t0_11 t0_12 t0_13 hT0 t1_0 hT1 ob48 _) rfl rfl hT0 rfl hl.1 rfl (Nat.le_of_ble_eq_true rfl) ⟨by decide, by decide⟩ ⟨Nat.le_of_ble_eq_true rfl, Nat.le_of_ble_eq_true rfl⟩ d_18_26_78) (fun u49 H locs hp50 V => ?_)
        obtain ⟨hI, hZ9⟩ := hp50
        obtain ⟨hu98, hZ9⟩ := hZ9
        obtain ⟨y52, hZ9⟩ := hZ9
        obtain ⟨y53, hZ9⟩ := hZ9
        obtain ⟨y54, hZ9⟩ := hZ9
        obtain ⟨y55, hZ9⟩ := hZ9
        obtain ⟨y56, hZ9⟩ := hZ9
        obtain ⟨y57, hZ9⟩ := hZ9
        obtain ⟨y58, hZ9⟩ := hZ9
        obtain ⟨y59, hZ9⟩ := hZ9
        obtain ⟨y60, hZ9⟩ := hZ9
        obtain ⟨y61, hZ9⟩ := hZ9
        obtain ⟨y62, hZ9⟩ := hZ9
        obtain ⟨y63, hZ9⟩ := hZ9
        obtain ⟨y64, hZ9⟩ := hZ9
        obtain ⟨y65, hZ9⟩ := hZ9
        obtain ⟨hO51, hZ9⟩ := hZ9
        obtain ⟨b66, hZ9⟩ := hZ9
        obtain ⟨b67, hZ9⟩ := hZ9
        obtain ⟨b68, hZ9⟩ := hZ9
        obtain ⟨b69, hZ9⟩ := hZ9
        obtain ⟨b70, hZ9⟩ := hZ9
        replace hZ9 := hZ9.2.2
        obtain ⟨b73, hZ9⟩ := hZ9
        obtain ⟨b74, hZ9⟩ := hZ9
        obtain ⟨b75, hZ9⟩ := hZ9
        obtain ⟨b76, hZ9⟩ := hZ9
        obtain ⟨b77, hZ9⟩ := hZ9
        obtain ⟨b78, hZ9⟩ := hZ9
        replace hZ9 := hZ9.2.2
        obtain ⟨b81, hZ9⟩ := hZ9
        obtain ⟨b82, hZ9⟩ := hZ9
        obtain ⟨b83, hZ9⟩ := hZ9
        obtain ⟨b84, hZ9⟩ := hZ9
        obtain ⟨b85, hZ9⟩ := hZ9
        obtain ⟨b86, hZ9⟩ := hZ9
        obtain ⟨b87, hZ9⟩ := hZ9
        obtain ⟨b88, hZ9⟩ := hZ9
        replace hZ9 := hZ9.2.2.2.2.2.2.2
        obtain ⟨b96, hE97⟩ := hZ9
        replace hO51 : u49[153]? = (some (q 153, .inr (16, [.int y52, .ref (q 154), .int y53, .int y54, .int y55, .int y56, .ref (q 155), .int y57, .int y58, .long y59, .ref (q 156), .int y60, .int y61, .long y62, .long y63, .int y64, .int y65])) : Option (Nat × va_E)) := hO51
        obtain ⟨p99, e100⟩ : ∃ z, z = (F_TR_findHexadecimal lx26 x2 x3 t0_0 t0_1 t0_2 t0_3 t0_4 t0_5 t0_6 t0_7 t0_8 t0_9 t0_10 t0_11 t0_12 t0_13 t1_0) := ⟨_, rfl⟩
        have e101 : y52 = p99.1 := congrArg (fun z => z.1) (hE97.trans e100.symm)
        have e102 : y53 = p99.2.1 := congrArg (fun z => z.2.1) (hE97.trans e100.symm)
        have e103 : y54 = p99.2.2.1 := congrArg (fun z => z.2.2.1) (hE97.trans e100.symm)
        have e104 : y55 = p99.2.2.2.1 := congrArg (fun z => z.2.2.2.1) (hE97.trans e100.symm)
        have e105 : y56 = p99.2.2.2.2.1 := congrArg (fun z => z.2.2.2.2.1) (hE97.trans e100.symm)
        have e106 : y57 = p99.2.2.2.2.2.1 := congrArg (fun z => z.2.2.2.2.2.1) (hE97.trans e100.symm)
        have e107 : y58 = p99.2.2.2.2.2.2.1 := congrArg (fun z => z.2.2.2.2.2.2.1) (hE97.trans e100.symm)
        have e108 : y59 = p99.2.2.2.2.2.2.2.1 := congrArg (fun z => z.2.2.2.2.2.2.2.1) (hE97.trans e100.symm)
        have e109 : y60 = p99.2.2.2.2.2.2.2.2.1 := congrArg (fun z => z.2.2.2.2.2.2.2.2.1) (hE97.trans e100.symm)
        have e110 : y61 = p99.2.2.2.2.2.2.2.2.2.1 := congrArg (fun z => z.2.2.2.2.2.2.2.2.2.1) (hE97.trans e100.symm)
        have e111 : y62 = p99.2.2.2.2.2.2.2.2.2.2.1 := congrArg (fun z => z.2.2.2.2.2.2.2.2.2.2.1) (hE97.trans e100.symm)
        have e112 : y63 = p99.2.2.2.2.2.2.2.2.2.2.2.1 := congrArg (fun z => z.2.2.2.2.2.2.2.2.2.2.2.1) (hE97.trans e100.symm)
        have e113 : y64 = p99.2.2.2.2.2.2.2.2.2.2.2.2.1 := congrArg (fun z => z.2.2.2.2.2.2.2.2.2.2.2.2.1) (hE97.trans e100.symm)
        have e114 : y65 = p99.2.2.2.2.2.2.2.2.2.2.2.2.2 := congrArg (fun z => z.2.2.2.2.2.2.2.2.2.2.2.2.2) (hE97.trans e100.symm)
        replace b66 : q_F (y64.toInt ≤ 3) := b66
        replace b67 : q_F (0 ≤ y65.toInt) := b67
        replace b68 : q_F (y65.toInt ≤ 1) := b68
        replace b69 : q_F (t0_0.toInt ≤ y52.toInt) := b69
        replace b70 : q_F (y52.toInt ≤ t0_0.toInt) := b70
        replace b73 : q_F (t0_1.toInt ≤ y53.toInt) := b73
        replace b74 : q_F (y53.toInt ≤ t0_1.toInt) := b74
        replace b75 : q_F (t0_2.toInt ≤ y54.toInt) := b75
        replace b76 : q_F (y54.toInt ≤ t0_2.toInt) := b76
        replace b77 : q_F (t0_3.toInt ≤ y55.toInt) := b77
        replace b78 : q_F (y55.toInt ≤ t0_3.toInt) := b78
        replace b81 : q_F (t0_4.toInt ≤ y56.toInt) := b81
        replace b82 : q_F (y56.toInt ≤ t0_4.toInt) := b82
        replace b83 : q_F (t0_5.toInt ≤ y57.toInt) := b83
        replace b84 : q_F (y57.toInt ≤ t0_5.toInt) := b84
        replace b85 : q_F (t0_6.toInt ≤ y58.toInt) := b85
        replace b86 : q_F (y58.toInt ≤ t0_6.toInt) := b86
        replace b87 : q_F (t0_7.toInt ≤ y59.toInt) := b87
        replace b88 : q_F (y59.toInt ≤ t0_7.toInt) := b88
        replace b96 : q_F (y65.toInt ≤ y64.toInt) := b96
        replace hT2 := (hu98 _ (by decide)).trans hT2
        replace hF := q_uc hF hu98 (by simp)
        have hR115 := (show F_TR_find_c78 (F_TR_find_L2 x2 x3 t0_0 t0_1 t0_2 t0_3 t0_4 t0_5 t0_6 t0_7 t0_8 t0_9 t0_10 t0_11 t0_12 t0_13 t1_0 t2_0 fm34) x2 x3 t0_0 t0_1 t0_2 t0_3 t0_4 t0_5 t0_6 t0_7 t0_8 t0_9 t0_10 t0_11 t0_12 t0_13 t1_0 t2_0 lx26 p99 = (F_TR_find x2 x3 t0_0 t0_1 t0_2 t0_3 t0_4 t0_5 t0_6 t0_7 t0_8 t0_9 t0_10 t0_11 t0_12 t0_13 t1_0 t2_0) from Eq.trans (by rw [e100, F_TR_find_J25.eq_1, if_neg c44, if_neg c46]) hR39)
        have hS116 := (show True ∧ S_TR_find_c78 (S_TR_find_L2 x2 x3 t0_0 t0_1 t0_2 t0_3 t0_4 t0_5 t0_6 t0_7 t0_8 t0_9 t0_10 t0_11 t0_12 t0_13 t1_0 t2_0 fm34) x2 x3 t0_0 t0_1 t0_2 t0_3 t0_4 t0_5 t0_6 t0_7 t0_8 t0_9 t0_10 t0_11 t0_12 t0_13 t1_0 t2_0 lx26 p99 from (by rw [e100]; have h := hS40; rw [S_TR_find_J25.eq_1] at h; rw [if_neg c44] at h; rw [if_neg c46] at h; replace h := q_s2 h; with_reducible exact h))
        exact q_retv C0 V (⟨hI, hF, y52, y53, y54, y55, y56, y57, y58, y59, y60, y61, y62, y63, y64, y65, t2_0, hO51, hT2, (show y64.toInt ≤ 3 from (by first | with_reducible exact q_fe b66 | (have t1 : y64.toInt ≤ 3 := b66; omega))), (show 0 ≤ y65.toInt from (by first | with_reducible exact q_fe b67 | (have t1 : 0 ≤ y65.toInt := b67; omega))), (show y65.toInt ≤ 1 from (by first | with_reducible exact q_fe b68 | (have t1 : y65.toInt ≤ 1 := b68; omega))), (show t0_0.toInt ≤ y52.toInt from (by first | with_reducible exact q_fe b69 | (have t1 : t0_0.toInt ≤ y52.toInt := b69; omega))), (show y52.toInt ≤ t0_0.toInt from (by first | with_reducible exact q_fe b70 | (have t1 : y52.toInt ≤ t0_0.toInt := b70; omega))), (show t0_1.toInt ≤ y53.toInt from (by first | with_reducible exact q_fe b73 | (have t1 : t0_1.toInt ≤ y53.toInt := b73; omega))), (show y53.toInt ≤ t0_1.toInt from (by first | with_reducible exact q_fe b74 | (have t1 : y53.toInt ≤ t0_1.toInt := b74; omega))), (show t0_2.toInt ≤ y54.toInt from (by first | with_reducible exact q_fe b75 | (have t1 : t0_2.toInt ≤ y54.toInt := b75; omega))), (show y54.toInt ≤ t0_2.toInt from (by first | with_reducible exact q_fe b76 | (have t1 : y54.toInt ≤ t0_2.toInt := b76; omega))), (show t0_3.toInt ≤ y55.toInt from (by first | with_reducible exact q_fe b77 | (have t1 : t0_3.toInt ≤ y55.toInt := b77; omega))), (show y55.toInt ≤ t0_3.toInt from (by first | with_reducible exact q_fe b78 | (have t1 : y55.toInt ≤ t0_3.toInt := b78; omega))), (show t0_4.toInt ≤ y56.toInt from (by first | with_reducible exact q_fe b81 | (have t1 : t0_4.toInt ≤ y56.toInt := b81; omega))), (show y56.toInt ≤ t0_4.toInt from (by first | with_reducible exact q_fe b82 | (have t1 : y56.toInt ≤ t0_4.toInt := b82; omega))), (show t0_5.toInt ≤ y57.toInt from (by first | with_reducible exact q_fe b83 | (have t1 : t0_5.toInt ≤ y57.toInt := b83; omega))), (show y57.toInt ≤ t0_5.toInt from (by first | with_reducible exact q_fe b84 | (have t1 : y57.toInt ≤ t0_5.toInt := b84; omega))), (show t0_6.toInt ≤ y58.toInt from (by first | with_reducible exact q_fe b85 | (have t1 : t0_6.toInt ≤ y58.toInt := b85; omega))), (show y58.toInt ≤ t0_6.toInt from (by first | with_reducible exact q_fe b86 | (have t1 : y58.toInt ≤ t0_6.toInt := b86; omega))), (show t0_7.toInt ≤ y59.toInt from (by first | with_reducible exact q_fe b87 | (have t1 : t0_7.toInt ≤ y59.toInt := b87; omega))), (show y59.toInt ≤ t0_7.toInt from (by first | with_reducible exact q_fe b88 | (have t1 : y59.toInt ≤ t0_7.toInt := b88; omega))), (show y65.toInt ≤ y64.toInt from (by first | with_reducible exact q_fe b96 | (have t1 : y65.toInt ≤ y64.toInt := b96; omega))), (show (y52, y53, y54, y55, y56, y57, y58, y59, y60, y61, y62, y63, y64, y65, t2_0) = (F_TR_find x2 x3 t0_0 t0_1 t0_2 t0_3 t0_4 t0_5 t0_6 t0_7 t0_8 t0_9 t0_10 t0_11 t0_12 t0_13 t1_0 t2_0) from Eq.trans (by rw [e114, e113, e112, e111, e110, e109, e108, e107, e106, e105, e104, e103, e102, e101, F_TR_find_c78.eq_1]) hR115)⟩) d_18_26_81
      ·
        refine lv_aload_n hx hb d_18_26_64 rfl (lv_at hl 1 rfl) ?_
        refine lv_iload_n hx hb d_18_26_65 rfl (lv_at hl 0 rfl) ?_
        refine lv_iload_n hx hb d_18_26_66 rfl (lv_at hl 2 rfl) ?_
        refine lv_iload_n hx hb d_18_26_67 rfl (lv_at hl 3 rfl) ?_
        have ob121 : True ∧ S_TR_findDecimal lx26 x2 x3 t0_0 t0_1 t0_2 t0_3 t0_4 t0_5 t0_6 t0_7 t0_8 t0_9 t0_10 t0_11 t0_12 t0_13 t1_0 t2_0 := (by have h := hS40; rw [S_TR_find_J25.eq_1] at h; rw [if_neg c44] at h; rw [if_pos c46] at h; with_reducible exact h.2.1)
        refine q_gov V (q_runV (As := [.int lx26, .int x2, .int x3]) (rest := []) (d := 2) (mc := 0) (ms := 0) (ci := 16) C0 V rfl LV_TR_153 (X_TR_findDecimal l D g q ws  lx26 x2 x3 hI t0_0 t0_1 t0_2 t0_3 t0_4 t0_5 t0_6 t0_7 t0_8 t0_9 t0_10 t0_11 t0_12 t0_13 hT0 t1_0 hT1 t2_0 hT2 ob121 _) rfl rfl hT0 rfl hl.1 rfl (Nat.le_of_ble_eq_true rfl) ⟨by decide, by decide⟩ ⟨Nat.le_of_ble_eq_true rfl, Nat.le_of_ble_eq_true rfl⟩ d_18_26_68) (fun u122 H locs hp123 V => ?_)
        obtain ⟨hI, hZ9⟩ := hp123
        obtain ⟨hu162, hZ9⟩ := hZ9
        obtain ⟨y125, hZ9⟩ := hZ9
        obtain ⟨y126, hZ9⟩ := hZ9
        obtain ⟨y127, hZ9⟩ := hZ9
        obtain ⟨y128, hZ9⟩ := hZ9
        obtain ⟨y129, hZ9⟩ := hZ9
        obtain ⟨y130, hZ9⟩ := hZ9
        obtain ⟨y131, hZ9⟩ := hZ9
        obtain ⟨y132, hZ9⟩ := hZ9
        obtain ⟨y133, hZ9⟩ := hZ9
        obtain ⟨y134, hZ9⟩ := hZ9
        obtain ⟨y135, hZ9⟩ := hZ9
        obtain ⟨y136, hZ9⟩ := hZ9
        obtain ⟨y137, hZ9⟩ := hZ9
        obtain ⟨y138, hZ9⟩ := hZ9
        obtain ⟨f139, hZ9⟩ := hZ9
        obtain ⟨hO124, hZ9⟩ := hZ9
        obtain ⟨hA140, hZ9⟩ := hZ9
        obtain ⟨b141, hZ9⟩ := hZ9
        obtain ⟨b142, hZ9⟩ := hZ9
        obtain ⟨b143, hZ9⟩ := hZ9
        obtain ⟨b144, hZ9⟩ := hZ9
        obtain ⟨b145, hZ9⟩ := hZ9
        obtain ⟨b146, hZ9⟩ := hZ9
        obtain ⟨b147, hZ9⟩ := hZ9
        obtain ⟨b148, hZ9⟩ := hZ9
        obtain ⟨b149, hZ9⟩ := hZ9
        obtain ⟨b150, hZ9⟩ := hZ9
        obtain ⟨b151, hZ9⟩ := hZ9
        obtain ⟨b152, hZ9⟩ := hZ9
        obtain ⟨b153, hZ9⟩ := hZ9
        obtain ⟨b154, hZ9⟩ := hZ9
        obtain ⟨b155, hZ9⟩ := hZ9
        obtain ⟨b156, hZ9⟩ := hZ9
        obtain ⟨b157, hZ9⟩ := hZ9
        obtain ⟨b158, hZ9⟩ := hZ9
        obtain ⟨b159, hZ9⟩ := hZ9
        obtain ⟨b160, hE161⟩ := hZ9
        replace hO124 : u122[153]? = (some (q 153, .inr (16, [.int y125, .ref (q 154), .int y126, .int y127, .int y128, .int y129, .ref (q 155), .int y130, .int y131, .long y132, .ref (q 156), .int y133, .int y134, .long y135, .long y136, .int y137, .int y138])) : Option (Nat × va_E)) := hO124
        replace hA140 : u122[156]? = (some (q 156, .inl (g 0, (800 : Int32).toNatClampNeg, .inl f139)) : Option (Nat × va_E)) := hA140
        obtain ⟨p163, e164⟩ : ∃ z, z = (F_TR_findDecimal lx26 x2 x3 t0_0 t0_1 t0_2 t0_3 t0_4 t0_5 t0_6 t0_7 t0_8 t0_9 t0_10 t0_11 t0_12 t0_13 t1_0 t2_0) := ⟨_, rfl⟩
        have e165 : y125 = p163.1 := congrArg (fun z => z.1) (hE161.trans e164.symm)
        have e166 : y126 = p163.2.1 := congrArg (fun z => z.2.1) (hE161.trans e164.symm)
        have e167 : y127 = p163.2.2.1 := congrArg (fun z => z.2.2.1) (hE161.trans e164.symm)
        have e168 : y128 = p163.2.2.2.1 := congrArg (fun z => z.2.2.2.1) (hE161.trans e164.symm)
        have e169 : y129 = p163.2.2.2.2.1 := congrArg (fun z => z.2.2.2.2.1) (hE161.trans e164.symm)
        have e170 : y130 = p163.2.2.2.2.2.1 := congrArg (fun z => z.2.2.2.2.2.1) (hE161.trans e164.symm)
        have e171 : y131 = p163.2.2.2.2.2.2.1 := congrArg (fun z => z.2.2.2.2.2.2.1) (hE161.trans e164.symm)
        have e172 : y132 = p163.2.2.2.2.2.2.2.1 := congrArg (fun z => z.2.2.2.2.2.2.2.1) (hE161.trans e164.symm)
        have e173 : y133 = p163.2.2.2.2.2.2.2.2.1 := congrArg (fun z => z.2.2.2.2.2.2.2.2.1) (hE161.trans e164.symm)
        have e174 : y134 = p163.2.2.2.2.2.2.2.2.2.1 := congrArg (fun z => z.2.2.2.2.2.2.2.2.2.1) (hE161.trans e164.symm)
        have e175 : y135 = p163.2.2.2.2.2.2.2.2.2.2.1 := congrArg (fun z => z.2.2.2.2.2.2.2.2.2.2.1) (hE161.trans e164.symm)
        have e176 : y136 = p163.2.2.2.2.2.2.2.2.2.2.2.1 := congrArg (fun z => z.2.2.2.2.2.2.2.2.2.2.2.1) (hE161.trans e164.symm)
        have e177 : y137 = p163.2.2.2.2.2.2.2.2.2.2.2.2.1 := congrArg (fun z => z.2.2.2.2.2.2.2.2.2.2.2.2.1) (hE161.trans e164.symm)
        have e178 : y138 = p163.2.2.2.2.2.2.2.2.2.2.2.2.2.1 := congrArg (fun z => z.2.2.2.2.2.2.2.2.2.2.2.2.2.1) (hE161.trans e164.symm)
        have e179 : f139 = p163.2.2.2.2.2.2.2.2.2.2.2.2.2.2 := congrArg (fun z => z.2.2.2.2.2.2.2.2.2.2.2.2.2.2) (hE161.trans e164.symm)
        replace b141 : q_F (y137.toInt ≤ 3) := b141
        replace b142 : q_F (0 ≤ y138.toInt) := b142
        replace b143 : q_F (y138.toInt ≤ 1) := b143
        replace b144 : q_F (t0_0.toInt ≤ y125.toInt) := b144
        replace b145 : q_F (y125.toInt ≤ t0_0.toInt) := b145
        replace b146 : q_F (t0_1.toInt ≤ y126.toInt) := b146
        replace b147 : q_F (y126.toInt ≤ t0_1.toInt) := b147
        replace b148 : q_F (t0_2.toInt ≤ y127.toInt) := b148
        replace b149 : q_F (y127.toInt ≤ t0_2.toInt) := b149
        replace b150 : q_F (t0_3.toInt ≤ y128.toInt) := b150
        replace b151 : q_F (y128.toInt ≤ t0_3.toInt) := b151
        replace b152 : q_F (t0_4.toInt ≤ y129.toInt) := b152
        replace b153 : q_F (y129.toInt ≤ t0_4.toInt) := b153
        replace b154 : q_F (t0_5.toInt ≤ y130.toInt) := b154
        replace b155 : q_F (y130.toInt ≤ t0_5.toInt) := b155
        replace b156 : q_F (t0_6.toInt ≤ y131.toInt) := b156
        replace b157 : q_F (y131.toInt ≤ t0_6.toInt) := b157
        replace b158 : q_F (t0_7.toInt ≤ y132.toInt) := b158
        replace b159 : q_F (y132.toInt ≤ t0_7.toInt) := b159
        replace b160 : q_F (y138.toInt ≤ y137.toInt) := b160
        replace hF := q_uc hF hu162 (by simp)
        have hR180 := (show F_TR_find_c68 (F_TR_find_L2 x2 x3 t0_0 t0_1 t0_2 t0_3 t0_4 t0_5 t0_6 t0_7 t0_8 t0_9 t0_10 t0_11 t0_12 t0_13 t1_0 t2_0 fm34) x2 x3 t0_0 t0_1 t0_2 t0_3 t0_4 t0_5 t0_6 t0_7 t0_8 t0_9 t0_10 t0_11 t0_12 t0_13 t1_0 t2_0 lx26 p163 = (F_TR_find x2 x3 t0_0 t0_1 t0_2 t0_3 t0_4 t0_5 t0_6 t0_7 t0_8 t0_9 t0_10 t0_11 t0_12 t0_13 t1_0 t2_0) from Eq.trans (by rw [e164, F_TR_find_J25.eq_1, if_neg c44, if_pos c46]) hR39)
        have hS181 := (show True ∧ S_TR_find_c68 (S_TR_find_L2 x2 x3 t0_0 t0_1 t0_2 t0_3 t0_4 t0_5 t0_6 t0_7 t0_8 t0_9 t0_10 t0_11 t0_12 t0_13 t1_0 t2_0 fm34) x2 x3 t0_0 t0_1 t0_2 t0_3 t0_4 t0_5 t0_6 t0_7 t0_8 t0_9 t0_10 t0_11 t0_12 t0_13 t1_0 t2_0 lx26 p163 from (by rw [e164]; have h := hS40; rw [S_TR_find_J25.eq_1] at h; rw [if_neg c44] at h; rw [if_pos c46] at h; replace h := q_s2 h; with_reducible exact h))
        refine lv_goto (tgt := 81) hx hb d_18_26_71 (by decide) ?_
        exact q_retv C0 V (⟨hI, hF, y125, y126, y127, y128, y129, y130, y131, y132, y133, y134, y135, y136, y137, y138, f139, hO124, hA140, (show y137.toInt ≤ 3 from (by first | with_reducible exact q_fe b141 | (have t1 : y137.toInt ≤ 3 := b141; omega))), (show 0 ≤ y138.toInt from (by first | with_reducible exact q_fe b142 | (have t1 : 0 ≤ y138.toInt := b142; omega))), (show y138.toInt ≤ 1 from (by first | with_reducible exact q_fe b143 | (have t1 : y138.toInt ≤ 1 := b143; omega))), (show t0_0.toInt ≤ y125.toInt from (by first | with_reducible exact q_fe b144 | (have t1 : t0_0.toInt ≤ y125.toInt := b144; omega))), (show y125.toInt ≤ t0_0.toInt from (by first | with_reducible exact q_fe b145 | (have t1 : y125.toInt ≤ t0_0.toInt := b145; omega))), (show t0_1.toInt ≤ y126.toInt from (by first | with_reducible exact q_fe b146 | (have t1 : t0_1.toInt ≤ y126.toInt := b146; omega))), (show y126.toInt ≤ t0_1.toInt from (by first | with_reducible exact q_fe b147 | (have t1 : y126.toInt ≤ t0_1.toInt := b147; omega))), (show t0_2.toInt ≤ y127.toInt from (by first | with_reducible exact q_fe b148 | (have t1 : t0_2.toInt ≤ y127.toInt := b148; omega))), (show y127.toInt ≤ t0_2.toInt from (by first | with_reducible exact q_fe b149 | (have t1 : y127.toInt ≤ t0_2.toInt := b149; omega))), (show t0_3.toInt ≤ y128.toInt from (by first | with_reducible exact q_fe b150 | (have t1 : t0_3.toInt ≤ y128.toInt := b150; omega))), (show y128.toInt ≤ t0_3.toInt from (by first | with_reducible exact q_fe b151 | (have t1 : y128.toInt ≤ t0_3.toInt := b151; omega))), (show t0_4.toInt ≤ y129.toInt from (by first | with_reducible exact q_fe b152 | (have t1 : t0_4.toInt ≤ y129.toInt := b152; omega))), (show y129.toInt ≤ t0_4.toInt from (by first | with_reducible exact q_fe b153 | (have t1 : y129.toInt ≤ t0_4.toInt := b153; omega))), (show t0_5.toInt ≤ y130.toInt from (by first | with_reducible exact q_fe b154 | (have t1 : t0_5.toInt ≤ y130.toInt := b154; omega))), (show y130.toInt ≤ t0_5.toInt from (by first | with_reducible exact q_fe b155 | (have t1 : y130.toInt ≤ t0_5.toInt := b155; omega))), (show t0_6.toInt ≤ y131.toInt from (by first | with_reducible exact q_fe b156 | (have t1 : t0_6.toInt ≤ y131.toInt := b156; omega))), (show y131.toInt ≤ t0_6.toInt from (by first | with_reducible exact q_fe b157 | (have t1 : y131.toInt ≤ t0_6.toInt := b157; omega))), (show t0_7.toInt ≤ y132.toInt from (by first | with_reducible exact q_fe b158 | (have t1 : t0_7.toInt ≤ y132.toInt := b158; omega))), (show y132.toInt ≤ t0_7.toInt from (by first | with_reducible exact q_fe b159 | (have t1 : y132.toInt ≤ t0_7.toInt := b159; omega))), (show y138.toInt ≤ y137.toInt from (by first | with_reducible exact q_fe b160 | (have t1 : y138.toInt ≤ y137.toInt := b160; omega))), (show (y125, y126, y127, y128, y129, y130, y131, y132, y133, y134, y135, y136, y137, y138, f139) = (F_TR_find x2 x3 t0_0 t0_1 t0_2 t0_3 t0_4 t0_5 t0_6 t0_7 t0_8 t0_9 t0_10 t0_11 t0_12 t0_13 t1_0 t2_0) from Eq.trans (by rw [e179, e178, e177, e176, e175, e174, e173, e172, e171, e170, e169, e168, e167, e166, e165, F_TR_find_c68.eq_1]) hR180)⟩) d_18_26_81
    ·
      refine lv_aload_n hx hb d_18_26_33 rfl (lv_at hl 1 rfl) ?_
      refine lv_iconst (v := 0) hx hb d_18_26_34 (by decide) ?_
      refine q_put (ci := 16) (j := 16) (v := .int 0) (ty := .boolean) C0 V i_TR o_TR n_TR rfl rfl hT0 (by decide) w_2156 rfl rfl rfl rfl (Nat.le_of_ble_eq_true rfl) d_18_26_35 (fun H locs w186 hu187 hT0 V => ?_)
      replace hT0 : w186[153]? = (some (q 153, .inr (16, [.int t0_0, .ref (q 154), .int t0_1, .int t0_2, .int t0_3, .int t0_4, .ref (q 155), .int t0_5, .int t0_6, .long t0_7, .ref (q 156), .int t0_8, .int t0_9, .long t0_10, .long t0_11, .int t0_12, .int 0])) : Option (Nat × va_E)) := hT0
      replace hI := n_p153 hI hu187 hT0 (by first | with_reducible exact q_fe btt0_1 | exact ⟨(by have t1 : 0 ≤ t0_1.toInt ∧ t0_1.toInt ≤ 4100 := btt0_1; omega), (by have t1 : 0 ≤ t0_1.toInt ∧ t0_1.toInt ≤ 4100 := btt0_1; omega)⟩) (by first | with_reducible exact q_fe btt0_4 | exact ⟨(by have t1 : 0 ≤ t0_4.toInt ∧ t0_4.toInt ≤ 1 := btt0_4; omega), (by have t1 : 0 ≤ t0_4.toInt ∧ t0_4.toInt ≤ 1 := btt0_4; omega)⟩) ⟨(by have z9 : (0 : Int32).toInt = 0 := rfl; omega), (by have z9 : (0 : Int32).toInt = 0 := rfl; omega)⟩
      replace hT2 := (hu187 _ (by decide)).trans hT2
      replace hF := q_us hF hu187 (by simp)
      refine lv_aload_n hx hb d_18_26_38 rfl (lv_at hl 1 rfl) ?_
      refine lv_lconst (v := 0) hx hb d_18_26_39 (by decide) ?_
      refine q_put (ci := 16) (j := 13) (v := .long 0) (ty := .long) C0 V i_TR o_TR n_TR rfl rfl hT0 (by decide) w_2153 rfl rfl rfl rfl (Nat.le_of_ble_eq_true rfl) d_18_26_40 (fun H locs w188 hu189 hT0 V => ?_)
      replace hT0 : w188[153]? = (some (q 153, .inr (16, [.int t0_0, .ref (q 154), .int t0_1, .int t0_2, .int t0_3, .int t0_4, .ref (q 155), .int t0_5, .int t0_6, .long t0_7, .ref (q 156), .int t0_8, .int t0_9, .long 0, .long t0_11, .int t0_12, .int 0])) : Option (Nat × va_E)) := hT0
      replace hI := n_p153 hI hu189 hT0 (by first | with_reducible exact q_fe btt0_1 | exact ⟨(by have t1 : 0 ≤ t0_1.toInt ∧ t0_1.toInt ≤ 4100 := btt0_1; omega), (by have t1 : 0 ≤ t0_1.toInt ∧ t0_1.toInt ≤ 4100 := btt0_1; omega)⟩) (by first | with_reducible exact q_fe btt0_4 | exact ⟨(by have t1 : 0 ≤ t0_4.toInt ∧ t0_4.toInt ≤ 1 := btt0_4; omega), (by have t1 : 0 ≤ t0_4.toInt ∧ t0_4.toInt ≤ 1 := btt0_4; omega)⟩) ⟨(by have z9 : (0 : Int32).toInt = 0 := rfl; omega), (by have z9 : (0 : Int32).toInt = 0 := rfl; omega)⟩
      replace hT2 := (hu189 _ (by decide)).trans hT2
      replace hF := q_us hF hu189 (by simp)
      refine lv_aload_n hx hb d_18_26_43 rfl (lv_at hl 1 rfl) ?_
      refine lv_iload_n hx hb d_18_26_44 rfl (lv_at hl 3 rfl) ?_
      refine lv_i2l hx hb d_18_26_45 rfl ?_
      obtain ⟨j190, e191⟩ := q_nm (x3.toInt64 : Int64)
      refine q_tl (v := j190) e191 ?_
      refine q_put (ci := 16) (j := 14) (v := .long j190) (ty := .long) C0 V i_TR o_TR n_TR rfl rfl hT0 (by decide) w_2154 rfl rfl rfl rfl (Nat.le_of_ble_eq_true rfl) d_18_26_46 (fun H locs w193 hu194 hT0 V => ?_)
      replace hT0 : w193[153]? = (some (q 153, .inr (16, [.int t0_0, .ref (q 154), .int t0_1, .int t0_2, .int t0_3, .int t0_4, .ref (q 155), .int t0_5, .int t0_6, .long t0_7, .ref (q 156), .int t0_8, .int t0_9, .long 0, .long j190, .int t0_12, .int 0])) : Option (Nat × va_E)) := hT0
      replace hI := n_p153 hI hu194 hT0 (by first | with_reducible exact q_fe btt0_1 | exact ⟨(by have t1 : 0 ≤ t0_1.toInt ∧ t0_1.toInt ≤ 4100 := btt0_1; omega), (by have t1 : 0 ≤ t0_1.toInt ∧ t0_1.toInt ≤ 4100 := btt0_1; omega)⟩) (by first | with_reducible exact q_fe btt0_4 | exact ⟨(by have t1 : 0 ≤ t0_4.toInt ∧ t0_4.toInt ≤ 1 := btt0_4; omega), (by have t1 : 0 ≤ t0_4.toInt ∧ t0_4.toInt ≤ 1 := btt0_4; omega)⟩) ⟨(by have z9 : (0 : Int32).toInt = 0 := rfl; omega), (by have z9 : (0 : Int32).toInt = 0 := rfl; omega)⟩
      replace hT2 := (hu194 _ (by decide)).trans hT2
      replace hF := q_us hF hu194 (by simp)
      refine lv_aload_n hx hb d_18_26_49 rfl (lv_at hl 1 rfl) ?_
      refine lv_iconst (v := 0) hx hb d_18_26_50 (by decide) ?_
      refine q_put (ci := 16) (j := 15) (v := .int 0) (ty := .int) C0 V i_TR o_TR n_TR rfl rfl hT0 (by decide) w_2155 rfl rfl rfl rfl (Nat.le_of_ble_eq_true rfl) d_18_26_51 (fun H locs w195 hu196 hT0 V => ?_)
      replace hT0 : w195[153]? = (some (q 153, .inr (16, [.int t0_0, .ref (q 154), .int t0_1, .int t0_2, .int t0_3, .int t0_4, .ref (q 155), .int t0_5, .int t0_6, .long t0_7, .ref (q 156), .int t0_8, .int t0_9, .long 0, .long j190, .int 0, .int 0])) : Option (Nat × va_E)) := hT0
      replace hI := n_p153 hI hu196 hT0 (by first | with_reducible exact q_fe btt0_1 | exact ⟨(by have t1 : 0 ≤ t0_1.toInt ∧ t0_1.toInt ≤ 4100 := btt0_1; omega), (by have t1 : 0 ≤ t0_1.toInt ∧ t0_1.toInt ≤ 4100 := btt0_1; omega)⟩) (by first | with_reducible exact q_fe btt0_4 | exact ⟨(by have t1 : 0 ≤ t0_4.toInt ∧ t0_4.toInt ≤ 1 := btt0_4; omega), (by have t1 : 0 ≤ t0_4.toInt ∧ t0_4.toInt ≤ 1 := btt0_4; omega)⟩) ⟨(by have z9 : (0 : Int32).toInt = 0 := rfl; omega), (by have z9 : (0 : Int32).toInt = 0 := rfl; omega)⟩
      replace hT2 := (hu196 _ (by decide)).trans hT2
      replace hF := q_us hF hu196 (by simp)
      refine lv_goto (tgt := 81) hx hb d_18_26_54 (by decide) ?_
      exact q_retv C0 V (⟨hI, hF, t0_0, t0_1, t0_2, t0_3, t0_4, t0_5, t0_6, t0_7, t0_8, t0_9, 0, j190, 0, 0, t2_0, hT0, hT2, (show (0 : Int32).toInt ≤ 3 from (by have z28 : (0 : Int64).toInt = 0 := rfl; have z30 : (0 : Int32).toInt = 0 := rfl; have z31 : (0 : Int32).toInt = 0 := rfl; omega)), (show 0 ≤ (0 : Int32).toInt from (by have z28 : (0 : Int64).toInt = 0 := rfl; have z30 : (0 : Int32).toInt = 0 := rfl; have z31 : (0 : Int32).toInt = 0 := rfl; omega)), (show (0 : Int32).toInt ≤ 1 from (by have z28 : (0 : Int64).toInt = 0 := rfl; have z30 : (0 : Int32).toInt = 0 := rfl; have z31 : (0 : Int32).toInt = 0 := rfl; omega)), (show t0_0.toInt ≤ t0_0.toInt from (by have z28 : (0 : Int64).toInt = 0 := rfl; have z30 : (0 : Int32).toInt = 0 := rfl; have z31 : (0 : Int32).toInt = 0 := rfl; omega)), (show t0_0.toInt ≤ t0_0.toInt from (by have z28 : (0 : Int64).toInt = 0 := rfl; have z30 : (0 : Int32).toInt = 0 := rfl; have z31 : (0 : Int32).toInt = 0 := rfl; omega)), (show t0_1.toInt ≤ t0_1.toInt from (by have z28 : (0 : Int64).toInt = 0 := rfl; have z30 : (0 : Int32).toInt = 0 := rfl; have z31 : (0 : Int32).toInt = 0 := rfl; omega)), (show t0_1.toInt ≤ t0_1.toInt from (by have z28 : (0 : Int64).toInt = 0 := rfl; have z30 : (0 : Int32).toInt = 0 := rfl; have z31 : (0 : Int32).toInt = 0 := rfl; omega)), (show t0_2.toInt ≤ t0_2.toInt from (by have z28 : (0 : Int64).toInt = 0 := rfl; have z30 : (0 : Int32).toInt = 0 := rfl; have z31 : (0 : Int32).toInt = 0 := rfl; omega)), (show t0_2.toInt ≤ t0_2.toInt from (by have z28 : (0 : Int64).toInt = 0 := rfl; have z30 : (0 : Int32).toInt = 0 := rfl; have z31 : (0 : Int32).toInt = 0 := rfl; omega)), (show t0_3.toInt ≤ t0_3.toInt from (by have z28 : (0 : Int64).toInt = 0 := rfl; have z30 : (0 : Int32).toInt = 0 := rfl; have z31 : (0 : Int32).toInt = 0 := rfl; omega)), (show t0_3.toInt ≤ t0_3.toInt from (by have z28 : (0 : Int64).toInt = 0 := rfl; have z30 : (0 : Int32).toInt = 0 := rfl; have z31 : (0 : Int32).toInt = 0 := rfl; omega)), (show t0_4.toInt ≤ t0_4.toInt from (by have z28 : (0 : Int64).toInt = 0 := rfl; have z30 : (0 : Int32).toInt = 0 := rfl; have z31 : (0 : Int32).toInt = 0 := rfl; omega)), (show t0_4.toInt ≤ t0_4.toInt from (by have z28 : (0 : Int64).toInt = 0 := rfl; have z30 : (0 : Int32).toInt = 0 := rfl; have z31 : (0 : Int32).toInt = 0 := rfl; omega)), (show t0_5.toInt ≤ t0_5.toInt from (by have z28 : (0 : Int64).toInt = 0 := rfl; have z30 : (0 : Int32).toInt = 0 := rfl; have z31 : (0 : Int32).toInt = 0 := rfl; omega)), (show t0_5.toInt ≤ t0_5.toInt from (by have z28 : (0 : Int64).toInt = 0 := rfl; have z30 : (0 : Int32).toInt = 0 := rfl; have z31 : (0 : Int32).toInt = 0 := rfl; omega)), (show t0_6.toInt ≤ t0_6.toInt from (by have z28 : (0 : Int64).toInt = 0 := rfl; have z30 : (0 : Int32).toInt = 0 := rfl; have z31 : (0 : Int32).toInt = 0 := rfl; omega)), (show t0_6.toInt ≤ t0_6.toInt from (by have z28 : (0 : Int64).toInt = 0 := rfl; have z30 : (0 : Int32).toInt = 0 := rfl; have z31 : (0 : Int32).toInt = 0 := rfl; omega)), (show t0_7.toInt ≤ t0_7.toInt from (by have z28 : (0 : Int64).toInt = 0 := rfl; have z30 : (0 : Int32).toInt = 0 := rfl; have z31 : (0 : Int32).toInt = 0 := rfl; omega)), (show t0_7.toInt ≤ t0_7.toInt from (by have z28 : (0 : Int64).toInt = 0 := rfl; have z30 : (0 : Int32).toInt = 0 := rfl; have z31 : (0 : Int32).toInt = 0 := rfl; omega)), (show (0 : Int32).toInt ≤ (0 : Int32).toInt from (by have z28 : (0 : Int64).toInt = 0 := rfl; have z30 : (0 : Int32).toInt = 0 := rfl; have z31 : (0 : Int32).toInt = 0 := rfl; omega)), (show (t0_0, t0_1, t0_2, t0_3, t0_4, t0_5, t0_6, t0_7, t0_8, t0_9, (0 : Int64), j190, (0 : Int32), (0 : Int32), t2_0) = (F_TR_find x2 x3 t0_0 t0_1 t0_2 t0_3 t0_4 t0_5 t0_6 t0_7 t0_8 t0_9 t0_10 t0_11 t0_12 t0_13 t1_0 t2_0) from Eq.trans (by rw [← e191, F_TR_find_J25.eq_1, if_pos c44]) hR39)⟩) d_18_26_81
  ·
    intro J38
    refine lv_icmp_ge (tgt := 25) hx hb d_18_26_7 (by decide) (fun c197 => ?_) (fun c197 => ?_)
    ·
      exact J38 (()) _ _ _ ws ⟨V, q_lw hl (q_lw1 0 rfl (q_lw1 1 rfl (q_lw1 2 rfl (q_lw1 3 rfl q_lw0)))), (show F_TR_find_J25 (F_TR_find_L2 x2 x3 t0_0 t0_1 t0_2 t0_3 t0_4 t0_5 t0_6 t0_7 t0_8 t0_9 t0_10 t0_11 t0_12 t0_13 t1_0 t2_0 fm34) x2 x3 t0_0 t0_1 t0_2 t0_3 t0_4 t0_5 t0_6 t0_7 t0_8 t0_9 t0_10 t0_11 t0_12 t0_13 t1_0 t2_0 lx26 = (F_TR_find x2 x3 t0_0 t0_1 t0_2 t0_3 t0_4 t0_5 t0_6 t0_7 t0_8 t0_9 t0_10 t0_11 t0_12 t0_13 t1_0 t2_0) from Eq.trans (by rw [F_TR_find_L2.eq_2, if_pos c197]) hR30), (show True ∧ S_TR_find_J25 (S_TR_find_L2 x2 x3 t0_0 t0_1 t0_2 t0_3 t0_4 t0_5 t0_6 t0_7 t0_8 t0_9 t0_10 t0_11 t0_12 t0_13 t1_0 t2_0 fm34) x2 x3 t0_0 t0_1 t0_2 t0_3 t0_4 t0_5 t0_6 t0_7 t0_8 t0_9 t0_10 t0_11 t0_12 t0_13 t1_0 t2_0 lx26 from (by have h := hS31; rw [S_TR_find_L2.eq_2] at h; rw [if_pos c197] at h; with_reducible exact h))⟩
    ·
      refine lv_aload_n hx hb d_18_26_10 rfl (lv_at hl 1 rfl) ?_
      refine q_get (ci := 16) (j := 6) (v := .ref (q 155)) C0 V i_TR rfl rfl hT0 (by decide) w_2146 rfl d_18_26_11 ?_
      refine lv_iload_n hx hb d_18_26_14 rfl (lv_at hl 0 rfl) ?_
      have ob200 : q_F (lx26.toInt ≤ 4099) := (by have h := hS31; rw [S_TR_find_L2.eq_2] at h; rw [if_neg c197] at h; exact h.2.1)
      refine q_iald C0 V hT1 (q_ix (x := lx26.toInt) rfl (by first | with_reducible exact q_fe i27 | (have t1 : 0 ≤ lx26.toInt := i27; omega)) (by have t1 : 0 ≤ lx26.toInt := i27; have t2 : lx26.toInt ≤ 4099 := ob200; have e9 : (((4100 : Int32).toNatClampNeg : Nat) : Int) = 4100 := (by decide); omega)) d_18_26_15 ?_
      obtain ⟨a201, e202⟩ := q_nm (t1_0 lx26.toNatClampNeg : Int32)
      refine q_ti (v := a201) e202 ?_
      refine lv_if_ne (tgt := 25) hx hb d_18_26_16 (by decide) (fun c203 => ?_) (fun c203 => ?_)
      ·
        exact J38 (()) _ _ _ ws ⟨V, q_lw hl (q_lw1 0 rfl (q_lw1 1 rfl (q_lw1 2 rfl (q_lw1 3 rfl q_lw0)))), (show F_TR_find_J25 (F_TR_find_L2 x2 x3 t0_0 t0_1 t0_2 t0_3 t0_4 t0_5 t0_6 t0_7 t0_8 t0_9 t0_10 t0_11 t0_12 t0_13 t1_0 t2_0 fm34) x2 x3 t0_0 t0_1 t0_2 t0_3 t0_4 t0_5 t0_6 t0_7 t0_8 t0_9 t0_10 t0_11 t0_12 t0_13 t1_0 t2_0 lx26 = (F_TR_find x2 x3 t0_0 t0_1 t0_2 t0_3 t0_4 t0_5 t0_6 t0_7 t0_8 t0_9 t0_10 t0_11 t0_12 t0_13 t1_0 t2_0) from Eq.trans (by have c203x := c203; rw [← e202] at c203x; rw [F_TR_find_L2.eq_2, if_neg c197, if_neg c203x]) hR30), (show True ∧ S_TR_find_J25 (S_TR_find_L2 x2 x3 t0_0 t0_1 t0_2 t0_3 t0_4 t0_5 t0_6 t0_7 t0_8 t0_9 t0_10 t0_11 t0_12 t0_13 t1_0 t2_0 fm34) x2 x3 t0_0 t0_1 t0_2 t0_3 t0_4 t0_5 t0_6 t0_7 t0_8 t0_9 t0_10 t0_11 t0_12 t0_13 t1_0 t2_0 lx26 from (by have h := hS31; rw [S_TR_find_L2.eq_2] at h; rw [if_neg c197] at h; replace h := q_s2 h; have c203x := c203; rw [← e202] at c203x; rw [if_neg c203x] at h; with_reducible exact h))⟩
      ·
        obtain ⟨a206, e207⟩ := q_nm (lx26 + 1 : Int32)
        have b208 : q_F (a206.toInt = lx26.toInt + 1) := (by rw [← e207]; exact q_addI (y := 1) rfl (by decide) (by have t1 : 0 ≤ lx26.toInt := i27; have t2 : lx26.toInt ≤ 4100 := i28; omega) (by have t1 : 0 ≤ lx26.toInt := i27; have t2 : lx26.toInt ≤ 4100 := i28; omega))
        refine lv_iinc (v := a206) (lv' := [(3, .int a206), (0, .ref (q 153)), (1, .int x2), (2, .int x3)]) hx hb d_18_26_19 hl (k := 0) rfl (e207) (by decide) rfl (fun ls hl => ?_)
        refine lv_goto (tgt := 2) hx hb d_18_26_22 (by decide) ?_
        exact ih29 ((a206 : Int32)) _ _ _ ws (show (4100 - a206.toInt).toNat < (4100 - lx26.toInt).toNat from by have t1 : a206.toInt = lx26.toInt + 1 := b208; have t2 : lx26.toInt ≤ 4100 := i28; have t3 : lx26.toInt ≤ 4099 := ob200; omega) ⟨(show q_F (0 ≤ a206.toInt) from (show 0 ≤ a206.toInt from by have t1 : 0 ≤ lx26.toInt := i27; have t2 : a206.toInt = lx26.toInt + 1 := b208; omega)), (show q_F (a206.toInt ≤ 4100) from (show a206.toInt ≤ 4100 from by have t1 : lx26.toInt ≤ 4099 := ob200; have t2 : a206.toInt = lx26.toInt + 1 := b208; omega)), V, q_lw hl (q_lw1 0 rfl (q_lw1 1 rfl (q_lw1 2 rfl (q_lw1 3 rfl q_lw0)))), ⟨fm34, Nat.lt_of_lt_of_le (show (4100 - a206.toInt).toNat < (4100 - lx26.toInt).toNat from by have t1 : a206.toInt = lx26.toInt + 1 := b208; have t2 : lx26.toInt ≤ 4100 := i28; have t3 : lx26.toInt ≤ 4099 := ob200; omega) (Nat.le_of_lt_succ hf33), (show F_TR_find_L2 x2 x3 t0_0 t0_1 t0_2 t0_3 t0_4 t0_5 t0_6 t0_7 t0_8 t0_9 t0_10 t0_11 t0_12 t0_13 t1_0 t2_0 fm34 a206 = (F_TR_find x2 x3 t0_0 t0_1 t0_2 t0_3 t0_4 t0_5 t0_6 t0_7 t0_8 t0_9 t0_10 t0_11 t0_12 t0_13 t1_0 t2_0) from Eq.trans (by have c203x := c203; rw [← e202] at c203x; rw [← e207, F_TR_find_L2.eq_2, if_neg c197, if_pos c203x]) hR30), (show True ∧ S_TR_find_L2 x2 x3 t0_0 t0_1 t0_2 t0_3 t0_4 t0_5 t0_6 t0_7 t0_8 t0_9 t0_10 t0_11 t0_12 t0_13 t1_0 t2_0 fm34 a206 from (by rw [← e207]; have h := hS31; rw [S_TR_find_L2.eq_2] at h; rw [if_neg c197] at h; replace h := q_s2 h; have c203x := c203; rw [← e202] at c203x; rw [if_pos c203x] at h; with_reducible exact h))⟩⟩
theorem d_18_27_0 : decode prog_18_method_27_code 0 = .ok (.aload_n 0, 1) := by decide +kernel
theorem d_18_27_1 : decode prog_18_method_27_code 1 = .ok (.getfield 120, 3) := by decide +kernel
theorem d_18_27_4 : decode prog_18_method_27_code 4 = .ok (.iconst 3, 1) := by decide +kernel
theorem d_18_27_5 : decode prog_18_method_27_code 5 = .ok (.if_icmp .eq 24, 3) := by decide +kernel
theorem d_18_27_29 : decode prog_18_method_27_code 29 = .ok (.iconst 1, 1) := by decide +kernel
theorem d_18_27_30 : decode prog_18_method_27_code 30 = .ok (.goto 4, 3) := by decide +kernel
theorem d_18_27_34 : decode prog_18_method_27_code 34 = .ok (.ireturn, 1) := by decide +kernel
theorem d_18_27_8 : decode prog_18_method_27_code 8 = .ok (.aload_n 0, 1) := by decide +kernel
theorem d_18_27_9 : decode prog_18_method_27_code 9 = .ok (.getfield 120, 3) := by decide +kernel
theorem d_18_27_12 : decode prog_18_method_27_code 12 = .ok (.iconst 2, 1) := by decide +kernel
theorem d_18_27_13 : decode prog_18_method_27_code 13 = .ok (.if_icmp .ne 20, 3) := by decide +kernel
theorem d_18_27_33 : decode prog_18_method_27_code 33 = .ok (.iconst 0, 1) := by decide +kernel
theorem d_18_27_16 : decode prog_18_method_27_code 16 = .ok (.aload_n 0, 1) := by decide +kernel
theorem d_18_27_17 : decode prog_18_method_27_code 17 = .ok (.getfield 114, 3) := by decide +kernel
theorem d_18_27_20 : decode prog_18_method_27_code 20 = .ok (.ldc2_w 147, 3) := by decide +kernel
theorem d_18_27_23 : decode prog_18_method_27_code 23 = .ok (.lrem, 1) := by decide +kernel
theorem d_18_27_24 : decode prog_18_method_27_code 24 = .ok (.lconst 1, 1) := by decide +kernel
theorem d_18_27_25 : decode prog_18_method_27_code 25 = .ok (.lcmp, 1) := by decide +kernel
theorem d_18_27_26 : decode prog_18_method_27_code 26 = .ok (.ifCond .ne 7, 3) := by decide +kernel
def y_TR_goesUp : MethodName := ⟨"NumberHouseModel$TextRows", "goesUp", "()Z"⟩
def F_TR_goesUp (t0_0 : Int32) (t0_1 : Int32) (t0_2 : Int32) (t0_3 : Int32) (t0_4 : Int32) (t0_5 : Int32) (t0_6 : Int32) (t0_7 : Int64) (t0_8 : Int32) (t0_9 : Int32) (t0_10 : Int64) (t0_11 : Int64) (t0_12 : Int32) (t0_13 : Int32) : Int32 := if t0_12 = (3 : Int32) then ((1 : Int32)) else (if t0_12 = (2 : Int32) then (if (lg_cmp (t0_10 - t0_10 / 2 * 2 : Int64) 1 : Int32) = (0 : Int32) then ((1 : Int32)) else ((0 : Int32))) else ((0 : Int32)))
set_option maxRecDepth 100000 in
set_option maxHeartbeats 4000000 in
theorem X_TR_goesUp (l : Launch) (D : va_G) (g : Nat → ClassId) (q : Nat → Nat) (ws : va_W) (hI : q_I (msh g q) q ws) (t0_0 : Int32) (t0_1 : Int32) (t0_2 : Int32) (t0_3 : Int32) (t0_4 : Int32) (t0_5 : Int32) (t0_6 : Int32) (t0_7 : Int64) (t0_8 : Int32) (t0_9 : Int32) (t0_10 : Int64) (t0_11 : Int64) (t0_12 : Int32) (t0_13 : Int32) (hT0 : ws[153]? = (some (q 153, .inr (16, [.int t0_0, .ref (q 154), .int t0_1, .int t0_2, .int t0_3, .int t0_4, .ref (q 155), .int t0_5, .int t0_6, .long t0_7, .ref (q 156), .int t0_8, .int t0_9, .long t0_10, .long t0_11, .int t0_12, .int t0_13])) : Option (Nat × va_E))) : q_mI l y_TR_goesUp prog_18_method_27_code 1 (.boolean) 1 0 0 D g [.ref (q 153)] ws (fun r u => ws = u ∧ (0 ≤ r.toInt) ∧ (r.toInt ≤ 1) ∧ r = (F_TR_goesUp t0_0 t0_1 t0_2 t0_3 t0_4 t0_5 t0_6 t0_7 t0_8 t0_9 t0_10 t0_11 t0_12 t0_13)) := by
  intro sz
  refine q_into (by decide) (Nat.le_of_ble_eq_true rfl) ?_
  intro p e s m below meth c ls hsz C0 V hl
  have hx := C0.1
  have hb := C0.2.1
  have hZ9 := (n_w153 hI hT0).2
  obtain ⟨-, btt0_13⟩ := hZ9
  clear btt0_13
  have hl : lv_has ls 1 [(0, .ref (q 153))] := hl
  refine lv_aload_n hx hb d_18_27_0 rfl (lv_at hl 0 rfl) ?_
  refine q_get (ci := 16) (j := 15) (v := .int t0_12) C0 V i_TR rfl rfl hT0 (by decide) w_2155 rfl d_18_27_1 ?_
  refine lv_iconst (v := 3) hx hb d_18_27_4 (by decide) ?_
  refine lv_icmp_eq (tgt := 29) hx hb d_18_27_5 (by decide) (fun c19 => ?_) (fun c19 => ?_)
  ·
    refine lv_iconst (v := 1) hx hb d_18_27_29 (by decide) ?_
    refine lv_goto (tgt := 34) hx hb d_18_27_30 (by decide) ?_
    exact q_retz C0 V (by decide) (⟨rfl, (show 0 ≤ (1 : Int32).toInt from (by have z14 : (1 : Int32).toInt = 1 := rfl; omega)), (show (1 : Int32).toInt ≤ 1 from (by have z14 : (1 : Int32).toInt = 1 := rfl; omega)), (show (1 : Int32) = (F_TR_goesUp t0_0 t0_1 t0_2 t0_3 t0_4 t0_5 t0_6 t0_7 t0_8 t0_9 t0_10 t0_11 t0_12 t0_13) from (by rw [F_TR_goesUp.eq_1, if_pos c19]))⟩) d_18_27_34
  ·
    refine lv_aload_n hx hb d_18_27_8 rfl (lv_at hl 0 rfl) ?_
    refine q_get (ci := 16) (j := 15) (v := .int t0_12) C0 V i_TR rfl rfl hT0 (by decide) w_2155 rfl d_18_27_9 ?_
    refine lv_iconst (v := 2) hx hb d_18_27_12 (by decide) ?_
    refine lv_icmp_ne (tgt := 33) hx hb d_18_27_13 (by decide) (fun c22 => ?_) (fun c22 => ?_)
    ·
      refine lv_iconst (v := 0) hx hb d_18_27_33 (by decide) ?_
      exact q_retz C0 V (by decide) (⟨rfl, (show 0 ≤ (0 : Int32).toInt from (by have z14 : (0 : Int32).toInt = 0 := rfl; omega)), (show (0 : Int32).toInt ≤ 1 from (by have z14 : (0 : Int32).toInt = 0 := rfl; omega)), (show (0 : Int32) = (F_TR_goesUp t0_0 t0_1 t0_2 t0_3 t0_4 t0_5 t0_6 t0_7 t0_8 t0_9 t0_10 t0_11 t0_12 t0_13) from (by rw [F_TR_goesUp.eq_1, if_neg c19, if_neg c22]))⟩) d_18_27_34
    ·
      refine lv_aload_n hx hb d_18_27_16 rfl (lv_at hl 0 rfl) ?_
      refine q_get (ci := 16) (j := 13) (v := .long t0_10) C0 V i_TR rfl rfl hT0 (by decide) w_2153 rfl d_18_27_17 ?_
      refine q_ldc2 C0 rfl w_2510 d_18_27_20 ?_
      refine lv_lrem hx hb d_18_27_23 (by decide) ?_
      obtain ⟨j25, e26⟩ := q_nm (t0_10 - t0_10 / 2 * 2 : Int64)
      refine q_tl (v := j25) e26 ?_
      refine lv_lconst (v := 1) hx hb d_18_27_24 (by decide) ?_
      refine W.lcmp hx hb d_18_27_25 ?_
      obtain ⟨a27, e28⟩ := q_nm (lg_cmp j25 1 : Int32)
      refine q_ti (v := a27) e28 ?_
      refine lv_if_ne (tgt := 33) hx hb d_18_27_26 (by decide) (fun c30 => ?_) (fun c30 => ?_)
      ·
        refine lv_iconst (v := 0) hx hb d_18_27_33 (by decide) ?_
        exact q_retz C0 V (by decide) (⟨rfl, (show 0 ≤ (0 : Int32).toInt from (by have z14 : (0 : Int32).toInt = 0 := rfl; omega)), (show (0 : Int32).toInt ≤ 1 from (by have z14 : (0 : Int32).toInt = 0 := rfl; omega)), (show (0 : Int32) = (F_TR_goesUp t0_0 t0_1 t0_2 t0_3 t0_4 t0_5 t0_6 t0_7 t0_8 t0_9 t0_10 t0_11 t0_12 t0_13) from (by have c30x := c30; rw [← e28, ← e26] at c30x; rw [F_TR_goesUp.eq_1, if_neg c19, if_pos c22, if_neg c30x]))⟩) d_18_27_34
      ·
        refine lv_iconst (v := 1) hx hb d_18_27_29 (by decide) ?_
        refine lv_goto (tgt := 34) hx hb d_18_27_30 (by decide) ?_
        exact q_retz C0 V (by decide) (⟨rfl, (show 0 ≤ (1 : Int32).toInt from (by have z14 : (1 : Int32).toInt = 1 := rfl; omega)), (show (1 : Int32).toInt ≤ 1 from (by have z14 : (1 : Int32).toInt = 1 := rfl; omega)), (show (1 : Int32) = (F_TR_goesUp t0_0 t0_1 t0_2 t0_3 t0_4 t0_5 t0_6 t0_7 t0_8 t0_9 t0_10 t0_11 t0_12 t0_13) from (by have c30x := c30; rw [← e28, ← e26] at c30x; rw [F_TR_goesUp.eq_1, if_neg c19, if_pos c22, if_pos c30x]))⟩) d_18_27_34
theorem d_18_28_0 : decode prog_18_method_28_code 0 = .ok (.iload_n 3, 1) := by decide +kernel
theorem d_18_28_1 : decode prog_18_method_28_code 1 = .ok (.bipush 53, 2) := by decide +kernel
theorem d_18_28_15 : decode prog_18_method_28_code 15 = .ok (.iload_n 3, 1) := by decide +kernel
theorem d_18_28_16 : decode prog_18_method_28_code 16 = .ok (.iconst 1, 1) := by decide +kernel
theorem d_18_28_17 : decode prog_18_method_28_code 17 = .ok (.isub, 1) := by decide +kernel
theorem d_18_28_18 : decode prog_18_method_28_code 18 = .ok (.lshl, 1) := by decide +kernel
theorem d_18_28_19 : decode prog_18_method_28_code 19 = .ok (.lstore 5, 2) := by decide +kernel
theorem d_18_28_21 : decode prog_18_method_28_code 21 = .ok (.lload_n 1, 1) := by decide +kernel
theorem d_18_28_22 : decode prog_18_method_28_code 22 = .ok (.lconst 1, 1) := by decide +kernel
theorem d_18_28_23 : decode prog_18_method_28_code 23 = .ok (.iload_n 3, 1) := by decide +kernel
theorem d_18_28_24 : decode prog_18_method_28_code 24 = .ok (.iconst 1, 1) := by decide +kernel
theorem d_18_28_25 : decode prog_18_method_28_code 25 = .ok (.isub, 1) := by decide +kernel
theorem d_18_28_26 : decode prog_18_method_28_code 26 = .ok (.lshl, 1) := by decide +kernel
theorem d_18_28_27 : decode prog_18_method_28_code 27 = .ok (.lcmp, 1) := by decide +kernel
theorem d_18_28_28 : decode prog_18_method_28_code 28 = .ok (.ifCond .ge 5, 3) := by decide +kernel
theorem d_18_28_33 : decode prog_18_method_28_code 33 = .ok (.aload_n 0, 1) := by decide +kernel
theorem d_18_28_34 : decode prog_18_method_28_code 34 = .ok (.getfield 117, 3) := by decide +kernel
theorem d_18_28_37 : decode prog_18_method_28_code 37 = .ok (.iload 4, 2) := by decide +kernel
theorem d_18_28_39 : decode prog_18_method_28_code 39 = .ok (.i2l, 1) := by decide +kernel
theorem d_18_28_40 : decode prog_18_method_28_code 40 = .ok (.lsub, 1) := by decide +kernel
theorem d_18_28_41 : decode prog_18_method_28_code 41 = .ok (.lconst 1, 1) := by decide +kernel
theorem d_18_28_42 : decode prog_18_method_28_code 42 = .ok (.ladd, 1) := by decide +kernel
theorem d_18_28_43 : decode prog_18_method_28_code 43 = .ok (.lstore 7, 2) := by decide +kernel
theorem d_18_28_45 : decode prog_18_method_28_code 45 = .ok (.aload_n 0, 1) := by decide +kernel
theorem d_18_28_46 : decode prog_18_method_28_code 46 = .ok (.getfield 109, 3) := by decide +kernel
theorem d_18_28_49 : decode prog_18_method_28_code 49 = .ok (.ifCond .ne 12, 3) := by decide +kernel
theorem d_18_28_61 : decode prog_18_method_28_code 61 = .ok (.lload 5, 2) := by decide +kernel
theorem d_18_28_63 : decode prog_18_method_28_code 63 = .ok (.lreturn, 1) := by decide +kernel
theorem d_18_28_52 : decode prog_18_method_28_code 52 = .ok (.lload 7, 2) := by decide +kernel
theorem d_18_28_54 : decode prog_18_method_28_code 54 = .ok (.ldc2_w 160, 3) := by decide +kernel
set_option maxRecDepth 100000 in
theorem w_2471 : (Cond.constantLong "NumberHouseModel$TextRows" (160 : Nat) (2047 : Int64)) ∈ q_tbl := q_of11 71 rfl (by decide +kernel)
theorem d_18_28_57 : decode prog_18_method_28_code 57 = .ok (.lcmp, 1) := by decide +kernel
theorem d_18_28_58 : decode prog_18_method_28_code 58 = .ok (.ifCond .le 6, 3) := by decide +kernel
theorem d_18_28_64 : decode prog_18_method_28_code 64 = .ok (.lload 7, 2) := by decide +kernel
theorem d_18_28_66 : decode prog_18_method_28_code 66 = .ok (.iload_n 3, 1) := by decide +kernel
theorem d_18_28_67 : decode prog_18_method_28_code 67 = .ok (.iconst 1, 1) := by decide +kernel
theorem d_18_28_68 : decode prog_18_method_28_code 68 = .ok (.isub, 1) := by decide +kernel
theorem d_18_28_69 : decode prog_18_method_28_code 69 = .ok (.lshl, 1) := by decide +kernel
theorem d_18_28_70 : decode prog_18_method_28_code 70 = .ok (.lload_n 1, 1) := by decide +kernel
theorem d_18_28_71 : decode prog_18_method_28_code 71 = .ok (.lconst 1, 1) := by decide +kernel
theorem d_18_28_72 : decode prog_18_method_28_code 72 = .ok (.iload_n 3, 1) := by decide +kernel
theorem d_18_28_73 : decode prog_18_method_28_code 73 = .ok (.iconst 1, 1) := by decide +kernel
theorem d_18_28_74 : decode prog_18_method_28_code 74 = .ok (.isub, 1) := by decide +kernel
theorem d_18_28_75 : decode prog_18_method_28_code 75 = .ok (.lshl, 1) := by decide +kernel
theorem d_18_28_76 : decode prog_18_method_28_code 76 = .ok (.lsub, 1) := by decide +kernel
theorem d_18_28_77 : decode prog_18_method_28_code 77 = .ok (.ladd, 1) := by decide +kernel
theorem d_18_28_78 : decode prog_18_method_28_code 78 = .ok (.lstore 9, 2) := by decide +kernel
theorem d_18_28_80 : decode prog_18_method_28_code 80 = .ok (.lload 9, 2) := by decide +kernel
theorem d_18_28_82 : decode prog_18_method_28_code 82 = .ok (.lconst 0, 1) := by decide +kernel
theorem d_18_28_83 : decode prog_18_method_28_code 83 = .ok (.lcmp, 1) := by decide +kernel
theorem d_18_28_84 : decode prog_18_method_28_code 84 = .ok (.ifCond .lt 11, 3) := by decide +kernel
theorem d_18_28_95 : decode prog_18_method_28_code 95 = .ok (.lload 5, 2) := by decide +kernel
theorem d_18_28_97 : decode prog_18_method_28_code 97 = .ok (.goto 5, 3) := by decide +kernel
theorem d_18_28_102 : decode prog_18_method_28_code 102 = .ok (.lreturn, 1) := by decide +kernel
theorem d_18_28_87 : decode prog_18_method_28_code 87 = .ok (.lload 9, 2) := by decide +kernel
theorem d_18_28_89 : decode prog_18_method_28_code 89 = .ok (.lload 5, 2) := by decide +kernel
theorem d_18_28_91 : decode prog_18_method_28_code 91 = .ok (.lcmp, 1) := by decide +kernel
theorem d_18_28_92 : decode prog_18_method_28_code 92 = .ok (.ifCond .le 8, 3) := by decide +kernel
theorem d_18_28_100 : decode prog_18_method_28_code 100 = .ok (.lload 9, 2) := by decide +kernel
theorem d_18_28_31 : decode prog_18_method_28_code 31 = .ok (.lload_n 1, 1) := by decide +kernel
theorem d_18_28_32 : decode prog_18_method_28_code 32 = .ok (.lreturn, 1) := by decide +kernel
theorem d_18_28_3 : decode prog_18_method_28_code 3 = .ok (.if_icmp .ne 9, 3) := by decide +kernel
theorem d_18_28_12 : decode prog_18_method_28_code 12 = .ok (.ldc2_w 23, 3) := by decide +kernel
theorem d_18_28_6 : decode prog_18_method_28_code 6 = .ok (.ldc2_w 160, 3) := by decide +kernel
theorem d_18_28_9 : decode prog_18_method_28_code 9 = .ok (.goto 6, 3) := by decide +kernel
def y_TR_pack : MethodName := ⟨"NumberHouseModel$TextRows", "pack", "(JII)J"⟩
def F_TR_pack_J15 (x2 : Int64) (x3 : Int32) (x4 : Int32) (t0_0 : Int32) (t0_1 : Int32) (t0_2 : Int32) (t0_3 : Int32) (t0_4 : Int32) (t0_5 : Int32) (t0_6 : Int32) (t0_7 : Int64) (t0_8 : Int32) (t0_9 : Int32) (t0_10 : Int64) (t0_11 : Int64) (t0_12 : Int32) (t0_13 : Int32) (lx19 : Int64) : Int64 := if (0 : Int32) ≤ (lg_cmp x2 ((1 : Int64) <<< ((x3 - 1 : Int32).toInt64 &&& 63) : Int64) : Int32) then (if t0_13 = (0 : Int32) then (if (lg_cmp ((t0_11 - (x4.toInt64 : Int64) : Int64) + 1 : Int64) 2047 : Int32) ≤ (0 : Int32) then (if (lg_cmp ((((t0_11 - (x4.toInt64 : Int64) : Int64) + 1 : Int64) <<< ((x3 - 1 : Int32).toInt64 &&& 63) : Int64) + (x2 - ((1 : Int64) <<< ((x3 - 1 : Int32).toInt64 &&& 63) : Int64) : Int64) : Int64) 0 : Int32) < (0 : Int32) then ((lx19 <<< ((x3 - 1 : Int32).toInt64 &&& 63) : Int64)) else (if (lg_cmp ((((t0_11 - (x4.toInt64 : Int64) : Int64) + 1 : Int64) <<< ((x3 - 1 : Int32).toInt64 &&& 63) : Int64) + (x2 - ((1 : Int64) <<< ((x3 - 1 : Int32).toInt64 &&& 63) : Int64) : Int64) : Int64) (lx19 <<< ((x3 - 1 : Int32).toInt64 &&& 63) : Int64) : Int32) ≤ (0 : Int32) then (((((t0_11 - (x4.toInt64 : Int64) : Int64) + 1 : Int64) <<< ((x3 - 1 : Int32).toInt64 &&& 63) : Int64) + (x2 - ((1 : Int64) <<< ((x3 - 1 : Int32).toInt64 &&& 63) : Int64) : Int64) : Int64)) else ((lx19 <<< ((x3 - 1 : Int32).toInt64 &&& 63) : Int64)))) else ((lx19 <<< ((x3 - 1 : Int32).toInt64 &&& 63) : Int64))) else ((lx19 <<< ((x3 - 1 : Int32).toInt64 &&& 63) : Int64))) else (x2)
def F_TR_pack (x2 : Int64) (x3 : Int32) (x4 : Int32) (t0_0 : Int32) (t0_1 : Int32) (t0_2 : Int32) (t0_3 : Int32) (t0_4 : Int32) (t0_5 : Int32) (t0_6 : Int32) (t0_7 : Int64) (t0_8 : Int32) (t0_9 : Int32) (t0_10 : Int64) (t0_11 : Int64) (t0_12 : Int32) (t0_13 : Int32) : Int64 := if x3 = (53 : Int32) then (F_TR_pack_J15 x2 x3 x4 t0_0 t0_1 t0_2 t0_3 t0_4 t0_5 t0_6 t0_7 t0_8 t0_9 t0_10 t0_11 t0_12 t0_13 2047) else (F_TR_pack_J15 x2 x3 x4 t0_0 t0_1 t0_2 t0_3 t0_4 t0_5 t0_6 t0_7 t0_8 t0_9 t0_10 t0_11 t0_12 t0_13 255)
set_option maxRecDepth 100000 in
set_option maxHeartbeats 4000000 in
theorem X_TR_pack (l : Launch) (D : va_G) (g : Nat → ClassId) (q : Nat → Nat) (ws : va_W) (x2 : Int64) (x3 : Int32) (x4 : Int32) (hI : q_I (msh g q) q ws) (t0_0 : Int32) (t0_1 : Int32) (t0_2 : Int32) (t0_3 : Int32) (t0_4 : Int32) (t0_5 : Int32) (t0_6 : Int32) (t0_7 : Int64) (t0_8 : Int32) (t0_9 : Int32) (t0_10 : Int64) (t0_11 : Int64) (t0_12 : Int32) (t0_13 : Int32) (hT0 : ws[153]? = (some (q 153, .inr (16, [.int t0_0, .ref (q 154), .int t0_1, .int t0_2, .int t0_3, .int t0_4, .ref (q 155), .int t0_5, .int t0_6, .long t0_7, .ref (q 156), .int t0_8, .int t0_9, .long t0_10, .long t0_11, .int t0_12, .int t0_13])) : Option (Nat × va_E))) : q_mL l y_TR_pack prog_18_method_28_code 11 1 0 0 D g [.ref (q 153), .long x2, .int x3, .int x4] ws (fun r u => ws = u ∧ r = (F_TR_pack x2 x3 x4 t0_0 t0_1 t0_2 t0_3 t0_4 t0_5 t0_6 t0_7 t0_8 t0_9 t0_10 t0_11 t0_12 t0_13)) := by
  intro sz
  refine q_into (by decide) (Nat.le_of_ble_eq_true rfl) ?_
  intro p e s m below meth c ls hsz C0 V hl
  have hx := C0.1
  have hb := C0.2.1
  have hZ9 := (n_w153 hI hT0).2
  obtain ⟨-, btt0_13⟩ := hZ9
  clear btt0_13
  have hl : lv_has ls 11 [(0, .ref (q 153)), (1, .long x2), (3, .int x3), (4, .int x4)] := hl
  refine lv_iload_n hx hb d_18_28_0 rfl (lv_at hl 2 rfl) ?_
  refine lv_bipush (v := 53) hx hb d_18_28_1 (by decide) ?_
  refine q_join (X := Int64) (fun z H locs ls _ => q_F (255 ≤ z.toInt) ∧ q_F (z.toInt ≤ 2047) ∧ q_Wd D g (va_A ws sz) s ws H locs ∧ lv_has ls 11 [(0, .ref (q 153)), (1, .long x2), (3, .int x3), (4, .int x4)] ∧ F_TR_pack_J15 x2 x3 x4 t0_0 t0_1 t0_2 t0_3 t0_4 t0_5 t0_6 t0_7 t0_8 t0_9 t0_10 t0_11 t0_12 t0_13 z = (F_TR_pack x2 x3 x4 t0_0 t0_1 t0_2 t0_3 t0_4 t0_5 t0_6 t0_7 t0_8 t0_9 t0_10 t0_11 t0_12 t0_13)) (fun z => [.long z]) 15 0 0 ?_ ?_
  ·
    rintro lx19 H locs ls _ ⟨i22, i23, V, hl, hR24⟩
    clear i22
    clear i23
    replace hl : lv_has ls 11 [(0, .ref (q 153)), (1, .long x2), (3, .int x3), (4, .int x4)] := hl
    refine lv_iload_n hx hb d_18_28_15 rfl (lv_at hl 2 rfl) ?_
    refine lv_iconst (v := 1) hx hb d_18_28_16 (by decide) ?_
    refine lv_isub hx hb d_18_28_17 ?_
    obtain ⟨a29, e30⟩ := q_nm (x3 - 1 : Int32)
    refine q_ti (v := a29) e30 ?_
    refine lv_lshl hx hb d_18_28_18 rfl ?_
    obtain ⟨j31, e32⟩ := q_nm (lx19 <<< (a29.toInt64 &&& 63) : Int64)
    refine q_tl (v := j31) e32 ?_
    refine lv_lstore (lv' := [(5, .long j31), (0, .ref (q 153)), (1, .long x2), (3, .int x3), (4, .int x4)]) hx hb d_18_28_19 hl (by decide) rfl (fun ls hl => ?_)
    refine lv_lload_n hx hb d_18_28_21 rfl (lv_at hl 2 rfl) ?_
    refine lv_lconst (v := 1) hx hb d_18_28_22 (by decide) ?_
    refine lv_iload_n hx hb d_18_28_23 rfl (lv_at hl 3 rfl) ?_
    refine lv_iconst (v := 1) hx hb d_18_28_24 (by decide) ?_
    refine lv_isub hx hb d_18_28_25 ?_
    obtain ⟨a33, e34⟩ := q_nm (x3 - 1 : Int32)
    refine q_ti (v := a33) e34 ?_
    refine lv_lshl hx hb d_18_28_26 rfl ?_
    obtain ⟨j35, e36⟩ := q_nm ((1 : Int64) <<< (a33.toInt64 &&& 63) : Int64)
    refine q_tl (v := j35) e36 ?_
    refine W.lcmp hx hb d_18_28_27 ?_
    obtain ⟨a37, e38⟩ := q_nm (lg_cmp x2 j35 : Int32)
    refine q_ti (v := a37) e38 ?_
    refine lv_if_ge (tgt := 33) hx hb d_18_28_28 (by decide) (fun c40 => ?_) (fun c40 => ?_)
    ·
      refine lv_aload_n hx hb d_18_28_33 rfl (lv_at hl 1 rfl) ?_
      refine q_get (ci := 16) (j := 14) (v := .long t0_11) C0 V i_TR rfl rfl hT0 (by decide) w_2154 rfl d_18_28_34 ?_
      refine lv_iload hx hb d_18_28_37 (lv_at hl 4 rfl) ?_
      refine lv_i2l hx hb d_18_28_39 rfl ?_
      obtain ⟨j42, e43⟩ := q_nm (x4.toInt64 : Int64)
      refine q_tl (v := j42) e43 ?_
      refine lv_lsub hx hb d_18_28_40 ?_
      obtain ⟨j45, e46⟩ := q_nm (t0_11 - j42 : Int64)
      refine q_tl (v := j45) e46 ?_
      refine lv_lconst (v := 1) hx hb d_18_28_41 (by decide) ?_
      refine lv_ladd hx hb d_18_28_42 ?_
      obtain ⟨j47, e48⟩ := q_nm (j45 + 1 : Int64)
      refine q_tl (v := j47) e48 ?_
      refine lv_lstore (lv' := [(7, .long j47), (5, .long j31), (0, .ref (q 153)), (1, .long x2), (3, .int x3), (4, .int x4)]) hx hb d_18_28_43 hl (by decide) rfl (fun ls hl => ?_)
      refine lv_aload_n hx hb d_18_28_45 rfl (lv_at hl 2 rfl) ?_
      refine q_get (ci := 16) (j := 16) (v := .int t0_13) C0 V i_TR rfl rfl hT0 (by decide) w_2156 rfl d_18_28_46 ?_
      refine lv_if_ne (tgt := 61) hx hb d_18_28_49 (by decide) (fun c49 => ?_) (fun c49 => ?_)
      ·
        refine lv_lload hx hb d_18_28_61 (lv_at hl 1 rfl) ?_
        exact q_retl C0 V (⟨rfl, (show j31 = (F_TR_pack x2 x3 x4 t0_0 t0_1 t0_2 t0_3 t0_4 t0_5 t0_6 t0_7 t0_8 t0_9 t0_10 t0_11 t0_12 t0_13) from Eq.trans (by have c40x := c40; rw [← e38, ← e36, ← e34] at c40x; rw [← e32, ← e30, F_TR_pack_J15.eq_1, if_pos c40x, if_neg c49]) hR24)⟩) d_18_28_63
      ·
        refine lv_lload hx hb d_18_28_52 (lv_at hl 0 rfl) ?_
        refine q_ldc2 C0 rfl w_2471 d_18_28_54 ?_
        refine W.lcmp hx hb d_18_28_57 ?_
        obtain ⟨a52, e53⟩ := q_nm (lg_cmp j47 2047 : Int32)
        refine q_ti (v := a52) e53 ?_
        refine lv_if_le (tgt := 64) hx hb d_18_28_58 (by decide) (fun c55 => ?_) (fun c55 => ?_)
        ·
          refine lv_lload hx hb d_18_28_64 (lv_at hl 0 rfl) ?_
          refine lv_iload_n hx hb d_18_28_66 rfl (lv_at hl 4 rfl) ?_
          refine lv_iconst (v := 1) hx hb d_18_28_67 (by decide) ?_
          refine lv_isub hx hb d_18_28_68 ?_
          obtain ⟨a57, e58⟩ := q_nm (x3 - 1 : Int32)
          refine q_ti (v := a57) e58 ?_
          refine lv_lshl hx hb d_18_28_69 rfl ?_
          obtain ⟨j59, e60⟩ := q_nm (j47 <<< (a57.toInt64 &&& 63) : Int64)
          refine q_tl (v := j59) e60 ?_
          refine lv_lload_n hx hb d_18_28_70 rfl (lv_at hl 3 rfl) ?_
          refine lv_lconst (v := 1) hx hb d_18_28_71 (by decide) ?_
          refine lv_iload_n hx hb d_18_28_72 rfl (lv_at hl 4 rfl) ?_
          refine lv_iconst (v := 1) hx hb d_18_28_73 (by decide) ?_
          refine lv_isub hx hb d_18_28_74 ?_
          obtain ⟨a61, e62⟩ := q_nm (x3 - 1 : Int32)
          refine q_ti (v := a61) e62 ?_
          refine lv_lshl hx hb d_18_28_75 rfl ?_
          obtain ⟨j63, e64⟩ := q_nm ((1 : Int64) <<< (a61.toInt64 &&& 63) : Int64)
          refine q_tl (v := j63) e64 ?_
          refine lv_lsub hx hb d_18_28_76 ?_
          obtain ⟨j65, e66⟩ := q_nm (x2 - j63 : Int64)
          refine q_tl (v := j65) e66 ?_
          refine lv_ladd hx hb d_18_28_77 ?_
          obtain ⟨j67, e68⟩ := q_nm (j59 + j65 : Int64)
          refine q_tl (v := j67) e68 ?_
          refine lv_lstore (lv' := [(9, .long j67), (7, .long j47), (5, .long j31), (0, .ref (q 153)), (1, .long x2), (3, .int x3), (4, .int x4)]) hx hb d_18_28_78 hl (by decide) rfl (fun ls hl => ?_)
          refine lv_lload hx hb d_18_28_80 (lv_at hl 0 rfl) ?_
          refine lv_lconst (v := 0) hx hb d_18_28_82 (by decide) ?_
          refine W.lcmp hx hb d_18_28_83 ?_
          obtain ⟨a69, e70⟩ := q_nm (lg_cmp j67 0 : Int32)
          refine q_ti (v := a69) e70 ?_
          refine lv_if_lt (tgt := 95) hx hb d_18_28_84 (by decide) (fun c72 => ?_) (fun c72 => ?_)
          ·
            refine lv_lload hx hb d_18_28_95 (lv_at hl 2 rfl) ?_
            refine lv_goto (tgt := 102) hx hb d_18_28_97 (by decide) ?_
            exact q_retl C0 V (⟨rfl, (show j31 = (F_TR_pack x2 x3 x4 t0_0 t0_1 t0_2 t0_3 t0_4 t0_5 t0_6 t0_7 t0_8 t0_9 t0_10 t0_11 t0_12 t0_13) from Eq.trans (by have c40x := c40; rw [← e38, ← e36, ← e34] at c40x; have c55x := c55; rw [← e53, ← e48, ← e46, ← e43] at c55x; have c72x := c72; rw [← e70, ← e68, ← e66, ← e64, ← e62, ← e60, ← e58, ← e48, ← e46, ← e43] at c72x; rw [← e32, ← e30, F_TR_pack_J15.eq_1, if_pos c40x, if_pos c49, if_pos c55x, if_pos c72x]) hR24)⟩) d_18_28_102
          ·
            refine lv_lload hx hb d_18_28_87 (lv_at hl 0 rfl) ?_
            refine lv_lload hx hb d_18_28_89 (lv_at hl 2 rfl) ?_
            refine W.lcmp hx hb d_18_28_91 ?_
            obtain ⟨a75, e76⟩ := q_nm (lg_cmp j67 j31 : Int32)
            refine q_ti (v := a75) e76 ?_
            refine lv_if_le (tgt := 100) hx hb d_18_28_92 (by decide) (fun c78 => ?_) (fun c78 => ?_)
            ·
              refine lv_lload hx hb d_18_28_100 (lv_at hl 0 rfl) ?_
              exact q_retl C0 V (⟨rfl, (show j67 = (F_TR_pack x2 x3 x4 t0_0 t0_1 t0_2 t0_3 t0_4 t0_5 t0_6 t0_7 t0_8 t0_9 t0_10 t0_11 t0_12 t0_13) from Eq.trans (by have c40x := c40; rw [← e38, ← e36, ← e34] at c40x; have c55x := c55; rw [← e53, ← e48, ← e46, ← e43] at c55x; have c72x := c72; rw [← e70, ← e68, ← e66, ← e64, ← e62, ← e60, ← e58, ← e48, ← e46, ← e43] at c72x; have c78x := c78; rw [← e76, ← e68, ← e66, ← e64, ← e62, ← e60, ← e58, ← e48, ← e46, ← e43, ← e32, ← e30] at c78x; rw [← e68, ← e66, ← e64, ← e62, ← e60, ← e58, ← e48, ← e46, ← e43, F_TR_pack_J15.eq_1, if_pos c40x, if_pos c49, if_pos c55x, if_neg c72x, if_pos c78x]) hR24)⟩) d_18_28_102
            ·
              refine lv_lload hx hb d_18_28_95 (lv_at hl 2 rfl) ?_
              refine lv_goto (tgt := 102) hx hb d_18_28_97 (by decide) ?_
              exact q_retl C0 V (⟨rfl, (show j31 = (F_TR_pack x2 x3 x4 t0_0 t0_1 t0_2 t0_3 t0_4 t0_5 t0_6 t0_7 t0_8 t0_9 t0_10 t0_11 t0_12 t0_13) from Eq.trans (by have c40x := c40; rw [← e38, ← e36, ← e34] at c40x; have c55x := c55; rw [← e53, ← e48, ← e46, ← e43] at c55x; have c72x := c72; rw [← e70, ← e68, ← e66, ← e64, ← e62, ← e60, ← e58, ← e48, ← e46, ← e43] at c72x; have c78x := c78; rw [← e76, ← e68, ← e66, ← e64, ← e62, ← e60, ← e58, ← e48, ← e46, ← e43, ← e32, ← e30] at c78x; rw [← e32, ← e30, F_TR_pack_J15.eq_1, if_pos c40x, if_pos c49, if_pos c55x, if_neg c72x, if_neg c78x]) hR24)⟩) d_18_28_102
        ·
          refine lv_lload hx hb d_18_28_61 (lv_at hl 1 rfl) ?_
          exact q_retl C0 V (⟨rfl, (show j31 = (F_TR_pack x2 x3 x4 t0_0 t0_1 t0_2 t0_3 t0_4 t0_5 t0_6 t0_7 t0_8 t0_9 t0_10 t0_11 t0_12 t0_13) from Eq.trans (by have c40x := c40; rw [← e38, ← e36, ← e34] at c40x; have c55x := c55; rw [← e53, ← e48, ← e46, ← e43] at c55x; rw [← e32, ← e30, F_TR_pack_J15.eq_1, if_pos c40x, if_pos c49, if_neg c55x]) hR24)⟩) d_18_28_63
    ·
      refine lv_lload_n hx hb d_18_28_31 rfl (lv_at hl 2 rfl) ?_
      exact q_retl C0 V (⟨rfl, (show x2 = (F_TR_pack x2 x3 x4 t0_0 t0_1 t0_2 t0_3 t0_4 t0_5 t0_6 t0_7 t0_8 t0_9 t0_10 t0_11 t0_12 t0_13) from Eq.trans (by have c40x := c40; rw [← e38, ← e36, ← e34] at c40x; rw [F_TR_pack_J15.eq_1, if_neg c40x]) hR24)⟩) d_18_28_32
  ·
    intro J21
    refine lv_icmp_ne (tgt := 12) hx hb d_18_28_3 (by decide) (fun c83 => ?_) (fun c83 => ?_)
    ·
      refine q_ldc2 C0 rfl w_2440 d_18_28_12 ?_
      exact J21 ((255 : Int64)) _ _ _ ws ⟨(show q_F (255 ≤ 255) from (show 255 ≤ 255 from by omega)), (show q_F (255 ≤ 2047) from (show 255 ≤ 2047 from by omega)), V, q_lw hl (q_lw1 0 rfl (q_lw1 1 rfl (q_lw1 2 rfl (q_lw1 3 rfl q_lw0)))), (show F_TR_pack_J15 x2 x3 x4 t0_0 t0_1 t0_2 t0_3 t0_4 t0_5 t0_6 t0_7 t0_8 t0_9 t0_10 t0_11 t0_12 t0_13 255 = (F_TR_pack x2 x3 x4 t0_0 t0_1 t0_2 t0_3 t0_4 t0_5 t0_6 t0_7 t0_8 t0_9 t0_10 t0_11 t0_12 t0_13) from (by rw [F_TR_pack.eq_1, if_neg c83]))⟩
    ·
      refine q_ldc2 C0 rfl w_2471 d_18_28_6 ?_
      refine lv_goto (tgt := 15) hx hb d_18_28_9 (by decide) ?_
      exact J21 ((2047 : Int64)) _ _ _ ws ⟨(show q_F (255 ≤ 2047) from (show 255 ≤ 2047 from by omega)), (show q_F (2047 ≤ 2047) from (show 2047 ≤ 2047 from by omega)), V, q_lw hl (q_lw1 0 rfl (q_lw1 1 rfl (q_lw1 2 rfl (q_lw1 3 rfl q_lw0)))), (show F_TR_pack_J15 x2 x3 x4 t0_0 t0_1 t0_2 t0_3 t0_4 t0_5 t0_6 t0_7 t0_8 t0_9 t0_10 t0_11 t0_12 t0_13 2047 = (F_TR_pack x2 x3 x4 t0_0 t0_1 t0_2 t0_3 t0_4 t0_5 t0_6 t0_7 t0_8 t0_9 t0_10 t0_11 t0_12 t0_13) from (by rw [F_TR_pack.eq_1, if_pos c83]))⟩
theorem d_18_29_0 : decode prog_18_method_29_code 0 = .ok (.aload_n 0, 1) := by decide +kernel
theorem d_18_29_1 : decode prog_18_method_29_code 1 = .ok (.getfield 59, 3) := by decide +kernel
theorem d_18_29_4 : decode prog_18_method_29_code 4 = .ok (.iconst 1, 1) := by decide +kernel
theorem d_18_29_5 : decode prog_18_method_29_code 5 = .ok (.if_icmp .le 41, 3) := by decide +kernel
theorem d_18_29_46 : decode prog_18_method_29_code 46 = .ok (.aload_n 0, 1) := by decide +kernel
theorem d_18_29_47 : decode prog_18_method_29_code 47 = .ok (.iload_n 1, 1) := by decide +kernel
theorem d_18_29_48 : decode prog_18_method_29_code 48 = .ok (.iload_n 2, 1) := by decide +kernel
theorem d_18_29_49 : decode prog_18_method_29_code 49 = .ok (.invokevirtual 162, 3) := by decide +kernel
set_option maxRecDepth 100000 in
theorem w_2475 : (Cond.code ({ cls := "NumberHouseModel$TextRows", name := "find", desc := "(II)V" } : MethodName) prog_18_method_26_code (4 : Nat) (none : Option ClassFile.FieldType)) ∈ q_tbl := q_of11 75 rfl (by decide +kernel)
set_option maxRecDepth 100000 in
theorem w_2472 : (Cond.methodLink "NumberHouseModel$TextRows" (162 : Nat) ({ cls := "NumberHouseModel$TextRows", name := "find", desc := "(II)V" } : MethodName)) ∈ q_tbl := q_of11 72 rfl (by decide +kernel)
set_option maxRecDepth 100000 in
theorem w_2474 : (Cond.instanceMethod ({ cls := "NumberHouseModel$TextRows", name := "find", desc := "(II)V" } : MethodName)) ∈ q_tbl := q_of11 74 rfl (by decide +kernel)
theorem ws_74 : Cond.selects "NumberHouseModel$TextRows" (⟨"NumberHouseModel$TextRows", "find", "(II)V"⟩ : MethodName) (⟨"NumberHouseModel$TextRows", "find", "(II)V"⟩ : MethodName) ∈ q_tbl := q_ofs 74 (by decide +kernel) (by decide +kernel)
theorem LV_TR_162 : q_LV "NumberHouseModel$TextRows" 162 y_TR_find prog_18_method_26_code 4 none 2 := ⟨w_2475, w_18, w_2472, w_2474, ws_74, ⟨by decide, by decide, by decide +kernel⟩⟩
theorem d_18_29_52 : decode prog_18_method_29_code 52 = .ok (.aload_n 0, 1) := by decide +kernel
theorem d_18_29_53 : decode prog_18_method_29_code 53 = .ok (.getfield 109, 3) := by decide +kernel
theorem d_18_29_56 : decode prog_18_method_29_code 56 = .ok (.ifCond .eq 23, 3) := by decide +kernel
theorem d_18_29_79 : decode prog_18_method_29_code 79 = .ok (.aload_n 0, 1) := by decide +kernel
theorem d_18_29_80 : decode prog_18_method_29_code 80 = .ok (.aload_n 0, 1) := by decide +kernel
theorem d_18_29_81 : decode prog_18_method_29_code 81 = .ok (.invokevirtual 165, 3) := by decide +kernel
set_option maxRecDepth 100000 in
theorem w_2519 : (Cond.code ({ cls := "NumberHouseModel$TextRows", name := "goesUp", desc := "()Z" } : MethodName) prog_18_method_27_code (1 : Nat) (some .boolean)) ∈ q_tbl := q_of11 119 rfl (by decide +kernel)
set_option maxRecDepth 100000 in
theorem w_2516 : (Cond.methodLink "NumberHouseModel$TextRows" (165 : Nat) ({ cls := "NumberHouseModel$TextRows", name := "goesUp", desc := "()Z" } : MethodName)) ∈ q_tbl := q_of11 116 rfl (by decide +kernel)
set_option maxRecDepth 100000 in
theorem w_2518 : (Cond.instanceMethod ({ cls := "NumberHouseModel$TextRows", name := "goesUp", desc := "()Z" } : MethodName)) ∈ q_tbl := q_of11 118 rfl (by decide +kernel)
theorem ws_82 : Cond.selects "NumberHouseModel$TextRows" (⟨"NumberHouseModel$TextRows", "goesUp", "()Z"⟩ : MethodName) (⟨"NumberHouseModel$TextRows", "goesUp", "()Z"⟩ : MethodName) ∈ q_tbl := q_ofs 82 (by decide +kernel) (by decide +kernel)
theorem LV_TR_165 : q_LV "NumberHouseModel$TextRows" 165 y_TR_goesUp prog_18_method_27_code 1 (some .boolean) 0 := ⟨w_2519, w_18, w_2516, w_2518, ws_82, ⟨by decide, by decide, by decide +kernel⟩⟩
theorem d_18_29_84 : decode prog_18_method_29_code 84 = .ok (.ifCond .eq 12, 3) := by decide +kernel
theorem d_18_29_96 : decode prog_18_method_29_code 96 = .ok (.aload_n 0, 1) := by decide +kernel
theorem d_18_29_97 : decode prog_18_method_29_code 97 = .ok (.getfield 114, 3) := by decide +kernel
theorem d_18_29_100 : decode prog_18_method_29_code 100 = .ok (.iload_n 1, 1) := by decide +kernel
theorem d_18_29_101 : decode prog_18_method_29_code 101 = .ok (.iload_n 2, 1) := by decide +kernel
theorem d_18_29_102 : decode prog_18_method_29_code 102 = .ok (.invokevirtual 168, 3) := by decide +kernel
set_option maxRecDepth 100000 in
theorem w_2523 : (Cond.code ({ cls := "NumberHouseModel$TextRows", name := "pack", desc := "(JII)J" } : MethodName) prog_18_method_28_code (11 : Nat) (some .long)) ∈ q_tbl := q_of11 123 rfl (by decide +kernel)
set_option maxRecDepth 100000 in
theorem w_2520 : (Cond.methodLink "NumberHouseModel$TextRows" (168 : Nat) ({ cls := "NumberHouseModel$TextRows", name := "pack", desc := "(JII)J" } : MethodName)) ∈ q_tbl := q_of11 120 rfl (by decide +kernel)
set_option maxRecDepth 100000 in
theorem w_2522 : (Cond.instanceMethod ({ cls := "NumberHouseModel$TextRows", name := "pack", desc := "(JII)J" } : MethodName)) ∈ q_tbl := q_of11 122 rfl (by decide +kernel)
theorem ws_83 : Cond.selects "NumberHouseModel$TextRows" (⟨"NumberHouseModel$TextRows", "pack", "(JII)J"⟩ : MethodName) (⟨"NumberHouseModel$TextRows", "pack", "(JII)J"⟩ : MethodName) ∈ q_tbl := q_ofs 83 (by decide +kernel) (by decide +kernel)
theorem LV_TR_168 : q_LV "NumberHouseModel$TextRows" 168 y_TR_pack prog_18_method_28_code 11 (some .long) 3 := ⟨w_2523, w_18, w_2520, w_2522, ws_83, ⟨by decide, by decide, by decide +kernel⟩⟩
theorem d_18_29_105 : decode prog_18_method_29_code 105 = .ok (.lreturn, 1) := by decide +kernel
theorem d_18_29_87 : decode prog_18_method_29_code 87 = .ok (.aload_n 0, 1) := by decide +kernel
theorem d_18_29_88 : decode prog_18_method_29_code 88 = .ok (.getfield 114, 3) := by decide +kernel
theorem d_18_29_91 : decode prog_18_method_29_code 91 = .ok (.lconst 1, 1) := by decide +kernel
theorem d_18_29_92 : decode prog_18_method_29_code 92 = .ok (.ladd, 1) := by decide +kernel
theorem d_18_29_93 : decode prog_18_method_29_code 93 = .ok (.goto 7, 3) := by decide +kernel
theorem d_18_29_59 : decode prog_18_method_29_code 59 = .ok (.iload_n 1, 1) := by decide +kernel
theorem d_18_29_60 : decode prog_18_method_29_code 60 = .ok (.bipush 53, 2) := by decide +kernel
theorem d_18_29_62 : decode prog_18_method_29_code 62 = .ok (.if_icmp .ne 9, 3) := by decide +kernel
theorem d_18_29_71 : decode prog_18_method_29_code 71 = .ok (.ldc2_w 23, 3) := by decide +kernel
theorem d_18_29_74 : decode prog_18_method_29_code 74 = .ok (.iload_n 1, 1) := by decide +kernel
theorem d_18_29_75 : decode prog_18_method_29_code 75 = .ok (.iconst 1, 1) := by decide +kernel
theorem d_18_29_76 : decode prog_18_method_29_code 76 = .ok (.isub, 1) := by decide +kernel
theorem d_18_29_77 : decode prog_18_method_29_code 77 = .ok (.lshl, 1) := by decide +kernel
theorem d_18_29_78 : decode prog_18_method_29_code 78 = .ok (.lreturn, 1) := by decide +kernel
theorem d_18_29_65 : decode prog_18_method_29_code 65 = .ok (.ldc2_w 160, 3) := by decide +kernel
theorem d_18_29_68 : decode prog_18_method_29_code 68 = .ok (.goto 6, 3) := by decide +kernel
theorem d_18_29_8 : decode prog_18_method_29_code 8 = .ok (.iload_n 1, 1) := by decide +kernel
theorem d_18_29_9 : decode prog_18_method_29_code 9 = .ok (.bipush 53, 2) := by decide +kernel
theorem d_18_29_23 : decode prog_18_method_29_code 23 = .ok (.iload_n 1, 1) := by decide +kernel
theorem d_18_29_24 : decode prog_18_method_29_code 24 = .ok (.iconst 1, 1) := by decide +kernel
theorem d_18_29_25 : decode prog_18_method_29_code 25 = .ok (.isub, 1) := by decide +kernel
theorem d_18_29_26 : decode prog_18_method_29_code 26 = .ok (.lshl, 1) := by decide +kernel
theorem d_18_29_27 : decode prog_18_method_29_code 27 = .ok (.aload_n 0, 1) := by decide +kernel
theorem d_18_29_28 : decode prog_18_method_29_code 28 = .ok (.getfield 59, 3) := by decide +kernel
theorem d_18_29_31 : decode prog_18_method_29_code 31 = .ok (.iconst 3, 1) := by decide +kernel
theorem d_18_29_32 : decode prog_18_method_29_code 32 = .ok (.if_icmp .ne 11, 3) := by decide +kernel
theorem d_18_29_43 : decode prog_18_method_29_code 43 = .ok (.lconst 0, 1) := by decide +kernel
theorem d_18_29_44 : decode prog_18_method_29_code 44 = .ok (.lor, 1) := by decide +kernel
theorem d_18_29_45 : decode prog_18_method_29_code 45 = .ok (.lreturn, 1) := by decide +kernel
theorem d_18_29_35 : decode prog_18_method_29_code 35 = .ok (.lconst 1, 1) := by decide +kernel
theorem d_18_29_36 : decode prog_18_method_29_code 36 = .ok (.iload_n 1, 1) := by decide +kernel
theorem d_18_29_37 : decode prog_18_method_29_code 37 = .ok (.iconst 2, 1) := by decide +kernel
theorem d_18_29_38 : decode prog_18_method_29_code 38 = .ok (.isub, 1) := by decide +kernel
theorem d_18_29_39 : decode prog_18_method_29_code 39 = .ok (.lshl, 1) := by decide +kernel
theorem d_18_29_40 : decode prog_18_method_29_code 40 = .ok (.goto 4, 3) := by decide +kernel
theorem d_18_29_11 : decode prog_18_method_29_code 11 = .ok (.if_icmp .ne 9, 3) := by decide +kernel
theorem d_18_29_20 : decode prog_18_method_29_code 20 = .ok (.ldc2_w 23, 3) := by decide +kernel
theorem d_18_29_14 : decode prog_18_method_29_code 14 = .ok (.ldc2_w 160, 3) := by decide +kernel
theorem d_18_29_17 : decode prog_18_method_29_code 17 = .ok (.goto 6, 3) := by decide +kernel
def y_TR_sizeRead : MethodName := ⟨"NumberHouseModel$TextRows", "sizeRead", "(II)J"⟩
def F_TR_sizeRead_c49 (x2 : Int32) (x3 : Int32) (t0_0 : Int32) (t0_1 : Int32) (t0_2 : Int32) (t0_3 : Int32) (t0_4 : Int32) (t0_5 : Int32) (t0_6 : Int32) (t0_7 : Int64) (t0_8 : Int32) (t0_9 : Int32) (t0_10 : Int64) (t0_11 : Int64) (t0_12 : Int32) (t0_13 : Int32) (t1_0 : (Nat → Int32)) (t2_0 : (Nat → Int32)) (p69 : (Int32 × Int32 × Int32 × Int32 × Int32 × Int32 × Int32 × Int64 × Int32 × Int32 × Int64 × Int64 × Int32 × Int32 × (Nat → Int32))) : Int64 × Int32 × Int32 × Int32 × Int32 × Int32 × Int32 × Int32 × Int64 × Int32 × Int32 × Int64 × Int64 × Int32 × Int32 × (Nat → Int32) := if (p69.2.2.2.2.2.2.2.2.2.2.2.2.2.1 : Int32) = (0 : Int32) then (if ((F_TR_goesUp (p69.1 : Int32) (p69.2.1 : Int32) (p69.2.2.1 : Int32) (p69.2.2.2.1 : Int32) (p69.2.2.2.2.1 : Int32) (p69.2.2.2.2.2.1 : Int32) (p69.2.2.2.2.2.2.1 : Int32) (p69.2.2.2.2.2.2.2.1 : Int64) (p69.2.2.2.2.2.2.2.2.1 : Int32) (p69.2.2.2.2.2.2.2.2.2.1 : Int32) (p69.2.2.2.2.2.2.2.2.2.2.1 : Int64) (p69.2.2.2.2.2.2.2.2.2.2.2.1 : Int64) (p69.2.2.2.2.2.2.2.2.2.2.2.2.1 : Int32) (p69.2.2.2.2.2.2.2.2.2.2.2.2.2.1 : Int32)) : Int32) = (0 : Int32) then ((((F_TR_pack (p69.2.2.2.2.2.2.2.2.2.2.1 : Int64) x2 x3 (p69.1 : Int32) (p69.2.1 : Int32) (p69.2.2.1 : Int32) (p69.2.2.2.1 : Int32) (p69.2.2.2.2.1 : Int32) (p69.2.2.2.2.2.1 : Int32) (p69.2.2.2.2.2.2.1 : Int32) (p69.2.2.2.2.2.2.2.1 : Int64) (p69.2.2.2.2.2.2.2.2.1 : Int32) (p69.2.2.2.2.2.2.2.2.2.1 : Int32) (p69.2.2.2.2.2.2.2.2.2.2.1 : Int64) (p69.2.2.2.2.2.2.2.2.2.2.2.1 : Int64) (p69.2.2.2.2.2.2.2.2.2.2.2.2.1 : Int32) (p69.2.2.2.2.2.2.2.2.2.2.2.2.2.1 : Int32)) : Int64), (p69.1 : Int32), (p69.2.1 : Int32), (p69.2.2.1 : Int32), (p69.2.2.2.1 : Int32), (p69.2.2.2.2.1 : Int32), (p69.2.2.2.2.2.1 : Int32), (p69.2.2.2.2.2.2.1 : Int32), (p69.2.2.2.2.2.2.2.1 : Int64), (p69.2.2.2.2.2.2.2.2.1 : Int32), (p69.2.2.2.2.2.2.2.2.2.1 : Int32), (p69.2.2.2.2.2.2.2.2.2.2.1 : Int64), (p69.2.2.2.2.2.2.2.2.2.2.2.1 : Int64), (p69.2.2.2.2.2.2.2.2.2.2.2.2.1 : Int32), (p69.2.2.2.2.2.2.2.2.2.2.2.2.2.1 : Int32), (p69.2.2.2.2.2.2.2.2.2.2.2.2.2.2 : (Nat → Int32)))) else ((((F_TR_pack ((p69.2.2.2.2.2.2.2.2.2.2.1 : Int64) + 1 : Int64) x2 x3 (p69.1 : Int32) (p69.2.1 : Int32) (p69.2.2.1 : Int32) (p69.2.2.2.1 : Int32) (p69.2.2.2.2.1 : Int32) (p69.2.2.2.2.2.1 : Int32) (p69.2.2.2.2.2.2.1 : Int32) (p69.2.2.2.2.2.2.2.1 : Int64) (p69.2.2.2.2.2.2.2.2.1 : Int32) (p69.2.2.2.2.2.2.2.2.2.1 : Int32) (p69.2.2.2.2.2.2.2.2.2.2.1 : Int64) (p69.2.2.2.2.2.2.2.2.2.2.2.1 : Int64) (p69.2.2.2.2.2.2.2.2.2.2.2.2.1 : Int32) (p69.2.2.2.2.2.2.2.2.2.2.2.2.2.1 : Int32)) : Int64), (p69.1 : Int32), (p69.2.1 : Int32), (p69.2.2.1 : Int32), (p69.2.2.2.1 : Int32), (p69.2.2.2.2.1 : Int32), (p69.2.2.2.2.2.1 : Int32), (p69.2.2.2.2.2.2.1 : Int32), (p69.2.2.2.2.2.2.2.1 : Int64), (p69.2.2.2.2.2.2.2.2.1 : Int32), (p69.2.2.2.2.2.2.2.2.2.1 : Int32), (p69.2.2.2.2.2.2.2.2.2.2.1 : Int64), (p69.2.2.2.2.2.2.2.2.2.2.2.1 : Int64), (p69.2.2.2.2.2.2.2.2.2.2.2.2.1 : Int32), (p69.2.2.2.2.2.2.2.2.2.2.2.2.2.1 : Int32), (p69.2.2.2.2.2.2.2.2.2.2.2.2.2.2 : (Nat → Int32))))) else (if x2 = (53 : Int32) then ((((2047 : Int64) <<< ((x2 - 1 : Int32).toInt64 &&& 63) : Int64), (p69.1 : Int32), (p69.2.1 : Int32), (p69.2.2.1 : Int32), (p69.2.2.2.1 : Int32), (p69.2.2.2.2.1 : Int32), (p69.2.2.2.2.2.1 : Int32), (p69.2.2.2.2.2.2.1 : Int32), (p69.2.2.2.2.2.2.2.1 : Int64), (p69.2.2.2.2.2.2.2.2.1 : Int32), (p69.2.2.2.2.2.2.2.2.2.1 : Int32), (p69.2.2.2.2.2.2.2.2.2.2.1 : Int64), (p69.2.2.2.2.2.2.2.2.2.2.2.1 : Int64), (p69.2.2.2.2.2.2.2.2.2.2.2.2.1 : Int32), (p69.2.2.2.2.2.2.2.2.2.2.2.2.2.1 : Int32), (p69.2.2.2.2.2.2.2.2.2.2.2.2.2.2 : (Nat → Int32)))) else ((((255 : Int64) <<< ((x2 - 1 : Int32).toInt64 &&& 63) : Int64), (p69.1 : Int32), (p69.2.1 : Int32), (p69.2.2.1 : Int32), (p69.2.2.2.1 : Int32), (p69.2.2.2.2.1 : Int32), (p69.2.2.2.2.2.1 : Int32), (p69.2.2.2.2.2.2.1 : Int32), (p69.2.2.2.2.2.2.2.1 : Int64), (p69.2.2.2.2.2.2.2.2.1 : Int32), (p69.2.2.2.2.2.2.2.2.2.1 : Int32), (p69.2.2.2.2.2.2.2.2.2.2.1 : Int64), (p69.2.2.2.2.2.2.2.2.2.2.2.1 : Int64), (p69.2.2.2.2.2.2.2.2.2.2.2.2.1 : Int32), (p69.2.2.2.2.2.2.2.2.2.2.2.2.2.1 : Int32), (p69.2.2.2.2.2.2.2.2.2.2.2.2.2.2 : (Nat → Int32)))))
def F_TR_sizeRead_J23 (x2 : Int32) (x3 : Int32) (t0_0 : Int32) (t0_1 : Int32) (t0_2 : Int32) (t0_3 : Int32) (t0_4 : Int32) (t0_5 : Int32) (t0_6 : Int32) (t0_7 : Int64) (t0_8 : Int32) (t0_9 : Int32) (t0_10 : Int64) (t0_11 : Int64) (t0_12 : Int32) (t0_13 : Int32) (t1_0 : (Nat → Int32)) (t2_0 : (Nat → Int32)) (lx129 : Int64) : Int64 × Int32 × Int32 × Int32 × Int32 × Int32 × Int32 × Int32 × Int64 × Int32 × Int32 × Int64 × Int64 × Int32 × Int32 × (Nat → Int32) := if t0_2 = (3 : Int32) then ((((lx129 <<< ((x2 - 1 : Int32).toInt64 &&& 63) : Int64) ||| ((1 : Int64) <<< ((x2 - 2 : Int32).toInt64 &&& 63) : Int64) : Int64), t0_0, t0_1, t0_2, t0_3, t0_4, t0_5, t0_6, t0_7, t0_8, t0_9, t0_10, t0_11, t0_12, t0_13, t2_0)) else ((((lx129 <<< ((x2 - 1 : Int32).toInt64 &&& 63) : Int64) ||| 0 : Int64), t0_0, t0_1, t0_2, t0_3, t0_4, t0_5, t0_6, t0_7, t0_8, t0_9, t0_10, t0_11, t0_12, t0_13, t2_0))
def F_TR_sizeRead (x2 : Int32) (x3 : Int32) (t0_0 : Int32) (t0_1 : Int32) (t0_2 : Int32) (t0_3 : Int32) (t0_4 : Int32) (t0_5 : Int32) (t0_6 : Int32) (t0_7 : Int64) (t0_8 : Int32) (t0_9 : Int32) (t0_10 : Int64) (t0_11 : Int64) (t0_12 : Int32) (t0_13 : Int32) (t1_0 : (Nat → Int32)) (t2_0 : (Nat → Int32)) : Int64 × Int32 × Int32 × Int32 × Int32 × Int32 × Int32 × Int32 × Int64 × Int32 × Int32 × Int64 × Int64 × Int32 × Int32 × (Nat → Int32) := if t0_2 ≤ (1 : Int32) then (F_TR_sizeRead_c49 x2 x3 t0_0 t0_1 t0_2 t0_3 t0_4 t0_5 t0_6 t0_7 t0_8 t0_9 t0_10 t0_11 t0_12 t0_13 t1_0 t2_0 ((F_TR_find x2 x3 t0_0 t0_1 t0_2 t0_3 t0_4 t0_5 t0_6 t0_7 t0_8 t0_9 t0_10 t0_11 t0_12 t0_13 t1_0 t2_0) : (Int32 × Int32 × Int32 × Int32 × Int32 × Int32 × Int32 × Int64 × Int32 × Int32 × Int64 × Int64 × Int32 × Int32 × (Nat → Int32)))) else (if x2 = (53 : Int32) then (F_TR_sizeRead_J23 x2 x3 t0_0 t0_1 t0_2 t0_3 t0_4 t0_5 t0_6 t0_7 t0_8 t0_9 t0_10 t0_11 t0_12 t0_13 t1_0 t2_0 2047) else (F_TR_sizeRead_J23 x2 x3 t0_0 t0_1 t0_2 t0_3 t0_4 t0_5 t0_6 t0_7 t0_8 t0_9 t0_10 t0_11 t0_12 t0_13 t1_0 t2_0 255))
def S_TR_sizeRead_c49 (x2 : Int32) (x3 : Int32) (t0_0 : Int32) (t0_1 : Int32) (t0_2 : Int32) (t0_3 : Int32) (t0_4 : Int32) (t0_5 : Int32) (t0_6 : Int32) (t0_7 : Int64) (t0_8 : Int32) (t0_9 : Int32) (t0_10 : Int64) (t0_11 : Int64) (t0_12 : Int32) (t0_13 : Int32) (t1_0 : (Nat → Int32)) (t2_0 : (Nat → Int32)) (p69 : (Int32 × Int32 × Int32 × Int32 × Int32 × Int32 × Int32 × Int64 × Int32 × Int32 × Int64 × Int64 × Int32 × Int32 × (Nat → Int32))) : Prop := if (p69.2.2.2.2.2.2.2.2.2.2.2.2.2.1 : Int32) = (0 : Int32) then (if ((F_TR_goesUp (p69.1 : Int32) (p69.2.1 : Int32) (p69.2.2.1 : Int32) (p69.2.2.2.1 : Int32) (p69.2.2.2.2.1 : Int32) (p69.2.2.2.2.2.1 : Int32) (p69.2.2.2.2.2.2.1 : Int32) (p69.2.2.2.2.2.2.2.1 : Int64) (p69.2.2.2.2.2.2.2.2.1 : Int32) (p69.2.2.2.2.2.2.2.2.2.1 : Int32) (p69.2.2.2.2.2.2.2.2.2.2.1 : Int64) (p69.2.2.2.2.2.2.2.2.2.2.2.1 : Int64) (p69.2.2.2.2.2.2.2.2.2.2.2.2.1 : Int32) (p69.2.2.2.2.2.2.2.2.2.2.2.2.2.1 : Int32)) : Int32) = (0 : Int32) then (True) else (True)) else (if x2 = (53 : Int32) then (True) else (True))
def S_TR_sizeRead_J23 (x2 : Int32) (x3 : Int32) (t0_0 : Int32) (t0_1 : Int32) (t0_2 : Int32) (t0_3 : Int32) (t0_4 : Int32) (t0_5 : Int32) (t0_6 : Int32) (t0_7 : Int64) (t0_8 : Int32) (t0_9 : Int32) (t0_10 : Int64) (t0_11 : Int64) (t0_12 : Int32) (t0_13 : Int32) (t1_0 : (Nat → Int32)) (t2_0 : (Nat → Int32)) (lx129 : Int64) : Prop := if t0_2 = (3 : Int32) then (True) else (True)
def S_TR_sizeRead (x2 : Int32) (x3 : Int32) (t0_0 : Int32) (t0_1 : Int32) (t0_2 : Int32) (t0_3 : Int32) (t0_4 : Int32) (t0_5 : Int32) (t0_6 : Int32) (t0_7 : Int64) (t0_8 : Int32) (t0_9 : Int32) (t0_10 : Int64) (t0_11 : Int64) (t0_12 : Int32) (t0_13 : Int32) (t1_0 : (Nat → Int32)) (t2_0 : (Nat → Int32)) : Prop := if t0_2 ≤ (1 : Int32) then ((True ∧ S_TR_find x2 x3 t0_0 t0_1 t0_2 t0_3 t0_4 t0_5 t0_6 t0_7 t0_8 t0_9 t0_10 t0_11 t0_12 t0_13 t1_0 t2_0) ∧ (S_TR_sizeRead_c49 x2 x3 t0_0 t0_1 t0_2 t0_3 t0_4 t0_5 t0_6 t0_7 t0_8 t0_9 t0_10 t0_11 t0_12 t0_13 t1_0 t2_0 ((F_TR_find x2 x3 t0_0 t0_1 t0_2 t0_3 t0_4 t0_5 t0_6 t0_7 t0_8 t0_9 t0_10 t0_11 t0_12 t0_13 t1_0 t2_0) : (Int32 × Int32 × Int32 × Int32 × Int32 × Int32 × Int32 × Int64 × Int32 × Int32 × Int64 × Int64 × Int32 × Int32 × (Nat → Int32))))) else (if x2 = (53 : Int32) then (S_TR_sizeRead_J23 x2 x3 t0_0 t0_1 t0_2 t0_3 t0_4 t0_5 t0_6 t0_7 t0_8 t0_9 t0_10 t0_11 t0_12 t0_13 t1_0 t2_0 2047) else (S_TR_sizeRead_J23 x2 x3 t0_0 t0_1 t0_2 t0_3 t0_4 t0_5 t0_6 t0_7 t0_8 t0_9 t0_10 t0_11 t0_12 t0_13 t1_0 t2_0 255))
set_option maxRecDepth 100000 in
set_option maxHeartbeats 4000000 in
theorem X_TR_sizeRead (l : Launch) (D : va_G) (g : Nat → ClassId) (q : Nat → Nat) (ws : va_W) (x2 : Int32) (x3 : Int32) (hI : q_I (msh g q) q ws) (t0_0 : Int32) (t0_1 : Int32) (t0_2 : Int32) (t0_3 : Int32) (t0_4 : Int32) (t0_5 : Int32) (t0_6 : Int32) (t0_7 : Int64) (t0_8 : Int32) (t0_9 : Int32) (t0_10 : Int64) (t0_11 : Int64) (t0_12 : Int32) (t0_13 : Int32) (hT0 : ws[153]? = (some (q 153, .inr (16, [.int t0_0, .ref (q 154), .int t0_1, .int t0_2, .int t0_3, .int t0_4, .ref (q 155), .int t0_5, .int t0_6, .long t0_7, .ref (q 156), .int t0_8, .int t0_9, .long t0_10, .long t0_11, .int t0_12, .int t0_13])) : Option (Nat × va_E))) (t1_0 : (Nat → Int32)) (hT1 : ws[155]? = (some (q 155, .inl (g 0, (4100 : Int32).toNatClampNeg, .inl t1_0)) : Option (Nat × va_E))) (t2_0 : (Nat → Int32)) (hT2 : ws[156]? = (some (q 156, .inl (g 0, (800 : Int32).toNatClampNeg, .inl t2_0)) : Option (Nat × va_E))) (hS : True ∧ S_TR_sizeRead x2 x3 t0_0 t0_1 t0_2 t0_3 t0_4 t0_5 t0_6 t0_7 t0_8 t0_9 t0_10 t0_11 t0_12 t0_13 t1_0 t2_0) : q_mL l y_TR_sizeRead prog_18_method_29_code 3 4 0 0 D g [.ref (q 153), .int x2, .int x3] ws (fun r u => q_I (msh g q) q u ∧ q_un ws u [153, 156] ∧ ∃ (u0_0 : Int32) (u0_1 : Int32) (u0_2 : Int32) (u0_3 : Int32) (u0_4 : Int32) (u0_5 : Int32) (u0_6 : Int32) (u0_7 : Int64) (u0_8 : Int32) (u0_9 : Int32) (u0_10 : Int64) (u0_11 : Int64) (u0_12 : Int32) (u0_13 : Int32) (u2_0 : (Nat → Int32)), u[153]? = (some (q 153, .inr (16, [.int u0_0, .ref (q 154), .int u0_1, .int u0_2, .int u0_3, .int u0_4, .ref (q 155), .int u0_5, .int u0_6, .long u0_7, .ref (q 156), .int u0_8, .int u0_9, .long u0_10, .long u0_11, .int u0_12, .int u0_13])) : Option (Nat × va_E)) ∧ u[156]? = (some (q 156, .inl (g 0, (800 : Int32).toNatClampNeg, .inl u2_0)) : Option (Nat × va_E)) ∧ (0 ≤ u0_13.toInt) ∧ (u0_13.toInt ≤ 1) ∧ (t0_0.toInt ≤ u0_0.toInt) ∧ (u0_0.toInt ≤ t0_0.toInt) ∧ (t0_1.toInt ≤ u0_1.toInt) ∧ (u0_1.toInt ≤ t0_1.toInt) ∧ (t0_2.toInt ≤ u0_2.toInt) ∧ (u0_2.toInt ≤ t0_2.toInt) ∧ (t0_3.toInt ≤ u0_3.toInt) ∧ (u0_3.toInt ≤ t0_3.toInt) ∧ (t0_4.toInt ≤ u0_4.toInt) ∧ (u0_4.toInt ≤ t0_4.toInt) ∧ (t0_5.toInt ≤ u0_5.toInt) ∧ (u0_5.toInt ≤ t0_5.toInt) ∧ (t0_6.toInt ≤ u0_6.toInt) ∧ (u0_6.toInt ≤ t0_6.toInt) ∧ (t0_7.toInt ≤ u0_7.toInt) ∧ (u0_7.toInt ≤ t0_7.toInt) ∧ (r, u0_0, u0_1, u0_2, u0_3, u0_4, u0_5, u0_6, u0_7, u0_8, u0_9, u0_10, u0_11, u0_12, u0_13, u2_0) = (F_TR_sizeRead x2 x3 t0_0 t0_1 t0_2 t0_3 t0_4 t0_5 t0_6 t0_7 t0_8 t0_9 t0_10 t0_11 t0_12 t0_13 t1_0 t2_0)) := by
  intro sz
  refine q_into (by decide) (Nat.le_of_ble_eq_true rfl) ?_
  intro p e s m below meth c ls hsz C0 V hl
  have hx := C0.1
  have hb := C0.2.1
  have hZ9 := (n_w153 hI hT0).2
  obtain ⟨-, btt0_13⟩ := hZ9
  replace btt0_13 : q_F (0 ≤ t0_13.toInt ∧ t0_13.toInt ≤ 1) := btt0_13
  have hF : q_un ws ws [153, 156] := q_u0
  have hl : lv_has ls 3 [(0, .ref (q 153)), (1, .int x2), (2, .int x3)] := hl
  refine lv_aload_n hx hb d_18_29_0 rfl (lv_at hl 0 rfl) ?_
  refine q_get (ci := 16) (j := 3) (v := .int t0_2) C0 V i_TR rfl rfl hT0 (by decide) w_2143 rfl d_18_29_1 ?_
  refine lv_iconst (v := 1) hx hb d_18_29_4 (by decide) ?_
  refine lv_icmp_le (tgt := 46) hx hb d_18_29_5 (by decide) (fun c25 => ?_) (fun c25 => ?_)
  ·
    refine lv_aload_n hx hb d_18_29_46 rfl (lv_at hl 0 rfl) ?_
    refine lv_iload_n hx hb d_18_29_47 rfl (lv_at hl 1 rfl) ?_
    refine lv_iload_n hx hb d_18_29_48 rfl (lv_at hl 2 rfl) ?_
    have ob27 : True ∧ S_TR_find x2 x3 t0_0 t0_1 t0_2 t0_3 t0_4 t0_5 t0_6 t0_7 t0_8 t0_9 t0_10 t0_11 t0_12 t0_13 t1_0 t2_0 := (by have h := hS; rw [S_TR_sizeRead.eq_1] at h; rw [if_pos c25] at h; with_reducible exact h.2.1)
    refine q_gov V (q_runV (As := [.int x2, .int x3]) (rest := []) (d := 3) (mc := 0) (ms := 0) (ci := 16) C0 V rfl LV_TR_162 (X_TR_find l D g q ws  x2 x3 hI t0_0 t0_1 t0_2 t0_3 t0_4 t0_5 t0_6 t0_7 t0_8 t0_9 t0_10 t0_11 t0_12 t0_13 hT0 t1_0 hT1 t2_0 hT2 ob27 _) rfl rfl hT0 rfl hl.1 rfl (Nat.le_of_ble_eq_true rfl) ⟨by decide, by decide⟩ ⟨Nat.le_of_ble_eq_true rfl, Nat.le_of_ble_eq_true rfl⟩ d_18_29_49) (fun u28 H locs hp29 V => ?_)
    obtain ⟨hI, hZ9⟩ := hp29
    obtain ⟨hu68, hZ9⟩ := hZ9
    obtain ⟨y31, hZ9⟩ := hZ9
    obtain ⟨y32, hZ9⟩ := hZ9
    obtain ⟨y33, hZ9⟩ := hZ9
    obtain ⟨y34, hZ9⟩ := hZ9
    obtain ⟨y35, hZ9⟩ := hZ9
    obtain ⟨y36, hZ9⟩ := hZ9
    obtain ⟨y37, hZ9⟩ := hZ9
    obtain ⟨y38, hZ9⟩ := hZ9
    obtain ⟨y39, hZ9⟩ := hZ9
    obtain ⟨y40, hZ9⟩ := hZ9
    obtain ⟨y41, hZ9⟩ := hZ9
    obtain ⟨y42, hZ9⟩ := hZ9
    obtain ⟨y43, hZ9⟩ := hZ9
    obtain ⟨y44, hZ9⟩ := hZ9
    obtain ⟨f45, hZ9⟩ := hZ9
    obtain ⟨hO30, hZ9⟩ := hZ9
    obtain ⟨hA46, hZ9⟩ := hZ9
    replace hZ9 := hZ9.2
    obtain ⟨b48, hZ9⟩ := hZ9
    obtain ⟨b49, hZ9⟩ := hZ9
    obtain ⟨b50, hZ9⟩ := hZ9
    obtain ⟨b51, hZ9⟩ := hZ9
    obtain ⟨b52, hZ9⟩ := hZ9
    obtain ⟨b53, hZ9⟩ := hZ9
    obtain ⟨b54, hZ9⟩ := hZ9
    obtain ⟨b55, hZ9⟩ := hZ9
    obtain ⟨b56, hZ9⟩ := hZ9
    obtain ⟨b57, hZ9⟩ := hZ9
    obtain ⟨b58, hZ9⟩ := hZ9
    obtain ⟨b59, hZ9⟩ := hZ9
    obtain ⟨b60, hZ9⟩ := hZ9
    obtain ⟨b61, hZ9⟩ := hZ9
    obtain ⟨b62, hZ9⟩ := hZ9
    obtain ⟨b63, hZ9⟩ := hZ9
    obtain ⟨b64, hZ9⟩ := hZ9
    obtain ⟨b65, hZ9⟩ := hZ9
    obtain ⟨-, hE67⟩ := hZ9
    replace hO30 : u28[153]? = (some (q 153, .inr (16, [.int y31, .ref (q 154), .int y32, .int y33, .int y34, .int y35, .ref (q 155), .int y36, .int y37, .long y38, .ref (q 156), .int y39, .int y40, .long y41, .long y42, .int y43, .int y44])) : Option (Nat × va_E)) := hO30
    replace hA46 : u28[156]? = (some (q 156, .inl (g 0, (800 : Int32).toNatClampNeg, .inl f45)) : Option (Nat × va_E)) := hA46
    obtain ⟨p69, e70⟩ : ∃ z, z = (F_TR_find x2 x3 t0_0 t0_1 t0_2 t0_3 t0_4 t0_5 t0_6 t0_7 t0_8 t0_9 t0_10 t0_11 t0_12 t0_13 t1_0 t2_0) := ⟨_, rfl⟩
    have e71 : y31 = p69.1 := congrArg (fun z => z.1) (hE67.trans e70.symm)
    have e72 : y32 = p69.2.1 := congrArg (fun z => z.2.1) (hE67.trans e70.symm)
    have e73 : y33 = p69.2.2.1 := congrArg (fun z => z.2.2.1) (hE67.trans e70.symm)
    have e74 : y34 = p69.2.2.2.1 := congrArg (fun z => z.2.2.2.1) (hE67.trans e70.symm)
    have e75 : y35 = p69.2.2.2.2.1 := congrArg (fun z => z.2.2.2.2.1) (hE67.trans e70.symm)
    have e76 : y36 = p69.2.2.2.2.2.1 := congrArg (fun z => z.2.2.2.2.2.1) (hE67.trans e70.symm)
    have e77 : y37 = p69.2.2.2.2.2.2.1 := congrArg (fun z => z.2.2.2.2.2.2.1) (hE67.trans e70.symm)
    have e78 : y38 = p69.2.2.2.2.2.2.2.1 := congrArg (fun z => z.2.2.2.2.2.2.2.1) (hE67.trans e70.symm)
    have e79 : y39 = p69.2.2.2.2.2.2.2.2.1 := congrArg (fun z => z.2.2.2.2.2.2.2.2.1) (hE67.trans e70.symm)
    have e80 : y40 = p69.2.2.2.2.2.2.2.2.2.1 := congrArg (fun z => z.2.2.2.2.2.2.2.2.2.1) (hE67.trans e70.symm)
    have e81 : y41 = p69.2.2.2.2.2.2.2.2.2.2.1 := congrArg (fun z => z.2.2.2.2.2.2.2.2.2.2.1) (hE67.trans e70.symm)
    have e82 : y42 = p69.2.2.2.2.2.2.2.2.2.2.2.1 := congrArg (fun z => z.2.2.2.2.2.2.2.2.2.2.2.1) (hE67.trans e70.symm)
    have e83 : y43 = p69.2.2.2.2.2.2.2.2.2.2.2.2.1 := congrArg (fun z => z.2.2.2.2.2.2.2.2.2.2.2.2.1) (hE67.trans e70.symm)
    have e84 : y44 = p69.2.2.2.2.2.2.2.2.2.2.2.2.2.1 := congrArg (fun z => z.2.2.2.2.2.2.2.2.2.2.2.2.2.1) (hE67.trans e70.symm)
    have e85 : f45 = p69.2.2.2.2.2.2.2.2.2.2.2.2.2.2 := congrArg (fun z => z.2.2.2.2.2.2.2.2.2.2.2.2.2.2) (hE67.trans e70.symm)
    replace b48 : q_F (0 ≤ y44.toInt) := b48
    replace b49 : q_F (y44.toInt ≤ 1) := b49
    replace b50 : q_F (t0_0.toInt ≤ y31.toInt) := b50
    replace b51 : q_F (y31.toInt ≤ t0_0.toInt) := b51
    replace b52 : q_F (t0_1.toInt ≤ y32.toInt) := b52
    replace b53 : q_F (y32.toInt ≤ t0_1.toInt) := b53
    replace b54 : q_F (t0_2.toInt ≤ y33.toInt) := b54
    replace b55 : q_F (y33.toInt ≤ t0_2.toInt) := b55
    replace b56 : q_F (t0_3.toInt ≤ y34.toInt) := b56
    replace b57 : q_F (y34.toInt ≤ t0_3.toInt) := b57
    replace b58 : q_F (t0_4.toInt ≤ y35.toInt) := b58
    replace b59 : q_F (y35.toInt ≤ t0_4.toInt) := b59
    replace b60 : q_F (t0_5.toInt ≤ y36.toInt) := b60
    replace b61 : q_F (y36.toInt ≤ t0_5.toInt) := b61
    replace b62 : q_F (t0_6.toInt ≤ y37.toInt) := b62
    replace b63 : q_F (y37.toInt ≤ t0_6.toInt) := b63
    replace b64 : q_F (t0_7.toInt ≤ y38.toInt) := b64
    replace b65 : q_F (y38.toInt ≤ t0_7.toInt) := b65
    replace hF := q_uc hF hu68 (by simp)
    have hR86 := (show F_TR_sizeRead_c49 x2 x3 t0_0 t0_1 t0_2 t0_3 t0_4 t0_5 t0_6 t0_7 t0_8 t0_9 t0_10 t0_11 t0_12 t0_13 t1_0 t2_0 p69 = (F_TR_sizeRead x2 x3 t0_0 t0_1 t0_2 t0_3 t0_4 t0_5 t0_6 t0_7 t0_8 t0_9 t0_10 t0_11 t0_12 t0_13 t1_0 t2_0) from (by rw [e70, F_TR_sizeRead.eq_1, if_pos c25]))
    have hS87 := (show True ∧ S_TR_sizeRead_c49 x2 x3 t0_0 t0_1 t0_2 t0_3 t0_4 t0_5 t0_6 t0_7 t0_8 t0_9 t0_10 t0_11 t0_12 t0_13 t1_0 t2_0 p69 from (by rw [e70]; have h := hS; rw [S_TR_sizeRead.eq_1] at h; rw [if_pos c25] at h; replace h := q_s2 h; with_reducible exact h))
    refine lv_aload_n hx hb d_18_29_52 rfl (lv_at hl 0 rfl) ?_
    refine q_get (ci := 16) (j := 16) (v := .int y44) C0 V i_TR rfl rfl hO30 (by decide) w_2156 rfl d_18_29_53 ?_
    refine lv_if_eq (tgt := 79) hx hb d_18_29_56 (by decide) (fun c91 => ?_) (fun c91 => ?_)
    ·
      refine lv_aload_n hx hb d_18_29_79 rfl (lv_at hl 0 rfl) ?_
      refine lv_aload_n hx hb d_18_29_80 rfl (lv_at hl 0 rfl) ?_
      refine q_goi V (q_runV (As := []) (rest := [.ref (q 153)]) (d := 1) (mc := 0) (ms := 0) (ci := 16) C0 V rfl LV_TR_165 (X_TR_goesUp l D g q u28   hI y31 y32 y33 y34 y35 y36 y37 y38 y39 y40 y41 y42 y43 y44 hO30  _) rfl rfl hO30 rfl hl.1 rfl (Nat.le_of_ble_eq_true rfl) ⟨by decide, by decide⟩ ⟨Nat.le_of_ble_eq_true rfl, Nat.le_of_ble_eq_true rfl⟩ d_18_29_81) (fun a95 u93 H locs hp94 V => ?_)
      obtain ⟨rfl, b96, b97, hE98⟩ := hp94
      have e99 : a95 = (F_TR_goesUp y31 y32 y33 y34 y35 y36 y37 y38 y39 y40 y41 y42 y43 y44) := hE98
      clear b96
      clear b97
      refine lv_if_eq (tgt := 96) hx hb d_18_29_84 (by decide) (fun c100 => ?_) (fun c100 => ?_)
      ·
        refine lv_aload_n hx hb d_18_29_96 rfl (lv_at hl 0 rfl) ?_
        refine q_get (ci := 16) (j := 13) (v := .long y41) C0 V i_TR rfl rfl hO30 (by decide) w_2153 rfl d_18_29_97 ?_
        refine lv_iload_n hx hb d_18_29_100 rfl (lv_at hl 1 rfl) ?_
        refine lv_iload_n hx hb d_18_29_101 rfl (lv_at hl 2 rfl) ?_
        refine q_gol V (q_runV (As := [.long y41, .int x2, .int x3]) (rest := []) (d := 1) (mc := 0) (ms := 0) (ci := 16) C0 V rfl LV_TR_168 (X_TR_pack l D g q u28  y41 x2 x3 hI y31 y32 y33 y34 y35 y36 y37 y38 y39 y40 y41 y42 y43 y44 hO30  _) rfl rfl hO30 rfl hl.1 rfl (Nat.le_of_ble_eq_true rfl) ⟨by decide, by decide⟩ ⟨Nat.le_of_ble_eq_true rfl, Nat.le_of_ble_eq_true rfl⟩ d_18_29_102) (fun j104 u102 H locs hp103 V => ?_)
        obtain ⟨rfl, hE105⟩ := hp103
        have e106 : j104 = (F_TR_pack y41 x2 x3 y31 y32 y33 y34 y35 y36 y37 y38 y39 y40 y41 y42 y43 y44) := hE105
        exact q_retl C0 V (⟨hI, hF, y31, y32, y33, y34, y35, y36, y37, y38, y39, y40, y41, y42, y43, y44, f45, hO30, hA46, (show 0 ≤ y44.toInt from (by first | with_reducible exact q_fe b48 | (have t1 : 0 ≤ y44.toInt := b48; omega))), (show y44.toInt ≤ 1 from (by first | with_reducible exact q_fe b49 | (have t1 : y44.toInt ≤ 1 := b49; omega))), (show t0_0.toInt ≤ y31.toInt from (by first | with_reducible exact q_fe b50 | (have t1 : t0_0.toInt ≤ y31.toInt := b50; omega))), (show y31.toInt ≤ t0_0.toInt from (by first | with_reducible exact q_fe b51 | (have t1 : y31.toInt ≤ t0_0.toInt := b51; omega))), (show t0_1.toInt ≤ y32.toInt from (by first | with_reducible exact q_fe b52 | (have t1 : t0_1.toInt ≤ y32.toInt := b52; omega))), (show y32.toInt ≤ t0_1.toInt from (by first | with_reducible exact q_fe b53 | (have t1 : y32.toInt ≤ t0_1.toInt := b53; omega))), (show t0_2.toInt ≤ y33.toInt from (by first | with_reducible exact q_fe b54 | (have t1 : t0_2.toInt ≤ y33.toInt := b54; omega))), (show y33.toInt ≤ t0_2.toInt from (by first | with_reducible exact q_fe b55 | (have t1 : y33.toInt ≤ t0_2.toInt := b55; omega))), (show t0_3.toInt ≤ y34.toInt from (by first | with_reducible exact q_fe b56 | (have t1 : t0_3.toInt ≤ y34.toInt := b56; omega))), (show y34.toInt ≤ t0_3.toInt from (by first | with_reducible exact q_fe b57 | (have t1 : y34.toInt ≤ t0_3.toInt := b57; omega))), (show t0_4.toInt ≤ y35.toInt from (by first | with_reducible exact q_fe b58 | (have t1 : t0_4.toInt ≤ y35.toInt := b58; omega))), (show y35.toInt ≤ t0_4.toInt from (by first | with_reducible exact q_fe b59 | (have t1 : y35.toInt ≤ t0_4.toInt := b59; omega))), (show t0_5.toInt ≤ y36.toInt from (by first | with_reducible exact q_fe b60 | (have t1 : t0_5.toInt ≤ y36.toInt := b60; omega))), (show y36.toInt ≤ t0_5.toInt from (by first | with_reducible exact q_fe b61 | (have t1 : y36.toInt ≤ t0_5.toInt := b61; omega))), (show t0_6.toInt ≤ y37.toInt from (by first | with_reducible exact q_fe b62 | (have t1 : t0_6.toInt ≤ y37.toInt := b62; omega))), (show y37.toInt ≤ t0_6.toInt from (by first | with_reducible exact q_fe b63 | (have t1 : y37.toInt ≤ t0_6.toInt := b63; omega))), (show t0_7.toInt ≤ y38.toInt from (by first | with_reducible exact q_fe b64 | (have t1 : t0_7.toInt ≤ y38.toInt := b64; omega))), (show y38.toInt ≤ t0_7.toInt from (by first | with_reducible exact q_fe b65 | (have t1 : y38.toInt ≤ t0_7.toInt := b65; omega))), (show (j104, y31, y32, y33, y34, y35, y36, y37, y38, y39, y40, y41, y42, y43, y44, f45) = (F_TR_sizeRead x2 x3 t0_0 t0_1 t0_2 t0_3 t0_4 t0_5 t0_6 t0_7 t0_8 t0_9 t0_10 t0_11 t0_12 t0_13 t1_0 t2_0) from Eq.trans (by have c91x := c91; rw [e84] at c91x; have c100x := c100; rw [e99, e84, e83, e82, e81, e80, e79, e78, e77, e76, e75, e74, e73, e72, e71] at c100x; rw [e106, e85, e84, e83, e82, e81, e80, e79, e78, e77, e76, e75, e74, e73, e72, e71, F_TR_sizeRead_c49.eq_1, if_pos c91x, if_pos c100x]) hR86)⟩) d_18_29_105
      ·
        refine lv_aload_n hx hb d_18_29_87 rfl (lv_at hl 0 rfl) ?_
        refine q_get (ci := 16) (j := 13) (v := .long y41) C0 V i_TR rfl rfl hO30 (by decide) w_2153 rfl d_18_29_88 ?_
        refine lv_lconst (v := 1) hx hb d_18_29_91 (by decide) ?_
        refine lv_ladd hx hb d_18_29_92 ?_
        obtain ⟨j108, e109⟩ := q_nm (y41 + 1 : Int64)
        refine q_tl (v := j108) e109 ?_
        refine lv_goto (tgt := 100) hx hb d_18_29_93 (by decide) ?_
        refine lv_iload_n hx hb d_18_29_100 rfl (lv_at hl 1 rfl) ?_
        refine lv_iload_n hx hb d_18_29_101 rfl (lv_at hl 2 rfl) ?_
        refine q_gol V (q_runV (As := [.long j108, .int x2, .int x3]) (rest := []) (d := 1) (mc := 0) (ms := 0) (ci := 16) C0 V rfl LV_TR_168 (X_TR_pack l D g q u28  j108 x2 x3 hI y31 y32 y33 y34 y35 y36 y37 y38 y39 y40 y41 y42 y43 y44 hO30  _) rfl rfl hO30 rfl hl.1 rfl (Nat.le_of_ble_eq_true rfl) ⟨by decide, by decide⟩ ⟨Nat.le_of_ble_eq_true rfl, Nat.le_of_ble_eq_true rfl⟩ d_18_29_102) (fun j112 u110 H locs hp111 V => ?_)
        obtain ⟨rfl, hE113⟩ := hp111
        have e114 : j112 = (F_TR_pack j108 x2 x3 y31 y32 y33 y34 y35 y36 y37 y38 y39 y40 y41 y42 y43 y44) := hE113
        exact q_retl C0 V (⟨hI, hF, y31, y32, y33, y34, y35, y36, y37, y38, y39, y40, y41, y42, y43, y44, f45, hO30, hA46, (show 0 ≤ y44.toInt from (by first | with_reducible exact q_fe b48 | (have t1 : 0 ≤ y44.toInt := b48; omega))), (show y44.toInt ≤ 1 from (by first | with_reducible exact q_fe b49 | (have t1 : y44.toInt ≤ 1 := b49; omega))), (show t0_0.toInt ≤ y31.toInt from (by first | with_reducible exact q_fe b50 | (have t1 : t0_0.toInt ≤ y31.toInt := b50; omega))), (show y31.toInt ≤ t0_0.toInt from (by first | with_reducible exact q_fe b51 | (have t1 : y31.toInt ≤ t0_0.toInt := b51; omega))), (show t0_1.toInt ≤ y32.toInt from (by first | with_reducible exact q_fe b52 | (have t1 : t0_1.toInt ≤ y32.toInt := b52; omega))), (show y32.toInt ≤ t0_1.toInt from (by first | with_reducible exact q_fe b53 | (have t1 : y32.toInt ≤ t0_1.toInt := b53; omega))), (show t0_2.toInt ≤ y33.toInt from (by first | with_reducible exact q_fe b54 | (have t1 : t0_2.toInt ≤ y33.toInt := b54; omega))), (show y33.toInt ≤ t0_2.toInt from (by first | with_reducible exact q_fe b55 | (have t1 : y33.toInt ≤ t0_2.toInt := b55; omega))), (show t0_3.toInt ≤ y34.toInt from (by first | with_reducible exact q_fe b56 | (have t1 : t0_3.toInt ≤ y34.toInt := b56; omega))), (show y34.toInt ≤ t0_3.toInt from (by first | with_reducible exact q_fe b57 | (have t1 : y34.toInt ≤ t0_3.toInt := b57; omega))), (show t0_4.toInt ≤ y35.toInt from (by first | with_reducible exact q_fe b58 | (have t1 : t0_4.toInt ≤ y35.toInt := b58; omega))), (show y35.toInt ≤ t0_4.toInt from (by first | with_reducible exact q_fe b59 | (have t1 : y35.toInt ≤ t0_4.toInt := b59; omega))), (show t0_5.toInt ≤ y36.toInt from (by first | with_reducible exact q_fe b60 | (have t1 : t0_5.toInt ≤ y36.toInt := b60; omega))), (show y36.toInt ≤ t0_5.toInt from (by first | with_reducible exact q_fe b61 | (have t1 : y36.toInt ≤ t0_5.toInt := b61; omega))), (show t0_6.toInt ≤ y37.toInt from (by first | with_reducible exact q_fe b62 | (have t1 : t0_6.toInt ≤ y37.toInt := b62; omega))), (show y37.toInt ≤ t0_6.toInt from (by first | with_reducible exact q_fe b63 | (have t1 : y37.toInt ≤ t0_6.toInt := b63; omega))), (show t0_7.toInt ≤ y38.toInt from (by first | with_reducible exact q_fe b64 | (have t1 : t0_7.toInt ≤ y38.toInt := b64; omega))), (show y38.toInt ≤ t0_7.toInt from (by first | with_reducible exact q_fe b65 | (have t1 : y38.toInt ≤ t0_7.toInt := b65; omega))), (show (j112, y31, y32, y33, y34, y35, y36, y37, y38, y39, y40, y41, y42, y43, y44, f45) = (F_TR_sizeRead x2 x3 t0_0 t0_1 t0_2 t0_3 t0_4 t0_5 t0_6 t0_7 t0_8 t0_9 t0_10 t0_11 t0_12 t0_13 t1_0 t2_0) from Eq.trans (by have c91x := c91; rw [e84] at c91x; have c100x := c100; rw [e99, e84, e83, e82, e81, e80, e79, e78, e77, e76, e75, e74, e73, e72, e71] at c100x; rw [e114, ← e109, e85, e84, e83, e82, e81, e80, e79, e78, e77, e76, e75, e74, e73, e72, e71, F_TR_sizeRead_c49.eq_1, if_pos c91x, if_neg c100x]) hR86)⟩) d_18_29_105
    ·
      refine lv_iload_n hx hb d_18_29_59 rfl (lv_at hl 1 rfl) ?_
      refine lv_bipush (v := 53) hx hb d_18_29_60 (by decide) ?_
      refine lv_icmp_ne (tgt := 71) hx hb d_18_29_62 (by decide) (fun c116 => ?_) (fun c116 => ?_)
      ·
        refine q_ldc2 C0 rfl w_2440 d_18_29_71 ?_
        refine lv_iload_n hx hb d_18_29_74 rfl (lv_at hl 1 rfl) ?_
        refine lv_iconst (v := 1) hx hb d_18_29_75 (by decide) ?_
        refine lv_isub hx hb d_18_29_76 ?_
        obtain ⟨a118, e119⟩ := q_nm (x2 - 1 : Int32)
        refine q_ti (v := a118) e119 ?_
        refine lv_lshl hx hb d_18_29_77 rfl ?_
        obtain ⟨j120, e121⟩ := q_nm ((255 : Int64) <<< (a118.toInt64 &&& 63) : Int64)
        refine q_tl (v := j120) e121 ?_
        exact q_retl C0 V (⟨hI, hF, y31, y32, y33, y34, y35, y36, y37, y38, y39, y40, y41, y42, y43, y44, f45, hO30, hA46, (show 0 ≤ y44.toInt from (by first | with_reducible exact q_fe b48 | (have t1 : 0 ≤ y44.toInt := b48; omega))), (show y44.toInt ≤ 1 from (by first | with_reducible exact q_fe b49 | (have t1 : y44.toInt ≤ 1 := b49; omega))), (show t0_0.toInt ≤ y31.toInt from (by first | with_reducible exact q_fe b50 | (have t1 : t0_0.toInt ≤ y31.toInt := b50; omega))), (show y31.toInt ≤ t0_0.toInt from (by first | with_reducible exact q_fe b51 | (have t1 : y31.toInt ≤ t0_0.toInt := b51; omega))), (show t0_1.toInt ≤ y32.toInt from (by first | with_reducible exact q_fe b52 | (have t1 : t0_1.toInt ≤ y32.toInt := b52; omega))), (show y32.toInt ≤ t0_1.toInt from (by first | with_reducible exact q_fe b53 | (have t1 : y32.toInt ≤ t0_1.toInt := b53; omega))), (show t0_2.toInt ≤ y33.toInt from (by first | with_reducible exact q_fe b54 | (have t1 : t0_2.toInt ≤ y33.toInt := b54; omega))), (show y33.toInt ≤ t0_2.toInt from (by first | with_reducible exact q_fe b55 | (have t1 : y33.toInt ≤ t0_2.toInt := b55; omega))), (show t0_3.toInt ≤ y34.toInt from (by first | with_reducible exact q_fe b56 | (have t1 : t0_3.toInt ≤ y34.toInt := b56; omega))), (show y34.toInt ≤ t0_3.toInt from (by first | with_reducible exact q_fe b57 | (have t1 : y34.toInt ≤ t0_3.toInt := b57; omega))), (show t0_4.toInt ≤ y35.toInt from (by first | with_reducible exact q_fe b58 | (have t1 : t0_4.toInt ≤ y35.toInt := b58; omega))), (show y35.toInt ≤ t0_4.toInt from (by first | with_reducible exact q_fe b59 | (have t1 : y35.toInt ≤ t0_4.toInt := b59; omega))), (show t0_5.toInt ≤ y36.toInt from (by first | with_reducible exact q_fe b60 | (have t1 : t0_5.toInt ≤ y36.toInt := b60; omega))), (show y36.toInt ≤ t0_5.toInt from (by first | with_reducible exact q_fe b61 | (have t1 : y36.toInt ≤ t0_5.toInt := b61; omega))), (show t0_6.toInt ≤ y37.toInt from (by first | with_reducible exact q_fe b62 | (have t1 : t0_6.toInt ≤ y37.toInt := b62; omega))), (show y37.toInt ≤ t0_6.toInt from (by first | with_reducible exact q_fe b63 | (have t1 : y37.toInt ≤ t0_6.toInt := b63; omega))), (show t0_7.toInt ≤ y38.toInt from (by first | with_reducible exact q_fe b64 | (have t1 : t0_7.toInt ≤ y38.toInt := b64; omega))), (show y38.toInt ≤ t0_7.toInt from (by first | with_reducible exact q_fe b65 | (have t1 : y38.toInt ≤ t0_7.toInt := b65; omega))), (show (j120, y31, y32, y33, y34, y35, y36, y37, y38, y39, y40, y41, y42, y43, y44, f45) = (F_TR_sizeRead x2 x3 t0_0 t0_1 t0_2 t0_3 t0_4 t0_5 t0_6 t0_7 t0_8 t0_9 t0_10 t0_11 t0_12 t0_13 t1_0 t2_0) from Eq.trans (by have c91x := c91; rw [e84] at c91x; rw [← e121, ← e119, e85, e84, e83, e82, e81, e80, e79, e78, e77, e76, e75, e74, e73, e72, e71, F_TR_sizeRead_c49.eq_1, if_neg c91x, if_neg c116]) hR86)⟩) d_18_29_78
      ·
        refine q_ldc2 C0 rfl w_2471 d_18_29_65 ?_
        refine lv_goto (tgt := 74) hx hb d_18_29_68 (by decide) ?_
        refine lv_iload_n hx hb d_18_29_74 rfl (lv_at hl 1 rfl) ?_
        refine lv_iconst (v := 1) hx hb d_18_29_75 (by decide) ?_
        refine lv_isub hx hb d_18_29_76 ?_
        obtain ⟨a123, e124⟩ := q_nm (x2 - 1 : Int32)
        refine q_ti (v := a123) e124 ?_
        refine lv_lshl hx hb d_18_29_77 rfl ?_
        obtain ⟨j126, e127⟩ := q_nm ((2047 : Int64) <<< (a123.toInt64 &&& 63) : Int64)
        refine q_tl (v := j126) e127 ?_
        exact q_retl C0 V (⟨hI, hF, y31, y32, y33, y34, y35, y36, y37, y38, y39, y40, y41, y42, y43, y44, f45, hO30, hA46, (show 0 ≤ y44.toInt from (by first | with_reducible exact q_fe b48 | (have t1 : 0 ≤ y44.toInt := b48; omega))), (show y44.toInt ≤ 1 from (by first | with_reducible exact q_fe b49 | (have t1 : y44.toInt ≤ 1 := b49; omega))), (show t0_0.toInt ≤ y31.toInt from (by first | with_reducible exact q_fe b50 | (have t1 : t0_0.toInt ≤ y31.toInt := b50; omega))), (show y31.toInt ≤ t0_0.toInt from (by first | with_reducible exact q_fe b51 | (have t1 : y31.toInt ≤ t0_0.toInt := b51; omega))), (show t0_1.toInt ≤ y32.toInt from (by first | with_reducible exact q_fe b52 | (have t1 : t0_1.toInt ≤ y32.toInt := b52; omega))), (show y32.toInt ≤ t0_1.toInt from (by first | with_reducible exact q_fe b53 | (have t1 : y32.toInt ≤ t0_1.toInt := b53; omega))), (show t0_2.toInt ≤ y33.toInt from (by first | with_reducible exact q_fe b54 | (have t1 : t0_2.toInt ≤ y33.toInt := b54; omega))), (show y33.toInt ≤ t0_2.toInt from (by first | with_reducible exact q_fe b55 | (have t1 : y33.toInt ≤ t0_2.toInt := b55; omega))), (show t0_3.toInt ≤ y34.toInt from (by first | with_reducible exact q_fe b56 | (have t1 : t0_3.toInt ≤ y34.toInt := b56; omega))), (show y34.toInt ≤ t0_3.toInt from (by first | with_reducible exact q_fe b57 | (have t1 : y34.toInt ≤ t0_3.toInt := b57; omega))), (show t0_4.toInt ≤ y35.toInt from (by first | with_reducible exact q_fe b58 | (have t1 : t0_4.toInt ≤ y35.toInt := b58; omega))), (show y35.toInt ≤ t0_4.toInt from (by first | with_reducible exact q_fe b59 | (have t1 : y35.toInt ≤ t0_4.toInt := b59; omega))), (show t0_5.toInt ≤ y36.toInt from (by first | with_reducible exact q_fe b60 | (have t1 : t0_5.toInt ≤ y36.toInt := b60; omega))), (show y36.toInt ≤ t0_5.toInt from (by first | with_reducible exact q_fe b61 | (have t1 : y36.toInt ≤ t0_5.toInt := b61; omega))), (show t0_6.toInt ≤ y37.toInt from (by first | with_reducible exact q_fe b62 | (have t1 : t0_6.toInt ≤ y37.toInt := b62; omega))), (show y37.toInt ≤ t0_6.toInt from (by first | with_reducible exact q_fe b63 | (have t1 : y37.toInt ≤ t0_6.toInt := b63; omega))), (show t0_7.toInt ≤ y38.toInt from (by first | with_reducible exact q_fe b64 | (have t1 : t0_7.toInt ≤ y38.toInt := b64; omega))), (show y38.toInt ≤ t0_7.toInt from (by first | with_reducible exact q_fe b65 | (have t1 : y38.toInt ≤ t0_7.toInt := b65; omega))), (show (j126, y31, y32, y33, y34, y35, y36, y37, y38, y39, y40, y41, y42, y43, y44, f45) = (F_TR_sizeRead x2 x3 t0_0 t0_1 t0_2 t0_3 t0_4 t0_5 t0_6 t0_7 t0_8 t0_9 t0_10 t0_11 t0_12 t0_13 t1_0 t2_0) from Eq.trans (by have c91x := c91; rw [e84] at c91x; rw [← e127, ← e124, e85, e84, e83, e82, e81, e80, e79, e78, e77, e76, e75, e74, e73, e72, e71, F_TR_sizeRead_c49.eq_1, if_neg c91x, if_pos c116]) hR86)⟩) d_18_29_78
  ·
    refine lv_iload_n hx hb d_18_29_8 rfl (lv_at hl 1 rfl) ?_
    refine lv_bipush (v := 53) hx hb d_18_29_9 (by decide) ?_
    refine q_join (X := Int64) (fun z H locs ls _ => q_F (255 ≤ z.toInt) ∧ q_F (z.toInt ≤ 2047) ∧ q_Wd D g (va_A ws sz) s ws H locs ∧ lv_has ls 3 [(0, .ref (q 153)), (1, .int x2)] ∧ F_TR_sizeRead_J23 x2 x3 t0_0 t0_1 t0_2 t0_3 t0_4 t0_5 t0_6 t0_7 t0_8 t0_9 t0_10 t0_11 t0_12 t0_13 t1_0 t2_0 z = (F_TR_sizeRead x2 x3 t0_0 t0_1 t0_2 t0_3 t0_4 t0_5 t0_6 t0_7 t0_8 t0_9 t0_10 t0_11 t0_12 t0_13 t1_0 t2_0) ∧ True ∧ S_TR_sizeRead_J23 x2 x3 t0_0 t0_1 t0_2 t0_3 t0_4 t0_5 t0_6 t0_7 t0_8 t0_9 t0_10 t0_11 t0_12 t0_13 t1_0 t2_0 z) (fun z => [.long z]) 23 0 0 ?_ ?_
    ·
      rintro lx129 H locs ls _ hZ9
      replace hZ9 := hZ9.2.2
      obtain ⟨V, hZ9⟩ := hZ9
      obtain ⟨hl, hZ9⟩ := hZ9
      obtain ⟨hR136, hS137⟩ := hZ9
      replace hl : lv_has ls 3 [(0, .ref (q 153)), (1, .int x2)] := hl
      refine lv_iload_n hx hb d_18_29_23 rfl (lv_at hl 1 rfl) ?_
      refine lv_iconst (v := 1) hx hb d_18_29_24 (by decide) ?_
      refine lv_isub hx hb d_18_29_25 ?_
      obtain ⟨a141, e142⟩ := q_nm (x2 - 1 : Int32)
      refine q_ti (v := a141) e142 ?_
      refine lv_lshl hx hb d_18_29_26 rfl ?_
      obtain ⟨j143, e144⟩ := q_nm (lx129 <<< (a141.toInt64 &&& 63) : Int64)
      refine q_tl (v := j143) e144 ?_
      refine lv_aload_n hx hb d_18_29_27 rfl (lv_at hl 0 rfl) ?_
      refine q_get (ci := 16) (j := 3) (v := .int t0_2) C0 V i_TR rfl rfl hT0 (by decide) w_2143 rfl d_18_29_28 ?_
      refine lv_iconst (v := 3) hx hb d_18_29_31 (by decide) ?_
      refine lv_icmp_ne (tgt := 43) hx hb d_18_29_32 (by decide) (fun c145 => ?_) (fun c145 => ?_)
      ·
        refine lv_lconst (v := 0) hx hb d_18_29_43 (by decide) ?_
        refine lv_lor hx hb d_18_29_44 ?_
        obtain ⟨j147, e148⟩ := q_nm (j143 ||| 0 : Int64)
        refine q_tl (v := j147) e148 ?_
        exact q_retl C0 V (⟨hI, hF, t0_0, t0_1, t0_2, t0_3, t0_4, t0_5, t0_6, t0_7, t0_8, t0_9, t0_10, t0_11, t0_12, t0_13, t2_0, hT0, hT2, (show 0 ≤ t0_13.toInt from (by first | with_reducible exact (q_fe btt0_13).2 | with_reducible exact (q_fe btt0_13).1 | (have t1 : 0 ≤ t0_13.toInt ∧ t0_13.toInt ≤ 1 := btt0_13; omega))), (show t0_13.toInt ≤ 1 from (by first | with_reducible exact (q_fe btt0_13).2 | with_reducible exact (q_fe btt0_13).1 | (have t1 : 0 ≤ t0_13.toInt ∧ t0_13.toInt ≤ 1 := btt0_13; omega))), (show t0_0.toInt ≤ t0_0.toInt from (by omega)), (show t0_0.toInt ≤ t0_0.toInt from (by omega)), (show t0_1.toInt ≤ t0_1.toInt from (by omega)), (show t0_1.toInt ≤ t0_1.toInt from (by omega)), (show t0_2.toInt ≤ t0_2.toInt from (by omega)), (show t0_2.toInt ≤ t0_2.toInt from (by omega)), (show t0_3.toInt ≤ t0_3.toInt from (by omega)), (show t0_3.toInt ≤ t0_3.toInt from (by omega)), (show t0_4.toInt ≤ t0_4.toInt from (by omega)), (show t0_4.toInt ≤ t0_4.toInt from (by omega)), (show t0_5.toInt ≤ t0_5.toInt from (by omega)), (show t0_5.toInt ≤ t0_5.toInt from (by omega)), (show t0_6.toInt ≤ t0_6.toInt from (by omega)), (show t0_6.toInt ≤ t0_6.toInt from (by omega)), (show t0_7.toInt ≤ t0_7.toInt from (by omega)), (show t0_7.toInt ≤ t0_7.toInt from (by omega)), (show (j147, t0_0, t0_1, t0_2, t0_3, t0_4, t0_5, t0_6, t0_7, t0_8, t0_9, t0_10, t0_11, t0_12, t0_13, t2_0) = (F_TR_sizeRead x2 x3 t0_0 t0_1 t0_2 t0_3 t0_4 t0_5 t0_6 t0_7 t0_8 t0_9 t0_10 t0_11 t0_12 t0_13 t1_0 t2_0) from Eq.trans (by rw [← e148, ← e144, ← e142, F_TR_sizeRead_J23.eq_1, if_neg c145]) hR136)⟩) d_18_29_45
      ·
        refine lv_lconst (v := 1) hx hb d_18_29_35 (by decide) ?_
        refine lv_iload_n hx hb d_18_29_36 rfl (lv_at hl 1 rfl) ?_
        refine lv_iconst (v := 2) hx hb d_18_29_37 (by decide) ?_
        refine lv_isub hx hb d_18_29_38 ?_
        obtain ⟨a150, e151⟩ := q_nm (x2 - 2 : Int32)
        refine q_ti (v := a150) e151 ?_
        refine lv_lshl hx hb d_18_29_39 rfl ?_
        obtain ⟨j152, e153⟩ := q_nm ((1 : Int64) <<< (a150.toInt64 &&& 63) : Int64)
        refine q_tl (v := j152) e153 ?_
        refine lv_goto (tgt := 44) hx hb d_18_29_40 (by decide) ?_
        refine lv_lor hx hb d_18_29_44 ?_
        obtain ⟨j154, e155⟩ := q_nm (j143 ||| j152 : Int64)
        refine q_tl (v := j154) e155 ?_
        exact q_retl C0 V (⟨hI, hF, t0_0, t0_1, t0_2, t0_3, t0_4, t0_5, t0_6, t0_7, t0_8, t0_9, t0_10, t0_11, t0_12, t0_13, t2_0, hT0, hT2, (show 0 ≤ t0_13.toInt from (by first | with_reducible exact (q_fe btt0_13).2 | with_reducible exact (q_fe btt0_13).1 | (have t1 : 0 ≤ t0_13.toInt ∧ t0_13.toInt ≤ 1 := btt0_13; omega))), (show t0_13.toInt ≤ 1 from (by first | with_reducible exact (q_fe btt0_13).2 | with_reducible exact (q_fe btt0_13).1 | (have t1 : 0 ≤ t0_13.toInt ∧ t0_13.toInt ≤ 1 := btt0_13; omega))), (show t0_0.toInt ≤ t0_0.toInt from (by omega)), (show t0_0.toInt ≤ t0_0.toInt from (by omega)), (show t0_1.toInt ≤ t0_1.toInt from (by omega)), (show t0_1.toInt ≤ t0_1.toInt from (by omega)), (show t0_2.toInt ≤ t0_2.toInt from (by omega)), (show t0_2.toInt ≤ t0_2.toInt from (by omega)), (show t0_3.toInt ≤ t0_3.toInt from (by omega)), (show t0_3.toInt ≤ t0_3.toInt from (by omega)), (show t0_4.toInt ≤ t0_4.toInt from (by omega)), (show t0_4.toInt ≤ t0_4.toInt from (by omega)), (show t0_5.toInt ≤ t0_5.toInt from (by omega)), (show t0_5.toInt ≤ t0_5.toInt from (by omega)), (show t0_6.toInt ≤ t0_6.toInt from (by omega)), (show t0_6.toInt ≤ t0_6.toInt from (by omega)), (show t0_7.toInt ≤ t0_7.toInt from (by omega)), (show t0_7.toInt ≤ t0_7.toInt from (by omega)), (show (j154, t0_0, t0_1, t0_2, t0_3, t0_4, t0_5, t0_6, t0_7, t0_8, t0_9, t0_10, t0_11, t0_12, t0_13, t2_0) = (F_TR_sizeRead x2 x3 t0_0 t0_1 t0_2 t0_3 t0_4 t0_5 t0_6 t0_7 t0_8 t0_9 t0_10 t0_11 t0_12 t0_13 t1_0 t2_0) from Eq.trans (by rw [← e155, ← e153, ← e151, ← e144, ← e142, F_TR_sizeRead_J23.eq_1, if_pos c145]) hR136)⟩) d_18_29_45
    ·
      intro J133
      refine lv_icmp_ne (tgt := 20) hx hb d_18_29_11 (by decide) (fun c156 => ?_) (fun c156 => ?_)
      ·
        refine q_ldc2 C0 rfl w_2440 d_18_29_20 ?_
        exact J133 ((255 : Int64)) _ _ _ ws ⟨(show q_F (255 ≤ 255) from (show 255 ≤ 255 from by omega)), (show q_F (255 ≤ 2047) from (show 255 ≤ 2047 from by omega)), V, q_lw hl (q_lw1 0 rfl (q_lw1 1 rfl q_lw0)), (show F_TR_sizeRead_J23 x2 x3 t0_0 t0_1 t0_2 t0_3 t0_4 t0_5 t0_6 t0_7 t0_8 t0_9 t0_10 t0_11 t0_12 t0_13 t1_0 t2_0 255 = (F_TR_sizeRead x2 x3 t0_0 t0_1 t0_2 t0_3 t0_4 t0_5 t0_6 t0_7 t0_8 t0_9 t0_10 t0_11 t0_12 t0_13 t1_0 t2_0) from (by rw [F_TR_sizeRead.eq_1, if_neg c25, if_neg c156])), (show True ∧ S_TR_sizeRead_J23 x2 x3 t0_0 t0_1 t0_2 t0_3 t0_4 t0_5 t0_6 t0_7 t0_8 t0_9 t0_10 t0_11 t0_12 t0_13 t1_0 t2_0 255 from (by have h := hS; rw [S_TR_sizeRead.eq_1] at h; rw [if_neg c25] at h; rw [if_neg c156] at h; with_reducible exact h))⟩
      ·
        refine q_ldc2 C0 rfl w_2471 d_18_29_14 ?_
        refine lv_goto (tgt := 23) hx hb d_18_29_17 (by decide) ?_
        exact J133 ((2047 : Int64)) _ _ _ ws ⟨(show q_F (255 ≤ 2047) from (show 255 ≤ 2047 from by omega)), (show q_F (2047 ≤ 2047) from (show 2047 ≤ 2047 from by omega)), V, q_lw hl (q_lw1 0 rfl (q_lw1 1 rfl q_lw0)), (show F_TR_sizeRead_J23 x2 x3 t0_0 t0_1 t0_2 t0_3 t0_4 t0_5 t0_6 t0_7 t0_8 t0_9 t0_10 t0_11 t0_12 t0_13 t1_0 t2_0 2047 = (F_TR_sizeRead x2 x3 t0_0 t0_1 t0_2 t0_3 t0_4 t0_5 t0_6 t0_7 t0_8 t0_9 t0_10 t0_11 t0_12 t0_13 t1_0 t2_0) from (by rw [F_TR_sizeRead.eq_1, if_neg c25, if_pos c156])), (show True ∧ S_TR_sizeRead_J23 x2 x3 t0_0 t0_1 t0_2 t0_3 t0_4 t0_5 t0_6 t0_7 t0_8 t0_9 t0_10 t0_11 t0_12 t0_13 t1_0 t2_0 2047 from (by have h := hS; rw [S_TR_sizeRead.eq_1] at h; rw [if_neg c25] at h; rw [if_pos c156] at h; with_reducible exact h))⟩

theorem d_18_30_0 : decode prog_18_method_30_code 0 = .ok (.aload_n 0, 1) := by decide +kernel
theorem d_18_30_1 : decode prog_18_method_30_code 1 = .ok (.aload_n 0, 1) := by decide +kernel
theorem d_18_30_2 : decode prog_18_method_30_code 2 = .ok (.invokevirtual 92, 3) := by decide +kernel
set_option maxRecDepth 100000 in
theorem w_2426 : (Cond.code ({ cls := "NumberHouseModel$TextRows", name := "scan", desc := "()Z" } : MethodName) prog_18_method_16_code (2 : Nat) (some .boolean)) ∈ q_tbl := q_of11 26 rfl (by decide +kernel)
set_option maxRecDepth 100000 in
theorem w_2423 : (Cond.methodLink "NumberHouseModel$TextRows" (92 : Nat) ({ cls := "NumberHouseModel$TextRows", name := "scan", desc := "()Z" } : MethodName)) ∈ q_tbl := q_of11 23 rfl (by decide +kernel)
set_option maxRecDepth 100000 in
theorem w_2425 : (Cond.instanceMethod ({ cls := "NumberHouseModel$TextRows", name := "scan", desc := "()Z" } : MethodName)) ∈ q_tbl := q_of11 25 rfl (by decide +kernel)
theorem ws_65 : Cond.selects "NumberHouseModel$TextRows" (⟨"NumberHouseModel$TextRows", "scan", "()Z"⟩ : MethodName) (⟨"NumberHouseModel$TextRows", "scan", "()Z"⟩ : MethodName) ∈ q_tbl := q_ofs 65 (by decide +kernel) (by decide +kernel)
theorem LV_TR_92 : q_LV "NumberHouseModel$TextRows" 92 y_TR_scan prog_18_method_16_code 2 (some .boolean) 0 := ⟨w_2426, w_18, w_2423, w_2425, ws_65, ⟨by decide, by decide, by decide +kernel⟩⟩
theorem d_18_30_13 : decode prog_18_method_30_code 13 = .ok (.putfield 19, 3) := by decide +kernel
set_option maxRecDepth 100000 in
theorem w_2138 : (Cond.fieldLink "NumberHouseModel$TextRows" (19 : Nat) "NumberHouseModel$TextRows" "thrown" "I") ∈ q_tbl := q_of9 218 rfl (by decide +kernel)
theorem d_18_30_16 : decode prog_18_method_30_code 16 = .ok (.aload_n 0, 1) := by decide +kernel
theorem d_18_30_17 : decode prog_18_method_30_code 17 = .ok (.getfield 19, 3) := by decide +kernel
theorem d_18_30_20 : decode prog_18_method_30_code 20 = .ok (.ifCond .le 5, 3) := by decide +kernel
theorem d_18_30_25 : decode prog_18_method_30_code 25 = .ok (.aload_n 0, 1) := by decide +kernel
theorem d_18_30_26 : decode prog_18_method_30_code 26 = .ok (.bipush 53, 2) := by decide +kernel
theorem d_18_30_28 : decode prog_18_method_30_code 28 = .ok (.sipush (-1074), 3) := by decide +kernel
theorem d_18_30_31 : decode prog_18_method_30_code 31 = .ok (.invokevirtual 172, 3) := by decide +kernel
set_option maxRecDepth 100000 in
theorem w_2470 : (Cond.code ({ cls := "NumberHouseModel$TextRows", name := "sizeRead", desc := "(II)J" } : MethodName) prog_18_method_29_code (3 : Nat) (some .long)) ∈ q_tbl := q_of11 70 rfl (by decide +kernel)
set_option maxRecDepth 100000 in
theorem w_2467 : (Cond.methodLink "NumberHouseModel$TextRows" (172 : Nat) ({ cls := "NumberHouseModel$TextRows", name := "sizeRead", desc := "(II)J" } : MethodName)) ∈ q_tbl := q_of11 67 rfl (by decide +kernel)
set_option maxRecDepth 100000 in
theorem w_2469 : (Cond.instanceMethod ({ cls := "NumberHouseModel$TextRows", name := "sizeRead", desc := "(II)J" } : MethodName)) ∈ q_tbl := q_of11 69 rfl (by decide +kernel)
theorem ws_73 : Cond.selects "NumberHouseModel$TextRows" (⟨"NumberHouseModel$TextRows", "sizeRead", "(II)J"⟩ : MethodName) (⟨"NumberHouseModel$TextRows", "sizeRead", "(II)J"⟩ : MethodName) ∈ q_tbl := q_ofs 73 (by decide +kernel) (by decide +kernel)
theorem LV_TR_172 : q_LV "NumberHouseModel$TextRows" 172 y_TR_sizeRead prog_18_method_29_code 3 (some .long) 2 := ⟨w_2470, w_18, w_2467, w_2469, ws_73, ⟨by decide, by decide, by decide +kernel⟩⟩
theorem d_18_30_34 : decode prog_18_method_30_code 34 = .ok (.lstore_n 1, 1) := by decide +kernel
theorem d_18_30_35 : decode prog_18_method_30_code 35 = .ok (.aload_n 0, 1) := by decide +kernel
theorem d_18_30_36 : decode prog_18_method_30_code 36 = .ok (.getfield 77, 3) := by decide +kernel
theorem d_18_30_39 : decode prog_18_method_30_code 39 = .ok (.ifCond .eq 19, 3) := by decide +kernel
theorem d_18_30_58 : decode prog_18_method_30_code 58 = .ok (.lload_n 1, 1) := by decide +kernel
theorem d_18_30_59 : decode prog_18_method_30_code 59 = .ok (.lreturn, 1) := by decide +kernel
theorem d_18_30_42 : decode prog_18_method_30_code 42 = .ok (.aload_n 0, 1) := by decide +kernel
theorem d_18_30_43 : decode prog_18_method_30_code 43 = .ok (.getfield 59, 3) := by decide +kernel
theorem d_18_30_46 : decode prog_18_method_30_code 46 = .ok (.iconst 3, 1) := by decide +kernel
theorem d_18_30_47 : decode prog_18_method_30_code 47 = .ok (.if_icmp .ge 11, 3) := by decide +kernel
theorem d_18_30_50 : decode prog_18_method_30_code 50 = .ok (.lload_n 1, 1) := by decide +kernel
theorem d_18_30_51 : decode prog_18_method_30_code 51 = .ok (.ldc2_w 176, 3) := by decide +kernel
set_option maxRecDepth 100000 in
theorem w_2524 : (Cond.constantLong "NumberHouseModel$TextRows" (176 : Nat) (-9223372036854775808 : Int64)) ∈ q_tbl := q_of11 124 rfl (by decide +kernel)
theorem d_18_30_54 : decode prog_18_method_30_code 54 = .ok (.lor, 1) := by decide +kernel
theorem d_18_30_55 : decode prog_18_method_30_code 55 = .ok (.goto 4, 3) := by decide +kernel
theorem d_18_30_23 : decode prog_18_method_30_code 23 = .ok (.lconst 0, 1) := by decide +kernel
theorem d_18_30_24 : decode prog_18_method_30_code 24 = .ok (.lreturn, 1) := by decide +kernel
theorem d_18_30_5 : decode prog_18_method_30_code 5 = .ok (.ifCond .eq 7, 3) := by decide +kernel
theorem d_18_30_12 : decode prog_18_method_30_code 12 = .ok (.iconst 1, 1) := by decide +kernel
theorem d_18_30_8 : decode prog_18_method_30_code 8 = .ok (.iconst 0, 1) := by decide +kernel
theorem d_18_30_9 : decode prog_18_method_30_code 9 = .ok (.goto 4, 3) := by decide +kernel
def y_TR_bits : MethodName := ⟨"NumberHouseModel$TextRows", "bits", "()J"⟩
def F_TR_bits_c31 (t0_0 : Int32) (t0_1 : Int32) (t0_2 : Int32) (t0_3 : Int32) (t0_4 : Int32) (t0_5 : Int32) (t0_6 : Int32) (t0_7 : Int64) (t0_8 : Int32) (t0_9 : Int32) (t0_10 : Int64) (t0_11 : Int64) (t0_12 : Int32) (t0_13 : Int32) (t1_0 : (Nat → Int32)) (t2_0 : (Nat → Int32)) (t3_0 : (Nat → Int32)) (p73 : (Int32 × Int32 × Int32 × Int32 × Int32 × Int32 × Int32 × Int32 × Int64 × Int32 × Int32 × Int64 × Int64 × Int32 × Int32 × (Nat → Int32))) (y33 : Int32) (y34 : Int32) (y35 : Int32) (y36 : Int32) (y37 : Int32) (y38 : Int32) (y39 : Int32) (y40 : Int64) (y41 : Int32) (y42 : Int32) (y43 : Int64) (y44 : Int64) (y45 : Int32) (y46 : Int32) (f47 : (Nat → Int32)) (lx96 : Int32) (p154 : (Int64 × Int32 × Int32 × Int32 × Int32 × Int32 × Int32 × Int32 × Int64 × Int32 × Int32 × Int64 × Int64 × Int32 × Int32 × (Nat → Int32))) : Int64 × Int32 × Int32 × Int32 × Int32 × Int32 × Int32 × Int32 × Int64 × Int32 × Int32 × Int64 × Int64 × Int32 × Int32 × (Nat → Int32) × (Nat → Int32) := if (p154.2.2.2.2.2.1 : Int32) = (0 : Int32) then (((p154.1 : Int64), (p154.2.1 : Int32), (p154.2.2.1 : Int32), (p154.2.2.2.1 : Int32), (p154.2.2.2.2.1 : Int32), (p154.2.2.2.2.2.1 : Int32), (p154.2.2.2.2.2.2.1 : Int32), (p154.2.2.2.2.2.2.2.1 : Int32), (p154.2.2.2.2.2.2.2.2.1 : Int64), (p154.2.2.2.2.2.2.2.2.2.1 : Int32), (p154.2.2.2.2.2.2.2.2.2.2.1 : Int32), (p154.2.2.2.2.2.2.2.2.2.2.2.1 : Int64), (p154.2.2.2.2.2.2.2.2.2.2.2.2.1 : Int64), (p154.2.2.2.2.2.2.2.2.2.2.2.2.2.1 : Int32), (p154.2.2.2.2.2.2.2.2.2.2.2.2.2.2.1 : Int32), f47, (p154.2.2.2.2.2.2.2.2.2.2.2.2.2.2.2 : (Nat → Int32)))) else (if (3 : Int32) ≤ (p154.2.2.2.1 : Int32) then (((p154.1 : Int64), (p154.2.1 : Int32), (p154.2.2.1 : Int32), (p154.2.2.2.1 : Int32), (p154.2.2.2.2.1 : Int32), (p154.2.2.2.2.2.1 : Int32), (p154.2.2.2.2.2.2.1 : Int32), (p154.2.2.2.2.2.2.2.1 : Int32), (p154.2.2.2.2.2.2.2.2.1 : Int64), (p154.2.2.2.2.2.2.2.2.2.1 : Int32), (p154.2.2.2.2.2.2.2.2.2.2.1 : Int32), (p154.2.2.2.2.2.2.2.2.2.2.2.1 : Int64), (p154.2.2.2.2.2.2.2.2.2.2.2.2.1 : Int64), (p154.2.2.2.2.2.2.2.2.2.2.2.2.2.1 : Int32), (p154.2.2.2.2.2.2.2.2.2.2.2.2.2.2.1 : Int32), f47, (p154.2.2.2.2.2.2.2.2.2.2.2.2.2.2.2 : (Nat → Int32)))) else ((((p154.1 : Int64) ||| (-9223372036854775808) : Int64), (p154.2.1 : Int32), (p154.2.2.1 : Int32), (p154.2.2.2.1 : Int32), (p154.2.2.2.2.1 : Int32), (p154.2.2.2.2.2.1 : Int32), (p154.2.2.2.2.2.2.1 : Int32), (p154.2.2.2.2.2.2.2.1 : Int32), (p154.2.2.2.2.2.2.2.2.1 : Int64), (p154.2.2.2.2.2.2.2.2.2.1 : Int32), (p154.2.2.2.2.2.2.2.2.2.2.1 : Int32), (p154.2.2.2.2.2.2.2.2.2.2.2.1 : Int64), (p154.2.2.2.2.2.2.2.2.2.2.2.2.1 : Int64), (p154.2.2.2.2.2.2.2.2.2.2.2.2.2.1 : Int32), (p154.2.2.2.2.2.2.2.2.2.2.2.2.2.2.1 : Int32), f47, (p154.2.2.2.2.2.2.2.2.2.2.2.2.2.2.2 : (Nat → Int32)))))
def F_TR_bits_J13 (t0_0 : Int32) (t0_1 : Int32) (t0_2 : Int32) (t0_3 : Int32) (t0_4 : Int32) (t0_5 : Int32) (t0_6 : Int32) (t0_7 : Int64) (t0_8 : Int32) (t0_9 : Int32) (t0_10 : Int64) (t0_11 : Int64) (t0_12 : Int32) (t0_13 : Int32) (t1_0 : (Nat → Int32)) (t2_0 : (Nat → Int32)) (t3_0 : (Nat → Int32)) (p73 : (Int32 × Int32 × Int32 × Int32 × Int32 × Int32 × Int32 × Int32 × Int64 × Int32 × Int32 × Int64 × Int64 × Int32 × Int32 × (Nat → Int32))) (y33 : Int32) (y34 : Int32) (y35 : Int32) (y36 : Int32) (y37 : Int32) (y38 : Int32) (y39 : Int32) (y40 : Int64) (y41 : Int32) (y42 : Int32) (y43 : Int64) (y44 : Int64) (y45 : Int32) (y46 : Int32) (f47 : (Nat → Int32)) (lx96 : Int32) : Int64 × Int32 × Int32 × Int32 × Int32 × Int32 × Int32 × Int32 × Int64 × Int32 × Int32 × Int64 × Int64 × Int32 × Int32 × (Nat → Int32) × (Nat → Int32) := if lx96 ≤ (0 : Int32) then (F_TR_bits_c31 t0_0 t0_1 t0_2 t0_3 t0_4 t0_5 t0_6 t0_7 t0_8 t0_9 t0_10 t0_11 t0_12 t0_13 t1_0 t2_0 t3_0 p73 y33 y34 y35 y36 y37 y38 y39 y40 y41 y42 y43 y44 y45 y46 f47 lx96 ((F_TR_sizeRead (53 : Int32) (-1074 : Int32) lx96 y34 y35 y36 y37 y38 y39 y40 y41 y42 y43 y44 y45 y46 f47 t3_0) : (Int64 × Int32 × Int32 × Int32 × Int32 × Int32 × Int32 × Int32 × Int64 × Int32 × Int32 × Int64 × Int64 × Int32 × Int32 × (Nat → Int32)))) else (((0 : Int64), lx96, y34, y35, y36, y37, y38, y39, y40, y41, y42, y43, y44, y45, y46, f47, t3_0))
def F_TR_bits_c2 (t0_0 : Int32) (t0_1 : Int32) (t0_2 : Int32) (t0_3 : Int32) (t0_4 : Int32) (t0_5 : Int32) (t0_6 : Int32) (t0_7 : Int64) (t0_8 : Int32) (t0_9 : Int32) (t0_10 : Int64) (t0_11 : Int64) (t0_12 : Int32) (t0_13 : Int32) (t1_0 : (Nat → Int32)) (t2_0 : (Nat → Int32)) (t3_0 : (Nat → Int32)) (p73 : (Int32 × Int32 × Int32 × Int32 × Int32 × Int32 × Int32 × Int32 × Int64 × Int32 × Int32 × Int64 × Int64 × Int32 × Int32 × (Nat → Int32))) : Int64 × Int32 × Int32 × Int32 × Int32 × Int32 × Int32 × Int32 × Int64 × Int32 × Int32 × Int64 × Int64 × Int32 × Int32 × (Nat → Int32) × (Nat → Int32) := if (p73.1 : Int32) = (0 : Int32) then (F_TR_bits_J13 t0_0 t0_1 t0_2 t0_3 t0_4 t0_5 t0_6 t0_7 t0_8 t0_9 t0_10 t0_11 t0_12 t0_13 t1_0 t2_0 t3_0 p73 (p73.2.1 : Int32) (p73.2.2.1 : Int32) (p73.2.2.2.1 : Int32) (p73.2.2.2.2.1 : Int32) (p73.2.2.2.2.2.1 : Int32) (p73.2.2.2.2.2.2.1 : Int32) (p73.2.2.2.2.2.2.2.1 : Int32) (p73.2.2.2.2.2.2.2.2.1 : Int64) (p73.2.2.2.2.2.2.2.2.2.1 : Int32) (p73.2.2.2.2.2.2.2.2.2.2.1 : Int32) (p73.2.2.2.2.2.2.2.2.2.2.2.1 : Int64) (p73.2.2.2.2.2.2.2.2.2.2.2.2.1 : Int64) (p73.2.2.2.2.2.2.2.2.2.2.2.2.2.1 : Int32) (p73.2.2.2.2.2.2.2.2.2.2.2.2.2.2.1 : Int32) (p73.2.2.2.2.2.2.2.2.2.2.2.2.2.2.2 : (Nat → Int32)) 1) else (F_TR_bits_J13 t0_0 t0_1 t0_2 t0_3 t0_4 t0_5 t0_6 t0_7 t0_8 t0_9 t0_10 t0_11 t0_12 t0_13 t1_0 t2_0 t3_0 p73 (p73.2.1 : Int32) (p73.2.2.1 : Int32) (p73.2.2.2.1 : Int32) (p73.2.2.2.2.1 : Int32) (p73.2.2.2.2.2.1 : Int32) (p73.2.2.2.2.2.2.1 : Int32) (p73.2.2.2.2.2.2.2.1 : Int32) (p73.2.2.2.2.2.2.2.2.1 : Int64) (p73.2.2.2.2.2.2.2.2.2.1 : Int32) (p73.2.2.2.2.2.2.2.2.2.2.1 : Int32) (p73.2.2.2.2.2.2.2.2.2.2.2.1 : Int64) (p73.2.2.2.2.2.2.2.2.2.2.2.2.1 : Int64) (p73.2.2.2.2.2.2.2.2.2.2.2.2.2.1 : Int32) (p73.2.2.2.2.2.2.2.2.2.2.2.2.2.2.1 : Int32) (p73.2.2.2.2.2.2.2.2.2.2.2.2.2.2.2 : (Nat → Int32)) 0)
def F_TR_bits (t0_0 : Int32) (t0_1 : Int32) (t0_2 : Int32) (t0_3 : Int32) (t0_4 : Int32) (t0_5 : Int32) (t0_6 : Int32) (t0_7 : Int64) (t0_8 : Int32) (t0_9 : Int32) (t0_10 : Int64) (t0_11 : Int64) (t0_12 : Int32) (t0_13 : Int32) (t1_0 : (Nat → Int32)) (t2_0 : (Nat → Int32)) (t3_0 : (Nat → Int32)) : Int64 × Int32 × Int32 × Int32 × Int32 × Int32 × Int32 × Int32 × Int64 × Int32 × Int32 × Int64 × Int64 × Int32 × Int32 × (Nat → Int32) × (Nat → Int32) := F_TR_bits_c2 t0_0 t0_1 t0_2 t0_3 t0_4 t0_5 t0_6 t0_7 t0_8 t0_9 t0_10 t0_11 t0_12 t0_13 t1_0 t2_0 t3_0 ((F_TR_scan t0_0 t0_1 t0_2 t0_3 t0_4 t0_5 t0_6 t0_7 t0_8 t0_9 t0_10 t0_11 t0_12 t0_13 t1_0 t2_0) : (Int32 × Int32 × Int32 × Int32 × Int32 × Int32 × Int32 × Int32 × Int64 × Int32 × Int32 × Int64 × Int64 × Int32 × Int32 × (Nat → Int32)))
def S_TR_bits_c31 (t0_0 : Int32) (t0_1 : Int32) (t0_2 : Int32) (t0_3 : Int32) (t0_4 : Int32) (t0_5 : Int32) (t0_6 : Int32) (t0_7 : Int64) (t0_8 : Int32) (t0_9 : Int32) (t0_10 : Int64) (t0_11 : Int64) (t0_12 : Int32) (t0_13 : Int32) (t1_0 : (Nat → Int32)) (t2_0 : (Nat → Int32)) (t3_0 : (Nat → Int32)) (p73 : (Int32 × Int32 × Int32 × Int32 × Int32 × Int32 × Int32 × Int32 × Int64 × Int32 × Int32 × Int64 × Int64 × Int32 × Int32 × (Nat → Int32))) (y33 : Int32) (y34 : Int32) (y35 : Int32) (y36 : Int32) (y37 : Int32) (y38 : Int32) (y39 : Int32) (y40 : Int64) (y41 : Int32) (y42 : Int32) (y43 : Int64) (y44 : Int64) (y45 : Int32) (y46 : Int32) (f47 : (Nat → Int32)) (lx96 : Int32) (p154 : (Int64 × Int32 × Int32 × Int32 × Int32 × Int32 × Int32 × Int32 × Int64 × Int32 × Int32 × Int64 × Int64 × Int32 × Int32 × (Nat → Int32))) : Prop := if (p154.2.2.2.2.2.1 : Int32) = (0 : Int32) then (True) else (if (3 : Int32) ≤ (p154.2.2.2.1 : Int32) then (True) else (True))
def S_TR_bits_J13 (t0_0 : Int32) (t0_1 : Int32) (t0_2 : Int32) (t0_3 : Int32) (t0_4 : Int32) (t0_5 : Int32) (t0_6 : Int32) (t0_7 : Int64) (t0_8 : Int32) (t0_9 : Int32) (t0_10 : Int64) (t0_11 : Int64) (t0_12 : Int32) (t0_13 : Int32) (t1_0 : (Nat → Int32)) (t2_0 : (Nat → Int32)) (t3_0 : (Nat → Int32)) (p73 : (Int32 × Int32 × Int32 × Int32 × Int32 × Int32 × Int32 × Int32 × Int64 × Int32 × Int32 × Int64 × Int64 × Int32 × Int32 × (Nat → Int32))) (y33 : Int32) (y34 : Int32) (y35 : Int32) (y36 : Int32) (y37 : Int32) (y38 : Int32) (y39 : Int32) (y40 : Int64) (y41 : Int32) (y42 : Int32) (y43 : Int64) (y44 : Int64) (y45 : Int32) (y46 : Int32) (f47 : (Nat → Int32)) (lx96 : Int32) : Prop := if lx96 ≤ (0 : Int32) then ((True ∧ S_TR_sizeRead (53 : Int32) (-1074 : Int32) lx96 y34 y35 y36 y37 y38 y39 y40 y41 y42 y43 y44 y45 y46 f47 t3_0) ∧ (S_TR_bits_c31 t0_0 t0_1 t0_2 t0_3 t0_4 t0_5 t0_6 t0_7 t0_8 t0_9 t0_10 t0_11 t0_12 t0_13 t1_0 t2_0 t3_0 p73 y33 y34 y35 y36 y37 y38 y39 y40 y41 y42 y43 y44 y45 y46 f47 lx96 ((F_TR_sizeRead (53 : Int32) (-1074 : Int32) lx96 y34 y35 y36 y37 y38 y39 y40 y41 y42 y43 y44 y45 y46 f47 t3_0) : (Int64 × Int32 × Int32 × Int32 × Int32 × Int32 × Int32 × Int32 × Int64 × Int32 × Int32 × Int64 × Int64 × Int32 × Int32 × (Nat → Int32))))) else (True)
def S_TR_bits_c2 (t0_0 : Int32) (t0_1 : Int32) (t0_2 : Int32) (t0_3 : Int32) (t0_4 : Int32) (t0_5 : Int32) (t0_6 : Int32) (t0_7 : Int64) (t0_8 : Int32) (t0_9 : Int32) (t0_10 : Int64) (t0_11 : Int64) (t0_12 : Int32) (t0_13 : Int32) (t1_0 : (Nat → Int32)) (t2_0 : (Nat → Int32)) (t3_0 : (Nat → Int32)) (p73 : (Int32 × Int32 × Int32 × Int32 × Int32 × Int32 × Int32 × Int32 × Int64 × Int32 × Int32 × Int64 × Int64 × Int32 × Int32 × (Nat → Int32))) : Prop := if (p73.1 : Int32) = (0 : Int32) then (S_TR_bits_J13 t0_0 t0_1 t0_2 t0_3 t0_4 t0_5 t0_6 t0_7 t0_8 t0_9 t0_10 t0_11 t0_12 t0_13 t1_0 t2_0 t3_0 p73 (p73.2.1 : Int32) (p73.2.2.1 : Int32) (p73.2.2.2.1 : Int32) (p73.2.2.2.2.1 : Int32) (p73.2.2.2.2.2.1 : Int32) (p73.2.2.2.2.2.2.1 : Int32) (p73.2.2.2.2.2.2.2.1 : Int32) (p73.2.2.2.2.2.2.2.2.1 : Int64) (p73.2.2.2.2.2.2.2.2.2.1 : Int32) (p73.2.2.2.2.2.2.2.2.2.2.1 : Int32) (p73.2.2.2.2.2.2.2.2.2.2.2.1 : Int64) (p73.2.2.2.2.2.2.2.2.2.2.2.2.1 : Int64) (p73.2.2.2.2.2.2.2.2.2.2.2.2.2.1 : Int32) (p73.2.2.2.2.2.2.2.2.2.2.2.2.2.2.1 : Int32) (p73.2.2.2.2.2.2.2.2.2.2.2.2.2.2.2 : (Nat → Int32)) 1) else (S_TR_bits_J13 t0_0 t0_1 t0_2 t0_3 t0_4 t0_5 t0_6 t0_7 t0_8 t0_9 t0_10 t0_11 t0_12 t0_13 t1_0 t2_0 t3_0 p73 (p73.2.1 : Int32) (p73.2.2.1 : Int32) (p73.2.2.2.1 : Int32) (p73.2.2.2.2.1 : Int32) (p73.2.2.2.2.2.1 : Int32) (p73.2.2.2.2.2.2.1 : Int32) (p73.2.2.2.2.2.2.2.1 : Int32) (p73.2.2.2.2.2.2.2.2.1 : Int64) (p73.2.2.2.2.2.2.2.2.2.1 : Int32) (p73.2.2.2.2.2.2.2.2.2.2.1 : Int32) (p73.2.2.2.2.2.2.2.2.2.2.2.1 : Int64) (p73.2.2.2.2.2.2.2.2.2.2.2.2.1 : Int64) (p73.2.2.2.2.2.2.2.2.2.2.2.2.2.1 : Int32) (p73.2.2.2.2.2.2.2.2.2.2.2.2.2.2.1 : Int32) (p73.2.2.2.2.2.2.2.2.2.2.2.2.2.2.2 : (Nat → Int32)) 0)
def S_TR_bits (t0_0 : Int32) (t0_1 : Int32) (t0_2 : Int32) (t0_3 : Int32) (t0_4 : Int32) (t0_5 : Int32) (t0_6 : Int32) (t0_7 : Int64) (t0_8 : Int32) (t0_9 : Int32) (t0_10 : Int64) (t0_11 : Int64) (t0_12 : Int32) (t0_13 : Int32) (t1_0 : (Nat → Int32)) (t2_0 : (Nat → Int32)) (t3_0 : (Nat → Int32)) : Prop := (True ∧ S_TR_scan t0_0 t0_1 t0_2 t0_3 t0_4 t0_5 t0_6 t0_7 t0_8 t0_9 t0_10 t0_11 t0_12 t0_13 t1_0 t2_0) ∧ (S_TR_bits_c2 t0_0 t0_1 t0_2 t0_3 t0_4 t0_5 t0_6 t0_7 t0_8 t0_9 t0_10 t0_11 t0_12 t0_13 t1_0 t2_0 t3_0 ((F_TR_scan t0_0 t0_1 t0_2 t0_3 t0_4 t0_5 t0_6 t0_7 t0_8 t0_9 t0_10 t0_11 t0_12 t0_13 t1_0 t2_0) : (Int32 × Int32 × Int32 × Int32 × Int32 × Int32 × Int32 × Int32 × Int64 × Int32 × Int32 × Int64 × Int64 × Int32 × Int32 × (Nat → Int32))))
set_option maxRecDepth 100000 in
set_option maxHeartbeats 4000000 in
theorem X_TR_bits (l : Launch) (D : va_G) (g : Nat → ClassId) (q : Nat → Nat) (ws : va_W) (hI : q_I (msh g q) q ws) (t0_0 : Int32) (t0_1 : Int32) (t0_2 : Int32) (t0_3 : Int32) (t0_4 : Int32) (t0_5 : Int32) (t0_6 : Int32) (t0_7 : Int64) (t0_8 : Int32) (t0_9 : Int32) (t0_10 : Int64) (t0_11 : Int64) (t0_12 : Int32) (t0_13 : Int32) (hT0 : ws[153]? = (some (q 153, .inr (16, [.int t0_0, .ref (q 154), .int t0_1, .int t0_2, .int t0_3, .int t0_4, .ref (q 155), .int t0_5, .int t0_6, .long t0_7, .ref (q 156), .int t0_8, .int t0_9, .long t0_10, .long t0_11, .int t0_12, .int t0_13])) : Option (Nat × va_E))) (t1_0 : (Nat → Int32)) (hT1 : ws[154]? = (some (q 154, .inl (g 0, (4100 : Int32).toNatClampNeg, .inl t1_0)) : Option (Nat × va_E))) (t2_0 : (Nat → Int32)) (hT2 : ws[155]? = (some (q 155, .inl (g 0, (4100 : Int32).toNatClampNeg, .inl t2_0)) : Option (Nat × va_E))) (t3_0 : (Nat → Int32)) (hT3 : ws[156]? = (some (q 156, .inl (g 0, (800 : Int32).toNatClampNeg, .inl t3_0)) : Option (Nat × va_E))) (hS : True ∧ S_TR_bits t0_0 t0_1 t0_2 t0_3 t0_4 t0_5 t0_6 t0_7 t0_8 t0_9 t0_10 t0_11 t0_12 t0_13 t1_0 t2_0 t3_0) : q_mL l y_TR_bits prog_18_method_30_code 3 6 0 0 D g [.ref (q 153)] ws (fun r u => q_I (msh g q) q u ∧ q_un ws u [153, 155, 156] ∧ ∃ (u0_0 : Int32) (u0_1 : Int32) (u0_2 : Int32) (u0_3 : Int32) (u0_4 : Int32) (u0_5 : Int32) (u0_6 : Int32) (u0_7 : Int64) (u0_8 : Int32) (u0_9 : Int32) (u0_10 : Int64) (u0_11 : Int64) (u0_12 : Int32) (u0_13 : Int32) (u2_0 : (Nat → Int32)) (u3_0 : (Nat → Int32)), u[153]? = (some (q 153, .inr (16, [.int u0_0, .ref (q 154), .int u0_1, .int u0_2, .int u0_3, .int u0_4, .ref (q 155), .int u0_5, .int u0_6, .long u0_7, .ref (q 156), .int u0_8, .int u0_9, .long u0_10, .long u0_11, .int u0_12, .int u0_13])) : Option (Nat × va_E)) ∧ u[155]? = (some (q 155, .inl (g 0, (4100 : Int32).toNatClampNeg, .inl u2_0)) : Option (Nat × va_E)) ∧ u[156]? = (some (q 156, .inl (g 0, (800 : Int32).toNatClampNeg, .inl u3_0)) : Option (Nat × va_E)) ∧ (0 ≤ u0_0.toInt) ∧ (u0_0.toInt ≤ 1) ∧ (0 ≤ u0_2.toInt) ∧ (u0_2.toInt ≤ 3) ∧ (0 ≤ u0_4.toInt) ∧ (u0_4.toInt ≤ 1) ∧ (0 ≤ u0_13.toInt) ∧ (u0_13.toInt ≤ 1) ∧ (t0_1.toInt ≤ u0_1.toInt) ∧ (u0_1.toInt ≤ t0_1.toInt) ∧ (r, u0_0, u0_1, u0_2, u0_3, u0_4, u0_5, u0_6, u0_7, u0_8, u0_9, u0_10, u0_11, u0_12, u0_13, u2_0, u3_0) = (F_TR_bits t0_0 t0_1 t0_2 t0_3 t0_4 t0_5 t0_6 t0_7 t0_8 t0_9 t0_10 t0_11 t0_12 t0_13 t1_0 t2_0 t3_0)) := by
  intro sz
  refine q_into (by decide) (Nat.le_of_ble_eq_true rfl) ?_
  intro p e s m below meth c ls hsz C0 V hl
  have hx := C0.1
  have hb := C0.2.1
  obtain ⟨btt0_1, hZ9⟩ := n_w153 hI hT0
  obtain ⟨-, btt0_13⟩ := hZ9
  replace btt0_1 : q_F (0 ≤ t0_1.toInt ∧ t0_1.toInt ≤ 4100) := btt0_1
  replace btt0_13 : q_F (0 ≤ t0_13.toInt ∧ t0_13.toInt ≤ 1) := btt0_13
  have hF : q_un ws ws [153, 155, 156] := q_u0
  have hl : lv_has ls 3 [(0, .ref (q 153))] := hl
  refine lv_aload_n hx hb d_18_30_0 rfl (lv_at hl 0 rfl) ?_
  refine lv_aload_n hx hb d_18_30_1 rfl (lv_at hl 0 rfl) ?_
  have ob28 : True ∧ S_TR_scan t0_0 t0_1 t0_2 t0_3 t0_4 t0_5 t0_6 t0_7 t0_8 t0_9 t0_10 t0_11 t0_12 t0_13 t1_0 t2_0 := (by have h := hS; rw [S_TR_bits.eq_1] at h; with_reducible exact h.2.1)
  refine q_goi V (q_runV (As := []) (rest := [.ref (q 153)]) (d := 5) (mc := 0) (ms := 0) (ci := 16) C0 V rfl LV_TR_92 (X_TR_scan l D g q ws   hI t0_0 t0_1 t0_2 t0_3 t0_4 t0_5 t0_6 t0_7 t0_8 t0_9 t0_10 t0_11 t0_12 t0_13 hT0 t1_0 hT1 t2_0 hT2 ob28 _) rfl rfl hT0 rfl hl.1 rfl (Nat.le_of_ble_eq_true rfl) ⟨by decide, by decide⟩ ⟨Nat.le_of_ble_eq_true rfl, Nat.le_of_ble_eq_true rfl⟩ d_18_30_2) (fun a31 u29 H locs hp30 V => ?_)
  obtain ⟨hI, hZ9⟩ := hp30
  obtain ⟨hu72, hZ9⟩ := hZ9
  obtain ⟨y33, hZ9⟩ := hZ9
  obtain ⟨y34, hZ9⟩ := hZ9
  obtain ⟨y35, hZ9⟩ := hZ9
  obtain ⟨y36, hZ9⟩ := hZ9
  obtain ⟨y37, hZ9⟩ := hZ9
  obtain ⟨y38, hZ9⟩ := hZ9
  obtain ⟨y39, hZ9⟩ := hZ9
  obtain ⟨y40, hZ9⟩ := hZ9
  obtain ⟨y41, hZ9⟩ := hZ9
  obtain ⟨y42, hZ9⟩ := hZ9
  obtain ⟨y43, hZ9⟩ := hZ9
  obtain ⟨y44, hZ9⟩ := hZ9
  obtain ⟨y45, hZ9⟩ := hZ9
  obtain ⟨y46, hZ9⟩ := hZ9
  obtain ⟨f47, hZ9⟩ := hZ9
  obtain ⟨hO32, hZ9⟩ := hZ9
  obtain ⟨hA48, hZ9⟩ := hZ9
  replace hZ9 := hZ9.2.2
  obtain ⟨b51, hZ9⟩ := hZ9
  obtain ⟨b52, hZ9⟩ := hZ9
  obtain ⟨b53, hZ9⟩ := hZ9
  obtain ⟨b54, hZ9⟩ := hZ9
  replace hZ9 := hZ9.2.2
  obtain ⟨b57, hZ9⟩ := hZ9
  obtain ⟨b58, hZ9⟩ := hZ9
  replace hZ9 := hZ9.2.2.2.2.2.2.2.2.2.2
  obtain ⟨b69, hZ9⟩ := hZ9
  obtain ⟨b70, hE71⟩ := hZ9
  replace hO32 : u29[153]? = (some (q 153, .inr (16, [.int y33, .ref (q 154), .int y34, .int y35, .int y36, .int y37, .ref (q 155), .int y38, .int y39, .long y40, .ref (q 156), .int y41, .int y42, .long y43, .long y44, .int y45, .int y46])) : Option (Nat × va_E)) := hO32
  replace hA48 : u29[155]? = (some (q 155, .inl (g 0, (4100 : Int32).toNatClampNeg, .inl f47)) : Option (Nat × va_E)) := hA48
  obtain ⟨p73, e74⟩ : ∃ z, z = (F_TR_scan t0_0 t0_1 t0_2 t0_3 t0_4 t0_5 t0_6 t0_7 t0_8 t0_9 t0_10 t0_11 t0_12 t0_13 t1_0 t2_0) := ⟨_, rfl⟩
  have e75 : a31 = p73.1 := congrArg (fun z => z.1) (hE71.trans e74.symm)
  have e76 : y33 = p73.2.1 := congrArg (fun z => z.2.1) (hE71.trans e74.symm)
  have e77 : y34 = p73.2.2.1 := congrArg (fun z => z.2.2.1) (hE71.trans e74.symm)
  have e78 : y35 = p73.2.2.2.1 := congrArg (fun z => z.2.2.2.1) (hE71.trans e74.symm)
  have e79 : y36 = p73.2.2.2.2.1 := congrArg (fun z => z.2.2.2.2.1) (hE71.trans e74.symm)
  have e80 : y37 = p73.2.2.2.2.2.1 := congrArg (fun z => z.2.2.2.2.2.1) (hE71.trans e74.symm)
  have e81 : y38 = p73.2.2.2.2.2.2.1 := congrArg (fun z => z.2.2.2.2.2.2.1) (hE71.trans e74.symm)
  have e82 : y39 = p73.2.2.2.2.2.2.2.1 := congrArg (fun z => z.2.2.2.2.2.2.2.1) (hE71.trans e74.symm)
  have e83 : y40 = p73.2.2.2.2.2.2.2.2.1 := congrArg (fun z => z.2.2.2.2.2.2.2.2.1) (hE71.trans e74.symm)
  have e84 : y41 = p73.2.2.2.2.2.2.2.2.2.1 := congrArg (fun z => z.2.2.2.2.2.2.2.2.2.1) (hE71.trans e74.symm)
  have e85 : y42 = p73.2.2.2.2.2.2.2.2.2.2.1 := congrArg (fun z => z.2.2.2.2.2.2.2.2.2.2.1) (hE71.trans e74.symm)
  have e86 : y43 = p73.2.2.2.2.2.2.2.2.2.2.2.1 := congrArg (fun z => z.2.2.2.2.2.2.2.2.2.2.2.1) (hE71.trans e74.symm)
  have e87 : y44 = p73.2.2.2.2.2.2.2.2.2.2.2.2.1 := congrArg (fun z => z.2.2.2.2.2.2.2.2.2.2.2.2.1) (hE71.trans e74.symm)
  have e88 : y45 = p73.2.2.2.2.2.2.2.2.2.2.2.2.2.1 := congrArg (fun z => z.2.2.2.2.2.2.2.2.2.2.2.2.2.1) (hE71.trans e74.symm)
  have e89 : y46 = p73.2.2.2.2.2.2.2.2.2.2.2.2.2.2.1 := congrArg (fun z => z.2.2.2.2.2.2.2.2.2.2.2.2.2.2.1) (hE71.trans e74.symm)
  have e90 : f47 = p73.2.2.2.2.2.2.2.2.2.2.2.2.2.2.2 := congrArg (fun z => z.2.2.2.2.2.2.2.2.2.2.2.2.2.2.2) (hE71.trans e74.symm)
  replace b51 : q_F (0 ≤ y35.toInt) := b51
  replace b52 : q_F (y35.toInt ≤ 3) := b52
  replace b53 : q_F (0 ≤ y37.toInt) := b53
  replace b54 : q_F (y37.toInt ≤ 1) := b54
  replace b57 : q_F (t0_1.toInt ≤ y34.toInt) := b57
  replace b58 : q_F (y34.toInt ≤ t0_1.toInt) := b58
  replace b69 : q_F (t0_13.toInt ≤ y46.toInt) := b69
  replace b70 : q_F (y46.toInt ≤ t0_13.toInt) := b70
  replace hT3 := (hu72 _ (by decide)).trans hT3
  replace hF := q_uc hF hu72 (by simp)
  have hR91 := (show F_TR_bits_c2 t0_0 t0_1 t0_2 t0_3 t0_4 t0_5 t0_6 t0_7 t0_8 t0_9 t0_10 t0_11 t0_12 t0_13 t1_0 t2_0 t3_0 p73 = (F_TR_bits t0_0 t0_1 t0_2 t0_3 t0_4 t0_5 t0_6 t0_7 t0_8 t0_9 t0_10 t0_11 t0_12 t0_13 t1_0 t2_0 t3_0) from (by rw [e74, F_TR_bits.eq_1]))
  have hS92 := (show True ∧ S_TR_bits_c2 t0_0 t0_1 t0_2 t0_3 t0_4 t0_5 t0_6 t0_7 t0_8 t0_9 t0_10 t0_11 t0_12 t0_13 t1_0 t2_0 t3_0 p73 from (by rw [e74]; have h := hS; rw [S_TR_bits.eq_1] at h; replace h := q_s2 h; with_reducible exact h))
  refine q_join (X := Int32) (fun z H locs ls _ => q_F (0 ≤ z.toInt) ∧ q_F (z.toInt ≤ 1) ∧ q_Wd D g (va_A ws sz) s u29 H locs ∧ lv_has ls 3 [(0, .ref (q 153))] ∧ F_TR_bits_J13 t0_0 t0_1 t0_2 t0_3 t0_4 t0_5 t0_6 t0_7 t0_8 t0_9 t0_10 t0_11 t0_12 t0_13 t1_0 t2_0 t3_0 p73 y33 y34 y35 y36 y37 y38 y39 y40 y41 y42 y43 y44 y45 y46 f47 z = (F_TR_bits t0_0 t0_1 t0_2 t0_3 t0_4 t0_5 t0_6 t0_7 t0_8 t0_9 t0_10 t0_11 t0_12 t0_13 t1_0 t2_0 t3_0) ∧ True ∧ S_TR_bits_J13 t0_0 t0_1 t0_2 t0_3 t0_4 t0_5 t0_6 t0_7 t0_8 t0_9 t0_10 t0_11 t0_12 t0_13 t1_0 t2_0 t3_0 p73 y33 y34 y35 y36 y37 y38 y39 y40 y41 y42 y43 y44 y45 y46 f47 z) (fun z => [.int z, .ref (q 153)]) 13 0 0 ?_ ?_
  ·
    rintro lx96 H locs ls _ hZ9
    obtain ⟨i102, hZ9⟩ := hZ9
    obtain ⟨i103, hZ9⟩ := hZ9
    obtain ⟨V, hZ9⟩ := hZ9
    obtain ⟨hl, hZ9⟩ := hZ9
    obtain ⟨hR104, hS105⟩ := hZ9
    replace i102 : q_F (0 ≤ lx96.toInt) := i102
    replace i103 : q_F (lx96.toInt ≤ 1) := i103
    replace hl : lv_has ls 3 [(0, .ref (q 153))] := hl
    refine q_put (ci := 16) (j := 0) (v := .int lx96) (ty := .int) C0 V i_TR o_TR n_TR rfl rfl hO32 (by decide) w_2138 rfl rfl rfl rfl (Nat.le_of_ble_eq_true rfl) d_18_30_13 (fun H locs w109 hu110 hO32 V => ?_)
    replace hO32 : w109[153]? = (some (q 153, .inr (16, [.int lx96, .ref (q 154), .int y34, .int y35, .int y36, .int y37, .ref (q 155), .int y38, .int y39, .long y40, .ref (q 156), .int y41, .int y42, .long y43, .long y44, .int y45, .int y46])) : Option (Nat × va_E)) := hO32
    replace hI := n_p153 hI hu110 hO32 ⟨(by have t1 : 0 ≤ t0_1.toInt ∧ t0_1.toInt ≤ 4100 := btt0_1; have t2 : t0_1.toInt ≤ y34.toInt := b57; omega), (by have t1 : 0 ≤ t0_1.toInt ∧ t0_1.toInt ≤ 4100 := btt0_1; have t2 : y34.toInt ≤ t0_1.toInt := b58; omega)⟩ ⟨(by first | with_reducible exact q_fe b53 | (have t1 : 0 ≤ y37.toInt := b53; omega)), (by first | with_reducible exact q_fe b54 | (have t1 : y37.toInt ≤ 1 := b54; omega))⟩ ⟨(by have t1 : 0 ≤ t0_13.toInt ∧ t0_13.toInt ≤ 1 := btt0_13; have t2 : t0_13.toInt ≤ y46.toInt := b69; omega), (by have t1 : 0 ≤ t0_13.toInt ∧ t0_13.toInt ≤ 1 := btt0_13; have t2 : y46.toInt ≤ t0_13.toInt := b70; omega)⟩
    replace hA48 := (hu110 _ (by decide)).trans hA48
    replace hT3 := (hu110 _ (by decide)).trans hT3
    replace hF := q_us hF hu110 (by simp)
    refine lv_aload_n hx hb d_18_30_16 rfl (lv_at hl 0 rfl) ?_
    refine q_get (ci := 16) (j := 0) (v := .int lx96) C0 V i_TR rfl rfl hO32 (by decide) w_2138 rfl d_18_30_17 ?_
    refine lv_if_le (tgt := 25) hx hb d_18_30_20 (by decide) (fun c111 => ?_) (fun c111 => ?_)
    ·
      refine lv_aload_n hx hb d_18_30_25 rfl (lv_at hl 0 rfl) ?_
      refine lv_bipush (v := 53) hx hb d_18_30_26 (by decide) ?_
      refine lv_sipush (v := (-1074)) hx hb d_18_30_28 (by decide) ?_
      have ob113 : True ∧ S_TR_sizeRead (53 : Int32) (-1074 : Int32) lx96 y34 y35 y36 y37 y38 y39 y40 y41 y42 y43 y44 y45 y46 f47 t3_0 := (by have h := hS105; rw [S_TR_bits_J13.eq_1] at h; rw [if_pos c111] at h; with_reducible exact h.2.1)
      refine q_gol V (q_runV (As := [.int 53, .int (-1074)]) (rest := []) (d := 4) (mc := 0) (ms := 0) (ci := 16) C0 V rfl LV_TR_172 (X_TR_sizeRead l D g q w109  53 (-1074) hI lx96 y34 y35 y36 y37 y38 y39 y40 y41 y42 y43 y44 y45 y46 hO32 f47 hA48 t3_0 hT3 ob113 _) rfl rfl hO32 rfl hl.1 rfl (Nat.le_of_ble_eq_true rfl) ⟨by decide, by decide⟩ ⟨Nat.le_of_ble_eq_true rfl, Nat.le_of_ble_eq_true rfl⟩ d_18_30_31) (fun j116 u114 H locs hp115 V => ?_)
      obtain ⟨hI, hZ9⟩ := hp115
      obtain ⟨hu153, hZ9⟩ := hZ9
      obtain ⟨y118, hZ9⟩ := hZ9
      obtain ⟨y119, hZ9⟩ := hZ9
      obtain ⟨y120, hZ9⟩ := hZ9
      obtain ⟨y121, hZ9⟩ := hZ9
      obtain ⟨y122, hZ9⟩ := hZ9
      obtain ⟨y123, hZ9⟩ := hZ9
      obtain ⟨y124, hZ9⟩ := hZ9
      obtain ⟨y125, hZ9⟩ := hZ9
      obtain ⟨y126, hZ9⟩ := hZ9
      obtain ⟨y127, hZ9⟩ := hZ9
      obtain ⟨y128, hZ9⟩ := hZ9
      obtain ⟨y129, hZ9⟩ := hZ9
      obtain ⟨y130, hZ9⟩ := hZ9
      obtain ⟨y131, hZ9⟩ := hZ9
      obtain ⟨f132, hZ9⟩ := hZ9
      obtain ⟨hO117, hZ9⟩ := hZ9
      obtain ⟨hA133, hZ9⟩ := hZ9
      obtain ⟨b134, hZ9⟩ := hZ9
      obtain ⟨b135, hZ9⟩ := hZ9
      obtain ⟨b136, hZ9⟩ := hZ9
      obtain ⟨b137, hZ9⟩ := hZ9
      obtain ⟨b138, hZ9⟩ := hZ9
      obtain ⟨b139, hZ9⟩ := hZ9
      obtain ⟨b140, hZ9⟩ := hZ9
      obtain ⟨b141, hZ9⟩ := hZ9
      replace hZ9 := hZ9.2.2
      obtain ⟨b144, hZ9⟩ := hZ9
      obtain ⟨b145, hZ9⟩ := hZ9
      replace hZ9 := hZ9.2.2.2.2.2
      obtain ⟨-, hE152⟩ := hZ9
      replace hO117 : u114[153]? = (some (q 153, .inr (16, [.int y118, .ref (q 154), .int y119, .int y120, .int y121, .int y122, .ref (q 155), .int y123, .int y124, .long y125, .ref (q 156), .int y126, .int y127, .long y128, .long y129, .int y130, .int y131])) : Option (Nat × va_E)) := hO117
      replace hA133 : u114[156]? = (some (q 156, .inl (g 0, (800 : Int32).toNatClampNeg, .inl f132)) : Option (Nat × va_E)) := hA133
      obtain ⟨p154, e155⟩ : ∃ z, z = (F_TR_sizeRead (53 : Int32) (-1074 : Int32) lx96 y34 y35 y36 y37 y38 y39 y40 y41 y42 y43 y44 y45 y46 f47 t3_0) := ⟨_, rfl⟩
      have e156 : j116 = p154.1 := congrArg (fun z => z.1) (hE152.trans e155.symm)
      have e157 : y118 = p154.2.1 := congrArg (fun z => z.2.1) (hE152.trans e155.symm)
      have e158 : y119 = p154.2.2.1 := congrArg (fun z => z.2.2.1) (hE152.trans e155.symm)
      have e159 : y120 = p154.2.2.2.1 := congrArg (fun z => z.2.2.2.1) (hE152.trans e155.symm)
      have e160 : y121 = p154.2.2.2.2.1 := congrArg (fun z => z.2.2.2.2.1) (hE152.trans e155.symm)
      have e161 : y122 = p154.2.2.2.2.2.1 := congrArg (fun z => z.2.2.2.2.2.1) (hE152.trans e155.symm)
      have e162 : y123 = p154.2.2.2.2.2.2.1 := congrArg (fun z => z.2.2.2.2.2.2.1) (hE152.trans e155.symm)
      have e163 : y124 = p154.2.2.2.2.2.2.2.1 := congrArg (fun z => z.2.2.2.2.2.2.2.1) (hE152.trans e155.symm)
      have e164 : y125 = p154.2.2.2.2.2.2.2.2.1 := congrArg (fun z => z.2.2.2.2.2.2.2.2.1) (hE152.trans e155.symm)
      have e165 : y126 = p154.2.2.2.2.2.2.2.2.2.1 := congrArg (fun z => z.2.2.2.2.2.2.2.2.2.1) (hE152.trans e155.symm)
      have e166 : y127 = p154.2.2.2.2.2.2.2.2.2.2.1 := congrArg (fun z => z.2.2.2.2.2.2.2.2.2.2.1) (hE152.trans e155.symm)
      have e167 : y128 = p154.2.2.2.2.2.2.2.2.2.2.2.1 := congrArg (fun z => z.2.2.2.2.2.2.2.2.2.2.2.1) (hE152.trans e155.symm)
      have e168 : y129 = p154.2.2.2.2.2.2.2.2.2.2.2.2.1 := congrArg (fun z => z.2.2.2.2.2.2.2.2.2.2.2.2.1) (hE152.trans e155.symm)
      have e169 : y130 = p154.2.2.2.2.2.2.2.2.2.2.2.2.2.1 := congrArg (fun z => z.2.2.2.2.2.2.2.2.2.2.2.2.2.1) (hE152.trans e155.symm)
      have e170 : y131 = p154.2.2.2.2.2.2.2.2.2.2.2.2.2.2.1 := congrArg (fun z => z.2.2.2.2.2.2.2.2.2.2.2.2.2.2.1) (hE152.trans e155.symm)
      have e171 : f132 = p154.2.2.2.2.2.2.2.2.2.2.2.2.2.2.2 := congrArg (fun z => z.2.2.2.2.2.2.2.2.2.2.2.2.2.2.2) (hE152.trans e155.symm)
      replace b134 : q_F (0 ≤ y131.toInt) := b134
      replace b135 : q_F (y131.toInt ≤ 1) := b135
      replace b136 : q_F (lx96.toInt ≤ y118.toInt) := b136
      replace b137 : q_F (y118.toInt ≤ lx96.toInt) := b137
      replace b138 : q_F (y34.toInt ≤ y119.toInt) := b138
      replace b139 : q_F (y119.toInt ≤ y34.toInt) := b139
      replace b140 : q_F (y35.toInt ≤ y120.toInt) := b140
      replace b141 : q_F (y120.toInt ≤ y35.toInt) := b141
      replace b144 : q_F (y37.toInt ≤ y122.toInt) := b144
      replace b145 : q_F (y122.toInt ≤ y37.toInt) := b145
      replace hA48 := (hu153 _ (by decide)).trans hA48
      replace hF := q_uc hF hu153 (by simp)
      have hR172 := (show F_TR_bits_c31 t0_0 t0_1 t0_2 t0_3 t0_4 t0_5 t0_6 t0_7 t0_8 t0_9 t0_10 t0_11 t0_12 t0_13 t1_0 t2_0 t3_0 p73 y33 y34 y35 y36 y37 y38 y39 y40 y41 y42 y43 y44 y45 y46 f47 lx96 p154 = (F_TR_bits t0_0 t0_1 t0_2 t0_3 t0_4 t0_5 t0_6 t0_7 t0_8 t0_9 t0_10 t0_11 t0_12 t0_13 t1_0 t2_0 t3_0) from Eq.trans (by rw [e155, F_TR_bits_J13.eq_1, if_pos c111]) hR104)
      have hS173 := (show True ∧ S_TR_bits_c31 t0_0 t0_1 t0_2 t0_3 t0_4 t0_5 t0_6 t0_7 t0_8 t0_9 t0_10 t0_11 t0_12 t0_13 t1_0 t2_0 t3_0 p73 y33 y34 y35 y36 y37 y38 y39 y40 y41 y42 y43 y44 y45 y46 f47 lx96 p154 from (by rw [e155]; have h := hS105; rw [S_TR_bits_J13.eq_1] at h; rw [if_pos c111] at h; replace h := q_s2 h; with_reducible exact h))
      refine lv_lstore_n (lv' := [(1, .long j116), (0, .ref (q 153))]) hx hb d_18_30_34 rfl hl (by decide) rfl (fun ls hl => ?_)
      refine lv_aload_n hx hb d_18_30_35 rfl (lv_at hl 1 rfl) ?_
      refine q_get (ci := 16) (j := 5) (v := .int y122) C0 V i_TR rfl rfl hO117 (by decide) w_2145 rfl d_18_30_36 ?_
      refine lv_if_eq (tgt := 58) hx hb d_18_30_39 (by decide) (fun c177 => ?_) (fun c177 => ?_)
      ·
        have b178 : q_F (y122.toInt = 0) := (q_eqI c177)
        refine lv_lload_n hx hb d_18_30_58 rfl (lv_at hl 0 rfl) ?_
        exact q_retl C0 V (⟨hI, hF, y118, y119, y120, y121, y122, y123, y124, y125, y126, y127, y128, y129, y130, y131, f47, f132, hO117, hA48, hA133, (show 0 ≤ y118.toInt from (by have t1 : 0 ≤ lx96.toInt := i102; have t2 : lx96.toInt ≤ y118.toInt := b136; omega)), (show y118.toInt ≤ 1 from (by have t1 : lx96.toInt ≤ 1 := i103; have t2 : y118.toInt ≤ lx96.toInt := b137; omega)), (show 0 ≤ y120.toInt from (by have t1 : 0 ≤ y35.toInt := b51; have t2 : y35.toInt ≤ y120.toInt := b140; omega)), (show y120.toInt ≤ 3 from (by have t1 : y35.toInt ≤ 3 := b52; have t2 : y120.toInt ≤ y35.toInt := b141; omega)), (show 0 ≤ y122.toInt from (by first | with_reducible exact q_fe b178 | (have t1 : y122.toInt = 0 := b178; omega))), (show y122.toInt ≤ 1 from (by first | with_reducible exact q_fe b178 | (have t1 : y122.toInt = 0 := b178; omega))), (show 0 ≤ y131.toInt from (by first | with_reducible exact q_fe b134 | (have t1 : 0 ≤ y131.toInt := b134; omega))), (show y131.toInt ≤ 1 from (by first | with_reducible exact q_fe b135 | (have t1 : y131.toInt ≤ 1 := b135; omega))), (show t0_1.toInt ≤ y119.toInt from (by have t1 : t0_1.toInt ≤ y34.toInt := b57; have t2 : y34.toInt ≤ y119.toInt := b138; omega)), (show y119.toInt ≤ t0_1.toInt from (by have t1 : y34.toInt ≤ t0_1.toInt := b58; have t2 : y119.toInt ≤ y34.toInt := b139; omega)), (show (j116, y118, y119, y120, y121, y122, y123, y124, y125, y126, y127, y128, y129, y130, y131, f47, f132) = (F_TR_bits t0_0 t0_1 t0_2 t0_3 t0_4 t0_5 t0_6 t0_7 t0_8 t0_9 t0_10 t0_11 t0_12 t0_13 t1_0 t2_0 t3_0) from Eq.trans (by have c177x := c177; rw [e161] at c177x; rw [e171, e170, e169, e168, e167, e166, e165, e164, e163, e162, e161, e160, e159, e158, e157, e156, F_TR_bits_c31.eq_1, if_pos c177x]) hR172)⟩) d_18_30_59
      ·
        refine lv_aload_n hx hb d_18_30_42 rfl (lv_at hl 1 rfl) ?_
        refine q_get (ci := 16) (j := 3) (v := .int y120) C0 V i_TR rfl rfl hO117 (by decide) w_2143 rfl d_18_30_43 ?_
        refine lv_iconst (v := 3) hx hb d_18_30_46 (by decide) ?_
        refine lv_icmp_ge (tgt := 58) hx hb d_18_30_47 (by decide) (fun c180 => ?_) (fun c180 => ?_)
        ·
          have b181 : q_F (3 ≤ y120.toInt) := (q_leI c180)
          refine lv_lload_n hx hb d_18_30_58 rfl (lv_at hl 0 rfl) ?_
          exact q_retl C0 V (⟨hI, hF, y118, y119, y120, y121, y122, y123, y124, y125, y126, y127, y128, y129, y130, y131, f47, f132, hO117, hA48, hA133, (show 0 ≤ y118.toInt from (by have t1 : 0 ≤ lx96.toInt := i102; have t2 : lx96.toInt ≤ y118.toInt := b136; omega)), (show y118.toInt ≤ 1 from (by have t1 : lx96.toInt ≤ 1 := i103; have t2 : y118.toInt ≤ lx96.toInt := b137; omega)), (show 0 ≤ y120.toInt from (by first | with_reducible exact q_fe b181 | (have t1 : 3 ≤ y120.toInt := b181; omega))), (show y120.toInt ≤ 3 from (by have t1 : y35.toInt ≤ 3 := b52; have t2 : y120.toInt ≤ y35.toInt := b141; omega)), (show 0 ≤ y122.toInt from (by have t1 : 0 ≤ y37.toInt := b53; have t2 : y37.toInt ≤ y122.toInt := b144; omega)), (show y122.toInt ≤ 1 from (by have t1 : y37.toInt ≤ 1 := b54; have t2 : y122.toInt ≤ y37.toInt := b145; omega)), (show 0 ≤ y131.toInt from (by first | with_reducible exact q_fe b134 | (have t1 : 0 ≤ y131.toInt := b134; omega))), (show y131.toInt ≤ 1 from (by first | with_reducible exact q_fe b135 | (have t1 : y131.toInt ≤ 1 := b135; omega))), (show t0_1.toInt ≤ y119.toInt from (by have t1 : t0_1.toInt ≤ y34.toInt := b57; have t2 : y34.toInt ≤ y119.toInt := b138; omega)), (show y119.toInt ≤ t0_1.toInt from (by have t1 : y34.toInt ≤ t0_1.toInt := b58; have t2 : y119.toInt ≤ y34.toInt := b139; omega)), (show (j116, y118, y119, y120, y121, y122, y123, y124, y125, y126, y127, y128, y129, y130, y131, f47, f132) = (F_TR_bits t0_0 t0_1 t0_2 t0_3 t0_4 t0_5 t0_6 t0_7 t0_8 t0_9 t0_10 t0_11 t0_12 t0_13 t1_0 t2_0 t3_0) from Eq.trans (by have c177x := c177; rw [e161] at c177x; have c180x := c180; rw [e159] at c180x; rw [e171, e170, e169, e168, e167, e166, e165, e164, e163, e162, e161, e160, e159, e158, e157, e156, F_TR_bits_c31.eq_1, if_neg c177x, if_pos c180x]) hR172)⟩) d_18_30_59
        ·
          have b182 : q_F (y120.toInt < 3) := (q_nleI c180)
          refine lv_lload_n hx hb d_18_30_50 rfl (lv_at hl 0 rfl) ?_
          refine q_ldc2 C0 rfl w_2524 d_18_30_51 ?_
          refine lv_lor hx hb d_18_30_54 ?_
          obtain ⟨j183, e184⟩ := q_nm (j116 ||| (-9223372036854775808) : Int64)
          refine q_tl (v := j183) e184 ?_
          refine lv_goto (tgt := 59) hx hb d_18_30_55 (by decide) ?_
          exact q_retl C0 V (⟨hI, hF, y118, y119, y120, y121, y122, y123, y124, y125, y126, y127, y128, y129, y130, y131, f47, f132, hO117, hA48, hA133, (show 0 ≤ y118.toInt from (by have t1 : 0 ≤ lx96.toInt := i102; have t2 : lx96.toInt ≤ y118.toInt := b136; omega)), (show y118.toInt ≤ 1 from (by have t1 : lx96.toInt ≤ 1 := i103; have t2 : y118.toInt ≤ lx96.toInt := b137; omega)), (show 0 ≤ y120.toInt from (by have t1 : 0 ≤ y35.toInt := b51; have t2 : y35.toInt ≤ y120.toInt := b140; omega)), (show y120.toInt ≤ 3 from (by first | with_reducible exact q_fe b182 | (have t1 : y120.toInt < 3 := b182; omega))), (show 0 ≤ y122.toInt from (by have t1 : 0 ≤ y37.toInt := b53; have t2 : y37.toInt ≤ y122.toInt := b144; omega)), (show y122.toInt ≤ 1 from (by have t1 : y37.toInt ≤ 1 := b54; have t2 : y122.toInt ≤ y37.toInt := b145; omega)), (show 0 ≤ y131.toInt from (by first | with_reducible exact q_fe b134 | (have t1 : 0 ≤ y131.toInt := b134; omega))), (show y131.toInt ≤ 1 from (by first | with_reducible exact q_fe b135 | (have t1 : y131.toInt ≤ 1 := b135; omega))), (show t0_1.toInt ≤ y119.toInt from (by have t1 : t0_1.toInt ≤ y34.toInt := b57; have t2 : y34.toInt ≤ y119.toInt := b138; omega)), (show y119.toInt ≤ t0_1.toInt from (by have t1 : y34.toInt ≤ t0_1.toInt := b58; have t2 : y119.toInt ≤ y34.toInt := b139; omega)), (show (j183, y118, y119, y120, y121, y122, y123, y124, y125, y126, y127, y128, y129, y130, y131, f47, f132) = (F_TR_bits t0_0 t0_1 t0_2 t0_3 t0_4 t0_5 t0_6 t0_7 t0_8 t0_9 t0_10 t0_11 t0_12 t0_13 t1_0 t2_0 t3_0) from Eq.trans (by have c177x := c177; rw [e161] at c177x; have c180x := c180; rw [e159] at c180x; rw [← e184, e171, e170, e169, e168, e167, e166, e165, e164, e163, e162, e161, e160, e159, e158, e157, e156, F_TR_bits_c31.eq_1, if_neg c177x, if_neg c180x]) hR172)⟩) d_18_30_59
    ·
      refine lv_lconst (v := 0) hx hb d_18_30_23 (by decide) ?_
      exact q_retl C0 V (⟨hI, hF, lx96, y34, y35, y36, y37, y38, y39, y40, y41, y42, y43, y44, y45, y46, f47, t3_0, hO32, hA48, hT3, (show 0 ≤ lx96.toInt from (by have z17 : (0 : Int64).toInt = 0 := rfl; have t1 : 0 ≤ lx96.toInt := i102; omega)), (show lx96.toInt ≤ 1 from (by have z17 : (0 : Int64).toInt = 0 := rfl; have t1 : lx96.toInt ≤ 1 := i103; omega)), (show 0 ≤ y35.toInt from (by have z17 : (0 : Int64).toInt = 0 := rfl; have t1 : 0 ≤ y35.toInt := b51; omega)), (show y35.toInt ≤ 3 from (by have z17 : (0 : Int64).toInt = 0 := rfl; have t1 : y35.toInt ≤ 3 := b52; omega)), (show 0 ≤ y37.toInt from (by have z17 : (0 : Int64).toInt = 0 := rfl; have t1 : 0 ≤ y37.toInt := b53; omega)), (show y37.toInt ≤ 1 from (by have z17 : (0 : Int64).toInt = 0 := rfl; have t1 : y37.toInt ≤ 1 := b54; omega)), (show 0 ≤ y46.toInt from (by have z17 : (0 : Int64).toInt = 0 := rfl; have t1 : 0 ≤ t0_13.toInt ∧ t0_13.toInt ≤ 1 := btt0_13; have t2 : t0_13.toInt ≤ y46.toInt := b69; omega)), (show y46.toInt ≤ 1 from (by have z17 : (0 : Int64).toInt = 0 := rfl; have t1 : 0 ≤ t0_13.toInt ∧ t0_13.toInt ≤ 1 := btt0_13; have t2 : y46.toInt ≤ t0_13.toInt := b70; omega)), (show t0_1.toInt ≤ y34.toInt from (by have z17 : (0 : Int64).toInt = 0 := rfl; have t1 : t0_1.toInt ≤ y34.toInt := b57; omega)), (show y34.toInt ≤ t0_1.toInt from (by have z17 : (0 : Int64).toInt = 0 := rfl; have t1 : y34.toInt ≤ t0_1.toInt := b58; omega)), (show ((0 : Int64), lx96, y34, y35, y36, y37, y38, y39, y40, y41, y42, y43, y44, y45, y46, f47, t3_0) = (F_TR_bits t0_0 t0_1 t0_2 t0_3 t0_4 t0_5 t0_6 t0_7 t0_8 t0_9 t0_10 t0_11 t0_12 t0_13 t1_0 t2_0 t3_0) from Eq.trans (by rw [F_TR_bits_J13.eq_1, if_neg c111]) hR104)⟩) d_18_30_24
  ·
    intro J101
    refine lv_if_eq (tgt := 12) hx hb d_18_30_5 (by decide) (fun c186 => ?_) (fun c186 => ?_)
    ·
      refine lv_iconst (v := 1) hx hb d_18_30_12 (by decide) ?_
      exact J101 ((1 : Int32)) _ _ _ u29 ⟨(show q_F (0 ≤ 1) from (show 0 ≤ 1 from by omega)), (show q_F (1 ≤ 1) from (show 1 ≤ 1 from by omega)), V, q_lw hl (q_lw1 0 rfl q_lw0), (show F_TR_bits_J13 t0_0 t0_1 t0_2 t0_3 t0_4 t0_5 t0_6 t0_7 t0_8 t0_9 t0_10 t0_11 t0_12 t0_13 t1_0 t2_0 t3_0 p73 y33 y34 y35 y36 y37 y38 y39 y40 y41 y42 y43 y44 y45 y46 f47 1 = (F_TR_bits t0_0 t0_1 t0_2 t0_3 t0_4 t0_5 t0_6 t0_7 t0_8 t0_9 t0_10 t0_11 t0_12 t0_13 t1_0 t2_0 t3_0) from Eq.trans (by have c186x := c186; rw [e75] at c186x; rw [e90, e89, e88, e87, e86, e85, e84, e83, e82, e81, e80, e79, e78, e77, e76, F_TR_bits_c2.eq_1, if_pos c186x]) hR91), (show True ∧ S_TR_bits_J13 t0_0 t0_1 t0_2 t0_3 t0_4 t0_5 t0_6 t0_7 t0_8 t0_9 t0_10 t0_11 t0_12 t0_13 t1_0 t2_0 t3_0 p73 y33 y34 y35 y36 y37 y38 y39 y40 y41 y42 y43 y44 y45 y46 f47 1 from (by rw [e90, e89, e88, e87, e86, e85, e84, e83, e82, e81, e80, e79, e78, e77, e76]; have h := hS92; rw [S_TR_bits_c2.eq_1] at h; have c186x := c186; rw [e75] at c186x; rw [if_pos c186x] at h; with_reducible exact h))⟩
    ·
      refine lv_iconst (v := 0) hx hb d_18_30_8 (by decide) ?_
      refine lv_goto (tgt := 13) hx hb d_18_30_9 (by decide) ?_
      exact J101 ((0 : Int32)) _ _ _ u29 ⟨(show q_F (0 ≤ 0) from (show 0 ≤ 0 from by omega)), (show q_F (0 ≤ 1) from (show 0 ≤ 1 from by omega)), V, q_lw hl (q_lw1 0 rfl q_lw0), (show F_TR_bits_J13 t0_0 t0_1 t0_2 t0_3 t0_4 t0_5 t0_6 t0_7 t0_8 t0_9 t0_10 t0_11 t0_12 t0_13 t1_0 t2_0 t3_0 p73 y33 y34 y35 y36 y37 y38 y39 y40 y41 y42 y43 y44 y45 y46 f47 0 = (F_TR_bits t0_0 t0_1 t0_2 t0_3 t0_4 t0_5 t0_6 t0_7 t0_8 t0_9 t0_10 t0_11 t0_12 t0_13 t1_0 t2_0 t3_0) from Eq.trans (by have c186x := c186; rw [e75] at c186x; rw [e90, e89, e88, e87, e86, e85, e84, e83, e82, e81, e80, e79, e78, e77, e76, F_TR_bits_c2.eq_1, if_neg c186x]) hR91), (show True ∧ S_TR_bits_J13 t0_0 t0_1 t0_2 t0_3 t0_4 t0_5 t0_6 t0_7 t0_8 t0_9 t0_10 t0_11 t0_12 t0_13 t1_0 t2_0 t3_0 p73 y33 y34 y35 y36 y37 y38 y39 y40 y41 y42 y43 y44 y45 y46 f47 0 from (by rw [e90, e89, e88, e87, e86, e85, e84, e83, e82, e81, e80, e79, e78, e77, e76]; have h := hS92; rw [S_TR_bits_c2.eq_1] at h; have c186x := c186; rw [e75] at c186x; rw [if_neg c186x] at h; with_reducible exact h))⟩
theorem d_18_31_0 : decode prog_18_method_31_code 0 = .ok (.aload_n 0, 1) := by decide +kernel
theorem d_18_31_1 : decode prog_18_method_31_code 1 = .ok (.aload_n 0, 1) := by decide +kernel
theorem d_18_31_2 : decode prog_18_method_31_code 2 = .ok (.invokevirtual 92, 3) := by decide +kernel
theorem d_18_31_13 : decode prog_18_method_31_code 13 = .ok (.putfield 19, 3) := by decide +kernel
theorem d_18_31_16 : decode prog_18_method_31_code 16 = .ok (.aload_n 0, 1) := by decide +kernel
theorem d_18_31_17 : decode prog_18_method_31_code 17 = .ok (.getfield 19, 3) := by decide +kernel
theorem d_18_31_20 : decode prog_18_method_31_code 20 = .ok (.ifCond .le 5, 3) := by decide +kernel
theorem d_18_31_25 : decode prog_18_method_31_code 25 = .ok (.aload_n 0, 1) := by decide +kernel
theorem d_18_31_26 : decode prog_18_method_31_code 26 = .ok (.bipush 24, 2) := by decide +kernel
theorem d_18_31_28 : decode prog_18_method_31_code 28 = .ok (.sipush (-149), 3) := by decide +kernel
theorem d_18_31_31 : decode prog_18_method_31_code 31 = .ok (.invokevirtual 172, 3) := by decide +kernel
theorem d_18_31_34 : decode prog_18_method_31_code 34 = .ok (.l2i, 1) := by decide +kernel
theorem d_18_31_35 : decode prog_18_method_31_code 35 = .ok (.istore_n 1, 1) := by decide +kernel
theorem d_18_31_36 : decode prog_18_method_31_code 36 = .ok (.aload_n 0, 1) := by decide +kernel
theorem d_18_31_37 : decode prog_18_method_31_code 37 = .ok (.getfield 77, 3) := by decide +kernel
theorem d_18_31_40 : decode prog_18_method_31_code 40 = .ok (.ifCond .eq 18, 3) := by decide +kernel
theorem d_18_31_58 : decode prog_18_method_31_code 58 = .ok (.iload_n 1, 1) := by decide +kernel
theorem d_18_31_59 : decode prog_18_method_31_code 59 = .ok (.ireturn, 1) := by decide +kernel
theorem d_18_31_43 : decode prog_18_method_31_code 43 = .ok (.aload_n 0, 1) := by decide +kernel
theorem d_18_31_44 : decode prog_18_method_31_code 44 = .ok (.getfield 59, 3) := by decide +kernel
theorem d_18_31_47 : decode prog_18_method_31_code 47 = .ok (.iconst 3, 1) := by decide +kernel
theorem d_18_31_48 : decode prog_18_method_31_code 48 = .ok (.if_icmp .ge 10, 3) := by decide +kernel
theorem d_18_31_51 : decode prog_18_method_31_code 51 = .ok (.iload_n 1, 1) := by decide +kernel
theorem d_18_31_52 : decode prog_18_method_31_code 52 = .ok (.ldc 178, 2) := by decide +kernel
set_option maxRecDepth 100000 in
theorem w_2529 : (Cond.constant "NumberHouseModel$TextRows" (178 : Nat) (-2147483648 : Int32)) ∈ q_tbl := q_of11 129 rfl (by decide +kernel)
theorem d_18_31_54 : decode prog_18_method_31_code 54 = .ok (.ior, 1) := by decide +kernel
theorem d_18_31_55 : decode prog_18_method_31_code 55 = .ok (.goto 4, 3) := by decide +kernel
theorem d_18_31_23 : decode prog_18_method_31_code 23 = .ok (.iconst 0, 1) := by decide +kernel
theorem d_18_31_24 : decode prog_18_method_31_code 24 = .ok (.ireturn, 1) := by decide +kernel
theorem d_18_31_5 : decode prog_18_method_31_code 5 = .ok (.ifCond .eq 7, 3) := by decide +kernel
theorem d_18_31_12 : decode prog_18_method_31_code 12 = .ok (.iconst 1, 1) := by decide +kernel
theorem d_18_31_8 : decode prog_18_method_31_code 8 = .ok (.iconst 0, 1) := by decide +kernel
theorem d_18_31_9 : decode prog_18_method_31_code 9 = .ok (.goto 4, 3) := by decide +kernel
def y_TR_floatBits : MethodName := ⟨"NumberHouseModel$TextRows", "floatBits", "()I"⟩
def F_TR_floatBits_c31 (t0_0 : Int32) (t0_1 : Int32) (t0_2 : Int32) (t0_3 : Int32) (t0_4 : Int32) (t0_5 : Int32) (t0_6 : Int32) (t0_7 : Int64) (t0_8 : Int32) (t0_9 : Int32) (t0_10 : Int64) (t0_11 : Int64) (t0_12 : Int32) (t0_13 : Int32) (t1_0 : (Nat → Int32)) (t2_0 : (Nat → Int32)) (t3_0 : (Nat → Int32)) (p73 : (Int32 × Int32 × Int32 × Int32 × Int32 × Int32 × Int32 × Int32 × Int64 × Int32 × Int32 × Int64 × Int64 × Int32 × Int32 × (Nat → Int32))) (y33 : Int32) (y34 : Int32) (y35 : Int32) (y36 : Int32) (y37 : Int32) (y38 : Int32) (y39 : Int32) (y40 : Int64) (y41 : Int32) (y42 : Int32) (y43 : Int64) (y44 : Int64) (y45 : Int32) (y46 : Int32) (f47 : (Nat → Int32)) (lx96 : Int32) (p154 : (Int64 × Int32 × Int32 × Int32 × Int32 × Int32 × Int32 × Int32 × Int64 × Int32 × Int32 × Int64 × Int64 × Int32 × Int32 × (Nat → Int32))) : Int32 × Int32 × Int32 × Int32 × Int32 × Int32 × Int32 × Int32 × Int64 × Int32 × Int32 × Int64 × Int64 × Int32 × Int32 × (Nat → Int32) × (Nat → Int32) := if (p154.2.2.2.2.2.1 : Int32) = (0 : Int32) then ((((p154.1 : Int64).toInt32 : Int32), (p154.2.1 : Int32), (p154.2.2.1 : Int32), (p154.2.2.2.1 : Int32), (p154.2.2.2.2.1 : Int32), (p154.2.2.2.2.2.1 : Int32), (p154.2.2.2.2.2.2.1 : Int32), (p154.2.2.2.2.2.2.2.1 : Int32), (p154.2.2.2.2.2.2.2.2.1 : Int64), (p154.2.2.2.2.2.2.2.2.2.1 : Int32), (p154.2.2.2.2.2.2.2.2.2.2.1 : Int32), (p154.2.2.2.2.2.2.2.2.2.2.2.1 : Int64), (p154.2.2.2.2.2.2.2.2.2.2.2.2.1 : Int64), (p154.2.2.2.2.2.2.2.2.2.2.2.2.2.1 : Int32), (p154.2.2.2.2.2.2.2.2.2.2.2.2.2.2.1 : Int32), f47, (p154.2.2.2.2.2.2.2.2.2.2.2.2.2.2.2 : (Nat → Int32)))) else (if (3 : Int32) ≤ (p154.2.2.2.1 : Int32) then ((((p154.1 : Int64).toInt32 : Int32), (p154.2.1 : Int32), (p154.2.2.1 : Int32), (p154.2.2.2.1 : Int32), (p154.2.2.2.2.1 : Int32), (p154.2.2.2.2.2.1 : Int32), (p154.2.2.2.2.2.2.1 : Int32), (p154.2.2.2.2.2.2.2.1 : Int32), (p154.2.2.2.2.2.2.2.2.1 : Int64), (p154.2.2.2.2.2.2.2.2.2.1 : Int32), (p154.2.2.2.2.2.2.2.2.2.2.1 : Int32), (p154.2.2.2.2.2.2.2.2.2.2.2.1 : Int64), (p154.2.2.2.2.2.2.2.2.2.2.2.2.1 : Int64), (p154.2.2.2.2.2.2.2.2.2.2.2.2.2.1 : Int32), (p154.2.2.2.2.2.2.2.2.2.2.2.2.2.2.1 : Int32), f47, (p154.2.2.2.2.2.2.2.2.2.2.2.2.2.2.2 : (Nat → Int32)))) else (((((p154.1 : Int64).toInt32 : Int32) ||| (-2147483648) : Int32), (p154.2.1 : Int32), (p154.2.2.1 : Int32), (p154.2.2.2.1 : Int32), (p154.2.2.2.2.1 : Int32), (p154.2.2.2.2.2.1 : Int32), (p154.2.2.2.2.2.2.1 : Int32), (p154.2.2.2.2.2.2.2.1 : Int32), (p154.2.2.2.2.2.2.2.2.1 : Int64), (p154.2.2.2.2.2.2.2.2.2.1 : Int32), (p154.2.2.2.2.2.2.2.2.2.2.1 : Int32), (p154.2.2.2.2.2.2.2.2.2.2.2.1 : Int64), (p154.2.2.2.2.2.2.2.2.2.2.2.2.1 : Int64), (p154.2.2.2.2.2.2.2.2.2.2.2.2.2.1 : Int32), (p154.2.2.2.2.2.2.2.2.2.2.2.2.2.2.1 : Int32), f47, (p154.2.2.2.2.2.2.2.2.2.2.2.2.2.2.2 : (Nat → Int32)))))
def F_TR_floatBits_J13 (t0_0 : Int32) (t0_1 : Int32) (t0_2 : Int32) (t0_3 : Int32) (t0_4 : Int32) (t0_5 : Int32) (t0_6 : Int32) (t0_7 : Int64) (t0_8 : Int32) (t0_9 : Int32) (t0_10 : Int64) (t0_11 : Int64) (t0_12 : Int32) (t0_13 : Int32) (t1_0 : (Nat → Int32)) (t2_0 : (Nat → Int32)) (t3_0 : (Nat → Int32)) (p73 : (Int32 × Int32 × Int32 × Int32 × Int32 × Int32 × Int32 × Int32 × Int64 × Int32 × Int32 × Int64 × Int64 × Int32 × Int32 × (Nat → Int32))) (y33 : Int32) (y34 : Int32) (y35 : Int32) (y36 : Int32) (y37 : Int32) (y38 : Int32) (y39 : Int32) (y40 : Int64) (y41 : Int32) (y42 : Int32) (y43 : Int64) (y44 : Int64) (y45 : Int32) (y46 : Int32) (f47 : (Nat → Int32)) (lx96 : Int32) : Int32 × Int32 × Int32 × Int32 × Int32 × Int32 × Int32 × Int32 × Int64 × Int32 × Int32 × Int64 × Int64 × Int32 × Int32 × (Nat → Int32) × (Nat → Int32) := if lx96 ≤ (0 : Int32) then (F_TR_floatBits_c31 t0_0 t0_1 t0_2 t0_3 t0_4 t0_5 t0_6 t0_7 t0_8 t0_9 t0_10 t0_11 t0_12 t0_13 t1_0 t2_0 t3_0 p73 y33 y34 y35 y36 y37 y38 y39 y40 y41 y42 y43 y44 y45 y46 f47 lx96 ((F_TR_sizeRead (24 : Int32) (-149 : Int32) lx96 y34 y35 y36 y37 y38 y39 y40 y41 y42 y43 y44 y45 y46 f47 t3_0) : (Int64 × Int32 × Int32 × Int32 × Int32 × Int32 × Int32 × Int32 × Int64 × Int32 × Int32 × Int64 × Int64 × Int32 × Int32 × (Nat → Int32)))) else (((0 : Int32), lx96, y34, y35, y36, y37, y38, y39, y40, y41, y42, y43, y44, y45, y46, f47, t3_0))
def F_TR_floatBits_c2 (t0_0 : Int32) (t0_1 : Int32) (t0_2 : Int32) (t0_3 : Int32) (t0_4 : Int32) (t0_5 : Int32) (t0_6 : Int32) (t0_7 : Int64) (t0_8 : Int32) (t0_9 : Int32) (t0_10 : Int64) (t0_11 : Int64) (t0_12 : Int32) (t0_13 : Int32) (t1_0 : (Nat → Int32)) (t2_0 : (Nat → Int32)) (t3_0 : (Nat → Int32)) (p73 : (Int32 × Int32 × Int32 × Int32 × Int32 × Int32 × Int32 × Int32 × Int64 × Int32 × Int32 × Int64 × Int64 × Int32 × Int32 × (Nat → Int32))) : Int32 × Int32 × Int32 × Int32 × Int32 × Int32 × Int32 × Int32 × Int64 × Int32 × Int32 × Int64 × Int64 × Int32 × Int32 × (Nat → Int32) × (Nat → Int32) := if (p73.1 : Int32) = (0 : Int32) then (F_TR_floatBits_J13 t0_0 t0_1 t0_2 t0_3 t0_4 t0_5 t0_6 t0_7 t0_8 t0_9 t0_10 t0_11 t0_12 t0_13 t1_0 t2_0 t3_0 p73 (p73.2.1 : Int32) (p73.2.2.1 : Int32) (p73.2.2.2.1 : Int32) (p73.2.2.2.2.1 : Int32) (p73.2.2.2.2.2.1 : Int32) (p73.2.2.2.2.2.2.1 : Int32) (p73.2.2.2.2.2.2.2.1 : Int32) (p73.2.2.2.2.2.2.2.2.1 : Int64) (p73.2.2.2.2.2.2.2.2.2.1 : Int32) (p73.2.2.2.2.2.2.2.2.2.2.1 : Int32) (p73.2.2.2.2.2.2.2.2.2.2.2.1 : Int64) (p73.2.2.2.2.2.2.2.2.2.2.2.2.1 : Int64) (p73.2.2.2.2.2.2.2.2.2.2.2.2.2.1 : Int32) (p73.2.2.2.2.2.2.2.2.2.2.2.2.2.2.1 : Int32) (p73.2.2.2.2.2.2.2.2.2.2.2.2.2.2.2 : (Nat → Int32)) 1) else (F_TR_floatBits_J13 t0_0 t0_1 t0_2 t0_3 t0_4 t0_5 t0_6 t0_7 t0_8 t0_9 t0_10 t0_11 t0_12 t0_13 t1_0 t2_0 t3_0 p73 (p73.2.1 : Int32) (p73.2.2.1 : Int32) (p73.2.2.2.1 : Int32) (p73.2.2.2.2.1 : Int32) (p73.2.2.2.2.2.1 : Int32) (p73.2.2.2.2.2.2.1 : Int32) (p73.2.2.2.2.2.2.2.1 : Int32) (p73.2.2.2.2.2.2.2.2.1 : Int64) (p73.2.2.2.2.2.2.2.2.2.1 : Int32) (p73.2.2.2.2.2.2.2.2.2.2.1 : Int32) (p73.2.2.2.2.2.2.2.2.2.2.2.1 : Int64) (p73.2.2.2.2.2.2.2.2.2.2.2.2.1 : Int64) (p73.2.2.2.2.2.2.2.2.2.2.2.2.2.1 : Int32) (p73.2.2.2.2.2.2.2.2.2.2.2.2.2.2.1 : Int32) (p73.2.2.2.2.2.2.2.2.2.2.2.2.2.2.2 : (Nat → Int32)) 0)
def F_TR_floatBits (t0_0 : Int32) (t0_1 : Int32) (t0_2 : Int32) (t0_3 : Int32) (t0_4 : Int32) (t0_5 : Int32) (t0_6 : Int32) (t0_7 : Int64) (t0_8 : Int32) (t0_9 : Int32) (t0_10 : Int64) (t0_11 : Int64) (t0_12 : Int32) (t0_13 : Int32) (t1_0 : (Nat → Int32)) (t2_0 : (Nat → Int32)) (t3_0 : (Nat → Int32)) : Int32 × Int32 × Int32 × Int32 × Int32 × Int32 × Int32 × Int32 × Int64 × Int32 × Int32 × Int64 × Int64 × Int32 × Int32 × (Nat → Int32) × (Nat → Int32) := F_TR_floatBits_c2 t0_0 t0_1 t0_2 t0_3 t0_4 t0_5 t0_6 t0_7 t0_8 t0_9 t0_10 t0_11 t0_12 t0_13 t1_0 t2_0 t3_0 ((F_TR_scan t0_0 t0_1 t0_2 t0_3 t0_4 t0_5 t0_6 t0_7 t0_8 t0_9 t0_10 t0_11 t0_12 t0_13 t1_0 t2_0) : (Int32 × Int32 × Int32 × Int32 × Int32 × Int32 × Int32 × Int32 × Int64 × Int32 × Int32 × Int64 × Int64 × Int32 × Int32 × (Nat → Int32)))
def S_TR_floatBits_c31 (t0_0 : Int32) (t0_1 : Int32) (t0_2 : Int32) (t0_3 : Int32) (t0_4 : Int32) (t0_5 : Int32) (t0_6 : Int32) (t0_7 : Int64) (t0_8 : Int32) (t0_9 : Int32) (t0_10 : Int64) (t0_11 : Int64) (t0_12 : Int32) (t0_13 : Int32) (t1_0 : (Nat → Int32)) (t2_0 : (Nat → Int32)) (t3_0 : (Nat → Int32)) (p73 : (Int32 × Int32 × Int32 × Int32 × Int32 × Int32 × Int32 × Int32 × Int64 × Int32 × Int32 × Int64 × Int64 × Int32 × Int32 × (Nat → Int32))) (y33 : Int32) (y34 : Int32) (y35 : Int32) (y36 : Int32) (y37 : Int32) (y38 : Int32) (y39 : Int32) (y40 : Int64) (y41 : Int32) (y42 : Int32) (y43 : Int64) (y44 : Int64) (y45 : Int32) (y46 : Int32) (f47 : (Nat → Int32)) (lx96 : Int32) (p154 : (Int64 × Int32 × Int32 × Int32 × Int32 × Int32 × Int32 × Int32 × Int64 × Int32 × Int32 × Int64 × Int64 × Int32 × Int32 × (Nat → Int32))) : Prop := if (p154.2.2.2.2.2.1 : Int32) = (0 : Int32) then (True) else (if (3 : Int32) ≤ (p154.2.2.2.1 : Int32) then (True) else (True))
def S_TR_floatBits_J13 (t0_0 : Int32) (t0_1 : Int32) (t0_2 : Int32) (t0_3 : Int32) (t0_4 : Int32) (t0_5 : Int32) (t0_6 : Int32) (t0_7 : Int64) (t0_8 : Int32) (t0_9 : Int32) (t0_10 : Int64) (t0_11 : Int64) (t0_12 : Int32) (t0_13 : Int32) (t1_0 : (Nat → Int32)) (t2_0 : (Nat → Int32)) (t3_0 : (Nat → Int32)) (p73 : (Int32 × Int32 × Int32 × Int32 × Int32 × Int32 × Int32 × Int32 × Int64 × Int32 × Int32 × Int64 × Int64 × Int32 × Int32 × (Nat → Int32))) (y33 : Int32) (y34 : Int32) (y35 : Int32) (y36 : Int32) (y37 : Int32) (y38 : Int32) (y39 : Int32) (y40 : Int64) (y41 : Int32) (y42 : Int32) (y43 : Int64) (y44 : Int64) (y45 : Int32) (y46 : Int32) (f47 : (Nat → Int32)) (lx96 : Int32) : Prop := if lx96 ≤ (0 : Int32) then ((True ∧ S_TR_sizeRead (24 : Int32) (-149 : Int32) lx96 y34 y35 y36 y37 y38 y39 y40 y41 y42 y43 y44 y45 y46 f47 t3_0) ∧ (S_TR_floatBits_c31 t0_0 t0_1 t0_2 t0_3 t0_4 t0_5 t0_6 t0_7 t0_8 t0_9 t0_10 t0_11 t0_12 t0_13 t1_0 t2_0 t3_0 p73 y33 y34 y35 y36 y37 y38 y39 y40 y41 y42 y43 y44 y45 y46 f47 lx96 ((F_TR_sizeRead (24 : Int32) (-149 : Int32) lx96 y34 y35 y36 y37 y38 y39 y40 y41 y42 y43 y44 y45 y46 f47 t3_0) : (Int64 × Int32 × Int32 × Int32 × Int32 × Int32 × Int32 × Int32 × Int64 × Int32 × Int32 × Int64 × Int64 × Int32 × Int32 × (Nat → Int32))))) else (True)
def S_TR_floatBits_c2 (t0_0 : Int32) (t0_1 : Int32) (t0_2 : Int32) (t0_3 : Int32) (t0_4 : Int32) (t0_5 : Int32) (t0_6 : Int32) (t0_7 : Int64) (t0_8 : Int32) (t0_9 : Int32) (t0_10 : Int64) (t0_11 : Int64) (t0_12 : Int32) (t0_13 : Int32) (t1_0 : (Nat → Int32)) (t2_0 : (Nat → Int32)) (t3_0 : (Nat → Int32)) (p73 : (Int32 × Int32 × Int32 × Int32 × Int32 × Int32 × Int32 × Int32 × Int64 × Int32 × Int32 × Int64 × Int64 × Int32 × Int32 × (Nat → Int32))) : Prop := if (p73.1 : Int32) = (0 : Int32) then (S_TR_floatBits_J13 t0_0 t0_1 t0_2 t0_3 t0_4 t0_5 t0_6 t0_7 t0_8 t0_9 t0_10 t0_11 t0_12 t0_13 t1_0 t2_0 t3_0 p73 (p73.2.1 : Int32) (p73.2.2.1 : Int32) (p73.2.2.2.1 : Int32) (p73.2.2.2.2.1 : Int32) (p73.2.2.2.2.2.1 : Int32) (p73.2.2.2.2.2.2.1 : Int32) (p73.2.2.2.2.2.2.2.1 : Int32) (p73.2.2.2.2.2.2.2.2.1 : Int64) (p73.2.2.2.2.2.2.2.2.2.1 : Int32) (p73.2.2.2.2.2.2.2.2.2.2.1 : Int32) (p73.2.2.2.2.2.2.2.2.2.2.2.1 : Int64) (p73.2.2.2.2.2.2.2.2.2.2.2.2.1 : Int64) (p73.2.2.2.2.2.2.2.2.2.2.2.2.2.1 : Int32) (p73.2.2.2.2.2.2.2.2.2.2.2.2.2.2.1 : Int32) (p73.2.2.2.2.2.2.2.2.2.2.2.2.2.2.2 : (Nat → Int32)) 1) else (S_TR_floatBits_J13 t0_0 t0_1 t0_2 t0_3 t0_4 t0_5 t0_6 t0_7 t0_8 t0_9 t0_10 t0_11 t0_12 t0_13 t1_0 t2_0 t3_0 p73 (p73.2.1 : Int32) (p73.2.2.1 : Int32) (p73.2.2.2.1 : Int32) (p73.2.2.2.2.1 : Int32) (p73.2.2.2.2.2.1 : Int32) (p73.2.2.2.2.2.2.1 : Int32) (p73.2.2.2.2.2.2.2.1 : Int32) (p73.2.2.2.2.2.2.2.2.1 : Int64) (p73.2.2.2.2.2.2.2.2.2.1 : Int32) (p73.2.2.2.2.2.2.2.2.2.2.1 : Int32) (p73.2.2.2.2.2.2.2.2.2.2.2.1 : Int64) (p73.2.2.2.2.2.2.2.2.2.2.2.2.1 : Int64) (p73.2.2.2.2.2.2.2.2.2.2.2.2.2.1 : Int32) (p73.2.2.2.2.2.2.2.2.2.2.2.2.2.2.1 : Int32) (p73.2.2.2.2.2.2.2.2.2.2.2.2.2.2.2 : (Nat → Int32)) 0)
def S_TR_floatBits (t0_0 : Int32) (t0_1 : Int32) (t0_2 : Int32) (t0_3 : Int32) (t0_4 : Int32) (t0_5 : Int32) (t0_6 : Int32) (t0_7 : Int64) (t0_8 : Int32) (t0_9 : Int32) (t0_10 : Int64) (t0_11 : Int64) (t0_12 : Int32) (t0_13 : Int32) (t1_0 : (Nat → Int32)) (t2_0 : (Nat → Int32)) (t3_0 : (Nat → Int32)) : Prop := (True ∧ S_TR_scan t0_0 t0_1 t0_2 t0_3 t0_4 t0_5 t0_6 t0_7 t0_8 t0_9 t0_10 t0_11 t0_12 t0_13 t1_0 t2_0) ∧ (S_TR_floatBits_c2 t0_0 t0_1 t0_2 t0_3 t0_4 t0_5 t0_6 t0_7 t0_8 t0_9 t0_10 t0_11 t0_12 t0_13 t1_0 t2_0 t3_0 ((F_TR_scan t0_0 t0_1 t0_2 t0_3 t0_4 t0_5 t0_6 t0_7 t0_8 t0_9 t0_10 t0_11 t0_12 t0_13 t1_0 t2_0) : (Int32 × Int32 × Int32 × Int32 × Int32 × Int32 × Int32 × Int32 × Int64 × Int32 × Int32 × Int64 × Int64 × Int32 × Int32 × (Nat → Int32))))
set_option maxRecDepth 100000 in
set_option maxHeartbeats 4000000 in
theorem X_TR_floatBits (l : Launch) (D : va_G) (g : Nat → ClassId) (q : Nat → Nat) (ws : va_W) (hI : q_I (msh g q) q ws) (t0_0 : Int32) (t0_1 : Int32) (t0_2 : Int32) (t0_3 : Int32) (t0_4 : Int32) (t0_5 : Int32) (t0_6 : Int32) (t0_7 : Int64) (t0_8 : Int32) (t0_9 : Int32) (t0_10 : Int64) (t0_11 : Int64) (t0_12 : Int32) (t0_13 : Int32) (hT0 : ws[153]? = (some (q 153, .inr (16, [.int t0_0, .ref (q 154), .int t0_1, .int t0_2, .int t0_3, .int t0_4, .ref (q 155), .int t0_5, .int t0_6, .long t0_7, .ref (q 156), .int t0_8, .int t0_9, .long t0_10, .long t0_11, .int t0_12, .int t0_13])) : Option (Nat × va_E))) (t1_0 : (Nat → Int32)) (hT1 : ws[154]? = (some (q 154, .inl (g 0, (4100 : Int32).toNatClampNeg, .inl t1_0)) : Option (Nat × va_E))) (t2_0 : (Nat → Int32)) (hT2 : ws[155]? = (some (q 155, .inl (g 0, (4100 : Int32).toNatClampNeg, .inl t2_0)) : Option (Nat × va_E))) (t3_0 : (Nat → Int32)) (hT3 : ws[156]? = (some (q 156, .inl (g 0, (800 : Int32).toNatClampNeg, .inl t3_0)) : Option (Nat × va_E))) (hS : True ∧ S_TR_floatBits t0_0 t0_1 t0_2 t0_3 t0_4 t0_5 t0_6 t0_7 t0_8 t0_9 t0_10 t0_11 t0_12 t0_13 t1_0 t2_0 t3_0) : q_mI l y_TR_floatBits prog_18_method_31_code 2 (.int) 6 0 0 D g [.ref (q 153)] ws (fun r u => q_I (msh g q) q u ∧ q_un ws u [153, 155, 156] ∧ ∃ (u0_0 : Int32) (u0_1 : Int32) (u0_2 : Int32) (u0_3 : Int32) (u0_4 : Int32) (u0_5 : Int32) (u0_6 : Int32) (u0_7 : Int64) (u0_8 : Int32) (u0_9 : Int32) (u0_10 : Int64) (u0_11 : Int64) (u0_12 : Int32) (u0_13 : Int32) (u2_0 : (Nat → Int32)) (u3_0 : (Nat → Int32)), u[153]? = (some (q 153, .inr (16, [.int u0_0, .ref (q 154), .int u0_1, .int u0_2, .int u0_3, .int u0_4, .ref (q 155), .int u0_5, .int u0_6, .long u0_7, .ref (q 156), .int u0_8, .int u0_9, .long u0_10, .long u0_11, .int u0_12, .int u0_13])) : Option (Nat × va_E)) ∧ u[155]? = (some (q 155, .inl (g 0, (4100 : Int32).toNatClampNeg, .inl u2_0)) : Option (Nat × va_E)) ∧ u[156]? = (some (q 156, .inl (g 0, (800 : Int32).toNatClampNeg, .inl u3_0)) : Option (Nat × va_E)) ∧ (0 ≤ u0_0.toInt) ∧ (u0_0.toInt ≤ 1) ∧ (0 ≤ u0_2.toInt) ∧ (u0_2.toInt ≤ 3) ∧ (0 ≤ u0_4.toInt) ∧ (u0_4.toInt ≤ 1) ∧ (0 ≤ u0_13.toInt) ∧ (u0_13.toInt ≤ 1) ∧ (t0_1.toInt ≤ u0_1.toInt) ∧ (u0_1.toInt ≤ t0_1.toInt) ∧ (r, u0_0, u0_1, u0_2, u0_3, u0_4, u0_5, u0_6, u0_7, u0_8, u0_9, u0_10, u0_11, u0_12, u0_13, u2_0, u3_0) = (F_TR_floatBits t0_0 t0_1 t0_2 t0_3 t0_4 t0_5 t0_6 t0_7 t0_8 t0_9 t0_10 t0_11 t0_12 t0_13 t1_0 t2_0 t3_0)) := by
  intro sz
  refine q_into (by decide) (Nat.le_of_ble_eq_true rfl) ?_
  intro p e s m below meth c ls hsz C0 V hl
  have hx := C0.1
  have hb := C0.2.1
  obtain ⟨btt0_1, hZ9⟩ := n_w153 hI hT0
  obtain ⟨-, btt0_13⟩ := hZ9
  replace btt0_1 : q_F (0 ≤ t0_1.toInt ∧ t0_1.toInt ≤ 4100) := btt0_1
  replace btt0_13 : q_F (0 ≤ t0_13.toInt ∧ t0_13.toInt ≤ 1) := btt0_13
  have hF : q_un ws ws [153, 155, 156] := q_u0
  have hl : lv_has ls 2 [(0, .ref (q 153))] := hl
  refine lv_aload_n hx hb d_18_31_0 rfl (lv_at hl 0 rfl) ?_
  refine lv_aload_n hx hb d_18_31_1 rfl (lv_at hl 0 rfl) ?_
  have ob28 : True ∧ S_TR_scan t0_0 t0_1 t0_2 t0_3 t0_4 t0_5 t0_6 t0_7 t0_8 t0_9 t0_10 t0_11 t0_12 t0_13 t1_0 t2_0 := (by have h := hS; rw [S_TR_floatBits.eq_1] at h; with_reducible exact h.2.1)
  refine q_goi V (q_runV (As := []) (rest := [.ref (q 153)]) (d := 5) (mc := 0) (ms := 0) (ci := 16) C0 V rfl LV_TR_92 (X_TR_scan l D g q ws   hI t0_0 t0_1 t0_2 t0_3 t0_4 t0_5 t0_6 t0_7 t0_8 t0_9 t0_10 t0_11 t0_12 t0_13 hT0 t1_0 hT1 t2_0 hT2 ob28 _) rfl rfl hT0 rfl hl.1 rfl (Nat.le_of_ble_eq_true rfl) ⟨by decide, by decide⟩ ⟨Nat.le_of_ble_eq_true rfl, Nat.le_of_ble_eq_true rfl⟩ d_18_31_2) (fun a31 u29 H locs hp30 V => ?_)
  obtain ⟨hI, hZ9⟩ := hp30
  obtain ⟨hu72, hZ9⟩ := hZ9
  obtain ⟨y33, hZ9⟩ := hZ9
  obtain ⟨y34, hZ9⟩ := hZ9
  obtain ⟨y35, hZ9⟩ := hZ9
  obtain ⟨y36, hZ9⟩ := hZ9
  obtain ⟨y37, hZ9⟩ := hZ9
  obtain ⟨y38, hZ9⟩ := hZ9
  obtain ⟨y39, hZ9⟩ := hZ9
  obtain ⟨y40, hZ9⟩ := hZ9
  obtain ⟨y41, hZ9⟩ := hZ9
  obtain ⟨y42, hZ9⟩ := hZ9
  obtain ⟨y43, hZ9⟩ := hZ9
  obtain ⟨y44, hZ9⟩ := hZ9
  obtain ⟨y45, hZ9⟩ := hZ9
  obtain ⟨y46, hZ9⟩ := hZ9
  obtain ⟨f47, hZ9⟩ := hZ9
  obtain ⟨hO32, hZ9⟩ := hZ9
  obtain ⟨hA48, hZ9⟩ := hZ9
  replace hZ9 := hZ9.2.2
  obtain ⟨b51, hZ9⟩ := hZ9
  obtain ⟨b52, hZ9⟩ := hZ9
  obtain ⟨b53, hZ9⟩ := hZ9
  obtain ⟨b54, hZ9⟩ := hZ9
  replace hZ9 := hZ9.2.2
  obtain ⟨b57, hZ9⟩ := hZ9
  obtain ⟨b58, hZ9⟩ := hZ9
  replace hZ9 := hZ9.2.2.2.2.2.2.2.2.2.2
  obtain ⟨b69, hZ9⟩ := hZ9
  obtain ⟨b70, hE71⟩ := hZ9
  replace hO32 : u29[153]? = (some (q 153, .inr (16, [.int y33, .ref (q 154), .int y34, .int y35, .int y36, .int y37, .ref (q 155), .int y38, .int y39, .long y40, .ref (q 156), .int y41, .int y42, .long y43, .long y44, .int y45, .int y46])) : Option (Nat × va_E)) := hO32
  replace hA48 : u29[155]? = (some (q 155, .inl (g 0, (4100 : Int32).toNatClampNeg, .inl f47)) : Option (Nat × va_E)) := hA48
  obtain ⟨p73, e74⟩ : ∃ z, z = (F_TR_scan t0_0 t0_1 t0_2 t0_3 t0_4 t0_5 t0_6 t0_7 t0_8 t0_9 t0_10 t0_11 t0_12 t0_13 t1_0 t2_0) := ⟨_, rfl⟩
  have e75 : a31 = p73.1 := congrArg (fun z => z.1) (hE71.trans e74.symm)
  have e76 : y33 = p73.2.1 := congrArg (fun z => z.2.1) (hE71.trans e74.symm)
  have e77 : y34 = p73.2.2.1 := congrArg (fun z => z.2.2.1) (hE71.trans e74.symm)
  have e78 : y35 = p73.2.2.2.1 := congrArg (fun z => z.2.2.2.1) (hE71.trans e74.symm)
  have e79 : y36 = p73.2.2.2.2.1 := congrArg (fun z => z.2.2.2.2.1) (hE71.trans e74.symm)
  have e80 : y37 = p73.2.2.2.2.2.1 := congrArg (fun z => z.2.2.2.2.2.1) (hE71.trans e74.symm)
  have e81 : y38 = p73.2.2.2.2.2.2.1 := congrArg (fun z => z.2.2.2.2.2.2.1) (hE71.trans e74.symm)
  have e82 : y39 = p73.2.2.2.2.2.2.2.1 := congrArg (fun z => z.2.2.2.2.2.2.2.1) (hE71.trans e74.symm)
  have e83 : y40 = p73.2.2.2.2.2.2.2.2.1 := congrArg (fun z => z.2.2.2.2.2.2.2.2.1) (hE71.trans e74.symm)
  have e84 : y41 = p73.2.2.2.2.2.2.2.2.2.1 := congrArg (fun z => z.2.2.2.2.2.2.2.2.2.1) (hE71.trans e74.symm)
  have e85 : y42 = p73.2.2.2.2.2.2.2.2.2.2.1 := congrArg (fun z => z.2.2.2.2.2.2.2.2.2.2.1) (hE71.trans e74.symm)
  have e86 : y43 = p73.2.2.2.2.2.2.2.2.2.2.2.1 := congrArg (fun z => z.2.2.2.2.2.2.2.2.2.2.2.1) (hE71.trans e74.symm)
  have e87 : y44 = p73.2.2.2.2.2.2.2.2.2.2.2.2.1 := congrArg (fun z => z.2.2.2.2.2.2.2.2.2.2.2.2.1) (hE71.trans e74.symm)
  have e88 : y45 = p73.2.2.2.2.2.2.2.2.2.2.2.2.2.1 := congrArg (fun z => z.2.2.2.2.2.2.2.2.2.2.2.2.2.1) (hE71.trans e74.symm)
  have e89 : y46 = p73.2.2.2.2.2.2.2.2.2.2.2.2.2.2.1 := congrArg (fun z => z.2.2.2.2.2.2.2.2.2.2.2.2.2.2.1) (hE71.trans e74.symm)
  have e90 : f47 = p73.2.2.2.2.2.2.2.2.2.2.2.2.2.2.2 := congrArg (fun z => z.2.2.2.2.2.2.2.2.2.2.2.2.2.2.2) (hE71.trans e74.symm)
  replace b51 : q_F (0 ≤ y35.toInt) := b51
  replace b52 : q_F (y35.toInt ≤ 3) := b52
  replace b53 : q_F (0 ≤ y37.toInt) := b53
  replace b54 : q_F (y37.toInt ≤ 1) := b54
  replace b57 : q_F (t0_1.toInt ≤ y34.toInt) := b57
  replace b58 : q_F (y34.toInt ≤ t0_1.toInt) := b58
  replace b69 : q_F (t0_13.toInt ≤ y46.toInt) := b69
  replace b70 : q_F (y46.toInt ≤ t0_13.toInt) := b70
  replace hT3 := (hu72 _ (by decide)).trans hT3
  replace hF := q_uc hF hu72 (by simp)
  have hR91 := (show F_TR_floatBits_c2 t0_0 t0_1 t0_2 t0_3 t0_4 t0_5 t0_6 t0_7 t0_8 t0_9 t0_10 t0_11 t0_12 t0_13 t1_0 t2_0 t3_0 p73 = (F_TR_floatBits t0_0 t0_1 t0_2 t0_3 t0_4 t0_5 t0_6 t0_7 t0_8 t0_9 t0_10 t0_11 t0_12 t0_13 t1_0 t2_0 t3_0) from (by rw [e74, F_TR_floatBits.eq_1]))
  have hS92 := (show True ∧ S_TR_floatBits_c2 t0_0 t0_1 t0_2 t0_3 t0_4 t0_5 t0_6 t0_7 t0_8 t0_9 t0_10 t0_11 t0_12 t0_13 t1_0 t2_0 t3_0 p73 from (by rw [e74]; have h := hS; rw [S_TR_floatBits.eq_1] at h; replace h := q_s2 h; with_reducible exact h))
  refine q_join (X := Int32) (fun z H locs ls _ => q_F (0 ≤ z.toInt) ∧ q_F (z.toInt ≤ 1) ∧ q_Wd D g (va_A ws sz) s u29 H locs ∧ lv_has ls 2 [(0, .ref (q 153))] ∧ F_TR_floatBits_J13 t0_0 t0_1 t0_2 t0_3 t0_4 t0_5 t0_6 t0_7 t0_8 t0_9 t0_10 t0_11 t0_12 t0_13 t1_0 t2_0 t3_0 p73 y33 y34 y35 y36 y37 y38 y39 y40 y41 y42 y43 y44 y45 y46 f47 z = (F_TR_floatBits t0_0 t0_1 t0_2 t0_3 t0_4 t0_5 t0_6 t0_7 t0_8 t0_9 t0_10 t0_11 t0_12 t0_13 t1_0 t2_0 t3_0) ∧ True ∧ S_TR_floatBits_J13 t0_0 t0_1 t0_2 t0_3 t0_4 t0_5 t0_6 t0_7 t0_8 t0_9 t0_10 t0_11 t0_12 t0_13 t1_0 t2_0 t3_0 p73 y33 y34 y35 y36 y37 y38 y39 y40 y41 y42 y43 y44 y45 y46 f47 z) (fun z => [.int z, .ref (q 153)]) 13 0 0 ?_ ?_
  ·
    rintro lx96 H locs ls _ hZ9
    obtain ⟨i102, hZ9⟩ := hZ9
    obtain ⟨i103, hZ9⟩ := hZ9
    obtain ⟨V, hZ9⟩ := hZ9
    obtain ⟨hl, hZ9⟩ := hZ9
    obtain ⟨hR104, hS105⟩ := hZ9
    replace i102 : q_F (0 ≤ lx96.toInt) := i102
    replace i103 : q_F (lx96.toInt ≤ 1) := i103
    replace hl : lv_has ls 2 [(0, .ref (q 153))] := hl
    refine q_put (ci := 16) (j := 0) (v := .int lx96) (ty := .int) C0 V i_TR o_TR n_TR rfl rfl hO32 (by decide) w_2138 rfl rfl rfl rfl (Nat.le_of_ble_eq_true rfl) d_18_31_13 (fun H locs w109 hu110 hO32 V => ?_)
    replace hO32 : w109[153]? = (some (q 153, .inr (16, [.int lx96, .ref (q 154), .int y34, .int y35, .int y36, .int y37, .ref (q 155), .int y38, .int y39, .long y40, .ref (q 156), .int y41, .int y42, .long y43, .long y44, .int y45, .int y46])) : Option (Nat × va_E)) := hO32
    replace hI := n_p153 hI hu110 hO32 ⟨(by have t1 : 0 ≤ t0_1.toInt ∧ t0_1.toInt ≤ 4100 := btt0_1; have t2 : t0_1.toInt ≤ y34.toInt := b57; omega), (by have t1 : 0 ≤ t0_1.toInt ∧ t0_1.toInt ≤ 4100 := btt0_1; have t2 : y34.toInt ≤ t0_1.toInt := b58; omega)⟩ ⟨(by first | with_reducible exact q_fe b53 | (have t1 : 0 ≤ y37.toInt := b53; omega)), (by first | with_reducible exact q_fe b54 | (have t1 : y37.toInt ≤ 1 := b54; omega))⟩ ⟨(by have t1 : 0 ≤ t0_13.toInt ∧ t0_13.toInt ≤ 1 := btt0_13; have t2 : t0_13.toInt ≤ y46.toInt := b69; omega), (by have t1 : 0 ≤ t0_13.toInt ∧ t0_13.toInt ≤ 1 := btt0_13; have t2 : y46.toInt ≤ t0_13.toInt := b70; omega)⟩
    replace hA48 := (hu110 _ (by decide)).trans hA48
    replace hT3 := (hu110 _ (by decide)).trans hT3
    replace hF := q_us hF hu110 (by simp)
    refine lv_aload_n hx hb d_18_31_16 rfl (lv_at hl 0 rfl) ?_
    refine q_get (ci := 16) (j := 0) (v := .int lx96) C0 V i_TR rfl rfl hO32 (by decide) w_2138 rfl d_18_31_17 ?_
    refine lv_if_le (tgt := 25) hx hb d_18_31_20 (by decide) (fun c111 => ?_) (fun c111 => ?_)
    ·
      refine lv_aload_n hx hb d_18_31_25 rfl (lv_at hl 0 rfl) ?_
      refine lv_bipush (v := 24) hx hb d_18_31_26 (by decide) ?_
      refine lv_sipush (v := (-149)) hx hb d_18_31_28 (by decide) ?_
      have ob113 : True ∧ S_TR_sizeRead (24 : Int32) (-149 : Int32) lx96 y34 y35 y36 y37 y38 y39 y40 y41 y42 y43 y44 y45 y46 f47 t3_0 := (by have h := hS105; rw [S_TR_floatBits_J13.eq_1] at h; rw [if_pos c111] at h; with_reducible exact h.2.1)
      refine q_gol V (q_runV (As := [.int 24, .int (-149)]) (rest := []) (d := 4) (mc := 0) (ms := 0) (ci := 16) C0 V rfl LV_TR_172 (X_TR_sizeRead l D g q w109  24 (-149) hI lx96 y34 y35 y36 y37 y38 y39 y40 y41 y42 y43 y44 y45 y46 hO32 f47 hA48 t3_0 hT3 ob113 _) rfl rfl hO32 rfl hl.1 rfl (Nat.le_of_ble_eq_true rfl) ⟨by decide, by decide⟩ ⟨Nat.le_of_ble_eq_true rfl, Nat.le_of_ble_eq_true rfl⟩ d_18_31_31) (fun j116 u114 H locs hp115 V => ?_)
      obtain ⟨hI, hZ9⟩ := hp115
      obtain ⟨hu153, hZ9⟩ := hZ9
      obtain ⟨y118, hZ9⟩ := hZ9
      obtain ⟨y119, hZ9⟩ := hZ9
      obtain ⟨y120, hZ9⟩ := hZ9
      obtain ⟨y121, hZ9⟩ := hZ9
      obtain ⟨y122, hZ9⟩ := hZ9
      obtain ⟨y123, hZ9⟩ := hZ9
      obtain ⟨y124, hZ9⟩ := hZ9
      obtain ⟨y125, hZ9⟩ := hZ9
      obtain ⟨y126, hZ9⟩ := hZ9
      obtain ⟨y127, hZ9⟩ := hZ9
      obtain ⟨y128, hZ9⟩ := hZ9
      obtain ⟨y129, hZ9⟩ := hZ9
      obtain ⟨y130, hZ9⟩ := hZ9
      obtain ⟨y131, hZ9⟩ := hZ9
      obtain ⟨f132, hZ9⟩ := hZ9
      obtain ⟨hO117, hZ9⟩ := hZ9
      obtain ⟨hA133, hZ9⟩ := hZ9
      obtain ⟨b134, hZ9⟩ := hZ9
      obtain ⟨b135, hZ9⟩ := hZ9
      obtain ⟨b136, hZ9⟩ := hZ9
      obtain ⟨b137, hZ9⟩ := hZ9
      obtain ⟨b138, hZ9⟩ := hZ9
      obtain ⟨b139, hZ9⟩ := hZ9
      obtain ⟨b140, hZ9⟩ := hZ9
      obtain ⟨b141, hZ9⟩ := hZ9
      replace hZ9 := hZ9.2.2
      obtain ⟨b144, hZ9⟩ := hZ9
      obtain ⟨b145, hZ9⟩ := hZ9
      replace hZ9 := hZ9.2.2.2.2.2
      obtain ⟨-, hE152⟩ := hZ9
      replace hO117 : u114[153]? = (some (q 153, .inr (16, [.int y118, .ref (q 154), .int y119, .int y120, .int y121, .int y122, .ref (q 155), .int y123, .int y124, .long y125, .ref (q 156), .int y126, .int y127, .long y128, .long y129, .int y130, .int y131])) : Option (Nat × va_E)) := hO117
      replace hA133 : u114[156]? = (some (q 156, .inl (g 0, (800 : Int32).toNatClampNeg, .inl f132)) : Option (Nat × va_E)) := hA133
      obtain ⟨p154, e155⟩ : ∃ z, z = (F_TR_sizeRead (24 : Int32) (-149 : Int32) lx96 y34 y35 y36 y37 y38 y39 y40 y41 y42 y43 y44 y45 y46 f47 t3_0) := ⟨_, rfl⟩
      have e156 : j116 = p154.1 := congrArg (fun z => z.1) (hE152.trans e155.symm)
      have e157 : y118 = p154.2.1 := congrArg (fun z => z.2.1) (hE152.trans e155.symm)
      have e158 : y119 = p154.2.2.1 := congrArg (fun z => z.2.2.1) (hE152.trans e155.symm)
      have e159 : y120 = p154.2.2.2.1 := congrArg (fun z => z.2.2.2.1) (hE152.trans e155.symm)
      have e160 : y121 = p154.2.2.2.2.1 := congrArg (fun z => z.2.2.2.2.1) (hE152.trans e155.symm)
      have e161 : y122 = p154.2.2.2.2.2.1 := congrArg (fun z => z.2.2.2.2.2.1) (hE152.trans e155.symm)
      have e162 : y123 = p154.2.2.2.2.2.2.1 := congrArg (fun z => z.2.2.2.2.2.2.1) (hE152.trans e155.symm)
      have e163 : y124 = p154.2.2.2.2.2.2.2.1 := congrArg (fun z => z.2.2.2.2.2.2.2.1) (hE152.trans e155.symm)
      have e164 : y125 = p154.2.2.2.2.2.2.2.2.1 := congrArg (fun z => z.2.2.2.2.2.2.2.2.1) (hE152.trans e155.symm)
      have e165 : y126 = p154.2.2.2.2.2.2.2.2.2.1 := congrArg (fun z => z.2.2.2.2.2.2.2.2.2.1) (hE152.trans e155.symm)
      have e166 : y127 = p154.2.2.2.2.2.2.2.2.2.2.1 := congrArg (fun z => z.2.2.2.2.2.2.2.2.2.2.1) (hE152.trans e155.symm)
      have e167 : y128 = p154.2.2.2.2.2.2.2.2.2.2.2.1 := congrArg (fun z => z.2.2.2.2.2.2.2.2.2.2.2.1) (hE152.trans e155.symm)
      have e168 : y129 = p154.2.2.2.2.2.2.2.2.2.2.2.2.1 := congrArg (fun z => z.2.2.2.2.2.2.2.2.2.2.2.2.1) (hE152.trans e155.symm)
      have e169 : y130 = p154.2.2.2.2.2.2.2.2.2.2.2.2.2.1 := congrArg (fun z => z.2.2.2.2.2.2.2.2.2.2.2.2.2.1) (hE152.trans e155.symm)
      have e170 : y131 = p154.2.2.2.2.2.2.2.2.2.2.2.2.2.2.1 := congrArg (fun z => z.2.2.2.2.2.2.2.2.2.2.2.2.2.2.1) (hE152.trans e155.symm)
      have e171 : f132 = p154.2.2.2.2.2.2.2.2.2.2.2.2.2.2.2 := congrArg (fun z => z.2.2.2.2.2.2.2.2.2.2.2.2.2.2.2) (hE152.trans e155.symm)
      replace b134 : q_F (0 ≤ y131.toInt) := b134
      replace b135 : q_F (y131.toInt ≤ 1) := b135
      replace b136 : q_F (lx96.toInt ≤ y118.toInt) := b136
      replace b137 : q_F (y118.toInt ≤ lx96.toInt) := b137
      replace b138 : q_F (y34.toInt ≤ y119.toInt) := b138
      replace b139 : q_F (y119.toInt ≤ y34.toInt) := b139
      replace b140 : q_F (y35.toInt ≤ y120.toInt) := b140
      replace b141 : q_F (y120.toInt ≤ y35.toInt) := b141
      replace b144 : q_F (y37.toInt ≤ y122.toInt) := b144
      replace b145 : q_F (y122.toInt ≤ y37.toInt) := b145
      replace hA48 := (hu153 _ (by decide)).trans hA48
      replace hF := q_uc hF hu153 (by simp)
      have hR172 := (show F_TR_floatBits_c31 t0_0 t0_1 t0_2 t0_3 t0_4 t0_5 t0_6 t0_7 t0_8 t0_9 t0_10 t0_11 t0_12 t0_13 t1_0 t2_0 t3_0 p73 y33 y34 y35 y36 y37 y38 y39 y40 y41 y42 y43 y44 y45 y46 f47 lx96 p154 = (F_TR_floatBits t0_0 t0_1 t0_2 t0_3 t0_4 t0_5 t0_6 t0_7 t0_8 t0_9 t0_10 t0_11 t0_12 t0_13 t1_0 t2_0 t3_0) from Eq.trans (by rw [e155, F_TR_floatBits_J13.eq_1, if_pos c111]) hR104)
      have hS173 := (show True ∧ S_TR_floatBits_c31 t0_0 t0_1 t0_2 t0_3 t0_4 t0_5 t0_6 t0_7 t0_8 t0_9 t0_10 t0_11 t0_12 t0_13 t1_0 t2_0 t3_0 p73 y33 y34 y35 y36 y37 y38 y39 y40 y41 y42 y43 y44 y45 y46 f47 lx96 p154 from (by rw [e155]; have h := hS105; rw [S_TR_floatBits_J13.eq_1] at h; rw [if_pos c111] at h; replace h := q_s2 h; with_reducible exact h))
      refine lv_l2i hx hb d_18_31_34 rfl ?_
      obtain ⟨a177, e178⟩ := q_nm (j116.toInt32 : Int32)
      refine q_ti (v := a177) e178 ?_
      refine lv_istore_n (lv' := [(1, .int a177), (0, .ref (q 153))]) hx hb d_18_31_35 rfl hl (by decide) rfl (fun ls hl => ?_)
      refine lv_aload_n hx hb d_18_31_36 rfl (lv_at hl 1 rfl) ?_
      refine q_get (ci := 16) (j := 5) (v := .int y122) C0 V i_TR rfl rfl hO117 (by decide) w_2145 rfl d_18_31_37 ?_
      refine lv_if_eq (tgt := 58) hx hb d_18_31_40 (by decide) (fun c179 => ?_) (fun c179 => ?_)
      ·
        have b180 : q_F (y122.toInt = 0) := (q_eqI c179)
        refine lv_iload_n hx hb d_18_31_58 rfl (lv_at hl 0 rfl) ?_
        exact q_reti C0 V (⟨hI, hF, y118, y119, y120, y121, y122, y123, y124, y125, y126, y127, y128, y129, y130, y131, f47, f132, hO117, hA48, hA133, (show 0 ≤ y118.toInt from (by have t1 : 0 ≤ lx96.toInt := i102; have t2 : lx96.toInt ≤ y118.toInt := b136; omega)), (show y118.toInt ≤ 1 from (by have t1 : lx96.toInt ≤ 1 := i103; have t2 : y118.toInt ≤ lx96.toInt := b137; omega)), (show 0 ≤ y120.toInt from (by have t1 : 0 ≤ y35.toInt := b51; have t2 : y35.toInt ≤ y120.toInt := b140; omega)), (show y120.toInt ≤ 3 from (by have t1 : y35.toInt ≤ 3 := b52; have t2 : y120.toInt ≤ y35.toInt := b141; omega)), (show 0 ≤ y122.toInt from (by first | with_reducible exact q_fe b180 | (have t1 : y122.toInt = 0 := b180; omega))), (show y122.toInt ≤ 1 from (by first | with_reducible exact q_fe b180 | (have t1 : y122.toInt = 0 := b180; omega))), (show 0 ≤ y131.toInt from (by first | with_reducible exact q_fe b134 | (have t1 : 0 ≤ y131.toInt := b134; omega))), (show y131.toInt ≤ 1 from (by first | with_reducible exact q_fe b135 | (have t1 : y131.toInt ≤ 1 := b135; omega))), (show t0_1.toInt ≤ y119.toInt from (by have t1 : t0_1.toInt ≤ y34.toInt := b57; have t2 : y34.toInt ≤ y119.toInt := b138; omega)), (show y119.toInt ≤ t0_1.toInt from (by have t1 : y34.toInt ≤ t0_1.toInt := b58; have t2 : y119.toInt ≤ y34.toInt := b139; omega)), (show (a177, y118, y119, y120, y121, y122, y123, y124, y125, y126, y127, y128, y129, y130, y131, f47, f132) = (F_TR_floatBits t0_0 t0_1 t0_2 t0_3 t0_4 t0_5 t0_6 t0_7 t0_8 t0_9 t0_10 t0_11 t0_12 t0_13 t1_0 t2_0 t3_0) from Eq.trans (by have c179x := c179; rw [e161] at c179x; rw [← e178, e171, e170, e169, e168, e167, e166, e165, e164, e163, e162, e161, e160, e159, e158, e157, e156, F_TR_floatBits_c31.eq_1, if_pos c179x]) hR172)⟩) d_18_31_59
      ·
        refine lv_aload_n hx hb d_18_31_43 rfl (lv_at hl 1 rfl) ?_
        refine q_get (ci := 16) (j := 3) (v := .int y120) C0 V i_TR rfl rfl hO117 (by decide) w_2143 rfl d_18_31_44 ?_
        refine lv_iconst (v := 3) hx hb d_18_31_47 (by decide) ?_
        refine lv_icmp_ge (tgt := 58) hx hb d_18_31_48 (by decide) (fun c182 => ?_) (fun c182 => ?_)
        ·
          have b183 : q_F (3 ≤ y120.toInt) := (q_leI c182)
          refine lv_iload_n hx hb d_18_31_58 rfl (lv_at hl 0 rfl) ?_
          exact q_reti C0 V (⟨hI, hF, y118, y119, y120, y121, y122, y123, y124, y125, y126, y127, y128, y129, y130, y131, f47, f132, hO117, hA48, hA133, (show 0 ≤ y118.toInt from (by have t1 : 0 ≤ lx96.toInt := i102; have t2 : lx96.toInt ≤ y118.toInt := b136; omega)), (show y118.toInt ≤ 1 from (by have t1 : lx96.toInt ≤ 1 := i103; have t2 : y118.toInt ≤ lx96.toInt := b137; omega)), (show 0 ≤ y120.toInt from (by first | with_reducible exact q_fe b183 | (have t1 : 3 ≤ y120.toInt := b183; omega))), (show y120.toInt ≤ 3 from (by have t1 : y35.toInt ≤ 3 := b52; have t2 : y120.toInt ≤ y35.toInt := b141; omega)), (show 0 ≤ y122.toInt from (by have t1 : 0 ≤ y37.toInt := b53; have t2 : y37.toInt ≤ y122.toInt := b144; omega)), (show y122.toInt ≤ 1 from (by have t1 : y37.toInt ≤ 1 := b54; have t2 : y122.toInt ≤ y37.toInt := b145; omega)), (show 0 ≤ y131.toInt from (by first | with_reducible exact q_fe b134 | (have t1 : 0 ≤ y131.toInt := b134; omega))), (show y131.toInt ≤ 1 from (by first | with_reducible exact q_fe b135 | (have t1 : y131.toInt ≤ 1 := b135; omega))), (show t0_1.toInt ≤ y119.toInt from (by have t1 : t0_1.toInt ≤ y34.toInt := b57; have t2 : y34.toInt ≤ y119.toInt := b138; omega)), (show y119.toInt ≤ t0_1.toInt from (by have t1 : y34.toInt ≤ t0_1.toInt := b58; have t2 : y119.toInt ≤ y34.toInt := b139; omega)), (show (a177, y118, y119, y120, y121, y122, y123, y124, y125, y126, y127, y128, y129, y130, y131, f47, f132) = (F_TR_floatBits t0_0 t0_1 t0_2 t0_3 t0_4 t0_5 t0_6 t0_7 t0_8 t0_9 t0_10 t0_11 t0_12 t0_13 t1_0 t2_0 t3_0) from Eq.trans (by have c179x := c179; rw [e161] at c179x; have c182x := c182; rw [e159] at c182x; rw [← e178, e171, e170, e169, e168, e167, e166, e165, e164, e163, e162, e161, e160, e159, e158, e157, e156, F_TR_floatBits_c31.eq_1, if_neg c179x, if_pos c182x]) hR172)⟩) d_18_31_59
        ·
          have b184 : q_F (y120.toInt < 3) := (q_nleI c182)
          refine lv_iload_n hx hb d_18_31_51 rfl (lv_at hl 0 rfl) ?_
          refine q_ldc C0 rfl w_2529 d_18_31_52 ?_
          refine lv_ior hx hb d_18_31_54 ?_
          obtain ⟨a185, e186⟩ := q_nm (a177 ||| (-2147483648) : Int32)
          refine q_ti (v := a185) e186 ?_
          refine lv_goto (tgt := 59) hx hb d_18_31_55 (by decide) ?_
          exact q_reti C0 V (⟨hI, hF, y118, y119, y120, y121, y122, y123, y124, y125, y126, y127, y128, y129, y130, y131, f47, f132, hO117, hA48, hA133, (show 0 ≤ y118.toInt from (by have t1 : 0 ≤ lx96.toInt := i102; have t2 : lx96.toInt ≤ y118.toInt := b136; omega)), (show y118.toInt ≤ 1 from (by have t1 : lx96.toInt ≤ 1 := i103; have t2 : y118.toInt ≤ lx96.toInt := b137; omega)), (show 0 ≤ y120.toInt from (by have t1 : 0 ≤ y35.toInt := b51; have t2 : y35.toInt ≤ y120.toInt := b140; omega)), (show y120.toInt ≤ 3 from (by first | with_reducible exact q_fe b184 | (have t1 : y120.toInt < 3 := b184; omega))), (show 0 ≤ y122.toInt from (by have t1 : 0 ≤ y37.toInt := b53; have t2 : y37.toInt ≤ y122.toInt := b144; omega)), (show y122.toInt ≤ 1 from (by have t1 : y37.toInt ≤ 1 := b54; have t2 : y122.toInt ≤ y37.toInt := b145; omega)), (show 0 ≤ y131.toInt from (by first | with_reducible exact q_fe b134 | (have t1 : 0 ≤ y131.toInt := b134; omega))), (show y131.toInt ≤ 1 from (by first | with_reducible exact q_fe b135 | (have t1 : y131.toInt ≤ 1 := b135; omega))), (show t0_1.toInt ≤ y119.toInt from (by have t1 : t0_1.toInt ≤ y34.toInt := b57; have t2 : y34.toInt ≤ y119.toInt := b138; omega)), (show y119.toInt ≤ t0_1.toInt from (by have t1 : y34.toInt ≤ t0_1.toInt := b58; have t2 : y119.toInt ≤ y34.toInt := b139; omega)), (show (a185, y118, y119, y120, y121, y122, y123, y124, y125, y126, y127, y128, y129, y130, y131, f47, f132) = (F_TR_floatBits t0_0 t0_1 t0_2 t0_3 t0_4 t0_5 t0_6 t0_7 t0_8 t0_9 t0_10 t0_11 t0_12 t0_13 t1_0 t2_0 t3_0) from Eq.trans (by have c179x := c179; rw [e161] at c179x; have c182x := c182; rw [e159] at c182x; rw [← e186, ← e178, e171, e170, e169, e168, e167, e166, e165, e164, e163, e162, e161, e160, e159, e158, e157, e156, F_TR_floatBits_c31.eq_1, if_neg c179x, if_neg c182x]) hR172)⟩) d_18_31_59
    ·
      refine lv_iconst (v := 0) hx hb d_18_31_23 (by decide) ?_
      exact q_reti C0 V (⟨hI, hF, lx96, y34, y35, y36, y37, y38, y39, y40, y41, y42, y43, y44, y45, y46, f47, t3_0, hO32, hA48, hT3, (show 0 ≤ lx96.toInt from (by have z17 : (0 : Int32).toInt = 0 := rfl; have t1 : 0 ≤ lx96.toInt := i102; omega)), (show lx96.toInt ≤ 1 from (by have z17 : (0 : Int32).toInt = 0 := rfl; have t1 : lx96.toInt ≤ 1 := i103; omega)), (show 0 ≤ y35.toInt from (by have z17 : (0 : Int32).toInt = 0 := rfl; have t1 : 0 ≤ y35.toInt := b51; omega)), (show y35.toInt ≤ 3 from (by have z17 : (0 : Int32).toInt = 0 := rfl; have t1 : y35.toInt ≤ 3 := b52; omega)), (show 0 ≤ y37.toInt from (by have z17 : (0 : Int32).toInt = 0 := rfl; have t1 : 0 ≤ y37.toInt := b53; omega)), (show y37.toInt ≤ 1 from (by have z17 : (0 : Int32).toInt = 0 := rfl; have t1 : y37.toInt ≤ 1 := b54; omega)), (show 0 ≤ y46.toInt from (by have z17 : (0 : Int32).toInt = 0 := rfl; have t1 : 0 ≤ t0_13.toInt ∧ t0_13.toInt ≤ 1 := btt0_13; have t2 : t0_13.toInt ≤ y46.toInt := b69; omega)), (show y46.toInt ≤ 1 from (by have z17 : (0 : Int32).toInt = 0 := rfl; have t1 : 0 ≤ t0_13.toInt ∧ t0_13.toInt ≤ 1 := btt0_13; have t2 : y46.toInt ≤ t0_13.toInt := b70; omega)), (show t0_1.toInt ≤ y34.toInt from (by have z17 : (0 : Int32).toInt = 0 := rfl; have t1 : t0_1.toInt ≤ y34.toInt := b57; omega)), (show y34.toInt ≤ t0_1.toInt from (by have z17 : (0 : Int32).toInt = 0 := rfl; have t1 : y34.toInt ≤ t0_1.toInt := b58; omega)), (show ((0 : Int32), lx96, y34, y35, y36, y37, y38, y39, y40, y41, y42, y43, y44, y45, y46, f47, t3_0) = (F_TR_floatBits t0_0 t0_1 t0_2 t0_3 t0_4 t0_5 t0_6 t0_7 t0_8 t0_9 t0_10 t0_11 t0_12 t0_13 t1_0 t2_0 t3_0) from Eq.trans (by rw [F_TR_floatBits_J13.eq_1, if_neg c111]) hR104)⟩) d_18_31_24
  ·
    intro J101
    refine lv_if_eq (tgt := 12) hx hb d_18_31_5 (by decide) (fun c188 => ?_) (fun c188 => ?_)
    ·
      refine lv_iconst (v := 1) hx hb d_18_31_12 (by decide) ?_
      exact J101 ((1 : Int32)) _ _ _ u29 ⟨(show q_F (0 ≤ 1) from (show 0 ≤ 1 from by omega)), (show q_F (1 ≤ 1) from (show 1 ≤ 1 from by omega)), V, q_lw hl (q_lw1 0 rfl q_lw0), (show F_TR_floatBits_J13 t0_0 t0_1 t0_2 t0_3 t0_4 t0_5 t0_6 t0_7 t0_8 t0_9 t0_10 t0_11 t0_12 t0_13 t1_0 t2_0 t3_0 p73 y33 y34 y35 y36 y37 y38 y39 y40 y41 y42 y43 y44 y45 y46 f47 1 = (F_TR_floatBits t0_0 t0_1 t0_2 t0_3 t0_4 t0_5 t0_6 t0_7 t0_8 t0_9 t0_10 t0_11 t0_12 t0_13 t1_0 t2_0 t3_0) from Eq.trans (by have c188x := c188; rw [e75] at c188x; rw [e90, e89, e88, e87, e86, e85, e84, e83, e82, e81, e80, e79, e78, e77, e76, F_TR_floatBits_c2.eq_1, if_pos c188x]) hR91), (show True ∧ S_TR_floatBits_J13 t0_0 t0_1 t0_2 t0_3 t0_4 t0_5 t0_6 t0_7 t0_8 t0_9 t0_10 t0_11 t0_12 t0_13 t1_0 t2_0 t3_0 p73 y33 y34 y35 y36 y37 y38 y39 y40 y41 y42 y43 y44 y45 y46 f47 1 from (by rw [e90, e89, e88, e87, e86, e85, e84, e83, e82, e81, e80, e79, e78, e77, e76]; have h := hS92; rw [S_TR_floatBits_c2.eq_1] at h; have c188x := c188; rw [e75] at c188x; rw [if_pos c188x] at h; with_reducible exact h))⟩
    ·
      refine lv_iconst (v := 0) hx hb d_18_31_8 (by decide) ?_
      refine lv_goto (tgt := 13) hx hb d_18_31_9 (by decide) ?_
      exact J101 ((0 : Int32)) _ _ _ u29 ⟨(show q_F (0 ≤ 0) from (show 0 ≤ 0 from by omega)), (show q_F (0 ≤ 1) from (show 0 ≤ 1 from by omega)), V, q_lw hl (q_lw1 0 rfl q_lw0), (show F_TR_floatBits_J13 t0_0 t0_1 t0_2 t0_3 t0_4 t0_5 t0_6 t0_7 t0_8 t0_9 t0_10 t0_11 t0_12 t0_13 t1_0 t2_0 t3_0 p73 y33 y34 y35 y36 y37 y38 y39 y40 y41 y42 y43 y44 y45 y46 f47 0 = (F_TR_floatBits t0_0 t0_1 t0_2 t0_3 t0_4 t0_5 t0_6 t0_7 t0_8 t0_9 t0_10 t0_11 t0_12 t0_13 t1_0 t2_0 t3_0) from Eq.trans (by have c188x := c188; rw [e75] at c188x; rw [e90, e89, e88, e87, e86, e85, e84, e83, e82, e81, e80, e79, e78, e77, e76, F_TR_floatBits_c2.eq_1, if_neg c188x]) hR91), (show True ∧ S_TR_floatBits_J13 t0_0 t0_1 t0_2 t0_3 t0_4 t0_5 t0_6 t0_7 t0_8 t0_9 t0_10 t0_11 t0_12 t0_13 t1_0 t2_0 t3_0 p73 y33 y34 y35 y36 y37 y38 y39 y40 y41 y42 y43 y44 y45 y46 f47 0 from (by rw [e90, e89, e88, e87, e86, e85, e84, e83, e82, e81, e80, e79, e78, e77, e76]; have h := hS92; rw [S_TR_floatBits_c2.eq_1] at h; have c188x := c188; rw [e75] at c188x; rw [if_neg c188x] at h; with_reducible exact h))⟩

