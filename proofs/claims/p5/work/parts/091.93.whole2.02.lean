theorem d_19_40_0 : decode prog_19_method_40_code 0 = .ok (.aload_n 0, 1) := by decide +kernel
theorem d_19_40_1 : decode prog_19_method_40_code 1 = .ok (.iload_n 1, 1) := by decide +kernel
theorem d_19_40_2 : decode prog_19_method_40_code 2 = .ok (.invokestatic 91, 3) := by decide +kernel
theorem d_19_40_20 : decode prog_19_method_40_code 20 = .ok (.putfield 53, 3) := by decide +kernel
theorem d_19_40_23 : decode prog_19_method_40_code 23 = .ok (.aload_n 0, 1) := by decide +kernel
theorem d_19_40_24 : decode prog_19_method_40_code 24 = .ok (.getfield 53, 3) := by decide +kernel
theorem d_19_40_27 : decode prog_19_method_40_code 27 = .ok (.ifCond .le 5, 3) := by decide +kernel
theorem d_19_40_32 : decode prog_19_method_40_code 32 = .ok (.aload_n 0, 1) := by decide +kernel
theorem d_19_40_33 : decode prog_19_method_40_code 33 = .ok (.getfield 16, 3) := by decide +kernel
theorem d_19_40_36 : decode prog_19_method_40_code 36 = .ok (.iload_n 1, 1) := by decide +kernel
theorem d_19_40_37 : decode prog_19_method_40_code 37 = .ok (.baload, 1) := by decide +kernel
theorem d_19_40_38 : decode prog_19_method_40_code 38 = .ok (.aload_n 0, 1) := by decide +kernel
theorem d_19_40_39 : decode prog_19_method_40_code 39 = .ok (.getfield 16, 3) := by decide +kernel
theorem d_19_40_42 : decode prog_19_method_40_code 42 = .ok (.iload_n 2, 1) := by decide +kernel
theorem d_19_40_43 : decode prog_19_method_40_code 43 = .ok (.baload, 1) := by decide +kernel
theorem d_19_40_44 : decode prog_19_method_40_code 44 = .ok (.if_icmp .eq 18, 3) := by decide +kernel
theorem d_19_40_62 : decode prog_19_method_40_code 62 = .ok (.aload_n 0, 1) := by decide +kernel
theorem d_19_40_63 : decode prog_19_method_40_code 63 = .ok (.iload_n 1, 1) := by decide +kernel
theorem d_19_40_64 : decode prog_19_method_40_code 64 = .ok (.aload_n 0, 1) := by decide +kernel
theorem d_19_40_65 : decode prog_19_method_40_code 65 = .ok (.getfield 35, 3) := by decide +kernel
theorem d_19_40_68 : decode prog_19_method_40_code 68 = .ok (.invokevirtual 107, 3) := by decide +kernel
set_option maxRecDepth 100000 in
theorem w_2655 : (Cond.code ({ cls := "NumberHouseModel$WholeRows", name := "take", desc := "(I[I)V" } : MethodName) prog_19_method_6_code (4 : Nat) (none : Option ClassFile.FieldType)) ∈ q_tbl := q_of12 15 rfl (by decide +kernel)
set_option maxRecDepth 100000 in
theorem w_2652 : (Cond.methodLink "NumberHouseModel$WholeRows" (107 : Nat) ({ cls := "NumberHouseModel$WholeRows", name := "take", desc := "(I[I)V" } : MethodName)) ∈ q_tbl := q_of12 12 rfl (by decide +kernel)
set_option maxRecDepth 100000 in
theorem w_2654 : (Cond.instanceMethod ({ cls := "NumberHouseModel$WholeRows", name := "take", desc := "(I[I)V" } : MethodName)) ∈ q_tbl := q_of12 14 rfl (by decide +kernel)
theorem ws_100 : Cond.selects "NumberHouseModel$WholeRows" (⟨"NumberHouseModel$WholeRows", "take", "(I[I)V"⟩ : MethodName) (⟨"NumberHouseModel$WholeRows", "take", "(I[I)V"⟩ : MethodName) ∈ q_tbl := q_ofs 100 (by decide +kernel) (by decide +kernel)
theorem LV_WR_107 : q_LV "NumberHouseModel$WholeRows" 107 y_WR_take prog_19_method_6_code 4 none 2 := ⟨w_2655, w_15, w_2652, w_2654, ws_100, ⟨by decide, by decide, by decide +kernel⟩⟩
theorem d_19_40_71 : decode prog_19_method_40_code 71 = .ok (.aload_n 0, 1) := by decide +kernel
theorem d_19_40_72 : decode prog_19_method_40_code 72 = .ok (.iload_n 2, 1) := by decide +kernel
theorem d_19_40_73 : decode prog_19_method_40_code 73 = .ok (.aload_n 0, 1) := by decide +kernel
theorem d_19_40_74 : decode prog_19_method_40_code 74 = .ok (.getfield 38, 3) := by decide +kernel
theorem d_19_40_77 : decode prog_19_method_40_code 77 = .ok (.invokevirtual 107, 3) := by decide +kernel
theorem d_19_40_80 : decode prog_19_method_40_code 80 = .ok (.aload_n 0, 1) := by decide +kernel
theorem d_19_40_81 : decode prog_19_method_40_code 81 = .ok (.getfield 35, 3) := by decide +kernel
theorem d_19_40_84 : decode prog_19_method_40_code 84 = .ok (.aload_n 0, 1) := by decide +kernel
theorem d_19_40_85 : decode prog_19_method_40_code 85 = .ok (.getfield 38, 3) := by decide +kernel
theorem d_19_40_88 : decode prog_19_method_40_code 88 = .ok (.invokestatic 71, 3) := by decide +kernel
theorem d_19_40_91 : decode prog_19_method_40_code 91 = .ok (.istore_n 3, 1) := by decide +kernel
theorem d_19_40_92 : decode prog_19_method_40_code 92 = .ok (.aload_n 0, 1) := by decide +kernel
theorem d_19_40_93 : decode prog_19_method_40_code 93 = .ok (.getfield 16, 3) := by decide +kernel
theorem d_19_40_96 : decode prog_19_method_40_code 96 = .ok (.iload_n 1, 1) := by decide +kernel
theorem d_19_40_97 : decode prog_19_method_40_code 97 = .ok (.baload, 1) := by decide +kernel
theorem d_19_40_98 : decode prog_19_method_40_code 98 = .ok (.ifCond .eq 8, 3) := by decide +kernel
theorem d_19_40_106 : decode prog_19_method_40_code 106 = .ok (.iload_n 3, 1) := by decide +kernel
theorem d_19_40_107 : decode prog_19_method_40_code 107 = .ok (.ireturn, 1) := by decide +kernel
theorem d_19_40_101 : decode prog_19_method_40_code 101 = .ok (.iload_n 3, 1) := by decide +kernel
theorem d_19_40_102 : decode prog_19_method_40_code 102 = .ok (.ineg, 1) := by decide +kernel
theorem d_19_40_103 : decode prog_19_method_40_code 103 = .ok (.goto 4, 3) := by decide +kernel
theorem d_19_40_47 : decode prog_19_method_40_code 47 = .ok (.aload_n 0, 1) := by decide +kernel
theorem d_19_40_48 : decode prog_19_method_40_code 48 = .ok (.getfield 16, 3) := by decide +kernel
theorem d_19_40_51 : decode prog_19_method_40_code 51 = .ok (.iload_n 1, 1) := by decide +kernel
theorem d_19_40_52 : decode prog_19_method_40_code 52 = .ok (.baload, 1) := by decide +kernel
theorem d_19_40_53 : decode prog_19_method_40_code 53 = .ok (.ifCond .eq 7, 3) := by decide +kernel
theorem d_19_40_60 : decode prog_19_method_40_code 60 = .ok (.iconst 1, 1) := by decide +kernel
theorem d_19_40_61 : decode prog_19_method_40_code 61 = .ok (.ireturn, 1) := by decide +kernel
theorem d_19_40_56 : decode prog_19_method_40_code 56 = .ok (.iconst (-1), 1) := by decide +kernel
theorem d_19_40_57 : decode prog_19_method_40_code 57 = .ok (.goto 4, 3) := by decide +kernel
theorem d_19_40_30 : decode prog_19_method_40_code 30 = .ok (.iconst 0, 1) := by decide +kernel
theorem d_19_40_31 : decode prog_19_method_40_code 31 = .ok (.ireturn, 1) := by decide +kernel
theorem d_19_40_15 : decode prog_19_method_40_code 15 = .ok (.iconst 1, 1) := by decide +kernel
theorem d_19_40_16 : decode prog_19_method_40_code 16 = .ok (.goto 4, 3) := by decide +kernel
theorem d_19_40_5 : decode prog_19_method_40_code 5 = .ok (.ifCond .ne 10, 3) := by decide +kernel
theorem d_19_40_8 : decode prog_19_method_40_code 8 = .ok (.iload_n 2, 1) := by decide +kernel
theorem d_19_40_9 : decode prog_19_method_40_code 9 = .ok (.invokestatic 91, 3) := by decide +kernel
theorem d_19_40_12 : decode prog_19_method_40_code 12 = .ok (.ifCond .eq 7, 3) := by decide +kernel
theorem d_19_40_19 : decode prog_19_method_40_code 19 = .ok (.iconst 0, 1) := by decide +kernel
def y_WR_compare : MethodName := ⟨"NumberHouseModel$WholeRows", "compare", "(II)I"⟩
def F_WR_compare_J20 (x2 : Int32) (x3 : Int32) (t0_0 : Int32) (t0_1 : Int32) (t0_2 : Int32) (t0_3 : Int32) (t0_4 : Int32) (t0_5 : Int32) (t0_6 : Int32) (t1_0 : (Nat → Int32)) (t2_0 : (Nat → Int32)) (t3_0 : (Nat → Int32)) (t4_0 : (Nat → Int32)) (lx33 : Int32) : Int32 × Int32 × Int32 × Int32 × Int32 × Int32 × Int32 × Int32 × (Nat → Int32) × (Nat → Int32) := if lx33 ≤ (0 : Int32) then (if (t2_0 x2.toNatClampNeg : Int32) = (t2_0 x3.toNatClampNeg : Int32) then (if (t2_0 x2.toNatClampNeg : Int32) = (0 : Int32) then ((((F_WR_compareRows (264 : Int32) (264 : Int32) ((F_WR_take x2 (264 : Int32) lx33 t0_1 t0_2 t0_3 t0_4 t0_5 t0_6 t1_0 t3_0) : (Nat → Int32)) ((F_WR_take x3 (264 : Int32) lx33 t0_1 t0_2 t0_3 t0_4 t0_5 t0_6 t1_0 t4_0) : (Nat → Int32))) : Int32), lx33, t0_1, t0_2, t0_3, t0_4, t0_5, t0_6, ((F_WR_take x2 (264 : Int32) lx33 t0_1 t0_2 t0_3 t0_4 t0_5 t0_6 t1_0 t3_0) : (Nat → Int32)), ((F_WR_take x3 (264 : Int32) lx33 t0_1 t0_2 t0_3 t0_4 t0_5 t0_6 t1_0 t4_0) : (Nat → Int32)))) else (((-((F_WR_compareRows (264 : Int32) (264 : Int32) ((F_WR_take x2 (264 : Int32) lx33 t0_1 t0_2 t0_3 t0_4 t0_5 t0_6 t1_0 t3_0) : (Nat → Int32)) ((F_WR_take x3 (264 : Int32) lx33 t0_1 t0_2 t0_3 t0_4 t0_5 t0_6 t1_0 t4_0) : (Nat → Int32))) : Int32) : Int32), lx33, t0_1, t0_2, t0_3, t0_4, t0_5, t0_6, ((F_WR_take x2 (264 : Int32) lx33 t0_1 t0_2 t0_3 t0_4 t0_5 t0_6 t1_0 t3_0) : (Nat → Int32)), ((F_WR_take x3 (264 : Int32) lx33 t0_1 t0_2 t0_3 t0_4 t0_5 t0_6 t1_0 t4_0) : (Nat → Int32))))) else (if (t2_0 x2.toNatClampNeg : Int32) = (0 : Int32) then (((1 : Int32), lx33, t0_1, t0_2, t0_3, t0_4, t0_5, t0_6, t3_0, t4_0)) else (((-1 : Int32), lx33, t0_1, t0_2, t0_3, t0_4, t0_5, t0_6, t3_0, t4_0)))) else (((0 : Int32), lx33, t0_1, t0_2, t0_3, t0_4, t0_5, t0_6, t3_0, t4_0))
def F_WR_compare_J15 (x2 : Int32) (x3 : Int32) (t0_0 : Int32) (t0_1 : Int32) (t0_2 : Int32) (t0_3 : Int32) (t0_4 : Int32) (t0_5 : Int32) (t0_6 : Int32) (t1_0 : (Nat → Int32)) (t2_0 : (Nat → Int32)) (t3_0 : (Nat → Int32)) (t4_0 : (Nat → Int32)) : Int32 × Int32 × Int32 × Int32 × Int32 × Int32 × Int32 × Int32 × (Nat → Int32) × (Nat → Int32) := F_WR_compare_J20 x2 x3 t0_0 t0_1 t0_2 t0_3 t0_4 t0_5 t0_6 t1_0 t2_0 t3_0 t4_0 1
def F_WR_compare (x2 : Int32) (x3 : Int32) (t0_0 : Int32) (t0_1 : Int32) (t0_2 : Int32) (t0_3 : Int32) (t0_4 : Int32) (t0_5 : Int32) (t0_6 : Int32) (t1_0 : (Nat → Int32)) (t2_0 : (Nat → Int32)) (t3_0 : (Nat → Int32)) (t4_0 : (Nat → Int32)) : Int32 × Int32 × Int32 × Int32 × Int32 × Int32 × Int32 × Int32 × (Nat → Int32) × (Nat → Int32) := if ((F_WR_no x2) : Int32) = (0 : Int32) then (if ((F_WR_no x3) : Int32) = (0 : Int32) then (F_WR_compare_J20 x2 x3 t0_0 t0_1 t0_2 t0_3 t0_4 t0_5 t0_6 t1_0 t2_0 t3_0 t4_0 0) else (F_WR_compare_J15 x2 x3 t0_0 t0_1 t0_2 t0_3 t0_4 t0_5 t0_6 t1_0 t2_0 t3_0 t4_0)) else (F_WR_compare_J15 x2 x3 t0_0 t0_1 t0_2 t0_3 t0_4 t0_5 t0_6 t1_0 t2_0 t3_0 t4_0)
def S_WR_compare_J20 (x2 : Int32) (x3 : Int32) (t0_0 : Int32) (t0_1 : Int32) (t0_2 : Int32) (t0_3 : Int32) (t0_4 : Int32) (t0_5 : Int32) (t0_6 : Int32) (t1_0 : (Nat → Int32)) (t2_0 : (Nat → Int32)) (t3_0 : (Nat → Int32)) (t4_0 : (Nat → Int32)) (lx33 : Int32) : Prop := if lx33 ≤ (0 : Int32) then ((0 ≤ x2.toInt) ∧ ((x2.toInt ≤ 10) ∧ ((0 ≤ x3.toInt) ∧ ((x3.toInt ≤ 10) ∧ (if (t2_0 x2.toNatClampNeg : Int32) = (t2_0 x3.toNatClampNeg : Int32) then ((True ∧ S_WR_take x2 (264 : Int32) lx33 t0_1 t0_2 t0_3 t0_4 t0_5 t0_6 t1_0 t3_0) ∧ ((True ∧ S_WR_take x3 (264 : Int32) lx33 t0_1 t0_2 t0_3 t0_4 t0_5 t0_6 t1_0 t4_0) ∧ ((True ∧ S_WR_compareRows (264 : Int32) (264 : Int32) ((F_WR_take x2 (264 : Int32) lx33 t0_1 t0_2 t0_3 t0_4 t0_5 t0_6 t1_0 t3_0) : (Nat → Int32)) ((F_WR_take x3 (264 : Int32) lx33 t0_1 t0_2 t0_3 t0_4 t0_5 t0_6 t1_0 t4_0) : (Nat → Int32))) ∧ (if (t2_0 x2.toNatClampNeg : Int32) = (0 : Int32) then (True) else (True))))) else (if (t2_0 x2.toNatClampNeg : Int32) = (0 : Int32) then (True) else (True))))))) else (True)
def S_WR_compare_J15 (x2 : Int32) (x3 : Int32) (t0_0 : Int32) (t0_1 : Int32) (t0_2 : Int32) (t0_3 : Int32) (t0_4 : Int32) (t0_5 : Int32) (t0_6 : Int32) (t1_0 : (Nat → Int32)) (t2_0 : (Nat → Int32)) (t3_0 : (Nat → Int32)) (t4_0 : (Nat → Int32)) : Prop := S_WR_compare_J20 x2 x3 t0_0 t0_1 t0_2 t0_3 t0_4 t0_5 t0_6 t1_0 t2_0 t3_0 t4_0 1
def S_WR_compare (x2 : Int32) (x3 : Int32) (t0_0 : Int32) (t0_1 : Int32) (t0_2 : Int32) (t0_3 : Int32) (t0_4 : Int32) (t0_5 : Int32) (t0_6 : Int32) (t1_0 : (Nat → Int32)) (t2_0 : (Nat → Int32)) (t3_0 : (Nat → Int32)) (t4_0 : (Nat → Int32)) : Prop := if ((F_WR_no x2) : Int32) = (0 : Int32) then (if ((F_WR_no x3) : Int32) = (0 : Int32) then (S_WR_compare_J20 x2 x3 t0_0 t0_1 t0_2 t0_3 t0_4 t0_5 t0_6 t1_0 t2_0 t3_0 t4_0 0) else (S_WR_compare_J15 x2 x3 t0_0 t0_1 t0_2 t0_3 t0_4 t0_5 t0_6 t1_0 t2_0 t3_0 t4_0)) else (S_WR_compare_J15 x2 x3 t0_0 t0_1 t0_2 t0_3 t0_4 t0_5 t0_6 t1_0 t2_0 t3_0 t4_0)
set_option maxRecDepth 100000 in
set_option maxHeartbeats 4000000 in
theorem X_WR_compare (l : Launch) (D : va_G) (g : Nat → ClassId) (q : Nat → Nat) (ws : va_W) (x2 : Int32) (x3 : Int32) (hI : q_I (msh g q) q ws) (t0_0 : Int32) (t0_1 : Int32) (t0_2 : Int32) (t0_3 : Int32) (t0_4 : Int32) (t0_5 : Int32) (t0_6 : Int32) (hT0 : ws[119]? = (some (q 119, .inr (13, [.int t0_0, .int t0_1, .ref (q 120), .int t0_2, .ref (q 121), .ref (q 122), .ref (q 123), .int t0_3, .ref (q 124), .ref (q 125), .ref (q 126), .ref (q 127), .ref (q 128), .ref (q 129), .ref (q 130), .ref (q 131), .int t0_4, .int t0_5, .ref (q 132), .ref (q 133), .int t0_6])) : Option (Nat × va_E))) (t1_0 : (Nat → Int32)) (hT1 : ws[121]? = (some (q 121, .inl (g 0, (1408 : Int32).toNatClampNeg, .inl t1_0)) : Option (Nat × va_E))) (t2_0 : (Nat → Int32)) (hT2 : ws[122]? = (some (q 122, .inl (g 3, 11, .inl t2_0)) : Option (Nat × va_E))) (t3_0 : (Nat → Int32)) (hT3 : ws[128]? = (some (q 128, .inl (g 0, (264 : Int32).toNatClampNeg, .inl t3_0)) : Option (Nat × va_E))) (t4_0 : (Nat → Int32)) (hT4 : ws[129]? = (some (q 129, .inl (g 0, (264 : Int32).toNatClampNeg, .inl t4_0)) : Option (Nat × va_E))) (hS : True ∧ S_WR_compare x2 x3 t0_0 t0_1 t0_2 t0_3 t0_4 t0_5 t0_6 t1_0 t2_0 t3_0 t4_0) : q_mI l y_WR_compare prog_19_method_40_code 4 (.int) 2 0 0 D g [.ref (q 119), .int x2, .int x3] ws (fun r u => q_I (msh g q) q u ∧ q_un ws u [119, 128, 129] ∧ ∃ (u0_0 : Int32) (u0_1 : Int32) (u0_2 : Int32) (u0_3 : Int32) (u0_4 : Int32) (u0_5 : Int32) (u0_6 : Int32) (u3_0 : (Nat → Int32)) (u4_0 : (Nat → Int32)), u[119]? = (some (q 119, .inr (13, [.int u0_0, .int u0_1, .ref (q 120), .int u0_2, .ref (q 121), .ref (q 122), .ref (q 123), .int u0_3, .ref (q 124), .ref (q 125), .ref (q 126), .ref (q 127), .ref (q 128), .ref (q 129), .ref (q 130), .ref (q 131), .int u0_4, .int u0_5, .ref (q 132), .ref (q 133), .int u0_6])) : Option (Nat × va_E)) ∧ u[128]? = (some (q 128, .inl (g 0, (264 : Int32).toNatClampNeg, .inl u3_0)) : Option (Nat × va_E)) ∧ u[129]? = (some (q 129, .inl (g 0, (264 : Int32).toNatClampNeg, .inl u4_0)) : Option (Nat × va_E)) ∧ (r.toInt ≤ 1) ∧ (0 ≤ u0_0.toInt) ∧ (u0_0.toInt ≤ 1) ∧ (t0_1.toInt ≤ u0_1.toInt) ∧ (u0_1.toInt ≤ t0_1.toInt) ∧ (t0_2.toInt ≤ u0_2.toInt) ∧ (u0_2.toInt ≤ t0_2.toInt) ∧ (t0_3.toInt ≤ u0_3.toInt) ∧ (u0_3.toInt ≤ t0_3.toInt) ∧ (t0_4.toInt ≤ u0_4.toInt) ∧ (u0_4.toInt ≤ t0_4.toInt) ∧ (t0_5.toInt ≤ u0_5.toInt) ∧ (u0_5.toInt ≤ t0_5.toInt) ∧ (t0_6.toInt ≤ u0_6.toInt) ∧ (u0_6.toInt ≤ t0_6.toInt) ∧ (u0_0.toInt ≤ r.toInt + 1) ∧ (r, u0_0, u0_1, u0_2, u0_3, u0_4, u0_5, u0_6, u3_0, u4_0) = (F_WR_compare x2 x3 t0_0 t0_1 t0_2 t0_3 t0_4 t0_5 t0_6 t1_0 t2_0 t3_0 t4_0)) := by
  intro sz
  refine q_into (by decide) (Nat.le_of_ble_eq_true rfl) ?_
  intro p e s m below meth c ls hsz C0 V hl
  have hx := C0.1
  have hb := C0.2.1
  obtain ⟨btt0_2, hZ9⟩ := n_w119 hI hT0
  obtain ⟨btt0_3, hZ9⟩ := hZ9
  obtain ⟨btt0_4, hZ9⟩ := hZ9
  obtain ⟨btt0_5, btt0_6⟩ := hZ9
  replace btt0_2 : q_F (0 ≤ t0_2.toInt ∧ t0_2.toInt ≤ 4100) := btt0_2
  replace btt0_3 : q_F (0 ≤ t0_3.toInt ∧ t0_3.toInt ≤ 1) := btt0_3
  replace btt0_4 : q_F (0 ≤ t0_4.toInt ∧ t0_4.toInt ≤ 1) := btt0_4
  replace btt0_5 : q_F (0 ≤ t0_5.toInt ∧ t0_5.toInt ≤ 1) := btt0_5
  replace btt0_6 : q_F (0 ≤ t0_6.toInt ∧ t0_6.toInt ≤ 2100) := btt0_6
  have hF : q_un ws ws [119, 128, 129] := q_u0
  have hl : lv_has ls 4 [(0, .ref (q 119)), (1, .int x2), (2, .int x3)] := hl
  refine lv_aload_n hx hb d_19_40_0 rfl (lv_at hl 0 rfl) ?_
  refine lv_iload_n hx hb d_19_40_1 rfl (lv_at hl 1 rfl) ?_
  refine q_goi V (q_runS (As := [.int x2]) (rest := [.ref (q 119)]) (d := 1) (mc := 0) (ms := 0) C0 V rfl LS_WR_91 (X_WR_no l D g q ws  x2 hI   _) rfl hl.1 rfl (Nat.le_of_ble_eq_true rfl) ⟨by decide, by decide⟩ ⟨Nat.le_of_ble_eq_true rfl, Nat.le_of_ble_eq_true rfl⟩ d_19_40_2) (fun a28 u26 H locs hp27 V => ?_)
  obtain ⟨rfl, b29, b30, hE31⟩ := hp27
  have e32 : a28 = (F_WR_no x2) := hE31
  clear b29
  clear b30
  refine q_join (X := Int32) (fun z H locs ls _ => q_F (0 ≤ z.toInt) ∧ q_F (z.toInt ≤ 1) ∧ q_Wd D g (va_A ws sz) s ws H locs ∧ lv_has ls 4 [(0, .ref (q 119)), (1, .int x2), (2, .int x3)] ∧ F_WR_compare_J20 x2 x3 t0_0 t0_1 t0_2 t0_3 t0_4 t0_5 t0_6 t1_0 t2_0 t3_0 t4_0 z = (F_WR_compare x2 x3 t0_0 t0_1 t0_2 t0_3 t0_4 t0_5 t0_6 t1_0 t2_0 t3_0 t4_0) ∧ True ∧ S_WR_compare_J20 x2 x3 t0_0 t0_1 t0_2 t0_3 t0_4 t0_5 t0_6 t1_0 t2_0 t3_0 t4_0 z) (fun z => [.int z, .ref (q 119)]) 20 0 0 ?_ ?_
  ·
    rintro lx33 H locs ls _ hZ9
    obtain ⟨i40, hZ9⟩ := hZ9
    obtain ⟨i41, hZ9⟩ := hZ9
    obtain ⟨V, hZ9⟩ := hZ9
    obtain ⟨hl, hZ9⟩ := hZ9
    obtain ⟨hR42, hS43⟩ := hZ9
    replace i40 : q_F (0 ≤ lx33.toInt) := i40
    replace i41 : q_F (lx33.toInt ≤ 1) := i41
    replace hl : lv_has ls 4 [(0, .ref (q 119)), (1, .int x2), (2, .int x3)] := hl
    refine q_put (ci := 13) (j := 0) (v := .int lx33) (ty := .int) C0 V i_WR o_WR n_WR rfl rfl hT0 (by decide) w_1921 rfl rfl rfl rfl (Nat.le_of_ble_eq_true rfl) d_19_40_20 (fun H locs w47 hu48 hT0 V => ?_)
    replace hT0 : w47[119]? = (some (q 119, .inr (13, [.int lx33, .int t0_1, .ref (q 120), .int t0_2, .ref (q 121), .ref (q 122), .ref (q 123), .int t0_3, .ref (q 124), .ref (q 125), .ref (q 126), .ref (q 127), .ref (q 128), .ref (q 129), .ref (q 130), .ref (q 131), .int t0_4, .int t0_5, .ref (q 132), .ref (q 133), .int t0_6])) : Option (Nat × va_E)) := hT0
    replace hI := n_p119 hI hu48 hT0 (by first | with_reducible exact q_fe btt0_2 | exact ⟨(by have t1 : 0 ≤ t0_2.toInt ∧ t0_2.toInt ≤ 4100 := btt0_2; omega), (by have t1 : 0 ≤ t0_2.toInt ∧ t0_2.toInt ≤ 4100 := btt0_2; omega)⟩) (by first | with_reducible exact q_fe btt0_3 | exact ⟨(by have t1 : 0 ≤ t0_3.toInt ∧ t0_3.toInt ≤ 1 := btt0_3; omega), (by have t1 : 0 ≤ t0_3.toInt ∧ t0_3.toInt ≤ 1 := btt0_3; omega)⟩) (by first | with_reducible exact q_fe btt0_4 | exact ⟨(by have t1 : 0 ≤ t0_4.toInt ∧ t0_4.toInt ≤ 1 := btt0_4; omega), (by have t1 : 0 ≤ t0_4.toInt ∧ t0_4.toInt ≤ 1 := btt0_4; omega)⟩) (by first | with_reducible exact q_fe btt0_5 | exact ⟨(by have t1 : 0 ≤ t0_5.toInt ∧ t0_5.toInt ≤ 1 := btt0_5; omega), (by have t1 : 0 ≤ t0_5.toInt ∧ t0_5.toInt ≤ 1 := btt0_5; omega)⟩) (by first | with_reducible exact q_fe btt0_6 | exact ⟨(by have t1 : 0 ≤ t0_6.toInt ∧ t0_6.toInt ≤ 2100 := btt0_6; omega), (by have t1 : 0 ≤ t0_6.toInt ∧ t0_6.toInt ≤ 2100 := btt0_6; omega)⟩)
    replace hT1 := (hu48 _ (by decide)).trans hT1
    replace hT2 := (hu48 _ (by decide)).trans hT2
    replace hT3 := (hu48 _ (by decide)).trans hT3
    replace hT4 := (hu48 _ (by decide)).trans hT4
    replace hF := q_us hF hu48 (by simp)
    refine lv_aload_n hx hb d_19_40_23 rfl (lv_at hl 0 rfl) ?_
    refine q_get (ci := 13) (j := 0) (v := .int lx33) C0 V i_WR rfl rfl hT0 (by decide) w_1921 rfl d_19_40_24 ?_
    refine lv_if_le (tgt := 32) hx hb d_19_40_27 (by decide) (fun c49 => ?_) (fun c49 => ?_)
    ·
      have b50 : q_F (lx33.toInt ≤ 0) := (q_leI c49)
      refine lv_aload_n hx hb d_19_40_32 rfl (lv_at hl 0 rfl) ?_
      refine q_get (ci := 13) (j := 5) (v := .ref (q 122)) C0 V i_WR rfl rfl hT0 (by decide) w_1929 rfl d_19_40_33 ?_
      refine lv_iload_n hx hb d_19_40_36 rfl (lv_at hl 1 rfl) ?_
      have ob51 : q_F (0 ≤ x2.toInt) := (by have h := hS43; rw [S_WR_compare_J20.eq_1] at h; rw [if_pos c49] at h; exact h.2.1)
      have ob52 : q_F (x2.toInt ≤ 10) := (by have h := hS43; rw [S_WR_compare_J20.eq_1] at h; rw [if_pos c49] at h; replace h := q_s2 h; exact h.2.1)
      refine q_zald C0 V hT2 (q_ix (x := x2.toInt) rfl (by first | with_reducible exact q_fe ob51 | (have t1 : 0 ≤ x2.toInt := ob51; omega)) (by have t1 : 0 ≤ x2.toInt := ob51; have t2 : x2.toInt ≤ 10 := ob52; omega)) d_19_40_37 ?_
      obtain ⟨a53, e54⟩ := q_nm (t2_0 x2.toNatClampNeg : Int32)
      refine q_ti (v := a53) e54 ?_
      refine lv_aload_n hx hb d_19_40_38 rfl (lv_at hl 0 rfl) ?_
      refine q_get (ci := 13) (j := 5) (v := .ref (q 122)) C0 V i_WR rfl rfl hT0 (by decide) w_1929 rfl d_19_40_39 ?_
      refine lv_iload_n hx hb d_19_40_42 rfl (lv_at hl 2 rfl) ?_
      have ob55 : q_F (0 ≤ x3.toInt) := (by have h := hS43; rw [S_WR_compare_J20.eq_1] at h; rw [if_pos c49] at h; replace h := q_s2 h; replace h := q_s2 h; exact h.2.1)
      have ob56 : q_F (x3.toInt ≤ 10) := (by have h := hS43; rw [S_WR_compare_J20.eq_1] at h; rw [if_pos c49] at h; replace h := q_s2 h; replace h := q_s2 h; replace h := q_s2 h; exact h.2.1)
      refine q_zald C0 V hT2 (q_ix (x := x3.toInt) rfl (by first | with_reducible exact q_fe ob55 | (have t1 : 0 ≤ x3.toInt := ob55; omega)) (by have t1 : 0 ≤ x3.toInt := ob55; have t2 : x3.toInt ≤ 10 := ob56; omega)) d_19_40_43 ?_
      obtain ⟨a57, e58⟩ := q_nm (t2_0 x3.toNatClampNeg : Int32)
      refine q_ti (v := a57) e58 ?_
      refine lv_icmp_eq (tgt := 62) hx hb d_19_40_44 (by decide) (fun c59 => ?_) (fun c59 => ?_)
      ·
        refine lv_aload_n hx hb d_19_40_62 rfl (lv_at hl 0 rfl) ?_
        refine lv_iload_n hx hb d_19_40_63 rfl (lv_at hl 1 rfl) ?_
        refine lv_aload_n hx hb d_19_40_64 rfl (lv_at hl 0 rfl) ?_
        refine q_get (ci := 13) (j := 12) (v := .ref (q 128)) C0 V i_WR rfl rfl hT0 (by decide) w_1936 rfl d_19_40_65 ?_
        have ob61 : True ∧ S_WR_take x2 (264 : Int32) lx33 t0_1 t0_2 t0_3 t0_4 t0_5 t0_6 t1_0 t3_0 := (by have h := hS43; rw [S_WR_compare_J20.eq_1] at h; rw [if_pos c49] at h; replace h := q_s2 h; replace h := q_s2 h; replace h := q_s2 h; replace h := q_s2 h; have c59x := c59; rw [← e58, ← e54] at c59x; rw [if_pos c59x] at h; with_reducible exact h.2.1)
        refine q_gov V (q_runV (As := [.int x2, .ref (q 128)]) (rest := []) (d := 1) (mc := 0) (ms := 0) (ci := 13) C0 V rfl LV_WR_107 (X_WR_take l D g q w47 128 264 (n_r128 g q) x2 (by decide) hI lx33 t0_1 t0_2 t0_3 t0_4 t0_5 t0_6 hT0 t1_0 hT1 t3_0 hT3 ob61 _) rfl rfl hT0 rfl hl.1 rfl (Nat.le_of_ble_eq_true rfl) ⟨by decide, by decide⟩ ⟨Nat.le_of_ble_eq_true rfl, Nat.le_of_ble_eq_true rfl⟩ d_19_40_68) (fun u62 H locs hp63 V => ?_)
        obtain ⟨hI, hu67, f64, hA65, hE66⟩ := hp63
        replace hA65 : u62[128]? = (some (q 128, .inl (g 0, (264 : Int32).toNatClampNeg, .inl f64)) : Option (Nat × va_E)) := hA65
        have e68 : f64 = (F_WR_take x2 (264 : Int32) lx33 t0_1 t0_2 t0_3 t0_4 t0_5 t0_6 t1_0 t3_0) := hE66
        replace hT0 := (hu67 _ (by decide)).trans hT0
        replace hT1 := (hu67 _ (by decide)).trans hT1
        replace hT2 := (hu67 _ (by decide)).trans hT2
        replace hT4 := (hu67 _ (by decide)).trans hT4
        replace hF := q_uc hF hu67 (by simp)
        refine lv_aload_n hx hb d_19_40_71 rfl (lv_at hl 0 rfl) ?_
        refine lv_iload_n hx hb d_19_40_72 rfl (lv_at hl 2 rfl) ?_
        refine lv_aload_n hx hb d_19_40_73 rfl (lv_at hl 0 rfl) ?_
        refine q_get (ci := 13) (j := 13) (v := .ref (q 129)) C0 V i_WR rfl rfl hT0 (by decide) w_1937 rfl d_19_40_74 ?_
        have ob69 : True ∧ S_WR_take x3 (264 : Int32) lx33 t0_1 t0_2 t0_3 t0_4 t0_5 t0_6 t1_0 t4_0 := (by have h := hS43; rw [S_WR_compare_J20.eq_1] at h; rw [if_pos c49] at h; replace h := q_s2 h; replace h := q_s2 h; replace h := q_s2 h; replace h := q_s2 h; have c59x := c59; rw [← e58, ← e54] at c59x; rw [if_pos c59x] at h; replace h := q_s2 h; with_reducible exact h.2.1)
        refine q_gov V (q_runV (As := [.int x3, .ref (q 129)]) (rest := []) (d := 1) (mc := 0) (ms := 0) (ci := 13) C0 V rfl LV_WR_107 (X_WR_take l D g q u62 129 264 (n_r129 g q) x3 (by decide) hI lx33 t0_1 t0_2 t0_3 t0_4 t0_5 t0_6 hT0 t1_0 hT1 t4_0 hT4 ob69 _) rfl rfl hT0 rfl hl.1 rfl (Nat.le_of_ble_eq_true rfl) ⟨by decide, by decide⟩ ⟨Nat.le_of_ble_eq_true rfl, Nat.le_of_ble_eq_true rfl⟩ d_19_40_77) (fun u70 H locs hp71 V => ?_)
        obtain ⟨hI, hu75, f72, hA73, hE74⟩ := hp71
        replace hA73 : u70[129]? = (some (q 129, .inl (g 0, (264 : Int32).toNatClampNeg, .inl f72)) : Option (Nat × va_E)) := hA73
        have e76 : f72 = (F_WR_take x3 (264 : Int32) lx33 t0_1 t0_2 t0_3 t0_4 t0_5 t0_6 t1_0 t4_0) := hE74
        replace hT0 := (hu75 _ (by decide)).trans hT0
        replace hT2 := (hu75 _ (by decide)).trans hT2
        replace hA65 := (hu75 _ (by decide)).trans hA65
        replace hF := q_uc hF hu75 (by simp)
        refine lv_aload_n hx hb d_19_40_80 rfl (lv_at hl 0 rfl) ?_
        refine q_get (ci := 13) (j := 12) (v := .ref (q 128)) C0 V i_WR rfl rfl hT0 (by decide) w_1936 rfl d_19_40_81 ?_
        refine lv_aload_n hx hb d_19_40_84 rfl (lv_at hl 0 rfl) ?_
        refine q_get (ci := 13) (j := 13) (v := .ref (q 129)) C0 V i_WR rfl rfl hT0 (by decide) w_1937 rfl d_19_40_85 ?_
        have ob77 : True ∧ S_WR_compareRows (264 : Int32) (264 : Int32) f64 f72 := (by rw [e76, e68]; have h := hS43; rw [S_WR_compare_J20.eq_1] at h; rw [if_pos c49] at h; replace h := q_s2 h; replace h := q_s2 h; replace h := q_s2 h; replace h := q_s2 h; have c59x := c59; rw [← e58, ← e54] at c59x; rw [if_pos c59x] at h; replace h := q_s2 h; replace h := q_s2 h; with_reducible exact h.2.1)
        refine q_goi V (q_runS (As := [.ref (q 128), .ref (q 129)]) (rest := []) (d := 1) (mc := 0) (ms := 0) C0 V rfl LS_WR_71 (X_WR_compareRows l D g q u70 128 264 (n_r128 g q) 129 264 (n_r129 g q)  hI f64 hA65 f72 hA73 ob77 _) rfl hl.1 rfl (Nat.le_of_ble_eq_true rfl) ⟨by decide, by decide⟩ ⟨Nat.le_of_ble_eq_true rfl, Nat.le_of_ble_eq_true rfl⟩ d_19_40_88) (fun a80 u78 H locs hp79 V => ?_)
        obtain ⟨rfl, hZ9⟩ := hp79
        obtain ⟨b81, hZ9⟩ := hZ9
        obtain ⟨b82, hZ9⟩ := hZ9
        replace hZ9 := hZ9.2
        obtain ⟨-, hE85⟩ := hZ9
        have e86 : a80 = (F_WR_compareRows (264 : Int32) (264 : Int32) f64 f72) := hE85
        replace b81 : q_F (0 ≤ a80.toInt + 1) := b81
        replace b82 : q_F (a80.toInt ≤ 1) := b82
        refine lv_istore_n (lv' := [(3, .int a80), (0, .ref (q 119)), (1, .int x2), (2, .int x3)]) hx hb d_19_40_91 rfl hl (by decide) rfl (fun ls hl => ?_)
        refine lv_aload_n hx hb d_19_40_92 rfl (lv_at hl 1 rfl) ?_
        refine q_get (ci := 13) (j := 5) (v := .ref (q 122)) C0 V i_WR rfl rfl hT0 (by decide) w_1929 rfl d_19_40_93 ?_
        refine lv_iload_n hx hb d_19_40_96 rfl (lv_at hl 2 rfl) ?_
        refine q_zald C0 V hT2 (q_ix (x := x2.toInt) rfl (by first | with_reducible exact q_fe ob51 | (have t1 : 0 ≤ x2.toInt := ob51; omega)) (by have t1 : 0 ≤ x2.toInt := ob51; have t2 : x2.toInt ≤ 10 := ob52; omega)) d_19_40_97 ?_
        obtain ⟨a87, e88⟩ := q_nm (t2_0 x2.toNatClampNeg : Int32)
        refine q_ti (v := a87) e88 ?_
        refine lv_if_eq (tgt := 106) hx hb d_19_40_98 (by decide) (fun c89 => ?_) (fun c89 => ?_)
        ·
          refine lv_iload_n hx hb d_19_40_106 rfl (lv_at hl 0 rfl) ?_
          exact q_reti C0 V (⟨hI, hF, lx33, t0_1, t0_2, t0_3, t0_4, t0_5, t0_6, f64, f72, hT0, hA65, hA73, (show a80.toInt ≤ 1 from (by first | with_reducible exact q_fe b82 | (have t1 : a80.toInt ≤ 1 := b82; omega))), (show 0 ≤ lx33.toInt from (by first | with_reducible exact q_fe i40 | (have t1 : 0 ≤ lx33.toInt := i40; omega))), (show lx33.toInt ≤ 1 from (by first | with_reducible exact q_fe i41 | (have t1 : lx33.toInt ≤ 1 := i41; omega))), (show t0_1.toInt ≤ t0_1.toInt from (by omega)), (show t0_1.toInt ≤ t0_1.toInt from (by omega)), (show t0_2.toInt ≤ t0_2.toInt from (by omega)), (show t0_2.toInt ≤ t0_2.toInt from (by omega)), (show t0_3.toInt ≤ t0_3.toInt from (by omega)), (show t0_3.toInt ≤ t0_3.toInt from (by omega)), (show t0_4.toInt ≤ t0_4.toInt from (by omega)), (show t0_4.toInt ≤ t0_4.toInt from (by omega)), (show t0_5.toInt ≤ t0_5.toInt from (by omega)), (show t0_5.toInt ≤ t0_5.toInt from (by omega)), (show t0_6.toInt ≤ t0_6.toInt from (by omega)), (show t0_6.toInt ≤ t0_6.toInt from (by omega)), (show lx33.toInt ≤ a80.toInt + 1 from (by have t1 : lx33.toInt ≤ 0 := b50; have t2 : 0 ≤ a80.toInt + 1 := b81; omega)), (show (a80, lx33, t0_1, t0_2, t0_3, t0_4, t0_5, t0_6, f64, f72) = (F_WR_compare x2 x3 t0_0 t0_1 t0_2 t0_3 t0_4 t0_5 t0_6 t1_0 t2_0 t3_0 t4_0) from Eq.trans (by have c59x := c59; rw [← e58, ← e54] at c59x; have c89x := c89; rw [← e88] at c89x; rw [e86, e76, e68, F_WR_compare_J20.eq_1, if_pos c49, if_pos c59x, if_pos c89x]) hR42)⟩) d_19_40_107
        ·
          refine lv_iload_n hx hb d_19_40_101 rfl (lv_at hl 0 rfl) ?_
          refine lv_ineg hx hb d_19_40_102 ?_
          obtain ⟨a92, e93⟩ := q_nm (-a80 : Int32)
          refine q_ti (v := a92) e93 ?_
          have b94 : q_F (a92.toInt = -a80.toInt) := (by rw [← e93]; show (-a80 : Int32).toInt = -a80.toInt; exact q_negI rfl (by first | with_reducible exact q_fe b81 | (have t1 : 0 ≤ a80.toInt + 1 := b81; omega)))
          refine lv_goto (tgt := 107) hx hb d_19_40_103 (by decide) ?_
          exact q_reti C0 V (⟨hI, hF, lx33, t0_1, t0_2, t0_3, t0_4, t0_5, t0_6, f64, f72, hT0, hA65, hA73, (show a92.toInt ≤ 1 from (by have t1 : 0 ≤ a80.toInt + 1 := b81; have t2 : a92.toInt = -a80.toInt := b94; omega)), (show 0 ≤ lx33.toInt from (by first | with_reducible exact q_fe i40 | (have t1 : 0 ≤ lx33.toInt := i40; omega))), (show lx33.toInt ≤ 1 from (by first | with_reducible exact q_fe i41 | (have t1 : lx33.toInt ≤ 1 := i41; omega))), (show t0_1.toInt ≤ t0_1.toInt from (by omega)), (show t0_1.toInt ≤ t0_1.toInt from (by omega)), (show t0_2.toInt ≤ t0_2.toInt from (by omega)), (show t0_2.toInt ≤ t0_2.toInt from (by omega)), (show t0_3.toInt ≤ t0_3.toInt from (by omega)), (show t0_3.toInt ≤ t0_3.toInt from (by omega)), (show t0_4.toInt ≤ t0_4.toInt from (by omega)), (show t0_4.toInt ≤ t0_4.toInt from (by omega)), (show t0_5.toInt ≤ t0_5.toInt from (by omega)), (show t0_5.toInt ≤ t0_5.toInt from (by omega)), (show t0_6.toInt ≤ t0_6.toInt from (by omega)), (show t0_6.toInt ≤ t0_6.toInt from (by omega)), (show lx33.toInt ≤ a92.toInt + 1 from (by have t1 : lx33.toInt ≤ 0 := b50; have t2 : a80.toInt ≤ 1 := b82; have t3 : a92.toInt = -a80.toInt := b94; omega)), (show (a92, lx33, t0_1, t0_2, t0_3, t0_4, t0_5, t0_6, f64, f72) = (F_WR_compare x2 x3 t0_0 t0_1 t0_2 t0_3 t0_4 t0_5 t0_6 t1_0 t2_0 t3_0 t4_0) from Eq.trans (by have c59x := c59; rw [← e58, ← e54] at c59x; have c89x := c89; rw [← e88] at c89x; rw [← e93, e86, e76, e68, F_WR_compare_J20.eq_1, if_pos c49, if_pos c59x, if_neg c89x]) hR42)⟩) d_19_40_107
      ·
        refine lv_aload_n hx hb d_19_40_47 rfl (lv_at hl 0 rfl) ?_
        refine q_get (ci := 13) (j := 5) (v := .ref (q 122)) C0 V i_WR rfl rfl hT0 (by decide) w_1929 rfl d_19_40_48 ?_
        refine lv_iload_n hx hb d_19_40_51 rfl (lv_at hl 1 rfl) ?_
        refine q_zald C0 V hT2 (q_ix (x := x2.toInt) rfl (by first | with_reducible exact q_fe ob51 | (have t1 : 0 ≤ x2.toInt := ob51; omega)) (by have t1 : 0 ≤ x2.toInt := ob51; have t2 : x2.toInt ≤ 10 := ob52; omega)) d_19_40_52 ?_
        obtain ⟨a96, e97⟩ := q_nm (t2_0 x2.toNatClampNeg : Int32)
        refine q_ti (v := a96) e97 ?_
        refine lv_if_eq (tgt := 60) hx hb d_19_40_53 (by decide) (fun c98 => ?_) (fun c98 => ?_)
        ·
          refine lv_iconst (v := 1) hx hb d_19_40_60 (by decide) ?_
          exact q_reti C0 V (⟨hI, hF, lx33, t0_1, t0_2, t0_3, t0_4, t0_5, t0_6, t3_0, t4_0, hT0, hT3, hT4, (show (1 : Int32).toInt ≤ 1 from (by have z13 : (1 : Int32).toInt = 1 := rfl; omega)), (show 0 ≤ lx33.toInt from (by have z13 : (1 : Int32).toInt = 1 := rfl; have t1 : 0 ≤ lx33.toInt := i40; omega)), (show lx33.toInt ≤ 1 from (by have z13 : (1 : Int32).toInt = 1 := rfl; have t1 : lx33.toInt ≤ 1 := i41; omega)), (show t0_1.toInt ≤ t0_1.toInt from (by have z13 : (1 : Int32).toInt = 1 := rfl; omega)), (show t0_1.toInt ≤ t0_1.toInt from (by have z13 : (1 : Int32).toInt = 1 := rfl; omega)), (show t0_2.toInt ≤ t0_2.toInt from (by have z13 : (1 : Int32).toInt = 1 := rfl; omega)), (show t0_2.toInt ≤ t0_2.toInt from (by have z13 : (1 : Int32).toInt = 1 := rfl; omega)), (show t0_3.toInt ≤ t0_3.toInt from (by have z13 : (1 : Int32).toInt = 1 := rfl; omega)), (show t0_3.toInt ≤ t0_3.toInt from (by have z13 : (1 : Int32).toInt = 1 := rfl; omega)), (show t0_4.toInt ≤ t0_4.toInt from (by have z13 : (1 : Int32).toInt = 1 := rfl; omega)), (show t0_4.toInt ≤ t0_4.toInt from (by have z13 : (1 : Int32).toInt = 1 := rfl; omega)), (show t0_5.toInt ≤ t0_5.toInt from (by have z13 : (1 : Int32).toInt = 1 := rfl; omega)), (show t0_5.toInt ≤ t0_5.toInt from (by have z13 : (1 : Int32).toInt = 1 := rfl; omega)), (show t0_6.toInt ≤ t0_6.toInt from (by have z13 : (1 : Int32).toInt = 1 := rfl; omega)), (show t0_6.toInt ≤ t0_6.toInt from (by have z13 : (1 : Int32).toInt = 1 := rfl; omega)), (show lx33.toInt ≤ (1 : Int32).toInt + 1 from (by have z13 : (1 : Int32).toInt = 1 := rfl; have t1 : lx33.toInt ≤ 1 := i41; omega)), (show ((1 : Int32), lx33, t0_1, t0_2, t0_3, t0_4, t0_5, t0_6, t3_0, t4_0) = (F_WR_compare x2 x3 t0_0 t0_1 t0_2 t0_3 t0_4 t0_5 t0_6 t1_0 t2_0 t3_0 t4_0) from Eq.trans (by have c59x := c59; rw [← e58, ← e54] at c59x; have c98x := c98; rw [← e97] at c98x; rw [F_WR_compare_J20.eq_1, if_pos c49, if_neg c59x, if_pos c98x]) hR42)⟩) d_19_40_61
        ·
          refine lv_iconst (v := (-1)) hx hb d_19_40_56 (by decide) ?_
          refine lv_goto (tgt := 61) hx hb d_19_40_57 (by decide) ?_
          exact q_reti C0 V (⟨hI, hF, lx33, t0_1, t0_2, t0_3, t0_4, t0_5, t0_6, t3_0, t4_0, hT0, hT3, hT4, (show (-1 : Int32).toInt ≤ 1 from (by have z13 : (-1 : Int32).toInt = -1 := rfl; omega)), (show 0 ≤ lx33.toInt from (by have z13 : (-1 : Int32).toInt = -1 := rfl; have t1 : 0 ≤ lx33.toInt := i40; omega)), (show lx33.toInt ≤ 1 from (by have z13 : (-1 : Int32).toInt = -1 := rfl; have t1 : lx33.toInt ≤ 1 := i41; omega)), (show t0_1.toInt ≤ t0_1.toInt from (by have z13 : (-1 : Int32).toInt = -1 := rfl; omega)), (show t0_1.toInt ≤ t0_1.toInt from (by have z13 : (-1 : Int32).toInt = -1 := rfl; omega)), (show t0_2.toInt ≤ t0_2.toInt from (by have z13 : (-1 : Int32).toInt = -1 := rfl; omega)), (show t0_2.toInt ≤ t0_2.toInt from (by have z13 : (-1 : Int32).toInt = -1 := rfl; omega)), (show t0_3.toInt ≤ t0_3.toInt from (by have z13 : (-1 : Int32).toInt = -1 := rfl; omega)), (show t0_3.toInt ≤ t0_3.toInt from (by have z13 : (-1 : Int32).toInt = -1 := rfl; omega)), (show t0_4.toInt ≤ t0_4.toInt from (by have z13 : (-1 : Int32).toInt = -1 := rfl; omega)), (show t0_4.toInt ≤ t0_4.toInt from (by have z13 : (-1 : Int32).toInt = -1 := rfl; omega)), (show t0_5.toInt ≤ t0_5.toInt from (by have z13 : (-1 : Int32).toInt = -1 := rfl; omega)), (show t0_5.toInt ≤ t0_5.toInt from (by have z13 : (-1 : Int32).toInt = -1 := rfl; omega)), (show t0_6.toInt ≤ t0_6.toInt from (by have z13 : (-1 : Int32).toInt = -1 := rfl; omega)), (show t0_6.toInt ≤ t0_6.toInt from (by have z13 : (-1 : Int32).toInt = -1 := rfl; omega)), (show lx33.toInt ≤ (-1 : Int32).toInt + 1 from (by have z13 : (-1 : Int32).toInt = -1 := rfl; have t1 : lx33.toInt ≤ 0 := b50; omega)), (show ((-1 : Int32), lx33, t0_1, t0_2, t0_3, t0_4, t0_5, t0_6, t3_0, t4_0) = (F_WR_compare x2 x3 t0_0 t0_1 t0_2 t0_3 t0_4 t0_5 t0_6 t1_0 t2_0 t3_0 t4_0) from Eq.trans (by have c59x := c59; rw [← e58, ← e54] at c59x; have c98x := c98; rw [← e97] at c98x; rw [F_WR_compare_J20.eq_1, if_pos c49, if_neg c59x, if_neg c98x]) hR42)⟩) d_19_40_61
    ·
      refine lv_iconst (v := 0) hx hb d_19_40_30 (by decide) ?_
      exact q_reti C0 V (⟨hI, hF, lx33, t0_1, t0_2, t0_3, t0_4, t0_5, t0_6, t3_0, t4_0, hT0, hT3, hT4, (show (0 : Int32).toInt ≤ 1 from (by have z13 : (0 : Int32).toInt = 0 := rfl; omega)), (show 0 ≤ lx33.toInt from (by have z13 : (0 : Int32).toInt = 0 := rfl; have t1 : 0 ≤ lx33.toInt := i40; omega)), (show lx33.toInt ≤ 1 from (by have z13 : (0 : Int32).toInt = 0 := rfl; have t1 : lx33.toInt ≤ 1 := i41; omega)), (show t0_1.toInt ≤ t0_1.toInt from (by have z13 : (0 : Int32).toInt = 0 := rfl; omega)), (show t0_1.toInt ≤ t0_1.toInt from (by have z13 : (0 : Int32).toInt = 0 := rfl; omega)), (show t0_2.toInt ≤ t0_2.toInt from (by have z13 : (0 : Int32).toInt = 0 := rfl; omega)), (show t0_2.toInt ≤ t0_2.toInt from (by have z13 : (0 : Int32).toInt = 0 := rfl; omega)), (show t0_3.toInt ≤ t0_3.toInt from (by have z13 : (0 : Int32).toInt = 0 := rfl; omega)), (show t0_3.toInt ≤ t0_3.toInt from (by have z13 : (0 : Int32).toInt = 0 := rfl; omega)), (show t0_4.toInt ≤ t0_4.toInt from (by have z13 : (0 : Int32).toInt = 0 := rfl; omega)), (show t0_4.toInt ≤ t0_4.toInt from (by have z13 : (0 : Int32).toInt = 0 := rfl; omega)), (show t0_5.toInt ≤ t0_5.toInt from (by have z13 : (0 : Int32).toInt = 0 := rfl; omega)), (show t0_5.toInt ≤ t0_5.toInt from (by have z13 : (0 : Int32).toInt = 0 := rfl; omega)), (show t0_6.toInt ≤ t0_6.toInt from (by have z13 : (0 : Int32).toInt = 0 := rfl; omega)), (show t0_6.toInt ≤ t0_6.toInt from (by have z13 : (0 : Int32).toInt = 0 := rfl; omega)), (show lx33.toInt ≤ (0 : Int32).toInt + 1 from (by have z13 : (0 : Int32).toInt = 0 := rfl; have t1 : lx33.toInt ≤ 1 := i41; omega)), (show ((0 : Int32), lx33, t0_1, t0_2, t0_3, t0_4, t0_5, t0_6, t3_0, t4_0) = (F_WR_compare x2 x3 t0_0 t0_1 t0_2 t0_3 t0_4 t0_5 t0_6 t1_0 t2_0 t3_0 t4_0) from Eq.trans (by rw [F_WR_compare_J20.eq_1, if_neg c49]) hR42)⟩) d_19_40_31
  ·
    intro J39
    refine q_join (X := Unit) (fun z H locs ls _ => q_Wd D g (va_A ws sz) s ws H locs ∧ lv_has ls 4 [(0, .ref (q 119)), (1, .int x2), (2, .int x3)] ∧ F_WR_compare_J15 x2 x3 t0_0 t0_1 t0_2 t0_3 t0_4 t0_5 t0_6 t1_0 t2_0 t3_0 t4_0 = (F_WR_compare x2 x3 t0_0 t0_1 t0_2 t0_3 t0_4 t0_5 t0_6 t1_0 t2_0 t3_0 t4_0) ∧ True ∧ S_WR_compare_J15 x2 x3 t0_0 t0_1 t0_2 t0_3 t0_4 t0_5 t0_6 t1_0 t2_0 t3_0 t4_0) (fun z => [.ref (q 119)]) 15 0 0 ?_ ?_
    ·
      rintro _ H locs ls _ ⟨V, hl, hR108, hS109⟩
      replace hl : lv_has ls 4 [(0, .ref (q 119)), (1, .int x2), (2, .int x3)] := hl
      refine lv_iconst (v := 1) hx hb d_19_40_15 (by decide) ?_
      refine lv_goto (tgt := 20) hx hb d_19_40_16 (by decide) ?_
      exact J39 ((1 : Int32)) _ _ _ ws ⟨(show q_F (0 ≤ 1) from (show 0 ≤ 1 from by omega)), (show q_F (1 ≤ 1) from (show 1 ≤ 1 from by omega)), V, q_lw hl (q_lw1 0 rfl (q_lw1 1 rfl (q_lw1 2 rfl q_lw0))), (show F_WR_compare_J20 x2 x3 t0_0 t0_1 t0_2 t0_3 t0_4 t0_5 t0_6 t1_0 t2_0 t3_0 t4_0 1 = (F_WR_compare x2 x3 t0_0 t0_1 t0_2 t0_3 t0_4 t0_5 t0_6 t1_0 t2_0 t3_0 t4_0) from Eq.trans (by rw [F_WR_compare_J15.eq_1]) hR108), (show True ∧ S_WR_compare_J20 x2 x3 t0_0 t0_1 t0_2 t0_3 t0_4 t0_5 t0_6 t1_0 t2_0 t3_0 t4_0 1 from (by have h := hS109; rw [S_WR_compare_J15.eq_1] at h; with_reducible exact h))⟩
    ·
      intro J107
      refine lv_if_ne (tgt := 15) hx hb d_19_40_5 (by decide) (fun c113 => ?_) (fun c113 => ?_)
      ·
        exact J107 (()) _ _ _ ws ⟨V, q_lw hl (q_lw1 0 rfl (q_lw1 1 rfl (q_lw1 2 rfl q_lw0))), (show F_WR_compare_J15 x2 x3 t0_0 t0_1 t0_2 t0_3 t0_4 t0_5 t0_6 t1_0 t2_0 t3_0 t4_0 = (F_WR_compare x2 x3 t0_0 t0_1 t0_2 t0_3 t0_4 t0_5 t0_6 t1_0 t2_0 t3_0 t4_0) from (by have c113x := c113; rw [e32] at c113x; rw [F_WR_compare.eq_1, if_neg c113x])), (show True ∧ S_WR_compare_J15 x2 x3 t0_0 t0_1 t0_2 t0_3 t0_4 t0_5 t0_6 t1_0 t2_0 t3_0 t4_0 from (by have h := hS; rw [S_WR_compare.eq_1] at h; have c113x := c113; rw [e32] at c113x; rw [if_neg c113x] at h; with_reducible exact h))⟩
      ·
        refine lv_iload_n hx hb d_19_40_8 rfl (lv_at hl 2 rfl) ?_
        refine q_goi V (q_runS (As := [.int x3]) (rest := [.ref (q 119)]) (d := 1) (mc := 0) (ms := 0) C0 V rfl LS_WR_91 (X_WR_no l D g q ws  x3 hI   _) rfl hl.1 rfl (Nat.le_of_ble_eq_true rfl) ⟨by decide, by decide⟩ ⟨Nat.le_of_ble_eq_true rfl, Nat.le_of_ble_eq_true rfl⟩ d_19_40_9) (fun a118 u116 H locs hp117 V => ?_)
        obtain ⟨rfl, b119, b120, hE121⟩ := hp117
        have e122 : a118 = (F_WR_no x3) := hE121
        clear b119
        clear b120
        refine lv_if_eq (tgt := 19) hx hb d_19_40_12 (by decide) (fun c123 => ?_) (fun c123 => ?_)
        ·
          refine lv_iconst (v := 0) hx hb d_19_40_19 (by decide) ?_
          exact J39 ((0 : Int32)) _ _ _ ws ⟨(show q_F (0 ≤ 0) from (show 0 ≤ 0 from by omega)), (show q_F (0 ≤ 1) from (show 0 ≤ 1 from by omega)), V, q_lw hl (q_lw1 0 rfl (q_lw1 1 rfl (q_lw1 2 rfl q_lw0))), (show F_WR_compare_J20 x2 x3 t0_0 t0_1 t0_2 t0_3 t0_4 t0_5 t0_6 t1_0 t2_0 t3_0 t4_0 0 = (F_WR_compare x2 x3 t0_0 t0_1 t0_2 t0_3 t0_4 t0_5 t0_6 t1_0 t2_0 t3_0 t4_0) from (by have c113x := c113; rw [e32] at c113x; have c123x := c123; rw [e122] at c123x; rw [F_WR_compare.eq_1, if_pos c113x, if_pos c123x])), (show True ∧ S_WR_compare_J20 x2 x3 t0_0 t0_1 t0_2 t0_3 t0_4 t0_5 t0_6 t1_0 t2_0 t3_0 t4_0 0 from (by have h := hS; rw [S_WR_compare.eq_1] at h; have c113x := c113; rw [e32] at c113x; rw [if_pos c113x] at h; have c123x := c123; rw [e122] at c123x; rw [if_pos c123x] at h; with_reducible exact h))⟩
        ·
          exact J107 (()) _ _ _ ws ⟨V, q_lw hl (q_lw1 0 rfl (q_lw1 1 rfl (q_lw1 2 rfl q_lw0))), (show F_WR_compare_J15 x2 x3 t0_0 t0_1 t0_2 t0_3 t0_4 t0_5 t0_6 t1_0 t2_0 t3_0 t4_0 = (F_WR_compare x2 x3 t0_0 t0_1 t0_2 t0_3 t0_4 t0_5 t0_6 t1_0 t2_0 t3_0 t4_0) from (by have c113x := c113; rw [e32] at c113x; have c123x := c123; rw [e122] at c123x; rw [F_WR_compare.eq_1, if_pos c113x, if_neg c123x])), (show True ∧ S_WR_compare_J15 x2 x3 t0_0 t0_1 t0_2 t0_3 t0_4 t0_5 t0_6 t1_0 t2_0 t3_0 t4_0 from (by have h := hS; rw [S_WR_compare.eq_1] at h; have c113x := c113; rw [e32] at c113x; rw [if_pos c113x] at h; have c123x := c123; rw [e122] at c123x; rw [if_neg c123x] at h; with_reducible exact h))⟩
theorem d_19_21_0 : decode prog_19_method_21_code 0 = .ok (.iload_n 2, 1) := by decide +kernel
theorem d_19_21_1 : decode prog_19_method_21_code 1 = .ok (.iload 4, 2) := by decide +kernel
theorem d_19_21_3 : decode prog_19_method_21_code 3 = .ok (.if_icmp .ne 33, 3) := by decide +kernel
theorem d_19_21_36 : decode prog_19_method_21_code 36 = .ok (.aload_n 1, 1) := by decide +kernel
theorem d_19_21_37 : decode prog_19_method_21_code 37 = .ok (.aload_n 3, 1) := by decide +kernel
theorem d_19_21_38 : decode prog_19_method_21_code 38 = .ok (.invokestatic 71, 3) := by decide +kernel
theorem d_19_21_41 : decode prog_19_method_21_code 41 = .ok (.ifCond .lt 33, 3) := by decide +kernel
theorem d_19_21_74 : decode prog_19_method_21_code 74 = .ok (.aload_n 3, 1) := by decide +kernel
theorem d_19_21_75 : decode prog_19_method_21_code 75 = .ok (.aload_n 0, 1) := by decide +kernel
theorem d_19_21_76 : decode prog_19_method_21_code 76 = .ok (.getfield 20, 3) := by decide +kernel
theorem d_19_21_79 : decode prog_19_method_21_code 79 = .ok (.invokestatic 67, 3) := by decide +kernel
theorem d_19_21_82 : decode prog_19_method_21_code 82 = .ok (.aload_n 0, 1) := by decide +kernel
theorem d_19_21_83 : decode prog_19_method_21_code 83 = .ok (.getfield 20, 3) := by decide +kernel
theorem d_19_21_86 : decode prog_19_method_21_code 86 = .ok (.aload_n 1, 1) := by decide +kernel
theorem d_19_21_87 : decode prog_19_method_21_code 87 = .ok (.aload_n 1, 1) := by decide +kernel
theorem d_19_21_88 : decode prog_19_method_21_code 88 = .ok (.invokestatic 59, 3) := by decide +kernel
theorem d_19_21_91 : decode prog_19_method_21_code 91 = .ok (.lconst 1, 1) := by decide +kernel
theorem d_19_21_92 : decode prog_19_method_21_code 92 = .ok (.iconst 1, 1) := by decide +kernel
theorem d_19_21_93 : decode prog_19_method_21_code 93 = .ok (.invokestatic 75, 3) := by decide +kernel
theorem d_19_21_96 : decode prog_19_method_21_code 96 = .ok (.aload_n 0, 1) := by decide +kernel
theorem d_19_21_97 : decode prog_19_method_21_code 97 = .ok (.iload 4, 2) := by decide +kernel
theorem d_19_21_99 : decode prog_19_method_21_code 99 = .ok (.putfield 82, 3) := by decide +kernel
theorem d_19_21_102 : decode prog_19_method_21_code 102 = .ok (.return_, 1) := by decide +kernel
theorem d_19_21_44 : decode prog_19_method_21_code 44 = .ok (.aload_n 1, 1) := by decide +kernel
theorem d_19_21_45 : decode prog_19_method_21_code 45 = .ok (.aload_n 0, 1) := by decide +kernel
theorem d_19_21_46 : decode prog_19_method_21_code 46 = .ok (.getfield 20, 3) := by decide +kernel
theorem d_19_21_49 : decode prog_19_method_21_code 49 = .ok (.invokestatic 67, 3) := by decide +kernel
theorem d_19_21_52 : decode prog_19_method_21_code 52 = .ok (.aload_n 0, 1) := by decide +kernel
theorem d_19_21_53 : decode prog_19_method_21_code 53 = .ok (.getfield 20, 3) := by decide +kernel
theorem d_19_21_56 : decode prog_19_method_21_code 56 = .ok (.aload_n 3, 1) := by decide +kernel
theorem d_19_21_57 : decode prog_19_method_21_code 57 = .ok (.aload_n 3, 1) := by decide +kernel
theorem d_19_21_58 : decode prog_19_method_21_code 58 = .ok (.invokestatic 59, 3) := by decide +kernel
theorem d_19_21_61 : decode prog_19_method_21_code 61 = .ok (.lconst 1, 1) := by decide +kernel
theorem d_19_21_62 : decode prog_19_method_21_code 62 = .ok (.iconst 1, 1) := by decide +kernel
theorem d_19_21_63 : decode prog_19_method_21_code 63 = .ok (.invokestatic 75, 3) := by decide +kernel
theorem d_19_21_66 : decode prog_19_method_21_code 66 = .ok (.aload_n 0, 1) := by decide +kernel
theorem d_19_21_67 : decode prog_19_method_21_code 67 = .ok (.iload_n 2, 1) := by decide +kernel
theorem d_19_21_68 : decode prog_19_method_21_code 68 = .ok (.putfield 82, 3) := by decide +kernel
theorem d_19_21_71 : decode prog_19_method_21_code 71 = .ok (.goto 31, 3) := by decide +kernel
theorem d_19_21_6 : decode prog_19_method_21_code 6 = .ok (.aload_n 1, 1) := by decide +kernel
theorem d_19_21_7 : decode prog_19_method_21_code 7 = .ok (.aload_n 0, 1) := by decide +kernel
theorem d_19_21_8 : decode prog_19_method_21_code 8 = .ok (.getfield 20, 3) := by decide +kernel
theorem d_19_21_11 : decode prog_19_method_21_code 11 = .ok (.invokestatic 67, 3) := by decide +kernel
theorem d_19_21_14 : decode prog_19_method_21_code 14 = .ok (.aload_n 0, 1) := by decide +kernel
theorem d_19_21_15 : decode prog_19_method_21_code 15 = .ok (.getfield 20, 3) := by decide +kernel
theorem d_19_21_18 : decode prog_19_method_21_code 18 = .ok (.aload_n 3, 1) := by decide +kernel
theorem d_19_21_19 : decode prog_19_method_21_code 19 = .ok (.aload_n 3, 1) := by decide +kernel
theorem d_19_21_20 : decode prog_19_method_21_code 20 = .ok (.invokestatic 59, 3) := by decide +kernel
theorem d_19_21_23 : decode prog_19_method_21_code 23 = .ok (.lconst 1, 1) := by decide +kernel
theorem d_19_21_24 : decode prog_19_method_21_code 24 = .ok (.iconst 0, 1) := by decide +kernel
theorem d_19_21_25 : decode prog_19_method_21_code 25 = .ok (.invokestatic 75, 3) := by decide +kernel
theorem d_19_21_28 : decode prog_19_method_21_code 28 = .ok (.aload_n 0, 1) := by decide +kernel
theorem d_19_21_29 : decode prog_19_method_21_code 29 = .ok (.iload_n 2, 1) := by decide +kernel
theorem d_19_21_30 : decode prog_19_method_21_code 30 = .ok (.putfield 82, 3) := by decide +kernel
theorem d_19_21_33 : decode prog_19_method_21_code 33 = .ok (.goto 69, 3) := by decide +kernel
def y_WR_sum : MethodName := ⟨"NumberHouseModel$WholeRows", "sum", "([IZ[IZ)V"⟩
def F_WR_sum (N2 : Int32) (x3 : Int32) (N4 : Int32) (x5 : Int32) (t0_0 : Int32) (t0_1 : Int32) (t0_2 : Int32) (t0_3 : Int32) (t0_4 : Int32) (t0_5 : Int32) (t0_6 : Int32) (t1_0 : (Nat → Int32)) (t2_0 : (Nat → Int32)) (t3_0 : (Nat → Int32)) : Int32 × Int32 × Int32 × Int32 × Int32 × Int32 × Int32 × (Nat → Int32) := if x3 = x5 then ((t0_0, t0_1, t0_2, x3, t0_4, t0_5, t0_6, ((F_WR_join (264 : Int32) N4 ((F_WR_size N4 t3_0) : Int32) (1 : Int64) (0 : Int32) ((F_WR_copy N2 (264 : Int32) t2_0 t1_0) : (Nat → Int32)) t3_0) : (Nat → Int32)))) else (if ((F_WR_compareRows N2 N4 t2_0 t3_0) : Int32) < (0 : Int32) then ((t0_0, t0_1, t0_2, x5, t0_4, t0_5, t0_6, ((F_WR_join (264 : Int32) N2 ((F_WR_size N2 t2_0) : Int32) (1 : Int64) (1 : Int32) ((F_WR_copy N4 (264 : Int32) t3_0 t1_0) : (Nat → Int32)) t2_0) : (Nat → Int32)))) else ((t0_0, t0_1, t0_2, x3, t0_4, t0_5, t0_6, ((F_WR_join (264 : Int32) N4 ((F_WR_size N4 t3_0) : Int32) (1 : Int64) (1 : Int32) ((F_WR_copy N2 (264 : Int32) t2_0 t1_0) : (Nat → Int32)) t3_0) : (Nat → Int32)))))
def S_WR_sum (N2 : Int32) (x3 : Int32) (N4 : Int32) (x5 : Int32) (t0_0 : Int32) (t0_1 : Int32) (t0_2 : Int32) (t0_3 : Int32) (t0_4 : Int32) (t0_5 : Int32) (t0_6 : Int32) (t1_0 : (Nat → Int32)) (t2_0 : (Nat → Int32)) (t3_0 : (Nat → Int32)) : Prop := if x3 = x5 then ((True ∧ S_WR_join (264 : Int32) N4 ((F_WR_size N4 t3_0) : Int32) (1 : Int64) (0 : Int32) ((F_WR_copy N2 (264 : Int32) t2_0 t1_0) : (Nat → Int32)) t3_0) ∧ (True)) else ((True ∧ S_WR_compareRows N2 N4 t2_0 t3_0) ∧ (if ((F_WR_compareRows N2 N4 t2_0 t3_0) : Int32) < (0 : Int32) then ((True ∧ S_WR_join (264 : Int32) N2 ((F_WR_size N2 t2_0) : Int32) (1 : Int64) (1 : Int32) ((F_WR_copy N4 (264 : Int32) t3_0 t1_0) : (Nat → Int32)) t2_0) ∧ (True)) else ((True ∧ S_WR_join (264 : Int32) N4 ((F_WR_size N4 t3_0) : Int32) (1 : Int64) (1 : Int32) ((F_WR_copy N2 (264 : Int32) t2_0 t1_0) : (Nat → Int32)) t3_0) ∧ (True))))
set_option maxRecDepth 100000 in
set_option maxHeartbeats 4000000 in
theorem X_WR_sum (l : Launch) (D : va_G) (g : Nat → ClassId) (q : Nat → Nat) (ws : va_W) (k2 : Nat) (N2 : Int32) (hB2 : q_isRow (msh g q) g k2 N2) (k4 : Nat) (N4 : Int32) (hB4 : q_isRow (msh g q) g k4 N4) (x3 : Int32) (x5 : Int32) (ne_k2_123 : k2 ≠ 123) (ne_k4_123 : k4 ≠ 123) (ne_k2_k4 : k2 ≠ k4) (hI : q_I (msh g q) q ws) (t0_0 : Int32) (t0_1 : Int32) (t0_2 : Int32) (t0_3 : Int32) (t0_4 : Int32) (t0_5 : Int32) (t0_6 : Int32) (hT0 : ws[119]? = (some (q 119, .inr (13, [.int t0_0, .int t0_1, .ref (q 120), .int t0_2, .ref (q 121), .ref (q 122), .ref (q 123), .int t0_3, .ref (q 124), .ref (q 125), .ref (q 126), .ref (q 127), .ref (q 128), .ref (q 129), .ref (q 130), .ref (q 131), .int t0_4, .int t0_5, .ref (q 132), .ref (q 133), .int t0_6])) : Option (Nat × va_E))) (t1_0 : (Nat → Int32)) (hT1 : ws[123]? = (some (q 123, .inl (g 0, (264 : Int32).toNatClampNeg, .inl t1_0)) : Option (Nat × va_E))) (t2_0 : (Nat → Int32)) (hT2 : ws[k2]? = (some (q k2, .inl (g 0, N2.toNatClampNeg, .inl t2_0)) : Option (Nat × va_E))) (t3_0 : (Nat → Int32)) (hT3 : ws[k4]? = (some (q k4, .inl (g 0, N4.toNatClampNeg, .inl t3_0)) : Option (Nat × va_E))) (hzx3 : 0 ≤ x3.toInt ∧ x3.toInt ≤ 1) (hzx5 : 0 ≤ x5.toInt ∧ x5.toInt ≤ 1) (hS : True ∧ S_WR_sum N2 x3 N4 x5 t0_0 t0_1 t0_2 t0_3 t0_4 t0_5 t0_6 t1_0 t2_0 t3_0) : q_mV l y_WR_sum prog_19_method_21_code 5 2 0 0 D g [.ref (q 119), .ref (q k2), .int x3, .ref (q k4), .int x5] ws (fun u => q_I (msh g q) q u ∧ q_un ws u [119, 123] ∧ ∃ (u0_0 : Int32) (u0_1 : Int32) (u0_2 : Int32) (u0_3 : Int32) (u0_4 : Int32) (u0_5 : Int32) (u0_6 : Int32) (u1_0 : (Nat → Int32)), u[119]? = (some (q 119, .inr (13, [.int u0_0, .int u0_1, .ref (q 120), .int u0_2, .ref (q 121), .ref (q 122), .ref (q 123), .int u0_3, .ref (q 124), .ref (q 125), .ref (q 126), .ref (q 127), .ref (q 128), .ref (q 129), .ref (q 130), .ref (q 131), .int u0_4, .int u0_5, .ref (q 132), .ref (q 133), .int u0_6])) : Option (Nat × va_E)) ∧ u[123]? = (some (q 123, .inl (g 0, (264 : Int32).toNatClampNeg, .inl u1_0)) : Option (Nat × va_E)) ∧ (0 ≤ u0_3.toInt) ∧ (u0_3.toInt ≤ 1) ∧ (t0_0.toInt ≤ u0_0.toInt) ∧ (u0_0.toInt ≤ t0_0.toInt) ∧ (t0_1.toInt ≤ u0_1.toInt) ∧ (u0_1.toInt ≤ t0_1.toInt) ∧ (t0_2.toInt ≤ u0_2.toInt) ∧ (u0_2.toInt ≤ t0_2.toInt) ∧ (t0_4.toInt ≤ u0_4.toInt) ∧ (u0_4.toInt ≤ t0_4.toInt) ∧ (t0_5.toInt ≤ u0_5.toInt) ∧ (u0_5.toInt ≤ t0_5.toInt) ∧ (t0_6.toInt ≤ u0_6.toInt) ∧ (u0_6.toInt ≤ t0_6.toInt) ∧ (u0_0, u0_1, u0_2, u0_3, u0_4, u0_5, u0_6, u1_0) = (F_WR_sum N2 x3 N4 x5 t0_0 t0_1 t0_2 t0_3 t0_4 t0_5 t0_6 t1_0 t2_0 t3_0)) := by
  intro sz
  refine q_into (by decide) (Nat.le_of_ble_eq_true rfl) ?_
  intro p e s m below meth c ls hsz C0 V hl
  have hx := C0.1
  have hb := C0.2.1
  replace hzx3 : q_F (0 ≤ x3.toInt ∧ x3.toInt ≤ 1) := hzx3
  replace hzx5 : q_F (0 ≤ x5.toInt ∧ x5.toInt ≤ 1) := hzx5
  obtain ⟨btt0_2, hZ9⟩ := n_w119 hI hT0
  replace hZ9 := hZ9.2
  obtain ⟨btt0_4, hZ9⟩ := hZ9
  obtain ⟨btt0_5, btt0_6⟩ := hZ9
  replace btt0_2 : q_F (0 ≤ t0_2.toInt ∧ t0_2.toInt ≤ 4100) := btt0_2
  replace btt0_4 : q_F (0 ≤ t0_4.toInt ∧ t0_4.toInt ≤ 1) := btt0_4
  replace btt0_5 : q_F (0 ≤ t0_5.toInt ∧ t0_5.toInt ≤ 1) := btt0_5
  replace btt0_6 : q_F (0 ≤ t0_6.toInt ∧ t0_6.toInt ≤ 2100) := btt0_6
  have hF : q_un ws ws [119, 123] := q_u0
  have hl : lv_has ls 5 [(0, .ref (q 119)), (1, .ref (q k2)), (2, .int x3), (3, .ref (q k4)), (4, .int x5)] := hl
  refine lv_iload_n hx hb d_19_21_0 rfl (lv_at hl 2 rfl) ?_
  refine lv_iload hx hb d_19_21_1 (lv_at hl 4 rfl) ?_
  refine lv_icmp_ne (tgt := 36) hx hb d_19_21_3 (by decide) (fun c23 => ?_) (fun c23 => ?_)
  ·
    refine lv_aload_n hx hb d_19_21_36 rfl (lv_at hl 1 rfl) ?_
    refine lv_aload_n hx hb d_19_21_37 rfl (lv_at hl 3 rfl) ?_
    have ob25 : True ∧ S_WR_compareRows N2 N4 t2_0 t3_0 := (by have h := hS; rw [S_WR_sum.eq_1] at h; rw [if_neg c23] at h; with_reducible exact h.2.1)
    refine q_goi V (q_runS (As := [.ref (q k2), .ref (q k4)]) (rest := []) (d := 1) (mc := 0) (ms := 0) C0 V rfl LS_WR_71 (X_WR_compareRows l D g q ws k2 N2 hB2 k4 N4 hB4  hI t2_0 hT2 t3_0 hT3 ob25 _) rfl hl.1 rfl (Nat.le_of_ble_eq_true rfl) ⟨by decide, by decide⟩ ⟨Nat.le_of_ble_eq_true rfl, Nat.le_of_ble_eq_true rfl⟩ d_19_21_38) (fun a28 u26 H locs hp27 V => ?_)
    obtain ⟨rfl, hZ9⟩ := hp27
    replace hZ9 := hZ9.2.2.2
    obtain ⟨-, hE33⟩ := hZ9
    have e34 : a28 = (F_WR_compareRows N2 N4 t2_0 t3_0) := hE33
    refine lv_if_lt (tgt := 74) hx hb d_19_21_41 (by decide) (fun c35 => ?_) (fun c35 => ?_)
    ·
      refine lv_aload_n hx hb d_19_21_74 rfl (lv_at hl 3 rfl) ?_
      refine lv_aload_n hx hb d_19_21_75 rfl (lv_at hl 0 rfl) ?_
      refine q_get (ci := 13) (j := 6) (v := .ref (q 123)) C0 V i_WR rfl rfl hT0 (by decide) w_1930 rfl d_19_21_76 ?_
      refine q_gov V (q_runS (As := [.ref (q k4), .ref (q 123)]) (rest := []) (d := 1) (mc := 0) (ms := 0) C0 V rfl LS_WR_67 (X_WR_copy l D g q ws k4 N4 hB4 123 264 (n_r123 g q)  (by have z := ne_k4_123; omega) hI t3_0 hT3 t1_0 hT1  _) rfl hl.1 rfl (Nat.le_of_ble_eq_true rfl) ⟨by decide, by decide⟩ ⟨Nat.le_of_ble_eq_true rfl, Nat.le_of_ble_eq_true rfl⟩ d_19_21_79) (fun u37 H locs hp38 V => ?_)
      obtain ⟨hI, hu42, f39, hA40, hE41⟩ := hp38
      replace hA40 : u37[123]? = (some (q 123, .inl (g 0, (264 : Int32).toNatClampNeg, .inl f39)) : Option (Nat × va_E)) := hA40
      have e43 : f39 = (F_WR_copy N4 (264 : Int32) t3_0 t1_0) := hE41
      replace hT0 := (hu42 _ (by decide)).trans hT0
      replace hT2 := (hu42 _ (by simp only [List.mem_cons, List.not_mem_nil, or_false, not_or]; omega)).trans hT2
      replace hT3 := (hu42 _ (by simp only [List.mem_cons, List.not_mem_nil, or_false, not_or]; omega)).trans hT3
      replace hF := q_uc hF hu42 (by simp)
      refine lv_aload_n hx hb d_19_21_82 rfl (lv_at hl 0 rfl) ?_
      refine q_get (ci := 13) (j := 6) (v := .ref (q 123)) C0 V i_WR rfl rfl hT0 (by decide) w_1930 rfl d_19_21_83 ?_
      refine lv_aload_n hx hb d_19_21_86 rfl (lv_at hl 1 rfl) ?_
      refine lv_aload_n hx hb d_19_21_87 rfl (lv_at hl 1 rfl) ?_
      refine q_goi V (q_runS (As := [.ref (q k2)]) (rest := [.ref (q k2), .ref (q 123)]) (d := 1) (mc := 0) (ms := 0) C0 V rfl LS_WR_59 (X_WR_size l D g q u37 k2 N2 hB2  hI t2_0 hT2  _) rfl hl.1 rfl (Nat.le_of_ble_eq_true rfl) ⟨by decide, by decide⟩ ⟨Nat.le_of_ble_eq_true rfl, Nat.le_of_ble_eq_true rfl⟩ d_19_21_88) (fun a46 u44 H locs hp45 V => ?_)
      obtain ⟨rfl, b47, b48, hE49⟩ := hp45
      have e50 : a46 = (F_WR_size N2 t2_0) := hE49
      clear b47
      clear b48
      refine lv_lconst (v := 1) hx hb d_19_21_91 (by decide) ?_
      refine lv_iconst (v := 1) hx hb d_19_21_92 (by decide) ?_
      have ob51 : True ∧ S_WR_join (264 : Int32) N2 a46 (1 : Int64) (1 : Int32) f39 t2_0 := (by rw [e50, e43]; have h := hS; rw [S_WR_sum.eq_1] at h; rw [if_neg c23] at h; replace h := q_s2 h; have c35x := c35; rw [e34] at c35x; rw [if_pos c35x] at h; with_reducible exact h.2.1)
      refine q_gov V (q_runS (As := [.ref (q 123), .ref (q k2), .int a46, .long 1, .int 1]) (rest := []) (d := 1) (mc := 0) (ms := 0) C0 V rfl LS_WR_75 (X_WR_join l D g q u37 123 264 (n_r123 g q) k2 N2 hB2 a46 1 1 (by have z := ne_k2_123; omega) hI f39 hA40 t2_0 hT2 ⟨(by have y0 : (264 : Int32).toInt = 264 := rfl; have y1 : (1 : Int64).toInt = 1 := rfl; have y2 : (1 : Int32).toInt = 1 := rfl; omega), (by have y0 : (264 : Int32).toInt = 264 := rfl; have y1 : (1 : Int64).toInt = 1 := rfl; have y2 : (1 : Int32).toInt = 1 := rfl; omega)⟩ ob51 _) rfl hl.1 rfl (Nat.le_of_ble_eq_true rfl) ⟨by decide, by decide⟩ ⟨Nat.le_of_ble_eq_true rfl, Nat.le_of_ble_eq_true rfl⟩ d_19_21_93) (fun u52 H locs hp53 V => ?_)
      obtain ⟨hI, hu57, f54, hA55, hE56⟩ := hp53
      replace hA55 : u52[123]? = (some (q 123, .inl (g 0, (264 : Int32).toNatClampNeg, .inl f54)) : Option (Nat × va_E)) := hA55
      have e58 : f54 = (F_WR_join (264 : Int32) N2 a46 (1 : Int64) (1 : Int32) f39 t2_0) := hE56
      replace hT0 := (hu57 _ (by decide)).trans hT0
      replace hT2 := (hu57 _ (by simp only [List.mem_cons, List.not_mem_nil, or_false, not_or]; omega)).trans hT2
      replace hT3 := (hu57 _ (by simp only [List.mem_cons, List.not_mem_nil, or_false, not_or]; omega)).trans hT3
      replace hF := q_uc hF hu57 (by simp)
      refine lv_aload_n hx hb d_19_21_96 rfl (lv_at hl 0 rfl) ?_
      refine lv_iload hx hb d_19_21_97 (lv_at hl 4 rfl) ?_
      have ne61 := q_df hT2 hT0
      have ne62 := q_df hT3 hT0
      refine q_put (ci := 13) (j := 7) (v := .int x5) (ty := .boolean) C0 V i_WR o_WR n_WR rfl rfl hT0 (by decide) w_1931 rfl rfl (q_nz01 (q_Ile (x := 0) (y := x5.toInt) (by decide) rfl (by first | with_reducible exact (q_fe hzx5).2 | with_reducible exact (q_fe hzx5).1 | (have t1 : 0 ≤ x5.toInt ∧ x5.toInt ≤ 1 := hzx5; omega))) (q_Ile (x := x5.toInt) (y := 1) rfl (by decide) (by first | with_reducible exact (q_fe hzx5).2 | with_reducible exact (q_fe hzx5).1 | (have t1 : 0 ≤ x5.toInt ∧ x5.toInt ≤ 1 := hzx5; omega)))) (q_fz01 (q_Ile (x := 0) (y := x5.toInt) (by decide) rfl (by first | with_reducible exact (q_fe hzx5).2 | with_reducible exact (q_fe hzx5).1 | (have t1 : 0 ≤ x5.toInt ∧ x5.toInt ≤ 1 := hzx5; omega))) (q_Ile (x := x5.toInt) (y := 1) rfl (by decide) (by first | with_reducible exact (q_fe hzx5).2 | with_reducible exact (q_fe hzx5).1 | (have t1 : 0 ≤ x5.toInt ∧ x5.toInt ≤ 1 := hzx5; omega)))) (Nat.le_of_ble_eq_true rfl) d_19_21_99 (fun H locs w59 hu60 hT0 V => ?_)
      replace hT0 : w59[119]? = (some (q 119, .inr (13, [.int t0_0, .int t0_1, .ref (q 120), .int t0_2, .ref (q 121), .ref (q 122), .ref (q 123), .int x5, .ref (q 124), .ref (q 125), .ref (q 126), .ref (q 127), .ref (q 128), .ref (q 129), .ref (q 130), .ref (q 131), .int t0_4, .int t0_5, .ref (q 132), .ref (q 133), .int t0_6])) : Option (Nat × va_E)) := hT0
      replace hI := n_p119 hI hu60 hT0 (by first | with_reducible exact q_fe btt0_2 | exact ⟨(by have t1 : 0 ≤ t0_2.toInt ∧ t0_2.toInt ≤ 4100 := btt0_2; omega), (by have t1 : 0 ≤ t0_2.toInt ∧ t0_2.toInt ≤ 4100 := btt0_2; omega)⟩) (by first | with_reducible exact q_fe hzx5 | exact ⟨(by have t1 : 0 ≤ x5.toInt ∧ x5.toInt ≤ 1 := hzx5; omega), (by have t1 : 0 ≤ x5.toInt ∧ x5.toInt ≤ 1 := hzx5; omega)⟩) (by first | with_reducible exact q_fe btt0_4 | exact ⟨(by have t1 : 0 ≤ t0_4.toInt ∧ t0_4.toInt ≤ 1 := btt0_4; omega), (by have t1 : 0 ≤ t0_4.toInt ∧ t0_4.toInt ≤ 1 := btt0_4; omega)⟩) (by first | with_reducible exact q_fe btt0_5 | exact ⟨(by have t1 : 0 ≤ t0_5.toInt ∧ t0_5.toInt ≤ 1 := btt0_5; omega), (by have t1 : 0 ≤ t0_5.toInt ∧ t0_5.toInt ≤ 1 := btt0_5; omega)⟩) (by first | with_reducible exact q_fe btt0_6 | exact ⟨(by have t1 : 0 ≤ t0_6.toInt ∧ t0_6.toInt ≤ 2100 := btt0_6; omega), (by have t1 : 0 ≤ t0_6.toInt ∧ t0_6.toInt ≤ 2100 := btt0_6; omega)⟩)
      replace hA55 := (hu60 _ (by decide)).trans hA55
      replace hF := q_us hF hu60 (by simp)
      exact q_retv C0 V (⟨hI, hF, t0_0, t0_1, t0_2, x5, t0_4, t0_5, t0_6, f54, hT0, hA55, (show 0 ≤ x5.toInt from (by first | with_reducible exact (q_fe hzx5).2 | with_reducible exact (q_fe hzx5).1 | (have t1 : 0 ≤ x5.toInt ∧ x5.toInt ≤ 1 := hzx5; omega))), (show x5.toInt ≤ 1 from (by first | with_reducible exact (q_fe hzx5).2 | with_reducible exact (q_fe hzx5).1 | (have t1 : 0 ≤ x5.toInt ∧ x5.toInt ≤ 1 := hzx5; omega))), (show t0_0.toInt ≤ t0_0.toInt from (by omega)), (show t0_0.toInt ≤ t0_0.toInt from (by omega)), (show t0_1.toInt ≤ t0_1.toInt from (by omega)), (show t0_1.toInt ≤ t0_1.toInt from (by omega)), (show t0_2.toInt ≤ t0_2.toInt from (by omega)), (show t0_2.toInt ≤ t0_2.toInt from (by omega)), (show t0_4.toInt ≤ t0_4.toInt from (by omega)), (show t0_4.toInt ≤ t0_4.toInt from (by omega)), (show t0_5.toInt ≤ t0_5.toInt from (by omega)), (show t0_5.toInt ≤ t0_5.toInt from (by omega)), (show t0_6.toInt ≤ t0_6.toInt from (by omega)), (show t0_6.toInt ≤ t0_6.toInt from (by omega)), (show (t0_0, t0_1, t0_2, x5, t0_4, t0_5, t0_6, f54) = (F_WR_sum N2 x3 N4 x5 t0_0 t0_1 t0_2 t0_3 t0_4 t0_5 t0_6 t1_0 t2_0 t3_0) from (by have c35x := c35; rw [e34] at c35x; rw [e58, e50, e43, F_WR_sum.eq_1, if_neg c23, if_pos c35x]))⟩) d_19_21_102
    ·
      refine lv_aload_n hx hb d_19_21_44 rfl (lv_at hl 1 rfl) ?_
      refine lv_aload_n hx hb d_19_21_45 rfl (lv_at hl 0 rfl) ?_
      refine q_get (ci := 13) (j := 6) (v := .ref (q 123)) C0 V i_WR rfl rfl hT0 (by decide) w_1930 rfl d_19_21_46 ?_
      refine q_gov V (q_runS (As := [.ref (q k2), .ref (q 123)]) (rest := []) (d := 1) (mc := 0) (ms := 0) C0 V rfl LS_WR_67 (X_WR_copy l D g q ws k2 N2 hB2 123 264 (n_r123 g q)  (by have z := ne_k2_123; omega) hI t2_0 hT2 t1_0 hT1  _) rfl hl.1 rfl (Nat.le_of_ble_eq_true rfl) ⟨by decide, by decide⟩ ⟨Nat.le_of_ble_eq_true rfl, Nat.le_of_ble_eq_true rfl⟩ d_19_21_49) (fun u64 H locs hp65 V => ?_)
      obtain ⟨hI, hu69, f66, hA67, hE68⟩ := hp65
      replace hA67 : u64[123]? = (some (q 123, .inl (g 0, (264 : Int32).toNatClampNeg, .inl f66)) : Option (Nat × va_E)) := hA67
      have e70 : f66 = (F_WR_copy N2 (264 : Int32) t2_0 t1_0) := hE68
      replace hT0 := (hu69 _ (by decide)).trans hT0
      replace hT2 := (hu69 _ (by simp only [List.mem_cons, List.not_mem_nil, or_false, not_or]; omega)).trans hT2
      replace hT3 := (hu69 _ (by simp only [List.mem_cons, List.not_mem_nil, or_false, not_or]; omega)).trans hT3
      replace hF := q_uc hF hu69 (by simp)
      refine lv_aload_n hx hb d_19_21_52 rfl (lv_at hl 0 rfl) ?_
      refine q_get (ci := 13) (j := 6) (v := .ref (q 123)) C0 V i_WR rfl rfl hT0 (by decide) w_1930 rfl d_19_21_53 ?_
      refine lv_aload_n hx hb d_19_21_56 rfl (lv_at hl 3 rfl) ?_
      refine lv_aload_n hx hb d_19_21_57 rfl (lv_at hl 3 rfl) ?_
      refine q_goi V (q_runS (As := [.ref (q k4)]) (rest := [.ref (q k4), .ref (q 123)]) (d := 1) (mc := 0) (ms := 0) C0 V rfl LS_WR_59 (X_WR_size l D g q u64 k4 N4 hB4  hI t3_0 hT3  _) rfl hl.1 rfl (Nat.le_of_ble_eq_true rfl) ⟨by decide, by decide⟩ ⟨Nat.le_of_ble_eq_true rfl, Nat.le_of_ble_eq_true rfl⟩ d_19_21_58) (fun a73 u71 H locs hp72 V => ?_)
      obtain ⟨rfl, b74, b75, hE76⟩ := hp72
      have e77 : a73 = (F_WR_size N4 t3_0) := hE76
      clear b74
      clear b75
      refine lv_lconst (v := 1) hx hb d_19_21_61 (by decide) ?_
      refine lv_iconst (v := 1) hx hb d_19_21_62 (by decide) ?_
      have ob78 : True ∧ S_WR_join (264 : Int32) N4 a73 (1 : Int64) (1 : Int32) f66 t3_0 := (by rw [e77, e70]; have h := hS; rw [S_WR_sum.eq_1] at h; rw [if_neg c23] at h; replace h := q_s2 h; have c35x := c35; rw [e34] at c35x; rw [if_neg c35x] at h; with_reducible exact h.2.1)
      refine q_gov V (q_runS (As := [.ref (q 123), .ref (q k4), .int a73, .long 1, .int 1]) (rest := []) (d := 1) (mc := 0) (ms := 0) C0 V rfl LS_WR_75 (X_WR_join l D g q u64 123 264 (n_r123 g q) k4 N4 hB4 a73 1 1 (by have z := ne_k4_123; omega) hI f66 hA67 t3_0 hT3 ⟨(by have y0 : (264 : Int32).toInt = 264 := rfl; have y1 : (1 : Int64).toInt = 1 := rfl; have y2 : (1 : Int32).toInt = 1 := rfl; omega), (by have y0 : (264 : Int32).toInt = 264 := rfl; have y1 : (1 : Int64).toInt = 1 := rfl; have y2 : (1 : Int32).toInt = 1 := rfl; omega)⟩ ob78 _) rfl hl.1 rfl (Nat.le_of_ble_eq_true rfl) ⟨by decide, by decide⟩ ⟨Nat.le_of_ble_eq_true rfl, Nat.le_of_ble_eq_true rfl⟩ d_19_21_63) (fun u79 H locs hp80 V => ?_)
      obtain ⟨hI, hu84, f81, hA82, hE83⟩ := hp80
      replace hA82 : u79[123]? = (some (q 123, .inl (g 0, (264 : Int32).toNatClampNeg, .inl f81)) : Option (Nat × va_E)) := hA82
      have e85 : f81 = (F_WR_join (264 : Int32) N4 a73 (1 : Int64) (1 : Int32) f66 t3_0) := hE83
      replace hT0 := (hu84 _ (by decide)).trans hT0
      replace hT2 := (hu84 _ (by simp only [List.mem_cons, List.not_mem_nil, or_false, not_or]; omega)).trans hT2
      replace hT3 := (hu84 _ (by simp only [List.mem_cons, List.not_mem_nil, or_false, not_or]; omega)).trans hT3
      replace hF := q_uc hF hu84 (by simp)
      refine lv_aload_n hx hb d_19_21_66 rfl (lv_at hl 0 rfl) ?_
      refine lv_iload_n hx hb d_19_21_67 rfl (lv_at hl 2 rfl) ?_
      have ne88 := q_df hT2 hT0
      have ne89 := q_df hT3 hT0
      refine q_put (ci := 13) (j := 7) (v := .int x3) (ty := .boolean) C0 V i_WR o_WR n_WR rfl rfl hT0 (by decide) w_1931 rfl rfl (q_nz01 (q_Ile (x := 0) (y := x3.toInt) (by decide) rfl (by first | with_reducible exact (q_fe hzx3).2 | with_reducible exact (q_fe hzx3).1 | (have t1 : 0 ≤ x3.toInt ∧ x3.toInt ≤ 1 := hzx3; omega))) (q_Ile (x := x3.toInt) (y := 1) rfl (by decide) (by first | with_reducible exact (q_fe hzx3).2 | with_reducible exact (q_fe hzx3).1 | (have t1 : 0 ≤ x3.toInt ∧ x3.toInt ≤ 1 := hzx3; omega)))) (q_fz01 (q_Ile (x := 0) (y := x3.toInt) (by decide) rfl (by first | with_reducible exact (q_fe hzx3).2 | with_reducible exact (q_fe hzx3).1 | (have t1 : 0 ≤ x3.toInt ∧ x3.toInt ≤ 1 := hzx3; omega))) (q_Ile (x := x3.toInt) (y := 1) rfl (by decide) (by first | with_reducible exact (q_fe hzx3).2 | with_reducible exact (q_fe hzx3).1 | (have t1 : 0 ≤ x3.toInt ∧ x3.toInt ≤ 1 := hzx3; omega)))) (Nat.le_of_ble_eq_true rfl) d_19_21_68 (fun H locs w86 hu87 hT0 V => ?_)
      replace hT0 : w86[119]? = (some (q 119, .inr (13, [.int t0_0, .int t0_1, .ref (q 120), .int t0_2, .ref (q 121), .ref (q 122), .ref (q 123), .int x3, .ref (q 124), .ref (q 125), .ref (q 126), .ref (q 127), .ref (q 128), .ref (q 129), .ref (q 130), .ref (q 131), .int t0_4, .int t0_5, .ref (q 132), .ref (q 133), .int t0_6])) : Option (Nat × va_E)) := hT0
      replace hI := n_p119 hI hu87 hT0 (by first | with_reducible exact q_fe btt0_2 | exact ⟨(by have t1 : 0 ≤ t0_2.toInt ∧ t0_2.toInt ≤ 4100 := btt0_2; omega), (by have t1 : 0 ≤ t0_2.toInt ∧ t0_2.toInt ≤ 4100 := btt0_2; omega)⟩) (by first | with_reducible exact q_fe hzx3 | exact ⟨(by have t1 : 0 ≤ x3.toInt ∧ x3.toInt ≤ 1 := hzx3; omega), (by have t1 : 0 ≤ x3.toInt ∧ x3.toInt ≤ 1 := hzx3; omega)⟩) (by first | with_reducible exact q_fe btt0_4 | exact ⟨(by have t1 : 0 ≤ t0_4.toInt ∧ t0_4.toInt ≤ 1 := btt0_4; omega), (by have t1 : 0 ≤ t0_4.toInt ∧ t0_4.toInt ≤ 1 := btt0_4; omega)⟩) (by first | with_reducible exact q_fe btt0_5 | exact ⟨(by have t1 : 0 ≤ t0_5.toInt ∧ t0_5.toInt ≤ 1 := btt0_5; omega), (by have t1 : 0 ≤ t0_5.toInt ∧ t0_5.toInt ≤ 1 := btt0_5; omega)⟩) (by first | with_reducible exact q_fe btt0_6 | exact ⟨(by have t1 : 0 ≤ t0_6.toInt ∧ t0_6.toInt ≤ 2100 := btt0_6; omega), (by have t1 : 0 ≤ t0_6.toInt ∧ t0_6.toInt ≤ 2100 := btt0_6; omega)⟩)
      replace hA82 := (hu87 _ (by decide)).trans hA82
      replace hF := q_us hF hu87 (by simp)
      refine lv_goto (tgt := 102) hx hb d_19_21_71 (by decide) ?_
      exact q_retv C0 V (⟨hI, hF, t0_0, t0_1, t0_2, x3, t0_4, t0_5, t0_6, f81, hT0, hA82, (show 0 ≤ x3.toInt from (by first | with_reducible exact (q_fe hzx3).2 | with_reducible exact (q_fe hzx3).1 | (have t1 : 0 ≤ x3.toInt ∧ x3.toInt ≤ 1 := hzx3; omega))), (show x3.toInt ≤ 1 from (by first | with_reducible exact (q_fe hzx3).2 | with_reducible exact (q_fe hzx3).1 | (have t1 : 0 ≤ x3.toInt ∧ x3.toInt ≤ 1 := hzx3; omega))), (show t0_0.toInt ≤ t0_0.toInt from (by omega)), (show t0_0.toInt ≤ t0_0.toInt from (by omega)), (show t0_1.toInt ≤ t0_1.toInt from (by omega)), (show t0_1.toInt ≤ t0_1.toInt from (by omega)), (show t0_2.toInt ≤ t0_2.toInt from (by omega)), (show t0_2.toInt ≤ t0_2.toInt from (by omega)), (show t0_4.toInt ≤ t0_4.toInt from (by omega)), (show t0_4.toInt ≤ t0_4.toInt from (by omega)), (show t0_5.toInt ≤ t0_5.toInt from (by omega)), (show t0_5.toInt ≤ t0_5.toInt from (by omega)), (show t0_6.toInt ≤ t0_6.toInt from (by omega)), (show t0_6.toInt ≤ t0_6.toInt from (by omega)), (show (t0_0, t0_1, t0_2, x3, t0_4, t0_5, t0_6, f81) = (F_WR_sum N2 x3 N4 x5 t0_0 t0_1 t0_2 t0_3 t0_4 t0_5 t0_6 t1_0 t2_0 t3_0) from (by have c35x := c35; rw [e34] at c35x; rw [e85, e77, e70, F_WR_sum.eq_1, if_neg c23, if_neg c35x]))⟩) d_19_21_102
  ·
    refine lv_aload_n hx hb d_19_21_6 rfl (lv_at hl 1 rfl) ?_
    refine lv_aload_n hx hb d_19_21_7 rfl (lv_at hl 0 rfl) ?_
    refine q_get (ci := 13) (j := 6) (v := .ref (q 123)) C0 V i_WR rfl rfl hT0 (by decide) w_1930 rfl d_19_21_8 ?_
    refine q_gov V (q_runS (As := [.ref (q k2), .ref (q 123)]) (rest := []) (d := 1) (mc := 0) (ms := 0) C0 V rfl LS_WR_67 (X_WR_copy l D g q ws k2 N2 hB2 123 264 (n_r123 g q)  (by have z := ne_k2_123; omega) hI t2_0 hT2 t1_0 hT1  _) rfl hl.1 rfl (Nat.le_of_ble_eq_true rfl) ⟨by decide, by decide⟩ ⟨Nat.le_of_ble_eq_true rfl, Nat.le_of_ble_eq_true rfl⟩ d_19_21_11) (fun u91 H locs hp92 V => ?_)
    obtain ⟨hI, hu96, f93, hA94, hE95⟩ := hp92
    replace hA94 : u91[123]? = (some (q 123, .inl (g 0, (264 : Int32).toNatClampNeg, .inl f93)) : Option (Nat × va_E)) := hA94
    have e97 : f93 = (F_WR_copy N2 (264 : Int32) t2_0 t1_0) := hE95
    replace hT0 := (hu96 _ (by decide)).trans hT0
    replace hT2 := (hu96 _ (by simp only [List.mem_cons, List.not_mem_nil, or_false, not_or]; omega)).trans hT2
    replace hT3 := (hu96 _ (by simp only [List.mem_cons, List.not_mem_nil, or_false, not_or]; omega)).trans hT3
    replace hF := q_uc hF hu96 (by simp)
    refine lv_aload_n hx hb d_19_21_14 rfl (lv_at hl 0 rfl) ?_
    refine q_get (ci := 13) (j := 6) (v := .ref (q 123)) C0 V i_WR rfl rfl hT0 (by decide) w_1930 rfl d_19_21_15 ?_
    refine lv_aload_n hx hb d_19_21_18 rfl (lv_at hl 3 rfl) ?_
    refine lv_aload_n hx hb d_19_21_19 rfl (lv_at hl 3 rfl) ?_
    refine q_goi V (q_runS (As := [.ref (q k4)]) (rest := [.ref (q k4), .ref (q 123)]) (d := 1) (mc := 0) (ms := 0) C0 V rfl LS_WR_59 (X_WR_size l D g q u91 k4 N4 hB4  hI t3_0 hT3  _) rfl hl.1 rfl (Nat.le_of_ble_eq_true rfl) ⟨by decide, by decide⟩ ⟨Nat.le_of_ble_eq_true rfl, Nat.le_of_ble_eq_true rfl⟩ d_19_21_20) (fun a100 u98 H locs hp99 V => ?_)
    obtain ⟨rfl, b101, b102, hE103⟩ := hp99
    have e104 : a100 = (F_WR_size N4 t3_0) := hE103
    clear b101
    clear b102
    refine lv_lconst (v := 1) hx hb d_19_21_23 (by decide) ?_
    refine lv_iconst (v := 0) hx hb d_19_21_24 (by decide) ?_
    have ob105 : True ∧ S_WR_join (264 : Int32) N4 a100 (1 : Int64) (0 : Int32) f93 t3_0 := (by rw [e104, e97]; have h := hS; rw [S_WR_sum.eq_1] at h; rw [if_pos c23] at h; with_reducible exact h.2.1)
    refine q_gov V (q_runS (As := [.ref (q 123), .ref (q k4), .int a100, .long 1, .int 0]) (rest := []) (d := 1) (mc := 0) (ms := 0) C0 V rfl LS_WR_75 (X_WR_join l D g q u91 123 264 (n_r123 g q) k4 N4 hB4 a100 1 0 (by have z := ne_k4_123; omega) hI f93 hA94 t3_0 hT3 ⟨(by have y0 : (264 : Int32).toInt = 264 := rfl; have y1 : (1 : Int64).toInt = 1 := rfl; have y2 : (0 : Int32).toInt = 0 := rfl; omega), (by have y0 : (264 : Int32).toInt = 264 := rfl; have y1 : (1 : Int64).toInt = 1 := rfl; have y2 : (0 : Int32).toInt = 0 := rfl; omega)⟩ ob105 _) rfl hl.1 rfl (Nat.le_of_ble_eq_true rfl) ⟨by decide, by decide⟩ ⟨Nat.le_of_ble_eq_true rfl, Nat.le_of_ble_eq_true rfl⟩ d_19_21_25) (fun u106 H locs hp107 V => ?_)
    obtain ⟨hI, hu111, f108, hA109, hE110⟩ := hp107
    replace hA109 : u106[123]? = (some (q 123, .inl (g 0, (264 : Int32).toNatClampNeg, .inl f108)) : Option (Nat × va_E)) := hA109
    have e112 : f108 = (F_WR_join (264 : Int32) N4 a100 (1 : Int64) (0 : Int32) f93 t3_0) := hE110
    replace hT0 := (hu111 _ (by decide)).trans hT0
    replace hT2 := (hu111 _ (by simp only [List.mem_cons, List.not_mem_nil, or_false, not_or]; omega)).trans hT2
    replace hT3 := (hu111 _ (by simp only [List.mem_cons, List.not_mem_nil, or_false, not_or]; omega)).trans hT3
    replace hF := q_uc hF hu111 (by simp)
    refine lv_aload_n hx hb d_19_21_28 rfl (lv_at hl 0 rfl) ?_
    refine lv_iload_n hx hb d_19_21_29 rfl (lv_at hl 2 rfl) ?_
    have ne115 := q_df hT2 hT0
    have ne116 := q_df hT3 hT0
    refine q_put (ci := 13) (j := 7) (v := .int x3) (ty := .boolean) C0 V i_WR o_WR n_WR rfl rfl hT0 (by decide) w_1931 rfl rfl (q_nz01 (q_Ile (x := 0) (y := x3.toInt) (by decide) rfl (by first | with_reducible exact (q_fe hzx3).2 | with_reducible exact (q_fe hzx3).1 | (have t1 : 0 ≤ x3.toInt ∧ x3.toInt ≤ 1 := hzx3; omega))) (q_Ile (x := x3.toInt) (y := 1) rfl (by decide) (by first | with_reducible exact (q_fe hzx3).2 | with_reducible exact (q_fe hzx3).1 | (have t1 : 0 ≤ x3.toInt ∧ x3.toInt ≤ 1 := hzx3; omega)))) (q_fz01 (q_Ile (x := 0) (y := x3.toInt) (by decide) rfl (by first | with_reducible exact (q_fe hzx3).2 | with_reducible exact (q_fe hzx3).1 | (have t1 : 0 ≤ x3.toInt ∧ x3.toInt ≤ 1 := hzx3; omega))) (q_Ile (x := x3.toInt) (y := 1) rfl (by decide) (by first | with_reducible exact (q_fe hzx3).2 | with_reducible exact (q_fe hzx3).1 | (have t1 : 0 ≤ x3.toInt ∧ x3.toInt ≤ 1 := hzx3; omega)))) (Nat.le_of_ble_eq_true rfl) d_19_21_30 (fun H locs w113 hu114 hT0 V => ?_)
    replace hT0 : w113[119]? = (some (q 119, .inr (13, [.int t0_0, .int t0_1, .ref (q 120), .int t0_2, .ref (q 121), .ref (q 122), .ref (q 123), .int x3, .ref (q 124), .ref (q 125), .ref (q 126), .ref (q 127), .ref (q 128), .ref (q 129), .ref (q 130), .ref (q 131), .int t0_4, .int t0_5, .ref (q 132), .ref (q 133), .int t0_6])) : Option (Nat × va_E)) := hT0
    replace hI := n_p119 hI hu114 hT0 (by first | with_reducible exact q_fe btt0_2 | exact ⟨(by have t1 : 0 ≤ t0_2.toInt ∧ t0_2.toInt ≤ 4100 := btt0_2; omega), (by have t1 : 0 ≤ t0_2.toInt ∧ t0_2.toInt ≤ 4100 := btt0_2; omega)⟩) (by first | with_reducible exact q_fe hzx3 | exact ⟨(by have t1 : 0 ≤ x3.toInt ∧ x3.toInt ≤ 1 := hzx3; omega), (by have t1 : 0 ≤ x3.toInt ∧ x3.toInt ≤ 1 := hzx3; omega)⟩) (by first | with_reducible exact q_fe btt0_4 | exact ⟨(by have t1 : 0 ≤ t0_4.toInt ∧ t0_4.toInt ≤ 1 := btt0_4; omega), (by have t1 : 0 ≤ t0_4.toInt ∧ t0_4.toInt ≤ 1 := btt0_4; omega)⟩) (by first | with_reducible exact q_fe btt0_5 | exact ⟨(by have t1 : 0 ≤ t0_5.toInt ∧ t0_5.toInt ≤ 1 := btt0_5; omega), (by have t1 : 0 ≤ t0_5.toInt ∧ t0_5.toInt ≤ 1 := btt0_5; omega)⟩) (by first | with_reducible exact q_fe btt0_6 | exact ⟨(by have t1 : 0 ≤ t0_6.toInt ∧ t0_6.toInt ≤ 2100 := btt0_6; omega), (by have t1 : 0 ≤ t0_6.toInt ∧ t0_6.toInt ≤ 2100 := btt0_6; omega)⟩)
    replace hA109 := (hu114 _ (by decide)).trans hA109
    replace hF := q_us hF hu114 (by simp)
    refine lv_goto (tgt := 102) hx hb d_19_21_33 (by decide) ?_
    exact q_retv C0 V (⟨hI, hF, t0_0, t0_1, t0_2, x3, t0_4, t0_5, t0_6, f108, hT0, hA109, (show 0 ≤ x3.toInt from (by first | with_reducible exact (q_fe hzx3).2 | with_reducible exact (q_fe hzx3).1 | (have t1 : 0 ≤ x3.toInt ∧ x3.toInt ≤ 1 := hzx3; omega))), (show x3.toInt ≤ 1 from (by first | with_reducible exact (q_fe hzx3).2 | with_reducible exact (q_fe hzx3).1 | (have t1 : 0 ≤ x3.toInt ∧ x3.toInt ≤ 1 := hzx3; omega))), (show t0_0.toInt ≤ t0_0.toInt from (by omega)), (show t0_0.toInt ≤ t0_0.toInt from (by omega)), (show t0_1.toInt ≤ t0_1.toInt from (by omega)), (show t0_1.toInt ≤ t0_1.toInt from (by omega)), (show t0_2.toInt ≤ t0_2.toInt from (by omega)), (show t0_2.toInt ≤ t0_2.toInt from (by omega)), (show t0_4.toInt ≤ t0_4.toInt from (by omega)), (show t0_4.toInt ≤ t0_4.toInt from (by omega)), (show t0_5.toInt ≤ t0_5.toInt from (by omega)), (show t0_5.toInt ≤ t0_5.toInt from (by omega)), (show t0_6.toInt ≤ t0_6.toInt from (by omega)), (show t0_6.toInt ≤ t0_6.toInt from (by omega)), (show (t0_0, t0_1, t0_2, x3, t0_4, t0_5, t0_6, f108) = (F_WR_sum N2 x3 N4 x5 t0_0 t0_1 t0_2 t0_3 t0_4 t0_5 t0_6 t1_0 t2_0 t3_0) from (by rw [e112, e104, e97, F_WR_sum.eq_1, if_pos c23]))⟩) d_19_21_102
theorem d_19_22_0 : decode prog_19_method_22_code 0 = .ok (.aload_n 0, 1) := by decide +kernel
theorem d_19_22_1 : decode prog_19_method_22_code 1 = .ok (.iload_n 1, 1) := by decide +kernel
theorem d_19_22_2 : decode prog_19_method_22_code 2 = .ok (.invokestatic 91, 3) := by decide +kernel
theorem d_19_22_27 : decode prog_19_method_22_code 27 = .ok (.putfield 53, 3) := by decide +kernel
theorem d_19_22_30 : decode prog_19_method_22_code 30 = .ok (.aload_n 0, 1) := by decide +kernel
theorem d_19_22_31 : decode prog_19_method_22_code 31 = .ok (.getfield 53, 3) := by decide +kernel
theorem d_19_22_34 : decode prog_19_method_22_code 34 = .ok (.ifCond .le 4, 3) := by decide +kernel
theorem d_19_22_38 : decode prog_19_method_22_code 38 = .ok (.aload_n 0, 1) := by decide +kernel
theorem d_19_22_39 : decode prog_19_method_22_code 39 = .ok (.iconst 2, 1) := by decide +kernel
theorem d_19_22_40 : decode prog_19_method_22_code 40 = .ok (.putfield 79, 3) := by decide +kernel
theorem d_19_22_43 : decode prog_19_method_22_code 43 = .ok (.aload_n 0, 1) := by decide +kernel
theorem d_19_22_44 : decode prog_19_method_22_code 44 = .ok (.iload_n 1, 1) := by decide +kernel
theorem d_19_22_45 : decode prog_19_method_22_code 45 = .ok (.aload_n 0, 1) := by decide +kernel
theorem d_19_22_46 : decode prog_19_method_22_code 46 = .ok (.getfield 35, 3) := by decide +kernel
theorem d_19_22_49 : decode prog_19_method_22_code 49 = .ok (.invokevirtual 107, 3) := by decide +kernel
theorem d_19_22_52 : decode prog_19_method_22_code 52 = .ok (.aload_n 0, 1) := by decide +kernel
theorem d_19_22_53 : decode prog_19_method_22_code 53 = .ok (.iload_n 2, 1) := by decide +kernel
theorem d_19_22_54 : decode prog_19_method_22_code 54 = .ok (.aload_n 0, 1) := by decide +kernel
theorem d_19_22_55 : decode prog_19_method_22_code 55 = .ok (.getfield 38, 3) := by decide +kernel
theorem d_19_22_58 : decode prog_19_method_22_code 58 = .ok (.invokevirtual 107, 3) := by decide +kernel
theorem d_19_22_61 : decode prog_19_method_22_code 61 = .ok (.aload_n 0, 1) := by decide +kernel
theorem d_19_22_62 : decode prog_19_method_22_code 62 = .ok (.aload_n 0, 1) := by decide +kernel
theorem d_19_22_63 : decode prog_19_method_22_code 63 = .ok (.getfield 35, 3) := by decide +kernel
theorem d_19_22_66 : decode prog_19_method_22_code 66 = .ok (.aload_n 0, 1) := by decide +kernel
theorem d_19_22_67 : decode prog_19_method_22_code 67 = .ok (.getfield 16, 3) := by decide +kernel
theorem d_19_22_70 : decode prog_19_method_22_code 70 = .ok (.iload_n 1, 1) := by decide +kernel
theorem d_19_22_71 : decode prog_19_method_22_code 71 = .ok (.baload, 1) := by decide +kernel
theorem d_19_22_72 : decode prog_19_method_22_code 72 = .ok (.aload_n 0, 1) := by decide +kernel
theorem d_19_22_73 : decode prog_19_method_22_code 73 = .ok (.getfield 38, 3) := by decide +kernel
theorem d_19_22_76 : decode prog_19_method_22_code 76 = .ok (.aload_n 0, 1) := by decide +kernel
theorem d_19_22_77 : decode prog_19_method_22_code 77 = .ok (.getfield 16, 3) := by decide +kernel
theorem d_19_22_80 : decode prog_19_method_22_code 80 = .ok (.iload_n 2, 1) := by decide +kernel
theorem d_19_22_81 : decode prog_19_method_22_code 81 = .ok (.baload, 1) := by decide +kernel
theorem d_19_22_82 : decode prog_19_method_22_code 82 = .ok (.iload 4, 2) := by decide +kernel
theorem d_19_22_84 : decode prog_19_method_22_code 84 = .ok (.if_icmp .eq 7, 3) := by decide +kernel
theorem d_19_22_91 : decode prog_19_method_22_code 91 = .ok (.iconst 0, 1) := by decide +kernel
theorem d_19_22_92 : decode prog_19_method_22_code 92 = .ok (.invokevirtual 111, 3) := by decide +kernel
set_option maxRecDepth 100000 in
theorem w_2689 : (Cond.code ({ cls := "NumberHouseModel$WholeRows", name := "sum", desc := "([IZ[IZ)V" } : MethodName) prog_19_method_21_code (5 : Nat) (none : Option ClassFile.FieldType)) ∈ q_tbl := q_of12 49 rfl (by decide +kernel)
set_option maxRecDepth 100000 in
theorem w_2686 : (Cond.methodLink "NumberHouseModel$WholeRows" (111 : Nat) ({ cls := "NumberHouseModel$WholeRows", name := "sum", desc := "([IZ[IZ)V" } : MethodName)) ∈ q_tbl := q_of12 46 rfl (by decide +kernel)
set_option maxRecDepth 100000 in
theorem w_2688 : (Cond.instanceMethod ({ cls := "NumberHouseModel$WholeRows", name := "sum", desc := "([IZ[IZ)V" } : MethodName)) ∈ q_tbl := q_of12 48 rfl (by decide +kernel)
theorem ws_102 : Cond.selects "NumberHouseModel$WholeRows" (⟨"NumberHouseModel$WholeRows", "sum", "([IZ[IZ)V"⟩ : MethodName) (⟨"NumberHouseModel$WholeRows", "sum", "([IZ[IZ)V"⟩ : MethodName) ∈ q_tbl := q_ofs 102 (by decide +kernel) (by decide +kernel)
theorem LV_WR_111 : q_LV "NumberHouseModel$WholeRows" 111 y_WR_sum prog_19_method_21_code 5 none 4 := ⟨w_2689, w_15, w_2686, w_2688, ws_102, ⟨by decide, by decide, by decide +kernel⟩⟩
theorem d_19_22_95 : decode prog_19_method_22_code 95 = .ok (.aload_n 0, 1) := by decide +kernel
theorem d_19_22_96 : decode prog_19_method_22_code 96 = .ok (.iload_n 3, 1) := by decide +kernel
theorem d_19_22_97 : decode prog_19_method_22_code 97 = .ok (.invokevirtual 103, 3) := by decide +kernel
theorem d_19_22_100 : decode prog_19_method_22_code 100 = .ok (.return_, 1) := by decide +kernel
theorem d_19_22_87 : decode prog_19_method_22_code 87 = .ok (.iconst 1, 1) := by decide +kernel
theorem d_19_22_88 : decode prog_19_method_22_code 88 = .ok (.goto 4, 3) := by decide +kernel
theorem d_19_22_37 : decode prog_19_method_22_code 37 = .ok (.return_, 1) := by decide +kernel
theorem d_19_22_22 : decode prog_19_method_22_code 22 = .ok (.iconst 1, 1) := by decide +kernel
theorem d_19_22_23 : decode prog_19_method_22_code 23 = .ok (.goto 4, 3) := by decide +kernel
theorem d_19_22_5 : decode prog_19_method_22_code 5 = .ok (.ifCond .ne 17, 3) := by decide +kernel
theorem d_19_22_8 : decode prog_19_method_22_code 8 = .ok (.iload_n 2, 1) := by decide +kernel
theorem d_19_22_9 : decode prog_19_method_22_code 9 = .ok (.invokestatic 91, 3) := by decide +kernel
theorem d_19_22_12 : decode prog_19_method_22_code 12 = .ok (.ifCond .ne 10, 3) := by decide +kernel
theorem d_19_22_15 : decode prog_19_method_22_code 15 = .ok (.iload_n 3, 1) := by decide +kernel
theorem d_19_22_16 : decode prog_19_method_22_code 16 = .ok (.invokestatic 91, 3) := by decide +kernel
theorem d_19_22_19 : decode prog_19_method_22_code 19 = .ok (.ifCond .eq 7, 3) := by decide +kernel
theorem d_19_22_26 : decode prog_19_method_22_code 26 = .ok (.iconst 0, 1) := by decide +kernel
def y_WR_add : MethodName := ⟨"NumberHouseModel$WholeRows", "add", "(IIIZ)V"⟩
def F_WR_add_c97 (x2 : Int32) (x3 : Int32) (x4 : Int32) (x5 : Int32) (t0_0 : Int32) (t0_1 : Int32) (t0_2 : Int32) (t0_3 : Int32) (t0_4 : Int32) (t0_5 : Int32) (t0_6 : Int32) (t1_0 : (Nat → Int32)) (t2_0 : (Nat → Int32)) (t3_0 : (Nat → Int32)) (t4_0 : (Nat → Int32)) (t5_0 : (Nat → Int32)) (lx36 : Int32) (f60 : (Nat → Int32)) (f68 : (Nat → Int32)) (p114 : (Int32 × Int32 × Int32 × Int32 × Int32 × Int32 × Int32 × (Nat → Int32))) (f96 : (Nat → Int32)) (p158 : (Int32 × Int32 × Int32 × Int32 × Int32 × Int32 × Int32 × (Nat → Int32) × (Nat → Int32))) : Int32 × Int32 × Int32 × Int32 × Int32 × Int32 × Int32 × (Nat → Int32) × (Nat → Int32) × (Nat → Int32) × (Nat → Int32) × (Nat → Int32) := ((p158.1 : Int32), (p158.2.1 : Int32), (p158.2.2.1 : Int32), (p158.2.2.2.1 : Int32), (p158.2.2.2.2.1 : Int32), (p158.2.2.2.2.2.1 : Int32), (p158.2.2.2.2.2.2.1 : Int32), (p158.2.2.2.2.2.2.2.1 : (Nat → Int32)), (p158.2.2.2.2.2.2.2.2 : (Nat → Int32)), f96, f60, f68)
def F_WR_add_c92 (x2 : Int32) (x3 : Int32) (x4 : Int32) (x5 : Int32) (t0_0 : Int32) (t0_1 : Int32) (t0_2 : Int32) (t0_3 : Int32) (t0_4 : Int32) (t0_5 : Int32) (t0_6 : Int32) (t1_0 : (Nat → Int32)) (t2_0 : (Nat → Int32)) (t3_0 : (Nat → Int32)) (t4_0 : (Nat → Int32)) (t5_0 : (Nat → Int32)) (lx36 : Int32) (f60 : (Nat → Int32)) (f68 : (Nat → Int32)) (p114 : (Int32 × Int32 × Int32 × Int32 × Int32 × Int32 × Int32 × (Nat → Int32))) : Int32 × Int32 × Int32 × Int32 × Int32 × Int32 × Int32 × (Nat → Int32) × (Nat → Int32) × (Nat → Int32) × (Nat → Int32) × (Nat → Int32) := F_WR_add_c97 x2 x3 x4 x5 t0_0 t0_1 t0_2 t0_3 t0_4 t0_5 t0_6 t1_0 t2_0 t3_0 t4_0 t5_0 lx36 f60 f68 p114 (p114.2.2.2.2.2.2.2 : (Nat → Int32)) ((F_WR_store x4 (p114.1 : Int32) (p114.2.1 : Int32) (p114.2.2.1 : Int32) (p114.2.2.2.1 : Int32) (p114.2.2.2.2.1 : Int32) (p114.2.2.2.2.2.1 : Int32) (p114.2.2.2.2.2.2.1 : Int32) t1_0 t2_0 (p114.2.2.2.2.2.2.2 : (Nat → Int32))) : (Int32 × Int32 × Int32 × Int32 × Int32 × Int32 × Int32 × (Nat → Int32) × (Nat → Int32)))
def F_WR_add_c97_5 (x2 : Int32) (x3 : Int32) (x4 : Int32) (x5 : Int32) (t0_0 : Int32) (t0_1 : Int32) (t0_2 : Int32) (t0_3 : Int32) (t0_4 : Int32) (t0_5 : Int32) (t0_6 : Int32) (t1_0 : (Nat → Int32)) (t2_0 : (Nat → Int32)) (t3_0 : (Nat → Int32)) (t4_0 : (Nat → Int32)) (t5_0 : (Nat → Int32)) (lx36 : Int32) (f60 : (Nat → Int32)) (f68 : (Nat → Int32)) (p206 : (Int32 × Int32 × Int32 × Int32 × Int32 × Int32 × Int32 × (Nat → Int32))) (f188 : (Nat → Int32)) (p250 : (Int32 × Int32 × Int32 × Int32 × Int32 × Int32 × Int32 × (Nat → Int32) × (Nat → Int32))) : Int32 × Int32 × Int32 × Int32 × Int32 × Int32 × Int32 × (Nat → Int32) × (Nat → Int32) × (Nat → Int32) × (Nat → Int32) × (Nat → Int32) := ((p250.1 : Int32), (p250.2.1 : Int32), (p250.2.2.1 : Int32), (p250.2.2.2.1 : Int32), (p250.2.2.2.2.1 : Int32), (p250.2.2.2.2.2.1 : Int32), (p250.2.2.2.2.2.2.1 : Int32), (p250.2.2.2.2.2.2.2.1 : (Nat → Int32)), (p250.2.2.2.2.2.2.2.2 : (Nat → Int32)), f188, f60, f68)
def F_WR_add_c92_4 (x2 : Int32) (x3 : Int32) (x4 : Int32) (x5 : Int32) (t0_0 : Int32) (t0_1 : Int32) (t0_2 : Int32) (t0_3 : Int32) (t0_4 : Int32) (t0_5 : Int32) (t0_6 : Int32) (t1_0 : (Nat → Int32)) (t2_0 : (Nat → Int32)) (t3_0 : (Nat → Int32)) (t4_0 : (Nat → Int32)) (t5_0 : (Nat → Int32)) (lx36 : Int32) (f60 : (Nat → Int32)) (f68 : (Nat → Int32)) (p206 : (Int32 × Int32 × Int32 × Int32 × Int32 × Int32 × Int32 × (Nat → Int32))) : Int32 × Int32 × Int32 × Int32 × Int32 × Int32 × Int32 × (Nat → Int32) × (Nat → Int32) × (Nat → Int32) × (Nat → Int32) × (Nat → Int32) := F_WR_add_c97_5 x2 x3 x4 x5 t0_0 t0_1 t0_2 t0_3 t0_4 t0_5 t0_6 t1_0 t2_0 t3_0 t4_0 t5_0 lx36 f60 f68 p206 (p206.2.2.2.2.2.2.2 : (Nat → Int32)) ((F_WR_store x4 (p206.1 : Int32) (p206.2.1 : Int32) (p206.2.2.1 : Int32) (p206.2.2.2.1 : Int32) (p206.2.2.2.2.1 : Int32) (p206.2.2.2.2.2.1 : Int32) (p206.2.2.2.2.2.2.1 : Int32) t1_0 t2_0 (p206.2.2.2.2.2.2.2 : (Nat → Int32))) : (Int32 × Int32 × Int32 × Int32 × Int32 × Int32 × Int32 × (Nat → Int32) × (Nat → Int32)))
def F_WR_add_J27 (x2 : Int32) (x3 : Int32) (x4 : Int32) (x5 : Int32) (t0_0 : Int32) (t0_1 : Int32) (t0_2 : Int32) (t0_3 : Int32) (t0_4 : Int32) (t0_5 : Int32) (t0_6 : Int32) (t1_0 : (Nat → Int32)) (t2_0 : (Nat → Int32)) (t3_0 : (Nat → Int32)) (t4_0 : (Nat → Int32)) (t5_0 : (Nat → Int32)) (lx36 : Int32) : Int32 × Int32 × Int32 × Int32 × Int32 × Int32 × Int32 × (Nat → Int32) × (Nat → Int32) × (Nat → Int32) × (Nat → Int32) × (Nat → Int32) := if lx36 ≤ (0 : Int32) then (if (t2_0 x3.toNatClampNeg : Int32) = x5 then (F_WR_add_c92 x2 x3 x4 x5 t0_0 t0_1 t0_2 t0_3 t0_4 t0_5 t0_6 t1_0 t2_0 t3_0 t4_0 t5_0 lx36 ((F_WR_take x2 (264 : Int32) lx36 (2 : Int32) t0_2 t0_3 t0_4 t0_5 t0_6 t1_0 t4_0) : (Nat → Int32)) ((F_WR_take x3 (264 : Int32) lx36 (2 : Int32) t0_2 t0_3 t0_4 t0_5 t0_6 t1_0 t5_0) : (Nat → Int32)) ((F_WR_sum (264 : Int32) (t2_0 x2.toNatClampNeg : Int32) (264 : Int32) (0 : Int32) lx36 (2 : Int32) t0_2 t0_3 t0_4 t0_5 t0_6 t3_0 ((F_WR_take x2 (264 : Int32) lx36 (2 : Int32) t0_2 t0_3 t0_4 t0_5 t0_6 t1_0 t4_0) : (Nat → Int32)) ((F_WR_take x3 (264 : Int32) lx36 (2 : Int32) t0_2 t0_3 t0_4 t0_5 t0_6 t1_0 t5_0) : (Nat → Int32))) : (Int32 × Int32 × Int32 × Int32 × Int32 × Int32 × Int32 × (Nat → Int32)))) else (F_WR_add_c92_4 x2 x3 x4 x5 t0_0 t0_1 t0_2 t0_3 t0_4 t0_5 t0_6 t1_0 t2_0 t3_0 t4_0 t5_0 lx36 ((F_WR_take x2 (264 : Int32) lx36 (2 : Int32) t0_2 t0_3 t0_4 t0_5 t0_6 t1_0 t4_0) : (Nat → Int32)) ((F_WR_take x3 (264 : Int32) lx36 (2 : Int32) t0_2 t0_3 t0_4 t0_5 t0_6 t1_0 t5_0) : (Nat → Int32)) ((F_WR_sum (264 : Int32) (t2_0 x2.toNatClampNeg : Int32) (264 : Int32) (1 : Int32) lx36 (2 : Int32) t0_2 t0_3 t0_4 t0_5 t0_6 t3_0 ((F_WR_take x2 (264 : Int32) lx36 (2 : Int32) t0_2 t0_3 t0_4 t0_5 t0_6 t1_0 t4_0) : (Nat → Int32)) ((F_WR_take x3 (264 : Int32) lx36 (2 : Int32) t0_2 t0_3 t0_4 t0_5 t0_6 t1_0 t5_0) : (Nat → Int32))) : (Int32 × Int32 × Int32 × Int32 × Int32 × Int32 × Int32 × (Nat → Int32))))) else ((lx36, t0_1, t0_2, t0_3, t0_4, t0_5, t0_6, t1_0, t2_0, t3_0, t4_0, t5_0))
def F_WR_add_J22 (x2 : Int32) (x3 : Int32) (x4 : Int32) (x5 : Int32) (t0_0 : Int32) (t0_1 : Int32) (t0_2 : Int32) (t0_3 : Int32) (t0_4 : Int32) (t0_5 : Int32) (t0_6 : Int32) (t1_0 : (Nat → Int32)) (t2_0 : (Nat → Int32)) (t3_0 : (Nat → Int32)) (t4_0 : (Nat → Int32)) (t5_0 : (Nat → Int32)) : Int32 × Int32 × Int32 × Int32 × Int32 × Int32 × Int32 × (Nat → Int32) × (Nat → Int32) × (Nat → Int32) × (Nat → Int32) × (Nat → Int32) := F_WR_add_J27 x2 x3 x4 x5 t0_0 t0_1 t0_2 t0_3 t0_4 t0_5 t0_6 t1_0 t2_0 t3_0 t4_0 t5_0 1
def F_WR_add (x2 : Int32) (x3 : Int32) (x4 : Int32) (x5 : Int32) (t0_0 : Int32) (t0_1 : Int32) (t0_2 : Int32) (t0_3 : Int32) (t0_4 : Int32) (t0_5 : Int32) (t0_6 : Int32) (t1_0 : (Nat → Int32)) (t2_0 : (Nat → Int32)) (t3_0 : (Nat → Int32)) (t4_0 : (Nat → Int32)) (t5_0 : (Nat → Int32)) : Int32 × Int32 × Int32 × Int32 × Int32 × Int32 × Int32 × (Nat → Int32) × (Nat → Int32) × (Nat → Int32) × (Nat → Int32) × (Nat → Int32) := if ((F_WR_no x2) : Int32) = (0 : Int32) then (if ((F_WR_no x3) : Int32) = (0 : Int32) then (if ((F_WR_no x4) : Int32) = (0 : Int32) then (F_WR_add_J27 x2 x3 x4 x5 t0_0 t0_1 t0_2 t0_3 t0_4 t0_5 t0_6 t1_0 t2_0 t3_0 t4_0 t5_0 0) else (F_WR_add_J22 x2 x3 x4 x5 t0_0 t0_1 t0_2 t0_3 t0_4 t0_5 t0_6 t1_0 t2_0 t3_0 t4_0 t5_0)) else (F_WR_add_J22 x2 x3 x4 x5 t0_0 t0_1 t0_2 t0_3 t0_4 t0_5 t0_6 t1_0 t2_0 t3_0 t4_0 t5_0)) else (F_WR_add_J22 x2 x3 x4 x5 t0_0 t0_1 t0_2 t0_3 t0_4 t0_5 t0_6 t1_0 t2_0 t3_0 t4_0 t5_0)
def S_WR_add_c97 (x2 : Int32) (x3 : Int32) (x4 : Int32) (x5 : Int32) (t0_0 : Int32) (t0_1 : Int32) (t0_2 : Int32) (t0_3 : Int32) (t0_4 : Int32) (t0_5 : Int32) (t0_6 : Int32) (t1_0 : (Nat → Int32)) (t2_0 : (Nat → Int32)) (t3_0 : (Nat → Int32)) (t4_0 : (Nat → Int32)) (t5_0 : (Nat → Int32)) (lx36 : Int32) (f60 : (Nat → Int32)) (f68 : (Nat → Int32)) (p114 : (Int32 × Int32 × Int32 × Int32 × Int32 × Int32 × Int32 × (Nat → Int32))) (f96 : (Nat → Int32)) (p158 : (Int32 × Int32 × Int32 × Int32 × Int32 × Int32 × Int32 × (Nat → Int32) × (Nat → Int32))) : Prop := True
def S_WR_add_c92 (x2 : Int32) (x3 : Int32) (x4 : Int32) (x5 : Int32) (t0_0 : Int32) (t0_1 : Int32) (t0_2 : Int32) (t0_3 : Int32) (t0_4 : Int32) (t0_5 : Int32) (t0_6 : Int32) (t1_0 : (Nat → Int32)) (t2_0 : (Nat → Int32)) (t3_0 : (Nat → Int32)) (t4_0 : (Nat → Int32)) (t5_0 : (Nat → Int32)) (lx36 : Int32) (f60 : (Nat → Int32)) (f68 : (Nat → Int32)) (p114 : (Int32 × Int32 × Int32 × Int32 × Int32 × Int32 × Int32 × (Nat → Int32))) : Prop := (True ∧ S_WR_store x4 (p114.1 : Int32) (p114.2.1 : Int32) (p114.2.2.1 : Int32) (p114.2.2.2.1 : Int32) (p114.2.2.2.2.1 : Int32) (p114.2.2.2.2.2.1 : Int32) (p114.2.2.2.2.2.2.1 : Int32) t1_0 t2_0 (p114.2.2.2.2.2.2.2 : (Nat → Int32))) ∧ (S_WR_add_c97 x2 x3 x4 x5 t0_0 t0_1 t0_2 t0_3 t0_4 t0_5 t0_6 t1_0 t2_0 t3_0 t4_0 t5_0 lx36 f60 f68 p114 (p114.2.2.2.2.2.2.2 : (Nat → Int32)) ((F_WR_store x4 (p114.1 : Int32) (p114.2.1 : Int32) (p114.2.2.1 : Int32) (p114.2.2.2.1 : Int32) (p114.2.2.2.2.1 : Int32) (p114.2.2.2.2.2.1 : Int32) (p114.2.2.2.2.2.2.1 : Int32) t1_0 t2_0 (p114.2.2.2.2.2.2.2 : (Nat → Int32))) : (Int32 × Int32 × Int32 × Int32 × Int32 × Int32 × Int32 × (Nat → Int32) × (Nat → Int32))))
def S_WR_add_c97_5 (x2 : Int32) (x3 : Int32) (x4 : Int32) (x5 : Int32) (t0_0 : Int32) (t0_1 : Int32) (t0_2 : Int32) (t0_3 : Int32) (t0_4 : Int32) (t0_5 : Int32) (t0_6 : Int32) (t1_0 : (Nat → Int32)) (t2_0 : (Nat → Int32)) (t3_0 : (Nat → Int32)) (t4_0 : (Nat → Int32)) (t5_0 : (Nat → Int32)) (lx36 : Int32) (f60 : (Nat → Int32)) (f68 : (Nat → Int32)) (p206 : (Int32 × Int32 × Int32 × Int32 × Int32 × Int32 × Int32 × (Nat → Int32))) (f188 : (Nat → Int32)) (p250 : (Int32 × Int32 × Int32 × Int32 × Int32 × Int32 × Int32 × (Nat → Int32) × (Nat → Int32))) : Prop := True
def S_WR_add_c92_4 (x2 : Int32) (x3 : Int32) (x4 : Int32) (x5 : Int32) (t0_0 : Int32) (t0_1 : Int32) (t0_2 : Int32) (t0_3 : Int32) (t0_4 : Int32) (t0_5 : Int32) (t0_6 : Int32) (t1_0 : (Nat → Int32)) (t2_0 : (Nat → Int32)) (t3_0 : (Nat → Int32)) (t4_0 : (Nat → Int32)) (t5_0 : (Nat → Int32)) (lx36 : Int32) (f60 : (Nat → Int32)) (f68 : (Nat → Int32)) (p206 : (Int32 × Int32 × Int32 × Int32 × Int32 × Int32 × Int32 × (Nat → Int32))) : Prop := (True ∧ S_WR_store x4 (p206.1 : Int32) (p206.2.1 : Int32) (p206.2.2.1 : Int32) (p206.2.2.2.1 : Int32) (p206.2.2.2.2.1 : Int32) (p206.2.2.2.2.2.1 : Int32) (p206.2.2.2.2.2.2.1 : Int32) t1_0 t2_0 (p206.2.2.2.2.2.2.2 : (Nat → Int32))) ∧ (S_WR_add_c97_5 x2 x3 x4 x5 t0_0 t0_1 t0_2 t0_3 t0_4 t0_5 t0_6 t1_0 t2_0 t3_0 t4_0 t5_0 lx36 f60 f68 p206 (p206.2.2.2.2.2.2.2 : (Nat → Int32)) ((F_WR_store x4 (p206.1 : Int32) (p206.2.1 : Int32) (p206.2.2.1 : Int32) (p206.2.2.2.1 : Int32) (p206.2.2.2.2.1 : Int32) (p206.2.2.2.2.2.1 : Int32) (p206.2.2.2.2.2.2.1 : Int32) t1_0 t2_0 (p206.2.2.2.2.2.2.2 : (Nat → Int32))) : (Int32 × Int32 × Int32 × Int32 × Int32 × Int32 × Int32 × (Nat → Int32) × (Nat → Int32))))
def S_WR_add_J27 (x2 : Int32) (x3 : Int32) (x4 : Int32) (x5 : Int32) (t0_0 : Int32) (t0_1 : Int32) (t0_2 : Int32) (t0_3 : Int32) (t0_4 : Int32) (t0_5 : Int32) (t0_6 : Int32) (t1_0 : (Nat → Int32)) (t2_0 : (Nat → Int32)) (t3_0 : (Nat → Int32)) (t4_0 : (Nat → Int32)) (t5_0 : (Nat → Int32)) (lx36 : Int32) : Prop := if lx36 ≤ (0 : Int32) then ((True ∧ S_WR_take x2 (264 : Int32) lx36 (2 : Int32) t0_2 t0_3 t0_4 t0_5 t0_6 t1_0 t4_0) ∧ ((True ∧ S_WR_take x3 (264 : Int32) lx36 (2 : Int32) t0_2 t0_3 t0_4 t0_5 t0_6 t1_0 t5_0) ∧ ((0 ≤ x2.toInt) ∧ ((x2.toInt ≤ 10) ∧ ((0 ≤ x3.toInt) ∧ ((x3.toInt ≤ 10) ∧ (if (t2_0 x3.toNatClampNeg : Int32) = x5 then ((0 ≤ (t2_0 x2.toNatClampNeg : Int32).toInt) ∧ (((t2_0 x2.toNatClampNeg : Int32).toInt ≤ 1) ∧ ((True ∧ S_WR_sum (264 : Int32) (t2_0 x2.toNatClampNeg : Int32) (264 : Int32) (0 : Int32) lx36 (2 : Int32) t0_2 t0_3 t0_4 t0_5 t0_6 t3_0 ((F_WR_take x2 (264 : Int32) lx36 (2 : Int32) t0_2 t0_3 t0_4 t0_5 t0_6 t1_0 t4_0) : (Nat → Int32)) ((F_WR_take x3 (264 : Int32) lx36 (2 : Int32) t0_2 t0_3 t0_4 t0_5 t0_6 t1_0 t5_0) : (Nat → Int32))) ∧ (S_WR_add_c92 x2 x3 x4 x5 t0_0 t0_1 t0_2 t0_3 t0_4 t0_5 t0_6 t1_0 t2_0 t3_0 t4_0 t5_0 lx36 ((F_WR_take x2 (264 : Int32) lx36 (2 : Int32) t0_2 t0_3 t0_4 t0_5 t0_6 t1_0 t4_0) : (Nat → Int32)) ((F_WR_take x3 (264 : Int32) lx36 (2 : Int32) t0_2 t0_3 t0_4 t0_5 t0_6 t1_0 t5_0) : (Nat → Int32)) ((F_WR_sum (264 : Int32) (t2_0 x2.toNatClampNeg : Int32) (264 : Int32) (0 : Int32) lx36 (2 : Int32) t0_2 t0_3 t0_4 t0_5 t0_6 t3_0 ((F_WR_take x2 (264 : Int32) lx36 (2 : Int32) t0_2 t0_3 t0_4 t0_5 t0_6 t1_0 t4_0) : (Nat → Int32)) ((F_WR_take x3 (264 : Int32) lx36 (2 : Int32) t0_2 t0_3 t0_4 t0_5 t0_6 t1_0 t5_0) : (Nat → Int32))) : (Int32 × Int32 × Int32 × Int32 × Int32 × Int32 × Int32 × (Nat → Int32))))))) else ((0 ≤ (t2_0 x2.toNatClampNeg : Int32).toInt) ∧ (((t2_0 x2.toNatClampNeg : Int32).toInt ≤ 1) ∧ ((True ∧ S_WR_sum (264 : Int32) (t2_0 x2.toNatClampNeg : Int32) (264 : Int32) (1 : Int32) lx36 (2 : Int32) t0_2 t0_3 t0_4 t0_5 t0_6 t3_0 ((F_WR_take x2 (264 : Int32) lx36 (2 : Int32) t0_2 t0_3 t0_4 t0_5 t0_6 t1_0 t4_0) : (Nat → Int32)) ((F_WR_take x3 (264 : Int32) lx36 (2 : Int32) t0_2 t0_3 t0_4 t0_5 t0_6 t1_0 t5_0) : (Nat → Int32))) ∧ (S_WR_add_c92_4 x2 x3 x4 x5 t0_0 t0_1 t0_2 t0_3 t0_4 t0_5 t0_6 t1_0 t2_0 t3_0 t4_0 t5_0 lx36 ((F_WR_take x2 (264 : Int32) lx36 (2 : Int32) t0_2 t0_3 t0_4 t0_5 t0_6 t1_0 t4_0) : (Nat → Int32)) ((F_WR_take x3 (264 : Int32) lx36 (2 : Int32) t0_2 t0_3 t0_4 t0_5 t0_6 t1_0 t5_0) : (Nat → Int32)) ((F_WR_sum (264 : Int32) (t2_0 x2.toNatClampNeg : Int32) (264 : Int32) (1 : Int32) lx36 (2 : Int32) t0_2 t0_3 t0_4 t0_5 t0_6 t3_0 ((F_WR_take x2 (264 : Int32) lx36 (2 : Int32) t0_2 t0_3 t0_4 t0_5 t0_6 t1_0 t4_0) : (Nat → Int32)) ((F_WR_take x3 (264 : Int32) lx36 (2 : Int32) t0_2 t0_3 t0_4 t0_5 t0_6 t1_0 t5_0) : (Nat → Int32))) : (Int32 × Int32 × Int32 × Int32 × Int32 × Int32 × Int32 × (Nat → Int32)))))))))))))) else (True)
def S_WR_add_J22 (x2 : Int32) (x3 : Int32) (x4 : Int32) (x5 : Int32) (t0_0 : Int32) (t0_1 : Int32) (t0_2 : Int32) (t0_3 : Int32) (t0_4 : Int32) (t0_5 : Int32) (t0_6 : Int32) (t1_0 : (Nat → Int32)) (t2_0 : (Nat → Int32)) (t3_0 : (Nat → Int32)) (t4_0 : (Nat → Int32)) (t5_0 : (Nat → Int32)) : Prop := S_WR_add_J27 x2 x3 x4 x5 t0_0 t0_1 t0_2 t0_3 t0_4 t0_5 t0_6 t1_0 t2_0 t3_0 t4_0 t5_0 1
def S_WR_add (x2 : Int32) (x3 : Int32) (x4 : Int32) (x5 : Int32) (t0_0 : Int32) (t0_1 : Int32) (t0_2 : Int32) (t0_3 : Int32) (t0_4 : Int32) (t0_5 : Int32) (t0_6 : Int32) (t1_0 : (Nat → Int32)) (t2_0 : (Nat → Int32)) (t3_0 : (Nat → Int32)) (t4_0 : (Nat → Int32)) (t5_0 : (Nat → Int32)) : Prop := if ((F_WR_no x2) : Int32) = (0 : Int32) then (if ((F_WR_no x3) : Int32) = (0 : Int32) then (if ((F_WR_no x4) : Int32) = (0 : Int32) then (S_WR_add_J27 x2 x3 x4 x5 t0_0 t0_1 t0_2 t0_3 t0_4 t0_5 t0_6 t1_0 t2_0 t3_0 t4_0 t5_0 0) else (S_WR_add_J22 x2 x3 x4 x5 t0_0 t0_1 t0_2 t0_3 t0_4 t0_5 t0_6 t1_0 t2_0 t3_0 t4_0 t5_0)) else (S_WR_add_J22 x2 x3 x4 x5 t0_0 t0_1 t0_2 t0_3 t0_4 t0_5 t0_6 t1_0 t2_0 t3_0 t4_0 t5_0)) else (S_WR_add_J22 x2 x3 x4 x5 t0_0 t0_1 t0_2 t0_3 t0_4 t0_5 t0_6 t1_0 t2_0 t3_0 t4_0 t5_0)
set_option maxRecDepth 100000 in
set_option maxHeartbeats 4000000 in
theorem X_WR_add (l : Launch) (D : va_G) (g : Nat → ClassId) (q : Nat → Nat) (ws : va_W) (x2 : Int32) (x3 : Int32) (x4 : Int32) (x5 : Int32) (hI : q_I (msh g q) q ws) (t0_0 : Int32) (t0_1 : Int32) (t0_2 : Int32) (t0_3 : Int32) (t0_4 : Int32) (t0_5 : Int32) (t0_6 : Int32) (hT0 : ws[119]? = (some (q 119, .inr (13, [.int t0_0, .int t0_1, .ref (q 120), .int t0_2, .ref (q 121), .ref (q 122), .ref (q 123), .int t0_3, .ref (q 124), .ref (q 125), .ref (q 126), .ref (q 127), .ref (q 128), .ref (q 129), .ref (q 130), .ref (q 131), .int t0_4, .int t0_5, .ref (q 132), .ref (q 133), .int t0_6])) : Option (Nat × va_E))) (t1_0 : (Nat → Int32)) (hT1 : ws[121]? = (some (q 121, .inl (g 0, (1408 : Int32).toNatClampNeg, .inl t1_0)) : Option (Nat × va_E))) (t2_0 : (Nat → Int32)) (hT2 : ws[122]? = (some (q 122, .inl (g 3, 11, .inl t2_0)) : Option (Nat × va_E))) (t3_0 : (Nat → Int32)) (hT3 : ws[123]? = (some (q 123, .inl (g 0, (264 : Int32).toNatClampNeg, .inl t3_0)) : Option (Nat × va_E))) (t4_0 : (Nat → Int32)) (hT4 : ws[128]? = (some (q 128, .inl (g 0, (264 : Int32).toNatClampNeg, .inl t4_0)) : Option (Nat × va_E))) (t5_0 : (Nat → Int32)) (hT5 : ws[129]? = (some (q 129, .inl (g 0, (264 : Int32).toNatClampNeg, .inl t5_0)) : Option (Nat × va_E))) (hzx5 : 0 ≤ x5.toInt ∧ x5.toInt ≤ 1) (hS : True ∧ S_WR_add x2 x3 x4 x5 t0_0 t0_1 t0_2 t0_3 t0_4 t0_5 t0_6 t1_0 t2_0 t3_0 t4_0 t5_0) : q_mV l y_WR_add prog_19_method_22_code 5 3 0 0 D g [.ref (q 119), .int x2, .int x3, .int x4, .int x5] ws (fun u => q_I (msh g q) q u ∧ q_un ws u [119, 121, 122, 123, 128, 129] ∧ ∃ (u0_0 : Int32) (u0_1 : Int32) (u0_2 : Int32) (u0_3 : Int32) (u0_4 : Int32) (u0_5 : Int32) (u0_6 : Int32) (u1_0 : (Nat → Int32)) (u2_0 : (Nat → Int32)) (u3_0 : (Nat → Int32)) (u4_0 : (Nat → Int32)) (u5_0 : (Nat → Int32)), u[119]? = (some (q 119, .inr (13, [.int u0_0, .int u0_1, .ref (q 120), .int u0_2, .ref (q 121), .ref (q 122), .ref (q 123), .int u0_3, .ref (q 124), .ref (q 125), .ref (q 126), .ref (q 127), .ref (q 128), .ref (q 129), .ref (q 130), .ref (q 131), .int u0_4, .int u0_5, .ref (q 132), .ref (q 133), .int u0_6])) : Option (Nat × va_E)) ∧ u[121]? = (some (q 121, .inl (g 0, (1408 : Int32).toNatClampNeg, .inl u1_0)) : Option (Nat × va_E)) ∧ u[122]? = (some (q 122, .inl (g 3, 11, .inl u2_0)) : Option (Nat × va_E)) ∧ u[123]? = (some (q 123, .inl (g 0, (264 : Int32).toNatClampNeg, .inl u3_0)) : Option (Nat × va_E)) ∧ u[128]? = (some (q 128, .inl (g 0, (264 : Int32).toNatClampNeg, .inl u4_0)) : Option (Nat × va_E)) ∧ u[129]? = (some (q 129, .inl (g 0, (264 : Int32).toNatClampNeg, .inl u5_0)) : Option (Nat × va_E)) ∧ (0 ≤ u0_3.toInt) ∧ (u0_3.toInt ≤ 1) ∧ (t0_2.toInt ≤ u0_2.toInt) ∧ (u0_2.toInt ≤ t0_2.toInt) ∧ (t0_4.toInt ≤ u0_4.toInt) ∧ (u0_4.toInt ≤ t0_4.toInt) ∧ (t0_5.toInt ≤ u0_5.toInt) ∧ (u0_5.toInt ≤ t0_5.toInt) ∧ (t0_6.toInt ≤ u0_6.toInt) ∧ (u0_6.toInt ≤ t0_6.toInt) ∧ (u0_0, u0_1, u0_2, u0_3, u0_4, u0_5, u0_6, u1_0, u2_0, u3_0, u4_0, u5_0) = (F_WR_add x2 x3 x4 x5 t0_0 t0_1 t0_2 t0_3 t0_4 t0_5 t0_6 t1_0 t2_0 t3_0 t4_0 t5_0)) := by
  intro sz
  refine q_into (by decide) (Nat.le_of_ble_eq_true rfl) ?_
  intro p e s m below meth c ls hsz C0 V hl
  have hx := C0.1
  have hb := C0.2.1
  clear hzx5
  obtain ⟨btt0_2, hZ9⟩ := n_w119 hI hT0
  obtain ⟨btt0_3, hZ9⟩ := hZ9
  obtain ⟨btt0_4, hZ9⟩ := hZ9
  obtain ⟨btt0_5, btt0_6⟩ := hZ9
  replace btt0_2 : q_F (0 ≤ t0_2.toInt ∧ t0_2.toInt ≤ 4100) := btt0_2
  replace btt0_3 : q_F (0 ≤ t0_3.toInt ∧ t0_3.toInt ≤ 1) := btt0_3
  replace btt0_4 : q_F (0 ≤ t0_4.toInt ∧ t0_4.toInt ≤ 1) := btt0_4
  replace btt0_5 : q_F (0 ≤ t0_5.toInt ∧ t0_5.toInt ≤ 1) := btt0_5
  replace btt0_6 : q_F (0 ≤ t0_6.toInt ∧ t0_6.toInt ≤ 2100) := btt0_6
  have hF : q_un ws ws [119, 121, 122, 123, 128, 129] := q_u0
  have hl : lv_has ls 5 [(0, .ref (q 119)), (1, .int x2), (2, .int x3), (3, .int x4), (4, .int x5)] := hl
  refine lv_aload_n hx hb d_19_22_0 rfl (lv_at hl 0 rfl) ?_
  refine lv_iload_n hx hb d_19_22_1 rfl (lv_at hl 1 rfl) ?_
  refine q_goi V (q_runS (As := [.int x2]) (rest := [.ref (q 119)]) (d := 1) (mc := 0) (ms := 0) C0 V rfl LS_WR_91 (X_WR_no l D g q ws  x2 hI   _) rfl hl.1 rfl (Nat.le_of_ble_eq_true rfl) ⟨by decide, by decide⟩ ⟨Nat.le_of_ble_eq_true rfl, Nat.le_of_ble_eq_true rfl⟩ d_19_22_2) (fun a31 u29 H locs hp30 V => ?_)
  obtain ⟨rfl, b32, b33, hE34⟩ := hp30
  have e35 : a31 = (F_WR_no x2) := hE34
  clear b32
  clear b33
  refine q_join (X := Int32) (fun z H locs ls _ => q_F (0 ≤ z.toInt) ∧ q_F (z.toInt ≤ 1) ∧ q_Wd D g (va_A ws sz) s ws H locs ∧ lv_has ls 5 [(0, .ref (q 119)), (1, .int x2), (2, .int x3), (3, .int x4), (4, .int x5)] ∧ F_WR_add_J27 x2 x3 x4 x5 t0_0 t0_1 t0_2 t0_3 t0_4 t0_5 t0_6 t1_0 t2_0 t3_0 t4_0 t5_0 z = (F_WR_add x2 x3 x4 x5 t0_0 t0_1 t0_2 t0_3 t0_4 t0_5 t0_6 t1_0 t2_0 t3_0 t4_0 t5_0) ∧ True ∧ S_WR_add_J27 x2 x3 x4 x5 t0_0 t0_1 t0_2 t0_3 t0_4 t0_5 t0_6 t1_0 t2_0 t3_0 t4_0 t5_0 z) (fun z => [.int z, .ref (q 119)]) 27 0 0 ?_ ?_
  ·
    rintro lx36 H locs ls _ hZ9
    replace hZ9 := hZ9.2.2
    obtain ⟨V, hZ9⟩ := hZ9
    obtain ⟨hl, hZ9⟩ := hZ9
    obtain ⟨hR46, hS47⟩ := hZ9
    replace hl : lv_has ls 5 [(0, .ref (q 119)), (1, .int x2), (2, .int x3), (3, .int x4), (4, .int x5)] := hl
    refine q_put (ci := 13) (j := 0) (v := .int lx36) (ty := .int) C0 V i_WR o_WR n_WR rfl rfl hT0 (by decide) w_1921 rfl rfl rfl rfl (Nat.le_of_ble_eq_true rfl) d_19_22_27 (fun H locs w51 hu52 hT0 V => ?_)
    replace hT0 : w51[119]? = (some (q 119, .inr (13, [.int lx36, .int t0_1, .ref (q 120), .int t0_2, .ref (q 121), .ref (q 122), .ref (q 123), .int t0_3, .ref (q 124), .ref (q 125), .ref (q 126), .ref (q 127), .ref (q 128), .ref (q 129), .ref (q 130), .ref (q 131), .int t0_4, .int t0_5, .ref (q 132), .ref (q 133), .int t0_6])) : Option (Nat × va_E)) := hT0
    replace hI := n_p119 hI hu52 hT0 (by first | with_reducible exact q_fe btt0_2 | exact ⟨(by have t1 : 0 ≤ t0_2.toInt ∧ t0_2.toInt ≤ 4100 := btt0_2; omega), (by have t1 : 0 ≤ t0_2.toInt ∧ t0_2.toInt ≤ 4100 := btt0_2; omega)⟩) (by first | with_reducible exact q_fe btt0_3 | exact ⟨(by have t1 : 0 ≤ t0_3.toInt ∧ t0_3.toInt ≤ 1 := btt0_3; omega), (by have t1 : 0 ≤ t0_3.toInt ∧ t0_3.toInt ≤ 1 := btt0_3; omega)⟩) (by first | with_reducible exact q_fe btt0_4 | exact ⟨(by have t1 : 0 ≤ t0_4.toInt ∧ t0_4.toInt ≤ 1 := btt0_4; omega), (by have t1 : 0 ≤ t0_4.toInt ∧ t0_4.toInt ≤ 1 := btt0_4; omega)⟩) (by first | with_reducible exact q_fe btt0_5 | exact ⟨(by have t1 : 0 ≤ t0_5.toInt ∧ t0_5.toInt ≤ 1 := btt0_5; omega), (by have t1 : 0 ≤ t0_5.toInt ∧ t0_5.toInt ≤ 1 := btt0_5; omega)⟩) (by first | with_reducible exact q_fe btt0_6 | exact ⟨(by have t1 : 0 ≤ t0_6.toInt ∧ t0_6.toInt ≤ 2100 := btt0_6; omega), (by have t1 : 0 ≤ t0_6.toInt ∧ t0_6.toInt ≤ 2100 := btt0_6; omega)⟩)
    replace hT1 := (hu52 _ (by decide)).trans hT1
    replace hT2 := (hu52 _ (by decide)).trans hT2
    replace hT3 := (hu52 _ (by decide)).trans hT3
    replace hT4 := (hu52 _ (by decide)).trans hT4
    replace hT5 := (hu52 _ (by decide)).trans hT5
    replace hF := q_us hF hu52 (by simp)
    refine lv_aload_n hx hb d_19_22_30 rfl (lv_at hl 0 rfl) ?_
    refine q_get (ci := 13) (j := 0) (v := .int lx36) C0 V i_WR rfl rfl hT0 (by decide) w_1921 rfl d_19_22_31 ?_
    refine lv_if_le (tgt := 38) hx hb d_19_22_34 (by decide) (fun c53 => ?_) (fun c53 => ?_)
    ·
      refine lv_aload_n hx hb d_19_22_38 rfl (lv_at hl 0 rfl) ?_
      refine lv_iconst (v := 2) hx hb d_19_22_39 (by decide) ?_
      refine q_put (ci := 13) (j := 1) (v := .int 2) (ty := .int) C0 V i_WR o_WR n_WR rfl rfl hT0 (by decide) w_1923 rfl rfl rfl rfl (Nat.le_of_ble_eq_true rfl) d_19_22_40 (fun H locs w55 hu56 hT0 V => ?_)
      replace hT0 : w55[119]? = (some (q 119, .inr (13, [.int lx36, .int 2, .ref (q 120), .int t0_2, .ref (q 121), .ref (q 122), .ref (q 123), .int t0_3, .ref (q 124), .ref (q 125), .ref (q 126), .ref (q 127), .ref (q 128), .ref (q 129), .ref (q 130), .ref (q 131), .int t0_4, .int t0_5, .ref (q 132), .ref (q 133), .int t0_6])) : Option (Nat × va_E)) := hT0
      replace hI := n_p119 hI hu56 hT0 (by first | with_reducible exact q_fe btt0_2 | exact ⟨(by have t1 : 0 ≤ t0_2.toInt ∧ t0_2.toInt ≤ 4100 := btt0_2; omega), (by have t1 : 0 ≤ t0_2.toInt ∧ t0_2.toInt ≤ 4100 := btt0_2; omega)⟩) (by first | with_reducible exact q_fe btt0_3 | exact ⟨(by have t1 : 0 ≤ t0_3.toInt ∧ t0_3.toInt ≤ 1 := btt0_3; omega), (by have t1 : 0 ≤ t0_3.toInt ∧ t0_3.toInt ≤ 1 := btt0_3; omega)⟩) (by first | with_reducible exact q_fe btt0_4 | exact ⟨(by have t1 : 0 ≤ t0_4.toInt ∧ t0_4.toInt ≤ 1 := btt0_4; omega), (by have t1 : 0 ≤ t0_4.toInt ∧ t0_4.toInt ≤ 1 := btt0_4; omega)⟩) (by first | with_reducible exact q_fe btt0_5 | exact ⟨(by have t1 : 0 ≤ t0_5.toInt ∧ t0_5.toInt ≤ 1 := btt0_5; omega), (by have t1 : 0 ≤ t0_5.toInt ∧ t0_5.toInt ≤ 1 := btt0_5; omega)⟩) (by first | with_reducible exact q_fe btt0_6 | exact ⟨(by have t1 : 0 ≤ t0_6.toInt ∧ t0_6.toInt ≤ 2100 := btt0_6; omega), (by have t1 : 0 ≤ t0_6.toInt ∧ t0_6.toInt ≤ 2100 := btt0_6; omega)⟩)
      replace hT1 := (hu56 _ (by decide)).trans hT1
      replace hT2 := (hu56 _ (by decide)).trans hT2
      replace hT3 := (hu56 _ (by decide)).trans hT3
      replace hT4 := (hu56 _ (by decide)).trans hT4
      replace hT5 := (hu56 _ (by decide)).trans hT5
      replace hF := q_us hF hu56 (by simp)
      refine lv_aload_n hx hb d_19_22_43 rfl (lv_at hl 0 rfl) ?_
      refine lv_iload_n hx hb d_19_22_44 rfl (lv_at hl 1 rfl) ?_
      refine lv_aload_n hx hb d_19_22_45 rfl (lv_at hl 0 rfl) ?_
      refine q_get (ci := 13) (j := 12) (v := .ref (q 128)) C0 V i_WR rfl rfl hT0 (by decide) w_1936 rfl d_19_22_46 ?_
      have ob57 : True ∧ S_WR_take x2 (264 : Int32) lx36 (2 : Int32) t0_2 t0_3 t0_4 t0_5 t0_6 t1_0 t4_0 := (by have h := hS47; rw [S_WR_add_J27.eq_1] at h; rw [if_pos c53] at h; with_reducible exact h.2.1)
      refine q_gov V (q_runV (As := [.int x2, .ref (q 128)]) (rest := []) (d := 1) (mc := 0) (ms := 0) (ci := 13) C0 V rfl LV_WR_107 (X_WR_take l D g q w55 128 264 (n_r128 g q) x2 (by decide) hI lx36 2 t0_2 t0_3 t0_4 t0_5 t0_6 hT0 t1_0 hT1 t4_0 hT4 ob57 _) rfl rfl hT0 rfl hl.1 rfl (Nat.le_of_ble_eq_true rfl) ⟨by decide, by decide⟩ ⟨Nat.le_of_ble_eq_true rfl, Nat.le_of_ble_eq_true rfl⟩ d_19_22_49) (fun u58 H locs hp59 V => ?_)
      obtain ⟨hI, hu63, f60, hA61, hE62⟩ := hp59
      replace hA61 : u58[128]? = (some (q 128, .inl (g 0, (264 : Int32).toNatClampNeg, .inl f60)) : Option (Nat × va_E)) := hA61
      have e64 : f60 = (F_WR_take x2 (264 : Int32) lx36 (2 : Int32) t0_2 t0_3 t0_4 t0_5 t0_6 t1_0 t4_0) := hE62
      replace hT0 := (hu63 _ (by decide)).trans hT0
      replace hT1 := (hu63 _ (by decide)).trans hT1
      replace hT2 := (hu63 _ (by decide)).trans hT2
      replace hT3 := (hu63 _ (by decide)).trans hT3
      replace hT5 := (hu63 _ (by decide)).trans hT5
      replace hF := q_uc hF hu63 (by simp)
      refine lv_aload_n hx hb d_19_22_52 rfl (lv_at hl 0 rfl) ?_
      refine lv_iload_n hx hb d_19_22_53 rfl (lv_at hl 2 rfl) ?_
      refine lv_aload_n hx hb d_19_22_54 rfl (lv_at hl 0 rfl) ?_
      refine q_get (ci := 13) (j := 13) (v := .ref (q 129)) C0 V i_WR rfl rfl hT0 (by decide) w_1937 rfl d_19_22_55 ?_
      have ob65 : True ∧ S_WR_take x3 (264 : Int32) lx36 (2 : Int32) t0_2 t0_3 t0_4 t0_5 t0_6 t1_0 t5_0 := (by have h := hS47; rw [S_WR_add_J27.eq_1] at h; rw [if_pos c53] at h; replace h := q_s2 h; with_reducible exact h.2.1)
      refine q_gov V (q_runV (As := [.int x3, .ref (q 129)]) (rest := []) (d := 1) (mc := 0) (ms := 0) (ci := 13) C0 V rfl LV_WR_107 (X_WR_take l D g q u58 129 264 (n_r129 g q) x3 (by decide) hI lx36 2 t0_2 t0_3 t0_4 t0_5 t0_6 hT0 t1_0 hT1 t5_0 hT5 ob65 _) rfl rfl hT0 rfl hl.1 rfl (Nat.le_of_ble_eq_true rfl) ⟨by decide, by decide⟩ ⟨Nat.le_of_ble_eq_true rfl, Nat.le_of_ble_eq_true rfl⟩ d_19_22_58) (fun u66 H locs hp67 V => ?_)
      obtain ⟨hI, hu71, f68, hA69, hE70⟩ := hp67
      replace hA69 : u66[129]? = (some (q 129, .inl (g 0, (264 : Int32).toNatClampNeg, .inl f68)) : Option (Nat × va_E)) := hA69
      have e72 : f68 = (F_WR_take x3 (264 : Int32) lx36 (2 : Int32) t0_2 t0_3 t0_4 t0_5 t0_6 t1_0 t5_0) := hE70
      replace hT0 := (hu71 _ (by decide)).trans hT0
      replace hT1 := (hu71 _ (by decide)).trans hT1
      replace hT2 := (hu71 _ (by decide)).trans hT2
      replace hT3 := (hu71 _ (by decide)).trans hT3
      replace hA61 := (hu71 _ (by decide)).trans hA61
      replace hF := q_uc hF hu71 (by simp)
      refine lv_aload_n hx hb d_19_22_61 rfl (lv_at hl 0 rfl) ?_
      refine lv_aload_n hx hb d_19_22_62 rfl (lv_at hl 0 rfl) ?_
      refine q_get (ci := 13) (j := 12) (v := .ref (q 128)) C0 V i_WR rfl rfl hT0 (by decide) w_1936 rfl d_19_22_63 ?_
      refine lv_aload_n hx hb d_19_22_66 rfl (lv_at hl 0 rfl) ?_
      refine q_get (ci := 13) (j := 5) (v := .ref (q 122)) C0 V i_WR rfl rfl hT0 (by decide) w_1929 rfl d_19_22_67 ?_
      refine lv_iload_n hx hb d_19_22_70 rfl (lv_at hl 1 rfl) ?_
      have ob73 : q_F (0 ≤ x2.toInt) := (by have h := hS47; rw [S_WR_add_J27.eq_1] at h; rw [if_pos c53] at h; replace h := q_s2 h; replace h := q_s2 h; exact h.2.1)
      have ob74 : q_F (x2.toInt ≤ 10) := (by have h := hS47; rw [S_WR_add_J27.eq_1] at h; rw [if_pos c53] at h; replace h := q_s2 h; replace h := q_s2 h; replace h := q_s2 h; exact h.2.1)
      refine q_zald C0 V hT2 (q_ix (x := x2.toInt) rfl (by first | with_reducible exact q_fe ob73 | (have t1 : 0 ≤ x2.toInt := ob73; omega)) (by have t1 : 0 ≤ x2.toInt := ob73; have t2 : x2.toInt ≤ 10 := ob74; omega)) d_19_22_71 ?_
      obtain ⟨a75, e76⟩ := q_nm (t2_0 x2.toNatClampNeg : Int32)
      refine q_ti (v := a75) e76 ?_
      refine lv_aload_n hx hb d_19_22_72 rfl (lv_at hl 0 rfl) ?_
      refine q_get (ci := 13) (j := 13) (v := .ref (q 129)) C0 V i_WR rfl rfl hT0 (by decide) w_1937 rfl d_19_22_73 ?_
      refine lv_aload_n hx hb d_19_22_76 rfl (lv_at hl 0 rfl) ?_
      refine q_get (ci := 13) (j := 5) (v := .ref (q 122)) C0 V i_WR rfl rfl hT0 (by decide) w_1929 rfl d_19_22_77 ?_
      refine lv_iload_n hx hb d_19_22_80 rfl (lv_at hl 2 rfl) ?_
      have ob77 : q_F (0 ≤ x3.toInt) := (by have h := hS47; rw [S_WR_add_J27.eq_1] at h; rw [if_pos c53] at h; replace h := q_s2 h; replace h := q_s2 h; replace h := q_s2 h; replace h := q_s2 h; exact h.2.1)
      have ob78 : q_F (x3.toInt ≤ 10) := (by have h := hS47; rw [S_WR_add_J27.eq_1] at h; rw [if_pos c53] at h; replace h := q_s2 h; replace h := q_s2 h; replace h := q_s2 h; replace h := q_s2 h; replace h := q_s2 h; exact h.2.1)
      refine q_zald C0 V hT2 (q_ix (x := x3.toInt) rfl (by first | with_reducible exact q_fe ob77 | (have t1 : 0 ≤ x3.toInt := ob77; omega)) (by have t1 : 0 ≤ x3.toInt := ob77; have t2 : x3.toInt ≤ 10 := ob78; omega)) d_19_22_81 ?_
      obtain ⟨a79, e80⟩ := q_nm (t2_0 x3.toNatClampNeg : Int32)
      refine q_ti (v := a79) e80 ?_
      refine lv_iload hx hb d_19_22_82 (lv_at hl 4 rfl) ?_
      refine lv_icmp_eq (tgt := 91) hx hb d_19_22_84 (by decide) (fun c81 => ?_) (fun c81 => ?_)
      ·
        refine lv_iconst (v := 0) hx hb d_19_22_91 (by decide) ?_
        have ob83 : q_F (0 ≤ a75.toInt) := (by rw [← e76]; have h := hS47; rw [S_WR_add_J27.eq_1] at h; rw [if_pos c53] at h; replace h := q_s2 h; replace h := q_s2 h; replace h := q_s2 h; replace h := q_s2 h; replace h := q_s2 h; replace h := q_s2 h; have c81x := c81; rw [← e80] at c81x; rw [if_pos c81x] at h; exact h.2.1)
        have ob84 : q_F (a75.toInt ≤ 1) := (by rw [← e76]; have h := hS47; rw [S_WR_add_J27.eq_1] at h; rw [if_pos c53] at h; replace h := q_s2 h; replace h := q_s2 h; replace h := q_s2 h; replace h := q_s2 h; replace h := q_s2 h; replace h := q_s2 h; have c81x := c81; rw [← e80] at c81x; rw [if_pos c81x] at h; replace h := q_s2 h; exact h.2.1)
        have ob85 : True ∧ S_WR_sum (264 : Int32) a75 (264 : Int32) (0 : Int32) lx36 (2 : Int32) t0_2 t0_3 t0_4 t0_5 t0_6 t3_0 f60 f68 := (by rw [← e76, e72, e64]; have h := hS47; rw [S_WR_add_J27.eq_1] at h; rw [if_pos c53] at h; replace h := q_s2 h; replace h := q_s2 h; replace h := q_s2 h; replace h := q_s2 h; replace h := q_s2 h; replace h := q_s2 h; have c81x := c81; rw [← e80] at c81x; rw [if_pos c81x] at h; replace h := q_s2 h; replace h := q_s2 h; with_reducible exact h.2.1)
        refine q_gov V (q_runV (As := [.ref (q 128), .int a75, .ref (q 129), .int 0]) (rest := []) (d := 2) (mc := 0) (ms := 0) (ci := 13) C0 V rfl LV_WR_111 (X_WR_sum l D g q u66 128 264 (n_r128 g q) 129 264 (n_r129 g q) a75 0 (by decide) (by decide) (by decide) hI lx36 2 t0_2 t0_3 t0_4 t0_5 t0_6 hT0 t3_0 hT3 f60 hA61 f68 hA69 ⟨(by have y0 : (264 : Int32).toInt = 264 := rfl; have y1 : (264 : Int32).toInt = 264 := rfl; have y2 : (0 : Int32).toInt = 0 := rfl; have y3 : (2 : Int32).toInt = 2 := rfl; have t1 : 0 ≤ a75.toInt := ob83; omega), (by have y0 : (264 : Int32).toInt = 264 := rfl; have y1 : (264 : Int32).toInt = 264 := rfl; have y2 : (0 : Int32).toInt = 0 := rfl; have y3 : (2 : Int32).toInt = 2 := rfl; have t1 : a75.toInt ≤ 1 := ob84; omega)⟩ ⟨(by have y0 : (264 : Int32).toInt = 264 := rfl; have y1 : (264 : Int32).toInt = 264 := rfl; have y2 : (0 : Int32).toInt = 0 := rfl; have y3 : (2 : Int32).toInt = 2 := rfl; omega), (by have y0 : (264 : Int32).toInt = 264 := rfl; have y1 : (264 : Int32).toInt = 264 := rfl; have y2 : (0 : Int32).toInt = 0 := rfl; have y3 : (2 : Int32).toInt = 2 := rfl; omega)⟩ ob85 _) rfl rfl hT0 rfl hl.1 rfl (Nat.le_of_ble_eq_true rfl) ⟨by decide, by decide⟩ ⟨Nat.le_of_ble_eq_true rfl, Nat.le_of_ble_eq_true rfl⟩ d_19_22_92) (fun u86 H locs hp87 V => ?_)
        obtain ⟨hI, hZ9⟩ := hp87
        obtain ⟨hu113, hZ9⟩ := hZ9
        obtain ⟨y89, hZ9⟩ := hZ9
        obtain ⟨y90, hZ9⟩ := hZ9
        obtain ⟨y91, hZ9⟩ := hZ9
        obtain ⟨y92, hZ9⟩ := hZ9
        obtain ⟨y93, hZ9⟩ := hZ9
        obtain ⟨y94, hZ9⟩ := hZ9
        obtain ⟨y95, hZ9⟩ := hZ9
        obtain ⟨f96, hZ9⟩ := hZ9
        obtain ⟨hO88, hZ9⟩ := hZ9
        obtain ⟨hA97, hZ9⟩ := hZ9
        obtain ⟨b98, hZ9⟩ := hZ9
        obtain ⟨b99, hZ9⟩ := hZ9
        replace hZ9 := hZ9.2.2.2.2
        obtain ⟨b104, hZ9⟩ := hZ9
        obtain ⟨b105, hZ9⟩ := hZ9
        obtain ⟨b106, hZ9⟩ := hZ9
        obtain ⟨b107, hZ9⟩ := hZ9
        obtain ⟨b108, hZ9⟩ := hZ9
        obtain ⟨b109, hZ9⟩ := hZ9
        obtain ⟨b110, hZ9⟩ := hZ9
        obtain ⟨b111, hE112⟩ := hZ9
        replace hO88 : u86[119]? = (some (q 119, .inr (13, [.int y89, .int y90, .ref (q 120), .int y91, .ref (q 121), .ref (q 122), .ref (q 123), .int y92, .ref (q 124), .ref (q 125), .ref (q 126), .ref (q 127), .ref (q 128), .ref (q 129), .ref (q 130), .ref (q 131), .int y93, .int y94, .ref (q 132), .ref (q 133), .int y95])) : Option (Nat × va_E)) := hO88
        replace hA97 : u86[123]? = (some (q 123, .inl (g 0, (264 : Int32).toNatClampNeg, .inl f96)) : Option (Nat × va_E)) := hA97
        obtain ⟨p114, e115⟩ : ∃ z, z = (F_WR_sum (264 : Int32) a75 (264 : Int32) (0 : Int32) lx36 (2 : Int32) t0_2 t0_3 t0_4 t0_5 t0_6 t3_0 f60 f68) := ⟨_, rfl⟩
        have e116 : y89 = p114.1 := congrArg (fun z => z.1) (hE112.trans e115.symm)
        have e117 : y90 = p114.2.1 := congrArg (fun z => z.2.1) (hE112.trans e115.symm)
        have e118 : y91 = p114.2.2.1 := congrArg (fun z => z.2.2.1) (hE112.trans e115.symm)
        have e119 : y92 = p114.2.2.2.1 := congrArg (fun z => z.2.2.2.1) (hE112.trans e115.symm)
        have e120 : y93 = p114.2.2.2.2.1 := congrArg (fun z => z.2.2.2.2.1) (hE112.trans e115.symm)
        have e121 : y94 = p114.2.2.2.2.2.1 := congrArg (fun z => z.2.2.2.2.2.1) (hE112.trans e115.symm)
        have e122 : y95 = p114.2.2.2.2.2.2.1 := congrArg (fun z => z.2.2.2.2.2.2.1) (hE112.trans e115.symm)
        have e123 : f96 = p114.2.2.2.2.2.2.2 := congrArg (fun z => z.2.2.2.2.2.2.2) (hE112.trans e115.symm)
        replace b98 : q_F (0 ≤ y92.toInt) := b98
        replace b99 : q_F (y92.toInt ≤ 1) := b99
        replace b104 : q_F (t0_2.toInt ≤ y91.toInt) := b104
        replace b105 : q_F (y91.toInt ≤ t0_2.toInt) := b105
        replace b106 : q_F (t0_4.toInt ≤ y93.toInt) := b106
        replace b107 : q_F (y93.toInt ≤ t0_4.toInt) := b107
        replace b108 : q_F (t0_5.toInt ≤ y94.toInt) := b108
        replace b109 : q_F (y94.toInt ≤ t0_5.toInt) := b109
        replace b110 : q_F (t0_6.toInt ≤ y95.toInt) := b110
        replace b111 : q_F (y95.toInt ≤ t0_6.toInt) := b111
        replace hT1 := (hu113 _ (by decide)).trans hT1
        replace hT2 := (hu113 _ (by decide)).trans hT2
        replace hA61 := (hu113 _ (by decide)).trans hA61
        replace hA69 := (hu113 _ (by decide)).trans hA69
        replace hF := q_uc hF hu113 (by simp)
        have hR124 := (show F_WR_add_c92 x2 x3 x4 x5 t0_0 t0_1 t0_2 t0_3 t0_4 t0_5 t0_6 t1_0 t2_0 t3_0 t4_0 t5_0 lx36 f60 f68 p114 = (F_WR_add x2 x3 x4 x5 t0_0 t0_1 t0_2 t0_3 t0_4 t0_5 t0_6 t1_0 t2_0 t3_0 t4_0 t5_0) from Eq.trans (by have c81x := c81; rw [← e80] at c81x; rw [e115, ← e76, e72, e64, F_WR_add_J27.eq_1, if_pos c53, if_pos c81x]) hR46)
        have hS125 := (show True ∧ S_WR_add_c92 x2 x3 x4 x5 t0_0 t0_1 t0_2 t0_3 t0_4 t0_5 t0_6 t1_0 t2_0 t3_0 t4_0 t5_0 lx36 f60 f68 p114 from (by rw [e115, ← e76, e72, e64]; have h := hS47; rw [S_WR_add_J27.eq_1] at h; rw [if_pos c53] at h; replace h := q_s2 h; replace h := q_s2 h; replace h := q_s2 h; replace h := q_s2 h; replace h := q_s2 h; replace h := q_s2 h; have c81x := c81; rw [← e80] at c81x; rw [if_pos c81x] at h; replace h := q_s2 h; replace h := q_s2 h; replace h := q_s2 h; with_reducible exact h))
        refine lv_aload_n hx hb d_19_22_95 rfl (lv_at hl 0 rfl) ?_
        refine lv_iload_n hx hb d_19_22_96 rfl (lv_at hl 3 rfl) ?_
        have ob129 : True ∧ S_WR_store x4 y89 y90 y91 y92 y93 y94 y95 t1_0 t2_0 f96 := (by rw [e123, e122, e121, e120, e119, e118, e117, e116]; have h := hS125; rw [S_WR_add_c92.eq_1] at h; with_reducible exact h.2.1)
        refine q_gov V (q_runV (As := [.int x4]) (rest := []) (d := 2) (mc := 0) (ms := 0) (ci := 13) C0 V rfl LV_WR_103 (X_WR_store l D g q u86  x4 hI y89 y90 y91 y92 y93 y94 y95 hO88 t1_0 hT1 t2_0 hT2 f96 hA97 ob129 _) rfl rfl hO88 rfl hl.1 rfl (Nat.le_of_ble_eq_true rfl) ⟨by decide, by decide⟩ ⟨Nat.le_of_ble_eq_true rfl, Nat.le_of_ble_eq_true rfl⟩ d_19_22_97) (fun u130 H locs hp131 V => ?_)
        obtain ⟨hI, hZ9⟩ := hp131
        obtain ⟨hu157, hZ9⟩ := hZ9
        obtain ⟨y133, hZ9⟩ := hZ9
        obtain ⟨y134, hZ9⟩ := hZ9
        obtain ⟨y135, hZ9⟩ := hZ9
        obtain ⟨y136, hZ9⟩ := hZ9
        obtain ⟨y137, hZ9⟩ := hZ9
        obtain ⟨y138, hZ9⟩ := hZ9
        obtain ⟨y139, hZ9⟩ := hZ9
        obtain ⟨f140, hZ9⟩ := hZ9
        obtain ⟨f142, hZ9⟩ := hZ9
        obtain ⟨hO132, hZ9⟩ := hZ9
        obtain ⟨hA141, hZ9⟩ := hZ9
        obtain ⟨hA143, hZ9⟩ := hZ9
        replace hZ9 := hZ9.2.2
        obtain ⟨b146, hZ9⟩ := hZ9
        obtain ⟨b147, hZ9⟩ := hZ9
        obtain ⟨b148, hZ9⟩ := hZ9
        obtain ⟨b149, hZ9⟩ := hZ9
        obtain ⟨b150, hZ9⟩ := hZ9
        obtain ⟨b151, hZ9⟩ := hZ9
        obtain ⟨b152, hZ9⟩ := hZ9
        obtain ⟨b153, hZ9⟩ := hZ9
        obtain ⟨b154, hZ9⟩ := hZ9
        obtain ⟨b155, hE156⟩ := hZ9
        replace hO132 : u130[119]? = (some (q 119, .inr (13, [.int y133, .int y134, .ref (q 120), .int y135, .ref (q 121), .ref (q 122), .ref (q 123), .int y136, .ref (q 124), .ref (q 125), .ref (q 126), .ref (q 127), .ref (q 128), .ref (q 129), .ref (q 130), .ref (q 131), .int y137, .int y138, .ref (q 132), .ref (q 133), .int y139])) : Option (Nat × va_E)) := hO132
        replace hA141 : u130[121]? = (some (q 121, .inl (g 0, (1408 : Int32).toNatClampNeg, .inl f140)) : Option (Nat × va_E)) := hA141
        replace hA143 : u130[122]? = (some (q 122, .inl (g 3, 11, .inl f142)) : Option (Nat × va_E)) := hA143
        obtain ⟨p158, e159⟩ : ∃ z, z = (F_WR_store x4 y89 y90 y91 y92 y93 y94 y95 t1_0 t2_0 f96) := ⟨_, rfl⟩
        have e160 : y133 = p158.1 := congrArg (fun z => z.1) (hE156.trans e159.symm)
        have e161 : y134 = p158.2.1 := congrArg (fun z => z.2.1) (hE156.trans e159.symm)
        have e162 : y135 = p158.2.2.1 := congrArg (fun z => z.2.2.1) (hE156.trans e159.symm)
        have e163 : y136 = p158.2.2.2.1 := congrArg (fun z => z.2.2.2.1) (hE156.trans e159.symm)
        have e164 : y137 = p158.2.2.2.2.1 := congrArg (fun z => z.2.2.2.2.1) (hE156.trans e159.symm)
        have e165 : y138 = p158.2.2.2.2.2.1 := congrArg (fun z => z.2.2.2.2.2.1) (hE156.trans e159.symm)
        have e166 : y139 = p158.2.2.2.2.2.2.1 := congrArg (fun z => z.2.2.2.2.2.2.1) (hE156.trans e159.symm)
        have e167 : f140 = p158.2.2.2.2.2.2.2.1 := congrArg (fun z => z.2.2.2.2.2.2.2.1) (hE156.trans e159.symm)
        have e168 : f142 = p158.2.2.2.2.2.2.2.2 := congrArg (fun z => z.2.2.2.2.2.2.2.2) (hE156.trans e159.symm)
        replace b146 : q_F (y91.toInt ≤ y135.toInt) := b146
        replace b147 : q_F (y135.toInt ≤ y91.toInt) := b147
        replace b148 : q_F (y92.toInt ≤ y136.toInt) := b148
        replace b149 : q_F (y136.toInt ≤ y92.toInt) := b149
        replace b150 : q_F (y93.toInt ≤ y137.toInt) := b150
        replace b151 : q_F (y137.toInt ≤ y93.toInt) := b151
        replace b152 : q_F (y94.toInt ≤ y138.toInt) := b152
        replace b153 : q_F (y138.toInt ≤ y94.toInt) := b153
        replace b154 : q_F (y95.toInt ≤ y139.toInt) := b154
        replace b155 : q_F (y139.toInt ≤ y95.toInt) := b155
        replace hA97 := (hu157 _ (by decide)).trans hA97
        replace hA61 := (hu157 _ (by decide)).trans hA61
        replace hA69 := (hu157 _ (by decide)).trans hA69
        replace hF := q_uc hF hu157 (by simp)
        have hR169 := (show F_WR_add_c97 x2 x3 x4 x5 t0_0 t0_1 t0_2 t0_3 t0_4 t0_5 t0_6 t1_0 t2_0 t3_0 t4_0 t5_0 lx36 f60 f68 p114 f96 p158 = (F_WR_add x2 x3 x4 x5 t0_0 t0_1 t0_2 t0_3 t0_4 t0_5 t0_6 t1_0 t2_0 t3_0 t4_0 t5_0) from Eq.trans (by rw [e159, e123, e122, e121, e120, e119, e118, e117, e116, F_WR_add_c92.eq_1]) hR124)
        have hS170 := (show True ∧ S_WR_add_c97 x2 x3 x4 x5 t0_0 t0_1 t0_2 t0_3 t0_4 t0_5 t0_6 t1_0 t2_0 t3_0 t4_0 t5_0 lx36 f60 f68 p114 f96 p158 from (by rw [e159, e123, e122, e121, e120, e119, e118, e117, e116]; have h := hS125; rw [S_WR_add_c92.eq_1] at h; replace h := q_s2 h; with_reducible exact h))
        exact q_retv C0 V (⟨hI, hF, y133, y134, y135, y136, y137, y138, y139, f140, f142, f96, f60, f68, hO132, hA141, hA143, hA97, hA61, hA69, (show 0 ≤ y136.toInt from (by have t1 : 0 ≤ y92.toInt := b98; have t2 : y92.toInt ≤ y136.toInt := b148; omega)), (show y136.toInt ≤ 1 from (by have t1 : y92.toInt ≤ 1 := b99; have t2 : y136.toInt ≤ y92.toInt := b149; omega)), (show t0_2.toInt ≤ y135.toInt from (by have t1 : t0_2.toInt ≤ y91.toInt := b104; have t2 : y91.toInt ≤ y135.toInt := b146; omega)), (show y135.toInt ≤ t0_2.toInt from (by have t1 : y91.toInt ≤ t0_2.toInt := b105; have t2 : y135.toInt ≤ y91.toInt := b147; omega)), (show t0_4.toInt ≤ y137.toInt from (by have t1 : t0_4.toInt ≤ y93.toInt := b106; have t2 : y93.toInt ≤ y137.toInt := b150; omega)), (show y137.toInt ≤ t0_4.toInt from (by have t1 : y93.toInt ≤ t0_4.toInt := b107; have t2 : y137.toInt ≤ y93.toInt := b151; omega)), (show t0_5.toInt ≤ y138.toInt from (by have t1 : t0_5.toInt ≤ y94.toInt := b108; have t2 : y94.toInt ≤ y138.toInt := b152; omega)), (show y138.toInt ≤ t0_5.toInt from (by have t1 : y94.toInt ≤ t0_5.toInt := b109; have t2 : y138.toInt ≤ y94.toInt := b153; omega)), (show t0_6.toInt ≤ y139.toInt from (by have t1 : t0_6.toInt ≤ y95.toInt := b110; have t2 : y95.toInt ≤ y139.toInt := b154; omega)), (show y139.toInt ≤ t0_6.toInt from (by have t1 : y95.toInt ≤ t0_6.toInt := b111; have t2 : y139.toInt ≤ y95.toInt := b155; omega)), (show (y133, y134, y135, y136, y137, y138, y139, f140, f142, f96, f60, f68) = (F_WR_add x2 x3 x4 x5 t0_0 t0_1 t0_2 t0_3 t0_4 t0_5 t0_6 t1_0 t2_0 t3_0 t4_0 t5_0) from Eq.trans (by rw [e168, e167, e166, e165, e164, e163, e162, e161, e160, F_WR_add_c97.eq_1]) hR169)⟩) d_19_22_100
      ·
        refine lv_iconst (v := 1) hx hb d_19_22_87 (by decide) ?_
        refine lv_goto (tgt := 92) hx hb d_19_22_88 (by decide) ?_
        have ob175 : q_F (0 ≤ a75.toInt) := (by rw [← e76]; have h := hS47; rw [S_WR_add_J27.eq_1] at h; rw [if_pos c53] at h; replace h := q_s2 h; replace h := q_s2 h; replace h := q_s2 h; replace h := q_s2 h; replace h := q_s2 h; replace h := q_s2 h; have c81x := c81; rw [← e80] at c81x; rw [if_neg c81x] at h; exact h.2.1)
        have ob176 : q_F (a75.toInt ≤ 1) := (by rw [← e76]; have h := hS47; rw [S_WR_add_J27.eq_1] at h; rw [if_pos c53] at h; replace h := q_s2 h; replace h := q_s2 h; replace h := q_s2 h; replace h := q_s2 h; replace h := q_s2 h; replace h := q_s2 h; have c81x := c81; rw [← e80] at c81x; rw [if_neg c81x] at h; replace h := q_s2 h; exact h.2.1)
        have ob177 : True ∧ S_WR_sum (264 : Int32) a75 (264 : Int32) (1 : Int32) lx36 (2 : Int32) t0_2 t0_3 t0_4 t0_5 t0_6 t3_0 f60 f68 := (by rw [← e76, e72, e64]; have h := hS47; rw [S_WR_add_J27.eq_1] at h; rw [if_pos c53] at h; replace h := q_s2 h; replace h := q_s2 h; replace h := q_s2 h; replace h := q_s2 h; replace h := q_s2 h; replace h := q_s2 h; have c81x := c81; rw [← e80] at c81x; rw [if_neg c81x] at h; replace h := q_s2 h; replace h := q_s2 h; with_reducible exact h.2.1)
        refine q_gov V (q_runV (As := [.ref (q 128), .int a75, .ref (q 129), .int 1]) (rest := []) (d := 2) (mc := 0) (ms := 0) (ci := 13) C0 V rfl LV_WR_111 (X_WR_sum l D g q u66 128 264 (n_r128 g q) 129 264 (n_r129 g q) a75 1 (by decide) (by decide) (by decide) hI lx36 2 t0_2 t0_3 t0_4 t0_5 t0_6 hT0 t3_0 hT3 f60 hA61 f68 hA69 ⟨(by have y0 : (264 : Int32).toInt = 264 := rfl; have y1 : (264 : Int32).toInt = 264 := rfl; have y2 : (1 : Int32).toInt = 1 := rfl; have y3 : (2 : Int32).toInt = 2 := rfl; have t1 : 0 ≤ a75.toInt := ob175; omega), (by have y0 : (264 : Int32).toInt = 264 := rfl; have y1 : (264 : Int32).toInt = 264 := rfl; have y2 : (1 : Int32).toInt = 1 := rfl; have y3 : (2 : Int32).toInt = 2 := rfl; have t1 : a75.toInt ≤ 1 := ob176; omega)⟩ ⟨(by have y0 : (264 : Int32).toInt = 264 := rfl; have y1 : (264 : Int32).toInt = 264 := rfl; have y2 : (1 : Int32).toInt = 1 := rfl; have y3 : (2 : Int32).toInt = 2 := rfl; omega), (by have y0 : (264 : Int32).toInt = 264 := rfl; have y1 : (264 : Int32).toInt = 264 := rfl; have y2 : (1 : Int32).toInt = 1 := rfl; have y3 : (2 : Int32).toInt = 2 := rfl; omega)⟩ ob177 _) rfl rfl hT0 rfl hl.1 rfl (Nat.le_of_ble_eq_true rfl) ⟨by decide, by decide⟩ ⟨Nat.le_of_ble_eq_true rfl, Nat.le_of_ble_eq_true rfl⟩ d_19_22_92) (fun u178 H locs hp179 V => ?_)
        obtain ⟨hI, hZ9⟩ := hp179
        obtain ⟨hu205, hZ9⟩ := hZ9
        obtain ⟨y181, hZ9⟩ := hZ9
        obtain ⟨y182, hZ9⟩ := hZ9
        obtain ⟨y183, hZ9⟩ := hZ9
        obtain ⟨y184, hZ9⟩ := hZ9
        obtain ⟨y185, hZ9⟩ := hZ9
        obtain ⟨y186, hZ9⟩ := hZ9
        obtain ⟨y187, hZ9⟩ := hZ9
        obtain ⟨f188, hZ9⟩ := hZ9
        obtain ⟨hO180, hZ9⟩ := hZ9
        obtain ⟨hA189, hZ9⟩ := hZ9
        obtain ⟨b190, hZ9⟩ := hZ9
        obtain ⟨b191, hZ9⟩ := hZ9
        replace hZ9 := hZ9.2.2.2.2
        obtain ⟨b196, hZ9⟩ := hZ9
        obtain ⟨b197, hZ9⟩ := hZ9
        obtain ⟨b198, hZ9⟩ := hZ9
        obtain ⟨b199, hZ9⟩ := hZ9
        obtain ⟨b200, hZ9⟩ := hZ9
        obtain ⟨b201, hZ9⟩ := hZ9
        obtain ⟨b202, hZ9⟩ := hZ9
        obtain ⟨b203, hE204⟩ := hZ9
        replace hO180 : u178[119]? = (some (q 119, .inr (13, [.int y181, .int y182, .ref (q 120), .int y183, .ref (q 121), .ref (q 122), .ref (q 123), .int y184, .ref (q 124), .ref (q 125), .ref (q 126), .ref (q 127), .ref (q 128), .ref (q 129), .ref (q 130), .ref (q 131), .int y185, .int y186, .ref (q 132), .ref (q 133), .int y187])) : Option (Nat × va_E)) := hO180
        replace hA189 : u178[123]? = (some (q 123, .inl (g 0, (264 : Int32).toNatClampNeg, .inl f188)) : Option (Nat × va_E)) := hA189
        obtain ⟨p206, e207⟩ : ∃ z, z = (F_WR_sum (264 : Int32) a75 (264 : Int32) (1 : Int32) lx36 (2 : Int32) t0_2 t0_3 t0_4 t0_5 t0_6 t3_0 f60 f68) := ⟨_, rfl⟩
        have e208 : y181 = p206.1 := congrArg (fun z => z.1) (hE204.trans e207.symm)
        have e209 : y182 = p206.2.1 := congrArg (fun z => z.2.1) (hE204.trans e207.symm)
        have e210 : y183 = p206.2.2.1 := congrArg (fun z => z.2.2.1) (hE204.trans e207.symm)
        have e211 : y184 = p206.2.2.2.1 := congrArg (fun z => z.2.2.2.1) (hE204.trans e207.symm)
        have e212 : y185 = p206.2.2.2.2.1 := congrArg (fun z => z.2.2.2.2.1) (hE204.trans e207.symm)
        have e213 : y186 = p206.2.2.2.2.2.1 := congrArg (fun z => z.2.2.2.2.2.1) (hE204.trans e207.symm)
        have e214 : y187 = p206.2.2.2.2.2.2.1 := congrArg (fun z => z.2.2.2.2.2.2.1) (hE204.trans e207.symm)
        have e215 : f188 = p206.2.2.2.2.2.2.2 := congrArg (fun z => z.2.2.2.2.2.2.2) (hE204.trans e207.symm)
        replace b190 : q_F (0 ≤ y184.toInt) := b190
        replace b191 : q_F (y184.toInt ≤ 1) := b191
        replace b196 : q_F (t0_2.toInt ≤ y183.toInt) := b196
        replace b197 : q_F (y183.toInt ≤ t0_2.toInt) := b197
        replace b198 : q_F (t0_4.toInt ≤ y185.toInt) := b198
        replace b199 : q_F (y185.toInt ≤ t0_4.toInt) := b199
        replace b200 : q_F (t0_5.toInt ≤ y186.toInt) := b200
        replace b201 : q_F (y186.toInt ≤ t0_5.toInt) := b201
        replace b202 : q_F (t0_6.toInt ≤ y187.toInt) := b202
        replace b203 : q_F (y187.toInt ≤ t0_6.toInt) := b203
        replace hT1 := (hu205 _ (by decide)).trans hT1
        replace hT2 := (hu205 _ (by decide)).trans hT2
        replace hA61 := (hu205 _ (by decide)).trans hA61
        replace hA69 := (hu205 _ (by decide)).trans hA69
        replace hF := q_uc hF hu205 (by simp)
        have hR216 := (show F_WR_add_c92_4 x2 x3 x4 x5 t0_0 t0_1 t0_2 t0_3 t0_4 t0_5 t0_6 t1_0 t2_0 t3_0 t4_0 t5_0 lx36 f60 f68 p206 = (F_WR_add x2 x3 x4 x5 t0_0 t0_1 t0_2 t0_3 t0_4 t0_5 t0_6 t1_0 t2_0 t3_0 t4_0 t5_0) from Eq.trans (by have c81x := c81; rw [← e80] at c81x; rw [e207, ← e76, e72, e64, F_WR_add_J27.eq_1, if_pos c53, if_neg c81x]) hR46)
        have hS217 := (show True ∧ S_WR_add_c92_4 x2 x3 x4 x5 t0_0 t0_1 t0_2 t0_3 t0_4 t0_5 t0_6 t1_0 t2_0 t3_0 t4_0 t5_0 lx36 f60 f68 p206 from (by rw [e207, ← e76, e72, e64]; have h := hS47; rw [S_WR_add_J27.eq_1] at h; rw [if_pos c53] at h; replace h := q_s2 h; replace h := q_s2 h; replace h := q_s2 h; replace h := q_s2 h; replace h := q_s2 h; replace h := q_s2 h; have c81x := c81; rw [← e80] at c81x; rw [if_neg c81x] at h; replace h := q_s2 h; replace h := q_s2 h; replace h := q_s2 h; with_reducible exact h))
        refine lv_aload_n hx hb d_19_22_95 rfl (lv_at hl 0 rfl) ?_
        refine lv_iload_n hx hb d_19_22_96 rfl (lv_at hl 3 rfl) ?_
        have ob221 : True ∧ S_WR_store x4 y181 y182 y183 y184 y185 y186 y187 t1_0 t2_0 f188 := (by rw [e215, e214, e213, e212, e211, e210, e209, e208]; have h := hS217; rw [S_WR_add_c92_4.eq_1] at h; with_reducible exact h.2.1)
        refine q_gov V (q_runV (As := [.int x4]) (rest := []) (d := 2) (mc := 0) (ms := 0) (ci := 13) C0 V rfl LV_WR_103 (X_WR_store l D g q u178  x4 hI y181 y182 y183 y184 y185 y186 y187 hO180 t1_0 hT1 t2_0 hT2 f188 hA189 ob221 _) rfl rfl hO180 rfl hl.1 rfl (Nat.le_of_ble_eq_true rfl) ⟨by decide, by decide⟩ ⟨Nat.le_of_ble_eq_true rfl, Nat.le_of_ble_eq_true rfl⟩ d_19_22_97) (fun u222 H locs hp223 V => ?_)
        obtain ⟨hI, hZ9⟩ := hp223
        obtain ⟨hu249, hZ9⟩ := hZ9
        obtain ⟨y225, hZ9⟩ := hZ9
        obtain ⟨y226, hZ9⟩ := hZ9
        obtain ⟨y227, hZ9⟩ := hZ9
        obtain ⟨y228, hZ9⟩ := hZ9
        obtain ⟨y229, hZ9⟩ := hZ9
        obtain ⟨y230, hZ9⟩ := hZ9
        obtain ⟨y231, hZ9⟩ := hZ9
        obtain ⟨f232, hZ9⟩ := hZ9
        obtain ⟨f234, hZ9⟩ := hZ9
        obtain ⟨hO224, hZ9⟩ := hZ9
        obtain ⟨hA233, hZ9⟩ := hZ9
        obtain ⟨hA235, hZ9⟩ := hZ9
        replace hZ9 := hZ9.2.2
        obtain ⟨b238, hZ9⟩ := hZ9
        obtain ⟨b239, hZ9⟩ := hZ9
        obtain ⟨b240, hZ9⟩ := hZ9
        obtain ⟨b241, hZ9⟩ := hZ9
        obtain ⟨b242, hZ9⟩ := hZ9
        obtain ⟨b243, hZ9⟩ := hZ9
        obtain ⟨b244, hZ9⟩ := hZ9
        obtain ⟨b245, hZ9⟩ := hZ9
        obtain ⟨b246, hZ9⟩ := hZ9
        obtain ⟨b247, hE248⟩ := hZ9
        replace hO224 : u222[119]? = (some (q 119, .inr (13, [.int y225, .int y226, .ref (q 120), .int y227, .ref (q 121), .ref (q 122), .ref (q 123), .int y228, .ref (q 124), .ref (q 125), .ref (q 126), .ref (q 127), .ref (q 128), .ref (q 129), .ref (q 130), .ref (q 131), .int y229, .int y230, .ref (q 132), .ref (q 133), .int y231])) : Option (Nat × va_E)) := hO224
        replace hA233 : u222[121]? = (some (q 121, .inl (g 0, (1408 : Int32).toNatClampNeg, .inl f232)) : Option (Nat × va_E)) := hA233
        replace hA235 : u222[122]? = (some (q 122, .inl (g 3, 11, .inl f234)) : Option (Nat × va_E)) := hA235
        obtain ⟨p250, e251⟩ : ∃ z, z = (F_WR_store x4 y181 y182 y183 y184 y185 y186 y187 t1_0 t2_0 f188) := ⟨_, rfl⟩
        have e252 : y225 = p250.1 := congrArg (fun z => z.1) (hE248.trans e251.symm)
        have e253 : y226 = p250.2.1 := congrArg (fun z => z.2.1) (hE248.trans e251.symm)
        have e254 : y227 = p250.2.2.1 := congrArg (fun z => z.2.2.1) (hE248.trans e251.symm)
        have e255 : y228 = p250.2.2.2.1 := congrArg (fun z => z.2.2.2.1) (hE248.trans e251.symm)
        have e256 : y229 = p250.2.2.2.2.1 := congrArg (fun z => z.2.2.2.2.1) (hE248.trans e251.symm)
        have e257 : y230 = p250.2.2.2.2.2.1 := congrArg (fun z => z.2.2.2.2.2.1) (hE248.trans e251.symm)
        have e258 : y231 = p250.2.2.2.2.2.2.1 := congrArg (fun z => z.2.2.2.2.2.2.1) (hE248.trans e251.symm)
        have e259 : f232 = p250.2.2.2.2.2.2.2.1 := congrArg (fun z => z.2.2.2.2.2.2.2.1) (hE248.trans e251.symm)
        have e260 : f234 = p250.2.2.2.2.2.2.2.2 := congrArg (fun z => z.2.2.2.2.2.2.2.2) (hE248.trans e251.symm)
        replace b238 : q_F (y183.toInt ≤ y227.toInt) := b238
        replace b239 : q_F (y227.toInt ≤ y183.toInt) := b239
        replace b240 : q_F (y184.toInt ≤ y228.toInt) := b240
        replace b241 : q_F (y228.toInt ≤ y184.toInt) := b241
        replace b242 : q_F (y185.toInt ≤ y229.toInt) := b242
        replace b243 : q_F (y229.toInt ≤ y185.toInt) := b243
        replace b244 : q_F (y186.toInt ≤ y230.toInt) := b244
        replace b245 : q_F (y230.toInt ≤ y186.toInt) := b245
        replace b246 : q_F (y187.toInt ≤ y231.toInt) := b246
        replace b247 : q_F (y231.toInt ≤ y187.toInt) := b247
        replace hA189 := (hu249 _ (by decide)).trans hA189
        replace hA61 := (hu249 _ (by decide)).trans hA61
        replace hA69 := (hu249 _ (by decide)).trans hA69
        replace hF := q_uc hF hu249 (by simp)
        have hR261 := (show F_WR_add_c97_5 x2 x3 x4 x5 t0_0 t0_1 t0_2 t0_3 t0_4 t0_5 t0_6 t1_0 t2_0 t3_0 t4_0 t5_0 lx36 f60 f68 p206 f188 p250 = (F_WR_add x2 x3 x4 x5 t0_0 t0_1 t0_2 t0_3 t0_4 t0_5 t0_6 t1_0 t2_0 t3_0 t4_0 t5_0) from Eq.trans (by rw [e251, e215, e214, e213, e212, e211, e210, e209, e208, F_WR_add_c92_4.eq_1]) hR216)
        have hS262 := (show True ∧ S_WR_add_c97_5 x2 x3 x4 x5 t0_0 t0_1 t0_2 t0_3 t0_4 t0_5 t0_6 t1_0 t2_0 t3_0 t4_0 t5_0 lx36 f60 f68 p206 f188 p250 from (by rw [e251, e215, e214, e213, e212, e211, e210, e209, e208]; have h := hS217; rw [S_WR_add_c92_4.eq_1] at h; replace h := q_s2 h; with_reducible exact h))
        exact q_retv C0 V (⟨hI, hF, y225, y226, y227, y228, y229, y230, y231, f232, f234, f188, f60, f68, hO224, hA233, hA235, hA189, hA61, hA69, (show 0 ≤ y228.toInt from (by have t1 : 0 ≤ y184.toInt := b190; have t2 : y184.toInt ≤ y228.toInt := b240; omega)), (show y228.toInt ≤ 1 from (by have t1 : y184.toInt ≤ 1 := b191; have t2 : y228.toInt ≤ y184.toInt := b241; omega)), (show t0_2.toInt ≤ y227.toInt from (by have t1 : t0_2.toInt ≤ y183.toInt := b196; have t2 : y183.toInt ≤ y227.toInt := b238; omega)), (show y227.toInt ≤ t0_2.toInt from (by have t1 : y183.toInt ≤ t0_2.toInt := b197; have t2 : y227.toInt ≤ y183.toInt := b239; omega)), (show t0_4.toInt ≤ y229.toInt from (by have t1 : t0_4.toInt ≤ y185.toInt := b198; have t2 : y185.toInt ≤ y229.toInt := b242; omega)), (show y229.toInt ≤ t0_4.toInt from (by have t1 : y185.toInt ≤ t0_4.toInt := b199; have t2 : y229.toInt ≤ y185.toInt := b243; omega)), (show t0_5.toInt ≤ y230.toInt from (by have t1 : t0_5.toInt ≤ y186.toInt := b200; have t2 : y186.toInt ≤ y230.toInt := b244; omega)), (show y230.toInt ≤ t0_5.toInt from (by have t1 : y186.toInt ≤ t0_5.toInt := b201; have t2 : y230.toInt ≤ y186.toInt := b245; omega)), (show t0_6.toInt ≤ y231.toInt from (by have t1 : t0_6.toInt ≤ y187.toInt := b202; have t2 : y187.toInt ≤ y231.toInt := b246; omega)), (show y231.toInt ≤ t0_6.toInt from (by have t1 : y187.toInt ≤ t0_6.toInt := b203; have t2 : y231.toInt ≤ y187.toInt := b247; omega)), (show (y225, y226, y227, y228, y229, y230, y231, f232, f234, f188, f60, f68) = (F_WR_add x2 x3 x4 x5 t0_0 t0_1 t0_2 t0_3 t0_4 t0_5 t0_6 t1_0 t2_0 t3_0 t4_0 t5_0) from Eq.trans (by rw [e260, e259, e258, e257, e256, e255, e254, e253, e252, F_WR_add_c97_5.eq_1]) hR261)⟩) d_19_22_100
    ·
      exact q_retv C0 V (⟨hI, hF, lx36, t0_1, t0_2, t0_3, t0_4, t0_5, t0_6, t1_0, t2_0, t3_0, t4_0, t5_0, hT0, hT1, hT2, hT3, hT4, hT5, (show 0 ≤ t0_3.toInt from (by first | with_reducible exact (q_fe btt0_3).2 | with_reducible exact (q_fe btt0_3).1 | (have t1 : 0 ≤ t0_3.toInt ∧ t0_3.toInt ≤ 1 := btt0_3; omega))), (show t0_3.toInt ≤ 1 from (by first | with_reducible exact (q_fe btt0_3).2 | with_reducible exact (q_fe btt0_3).1 | (have t1 : 0 ≤ t0_3.toInt ∧ t0_3.toInt ≤ 1 := btt0_3; omega))), (show t0_2.toInt ≤ t0_2.toInt from (by omega)), (show t0_2.toInt ≤ t0_2.toInt from (by omega)), (show t0_4.toInt ≤ t0_4.toInt from (by omega)), (show t0_4.toInt ≤ t0_4.toInt from (by omega)), (show t0_5.toInt ≤ t0_5.toInt from (by omega)), (show t0_5.toInt ≤ t0_5.toInt from (by omega)), (show t0_6.toInt ≤ t0_6.toInt from (by omega)), (show t0_6.toInt ≤ t0_6.toInt from (by omega)), (show (lx36, t0_1, t0_2, t0_3, t0_4, t0_5, t0_6, t1_0, t2_0, t3_0, t4_0, t5_0) = (F_WR_add x2 x3 x4 x5 t0_0 t0_1 t0_2 t0_3 t0_4 t0_5 t0_6 t1_0 t2_0 t3_0 t4_0 t5_0) from Eq.trans (by rw [F_WR_add_J27.eq_1, if_neg c53]) hR46)⟩) d_19_22_37
  ·
    intro J43
    refine q_join (X := Unit) (fun z H locs ls _ => q_Wd D g (va_A ws sz) s ws H locs ∧ lv_has ls 5 [(0, .ref (q 119)), (1, .int x2), (2, .int x3), (3, .int x4), (4, .int x5)] ∧ F_WR_add_J22 x2 x3 x4 x5 t0_0 t0_1 t0_2 t0_3 t0_4 t0_5 t0_6 t1_0 t2_0 t3_0 t4_0 t5_0 = (F_WR_add x2 x3 x4 x5 t0_0 t0_1 t0_2 t0_3 t0_4 t0_5 t0_6 t1_0 t2_0 t3_0 t4_0 t5_0) ∧ True ∧ S_WR_add_J22 x2 x3 x4 x5 t0_0 t0_1 t0_2 t0_3 t0_4 t0_5 t0_6 t1_0 t2_0 t3_0 t4_0 t5_0) (fun z => [.ref (q 119)]) 22 0 0 ?_ ?_
    ·
      rintro _ H locs ls _ ⟨V, hl, hR274, hS275⟩
      replace hl : lv_has ls 5 [(0, .ref (q 119)), (1, .int x2), (2, .int x3), (3, .int x4), (4, .int x5)] := hl
      refine lv_iconst (v := 1) hx hb d_19_22_22 (by decide) ?_
      refine lv_goto (tgt := 27) hx hb d_19_22_23 (by decide) ?_
      exact J43 ((1 : Int32)) _ _ _ ws ⟨(show q_F (0 ≤ 1) from (show 0 ≤ 1 from by omega)), (show q_F (1 ≤ 1) from (show 1 ≤ 1 from by omega)), V, q_lw hl (q_lw1 0 rfl (q_lw1 1 rfl (q_lw1 2 rfl (q_lw1 3 rfl (q_lw1 4 rfl q_lw0))))), (show F_WR_add_J27 x2 x3 x4 x5 t0_0 t0_1 t0_2 t0_3 t0_4 t0_5 t0_6 t1_0 t2_0 t3_0 t4_0 t5_0 1 = (F_WR_add x2 x3 x4 x5 t0_0 t0_1 t0_2 t0_3 t0_4 t0_5 t0_6 t1_0 t2_0 t3_0 t4_0 t5_0) from Eq.trans (by rw [F_WR_add_J22.eq_1]) hR274), (show True ∧ S_WR_add_J27 x2 x3 x4 x5 t0_0 t0_1 t0_2 t0_3 t0_4 t0_5 t0_6 t1_0 t2_0 t3_0 t4_0 t5_0 1 from (by have h := hS275; rw [S_WR_add_J22.eq_1] at h; with_reducible exact h))⟩
    ·
      intro J273
      refine lv_if_ne (tgt := 22) hx hb d_19_22_5 (by decide) (fun c279 => ?_) (fun c279 => ?_)
      ·
        exact J273 (()) _ _ _ ws ⟨V, q_lw hl (q_lw1 0 rfl (q_lw1 1 rfl (q_lw1 2 rfl (q_lw1 3 rfl (q_lw1 4 rfl q_lw0))))), (show F_WR_add_J22 x2 x3 x4 x5 t0_0 t0_1 t0_2 t0_3 t0_4 t0_5 t0_6 t1_0 t2_0 t3_0 t4_0 t5_0 = (F_WR_add x2 x3 x4 x5 t0_0 t0_1 t0_2 t0_3 t0_4 t0_5 t0_6 t1_0 t2_0 t3_0 t4_0 t5_0) from (by have c279x := c279; rw [e35] at c279x; rw [F_WR_add.eq_1, if_neg c279x])), (show True ∧ S_WR_add_J22 x2 x3 x4 x5 t0_0 t0_1 t0_2 t0_3 t0_4 t0_5 t0_6 t1_0 t2_0 t3_0 t4_0 t5_0 from (by have h := hS; rw [S_WR_add.eq_1] at h; have c279x := c279; rw [e35] at c279x; rw [if_neg c279x] at h; with_reducible exact h))⟩
      ·
        refine lv_iload_n hx hb d_19_22_8 rfl (lv_at hl 2 rfl) ?_
        refine q_goi V (q_runS (As := [.int x3]) (rest := [.ref (q 119)]) (d := 1) (mc := 0) (ms := 0) C0 V rfl LS_WR_91 (X_WR_no l D g q ws  x3 hI   _) rfl hl.1 rfl (Nat.le_of_ble_eq_true rfl) ⟨by decide, by decide⟩ ⟨Nat.le_of_ble_eq_true rfl, Nat.le_of_ble_eq_true rfl⟩ d_19_22_9) (fun a284 u282 H locs hp283 V => ?_)
        obtain ⟨rfl, b285, b286, hE287⟩ := hp283
        have e288 : a284 = (F_WR_no x3) := hE287
        clear b285
        clear b286
        refine lv_if_ne (tgt := 22) hx hb d_19_22_12 (by decide) (fun c289 => ?_) (fun c289 => ?_)
        ·
          exact J273 (()) _ _ _ ws ⟨V, q_lw hl (q_lw1 0 rfl (q_lw1 1 rfl (q_lw1 2 rfl (q_lw1 3 rfl (q_lw1 4 rfl q_lw0))))), (show F_WR_add_J22 x2 x3 x4 x5 t0_0 t0_1 t0_2 t0_3 t0_4 t0_5 t0_6 t1_0 t2_0 t3_0 t4_0 t5_0 = (F_WR_add x2 x3 x4 x5 t0_0 t0_1 t0_2 t0_3 t0_4 t0_5 t0_6 t1_0 t2_0 t3_0 t4_0 t5_0) from (by have c279x := c279; rw [e35] at c279x; have c289x := c289; rw [e288] at c289x; rw [F_WR_add.eq_1, if_pos c279x, if_neg c289x])), (show True ∧ S_WR_add_J22 x2 x3 x4 x5 t0_0 t0_1 t0_2 t0_3 t0_4 t0_5 t0_6 t1_0 t2_0 t3_0 t4_0 t5_0 from (by have h := hS; rw [S_WR_add.eq_1] at h; have c279x := c279; rw [e35] at c279x; rw [if_pos c279x] at h; have c289x := c289; rw [e288] at c289x; rw [if_neg c289x] at h; with_reducible exact h))⟩
        ·
          refine lv_iload_n hx hb d_19_22_15 rfl (lv_at hl 3 rfl) ?_
          refine q_goi V (q_runS (As := [.int x4]) (rest := [.ref (q 119)]) (d := 1) (mc := 0) (ms := 0) C0 V rfl LS_WR_91 (X_WR_no l D g q ws  x4 hI   _) rfl hl.1 rfl (Nat.le_of_ble_eq_true rfl) ⟨by decide, by decide⟩ ⟨Nat.le_of_ble_eq_true rfl, Nat.le_of_ble_eq_true rfl⟩ d_19_22_16) (fun a294 u292 H locs hp293 V => ?_)
          obtain ⟨rfl, b295, b296, hE297⟩ := hp293
          have e298 : a294 = (F_WR_no x4) := hE297
          clear b295
          clear b296
          refine lv_if_eq (tgt := 26) hx hb d_19_22_19 (by decide) (fun c299 => ?_) (fun c299 => ?_)
          ·
            refine lv_iconst (v := 0) hx hb d_19_22_26 (by decide) ?_
            exact J43 ((0 : Int32)) _ _ _ ws ⟨(show q_F (0 ≤ 0) from (show 0 ≤ 0 from by omega)), (show q_F (0 ≤ 1) from (show 0 ≤ 1 from by omega)), V, q_lw hl (q_lw1 0 rfl (q_lw1 1 rfl (q_lw1 2 rfl (q_lw1 3 rfl (q_lw1 4 rfl q_lw0))))), (show F_WR_add_J27 x2 x3 x4 x5 t0_0 t0_1 t0_2 t0_3 t0_4 t0_5 t0_6 t1_0 t2_0 t3_0 t4_0 t5_0 0 = (F_WR_add x2 x3 x4 x5 t0_0 t0_1 t0_2 t0_3 t0_4 t0_5 t0_6 t1_0 t2_0 t3_0 t4_0 t5_0) from (by have c279x := c279; rw [e35] at c279x; have c289x := c289; rw [e288] at c289x; have c299x := c299; rw [e298] at c299x; rw [F_WR_add.eq_1, if_pos c279x, if_pos c289x, if_pos c299x])), (show True ∧ S_WR_add_J27 x2 x3 x4 x5 t0_0 t0_1 t0_2 t0_3 t0_4 t0_5 t0_6 t1_0 t2_0 t3_0 t4_0 t5_0 0 from (by have h := hS; rw [S_WR_add.eq_1] at h; have c279x := c279; rw [e35] at c279x; rw [if_pos c279x] at h; have c289x := c289; rw [e288] at c289x; rw [if_pos c289x] at h; have c299x := c299; rw [e298] at c299x; rw [if_pos c299x] at h; with_reducible exact h))⟩
          ·
            exact J273 (()) _ _ _ ws ⟨V, q_lw hl (q_lw1 0 rfl (q_lw1 1 rfl (q_lw1 2 rfl (q_lw1 3 rfl (q_lw1 4 rfl q_lw0))))), (show F_WR_add_J22 x2 x3 x4 x5 t0_0 t0_1 t0_2 t0_3 t0_4 t0_5 t0_6 t1_0 t2_0 t3_0 t4_0 t5_0 = (F_WR_add x2 x3 x4 x5 t0_0 t0_1 t0_2 t0_3 t0_4 t0_5 t0_6 t1_0 t2_0 t3_0 t4_0 t5_0) from (by have c279x := c279; rw [e35] at c279x; have c289x := c289; rw [e288] at c289x; have c299x := c299; rw [e298] at c299x; rw [F_WR_add.eq_1, if_pos c279x, if_pos c289x, if_neg c299x])), (show True ∧ S_WR_add_J22 x2 x3 x4 x5 t0_0 t0_1 t0_2 t0_3 t0_4 t0_5 t0_6 t1_0 t2_0 t3_0 t4_0 t5_0 from (by have h := hS; rw [S_WR_add.eq_1] at h; have c279x := c279; rw [e35] at c279x; rw [if_pos c279x] at h; have c289x := c289; rw [e288] at c289x; rw [if_pos c289x] at h; have c299x := c299; rw [e298] at c299x; rw [if_neg c299x] at h; with_reducible exact h))⟩

theorem d_19_23_0 : decode prog_19_method_23_code 0 = .ok (.aload_n 0, 1) := by decide +kernel
theorem d_19_23_1 : decode prog_19_method_23_code 1 = .ok (.iload_n 1, 1) := by decide +kernel
theorem d_19_23_2 : decode prog_19_method_23_code 2 = .ok (.invokestatic 91, 3) := by decide +kernel
theorem d_19_23_27 : decode prog_19_method_23_code 27 = .ok (.putfield 53, 3) := by decide +kernel
theorem d_19_23_30 : decode prog_19_method_23_code 30 = .ok (.aload_n 0, 1) := by decide +kernel
theorem d_19_23_31 : decode prog_19_method_23_code 31 = .ok (.getfield 53, 3) := by decide +kernel
theorem d_19_23_34 : decode prog_19_method_23_code 34 = .ok (.ifCond .le 4, 3) := by decide +kernel
theorem d_19_23_38 : decode prog_19_method_23_code 38 = .ok (.aload_n 0, 1) := by decide +kernel
theorem d_19_23_39 : decode prog_19_method_23_code 39 = .ok (.iconst 2, 1) := by decide +kernel
theorem d_19_23_40 : decode prog_19_method_23_code 40 = .ok (.putfield 79, 3) := by decide +kernel
theorem d_19_23_43 : decode prog_19_method_23_code 43 = .ok (.aload_n 0, 1) := by decide +kernel
theorem d_19_23_44 : decode prog_19_method_23_code 44 = .ok (.iload_n 1, 1) := by decide +kernel
theorem d_19_23_45 : decode prog_19_method_23_code 45 = .ok (.aload_n 0, 1) := by decide +kernel
theorem d_19_23_46 : decode prog_19_method_23_code 46 = .ok (.getfield 35, 3) := by decide +kernel
theorem d_19_23_49 : decode prog_19_method_23_code 49 = .ok (.invokevirtual 107, 3) := by decide +kernel
theorem d_19_23_52 : decode prog_19_method_23_code 52 = .ok (.aload_n 0, 1) := by decide +kernel
theorem d_19_23_53 : decode prog_19_method_23_code 53 = .ok (.iload_n 2, 1) := by decide +kernel
theorem d_19_23_54 : decode prog_19_method_23_code 54 = .ok (.aload_n 0, 1) := by decide +kernel
theorem d_19_23_55 : decode prog_19_method_23_code 55 = .ok (.getfield 38, 3) := by decide +kernel
theorem d_19_23_58 : decode prog_19_method_23_code 58 = .ok (.invokevirtual 107, 3) := by decide +kernel
theorem d_19_23_61 : decode prog_19_method_23_code 61 = .ok (.aload_n 0, 1) := by decide +kernel
theorem d_19_23_62 : decode prog_19_method_23_code 62 = .ok (.aload_n 0, 1) := by decide +kernel
theorem d_19_23_63 : decode prog_19_method_23_code 63 = .ok (.getfield 35, 3) := by decide +kernel
theorem d_19_23_66 : decode prog_19_method_23_code 66 = .ok (.aload_n 0, 1) := by decide +kernel
theorem d_19_23_67 : decode prog_19_method_23_code 67 = .ok (.getfield 38, 3) := by decide +kernel
theorem d_19_23_70 : decode prog_19_method_23_code 70 = .ok (.aload_n 0, 1) := by decide +kernel
theorem d_19_23_71 : decode prog_19_method_23_code 71 = .ok (.getfield 20, 3) := by decide +kernel
theorem d_19_23_74 : decode prog_19_method_23_code 74 = .ok (.invokevirtual 115, 3) := by decide +kernel
set_option maxRecDepth 100000 in
theorem w_2703 : (Cond.code ({ cls := "NumberHouseModel$WholeRows", name := "multiplyRows", desc := "([I[I[I)V" } : MethodName) prog_19_method_13_code (10 : Nat) (none : Option ClassFile.FieldType)) ∈ q_tbl := q_of12 63 rfl (by decide +kernel)
set_option maxRecDepth 100000 in
theorem w_2700 : (Cond.methodLink "NumberHouseModel$WholeRows" (115 : Nat) ({ cls := "NumberHouseModel$WholeRows", name := "multiplyRows", desc := "([I[I[I)V" } : MethodName)) ∈ q_tbl := q_of12 60 rfl (by decide +kernel)
set_option maxRecDepth 100000 in
theorem w_2702 : (Cond.instanceMethod ({ cls := "NumberHouseModel$WholeRows", name := "multiplyRows", desc := "([I[I[I)V" } : MethodName)) ∈ q_tbl := q_of12 62 rfl (by decide +kernel)
theorem ws_103 : Cond.selects "NumberHouseModel$WholeRows" (⟨"NumberHouseModel$WholeRows", "multiplyRows", "([I[I[I)V"⟩ : MethodName) (⟨"NumberHouseModel$WholeRows", "multiplyRows", "([I[I[I)V"⟩ : MethodName) ∈ q_tbl := q_ofs 103 (by decide +kernel) (by decide +kernel)
theorem LV_WR_115 : q_LV "NumberHouseModel$WholeRows" 115 y_WR_multiplyRows prog_19_method_13_code 10 none 3 := ⟨w_2703, w_15, w_2700, w_2702, ws_103, ⟨by decide, by decide, by decide +kernel⟩⟩
theorem d_19_23_77 : decode prog_19_method_23_code 77 = .ok (.aload_n 0, 1) := by decide +kernel
theorem d_19_23_78 : decode prog_19_method_23_code 78 = .ok (.aload_n 0, 1) := by decide +kernel
theorem d_19_23_79 : decode prog_19_method_23_code 79 = .ok (.getfield 16, 3) := by decide +kernel
theorem d_19_23_82 : decode prog_19_method_23_code 82 = .ok (.iload_n 1, 1) := by decide +kernel
theorem d_19_23_83 : decode prog_19_method_23_code 83 = .ok (.baload, 1) := by decide +kernel
theorem d_19_23_84 : decode prog_19_method_23_code 84 = .ok (.aload_n 0, 1) := by decide +kernel
theorem d_19_23_85 : decode prog_19_method_23_code 85 = .ok (.getfield 16, 3) := by decide +kernel
theorem d_19_23_88 : decode prog_19_method_23_code 88 = .ok (.iload_n 2, 1) := by decide +kernel
theorem d_19_23_89 : decode prog_19_method_23_code 89 = .ok (.baload, 1) := by decide +kernel
theorem d_19_23_90 : decode prog_19_method_23_code 90 = .ok (.if_icmp .eq 7, 3) := by decide +kernel
theorem d_19_23_97 : decode prog_19_method_23_code 97 = .ok (.iconst 0, 1) := by decide +kernel
theorem d_19_23_98 : decode prog_19_method_23_code 98 = .ok (.putfield 82, 3) := by decide +kernel
theorem d_19_23_101 : decode prog_19_method_23_code 101 = .ok (.aload_n 0, 1) := by decide +kernel
theorem d_19_23_102 : decode prog_19_method_23_code 102 = .ok (.iload_n 3, 1) := by decide +kernel
theorem d_19_23_103 : decode prog_19_method_23_code 103 = .ok (.invokevirtual 103, 3) := by decide +kernel
theorem d_19_23_106 : decode prog_19_method_23_code 106 = .ok (.return_, 1) := by decide +kernel
theorem d_19_23_93 : decode prog_19_method_23_code 93 = .ok (.iconst 1, 1) := by decide +kernel
theorem d_19_23_94 : decode prog_19_method_23_code 94 = .ok (.goto 4, 3) := by decide +kernel
theorem d_19_23_37 : decode prog_19_method_23_code 37 = .ok (.return_, 1) := by decide +kernel
theorem d_19_23_22 : decode prog_19_method_23_code 22 = .ok (.iconst 1, 1) := by decide +kernel
theorem d_19_23_23 : decode prog_19_method_23_code 23 = .ok (.goto 4, 3) := by decide +kernel
theorem d_19_23_5 : decode prog_19_method_23_code 5 = .ok (.ifCond .ne 17, 3) := by decide +kernel
theorem d_19_23_8 : decode prog_19_method_23_code 8 = .ok (.iload_n 2, 1) := by decide +kernel
theorem d_19_23_9 : decode prog_19_method_23_code 9 = .ok (.invokestatic 91, 3) := by decide +kernel
theorem d_19_23_12 : decode prog_19_method_23_code 12 = .ok (.ifCond .ne 10, 3) := by decide +kernel
theorem d_19_23_15 : decode prog_19_method_23_code 15 = .ok (.iload_n 3, 1) := by decide +kernel
theorem d_19_23_16 : decode prog_19_method_23_code 16 = .ok (.invokestatic 91, 3) := by decide +kernel
theorem d_19_23_19 : decode prog_19_method_23_code 19 = .ok (.ifCond .eq 7, 3) := by decide +kernel
theorem d_19_23_26 : decode prog_19_method_23_code 26 = .ok (.iconst 0, 1) := by decide +kernel
def y_WR_multiply : MethodName := ⟨"NumberHouseModel$WholeRows", "multiply", "(III)V"⟩
def F_WR_multiply_c103 (x2 : Int32) (x3 : Int32) (x4 : Int32) (t0_0 : Int32) (t0_1 : Int32) (t0_2 : Int32) (t0_3 : Int32) (t0_4 : Int32) (t0_5 : Int32) (t0_6 : Int32) (t1_0 : (Nat → Int32)) (t2_0 : (Nat → Int32)) (t3_0 : (Nat → Int32)) (t4_0 : (Nat → Int32)) (t5_0 : (Nat → Int32)) (t6_0 : (Nat → Int32)) (lx39 : Int32) (f64 : (Nat → Int32)) (f72 : (Nat → Int32)) (p86 : ((Nat → Int32) × (Nat → Int32))) (f82 : (Nat → Int32)) (f80 : (Nat → Int32)) (p136 : (Int32 × Int32 × Int32 × Int32 × Int32 × Int32 × Int32 × (Nat → Int32) × (Nat → Int32))) : Int32 × Int32 × Int32 × Int32 × Int32 × Int32 × Int32 × (Nat → Int32) × (Nat → Int32) × (Nat → Int32) × (Nat → Int32) × (Nat → Int32) × (Nat → Int32) := ((p136.1 : Int32), (p136.2.1 : Int32), (p136.2.2.1 : Int32), (p136.2.2.2.1 : Int32), (p136.2.2.2.2.1 : Int32), (p136.2.2.2.2.2.1 : Int32), (p136.2.2.2.2.2.2.1 : Int32), (p136.2.2.2.2.2.2.2.1 : (Nat → Int32)), (p136.2.2.2.2.2.2.2.2 : (Nat → Int32)), f82, f80, f64, f72)
def F_WR_multiply_c103_4 (x2 : Int32) (x3 : Int32) (x4 : Int32) (t0_0 : Int32) (t0_1 : Int32) (t0_2 : Int32) (t0_3 : Int32) (t0_4 : Int32) (t0_5 : Int32) (t0_6 : Int32) (t1_0 : (Nat → Int32)) (t2_0 : (Nat → Int32)) (t3_0 : (Nat → Int32)) (t4_0 : (Nat → Int32)) (t5_0 : (Nat → Int32)) (t6_0 : (Nat → Int32)) (lx39 : Int32) (f64 : (Nat → Int32)) (f72 : (Nat → Int32)) (p86 : ((Nat → Int32) × (Nat → Int32))) (f82 : (Nat → Int32)) (f80 : (Nat → Int32)) (p184 : (Int32 × Int32 × Int32 × Int32 × Int32 × Int32 × Int32 × (Nat → Int32) × (Nat → Int32))) : Int32 × Int32 × Int32 × Int32 × Int32 × Int32 × Int32 × (Nat → Int32) × (Nat → Int32) × (Nat → Int32) × (Nat → Int32) × (Nat → Int32) × (Nat → Int32) := ((p184.1 : Int32), (p184.2.1 : Int32), (p184.2.2.1 : Int32), (p184.2.2.2.1 : Int32), (p184.2.2.2.2.1 : Int32), (p184.2.2.2.2.2.1 : Int32), (p184.2.2.2.2.2.2.1 : Int32), (p184.2.2.2.2.2.2.2.1 : (Nat → Int32)), (p184.2.2.2.2.2.2.2.2 : (Nat → Int32)), f82, f80, f64, f72)
def F_WR_multiply_c74 (x2 : Int32) (x3 : Int32) (x4 : Int32) (t0_0 : Int32) (t0_1 : Int32) (t0_2 : Int32) (t0_3 : Int32) (t0_4 : Int32) (t0_5 : Int32) (t0_6 : Int32) (t1_0 : (Nat → Int32)) (t2_0 : (Nat → Int32)) (t3_0 : (Nat → Int32)) (t4_0 : (Nat → Int32)) (t5_0 : (Nat → Int32)) (t6_0 : (Nat → Int32)) (lx39 : Int32) (f64 : (Nat → Int32)) (f72 : (Nat → Int32)) (p86 : ((Nat → Int32) × (Nat → Int32))) : Int32 × Int32 × Int32 × Int32 × Int32 × Int32 × Int32 × (Nat → Int32) × (Nat → Int32) × (Nat → Int32) × (Nat → Int32) × (Nat → Int32) × (Nat → Int32) := if (t2_0 x2.toNatClampNeg : Int32) = (t2_0 x3.toNatClampNeg : Int32) then (F_WR_multiply_c103 x2 x3 x4 t0_0 t0_1 t0_2 t0_3 t0_4 t0_5 t0_6 t1_0 t2_0 t3_0 t4_0 t5_0 t6_0 lx39 f64 f72 p86 (p86.2 : (Nat → Int32)) (p86.1 : (Nat → Int32)) ((F_WR_store x4 lx39 (2 : Int32) t0_2 (0 : Int32) t0_4 t0_5 t0_6 t1_0 t2_0 (p86.2 : (Nat → Int32))) : (Int32 × Int32 × Int32 × Int32 × Int32 × Int32 × Int32 × (Nat → Int32) × (Nat → Int32)))) else (F_WR_multiply_c103_4 x2 x3 x4 t0_0 t0_1 t0_2 t0_3 t0_4 t0_5 t0_6 t1_0 t2_0 t3_0 t4_0 t5_0 t6_0 lx39 f64 f72 p86 (p86.2 : (Nat → Int32)) (p86.1 : (Nat → Int32)) ((F_WR_store x4 lx39 (2 : Int32) t0_2 (1 : Int32) t0_4 t0_5 t0_6 t1_0 t2_0 (p86.2 : (Nat → Int32))) : (Int32 × Int32 × Int32 × Int32 × Int32 × Int32 × Int32 × (Nat → Int32) × (Nat → Int32))))
def F_WR_multiply_J27 (x2 : Int32) (x3 : Int32) (x4 : Int32) (t0_0 : Int32) (t0_1 : Int32) (t0_2 : Int32) (t0_3 : Int32) (t0_4 : Int32) (t0_5 : Int32) (t0_6 : Int32) (t1_0 : (Nat → Int32)) (t2_0 : (Nat → Int32)) (t3_0 : (Nat → Int32)) (t4_0 : (Nat → Int32)) (t5_0 : (Nat → Int32)) (t6_0 : (Nat → Int32)) (lx39 : Int32) : Int32 × Int32 × Int32 × Int32 × Int32 × Int32 × Int32 × (Nat → Int32) × (Nat → Int32) × (Nat → Int32) × (Nat → Int32) × (Nat → Int32) × (Nat → Int32) := if lx39 ≤ (0 : Int32) then (F_WR_multiply_c74 x2 x3 x4 t0_0 t0_1 t0_2 t0_3 t0_4 t0_5 t0_6 t1_0 t2_0 t3_0 t4_0 t5_0 t6_0 lx39 ((F_WR_take x2 (264 : Int32) lx39 (2 : Int32) t0_2 t0_3 t0_4 t0_5 t0_6 t1_0 t5_0) : (Nat → Int32)) ((F_WR_take x3 (264 : Int32) lx39 (2 : Int32) t0_2 t0_3 t0_4 t0_5 t0_6 t1_0 t6_0) : (Nat → Int32)) ((F_WR_multiplyRows (264 : Int32) (264 : Int32) (264 : Int32) lx39 (2 : Int32) t0_2 t0_3 t0_4 t0_5 t0_6 t4_0 ((F_WR_take x2 (264 : Int32) lx39 (2 : Int32) t0_2 t0_3 t0_4 t0_5 t0_6 t1_0 t5_0) : (Nat → Int32)) ((F_WR_take x3 (264 : Int32) lx39 (2 : Int32) t0_2 t0_3 t0_4 t0_5 t0_6 t1_0 t6_0) : (Nat → Int32)) t3_0) : ((Nat → Int32) × (Nat → Int32)))) else ((lx39, t0_1, t0_2, t0_3, t0_4, t0_5, t0_6, t1_0, t2_0, t3_0, t4_0, t5_0, t6_0))
def F_WR_multiply_J22 (x2 : Int32) (x3 : Int32) (x4 : Int32) (t0_0 : Int32) (t0_1 : Int32) (t0_2 : Int32) (t0_3 : Int32) (t0_4 : Int32) (t0_5 : Int32) (t0_6 : Int32) (t1_0 : (Nat → Int32)) (t2_0 : (Nat → Int32)) (t3_0 : (Nat → Int32)) (t4_0 : (Nat → Int32)) (t5_0 : (Nat → Int32)) (t6_0 : (Nat → Int32)) : Int32 × Int32 × Int32 × Int32 × Int32 × Int32 × Int32 × (Nat → Int32) × (Nat → Int32) × (Nat → Int32) × (Nat → Int32) × (Nat → Int32) × (Nat → Int32) := F_WR_multiply_J27 x2 x3 x4 t0_0 t0_1 t0_2 t0_3 t0_4 t0_5 t0_6 t1_0 t2_0 t3_0 t4_0 t5_0 t6_0 1
def F_WR_multiply (x2 : Int32) (x3 : Int32) (x4 : Int32) (t0_0 : Int32) (t0_1 : Int32) (t0_2 : Int32) (t0_3 : Int32) (t0_4 : Int32) (t0_5 : Int32) (t0_6 : Int32) (t1_0 : (Nat → Int32)) (t2_0 : (Nat → Int32)) (t3_0 : (Nat → Int32)) (t4_0 : (Nat → Int32)) (t5_0 : (Nat → Int32)) (t6_0 : (Nat → Int32)) : Int32 × Int32 × Int32 × Int32 × Int32 × Int32 × Int32 × (Nat → Int32) × (Nat → Int32) × (Nat → Int32) × (Nat → Int32) × (Nat → Int32) × (Nat → Int32) := if ((F_WR_no x2) : Int32) = (0 : Int32) then (if ((F_WR_no x3) : Int32) = (0 : Int32) then (if ((F_WR_no x4) : Int32) = (0 : Int32) then (F_WR_multiply_J27 x2 x3 x4 t0_0 t0_1 t0_2 t0_3 t0_4 t0_5 t0_6 t1_0 t2_0 t3_0 t4_0 t5_0 t6_0 0) else (F_WR_multiply_J22 x2 x3 x4 t0_0 t0_1 t0_2 t0_3 t0_4 t0_5 t0_6 t1_0 t2_0 t3_0 t4_0 t5_0 t6_0)) else (F_WR_multiply_J22 x2 x3 x4 t0_0 t0_1 t0_2 t0_3 t0_4 t0_5 t0_6 t1_0 t2_0 t3_0 t4_0 t5_0 t6_0)) else (F_WR_multiply_J22 x2 x3 x4 t0_0 t0_1 t0_2 t0_3 t0_4 t0_5 t0_6 t1_0 t2_0 t3_0 t4_0 t5_0 t6_0)
def S_WR_multiply_c103 (x2 : Int32) (x3 : Int32) (x4 : Int32) (t0_0 : Int32) (t0_1 : Int32) (t0_2 : Int32) (t0_3 : Int32) (t0_4 : Int32) (t0_5 : Int32) (t0_6 : Int32) (t1_0 : (Nat → Int32)) (t2_0 : (Nat → Int32)) (t3_0 : (Nat → Int32)) (t4_0 : (Nat → Int32)) (t5_0 : (Nat → Int32)) (t6_0 : (Nat → Int32)) (lx39 : Int32) (f64 : (Nat → Int32)) (f72 : (Nat → Int32)) (p86 : ((Nat → Int32) × (Nat → Int32))) (f82 : (Nat → Int32)) (f80 : (Nat → Int32)) (p136 : (Int32 × Int32 × Int32 × Int32 × Int32 × Int32 × Int32 × (Nat → Int32) × (Nat → Int32))) : Prop := True
def S_WR_multiply_c103_4 (x2 : Int32) (x3 : Int32) (x4 : Int32) (t0_0 : Int32) (t0_1 : Int32) (t0_2 : Int32) (t0_3 : Int32) (t0_4 : Int32) (t0_5 : Int32) (t0_6 : Int32) (t1_0 : (Nat → Int32)) (t2_0 : (Nat → Int32)) (t3_0 : (Nat → Int32)) (t4_0 : (Nat → Int32)) (t5_0 : (Nat → Int32)) (t6_0 : (Nat → Int32)) (lx39 : Int32) (f64 : (Nat → Int32)) (f72 : (Nat → Int32)) (p86 : ((Nat → Int32) × (Nat → Int32))) (f82 : (Nat → Int32)) (f80 : (Nat → Int32)) (p184 : (Int32 × Int32 × Int32 × Int32 × Int32 × Int32 × Int32 × (Nat → Int32) × (Nat → Int32))) : Prop := True
def S_WR_multiply_c74 (x2 : Int32) (x3 : Int32) (x4 : Int32) (t0_0 : Int32) (t0_1 : Int32) (t0_2 : Int32) (t0_3 : Int32) (t0_4 : Int32) (t0_5 : Int32) (t0_6 : Int32) (t1_0 : (Nat → Int32)) (t2_0 : (Nat → Int32)) (t3_0 : (Nat → Int32)) (t4_0 : (Nat → Int32)) (t5_0 : (Nat → Int32)) (t6_0 : (Nat → Int32)) (lx39 : Int32) (f64 : (Nat → Int32)) (f72 : (Nat → Int32)) (p86 : ((Nat → Int32) × (Nat → Int32))) : Prop := (0 ≤ x2.toInt) ∧ ((x2.toInt ≤ 10) ∧ ((0 ≤ x3.toInt) ∧ ((x3.toInt ≤ 10) ∧ (if (t2_0 x2.toNatClampNeg : Int32) = (t2_0 x3.toNatClampNeg : Int32) then ((True ∧ S_WR_store x4 lx39 (2 : Int32) t0_2 (0 : Int32) t0_4 t0_5 t0_6 t1_0 t2_0 (p86.2 : (Nat → Int32))) ∧ (S_WR_multiply_c103 x2 x3 x4 t0_0 t0_1 t0_2 t0_3 t0_4 t0_5 t0_6 t1_0 t2_0 t3_0 t4_0 t5_0 t6_0 lx39 f64 f72 p86 (p86.2 : (Nat → Int32)) (p86.1 : (Nat → Int32)) ((F_WR_store x4 lx39 (2 : Int32) t0_2 (0 : Int32) t0_4 t0_5 t0_6 t1_0 t2_0 (p86.2 : (Nat → Int32))) : (Int32 × Int32 × Int32 × Int32 × Int32 × Int32 × Int32 × (Nat → Int32) × (Nat → Int32))))) else ((True ∧ S_WR_store x4 lx39 (2 : Int32) t0_2 (1 : Int32) t0_4 t0_5 t0_6 t1_0 t2_0 (p86.2 : (Nat → Int32))) ∧ (S_WR_multiply_c103_4 x2 x3 x4 t0_0 t0_1 t0_2 t0_3 t0_4 t0_5 t0_6 t1_0 t2_0 t3_0 t4_0 t5_0 t6_0 lx39 f64 f72 p86 (p86.2 : (Nat → Int32)) (p86.1 : (Nat → Int32)) ((F_WR_store x4 lx39 (2 : Int32) t0_2 (1 : Int32) t0_4 t0_5 t0_6 t1_0 t2_0 (p86.2 : (Nat → Int32))) : (Int32 × Int32 × Int32 × Int32 × Int32 × Int32 × Int32 × (Nat → Int32) × (Nat → Int32)))))))))
def S_WR_multiply_J27 (x2 : Int32) (x3 : Int32) (x4 : Int32) (t0_0 : Int32) (t0_1 : Int32) (t0_2 : Int32) (t0_3 : Int32) (t0_4 : Int32) (t0_5 : Int32) (t0_6 : Int32) (t1_0 : (Nat → Int32)) (t2_0 : (Nat → Int32)) (t3_0 : (Nat → Int32)) (t4_0 : (Nat → Int32)) (t5_0 : (Nat → Int32)) (t6_0 : (Nat → Int32)) (lx39 : Int32) : Prop := if lx39 ≤ (0 : Int32) then ((True ∧ S_WR_take x2 (264 : Int32) lx39 (2 : Int32) t0_2 t0_3 t0_4 t0_5 t0_6 t1_0 t5_0) ∧ ((True ∧ S_WR_take x3 (264 : Int32) lx39 (2 : Int32) t0_2 t0_3 t0_4 t0_5 t0_6 t1_0 t6_0) ∧ ((True ∧ S_WR_multiplyRows (264 : Int32) (264 : Int32) (264 : Int32) lx39 (2 : Int32) t0_2 t0_3 t0_4 t0_5 t0_6 t4_0 ((F_WR_take x2 (264 : Int32) lx39 (2 : Int32) t0_2 t0_3 t0_4 t0_5 t0_6 t1_0 t5_0) : (Nat → Int32)) ((F_WR_take x3 (264 : Int32) lx39 (2 : Int32) t0_2 t0_3 t0_4 t0_5 t0_6 t1_0 t6_0) : (Nat → Int32)) t3_0) ∧ (S_WR_multiply_c74 x2 x3 x4 t0_0 t0_1 t0_2 t0_3 t0_4 t0_5 t0_6 t1_0 t2_0 t3_0 t4_0 t5_0 t6_0 lx39 ((F_WR_take x2 (264 : Int32) lx39 (2 : Int32) t0_2 t0_3 t0_4 t0_5 t0_6 t1_0 t5_0) : (Nat → Int32)) ((F_WR_take x3 (264 : Int32) lx39 (2 : Int32) t0_2 t0_3 t0_4 t0_5 t0_6 t1_0 t6_0) : (Nat → Int32)) ((F_WR_multiplyRows (264 : Int32) (264 : Int32) (264 : Int32) lx39 (2 : Int32) t0_2 t0_3 t0_4 t0_5 t0_6 t4_0 ((F_WR_take x2 (264 : Int32) lx39 (2 : Int32) t0_2 t0_3 t0_4 t0_5 t0_6 t1_0 t5_0) : (Nat → Int32)) ((F_WR_take x3 (264 : Int32) lx39 (2 : Int32) t0_2 t0_3 t0_4 t0_5 t0_6 t1_0 t6_0) : (Nat → Int32)) t3_0) : ((Nat → Int32) × (Nat → Int32))))))) else (True)
def S_WR_multiply_J22 (x2 : Int32) (x3 : Int32) (x4 : Int32) (t0_0 : Int32) (t0_1 : Int32) (t0_2 : Int32) (t0_3 : Int32) (t0_4 : Int32) (t0_5 : Int32) (t0_6 : Int32) (t1_0 : (Nat → Int32)) (t2_0 : (Nat → Int32)) (t3_0 : (Nat → Int32)) (t4_0 : (Nat → Int32)) (t5_0 : (Nat → Int32)) (t6_0 : (Nat → Int32)) : Prop := S_WR_multiply_J27 x2 x3 x4 t0_0 t0_1 t0_2 t0_3 t0_4 t0_5 t0_6 t1_0 t2_0 t3_0 t4_0 t5_0 t6_0 1
def S_WR_multiply (x2 : Int32) (x3 : Int32) (x4 : Int32) (t0_0 : Int32) (t0_1 : Int32) (t0_2 : Int32) (t0_3 : Int32) (t0_4 : Int32) (t0_5 : Int32) (t0_6 : Int32) (t1_0 : (Nat → Int32)) (t2_0 : (Nat → Int32)) (t3_0 : (Nat → Int32)) (t4_0 : (Nat → Int32)) (t5_0 : (Nat → Int32)) (t6_0 : (Nat → Int32)) : Prop := if ((F_WR_no x2) : Int32) = (0 : Int32) then (if ((F_WR_no x3) : Int32) = (0 : Int32) then (if ((F_WR_no x4) : Int32) = (0 : Int32) then (S_WR_multiply_J27 x2 x3 x4 t0_0 t0_1 t0_2 t0_3 t0_4 t0_5 t0_6 t1_0 t2_0 t3_0 t4_0 t5_0 t6_0 0) else (S_WR_multiply_J22 x2 x3 x4 t0_0 t0_1 t0_2 t0_3 t0_4 t0_5 t0_6 t1_0 t2_0 t3_0 t4_0 t5_0 t6_0)) else (S_WR_multiply_J22 x2 x3 x4 t0_0 t0_1 t0_2 t0_3 t0_4 t0_5 t0_6 t1_0 t2_0 t3_0 t4_0 t5_0 t6_0)) else (S_WR_multiply_J22 x2 x3 x4 t0_0 t0_1 t0_2 t0_3 t0_4 t0_5 t0_6 t1_0 t2_0 t3_0 t4_0 t5_0 t6_0)
set_option maxRecDepth 100000 in
set_option maxHeartbeats 4000000 in
theorem X_WR_multiply (l : Launch) (D : va_G) (g : Nat → ClassId) (q : Nat → Nat) (ws : va_W) (x2 : Int32) (x3 : Int32) (x4 : Int32) (hI : q_I (msh g q) q ws) (t0_0 : Int32) (t0_1 : Int32) (t0_2 : Int32) (t0_3 : Int32) (t0_4 : Int32) (t0_5 : Int32) (t0_6 : Int32) (hT0 : ws[119]? = (some (q 119, .inr (13, [.int t0_0, .int t0_1, .ref (q 120), .int t0_2, .ref (q 121), .ref (q 122), .ref (q 123), .int t0_3, .ref (q 124), .ref (q 125), .ref (q 126), .ref (q 127), .ref (q 128), .ref (q 129), .ref (q 130), .ref (q 131), .int t0_4, .int t0_5, .ref (q 132), .ref (q 133), .int t0_6])) : Option (Nat × va_E))) (t1_0 : (Nat → Int32)) (hT1 : ws[121]? = (some (q 121, .inl (g 0, (1408 : Int32).toNatClampNeg, .inl t1_0)) : Option (Nat × va_E))) (t2_0 : (Nat → Int32)) (hT2 : ws[122]? = (some (q 122, .inl (g 3, 11, .inl t2_0)) : Option (Nat × va_E))) (t3_0 : (Nat → Int32)) (hT3 : ws[123]? = (some (q 123, .inl (g 0, (264 : Int32).toNatClampNeg, .inl t3_0)) : Option (Nat × va_E))) (t4_0 : (Nat → Int32)) (hT4 : ws[125]? = (some (q 125, .inl (g 0, (528 : Int32).toNatClampNeg, .inl t4_0)) : Option (Nat × va_E))) (t5_0 : (Nat → Int32)) (hT5 : ws[128]? = (some (q 128, .inl (g 0, (264 : Int32).toNatClampNeg, .inl t5_0)) : Option (Nat × va_E))) (t6_0 : (Nat → Int32)) (hT6 : ws[129]? = (some (q 129, .inl (g 0, (264 : Int32).toNatClampNeg, .inl t6_0)) : Option (Nat × va_E))) (hS : True ∧ S_WR_multiply x2 x3 x4 t0_0 t0_1 t0_2 t0_3 t0_4 t0_5 t0_6 t1_0 t2_0 t3_0 t4_0 t5_0 t6_0) : q_mV l y_WR_multiply prog_19_method_23_code 4 3 0 0 D g [.ref (q 119), .int x2, .int x3, .int x4] ws (fun u => q_I (msh g q) q u ∧ q_un ws u [119, 121, 122, 123, 125, 128, 129] ∧ ∃ (u0_0 : Int32) (u0_1 : Int32) (u0_2 : Int32) (u0_3 : Int32) (u0_4 : Int32) (u0_5 : Int32) (u0_6 : Int32) (u1_0 : (Nat → Int32)) (u2_0 : (Nat → Int32)) (u3_0 : (Nat → Int32)) (u4_0 : (Nat → Int32)) (u5_0 : (Nat → Int32)) (u6_0 : (Nat → Int32)), u[119]? = (some (q 119, .inr (13, [.int u0_0, .int u0_1, .ref (q 120), .int u0_2, .ref (q 121), .ref (q 122), .ref (q 123), .int u0_3, .ref (q 124), .ref (q 125), .ref (q 126), .ref (q 127), .ref (q 128), .ref (q 129), .ref (q 130), .ref (q 131), .int u0_4, .int u0_5, .ref (q 132), .ref (q 133), .int u0_6])) : Option (Nat × va_E)) ∧ u[121]? = (some (q 121, .inl (g 0, (1408 : Int32).toNatClampNeg, .inl u1_0)) : Option (Nat × va_E)) ∧ u[122]? = (some (q 122, .inl (g 3, 11, .inl u2_0)) : Option (Nat × va_E)) ∧ u[123]? = (some (q 123, .inl (g 0, (264 : Int32).toNatClampNeg, .inl u3_0)) : Option (Nat × va_E)) ∧ u[125]? = (some (q 125, .inl (g 0, (528 : Int32).toNatClampNeg, .inl u4_0)) : Option (Nat × va_E)) ∧ u[128]? = (some (q 128, .inl (g 0, (264 : Int32).toNatClampNeg, .inl u5_0)) : Option (Nat × va_E)) ∧ u[129]? = (some (q 129, .inl (g 0, (264 : Int32).toNatClampNeg, .inl u6_0)) : Option (Nat × va_E)) ∧ (0 ≤ u0_3.toInt) ∧ (u0_3.toInt ≤ 1) ∧ (t0_2.toInt ≤ u0_2.toInt) ∧ (u0_2.toInt ≤ t0_2.toInt) ∧ (t0_4.toInt ≤ u0_4.toInt) ∧ (u0_4.toInt ≤ t0_4.toInt) ∧ (t0_5.toInt ≤ u0_5.toInt) ∧ (u0_5.toInt ≤ t0_5.toInt) ∧ (t0_6.toInt ≤ u0_6.toInt) ∧ (u0_6.toInt ≤ t0_6.toInt) ∧ (u0_0, u0_1, u0_2, u0_3, u0_4, u0_5, u0_6, u1_0, u2_0, u3_0, u4_0, u5_0, u6_0) = (F_WR_multiply x2 x3 x4 t0_0 t0_1 t0_2 t0_3 t0_4 t0_5 t0_6 t1_0 t2_0 t3_0 t4_0 t5_0 t6_0)) := by
  intro sz
  refine q_into (by decide) (Nat.le_of_ble_eq_true rfl) ?_
  intro p e s m below meth c ls hsz C0 V hl
  have hx := C0.1
  have hb := C0.2.1
  obtain ⟨btt0_2, hZ9⟩ := n_w119 hI hT0
  obtain ⟨btt0_3, hZ9⟩ := hZ9
  obtain ⟨btt0_4, hZ9⟩ := hZ9
  obtain ⟨btt0_5, btt0_6⟩ := hZ9
  replace btt0_2 : q_F (0 ≤ t0_2.toInt ∧ t0_2.toInt ≤ 4100) := btt0_2
  replace btt0_3 : q_F (0 ≤ t0_3.toInt ∧ t0_3.toInt ≤ 1) := btt0_3
  replace btt0_4 : q_F (0 ≤ t0_4.toInt ∧ t0_4.toInt ≤ 1) := btt0_4
  replace btt0_5 : q_F (0 ≤ t0_5.toInt ∧ t0_5.toInt ≤ 1) := btt0_5
  replace btt0_6 : q_F (0 ≤ t0_6.toInt ∧ t0_6.toInt ≤ 2100) := btt0_6
  have hF : q_un ws ws [119, 121, 122, 123, 125, 128, 129] := q_u0
  have hl : lv_has ls 4 [(0, .ref (q 119)), (1, .int x2), (2, .int x3), (3, .int x4)] := hl
  refine lv_aload_n hx hb d_19_23_0 rfl (lv_at hl 0 rfl) ?_
  refine lv_iload_n hx hb d_19_23_1 rfl (lv_at hl 1 rfl) ?_
  refine q_goi V (q_runS (As := [.int x2]) (rest := [.ref (q 119)]) (d := 1) (mc := 0) (ms := 0) C0 V rfl LS_WR_91 (X_WR_no l D g q ws  x2 hI   _) rfl hl.1 rfl (Nat.le_of_ble_eq_true rfl) ⟨by decide, by decide⟩ ⟨Nat.le_of_ble_eq_true rfl, Nat.le_of_ble_eq_true rfl⟩ d_19_23_2) (fun a34 u32 H locs hp33 V => ?_)
  obtain ⟨rfl, b35, b36, hE37⟩ := hp33
  have e38 : a34 = (F_WR_no x2) := hE37
  clear b35
  clear b36
  refine q_join (X := Int32) (fun z H locs ls _ => q_F (0 ≤ z.toInt) ∧ q_F (z.toInt ≤ 1) ∧ q_Wd D g (va_A ws sz) s ws H locs ∧ lv_has ls 4 [(0, .ref (q 119)), (1, .int x2), (2, .int x3), (3, .int x4)] ∧ F_WR_multiply_J27 x2 x3 x4 t0_0 t0_1 t0_2 t0_3 t0_4 t0_5 t0_6 t1_0 t2_0 t3_0 t4_0 t5_0 t6_0 z = (F_WR_multiply x2 x3 x4 t0_0 t0_1 t0_2 t0_3 t0_4 t0_5 t0_6 t1_0 t2_0 t3_0 t4_0 t5_0 t6_0) ∧ True ∧ S_WR_multiply_J27 x2 x3 x4 t0_0 t0_1 t0_2 t0_3 t0_4 t0_5 t0_6 t1_0 t2_0 t3_0 t4_0 t5_0 t6_0 z) (fun z => [.int z, .ref (q 119)]) 27 0 0 ?_ ?_
  ·
    rintro lx39 H locs ls _ hZ9
    replace hZ9 := hZ9.2.2
    obtain ⟨V, hZ9⟩ := hZ9
    obtain ⟨hl, hZ9⟩ := hZ9
    obtain ⟨hR50, hS51⟩ := hZ9
    replace hl : lv_has ls 4 [(0, .ref (q 119)), (1, .int x2), (2, .int x3), (3, .int x4)] := hl
    refine q_put (ci := 13) (j := 0) (v := .int lx39) (ty := .int) C0 V i_WR o_WR n_WR rfl rfl hT0 (by decide) w_1921 rfl rfl rfl rfl (Nat.le_of_ble_eq_true rfl) d_19_23_27 (fun H locs w55 hu56 hT0 V => ?_)
    replace hT0 : w55[119]? = (some (q 119, .inr (13, [.int lx39, .int t0_1, .ref (q 120), .int t0_2, .ref (q 121), .ref (q 122), .ref (q 123), .int t0_3, .ref (q 124), .ref (q 125), .ref (q 126), .ref (q 127), .ref (q 128), .ref (q 129), .ref (q 130), .ref (q 131), .int t0_4, .int t0_5, .ref (q 132), .ref (q 133), .int t0_6])) : Option (Nat × va_E)) := hT0
    replace hI := n_p119 hI hu56 hT0 (by first | with_reducible exact q_fe btt0_2 | exact ⟨(by have t1 : 0 ≤ t0_2.toInt ∧ t0_2.toInt ≤ 4100 := btt0_2; omega), (by have t1 : 0 ≤ t0_2.toInt ∧ t0_2.toInt ≤ 4100 := btt0_2; omega)⟩) (by first | with_reducible exact q_fe btt0_3 | exact ⟨(by have t1 : 0 ≤ t0_3.toInt ∧ t0_3.toInt ≤ 1 := btt0_3; omega), (by have t1 : 0 ≤ t0_3.toInt ∧ t0_3.toInt ≤ 1 := btt0_3; omega)⟩) (by first | with_reducible exact q_fe btt0_4 | exact ⟨(by have t1 : 0 ≤ t0_4.toInt ∧ t0_4.toInt ≤ 1 := btt0_4; omega), (by have t1 : 0 ≤ t0_4.toInt ∧ t0_4.toInt ≤ 1 := btt0_4; omega)⟩) (by first | with_reducible exact q_fe btt0_5 | exact ⟨(by have t1 : 0 ≤ t0_5.toInt ∧ t0_5.toInt ≤ 1 := btt0_5; omega), (by have t1 : 0 ≤ t0_5.toInt ∧ t0_5.toInt ≤ 1 := btt0_5; omega)⟩) (by first | with_reducible exact q_fe btt0_6 | exact ⟨(by have t1 : 0 ≤ t0_6.toInt ∧ t0_6.toInt ≤ 2100 := btt0_6; omega), (by have t1 : 0 ≤ t0_6.toInt ∧ t0_6.toInt ≤ 2100 := btt0_6; omega)⟩)
    replace hT1 := (hu56 _ (by decide)).trans hT1
    replace hT2 := (hu56 _ (by decide)).trans hT2
    replace hT3 := (hu56 _ (by decide)).trans hT3
    replace hT4 := (hu56 _ (by decide)).trans hT4
    replace hT5 := (hu56 _ (by decide)).trans hT5
    replace hT6 := (hu56 _ (by decide)).trans hT6
    replace hF := q_us hF hu56 (by simp)
    refine lv_aload_n hx hb d_19_23_30 rfl (lv_at hl 0 rfl) ?_
    refine q_get (ci := 13) (j := 0) (v := .int lx39) C0 V i_WR rfl rfl hT0 (by decide) w_1921 rfl d_19_23_31 ?_
    refine lv_if_le (tgt := 38) hx hb d_19_23_34 (by decide) (fun c57 => ?_) (fun c57 => ?_)
    ·
      refine lv_aload_n hx hb d_19_23_38 rfl (lv_at hl 0 rfl) ?_
      refine lv_iconst (v := 2) hx hb d_19_23_39 (by decide) ?_
      refine q_put (ci := 13) (j := 1) (v := .int 2) (ty := .int) C0 V i_WR o_WR n_WR rfl rfl hT0 (by decide) w_1923 rfl rfl rfl rfl (Nat.le_of_ble_eq_true rfl) d_19_23_40 (fun H locs w59 hu60 hT0 V => ?_)
      replace hT0 : w59[119]? = (some (q 119, .inr (13, [.int lx39, .int 2, .ref (q 120), .int t0_2, .ref (q 121), .ref (q 122), .ref (q 123), .int t0_3, .ref (q 124), .ref (q 125), .ref (q 126), .ref (q 127), .ref (q 128), .ref (q 129), .ref (q 130), .ref (q 131), .int t0_4, .int t0_5, .ref (q 132), .ref (q 133), .int t0_6])) : Option (Nat × va_E)) := hT0
      replace hI := n_p119 hI hu60 hT0 (by first | with_reducible exact q_fe btt0_2 | exact ⟨(by have t1 : 0 ≤ t0_2.toInt ∧ t0_2.toInt ≤ 4100 := btt0_2; omega), (by have t1 : 0 ≤ t0_2.toInt ∧ t0_2.toInt ≤ 4100 := btt0_2; omega)⟩) (by first | with_reducible exact q_fe btt0_3 | exact ⟨(by have t1 : 0 ≤ t0_3.toInt ∧ t0_3.toInt ≤ 1 := btt0_3; omega), (by have t1 : 0 ≤ t0_3.toInt ∧ t0_3.toInt ≤ 1 := btt0_3; omega)⟩) (by first | with_reducible exact q_fe btt0_4 | exact ⟨(by have t1 : 0 ≤ t0_4.toInt ∧ t0_4.toInt ≤ 1 := btt0_4; omega), (by have t1 : 0 ≤ t0_4.toInt ∧ t0_4.toInt ≤ 1 := btt0_4; omega)⟩) (by first | with_reducible exact q_fe btt0_5 | exact ⟨(by have t1 : 0 ≤ t0_5.toInt ∧ t0_5.toInt ≤ 1 := btt0_5; omega), (by have t1 : 0 ≤ t0_5.toInt ∧ t0_5.toInt ≤ 1 := btt0_5; omega)⟩) (by first | with_reducible exact q_fe btt0_6 | exact ⟨(by have t1 : 0 ≤ t0_6.toInt ∧ t0_6.toInt ≤ 2100 := btt0_6; omega), (by have t1 : 0 ≤ t0_6.toInt ∧ t0_6.toInt ≤ 2100 := btt0_6; omega)⟩)
      replace hT1 := (hu60 _ (by decide)).trans hT1
      replace hT2 := (hu60 _ (by decide)).trans hT2
      replace hT3 := (hu60 _ (by decide)).trans hT3
      replace hT4 := (hu60 _ (by decide)).trans hT4
      replace hT5 := (hu60 _ (by decide)).trans hT5
      replace hT6 := (hu60 _ (by decide)).trans hT6
      replace hF := q_us hF hu60 (by simp)
      refine lv_aload_n hx hb d_19_23_43 rfl (lv_at hl 0 rfl) ?_
      refine lv_iload_n hx hb d_19_23_44 rfl (lv_at hl 1 rfl) ?_
      refine lv_aload_n hx hb d_19_23_45 rfl (lv_at hl 0 rfl) ?_
      refine q_get (ci := 13) (j := 12) (v := .ref (q 128)) C0 V i_WR rfl rfl hT0 (by decide) w_1936 rfl d_19_23_46 ?_
      have ob61 : True ∧ S_WR_take x2 (264 : Int32) lx39 (2 : Int32) t0_2 t0_3 t0_4 t0_5 t0_6 t1_0 t5_0 := (by have h := hS51; rw [S_WR_multiply_J27.eq_1] at h; rw [if_pos c57] at h; with_reducible exact h.2.1)
      refine q_gov V (q_runV (As := [.int x2, .ref (q 128)]) (rest := []) (d := 1) (mc := 0) (ms := 0) (ci := 13) C0 V rfl LV_WR_107 (X_WR_take l D g q w59 128 264 (n_r128 g q) x2 (by decide) hI lx39 2 t0_2 t0_3 t0_4 t0_5 t0_6 hT0 t1_0 hT1 t5_0 hT5 ob61 _) rfl rfl hT0 rfl hl.1 rfl (Nat.le_of_ble_eq_true rfl) ⟨by decide, by decide⟩ ⟨Nat.le_of_ble_eq_true rfl, Nat.le_of_ble_eq_true rfl⟩ d_19_23_49) (fun u62 H locs hp63 V => ?_)
      obtain ⟨hI, hu67, f64, hA65, hE66⟩ := hp63
      replace hA65 : u62[128]? = (some (q 128, .inl (g 0, (264 : Int32).toNatClampNeg, .inl f64)) : Option (Nat × va_E)) := hA65
      have e68 : f64 = (F_WR_take x2 (264 : Int32) lx39 (2 : Int32) t0_2 t0_3 t0_4 t0_5 t0_6 t1_0 t5_0) := hE66
      replace hT0 := (hu67 _ (by decide)).trans hT0
      replace hT1 := (hu67 _ (by decide)).trans hT1
      replace hT2 := (hu67 _ (by decide)).trans hT2
      replace hT3 := (hu67 _ (by decide)).trans hT3
      replace hT4 := (hu67 _ (by decide)).trans hT4
      replace hT6 := (hu67 _ (by decide)).trans hT6
      replace hF := q_uc hF hu67 (by simp)
      refine lv_aload_n hx hb d_19_23_52 rfl (lv_at hl 0 rfl) ?_
      refine lv_iload_n hx hb d_19_23_53 rfl (lv_at hl 2 rfl) ?_
      refine lv_aload_n hx hb d_19_23_54 rfl (lv_at hl 0 rfl) ?_
      refine q_get (ci := 13) (j := 13) (v := .ref (q 129)) C0 V i_WR rfl rfl hT0 (by decide) w_1937 rfl d_19_23_55 ?_
      have ob69 : True ∧ S_WR_take x3 (264 : Int32) lx39 (2 : Int32) t0_2 t0_3 t0_4 t0_5 t0_6 t1_0 t6_0 := (by have h := hS51; rw [S_WR_multiply_J27.eq_1] at h; rw [if_pos c57] at h; replace h := q_s2 h; with_reducible exact h.2.1)
      refine q_gov V (q_runV (As := [.int x3, .ref (q 129)]) (rest := []) (d := 1) (mc := 0) (ms := 0) (ci := 13) C0 V rfl LV_WR_107 (X_WR_take l D g q u62 129 264 (n_r129 g q) x3 (by decide) hI lx39 2 t0_2 t0_3 t0_4 t0_5 t0_6 hT0 t1_0 hT1 t6_0 hT6 ob69 _) rfl rfl hT0 rfl hl.1 rfl (Nat.le_of_ble_eq_true rfl) ⟨by decide, by decide⟩ ⟨Nat.le_of_ble_eq_true rfl, Nat.le_of_ble_eq_true rfl⟩ d_19_23_58) (fun u70 H locs hp71 V => ?_)
      obtain ⟨hI, hu75, f72, hA73, hE74⟩ := hp71
      replace hA73 : u70[129]? = (some (q 129, .inl (g 0, (264 : Int32).toNatClampNeg, .inl f72)) : Option (Nat × va_E)) := hA73
      have e76 : f72 = (F_WR_take x3 (264 : Int32) lx39 (2 : Int32) t0_2 t0_3 t0_4 t0_5 t0_6 t1_0 t6_0) := hE74
      replace hT0 := (hu75 _ (by decide)).trans hT0
      replace hT1 := (hu75 _ (by decide)).trans hT1
      replace hT2 := (hu75 _ (by decide)).trans hT2
      replace hT3 := (hu75 _ (by decide)).trans hT3
      replace hT4 := (hu75 _ (by decide)).trans hT4
      replace hA65 := (hu75 _ (by decide)).trans hA65
      replace hF := q_uc hF hu75 (by simp)
      refine lv_aload_n hx hb d_19_23_61 rfl (lv_at hl 0 rfl) ?_
      refine lv_aload_n hx hb d_19_23_62 rfl (lv_at hl 0 rfl) ?_
      refine q_get (ci := 13) (j := 12) (v := .ref (q 128)) C0 V i_WR rfl rfl hT0 (by decide) w_1936 rfl d_19_23_63 ?_
      refine lv_aload_n hx hb d_19_23_66 rfl (lv_at hl 0 rfl) ?_
      refine q_get (ci := 13) (j := 13) (v := .ref (q 129)) C0 V i_WR rfl rfl hT0 (by decide) w_1937 rfl d_19_23_67 ?_
      refine lv_aload_n hx hb d_19_23_70 rfl (lv_at hl 0 rfl) ?_
      refine q_get (ci := 13) (j := 6) (v := .ref (q 123)) C0 V i_WR rfl rfl hT0 (by decide) w_1930 rfl d_19_23_71 ?_
      have ob77 : True ∧ S_WR_multiplyRows (264 : Int32) (264 : Int32) (264 : Int32) lx39 (2 : Int32) t0_2 t0_3 t0_4 t0_5 t0_6 t4_0 f64 f72 t3_0 := (by rw [e76, e68]; have h := hS51; rw [S_WR_multiply_J27.eq_1] at h; rw [if_pos c57] at h; replace h := q_s2 h; replace h := q_s2 h; with_reducible exact h.2.1)
      refine q_gov V (q_runV (As := [.ref (q 128), .ref (q 129), .ref (q 123)]) (rest := []) (d := 2) (mc := 0) (ms := 0) (ci := 13) C0 V rfl LV_WR_115 (X_WR_multiplyRows l D g q u70 128 264 (n_r128 g q) 129 264 (n_r129 g q) 123 264 (n_r123 g q)  (by decide) (by decide) (by decide) (by decide) (by decide) (by decide) hI lx39 2 t0_2 t0_3 t0_4 t0_5 t0_6 hT0 t4_0 hT4 f64 hA65 f72 hA73 t3_0 hT3 ob77 _) rfl rfl hT0 rfl hl.1 rfl (Nat.le_of_ble_eq_true rfl) ⟨by decide, by decide⟩ ⟨Nat.le_of_ble_eq_true rfl, Nat.le_of_ble_eq_true rfl⟩ d_19_23_74) (fun u78 H locs hp79 V => ?_)
      obtain ⟨hI, hZ9⟩ := hp79
      obtain ⟨hu85, hZ9⟩ := hZ9
      obtain ⟨f80, hZ9⟩ := hZ9
      obtain ⟨f82, hZ9⟩ := hZ9
      obtain ⟨hA81, hZ9⟩ := hZ9
      obtain ⟨hA83, hE84⟩ := hZ9
      replace hA81 : u78[125]? = (some (q 125, .inl (g 0, (528 : Int32).toNatClampNeg, .inl f80)) : Option (Nat × va_E)) := hA81
      replace hA83 : u78[123]? = (some (q 123, .inl (g 0, (264 : Int32).toNatClampNeg, .inl f82)) : Option (Nat × va_E)) := hA83
      obtain ⟨p86, e87⟩ : ∃ z, z = (F_WR_multiplyRows (264 : Int32) (264 : Int32) (264 : Int32) lx39 (2 : Int32) t0_2 t0_3 t0_4 t0_5 t0_6 t4_0 f64 f72 t3_0) := ⟨_, rfl⟩
      have e88 : f80 = p86.1 := congrArg (fun z => z.1) (hE84.trans e87.symm)
      have e89 : f82 = p86.2 := congrArg (fun z => z.2) (hE84.trans e87.symm)
      replace hT0 := (hu85 _ (by decide)).trans hT0
      replace hT1 := (hu85 _ (by decide)).trans hT1
      replace hT2 := (hu85 _ (by decide)).trans hT2
      replace hA65 := (hu85 _ (by decide)).trans hA65
      replace hA73 := (hu85 _ (by decide)).trans hA73
      replace hF := q_uc hF hu85 (by simp)
      have hR90 := (show F_WR_multiply_c74 x2 x3 x4 t0_0 t0_1 t0_2 t0_3 t0_4 t0_5 t0_6 t1_0 t2_0 t3_0 t4_0 t5_0 t6_0 lx39 f64 f72 p86 = (F_WR_multiply x2 x3 x4 t0_0 t0_1 t0_2 t0_3 t0_4 t0_5 t0_6 t1_0 t2_0 t3_0 t4_0 t5_0 t6_0) from Eq.trans (by rw [e87, e76, e68, F_WR_multiply_J27.eq_1, if_pos c57]) hR50)
      have hS91 := (show True ∧ S_WR_multiply_c74 x2 x3 x4 t0_0 t0_1 t0_2 t0_3 t0_4 t0_5 t0_6 t1_0 t2_0 t3_0 t4_0 t5_0 t6_0 lx39 f64 f72 p86 from (by rw [e87, e76, e68]; have h := hS51; rw [S_WR_multiply_J27.eq_1] at h; rw [if_pos c57] at h; replace h := q_s2 h; replace h := q_s2 h; replace h := q_s2 h; with_reducible exact h))
      refine lv_aload_n hx hb d_19_23_77 rfl (lv_at hl 0 rfl) ?_
      refine lv_aload_n hx hb d_19_23_78 rfl (lv_at hl 0 rfl) ?_
      refine q_get (ci := 13) (j := 5) (v := .ref (q 122)) C0 V i_WR rfl rfl hT0 (by decide) w_1929 rfl d_19_23_79 ?_
      refine lv_iload_n hx hb d_19_23_82 rfl (lv_at hl 1 rfl) ?_
      have ob95 : q_F (0 ≤ x2.toInt) := (by have h := hS91; rw [S_WR_multiply_c74.eq_1] at h; exact h.2.1)
      have ob96 : q_F (x2.toInt ≤ 10) := (by have h := hS91; rw [S_WR_multiply_c74.eq_1] at h; replace h := q_s2 h; exact h.2.1)
      refine q_zald C0 V hT2 (q_ix (x := x2.toInt) rfl (by first | with_reducible exact q_fe ob95 | (have t1 : 0 ≤ x2.toInt := ob95; omega)) (by have t1 : 0 ≤ x2.toInt := ob95; have t2 : x2.toInt ≤ 10 := ob96; omega)) d_19_23_83 ?_
      obtain ⟨a97, e98⟩ := q_nm (t2_0 x2.toNatClampNeg : Int32)
      refine q_ti (v := a97) e98 ?_
      refine lv_aload_n hx hb d_19_23_84 rfl (lv_at hl 0 rfl) ?_
      refine q_get (ci := 13) (j := 5) (v := .ref (q 122)) C0 V i_WR rfl rfl hT0 (by decide) w_1929 rfl d_19_23_85 ?_
      refine lv_iload_n hx hb d_19_23_88 rfl (lv_at hl 2 rfl) ?_
      have ob99 : q_F (0 ≤ x3.toInt) := (by have h := hS91; rw [S_WR_multiply_c74.eq_1] at h; replace h := q_s2 h; replace h := q_s2 h; exact h.2.1)
      have ob100 : q_F (x3.toInt ≤ 10) := (by have h := hS91; rw [S_WR_multiply_c74.eq_1] at h; replace h := q_s2 h; replace h := q_s2 h; replace h := q_s2 h; exact h.2.1)
      refine q_zald C0 V hT2 (q_ix (x := x3.toInt) rfl (by first | with_reducible exact q_fe ob99 | (have t1 : 0 ≤ x3.toInt := ob99; omega)) (by have t1 : 0 ≤ x3.toInt := ob99; have t2 : x3.toInt ≤ 10 := ob100; omega)) d_19_23_89 ?_
      obtain ⟨a101, e102⟩ := q_nm (t2_0 x3.toNatClampNeg : Int32)
      refine q_ti (v := a101) e102 ?_
      refine lv_icmp_eq (tgt := 97) hx hb d_19_23_90 (by decide) (fun c103 => ?_) (fun c103 => ?_)
      ·
        refine lv_iconst (v := 0) hx hb d_19_23_97 (by decide) ?_
        refine q_put (ci := 13) (j := 7) (v := .int 0) (ty := .boolean) C0 V i_WR o_WR n_WR rfl rfl hT0 (by decide) w_1931 rfl rfl rfl rfl (Nat.le_of_ble_eq_true rfl) d_19_23_98 (fun H locs w105 hu106 hT0 V => ?_)
        replace hT0 : w105[119]? = (some (q 119, .inr (13, [.int lx39, .int 2, .ref (q 120), .int t0_2, .ref (q 121), .ref (q 122), .ref (q 123), .int 0, .ref (q 124), .ref (q 125), .ref (q 126), .ref (q 127), .ref (q 128), .ref (q 129), .ref (q 130), .ref (q 131), .int t0_4, .int t0_5, .ref (q 132), .ref (q 133), .int t0_6])) : Option (Nat × va_E)) := hT0
        replace hI := n_p119 hI hu106 hT0 (by first | with_reducible exact q_fe btt0_2 | exact ⟨(by have t1 : 0 ≤ t0_2.toInt ∧ t0_2.toInt ≤ 4100 := btt0_2; omega), (by have t1 : 0 ≤ t0_2.toInt ∧ t0_2.toInt ≤ 4100 := btt0_2; omega)⟩) ⟨(by have z9 : (0 : Int32).toInt = 0 := rfl; omega), (by have z9 : (0 : Int32).toInt = 0 := rfl; omega)⟩ (by first | with_reducible exact q_fe btt0_4 | exact ⟨(by have t1 : 0 ≤ t0_4.toInt ∧ t0_4.toInt ≤ 1 := btt0_4; omega), (by have t1 : 0 ≤ t0_4.toInt ∧ t0_4.toInt ≤ 1 := btt0_4; omega)⟩) (by first | with_reducible exact q_fe btt0_5 | exact ⟨(by have t1 : 0 ≤ t0_5.toInt ∧ t0_5.toInt ≤ 1 := btt0_5; omega), (by have t1 : 0 ≤ t0_5.toInt ∧ t0_5.toInt ≤ 1 := btt0_5; omega)⟩) (by first | with_reducible exact q_fe btt0_6 | exact ⟨(by have t1 : 0 ≤ t0_6.toInt ∧ t0_6.toInt ≤ 2100 := btt0_6; omega), (by have t1 : 0 ≤ t0_6.toInt ∧ t0_6.toInt ≤ 2100 := btt0_6; omega)⟩)
        replace hT1 := (hu106 _ (by decide)).trans hT1
        replace hT2 := (hu106 _ (by decide)).trans hT2
        replace hA83 := (hu106 _ (by decide)).trans hA83
        replace hA81 := (hu106 _ (by decide)).trans hA81
        replace hA65 := (hu106 _ (by decide)).trans hA65
        replace hA73 := (hu106 _ (by decide)).trans hA73
        replace hF := q_us hF hu106 (by simp)
        refine lv_aload_n hx hb d_19_23_101 rfl (lv_at hl 0 rfl) ?_
        refine lv_iload_n hx hb d_19_23_102 rfl (lv_at hl 3 rfl) ?_
        have ob107 : True ∧ S_WR_store x4 lx39 (2 : Int32) t0_2 (0 : Int32) t0_4 t0_5 t0_6 t1_0 t2_0 f82 := (by rw [e89]; have h := hS91; rw [S_WR_multiply_c74.eq_1] at h; replace h := q_s2 h; replace h := q_s2 h; replace h := q_s2 h; replace h := q_s2 h; have c103x := c103; rw [← e102, ← e98] at c103x; rw [if_pos c103x] at h; with_reducible exact h.2.1)
        refine q_gov V (q_runV (As := [.int x4]) (rest := []) (d := 2) (mc := 0) (ms := 0) (ci := 13) C0 V rfl LV_WR_103 (X_WR_store l D g q w105  x4 hI lx39 2 t0_2 0 t0_4 t0_5 t0_6 hT0 t1_0 hT1 t2_0 hT2 f82 hA83 ob107 _) rfl rfl hT0 rfl hl.1 rfl (Nat.le_of_ble_eq_true rfl) ⟨by decide, by decide⟩ ⟨Nat.le_of_ble_eq_true rfl, Nat.le_of_ble_eq_true rfl⟩ d_19_23_103) (fun u108 H locs hp109 V => ?_)
        obtain ⟨hI, hZ9⟩ := hp109
        obtain ⟨hu135, hZ9⟩ := hZ9
        obtain ⟨y111, hZ9⟩ := hZ9
        obtain ⟨y112, hZ9⟩ := hZ9
        obtain ⟨y113, hZ9⟩ := hZ9
        obtain ⟨y114, hZ9⟩ := hZ9
        obtain ⟨y115, hZ9⟩ := hZ9
        obtain ⟨y116, hZ9⟩ := hZ9
        obtain ⟨y117, hZ9⟩ := hZ9
        obtain ⟨f118, hZ9⟩ := hZ9
        obtain ⟨f120, hZ9⟩ := hZ9
        obtain ⟨hO110, hZ9⟩ := hZ9
        obtain ⟨hA119, hZ9⟩ := hZ9
        obtain ⟨hA121, hZ9⟩ := hZ9
        replace hZ9 := hZ9.2.2
        obtain ⟨b124, hZ9⟩ := hZ9
        obtain ⟨b125, hZ9⟩ := hZ9
        obtain ⟨b126, hZ9⟩ := hZ9
        obtain ⟨b127, hZ9⟩ := hZ9
        obtain ⟨b128, hZ9⟩ := hZ9
        obtain ⟨b129, hZ9⟩ := hZ9
        obtain ⟨b130, hZ9⟩ := hZ9
        obtain ⟨b131, hZ9⟩ := hZ9
        obtain ⟨b132, hZ9⟩ := hZ9
        obtain ⟨b133, hE134⟩ := hZ9
        replace hO110 : u108[119]? = (some (q 119, .inr (13, [.int y111, .int y112, .ref (q 120), .int y113, .ref (q 121), .ref (q 122), .ref (q 123), .int y114, .ref (q 124), .ref (q 125), .ref (q 126), .ref (q 127), .ref (q 128), .ref (q 129), .ref (q 130), .ref (q 131), .int y115, .int y116, .ref (q 132), .ref (q 133), .int y117])) : Option (Nat × va_E)) := hO110
        replace hA119 : u108[121]? = (some (q 121, .inl (g 0, (1408 : Int32).toNatClampNeg, .inl f118)) : Option (Nat × va_E)) := hA119
        replace hA121 : u108[122]? = (some (q 122, .inl (g 3, 11, .inl f120)) : Option (Nat × va_E)) := hA121
        obtain ⟨p136, e137⟩ : ∃ z, z = (F_WR_store x4 lx39 (2 : Int32) t0_2 (0 : Int32) t0_4 t0_5 t0_6 t1_0 t2_0 f82) := ⟨_, rfl⟩
        have e138 : y111 = p136.1 := congrArg (fun z => z.1) (hE134.trans e137.symm)
        have e139 : y112 = p136.2.1 := congrArg (fun z => z.2.1) (hE134.trans e137.symm)
        have e140 : y113 = p136.2.2.1 := congrArg (fun z => z.2.2.1) (hE134.trans e137.symm)
        have e141 : y114 = p136.2.2.2.1 := congrArg (fun z => z.2.2.2.1) (hE134.trans e137.symm)
        have e142 : y115 = p136.2.2.2.2.1 := congrArg (fun z => z.2.2.2.2.1) (hE134.trans e137.symm)
        have e143 : y116 = p136.2.2.2.2.2.1 := congrArg (fun z => z.2.2.2.2.2.1) (hE134.trans e137.symm)
        have e144 : y117 = p136.2.2.2.2.2.2.1 := congrArg (fun z => z.2.2.2.2.2.2.1) (hE134.trans e137.symm)
        have e145 : f118 = p136.2.2.2.2.2.2.2.1 := congrArg (fun z => z.2.2.2.2.2.2.2.1) (hE134.trans e137.symm)
        have e146 : f120 = p136.2.2.2.2.2.2.2.2 := congrArg (fun z => z.2.2.2.2.2.2.2.2) (hE134.trans e137.symm)
        replace b124 : q_F (t0_2.toInt ≤ y113.toInt) := b124
        replace b125 : q_F (y113.toInt ≤ t0_2.toInt) := b125
        replace b126 : q_F (0 ≤ y114.toInt) := b126
        replace b127 : q_F (y114.toInt ≤ 0) := b127
        replace b128 : q_F (t0_4.toInt ≤ y115.toInt) := b128
        replace b129 : q_F (y115.toInt ≤ t0_4.toInt) := b129
        replace b130 : q_F (t0_5.toInt ≤ y116.toInt) := b130
        replace b131 : q_F (y116.toInt ≤ t0_5.toInt) := b131
        replace b132 : q_F (t0_6.toInt ≤ y117.toInt) := b132
        replace b133 : q_F (y117.toInt ≤ t0_6.toInt) := b133
        replace hA83 := (hu135 _ (by decide)).trans hA83
        replace hA81 := (hu135 _ (by decide)).trans hA81
        replace hA65 := (hu135 _ (by decide)).trans hA65
        replace hA73 := (hu135 _ (by decide)).trans hA73
        replace hF := q_uc hF hu135 (by simp)
        have hR147 := (show F_WR_multiply_c103 x2 x3 x4 t0_0 t0_1 t0_2 t0_3 t0_4 t0_5 t0_6 t1_0 t2_0 t3_0 t4_0 t5_0 t6_0 lx39 f64 f72 p86 f82 f80 p136 = (F_WR_multiply x2 x3 x4 t0_0 t0_1 t0_2 t0_3 t0_4 t0_5 t0_6 t1_0 t2_0 t3_0 t4_0 t5_0 t6_0) from Eq.trans (by have c103x := c103; rw [← e102, ← e98] at c103x; rw [e137, e89, e88, F_WR_multiply_c74.eq_1, if_pos c103x]) hR90)
        have hS148 := (show True ∧ S_WR_multiply_c103 x2 x3 x4 t0_0 t0_1 t0_2 t0_3 t0_4 t0_5 t0_6 t1_0 t2_0 t3_0 t4_0 t5_0 t6_0 lx39 f64 f72 p86 f82 f80 p136 from (by rw [e137, e89, e88]; have h := hS91; rw [S_WR_multiply_c74.eq_1] at h; replace h := q_s2 h; replace h := q_s2 h; replace h := q_s2 h; replace h := q_s2 h; have c103x := c103; rw [← e102, ← e98] at c103x; rw [if_pos c103x] at h; replace h := q_s2 h; with_reducible exact h))
        exact q_retv C0 V (⟨hI, hF, y111, y112, y113, y114, y115, y116, y117, f118, f120, f82, f80, f64, f72, hO110, hA119, hA121, hA83, hA81, hA65, hA73, (show 0 ≤ y114.toInt from (by first | with_reducible exact q_fe b126 | (have t1 : 0 ≤ y114.toInt := b126; omega))), (show y114.toInt ≤ 1 from (by first | with_reducible exact q_fe b127 | (have t1 : y114.toInt ≤ 0 := b127; omega))), (show t0_2.toInt ≤ y113.toInt from (by first | with_reducible exact q_fe b124 | (have t1 : t0_2.toInt ≤ y113.toInt := b124; omega))), (show y113.toInt ≤ t0_2.toInt from (by first | with_reducible exact q_fe b125 | (have t1 : y113.toInt ≤ t0_2.toInt := b125; omega))), (show t0_4.toInt ≤ y115.toInt from (by first | with_reducible exact q_fe b128 | (have t1 : t0_4.toInt ≤ y115.toInt := b128; omega))), (show y115.toInt ≤ t0_4.toInt from (by first | with_reducible exact q_fe b129 | (have t1 : y115.toInt ≤ t0_4.toInt := b129; omega))), (show t0_5.toInt ≤ y116.toInt from (by first | with_reducible exact q_fe b130 | (have t1 : t0_5.toInt ≤ y116.toInt := b130; omega))), (show y116.toInt ≤ t0_5.toInt from (by first | with_reducible exact q_fe b131 | (have t1 : y116.toInt ≤ t0_5.toInt := b131; omega))), (show t0_6.toInt ≤ y117.toInt from (by first | with_reducible exact q_fe b132 | (have t1 : t0_6.toInt ≤ y117.toInt := b132; omega))), (show y117.toInt ≤ t0_6.toInt from (by first | with_reducible exact q_fe b133 | (have t1 : y117.toInt ≤ t0_6.toInt := b133; omega))), (show (y111, y112, y113, y114, y115, y116, y117, f118, f120, f82, f80, f64, f72) = (F_WR_multiply x2 x3 x4 t0_0 t0_1 t0_2 t0_3 t0_4 t0_5 t0_6 t1_0 t2_0 t3_0 t4_0 t5_0 t6_0) from Eq.trans (by rw [e146, e145, e144, e143, e142, e141, e140, e139, e138, F_WR_multiply_c103.eq_1]) hR147)⟩) d_19_23_106
      ·
        refine lv_iconst (v := 1) hx hb d_19_23_93 (by decide) ?_
        refine lv_goto (tgt := 98) hx hb d_19_23_94 (by decide) ?_
        refine q_put (ci := 13) (j := 7) (v := .int 1) (ty := .boolean) C0 V i_WR o_WR n_WR rfl rfl hT0 (by decide) w_1931 rfl rfl rfl rfl (Nat.le_of_ble_eq_true rfl) d_19_23_98 (fun H locs w153 hu154 hT0 V => ?_)
        replace hT0 : w153[119]? = (some (q 119, .inr (13, [.int lx39, .int 2, .ref (q 120), .int t0_2, .ref (q 121), .ref (q 122), .ref (q 123), .int 1, .ref (q 124), .ref (q 125), .ref (q 126), .ref (q 127), .ref (q 128), .ref (q 129), .ref (q 130), .ref (q 131), .int t0_4, .int t0_5, .ref (q 132), .ref (q 133), .int t0_6])) : Option (Nat × va_E)) := hT0
        replace hI := n_p119 hI hu154 hT0 (by first | with_reducible exact q_fe btt0_2 | exact ⟨(by have t1 : 0 ≤ t0_2.toInt ∧ t0_2.toInt ≤ 4100 := btt0_2; omega), (by have t1 : 0 ≤ t0_2.toInt ∧ t0_2.toInt ≤ 4100 := btt0_2; omega)⟩) ⟨(by have z9 : (1 : Int32).toInt = 1 := rfl; omega), (by have z9 : (1 : Int32).toInt = 1 := rfl; omega)⟩ (by first | with_reducible exact q_fe btt0_4 | exact ⟨(by have t1 : 0 ≤ t0_4.toInt ∧ t0_4.toInt ≤ 1 := btt0_4; omega), (by have t1 : 0 ≤ t0_4.toInt ∧ t0_4.toInt ≤ 1 := btt0_4; omega)⟩) (by first | with_reducible exact q_fe btt0_5 | exact ⟨(by have t1 : 0 ≤ t0_5.toInt ∧ t0_5.toInt ≤ 1 := btt0_5; omega), (by have t1 : 0 ≤ t0_5.toInt ∧ t0_5.toInt ≤ 1 := btt0_5; omega)⟩) (by first | with_reducible exact q_fe btt0_6 | exact ⟨(by have t1 : 0 ≤ t0_6.toInt ∧ t0_6.toInt ≤ 2100 := btt0_6; omega), (by have t1 : 0 ≤ t0_6.toInt ∧ t0_6.toInt ≤ 2100 := btt0_6; omega)⟩)
        replace hT1 := (hu154 _ (by decide)).trans hT1
        replace hT2 := (hu154 _ (by decide)).trans hT2
        replace hA83 := (hu154 _ (by decide)).trans hA83
        replace hA81 := (hu154 _ (by decide)).trans hA81
        replace hA65 := (hu154 _ (by decide)).trans hA65
        replace hA73 := (hu154 _ (by decide)).trans hA73
        replace hF := q_us hF hu154 (by simp)
        refine lv_aload_n hx hb d_19_23_101 rfl (lv_at hl 0 rfl) ?_
        refine lv_iload_n hx hb d_19_23_102 rfl (lv_at hl 3 rfl) ?_
        have ob155 : True ∧ S_WR_store x4 lx39 (2 : Int32) t0_2 (1 : Int32) t0_4 t0_5 t0_6 t1_0 t2_0 f82 := (by rw [e89]; have h := hS91; rw [S_WR_multiply_c74.eq_1] at h; replace h := q_s2 h; replace h := q_s2 h; replace h := q_s2 h; replace h := q_s2 h; have c103x := c103; rw [← e102, ← e98] at c103x; rw [if_neg c103x] at h; with_reducible exact h.2.1)
        refine q_gov V (q_runV (As := [.int x4]) (rest := []) (d := 2) (mc := 0) (ms := 0) (ci := 13) C0 V rfl LV_WR_103 (X_WR_store l D g q w153  x4 hI lx39 2 t0_2 1 t0_4 t0_5 t0_6 hT0 t1_0 hT1 t2_0 hT2 f82 hA83 ob155 _) rfl rfl hT0 rfl hl.1 rfl (Nat.le_of_ble_eq_true rfl) ⟨by decide, by decide⟩ ⟨Nat.le_of_ble_eq_true rfl, Nat.le_of_ble_eq_true rfl⟩ d_19_23_103) (fun u156 H locs hp157 V => ?_)
        obtain ⟨hI, hZ9⟩ := hp157
        obtain ⟨hu183, hZ9⟩ := hZ9
        obtain ⟨y159, hZ9⟩ := hZ9
        obtain ⟨y160, hZ9⟩ := hZ9
        obtain ⟨y161, hZ9⟩ := hZ9
        obtain ⟨y162, hZ9⟩ := hZ9
        obtain ⟨y163, hZ9⟩ := hZ9
        obtain ⟨y164, hZ9⟩ := hZ9
        obtain ⟨y165, hZ9⟩ := hZ9
        obtain ⟨f166, hZ9⟩ := hZ9
        obtain ⟨f168, hZ9⟩ := hZ9
        obtain ⟨hO158, hZ9⟩ := hZ9
        obtain ⟨hA167, hZ9⟩ := hZ9
        obtain ⟨hA169, hZ9⟩ := hZ9
        replace hZ9 := hZ9.2.2
        obtain ⟨b172, hZ9⟩ := hZ9
        obtain ⟨b173, hZ9⟩ := hZ9
        obtain ⟨b174, hZ9⟩ := hZ9
        obtain ⟨b175, hZ9⟩ := hZ9
        obtain ⟨b176, hZ9⟩ := hZ9
        obtain ⟨b177, hZ9⟩ := hZ9
        obtain ⟨b178, hZ9⟩ := hZ9
        obtain ⟨b179, hZ9⟩ := hZ9
        obtain ⟨b180, hZ9⟩ := hZ9
        obtain ⟨b181, hE182⟩ := hZ9
        replace hO158 : u156[119]? = (some (q 119, .inr (13, [.int y159, .int y160, .ref (q 120), .int y161, .ref (q 121), .ref (q 122), .ref (q 123), .int y162, .ref (q 124), .ref (q 125), .ref (q 126), .ref (q 127), .ref (q 128), .ref (q 129), .ref (q 130), .ref (q 131), .int y163, .int y164, .ref (q 132), .ref (q 133), .int y165])) : Option (Nat × va_E)) := hO158
        replace hA167 : u156[121]? = (some (q 121, .inl (g 0, (1408 : Int32).toNatClampNeg, .inl f166)) : Option (Nat × va_E)) := hA167
        replace hA169 : u156[122]? = (some (q 122, .inl (g 3, 11, .inl f168)) : Option (Nat × va_E)) := hA169
        obtain ⟨p184, e185⟩ : ∃ z, z = (F_WR_store x4 lx39 (2 : Int32) t0_2 (1 : Int32) t0_4 t0_5 t0_6 t1_0 t2_0 f82) := ⟨_, rfl⟩
        have e186 : y159 = p184.1 := congrArg (fun z => z.1) (hE182.trans e185.symm)
        have e187 : y160 = p184.2.1 := congrArg (fun z => z.2.1) (hE182.trans e185.symm)
        have e188 : y161 = p184.2.2.1 := congrArg (fun z => z.2.2.1) (hE182.trans e185.symm)
        have e189 : y162 = p184.2.2.2.1 := congrArg (fun z => z.2.2.2.1) (hE182.trans e185.symm)
        have e190 : y163 = p184.2.2.2.2.1 := congrArg (fun z => z.2.2.2.2.1) (hE182.trans e185.symm)
        have e191 : y164 = p184.2.2.2.2.2.1 := congrArg (fun z => z.2.2.2.2.2.1) (hE182.trans e185.symm)
        have e192 : y165 = p184.2.2.2.2.2.2.1 := congrArg (fun z => z.2.2.2.2.2.2.1) (hE182.trans e185.symm)
        have e193 : f166 = p184.2.2.2.2.2.2.2.1 := congrArg (fun z => z.2.2.2.2.2.2.2.1) (hE182.trans e185.symm)
        have e194 : f168 = p184.2.2.2.2.2.2.2.2 := congrArg (fun z => z.2.2.2.2.2.2.2.2) (hE182.trans e185.symm)
        replace b172 : q_F (t0_2.toInt ≤ y161.toInt) := b172
        replace b173 : q_F (y161.toInt ≤ t0_2.toInt) := b173
        replace b174 : q_F (1 ≤ y162.toInt) := b174
        replace b175 : q_F (y162.toInt ≤ 1) := b175
        replace b176 : q_F (t0_4.toInt ≤ y163.toInt) := b176
        replace b177 : q_F (y163.toInt ≤ t0_4.toInt) := b177
        replace b178 : q_F (t0_5.toInt ≤ y164.toInt) := b178
        replace b179 : q_F (y164.toInt ≤ t0_5.toInt) := b179
        replace b180 : q_F (t0_6.toInt ≤ y165.toInt) := b180
        replace b181 : q_F (y165.toInt ≤ t0_6.toInt) := b181
        replace hA83 := (hu183 _ (by decide)).trans hA83
        replace hA81 := (hu183 _ (by decide)).trans hA81
        replace hA65 := (hu183 _ (by decide)).trans hA65
        replace hA73 := (hu183 _ (by decide)).trans hA73
        replace hF := q_uc hF hu183 (by simp)
        have hR195 := (show F_WR_multiply_c103_4 x2 x3 x4 t0_0 t0_1 t0_2 t0_3 t0_4 t0_5 t0_6 t1_0 t2_0 t3_0 t4_0 t5_0 t6_0 lx39 f64 f72 p86 f82 f80 p184 = (F_WR_multiply x2 x3 x4 t0_0 t0_1 t0_2 t0_3 t0_4 t0_5 t0_6 t1_0 t2_0 t3_0 t4_0 t5_0 t6_0) from Eq.trans (by have c103x := c103; rw [← e102, ← e98] at c103x; rw [e185, e89, e88, F_WR_multiply_c74.eq_1, if_neg c103x]) hR90)
        have hS196 := (show True ∧ S_WR_multiply_c103_4 x2 x3 x4 t0_0 t0_1 t0_2 t0_3 t0_4 t0_5 t0_6 t1_0 t2_0 t3_0 t4_0 t5_0 t6_0 lx39 f64 f72 p86 f82 f80 p184 from (by rw [e185, e89, e88]; have h := hS91; rw [S_WR_multiply_c74.eq_1] at h; replace h := q_s2 h; replace h := q_s2 h; replace h := q_s2 h; replace h := q_s2 h; have c103x := c103; rw [← e102, ← e98] at c103x; rw [if_neg c103x] at h; replace h := q_s2 h; with_reducible exact h))
        exact q_retv C0 V (⟨hI, hF, y159, y160, y161, y162, y163, y164, y165, f166, f168, f82, f80, f64, f72, hO158, hA167, hA169, hA83, hA81, hA65, hA73, (show 0 ≤ y162.toInt from (by first | with_reducible exact q_fe b174 | (have t1 : 1 ≤ y162.toInt := b174; omega))), (show y162.toInt ≤ 1 from (by first | with_reducible exact q_fe b175 | (have t1 : y162.toInt ≤ 1 := b175; omega))), (show t0_2.toInt ≤ y161.toInt from (by first | with_reducible exact q_fe b172 | (have t1 : t0_2.toInt ≤ y161.toInt := b172; omega))), (show y161.toInt ≤ t0_2.toInt from (by first | with_reducible exact q_fe b173 | (have t1 : y161.toInt ≤ t0_2.toInt := b173; omega))), (show t0_4.toInt ≤ y163.toInt from (by first | with_reducible exact q_fe b176 | (have t1 : t0_4.toInt ≤ y163.toInt := b176; omega))), (show y163.toInt ≤ t0_4.toInt from (by first | with_reducible exact q_fe b177 | (have t1 : y163.toInt ≤ t0_4.toInt := b177; omega))), (show t0_5.toInt ≤ y164.toInt from (by first | with_reducible exact q_fe b178 | (have t1 : t0_5.toInt ≤ y164.toInt := b178; omega))), (show y164.toInt ≤ t0_5.toInt from (by first | with_reducible exact q_fe b179 | (have t1 : y164.toInt ≤ t0_5.toInt := b179; omega))), (show t0_6.toInt ≤ y165.toInt from (by first | with_reducible exact q_fe b180 | (have t1 : t0_6.toInt ≤ y165.toInt := b180; omega))), (show y165.toInt ≤ t0_6.toInt from (by first | with_reducible exact q_fe b181 | (have t1 : y165.toInt ≤ t0_6.toInt := b181; omega))), (show (y159, y160, y161, y162, y163, y164, y165, f166, f168, f82, f80, f64, f72) = (F_WR_multiply x2 x3 x4 t0_0 t0_1 t0_2 t0_3 t0_4 t0_5 t0_6 t1_0 t2_0 t3_0 t4_0 t5_0 t6_0) from Eq.trans (by rw [e194, e193, e192, e191, e190, e189, e188, e187, e186, F_WR_multiply_c103_4.eq_1]) hR195)⟩) d_19_23_106
    ·
      exact q_retv C0 V (⟨hI, hF, lx39, t0_1, t0_2, t0_3, t0_4, t0_5, t0_6, t1_0, t2_0, t3_0, t4_0, t5_0, t6_0, hT0, hT1, hT2, hT3, hT4, hT5, hT6, (show 0 ≤ t0_3.toInt from (by first | with_reducible exact (q_fe btt0_3).2 | with_reducible exact (q_fe btt0_3).1 | (have t1 : 0 ≤ t0_3.toInt ∧ t0_3.toInt ≤ 1 := btt0_3; omega))), (show t0_3.toInt ≤ 1 from (by first | with_reducible exact (q_fe btt0_3).2 | with_reducible exact (q_fe btt0_3).1 | (have t1 : 0 ≤ t0_3.toInt ∧ t0_3.toInt ≤ 1 := btt0_3; omega))), (show t0_2.toInt ≤ t0_2.toInt from (by omega)), (show t0_2.toInt ≤ t0_2.toInt from (by omega)), (show t0_4.toInt ≤ t0_4.toInt from (by omega)), (show t0_4.toInt ≤ t0_4.toInt from (by omega)), (show t0_5.toInt ≤ t0_5.toInt from (by omega)), (show t0_5.toInt ≤ t0_5.toInt from (by omega)), (show t0_6.toInt ≤ t0_6.toInt from (by omega)), (show t0_6.toInt ≤ t0_6.toInt from (by omega)), (show (lx39, t0_1, t0_2, t0_3, t0_4, t0_5, t0_6, t1_0, t2_0, t3_0, t4_0, t5_0, t6_0) = (F_WR_multiply x2 x3 x4 t0_0 t0_1 t0_2 t0_3 t0_4 t0_5 t0_6 t1_0 t2_0 t3_0 t4_0 t5_0 t6_0) from Eq.trans (by rw [F_WR_multiply_J27.eq_1, if_neg c57]) hR50)⟩) d_19_23_37
  ·
    intro J47
    refine q_join (X := Unit) (fun z H locs ls _ => q_Wd D g (va_A ws sz) s ws H locs ∧ lv_has ls 4 [(0, .ref (q 119)), (1, .int x2), (2, .int x3), (3, .int x4)] ∧ F_WR_multiply_J22 x2 x3 x4 t0_0 t0_1 t0_2 t0_3 t0_4 t0_5 t0_6 t1_0 t2_0 t3_0 t4_0 t5_0 t6_0 = (F_WR_multiply x2 x3 x4 t0_0 t0_1 t0_2 t0_3 t0_4 t0_5 t0_6 t1_0 t2_0 t3_0 t4_0 t5_0 t6_0) ∧ True ∧ S_WR_multiply_J22 x2 x3 x4 t0_0 t0_1 t0_2 t0_3 t0_4 t0_5 t0_6 t1_0 t2_0 t3_0 t4_0 t5_0 t6_0) (fun z => [.ref (q 119)]) 22 0 0 ?_ ?_
    ·
      rintro _ H locs ls _ ⟨V, hl, hR209, hS210⟩
      replace hl : lv_has ls 4 [(0, .ref (q 119)), (1, .int x2), (2, .int x3), (3, .int x4)] := hl
      refine lv_iconst (v := 1) hx hb d_19_23_22 (by decide) ?_
      refine lv_goto (tgt := 27) hx hb d_19_23_23 (by decide) ?_
      exact J47 ((1 : Int32)) _ _ _ ws ⟨(show q_F (0 ≤ 1) from (show 0 ≤ 1 from by omega)), (show q_F (1 ≤ 1) from (show 1 ≤ 1 from by omega)), V, q_lw hl (q_lw1 0 rfl (q_lw1 1 rfl (q_lw1 2 rfl (q_lw1 3 rfl q_lw0)))), (show F_WR_multiply_J27 x2 x3 x4 t0_0 t0_1 t0_2 t0_3 t0_4 t0_5 t0_6 t1_0 t2_0 t3_0 t4_0 t5_0 t6_0 1 = (F_WR_multiply x2 x3 x4 t0_0 t0_1 t0_2 t0_3 t0_4 t0_5 t0_6 t1_0 t2_0 t3_0 t4_0 t5_0 t6_0) from Eq.trans (by rw [F_WR_multiply_J22.eq_1]) hR209), (show True ∧ S_WR_multiply_J27 x2 x3 x4 t0_0 t0_1 t0_2 t0_3 t0_4 t0_5 t0_6 t1_0 t2_0 t3_0 t4_0 t5_0 t6_0 1 from (by have h := hS210; rw [S_WR_multiply_J22.eq_1] at h; with_reducible exact h))⟩
    ·
      intro J208
      refine lv_if_ne (tgt := 22) hx hb d_19_23_5 (by decide) (fun c214 => ?_) (fun c214 => ?_)
      ·
        exact J208 (()) _ _ _ ws ⟨V, q_lw hl (q_lw1 0 rfl (q_lw1 1 rfl (q_lw1 2 rfl (q_lw1 3 rfl q_lw0)))), (show F_WR_multiply_J22 x2 x3 x4 t0_0 t0_1 t0_2 t0_3 t0_4 t0_5 t0_6 t1_0 t2_0 t3_0 t4_0 t5_0 t6_0 = (F_WR_multiply x2 x3 x4 t0_0 t0_1 t0_2 t0_3 t0_4 t0_5 t0_6 t1_0 t2_0 t3_0 t4_0 t5_0 t6_0) from (by have c214x := c214; rw [e38] at c214x; rw [F_WR_multiply.eq_1, if_neg c214x])), (show True ∧ S_WR_multiply_J22 x2 x3 x4 t0_0 t0_1 t0_2 t0_3 t0_4 t0_5 t0_6 t1_0 t2_0 t3_0 t4_0 t5_0 t6_0 from (by have h := hS; rw [S_WR_multiply.eq_1] at h; have c214x := c214; rw [e38] at c214x; rw [if_neg c214x] at h; with_reducible exact h))⟩
      ·
        refine lv_iload_n hx hb d_19_23_8 rfl (lv_at hl 2 rfl) ?_
        refine q_goi V (q_runS (As := [.int x3]) (rest := [.ref (q 119)]) (d := 1) (mc := 0) (ms := 0) C0 V rfl LS_WR_91 (X_WR_no l D g q ws  x3 hI   _) rfl hl.1 rfl (Nat.le_of_ble_eq_true rfl) ⟨by decide, by decide⟩ ⟨Nat.le_of_ble_eq_true rfl, Nat.le_of_ble_eq_true rfl⟩ d_19_23_9) (fun a219 u217 H locs hp218 V => ?_)
        obtain ⟨rfl, b220, b221, hE222⟩ := hp218
        have e223 : a219 = (F_WR_no x3) := hE222
        clear b220
        clear b221
        refine lv_if_ne (tgt := 22) hx hb d_19_23_12 (by decide) (fun c224 => ?_) (fun c224 => ?_)
        ·
          exact J208 (()) _ _ _ ws ⟨V, q_lw hl (q_lw1 0 rfl (q_lw1 1 rfl (q_lw1 2 rfl (q_lw1 3 rfl q_lw0)))), (show F_WR_multiply_J22 x2 x3 x4 t0_0 t0_1 t0_2 t0_3 t0_4 t0_5 t0_6 t1_0 t2_0 t3_0 t4_0 t5_0 t6_0 = (F_WR_multiply x2 x3 x4 t0_0 t0_1 t0_2 t0_3 t0_4 t0_5 t0_6 t1_0 t2_0 t3_0 t4_0 t5_0 t6_0) from (by have c214x := c214; rw [e38] at c214x; have c224x := c224; rw [e223] at c224x; rw [F_WR_multiply.eq_1, if_pos c214x, if_neg c224x])), (show True ∧ S_WR_multiply_J22 x2 x3 x4 t0_0 t0_1 t0_2 t0_3 t0_4 t0_5 t0_6 t1_0 t2_0 t3_0 t4_0 t5_0 t6_0 from (by have h := hS; rw [S_WR_multiply.eq_1] at h; have c214x := c214; rw [e38] at c214x; rw [if_pos c214x] at h; have c224x := c224; rw [e223] at c224x; rw [if_neg c224x] at h; with_reducible exact h))⟩
        ·
          refine lv_iload_n hx hb d_19_23_15 rfl (lv_at hl 3 rfl) ?_
          refine q_goi V (q_runS (As := [.int x4]) (rest := [.ref (q 119)]) (d := 1) (mc := 0) (ms := 0) C0 V rfl LS_WR_91 (X_WR_no l D g q ws  x4 hI   _) rfl hl.1 rfl (Nat.le_of_ble_eq_true rfl) ⟨by decide, by decide⟩ ⟨Nat.le_of_ble_eq_true rfl, Nat.le_of_ble_eq_true rfl⟩ d_19_23_16) (fun a229 u227 H locs hp228 V => ?_)
          obtain ⟨rfl, b230, b231, hE232⟩ := hp228
          have e233 : a229 = (F_WR_no x4) := hE232
          clear b230
          clear b231
          refine lv_if_eq (tgt := 26) hx hb d_19_23_19 (by decide) (fun c234 => ?_) (fun c234 => ?_)
          ·
            refine lv_iconst (v := 0) hx hb d_19_23_26 (by decide) ?_
            exact J47 ((0 : Int32)) _ _ _ ws ⟨(show q_F (0 ≤ 0) from (show 0 ≤ 0 from by omega)), (show q_F (0 ≤ 1) from (show 0 ≤ 1 from by omega)), V, q_lw hl (q_lw1 0 rfl (q_lw1 1 rfl (q_lw1 2 rfl (q_lw1 3 rfl q_lw0)))), (show F_WR_multiply_J27 x2 x3 x4 t0_0 t0_1 t0_2 t0_3 t0_4 t0_5 t0_6 t1_0 t2_0 t3_0 t4_0 t5_0 t6_0 0 = (F_WR_multiply x2 x3 x4 t0_0 t0_1 t0_2 t0_3 t0_4 t0_5 t0_6 t1_0 t2_0 t3_0 t4_0 t5_0 t6_0) from (by have c214x := c214; rw [e38] at c214x; have c224x := c224; rw [e223] at c224x; have c234x := c234; rw [e233] at c234x; rw [F_WR_multiply.eq_1, if_pos c214x, if_pos c224x, if_pos c234x])), (show True ∧ S_WR_multiply_J27 x2 x3 x4 t0_0 t0_1 t0_2 t0_3 t0_4 t0_5 t0_6 t1_0 t2_0 t3_0 t4_0 t5_0 t6_0 0 from (by have h := hS; rw [S_WR_multiply.eq_1] at h; have c214x := c214; rw [e38] at c214x; rw [if_pos c214x] at h; have c224x := c224; rw [e223] at c224x; rw [if_pos c224x] at h; have c234x := c234; rw [e233] at c234x; rw [if_pos c234x] at h; with_reducible exact h))⟩
          ·
            exact J208 (()) _ _ _ ws ⟨V, q_lw hl (q_lw1 0 rfl (q_lw1 1 rfl (q_lw1 2 rfl (q_lw1 3 rfl q_lw0)))), (show F_WR_multiply_J22 x2 x3 x4 t0_0 t0_1 t0_2 t0_3 t0_4 t0_5 t0_6 t1_0 t2_0 t3_0 t4_0 t5_0 t6_0 = (F_WR_multiply x2 x3 x4 t0_0 t0_1 t0_2 t0_3 t0_4 t0_5 t0_6 t1_0 t2_0 t3_0 t4_0 t5_0 t6_0) from (by have c214x := c214; rw [e38] at c214x; have c224x := c224; rw [e223] at c224x; have c234x := c234; rw [e233] at c234x; rw [F_WR_multiply.eq_1, if_pos c214x, if_pos c224x, if_neg c234x])), (show True ∧ S_WR_multiply_J22 x2 x3 x4 t0_0 t0_1 t0_2 t0_3 t0_4 t0_5 t0_6 t1_0 t2_0 t3_0 t4_0 t5_0 t6_0 from (by have h := hS; rw [S_WR_multiply.eq_1] at h; have c214x := c214; rw [e38] at c214x; rw [if_pos c214x] at h; have c224x := c224; rw [e223] at c224x; rw [if_pos c224x] at h; have c234x := c234; rw [e233] at c234x; rw [if_neg c234x] at h; with_reducible exact h))⟩
theorem d_19_24_0 : decode prog_19_method_24_code 0 = .ok (.aload_n 0, 1) := by decide +kernel
theorem d_19_24_1 : decode prog_19_method_24_code 1 = .ok (.iload_n 1, 1) := by decide +kernel
theorem d_19_24_2 : decode prog_19_method_24_code 2 = .ok (.invokestatic 91, 3) := by decide +kernel
theorem d_19_24_47 : decode prog_19_method_24_code 47 = .ok (.putfield 53, 3) := by decide +kernel
theorem d_19_24_50 : decode prog_19_method_24_code 50 = .ok (.aload_n 0, 1) := by decide +kernel
theorem d_19_24_51 : decode prog_19_method_24_code 51 = .ok (.getfield 53, 3) := by decide +kernel
theorem d_19_24_54 : decode prog_19_method_24_code 54 = .ok (.ifCond .le 4, 3) := by decide +kernel
theorem d_19_24_58 : decode prog_19_method_24_code 58 = .ok (.aload_n 0, 1) := by decide +kernel
theorem d_19_24_59 : decode prog_19_method_24_code 59 = .ok (.iload_n 1, 1) := by decide +kernel
theorem d_19_24_60 : decode prog_19_method_24_code 60 = .ok (.aload_n 0, 1) := by decide +kernel
theorem d_19_24_61 : decode prog_19_method_24_code 61 = .ok (.getfield 35, 3) := by decide +kernel
theorem d_19_24_64 : decode prog_19_method_24_code 64 = .ok (.invokevirtual 107, 3) := by decide +kernel
theorem d_19_24_67 : decode prog_19_method_24_code 67 = .ok (.aload_n 0, 1) := by decide +kernel
theorem d_19_24_68 : decode prog_19_method_24_code 68 = .ok (.iload_n 2, 1) := by decide +kernel
theorem d_19_24_69 : decode prog_19_method_24_code 69 = .ok (.aload_n 0, 1) := by decide +kernel
theorem d_19_24_70 : decode prog_19_method_24_code 70 = .ok (.getfield 38, 3) := by decide +kernel
theorem d_19_24_73 : decode prog_19_method_24_code 73 = .ok (.invokevirtual 107, 3) := by decide +kernel
theorem d_19_24_76 : decode prog_19_method_24_code 76 = .ok (.aload_n 0, 1) := by decide +kernel
theorem d_19_24_77 : decode prog_19_method_24_code 77 = .ok (.getfield 16, 3) := by decide +kernel
theorem d_19_24_80 : decode prog_19_method_24_code 80 = .ok (.iload_n 1, 1) := by decide +kernel
theorem d_19_24_81 : decode prog_19_method_24_code 81 = .ok (.baload, 1) := by decide +kernel
theorem d_19_24_82 : decode prog_19_method_24_code 82 = .ok (.istore 5, 2) := by decide +kernel
theorem d_19_24_84 : decode prog_19_method_24_code 84 = .ok (.aload_n 0, 1) := by decide +kernel
theorem d_19_24_85 : decode prog_19_method_24_code 85 = .ok (.getfield 16, 3) := by decide +kernel
theorem d_19_24_88 : decode prog_19_method_24_code 88 = .ok (.iload_n 1, 1) := by decide +kernel
theorem d_19_24_89 : decode prog_19_method_24_code 89 = .ok (.baload, 1) := by decide +kernel
theorem d_19_24_90 : decode prog_19_method_24_code 90 = .ok (.aload_n 0, 1) := by decide +kernel
theorem d_19_24_91 : decode prog_19_method_24_code 91 = .ok (.getfield 16, 3) := by decide +kernel
theorem d_19_24_94 : decode prog_19_method_24_code 94 = .ok (.iload_n 2, 1) := by decide +kernel
theorem d_19_24_95 : decode prog_19_method_24_code 95 = .ok (.baload, 1) := by decide +kernel
theorem d_19_24_104 : decode prog_19_method_24_code 104 = .ok (.istore 6, 2) := by decide +kernel
theorem d_19_24_106 : decode prog_19_method_24_code 106 = .ok (.aload_n 0, 1) := by decide +kernel
theorem d_19_24_107 : decode prog_19_method_24_code 107 = .ok (.aload_n 0, 1) := by decide +kernel
theorem d_19_24_108 : decode prog_19_method_24_code 108 = .ok (.getfield 35, 3) := by decide +kernel
theorem d_19_24_111 : decode prog_19_method_24_code 111 = .ok (.aload_n 0, 1) := by decide +kernel
theorem d_19_24_112 : decode prog_19_method_24_code 112 = .ok (.getfield 38, 3) := by decide +kernel
theorem d_19_24_115 : decode prog_19_method_24_code 115 = .ok (.invokevirtual 122, 3) := by decide +kernel
set_option maxRecDepth 100000 in
theorem w_2711 : (Cond.code ({ cls := "NumberHouseModel$WholeRows", name := "divideRows", desc := "([I[I)V" } : MethodName) prog_19_method_14_code (13 : Nat) (none : Option ClassFile.FieldType)) ∈ q_tbl := q_of12 71 rfl (by decide +kernel)
set_option maxRecDepth 100000 in
theorem w_2708 : (Cond.methodLink "NumberHouseModel$WholeRows" (122 : Nat) ({ cls := "NumberHouseModel$WholeRows", name := "divideRows", desc := "([I[I)V" } : MethodName)) ∈ q_tbl := q_of12 68 rfl (by decide +kernel)
set_option maxRecDepth 100000 in
theorem w_2710 : (Cond.instanceMethod ({ cls := "NumberHouseModel$WholeRows", name := "divideRows", desc := "([I[I)V" } : MethodName)) ∈ q_tbl := q_of12 70 rfl (by decide +kernel)
theorem ws_104 : Cond.selects "NumberHouseModel$WholeRows" (⟨"NumberHouseModel$WholeRows", "divideRows", "([I[I)V"⟩ : MethodName) (⟨"NumberHouseModel$WholeRows", "divideRows", "([I[I)V"⟩ : MethodName) ∈ q_tbl := q_ofs 104 (by decide +kernel) (by decide +kernel)
theorem LV_WR_122 : q_LV "NumberHouseModel$WholeRows" 122 y_WR_divideRows prog_19_method_14_code 13 none 2 := ⟨w_2711, w_15, w_2708, w_2710, ws_104, ⟨by decide, by decide, by decide +kernel⟩⟩
theorem d_19_24_118 : decode prog_19_method_24_code 118 = .ok (.aload_n 0, 1) := by decide +kernel
theorem d_19_24_119 : decode prog_19_method_24_code 119 = .ok (.getfield 32, 3) := by decide +kernel
theorem d_19_24_122 : decode prog_19_method_24_code 122 = .ok (.aload_n 0, 1) := by decide +kernel
theorem d_19_24_123 : decode prog_19_method_24_code 123 = .ok (.getfield 20, 3) := by decide +kernel
theorem d_19_24_126 : decode prog_19_method_24_code 126 = .ok (.invokestatic 67, 3) := by decide +kernel
theorem d_19_24_129 : decode prog_19_method_24_code 129 = .ok (.aload_n 0, 1) := by decide +kernel
theorem d_19_24_130 : decode prog_19_method_24_code 130 = .ok (.iload 6, 2) := by decide +kernel
theorem d_19_24_132 : decode prog_19_method_24_code 132 = .ok (.putfield 82, 3) := by decide +kernel
theorem d_19_24_135 : decode prog_19_method_24_code 135 = .ok (.aload_n 0, 1) := by decide +kernel
theorem d_19_24_136 : decode prog_19_method_24_code 136 = .ok (.iload_n 3, 1) := by decide +kernel
theorem d_19_24_137 : decode prog_19_method_24_code 137 = .ok (.invokevirtual 103, 3) := by decide +kernel
theorem d_19_24_140 : decode prog_19_method_24_code 140 = .ok (.aload_n 0, 1) := by decide +kernel
theorem d_19_24_141 : decode prog_19_method_24_code 141 = .ok (.getfield 29, 3) := by decide +kernel
theorem d_19_24_144 : decode prog_19_method_24_code 144 = .ok (.aload_n 0, 1) := by decide +kernel
theorem d_19_24_145 : decode prog_19_method_24_code 145 = .ok (.getfield 20, 3) := by decide +kernel
theorem d_19_24_148 : decode prog_19_method_24_code 148 = .ok (.invokestatic 67, 3) := by decide +kernel
theorem d_19_24_151 : decode prog_19_method_24_code 151 = .ok (.aload_n 0, 1) := by decide +kernel
theorem d_19_24_152 : decode prog_19_method_24_code 152 = .ok (.iload 5, 2) := by decide +kernel
theorem d_19_24_154 : decode prog_19_method_24_code 154 = .ok (.putfield 82, 3) := by decide +kernel
theorem d_19_24_157 : decode prog_19_method_24_code 157 = .ok (.aload_n 0, 1) := by decide +kernel
theorem d_19_24_158 : decode prog_19_method_24_code 158 = .ok (.iload 4, 2) := by decide +kernel
theorem d_19_24_160 : decode prog_19_method_24_code 160 = .ok (.invokevirtual 103, 3) := by decide +kernel
theorem d_19_24_163 : decode prog_19_method_24_code 163 = .ok (.return_, 1) := by decide +kernel
theorem d_19_24_96 : decode prog_19_method_24_code 96 = .ok (.if_icmp .eq 7, 3) := by decide +kernel
theorem d_19_24_103 : decode prog_19_method_24_code 103 = .ok (.iconst 0, 1) := by decide +kernel
theorem d_19_24_99 : decode prog_19_method_24_code 99 = .ok (.iconst 1, 1) := by decide +kernel
theorem d_19_24_100 : decode prog_19_method_24_code 100 = .ok (.goto 4, 3) := by decide +kernel
theorem d_19_24_57 : decode prog_19_method_24_code 57 = .ok (.return_, 1) := by decide +kernel
theorem d_19_24_30 : decode prog_19_method_24_code 30 = .ok (.iconst 1, 1) := by decide +kernel
theorem d_19_24_31 : decode prog_19_method_24_code 31 = .ok (.goto 16, 3) := by decide +kernel
theorem d_19_24_5 : decode prog_19_method_24_code 5 = .ok (.ifCond .ne 25, 3) := by decide +kernel
theorem d_19_24_8 : decode prog_19_method_24_code 8 = .ok (.iload_n 2, 1) := by decide +kernel
theorem d_19_24_9 : decode prog_19_method_24_code 9 = .ok (.invokestatic 91, 3) := by decide +kernel
theorem d_19_24_12 : decode prog_19_method_24_code 12 = .ok (.ifCond .ne 18, 3) := by decide +kernel
theorem d_19_24_15 : decode prog_19_method_24_code 15 = .ok (.iload_n 3, 1) := by decide +kernel
theorem d_19_24_16 : decode prog_19_method_24_code 16 = .ok (.invokestatic 91, 3) := by decide +kernel
theorem d_19_24_19 : decode prog_19_method_24_code 19 = .ok (.ifCond .ne 11, 3) := by decide +kernel
theorem d_19_24_22 : decode prog_19_method_24_code 22 = .ok (.iload 4, 2) := by decide +kernel
theorem d_19_24_24 : decode prog_19_method_24_code 24 = .ok (.invokestatic 91, 3) := by decide +kernel
theorem d_19_24_27 : decode prog_19_method_24_code 27 = .ok (.ifCond .eq 7, 3) := by decide +kernel
theorem d_19_24_34 : decode prog_19_method_24_code 34 = .ok (.aload_n 0, 1) := by decide +kernel
theorem d_19_24_35 : decode prog_19_method_24_code 35 = .ok (.iload_n 2, 1) := by decide +kernel
theorem d_19_24_36 : decode prog_19_method_24_code 36 = .ok (.invokevirtual 119, 3) := by decide +kernel
theorem d_19_24_39 : decode prog_19_method_24_code 39 = .ok (.ifCond .eq 7, 3) := by decide +kernel
theorem d_19_24_46 : decode prog_19_method_24_code 46 = .ok (.iconst 0, 1) := by decide +kernel
theorem d_19_24_42 : decode prog_19_method_24_code 42 = .ok (.iconst 2, 1) := by decide +kernel
theorem d_19_24_43 : decode prog_19_method_24_code 43 = .ok (.goto 4, 3) := by decide +kernel
def y_WR_divide : MethodName := ⟨"NumberHouseModel$WholeRows", "divide", "(IIII)V"⟩
def F_WR_divide_c160 (x2 : Int32) (x3 : Int32) (x4 : Int32) (x5 : Int32) (t0_0 : Int32) (t0_1 : Int32) (t0_2 : Int32) (t0_3 : Int32) (t0_4 : Int32) (t0_5 : Int32) (t0_6 : Int32) (t1_0 : (Nat → Int32)) (t2_0 : (Nat → Int32)) (t3_0 : (Nat → Int32)) (t4_0 : (Nat → Int32)) (t5_0 : (Nat → Int32)) (t6_0 : (Nat → Int32)) (t7_0 : (Nat → Int32)) (lx42 : Int32) (a81 : Int32) (f66 : (Nat → Int32)) (f74 : (Nat → Int32)) (lx89 : Int32) (p115 : ((Nat → Int32) × (Nat → Int32))) (f126 : (Nat → Int32)) (f109 : (Nat → Int32)) (f111 : (Nat → Int32)) (p162 : (Int32 × Int32 × Int32 × Int32 × Int32 × Int32 × Int32 × (Nat → Int32) × (Nat → Int32))) (f180 : (Nat → Int32)) (p218 : (Int32 × Int32 × Int32 × Int32 × Int32 × Int32 × Int32 × (Nat → Int32) × (Nat → Int32))) : Int32 × Int32 × Int32 × Int32 × Int32 × Int32 × Int32 × (Nat → Int32) × (Nat → Int32) × (Nat → Int32) × (Nat → Int32) × (Nat → Int32) × (Nat → Int32) × (Nat → Int32) := ((p218.1 : Int32), (p218.2.1 : Int32), (p218.2.2.1 : Int32), (p218.2.2.2.1 : Int32), (p218.2.2.2.2.1 : Int32), (p218.2.2.2.2.2.1 : Int32), (p218.2.2.2.2.2.2.1 : Int32), (p218.2.2.2.2.2.2.2.1 : (Nat → Int32)), (p218.2.2.2.2.2.2.2.2 : (Nat → Int32)), f180, f109, f111, f66, f74)
def F_WR_divide_c137 (x2 : Int32) (x3 : Int32) (x4 : Int32) (x5 : Int32) (t0_0 : Int32) (t0_1 : Int32) (t0_2 : Int32) (t0_3 : Int32) (t0_4 : Int32) (t0_5 : Int32) (t0_6 : Int32) (t1_0 : (Nat → Int32)) (t2_0 : (Nat → Int32)) (t3_0 : (Nat → Int32)) (t4_0 : (Nat → Int32)) (t5_0 : (Nat → Int32)) (t6_0 : (Nat → Int32)) (t7_0 : (Nat → Int32)) (lx42 : Int32) (a81 : Int32) (f66 : (Nat → Int32)) (f74 : (Nat → Int32)) (lx89 : Int32) (p115 : ((Nat → Int32) × (Nat → Int32))) (f126 : (Nat → Int32)) (f109 : (Nat → Int32)) (f111 : (Nat → Int32)) (p162 : (Int32 × Int32 × Int32 × Int32 × Int32 × Int32 × Int32 × (Nat → Int32) × (Nat → Int32))) : Int32 × Int32 × Int32 × Int32 × Int32 × Int32 × Int32 × (Nat → Int32) × (Nat → Int32) × (Nat → Int32) × (Nat → Int32) × (Nat → Int32) × (Nat → Int32) × (Nat → Int32) := F_WR_divide_c160 x2 x3 x4 x5 t0_0 t0_1 t0_2 t0_3 t0_4 t0_5 t0_6 t1_0 t2_0 t3_0 t4_0 t5_0 t6_0 t7_0 lx42 a81 f66 f74 lx89 p115 f126 f109 f111 p162 ((F_WR_copy (264 : Int32) (264 : Int32) f109 f126) : (Nat → Int32)) ((F_WR_store x5 (p162.1 : Int32) (p162.2.1 : Int32) (p162.2.2.1 : Int32) a81 (p162.2.2.2.2.1 : Int32) (p162.2.2.2.2.2.1 : Int32) (p162.2.2.2.2.2.2.1 : Int32) (p162.2.2.2.2.2.2.2.1 : (Nat → Int32)) (p162.2.2.2.2.2.2.2.2 : (Nat → Int32)) ((F_WR_copy (264 : Int32) (264 : Int32) f109 f126) : (Nat → Int32))) : (Int32 × Int32 × Int32 × Int32 × Int32 × Int32 × Int32 × (Nat → Int32) × (Nat → Int32)))
def F_WR_divide_c115 (x2 : Int32) (x3 : Int32) (x4 : Int32) (x5 : Int32) (t0_0 : Int32) (t0_1 : Int32) (t0_2 : Int32) (t0_3 : Int32) (t0_4 : Int32) (t0_5 : Int32) (t0_6 : Int32) (t1_0 : (Nat → Int32)) (t2_0 : (Nat → Int32)) (t3_0 : (Nat → Int32)) (t4_0 : (Nat → Int32)) (t5_0 : (Nat → Int32)) (t6_0 : (Nat → Int32)) (t7_0 : (Nat → Int32)) (lx42 : Int32) (a81 : Int32) (f66 : (Nat → Int32)) (f74 : (Nat → Int32)) (lx89 : Int32) (p115 : ((Nat → Int32) × (Nat → Int32))) : Int32 × Int32 × Int32 × Int32 × Int32 × Int32 × Int32 × (Nat → Int32) × (Nat → Int32) × (Nat → Int32) × (Nat → Int32) × (Nat → Int32) × (Nat → Int32) × (Nat → Int32) := F_WR_divide_c137 x2 x3 x4 x5 t0_0 t0_1 t0_2 t0_3 t0_4 t0_5 t0_6 t1_0 t2_0 t3_0 t4_0 t5_0 t6_0 t7_0 lx42 a81 f66 f74 lx89 p115 ((F_WR_copy (264 : Int32) (264 : Int32) (p115.2 : (Nat → Int32)) t3_0) : (Nat → Int32)) (p115.1 : (Nat → Int32)) (p115.2 : (Nat → Int32)) ((F_WR_store x4 lx42 t0_1 t0_2 lx89 t0_4 t0_5 t0_6 t1_0 t2_0 ((F_WR_copy (264 : Int32) (264 : Int32) (p115.2 : (Nat → Int32)) t3_0) : (Nat → Int32))) : (Int32 × Int32 × Int32 × Int32 × Int32 × Int32 × Int32 × (Nat → Int32) × (Nat → Int32)))
def F_WR_divide_J104 (x2 : Int32) (x3 : Int32) (x4 : Int32) (x5 : Int32) (t0_0 : Int32) (t0_1 : Int32) (t0_2 : Int32) (t0_3 : Int32) (t0_4 : Int32) (t0_5 : Int32) (t0_6 : Int32) (t1_0 : (Nat → Int32)) (t2_0 : (Nat → Int32)) (t3_0 : (Nat → Int32)) (t4_0 : (Nat → Int32)) (t5_0 : (Nat → Int32)) (t6_0 : (Nat → Int32)) (t7_0 : (Nat → Int32)) (lx42 : Int32) (a81 : Int32) (f66 : (Nat → Int32)) (f74 : (Nat → Int32)) (lx89 : Int32) : Int32 × Int32 × Int32 × Int32 × Int32 × Int32 × Int32 × (Nat → Int32) × (Nat → Int32) × (Nat → Int32) × (Nat → Int32) × (Nat → Int32) × (Nat → Int32) × (Nat → Int32) := F_WR_divide_c115 x2 x3 x4 x5 t0_0 t0_1 t0_2 t0_3 t0_4 t0_5 t0_6 t1_0 t2_0 t3_0 t4_0 t5_0 t6_0 t7_0 lx42 a81 f66 f74 lx89 ((F_WR_divideRows (264 : Int32) (264 : Int32) lx42 t0_1 t0_2 t0_3 t0_4 t0_5 t0_6 t4_0 t5_0 f66 f74) : ((Nat → Int32) × (Nat → Int32)))
def F_WR_divide_J47 (x2 : Int32) (x3 : Int32) (x4 : Int32) (x5 : Int32) (t0_0 : Int32) (t0_1 : Int32) (t0_2 : Int32) (t0_3 : Int32) (t0_4 : Int32) (t0_5 : Int32) (t0_6 : Int32) (t1_0 : (Nat → Int32)) (t2_0 : (Nat → Int32)) (t3_0 : (Nat → Int32)) (t4_0 : (Nat → Int32)) (t5_0 : (Nat → Int32)) (t6_0 : (Nat → Int32)) (t7_0 : (Nat → Int32)) (lx42 : Int32) : Int32 × Int32 × Int32 × Int32 × Int32 × Int32 × Int32 × (Nat → Int32) × (Nat → Int32) × (Nat → Int32) × (Nat → Int32) × (Nat → Int32) × (Nat → Int32) × (Nat → Int32) := if lx42 ≤ (0 : Int32) then (if (t2_0 x2.toNatClampNeg : Int32) = (t2_0 x3.toNatClampNeg : Int32) then (F_WR_divide_J104 x2 x3 x4 x5 t0_0 t0_1 t0_2 t0_3 t0_4 t0_5 t0_6 t1_0 t2_0 t3_0 t4_0 t5_0 t6_0 t7_0 lx42 (t2_0 x2.toNatClampNeg : Int32) ((F_WR_take x2 (264 : Int32) lx42 t0_1 t0_2 t0_3 t0_4 t0_5 t0_6 t1_0 t6_0) : (Nat → Int32)) ((F_WR_take x3 (264 : Int32) lx42 t0_1 t0_2 t0_3 t0_4 t0_5 t0_6 t1_0 t7_0) : (Nat → Int32)) 0) else (F_WR_divide_J104 x2 x3 x4 x5 t0_0 t0_1 t0_2 t0_3 t0_4 t0_5 t0_6 t1_0 t2_0 t3_0 t4_0 t5_0 t6_0 t7_0 lx42 (t2_0 x2.toNatClampNeg : Int32) ((F_WR_take x2 (264 : Int32) lx42 t0_1 t0_2 t0_3 t0_4 t0_5 t0_6 t1_0 t6_0) : (Nat → Int32)) ((F_WR_take x3 (264 : Int32) lx42 t0_1 t0_2 t0_3 t0_4 t0_5 t0_6 t1_0 t7_0) : (Nat → Int32)) 1)) else ((lx42, t0_1, t0_2, t0_3, t0_4, t0_5, t0_6, t1_0, t2_0, t3_0, t4_0, t5_0, t6_0, t7_0))
def F_WR_divide_J30 (x2 : Int32) (x3 : Int32) (x4 : Int32) (x5 : Int32) (t0_0 : Int32) (t0_1 : Int32) (t0_2 : Int32) (t0_3 : Int32) (t0_4 : Int32) (t0_5 : Int32) (t0_6 : Int32) (t1_0 : (Nat → Int32)) (t2_0 : (Nat → Int32)) (t3_0 : (Nat → Int32)) (t4_0 : (Nat → Int32)) (t5_0 : (Nat → Int32)) (t6_0 : (Nat → Int32)) (t7_0 : (Nat → Int32)) : Int32 × Int32 × Int32 × Int32 × Int32 × Int32 × Int32 × (Nat → Int32) × (Nat → Int32) × (Nat → Int32) × (Nat → Int32) × (Nat → Int32) × (Nat → Int32) × (Nat → Int32) := F_WR_divide_J47 x2 x3 x4 x5 t0_0 t0_1 t0_2 t0_3 t0_4 t0_5 t0_6 t1_0 t2_0 t3_0 t4_0 t5_0 t6_0 t7_0 1
def F_WR_divide (x2 : Int32) (x3 : Int32) (x4 : Int32) (x5 : Int32) (t0_0 : Int32) (t0_1 : Int32) (t0_2 : Int32) (t0_3 : Int32) (t0_4 : Int32) (t0_5 : Int32) (t0_6 : Int32) (t1_0 : (Nat → Int32)) (t2_0 : (Nat → Int32)) (t3_0 : (Nat → Int32)) (t4_0 : (Nat → Int32)) (t5_0 : (Nat → Int32)) (t6_0 : (Nat → Int32)) (t7_0 : (Nat → Int32)) : Int32 × Int32 × Int32 × Int32 × Int32 × Int32 × Int32 × (Nat → Int32) × (Nat → Int32) × (Nat → Int32) × (Nat → Int32) × (Nat → Int32) × (Nat → Int32) × (Nat → Int32) := if ((F_WR_no x2) : Int32) = (0 : Int32) then (if ((F_WR_no x3) : Int32) = (0 : Int32) then (if ((F_WR_no x4) : Int32) = (0 : Int32) then (if ((F_WR_no x5) : Int32) = (0 : Int32) then (if ((F_WR_isZero x3 t0_0 t0_1 t0_2 t0_3 t0_4 t0_5 t0_6 t1_0) : Int32) = (0 : Int32) then (F_WR_divide_J47 x2 x3 x4 x5 t0_0 t0_1 t0_2 t0_3 t0_4 t0_5 t0_6 t1_0 t2_0 t3_0 t4_0 t5_0 t6_0 t7_0 0) else (F_WR_divide_J47 x2 x3 x4 x5 t0_0 t0_1 t0_2 t0_3 t0_4 t0_5 t0_6 t1_0 t2_0 t3_0 t4_0 t5_0 t6_0 t7_0 2)) else (F_WR_divide_J30 x2 x3 x4 x5 t0_0 t0_1 t0_2 t0_3 t0_4 t0_5 t0_6 t1_0 t2_0 t3_0 t4_0 t5_0 t6_0 t7_0)) else (F_WR_divide_J30 x2 x3 x4 x5 t0_0 t0_1 t0_2 t0_3 t0_4 t0_5 t0_6 t1_0 t2_0 t3_0 t4_0 t5_0 t6_0 t7_0)) else (F_WR_divide_J30 x2 x3 x4 x5 t0_0 t0_1 t0_2 t0_3 t0_4 t0_5 t0_6 t1_0 t2_0 t3_0 t4_0 t5_0 t6_0 t7_0)) else (F_WR_divide_J30 x2 x3 x4 x5 t0_0 t0_1 t0_2 t0_3 t0_4 t0_5 t0_6 t1_0 t2_0 t3_0 t4_0 t5_0 t6_0 t7_0)
def S_WR_divide_c160 (x2 : Int32) (x3 : Int32) (x4 : Int32) (x5 : Int32) (t0_0 : Int32) (t0_1 : Int32) (t0_2 : Int32) (t0_3 : Int32) (t0_4 : Int32) (t0_5 : Int32) (t0_6 : Int32) (t1_0 : (Nat → Int32)) (t2_0 : (Nat → Int32)) (t3_0 : (Nat → Int32)) (t4_0 : (Nat → Int32)) (t5_0 : (Nat → Int32)) (t6_0 : (Nat → Int32)) (t7_0 : (Nat → Int32)) (lx42 : Int32) (a81 : Int32) (f66 : (Nat → Int32)) (f74 : (Nat → Int32)) (lx89 : Int32) (p115 : ((Nat → Int32) × (Nat → Int32))) (f126 : (Nat → Int32)) (f109 : (Nat → Int32)) (f111 : (Nat → Int32)) (p162 : (Int32 × Int32 × Int32 × Int32 × Int32 × Int32 × Int32 × (Nat → Int32) × (Nat → Int32))) (f180 : (Nat → Int32)) (p218 : (Int32 × Int32 × Int32 × Int32 × Int32 × Int32 × Int32 × (Nat → Int32) × (Nat → Int32))) : Prop := True
def S_WR_divide_c137 (x2 : Int32) (x3 : Int32) (x4 : Int32) (x5 : Int32) (t0_0 : Int32) (t0_1 : Int32) (t0_2 : Int32) (t0_3 : Int32) (t0_4 : Int32) (t0_5 : Int32) (t0_6 : Int32) (t1_0 : (Nat → Int32)) (t2_0 : (Nat → Int32)) (t3_0 : (Nat → Int32)) (t4_0 : (Nat → Int32)) (t5_0 : (Nat → Int32)) (t6_0 : (Nat → Int32)) (t7_0 : (Nat → Int32)) (lx42 : Int32) (a81 : Int32) (f66 : (Nat → Int32)) (f74 : (Nat → Int32)) (lx89 : Int32) (p115 : ((Nat → Int32) × (Nat → Int32))) (f126 : (Nat → Int32)) (f109 : (Nat → Int32)) (f111 : (Nat → Int32)) (p162 : (Int32 × Int32 × Int32 × Int32 × Int32 × Int32 × Int32 × (Nat → Int32) × (Nat → Int32))) : Prop := (0 ≤ a81.toInt) ∧ ((a81.toInt ≤ 1) ∧ ((True ∧ S_WR_store x5 (p162.1 : Int32) (p162.2.1 : Int32) (p162.2.2.1 : Int32) a81 (p162.2.2.2.2.1 : Int32) (p162.2.2.2.2.2.1 : Int32) (p162.2.2.2.2.2.2.1 : Int32) (p162.2.2.2.2.2.2.2.1 : (Nat → Int32)) (p162.2.2.2.2.2.2.2.2 : (Nat → Int32)) ((F_WR_copy (264 : Int32) (264 : Int32) f109 f126) : (Nat → Int32))) ∧ (S_WR_divide_c160 x2 x3 x4 x5 t0_0 t0_1 t0_2 t0_3 t0_4 t0_5 t0_6 t1_0 t2_0 t3_0 t4_0 t5_0 t6_0 t7_0 lx42 a81 f66 f74 lx89 p115 f126 f109 f111 p162 ((F_WR_copy (264 : Int32) (264 : Int32) f109 f126) : (Nat → Int32)) ((F_WR_store x5 (p162.1 : Int32) (p162.2.1 : Int32) (p162.2.2.1 : Int32) a81 (p162.2.2.2.2.1 : Int32) (p162.2.2.2.2.2.1 : Int32) (p162.2.2.2.2.2.2.1 : Int32) (p162.2.2.2.2.2.2.2.1 : (Nat → Int32)) (p162.2.2.2.2.2.2.2.2 : (Nat → Int32)) ((F_WR_copy (264 : Int32) (264 : Int32) f109 f126) : (Nat → Int32))) : (Int32 × Int32 × Int32 × Int32 × Int32 × Int32 × Int32 × (Nat → Int32) × (Nat → Int32))))))
def S_WR_divide_c115 (x2 : Int32) (x3 : Int32) (x4 : Int32) (x5 : Int32) (t0_0 : Int32) (t0_1 : Int32) (t0_2 : Int32) (t0_3 : Int32) (t0_4 : Int32) (t0_5 : Int32) (t0_6 : Int32) (t1_0 : (Nat → Int32)) (t2_0 : (Nat → Int32)) (t3_0 : (Nat → Int32)) (t4_0 : (Nat → Int32)) (t5_0 : (Nat → Int32)) (t6_0 : (Nat → Int32)) (t7_0 : (Nat → Int32)) (lx42 : Int32) (a81 : Int32) (f66 : (Nat → Int32)) (f74 : (Nat → Int32)) (lx89 : Int32) (p115 : ((Nat → Int32) × (Nat → Int32))) : Prop := (True ∧ S_WR_store x4 lx42 t0_1 t0_2 lx89 t0_4 t0_5 t0_6 t1_0 t2_0 ((F_WR_copy (264 : Int32) (264 : Int32) (p115.2 : (Nat → Int32)) t3_0) : (Nat → Int32))) ∧ (S_WR_divide_c137 x2 x3 x4 x5 t0_0 t0_1 t0_2 t0_3 t0_4 t0_5 t0_6 t1_0 t2_0 t3_0 t4_0 t5_0 t6_0 t7_0 lx42 a81 f66 f74 lx89 p115 ((F_WR_copy (264 : Int32) (264 : Int32) (p115.2 : (Nat → Int32)) t3_0) : (Nat → Int32)) (p115.1 : (Nat → Int32)) (p115.2 : (Nat → Int32)) ((F_WR_store x4 lx42 t0_1 t0_2 lx89 t0_4 t0_5 t0_6 t1_0 t2_0 ((F_WR_copy (264 : Int32) (264 : Int32) (p115.2 : (Nat → Int32)) t3_0) : (Nat → Int32))) : (Int32 × Int32 × Int32 × Int32 × Int32 × Int32 × Int32 × (Nat → Int32) × (Nat → Int32))))
def S_WR_divide_J104 (x2 : Int32) (x3 : Int32) (x4 : Int32) (x5 : Int32) (t0_0 : Int32) (t0_1 : Int32) (t0_2 : Int32) (t0_3 : Int32) (t0_4 : Int32) (t0_5 : Int32) (t0_6 : Int32) (t1_0 : (Nat → Int32)) (t2_0 : (Nat → Int32)) (t3_0 : (Nat → Int32)) (t4_0 : (Nat → Int32)) (t5_0 : (Nat → Int32)) (t6_0 : (Nat → Int32)) (t7_0 : (Nat → Int32)) (lx42 : Int32) (a81 : Int32) (f66 : (Nat → Int32)) (f74 : (Nat → Int32)) (lx89 : Int32) : Prop := (True ∧ S_WR_divideRows (264 : Int32) (264 : Int32) lx42 t0_1 t0_2 t0_3 t0_4 t0_5 t0_6 t4_0 t5_0 f66 f74) ∧ (S_WR_divide_c115 x2 x3 x4 x5 t0_0 t0_1 t0_2 t0_3 t0_4 t0_5 t0_6 t1_0 t2_0 t3_0 t4_0 t5_0 t6_0 t7_0 lx42 a81 f66 f74 lx89 ((F_WR_divideRows (264 : Int32) (264 : Int32) lx42 t0_1 t0_2 t0_3 t0_4 t0_5 t0_6 t4_0 t5_0 f66 f74) : ((Nat → Int32) × (Nat → Int32))))
def S_WR_divide_J47 (x2 : Int32) (x3 : Int32) (x4 : Int32) (x5 : Int32) (t0_0 : Int32) (t0_1 : Int32) (t0_2 : Int32) (t0_3 : Int32) (t0_4 : Int32) (t0_5 : Int32) (t0_6 : Int32) (t1_0 : (Nat → Int32)) (t2_0 : (Nat → Int32)) (t3_0 : (Nat → Int32)) (t4_0 : (Nat → Int32)) (t5_0 : (Nat → Int32)) (t6_0 : (Nat → Int32)) (t7_0 : (Nat → Int32)) (lx42 : Int32) : Prop := if lx42 ≤ (0 : Int32) then ((True ∧ S_WR_take x2 (264 : Int32) lx42 t0_1 t0_2 t0_3 t0_4 t0_5 t0_6 t1_0 t6_0) ∧ ((True ∧ S_WR_take x3 (264 : Int32) lx42 t0_1 t0_2 t0_3 t0_4 t0_5 t0_6 t1_0 t7_0) ∧ ((0 ≤ x2.toInt) ∧ ((x2.toInt ≤ 10) ∧ ((0 ≤ x3.toInt) ∧ ((x3.toInt ≤ 10) ∧ (if (t2_0 x2.toNatClampNeg : Int32) = (t2_0 x3.toNatClampNeg : Int32) then (S_WR_divide_J104 x2 x3 x4 x5 t0_0 t0_1 t0_2 t0_3 t0_4 t0_5 t0_6 t1_0 t2_0 t3_0 t4_0 t5_0 t6_0 t7_0 lx42 (t2_0 x2.toNatClampNeg : Int32) ((F_WR_take x2 (264 : Int32) lx42 t0_1 t0_2 t0_3 t0_4 t0_5 t0_6 t1_0 t6_0) : (Nat → Int32)) ((F_WR_take x3 (264 : Int32) lx42 t0_1 t0_2 t0_3 t0_4 t0_5 t0_6 t1_0 t7_0) : (Nat → Int32)) 0) else (S_WR_divide_J104 x2 x3 x4 x5 t0_0 t0_1 t0_2 t0_3 t0_4 t0_5 t0_6 t1_0 t2_0 t3_0 t4_0 t5_0 t6_0 t7_0 lx42 (t2_0 x2.toNatClampNeg : Int32) ((F_WR_take x2 (264 : Int32) lx42 t0_1 t0_2 t0_3 t0_4 t0_5 t0_6 t1_0 t6_0) : (Nat → Int32)) ((F_WR_take x3 (264 : Int32) lx42 t0_1 t0_2 t0_3 t0_4 t0_5 t0_6 t1_0 t7_0) : (Nat → Int32)) 1)))))))) else (True)
def S_WR_divide_J30 (x2 : Int32) (x3 : Int32) (x4 : Int32) (x5 : Int32) (t0_0 : Int32) (t0_1 : Int32) (t0_2 : Int32) (t0_3 : Int32) (t0_4 : Int32) (t0_5 : Int32) (t0_6 : Int32) (t1_0 : (Nat → Int32)) (t2_0 : (Nat → Int32)) (t3_0 : (Nat → Int32)) (t4_0 : (Nat → Int32)) (t5_0 : (Nat → Int32)) (t6_0 : (Nat → Int32)) (t7_0 : (Nat → Int32)) : Prop := S_WR_divide_J47 x2 x3 x4 x5 t0_0 t0_1 t0_2 t0_3 t0_4 t0_5 t0_6 t1_0 t2_0 t3_0 t4_0 t5_0 t6_0 t7_0 1
def S_WR_divide (x2 : Int32) (x3 : Int32) (x4 : Int32) (x5 : Int32) (t0_0 : Int32) (t0_1 : Int32) (t0_2 : Int32) (t0_3 : Int32) (t0_4 : Int32) (t0_5 : Int32) (t0_6 : Int32) (t1_0 : (Nat → Int32)) (t2_0 : (Nat → Int32)) (t3_0 : (Nat → Int32)) (t4_0 : (Nat → Int32)) (t5_0 : (Nat → Int32)) (t6_0 : (Nat → Int32)) (t7_0 : (Nat → Int32)) : Prop := if ((F_WR_no x2) : Int32) = (0 : Int32) then (if ((F_WR_no x3) : Int32) = (0 : Int32) then (if ((F_WR_no x4) : Int32) = (0 : Int32) then (if ((F_WR_no x5) : Int32) = (0 : Int32) then ((True ∧ S_WR_isZero x3 t0_0 t0_1 t0_2 t0_3 t0_4 t0_5 t0_6 t1_0) ∧ (if ((F_WR_isZero x3 t0_0 t0_1 t0_2 t0_3 t0_4 t0_5 t0_6 t1_0) : Int32) = (0 : Int32) then (S_WR_divide_J47 x2 x3 x4 x5 t0_0 t0_1 t0_2 t0_3 t0_4 t0_5 t0_6 t1_0 t2_0 t3_0 t4_0 t5_0 t6_0 t7_0 0) else (S_WR_divide_J47 x2 x3 x4 x5 t0_0 t0_1 t0_2 t0_3 t0_4 t0_5 t0_6 t1_0 t2_0 t3_0 t4_0 t5_0 t6_0 t7_0 2))) else (S_WR_divide_J30 x2 x3 x4 x5 t0_0 t0_1 t0_2 t0_3 t0_4 t0_5 t0_6 t1_0 t2_0 t3_0 t4_0 t5_0 t6_0 t7_0)) else (S_WR_divide_J30 x2 x3 x4 x5 t0_0 t0_1 t0_2 t0_3 t0_4 t0_5 t0_6 t1_0 t2_0 t3_0 t4_0 t5_0 t6_0 t7_0)) else (S_WR_divide_J30 x2 x3 x4 x5 t0_0 t0_1 t0_2 t0_3 t0_4 t0_5 t0_6 t1_0 t2_0 t3_0 t4_0 t5_0 t6_0 t7_0)) else (S_WR_divide_J30 x2 x3 x4 x5 t0_0 t0_1 t0_2 t0_3 t0_4 t0_5 t0_6 t1_0 t2_0 t3_0 t4_0 t5_0 t6_0 t7_0)
set_option maxRecDepth 100000 in
set_option maxHeartbeats 4000000 in
theorem X_WR_divide (l : Launch) (D : va_G) (g : Nat → ClassId) (q : Nat → Nat) (ws : va_W) (x2 : Int32) (x3 : Int32) (x4 : Int32) (x5 : Int32) (hI : q_I (msh g q) q ws) (t0_0 : Int32) (t0_1 : Int32) (t0_2 : Int32) (t0_3 : Int32) (t0_4 : Int32) (t0_5 : Int32) (t0_6 : Int32) (hT0 : ws[119]? = (some (q 119, .inr (13, [.int t0_0, .int t0_1, .ref (q 120), .int t0_2, .ref (q 121), .ref (q 122), .ref (q 123), .int t0_3, .ref (q 124), .ref (q 125), .ref (q 126), .ref (q 127), .ref (q 128), .ref (q 129), .ref (q 130), .ref (q 131), .int t0_4, .int t0_5, .ref (q 132), .ref (q 133), .int t0_6])) : Option (Nat × va_E))) (t1_0 : (Nat → Int32)) (hT1 : ws[121]? = (some (q 121, .inl (g 0, (1408 : Int32).toNatClampNeg, .inl t1_0)) : Option (Nat × va_E))) (t2_0 : (Nat → Int32)) (hT2 : ws[122]? = (some (q 122, .inl (g 3, 11, .inl t2_0)) : Option (Nat × va_E))) (t3_0 : (Nat → Int32)) (hT3 : ws[123]? = (some (q 123, .inl (g 0, (264 : Int32).toNatClampNeg, .inl t3_0)) : Option (Nat × va_E))) (t4_0 : (Nat → Int32)) (hT4 : ws[126]? = (some (q 126, .inl (g 0, (264 : Int32).toNatClampNeg, .inl t4_0)) : Option (Nat × va_E))) (t5_0 : (Nat → Int32)) (hT5 : ws[127]? = (some (q 127, .inl (g 0, (264 : Int32).toNatClampNeg, .inl t5_0)) : Option (Nat × va_E))) (t6_0 : (Nat → Int32)) (hT6 : ws[128]? = (some (q 128, .inl (g 0, (264 : Int32).toNatClampNeg, .inl t6_0)) : Option (Nat × va_E))) (t7_0 : (Nat → Int32)) (hT7 : ws[129]? = (some (q 129, .inl (g 0, (264 : Int32).toNatClampNeg, .inl t7_0)) : Option (Nat × va_E))) (hS : True ∧ S_WR_divide x2 x3 x4 x5 t0_0 t0_1 t0_2 t0_3 t0_4 t0_5 t0_6 t1_0 t2_0 t3_0 t4_0 t5_0 t6_0 t7_0) : q_mV l y_WR_divide prog_19_method_24_code 7 3 0 0 D g [.ref (q 119), .int x2, .int x3, .int x4, .int x5] ws (fun u => q_I (msh g q) q u ∧ q_un ws u [119, 121, 122, 123, 126, 127, 128, 129] ∧ ∃ (u0_0 : Int32) (u0_1 : Int32) (u0_2 : Int32) (u0_3 : Int32) (u0_4 : Int32) (u0_5 : Int32) (u0_6 : Int32) (u1_0 : (Nat → Int32)) (u2_0 : (Nat → Int32)) (u3_0 : (Nat → Int32)) (u4_0 : (Nat → Int32)) (u5_0 : (Nat → Int32)) (u6_0 : (Nat → Int32)) (u7_0 : (Nat → Int32)), u[119]? = (some (q 119, .inr (13, [.int u0_0, .int u0_1, .ref (q 120), .int u0_2, .ref (q 121), .ref (q 122), .ref (q 123), .int u0_3, .ref (q 124), .ref (q 125), .ref (q 126), .ref (q 127), .ref (q 128), .ref (q 129), .ref (q 130), .ref (q 131), .int u0_4, .int u0_5, .ref (q 132), .ref (q 133), .int u0_6])) : Option (Nat × va_E)) ∧ u[121]? = (some (q 121, .inl (g 0, (1408 : Int32).toNatClampNeg, .inl u1_0)) : Option (Nat × va_E)) ∧ u[122]? = (some (q 122, .inl (g 3, 11, .inl u2_0)) : Option (Nat × va_E)) ∧ u[123]? = (some (q 123, .inl (g 0, (264 : Int32).toNatClampNeg, .inl u3_0)) : Option (Nat × va_E)) ∧ u[126]? = (some (q 126, .inl (g 0, (264 : Int32).toNatClampNeg, .inl u4_0)) : Option (Nat × va_E)) ∧ u[127]? = (some (q 127, .inl (g 0, (264 : Int32).toNatClampNeg, .inl u5_0)) : Option (Nat × va_E)) ∧ u[128]? = (some (q 128, .inl (g 0, (264 : Int32).toNatClampNeg, .inl u6_0)) : Option (Nat × va_E)) ∧ u[129]? = (some (q 129, .inl (g 0, (264 : Int32).toNatClampNeg, .inl u7_0)) : Option (Nat × va_E)) ∧ (0 ≤ u0_3.toInt) ∧ (u0_3.toInt ≤ 1) ∧ (t0_1.toInt ≤ u0_1.toInt) ∧ (u0_1.toInt ≤ t0_1.toInt) ∧ (t0_2.toInt ≤ u0_2.toInt) ∧ (u0_2.toInt ≤ t0_2.toInt) ∧ (t0_4.toInt ≤ u0_4.toInt) ∧ (u0_4.toInt ≤ t0_4.toInt) ∧ (t0_5.toInt ≤ u0_5.toInt) ∧ (u0_5.toInt ≤ t0_5.toInt) ∧ (t0_6.toInt ≤ u0_6.toInt) ∧ (u0_6.toInt ≤ t0_6.toInt) ∧ (u0_0, u0_1, u0_2, u0_3, u0_4, u0_5, u0_6, u1_0, u2_0, u3_0, u4_0, u5_0, u6_0, u7_0) = (F_WR_divide x2 x3 x4 x5 t0_0 t0_1 t0_2 t0_3 t0_4 t0_5 t0_6 t1_0 t2_0 t3_0 t4_0 t5_0 t6_0 t7_0)) := by
  intro sz
  refine q_into (by decide) (Nat.le_of_ble_eq_true rfl) ?_
  intro p e s m below meth c ls hsz C0 V hl
  have hx := C0.1
  have hb := C0.2.1
  obtain ⟨btt0_2, hZ9⟩ := n_w119 hI hT0
  obtain ⟨btt0_3, hZ9⟩ := hZ9
  obtain ⟨btt0_4, hZ9⟩ := hZ9
  obtain ⟨btt0_5, btt0_6⟩ := hZ9
  replace btt0_2 : q_F (0 ≤ t0_2.toInt ∧ t0_2.toInt ≤ 4100) := btt0_2
  replace btt0_3 : q_F (0 ≤ t0_3.toInt ∧ t0_3.toInt ≤ 1) := btt0_3
  replace btt0_4 : q_F (0 ≤ t0_4.toInt ∧ t0_4.toInt ≤ 1) := btt0_4
  replace btt0_5 : q_F (0 ≤ t0_5.toInt ∧ t0_5.toInt ≤ 1) := btt0_5
  replace btt0_6 : q_F (0 ≤ t0_6.toInt ∧ t0_6.toInt ≤ 2100) := btt0_6
  have hF : q_un ws ws [119, 121, 122, 123, 126, 127, 128, 129] := q_u0
  have hl : lv_has ls 7 [(0, .ref (q 119)), (1, .int x2), (2, .int x3), (3, .int x4), (4, .int x5)] := hl
  refine lv_aload_n hx hb d_19_24_0 rfl (lv_at hl 0 rfl) ?_
  refine lv_iload_n hx hb d_19_24_1 rfl (lv_at hl 1 rfl) ?_
  refine q_goi V (q_runS (As := [.int x2]) (rest := [.ref (q 119)]) (d := 1) (mc := 0) (ms := 0) C0 V rfl LS_WR_91 (X_WR_no l D g q ws  x2 hI   _) rfl hl.1 rfl (Nat.le_of_ble_eq_true rfl) ⟨by decide, by decide⟩ ⟨Nat.le_of_ble_eq_true rfl, Nat.le_of_ble_eq_true rfl⟩ d_19_24_2) (fun a37 u35 H locs hp36 V => ?_)
  obtain ⟨rfl, b38, b39, hE40⟩ := hp36
  have e41 : a37 = (F_WR_no x2) := hE40
  clear b38
  clear b39
  refine q_join (X := Int32) (fun z H locs ls _ => q_F (0 ≤ z.toInt) ∧ q_F (z.toInt ≤ 2) ∧ q_Wd D g (va_A ws sz) s ws H locs ∧ lv_has ls 7 [(0, .ref (q 119)), (1, .int x2), (2, .int x3), (3, .int x4), (4, .int x5)] ∧ F_WR_divide_J47 x2 x3 x4 x5 t0_0 t0_1 t0_2 t0_3 t0_4 t0_5 t0_6 t1_0 t2_0 t3_0 t4_0 t5_0 t6_0 t7_0 z = (F_WR_divide x2 x3 x4 x5 t0_0 t0_1 t0_2 t0_3 t0_4 t0_5 t0_6 t1_0 t2_0 t3_0 t4_0 t5_0 t6_0 t7_0) ∧ True ∧ S_WR_divide_J47 x2 x3 x4 x5 t0_0 t0_1 t0_2 t0_3 t0_4 t0_5 t0_6 t1_0 t2_0 t3_0 t4_0 t5_0 t6_0 t7_0 z) (fun z => [.int z, .ref (q 119)]) 47 0 0 ?_ ?_
  ·
    rintro lx42 H locs ls _ hZ9
    obtain ⟨i52, hZ9⟩ := hZ9
    replace hZ9 := hZ9.2
    obtain ⟨V, hZ9⟩ := hZ9
    obtain ⟨hl, hZ9⟩ := hZ9
    obtain ⟨hR54, hS55⟩ := hZ9
    replace i52 : q_F (0 ≤ lx42.toInt) := i52
    replace hl : lv_has ls 7 [(0, .ref (q 119)), (1, .int x2), (2, .int x3), (3, .int x4), (4, .int x5)] := hl
    refine q_put (ci := 13) (j := 0) (v := .int lx42) (ty := .int) C0 V i_WR o_WR n_WR rfl rfl hT0 (by decide) w_1921 rfl rfl rfl rfl (Nat.le_of_ble_eq_true rfl) d_19_24_47 (fun H locs w59 hu60 hT0 V => ?_)
    replace hT0 : w59[119]? = (some (q 119, .inr (13, [.int lx42, .int t0_1, .ref (q 120), .int t0_2, .ref (q 121), .ref (q 122), .ref (q 123), .int t0_3, .ref (q 124), .ref (q 125), .ref (q 126), .ref (q 127), .ref (q 128), .ref (q 129), .ref (q 130), .ref (q 131), .int t0_4, .int t0_5, .ref (q 132), .ref (q 133), .int t0_6])) : Option (Nat × va_E)) := hT0
    replace hI := n_p119 hI hu60 hT0 (by first | with_reducible exact q_fe btt0_2 | exact ⟨(by have t1 : 0 ≤ t0_2.toInt ∧ t0_2.toInt ≤ 4100 := btt0_2; omega), (by have t1 : 0 ≤ t0_2.toInt ∧ t0_2.toInt ≤ 4100 := btt0_2; omega)⟩) (by first | with_reducible exact q_fe btt0_3 | exact ⟨(by have t1 : 0 ≤ t0_3.toInt ∧ t0_3.toInt ≤ 1 := btt0_3; omega), (by have t1 : 0 ≤ t0_3.toInt ∧ t0_3.toInt ≤ 1 := btt0_3; omega)⟩) (by first | with_reducible exact q_fe btt0_4 | exact ⟨(by have t1 : 0 ≤ t0_4.toInt ∧ t0_4.toInt ≤ 1 := btt0_4; omega), (by have t1 : 0 ≤ t0_4.toInt ∧ t0_4.toInt ≤ 1 := btt0_4; omega)⟩) (by first | with_reducible exact q_fe btt0_5 | exact ⟨(by have t1 : 0 ≤ t0_5.toInt ∧ t0_5.toInt ≤ 1 := btt0_5; omega), (by have t1 : 0 ≤ t0_5.toInt ∧ t0_5.toInt ≤ 1 := btt0_5; omega)⟩) (by first | with_reducible exact q_fe btt0_6 | exact ⟨(by have t1 : 0 ≤ t0_6.toInt ∧ t0_6.toInt ≤ 2100 := btt0_6; omega), (by have t1 : 0 ≤ t0_6.toInt ∧ t0_6.toInt ≤ 2100 := btt0_6; omega)⟩)
    replace hT1 := (hu60 _ (by decide)).trans hT1
    replace hT2 := (hu60 _ (by decide)).trans hT2
    replace hT3 := (hu60 _ (by decide)).trans hT3
    replace hT4 := (hu60 _ (by decide)).trans hT4
    replace hT5 := (hu60 _ (by decide)).trans hT5
    replace hT6 := (hu60 _ (by decide)).trans hT6
    replace hT7 := (hu60 _ (by decide)).trans hT7
    replace hF := q_us hF hu60 (by simp)
    refine lv_aload_n hx hb d_19_24_50 rfl (lv_at hl 0 rfl) ?_
    refine q_get (ci := 13) (j := 0) (v := .int lx42) C0 V i_WR rfl rfl hT0 (by decide) w_1921 rfl d_19_24_51 ?_
    refine lv_if_le (tgt := 58) hx hb d_19_24_54 (by decide) (fun c61 => ?_) (fun c61 => ?_)
    ·
      have b62 : q_F (lx42.toInt ≤ 0) := (q_leI c61)
      refine lv_aload_n hx hb d_19_24_58 rfl (lv_at hl 0 rfl) ?_
      refine lv_iload_n hx hb d_19_24_59 rfl (lv_at hl 1 rfl) ?_
      refine lv_aload_n hx hb d_19_24_60 rfl (lv_at hl 0 rfl) ?_
      refine q_get (ci := 13) (j := 12) (v := .ref (q 128)) C0 V i_WR rfl rfl hT0 (by decide) w_1936 rfl d_19_24_61 ?_
      have ob63 : True ∧ S_WR_take x2 (264 : Int32) lx42 t0_1 t0_2 t0_3 t0_4 t0_5 t0_6 t1_0 t6_0 := (by have h := hS55; rw [S_WR_divide_J47.eq_1] at h; rw [if_pos c61] at h; with_reducible exact h.2.1)
      refine q_gov V (q_runV (As := [.int x2, .ref (q 128)]) (rest := []) (d := 1) (mc := 0) (ms := 0) (ci := 13) C0 V rfl LV_WR_107 (X_WR_take l D g q w59 128 264 (n_r128 g q) x2 (by decide) hI lx42 t0_1 t0_2 t0_3 t0_4 t0_5 t0_6 hT0 t1_0 hT1 t6_0 hT6 ob63 _) rfl rfl hT0 rfl hl.1 rfl (Nat.le_of_ble_eq_true rfl) ⟨by decide, by decide⟩ ⟨Nat.le_of_ble_eq_true rfl, Nat.le_of_ble_eq_true rfl⟩ d_19_24_64) (fun u64 H locs hp65 V => ?_)
      obtain ⟨hI, hu69, f66, hA67, hE68⟩ := hp65
      replace hA67 : u64[128]? = (some (q 128, .inl (g 0, (264 : Int32).toNatClampNeg, .inl f66)) : Option (Nat × va_E)) := hA67
      have e70 : f66 = (F_WR_take x2 (264 : Int32) lx42 t0_1 t0_2 t0_3 t0_4 t0_5 t0_6 t1_0 t6_0) := hE68
      replace hT0 := (hu69 _ (by decide)).trans hT0
      replace hT1 := (hu69 _ (by decide)).trans hT1
      replace hT2 := (hu69 _ (by decide)).trans hT2
      replace hT3 := (hu69 _ (by decide)).trans hT3
      replace hT4 := (hu69 _ (by decide)).trans hT4
      replace hT5 := (hu69 _ (by decide)).trans hT5
      replace hT7 := (hu69 _ (by decide)).trans hT7
      replace hF := q_uc hF hu69 (by simp)
      refine lv_aload_n hx hb d_19_24_67 rfl (lv_at hl 0 rfl) ?_
      refine lv_iload_n hx hb d_19_24_68 rfl (lv_at hl 2 rfl) ?_
      refine lv_aload_n hx hb d_19_24_69 rfl (lv_at hl 0 rfl) ?_
      refine q_get (ci := 13) (j := 13) (v := .ref (q 129)) C0 V i_WR rfl rfl hT0 (by decide) w_1937 rfl d_19_24_70 ?_
      have ob71 : True ∧ S_WR_take x3 (264 : Int32) lx42 t0_1 t0_2 t0_3 t0_4 t0_5 t0_6 t1_0 t7_0 := (by have h := hS55; rw [S_WR_divide_J47.eq_1] at h; rw [if_pos c61] at h; replace h := q_s2 h; with_reducible exact h.2.1)
      refine q_gov V (q_runV (As := [.int x3, .ref (q 129)]) (rest := []) (d := 1) (mc := 0) (ms := 0) (ci := 13) C0 V rfl LV_WR_107 (X_WR_take l D g q u64 129 264 (n_r129 g q) x3 (by decide) hI lx42 t0_1 t0_2 t0_3 t0_4 t0_5 t0_6 hT0 t1_0 hT1 t7_0 hT7 ob71 _) rfl rfl hT0 rfl hl.1 rfl (Nat.le_of_ble_eq_true rfl) ⟨by decide, by decide⟩ ⟨Nat.le_of_ble_eq_true rfl, Nat.le_of_ble_eq_true rfl⟩ d_19_24_73) (fun u72 H locs hp73 V => ?_)
      obtain ⟨hI, hu77, f74, hA75, hE76⟩ := hp73
      replace hA75 : u72[129]? = (some (q 129, .inl (g 0, (264 : Int32).toNatClampNeg, .inl f74)) : Option (Nat × va_E)) := hA75
      have e78 : f74 = (F_WR_take x3 (264 : Int32) lx42 t0_1 t0_2 t0_3 t0_4 t0_5 t0_6 t1_0 t7_0) := hE76
      replace hT0 := (hu77 _ (by decide)).trans hT0
      replace hT1 := (hu77 _ (by decide)).trans hT1
      replace hT2 := (hu77 _ (by decide)).trans hT2
      replace hT3 := (hu77 _ (by decide)).trans hT3
      replace hT4 := (hu77 _ (by decide)).trans hT4
      replace hT5 := (hu77 _ (by decide)).trans hT5
      replace hA67 := (hu77 _ (by decide)).trans hA67
      replace hF := q_uc hF hu77 (by simp)
      refine lv_aload_n hx hb d_19_24_76 rfl (lv_at hl 0 rfl) ?_
      refine q_get (ci := 13) (j := 5) (v := .ref (q 122)) C0 V i_WR rfl rfl hT0 (by decide) w_1929 rfl d_19_24_77 ?_
      refine lv_iload_n hx hb d_19_24_80 rfl (lv_at hl 1 rfl) ?_
      have ob79 : q_F (0 ≤ x2.toInt) := (by have h := hS55; rw [S_WR_divide_J47.eq_1] at h; rw [if_pos c61] at h; replace h := q_s2 h; replace h := q_s2 h; exact h.2.1)
      have ob80 : q_F (x2.toInt ≤ 10) := (by have h := hS55; rw [S_WR_divide_J47.eq_1] at h; rw [if_pos c61] at h; replace h := q_s2 h; replace h := q_s2 h; replace h := q_s2 h; exact h.2.1)
      refine q_zald C0 V hT2 (q_ix (x := x2.toInt) rfl (by first | with_reducible exact q_fe ob79 | (have t1 : 0 ≤ x2.toInt := ob79; omega)) (by have t1 : 0 ≤ x2.toInt := ob79; have t2 : x2.toInt ≤ 10 := ob80; omega)) d_19_24_81 ?_
      obtain ⟨a81, e82⟩ := q_nm (t2_0 x2.toNatClampNeg : Int32)
      refine q_ti (v := a81) e82 ?_
      refine lv_istore (lv' := [(5, .int a81), (0, .ref (q 119)), (1, .int x2), (2, .int x3), (3, .int x4), (4, .int x5)]) hx hb d_19_24_82 hl (by decide) rfl (fun ls hl => ?_)
      refine lv_aload_n hx hb d_19_24_84 rfl (lv_at hl 1 rfl) ?_
      refine q_get (ci := 13) (j := 5) (v := .ref (q 122)) C0 V i_WR rfl rfl hT0 (by decide) w_1929 rfl d_19_24_85 ?_
      refine lv_iload_n hx hb d_19_24_88 rfl (lv_at hl 2 rfl) ?_
      refine q_zald C0 V hT2 (q_ix (x := x2.toInt) rfl (by first | with_reducible exact q_fe ob79 | (have t1 : 0 ≤ x2.toInt := ob79; omega)) (by have t1 : 0 ≤ x2.toInt := ob79; have t2 : x2.toInt ≤ 10 := ob80; omega)) d_19_24_89 ?_
      obtain ⟨a83, e84⟩ := q_nm (t2_0 x2.toNatClampNeg : Int32)
      refine q_ti (v := a83) e84 ?_
      refine lv_aload_n hx hb d_19_24_90 rfl (lv_at hl 1 rfl) ?_
      refine q_get (ci := 13) (j := 5) (v := .ref (q 122)) C0 V i_WR rfl rfl hT0 (by decide) w_1929 rfl d_19_24_91 ?_
      refine lv_iload_n hx hb d_19_24_94 rfl (lv_at hl 3 rfl) ?_
      have ob85 : q_F (0 ≤ x3.toInt) := (by have h := hS55; rw [S_WR_divide_J47.eq_1] at h; rw [if_pos c61] at h; replace h := q_s2 h; replace h := q_s2 h; replace h := q_s2 h; replace h := q_s2 h; exact h.2.1)
      have ob86 : q_F (x3.toInt ≤ 10) := (by have h := hS55; rw [S_WR_divide_J47.eq_1] at h; rw [if_pos c61] at h; replace h := q_s2 h; replace h := q_s2 h; replace h := q_s2 h; replace h := q_s2 h; replace h := q_s2 h; exact h.2.1)
      refine q_zald C0 V hT2 (q_ix (x := x3.toInt) rfl (by first | with_reducible exact q_fe ob85 | (have t1 : 0 ≤ x3.toInt := ob85; omega)) (by have t1 : 0 ≤ x3.toInt := ob85; have t2 : x3.toInt ≤ 10 := ob86; omega)) d_19_24_95 ?_
      obtain ⟨a87, e88⟩ := q_nm (t2_0 x3.toNatClampNeg : Int32)
      refine q_ti (v := a87) e88 ?_
      refine q_join (X := Int32) (fun z H locs ls _ => q_F (lx42.toInt ≤ z.toInt) ∧ q_F (z.toInt ≤ lx42.toInt + 1) ∧ q_Wd D g (va_A ws sz) s u72 H locs ∧ lv_has ls 7 [(5, .int a81), (0, .ref (q 119)), (3, .int x4), (4, .int x5)] ∧ F_WR_divide_J104 x2 x3 x4 x5 t0_0 t0_1 t0_2 t0_3 t0_4 t0_5 t0_6 t1_0 t2_0 t3_0 t4_0 t5_0 t6_0 t7_0 lx42 a81 f66 f74 z = (F_WR_divide x2 x3 x4 x5 t0_0 t0_1 t0_2 t0_3 t0_4 t0_5 t0_6 t1_0 t2_0 t3_0 t4_0 t5_0 t6_0 t7_0) ∧ True ∧ S_WR_divide_J104 x2 x3 x4 x5 t0_0 t0_1 t0_2 t0_3 t0_4 t0_5 t0_6 t1_0 t2_0 t3_0 t4_0 t5_0 t6_0 t7_0 lx42 a81 f66 f74 z) (fun z => [.int z]) 104 0 0 ?_ ?_
      ·
        rintro lx89 H locs ls _ hZ9
        obtain ⟨i99, hZ9⟩ := hZ9
        obtain ⟨i100, hZ9⟩ := hZ9
        obtain ⟨V, hZ9⟩ := hZ9
        obtain ⟨hl, hZ9⟩ := hZ9
        obtain ⟨hR101, hS102⟩ := hZ9
        replace i99 : q_F (lx42.toInt ≤ lx89.toInt) := i99
        replace i100 : q_F (lx89.toInt ≤ lx42.toInt + 1) := i100
        replace hl : lv_has ls 7 [(5, .int a81), (0, .ref (q 119)), (3, .int x4), (4, .int x5)] := hl
        refine lv_istore (lv' := [(6, .int lx89), (5, .int a81), (0, .ref (q 119)), (3, .int x4), (4, .int x5)]) hx hb d_19_24_104 hl (by decide) rfl (fun ls hl => ?_)
        refine lv_aload_n hx hb d_19_24_106 rfl (lv_at hl 2 rfl) ?_
        refine lv_aload_n hx hb d_19_24_107 rfl (lv_at hl 2 rfl) ?_
        refine q_get (ci := 13) (j := 12) (v := .ref (q 128)) C0 V i_WR rfl rfl hT0 (by decide) w_1936 rfl d_19_24_108 ?_
        refine lv_aload_n hx hb d_19_24_111 rfl (lv_at hl 2 rfl) ?_
        refine q_get (ci := 13) (j := 13) (v := .ref (q 129)) C0 V i_WR rfl rfl hT0 (by decide) w_1937 rfl d_19_24_112 ?_
        have ob106 : True ∧ S_WR_divideRows (264 : Int32) (264 : Int32) lx42 t0_1 t0_2 t0_3 t0_4 t0_5 t0_6 t4_0 t5_0 f66 f74 := (by have h := hS102; rw [S_WR_divide_J104.eq_1] at h; with_reducible exact h.2.1)
        refine q_gov V (q_runV (As := [.ref (q 128), .ref (q 129)]) (rest := []) (d := 2) (mc := 0) (ms := 0) (ci := 13) C0 V rfl LV_WR_122 (X_WR_divideRows l D g q u72 128 264 (n_r128 g q) 129 264 (n_r129 g q)  (by decide) (by decide) (by decide) (by decide) (by decide) hI lx42 t0_1 t0_2 t0_3 t0_4 t0_5 t0_6 hT0 t4_0 hT4 t5_0 hT5 f66 hA67 f74 hA75 ob106 _) rfl rfl hT0 rfl hl.1 rfl (Nat.le_of_ble_eq_true rfl) ⟨by decide, by decide⟩ ⟨Nat.le_of_ble_eq_true rfl, Nat.le_of_ble_eq_true rfl⟩ d_19_24_115) (fun u107 H locs hp108 V => ?_)
        obtain ⟨hI, hZ9⟩ := hp108
        obtain ⟨hu114, hZ9⟩ := hZ9
        obtain ⟨f109, hZ9⟩ := hZ9
        obtain ⟨f111, hZ9⟩ := hZ9
        obtain ⟨hA110, hZ9⟩ := hZ9
        obtain ⟨hA112, hE113⟩ := hZ9
        replace hA110 : u107[126]? = (some (q 126, .inl (g 0, (264 : Int32).toNatClampNeg, .inl f109)) : Option (Nat × va_E)) := hA110
        replace hA112 : u107[127]? = (some (q 127, .inl (g 0, (264 : Int32).toNatClampNeg, .inl f111)) : Option (Nat × va_E)) := hA112
        obtain ⟨p115, e116⟩ : ∃ z, z = (F_WR_divideRows (264 : Int32) (264 : Int32) lx42 t0_1 t0_2 t0_3 t0_4 t0_5 t0_6 t4_0 t5_0 f66 f74) := ⟨_, rfl⟩
        have e117 : f109 = p115.1 := congrArg (fun z => z.1) (hE113.trans e116.symm)
        have e118 : f111 = p115.2 := congrArg (fun z => z.2) (hE113.trans e116.symm)
        replace hT0 := (hu114 _ (by decide)).trans hT0
        replace hT1 := (hu114 _ (by decide)).trans hT1
        replace hT2 := (hu114 _ (by decide)).trans hT2
        replace hT3 := (hu114 _ (by decide)).trans hT3
        replace hA67 := (hu114 _ (by decide)).trans hA67
        replace hA75 := (hu114 _ (by decide)).trans hA75
        replace hF := q_uc hF hu114 (by simp)
        have hR119 := (show F_WR_divide_c115 x2 x3 x4 x5 t0_0 t0_1 t0_2 t0_3 t0_4 t0_5 t0_6 t1_0 t2_0 t3_0 t4_0 t5_0 t6_0 t7_0 lx42 a81 f66 f74 lx89 p115 = (F_WR_divide x2 x3 x4 x5 t0_0 t0_1 t0_2 t0_3 t0_4 t0_5 t0_6 t1_0 t2_0 t3_0 t4_0 t5_0 t6_0 t7_0) from Eq.trans (by rw [e116, F_WR_divide_J104.eq_1]) hR101)
        have hS120 := (show True ∧ S_WR_divide_c115 x2 x3 x4 x5 t0_0 t0_1 t0_2 t0_3 t0_4 t0_5 t0_6 t1_0 t2_0 t3_0 t4_0 t5_0 t6_0 t7_0 lx42 a81 f66 f74 lx89 p115 from (by rw [e116]; have h := hS102; rw [S_WR_divide_J104.eq_1] at h; replace h := q_s2 h; with_reducible exact h))
        refine lv_aload_n hx hb d_19_24_118 rfl (lv_at hl 2 rfl) ?_
        refine q_get (ci := 13) (j := 11) (v := .ref (q 127)) C0 V i_WR rfl rfl hT0 (by decide) w_1935 rfl d_19_24_119 ?_
        refine lv_aload_n hx hb d_19_24_122 rfl (lv_at hl 2 rfl) ?_
        refine q_get (ci := 13) (j := 6) (v := .ref (q 123)) C0 V i_WR rfl rfl hT0 (by decide) w_1930 rfl d_19_24_123 ?_
        refine q_gov V (q_runS (As := [.ref (q 127), .ref (q 123)]) (rest := []) (d := 1) (mc := 0) (ms := 0) C0 V rfl LS_WR_67 (X_WR_copy l D g q u107 127 264 (n_r127 g q) 123 264 (n_r123 g q)  (by decide) hI f111 hA112 t3_0 hT3  _) rfl hl.1 rfl (Nat.le_of_ble_eq_true rfl) ⟨by decide, by decide⟩ ⟨Nat.le_of_ble_eq_true rfl, Nat.le_of_ble_eq_true rfl⟩ d_19_24_126) (fun u124 H locs hp125 V => ?_)
        obtain ⟨hI, hu129, f126, hA127, hE128⟩ := hp125
        replace hA127 : u124[123]? = (some (q 123, .inl (g 0, (264 : Int32).toNatClampNeg, .inl f126)) : Option (Nat × va_E)) := hA127
        have e130 : f126 = (F_WR_copy (264 : Int32) (264 : Int32) f111 t3_0) := hE128
        replace hT0 := (hu129 _ (by decide)).trans hT0
        replace hT1 := (hu129 _ (by decide)).trans hT1
        replace hT2 := (hu129 _ (by decide)).trans hT2
        replace hA110 := (hu129 _ (by decide)).trans hA110
        replace hA112 := (hu129 _ (by decide)).trans hA112
        replace hA67 := (hu129 _ (by decide)).trans hA67
        replace hA75 := (hu129 _ (by decide)).trans hA75
        replace hF := q_uc hF hu129 (by simp)
        refine lv_aload_n hx hb d_19_24_129 rfl (lv_at hl 2 rfl) ?_
        refine lv_iload hx hb d_19_24_130 (lv_at hl 0 rfl) ?_
        refine q_put (ci := 13) (j := 7) (v := .int lx89) (ty := .boolean) C0 V i_WR o_WR n_WR rfl rfl hT0 (by decide) w_1931 rfl rfl (q_nz01 (q_Ile (x := 0) (y := lx89.toInt) (by decide) rfl (by have t1 : 0 ≤ lx42.toInt := i52; have t2 : lx42.toInt ≤ lx89.toInt := i99; omega)) (q_Ile (x := lx89.toInt) (y := 1) rfl (by decide) (by have t1 : lx42.toInt ≤ 0 := b62; have t2 : lx89.toInt ≤ lx42.toInt + 1 := i100; omega))) (q_fz01 (q_Ile (x := 0) (y := lx89.toInt) (by decide) rfl (by have t1 : 0 ≤ lx42.toInt := i52; have t2 : lx42.toInt ≤ lx89.toInt := i99; omega)) (q_Ile (x := lx89.toInt) (y := 1) rfl (by decide) (by have t1 : lx42.toInt ≤ 0 := b62; have t2 : lx89.toInt ≤ lx42.toInt + 1 := i100; omega))) (Nat.le_of_ble_eq_true rfl) d_19_24_132 (fun H locs w131 hu132 hT0 V => ?_)
        replace hT0 : w131[119]? = (some (q 119, .inr (13, [.int lx42, .int t0_1, .ref (q 120), .int t0_2, .ref (q 121), .ref (q 122), .ref (q 123), .int lx89, .ref (q 124), .ref (q 125), .ref (q 126), .ref (q 127), .ref (q 128), .ref (q 129), .ref (q 130), .ref (q 131), .int t0_4, .int t0_5, .ref (q 132), .ref (q 133), .int t0_6])) : Option (Nat × va_E)) := hT0
        replace hI := n_p119 hI hu132 hT0 (by first | with_reducible exact q_fe btt0_2 | exact ⟨(by have t1 : 0 ≤ t0_2.toInt ∧ t0_2.toInt ≤ 4100 := btt0_2; omega), (by have t1 : 0 ≤ t0_2.toInt ∧ t0_2.toInt ≤ 4100 := btt0_2; omega)⟩) ⟨(by have t1 : 0 ≤ lx42.toInt := i52; have t2 : lx42.toInt ≤ lx89.toInt := i99; omega), (by have t1 : lx42.toInt ≤ 0 := b62; have t2 : lx89.toInt ≤ lx42.toInt + 1 := i100; omega)⟩ (by first | with_reducible exact q_fe btt0_4 | exact ⟨(by have t1 : 0 ≤ t0_4.toInt ∧ t0_4.toInt ≤ 1 := btt0_4; omega), (by have t1 : 0 ≤ t0_4.toInt ∧ t0_4.toInt ≤ 1 := btt0_4; omega)⟩) (by first | with_reducible exact q_fe btt0_5 | exact ⟨(by have t1 : 0 ≤ t0_5.toInt ∧ t0_5.toInt ≤ 1 := btt0_5; omega), (by have t1 : 0 ≤ t0_5.toInt ∧ t0_5.toInt ≤ 1 := btt0_5; omega)⟩) (by first | with_reducible exact q_fe btt0_6 | exact ⟨(by have t1 : 0 ≤ t0_6.toInt ∧ t0_6.toInt ≤ 2100 := btt0_6; omega), (by have t1 : 0 ≤ t0_6.toInt ∧ t0_6.toInt ≤ 2100 := btt0_6; omega)⟩)
        replace hT1 := (hu132 _ (by decide)).trans hT1
        replace hT2 := (hu132 _ (by decide)).trans hT2
        replace hA127 := (hu132 _ (by decide)).trans hA127
        replace hA110 := (hu132 _ (by decide)).trans hA110
        replace hA112 := (hu132 _ (by decide)).trans hA112
        replace hA67 := (hu132 _ (by decide)).trans hA67
        replace hA75 := (hu132 _ (by decide)).trans hA75
        replace hF := q_us hF hu132 (by simp)
        refine lv_aload_n hx hb d_19_24_135 rfl (lv_at hl 2 rfl) ?_
        refine lv_iload_n hx hb d_19_24_136 rfl (lv_at hl 3 rfl) ?_
        have ob133 : True ∧ S_WR_store x4 lx42 t0_1 t0_2 lx89 t0_4 t0_5 t0_6 t1_0 t2_0 f126 := (by rw [e130, e118]; have h := hS120; rw [S_WR_divide_c115.eq_1] at h; with_reducible exact h.2.1)
        refine q_gov V (q_runV (As := [.int x4]) (rest := []) (d := 2) (mc := 0) (ms := 0) (ci := 13) C0 V rfl LV_WR_103 (X_WR_store l D g q w131  x4 hI lx42 t0_1 t0_2 lx89 t0_4 t0_5 t0_6 hT0 t1_0 hT1 t2_0 hT2 f126 hA127 ob133 _) rfl rfl hT0 rfl hl.1 rfl (Nat.le_of_ble_eq_true rfl) ⟨by decide, by decide⟩ ⟨Nat.le_of_ble_eq_true rfl, Nat.le_of_ble_eq_true rfl⟩ d_19_24_137) (fun u134 H locs hp135 V => ?_)
        obtain ⟨hI, hZ9⟩ := hp135
        obtain ⟨hu161, hZ9⟩ := hZ9
        obtain ⟨y137, hZ9⟩ := hZ9
        obtain ⟨y138, hZ9⟩ := hZ9
        obtain ⟨y139, hZ9⟩ := hZ9
        obtain ⟨y140, hZ9⟩ := hZ9
        obtain ⟨y141, hZ9⟩ := hZ9
        obtain ⟨y142, hZ9⟩ := hZ9
        obtain ⟨y143, hZ9⟩ := hZ9
        obtain ⟨f144, hZ9⟩ := hZ9
        obtain ⟨f146, hZ9⟩ := hZ9
        obtain ⟨hO136, hZ9⟩ := hZ9
        obtain ⟨hA145, hZ9⟩ := hZ9
        obtain ⟨hA147, hZ9⟩ := hZ9
        obtain ⟨b148, hZ9⟩ := hZ9
        obtain ⟨b149, hZ9⟩ := hZ9
        obtain ⟨b150, hZ9⟩ := hZ9
        obtain ⟨b151, hZ9⟩ := hZ9
        replace hZ9 := hZ9.2.2
        obtain ⟨b154, hZ9⟩ := hZ9
        obtain ⟨b155, hZ9⟩ := hZ9
        obtain ⟨b156, hZ9⟩ := hZ9
        obtain ⟨b157, hZ9⟩ := hZ9
        obtain ⟨b158, hZ9⟩ := hZ9
        obtain ⟨b159, hE160⟩ := hZ9
        replace hO136 : u134[119]? = (some (q 119, .inr (13, [.int y137, .int y138, .ref (q 120), .int y139, .ref (q 121), .ref (q 122), .ref (q 123), .int y140, .ref (q 124), .ref (q 125), .ref (q 126), .ref (q 127), .ref (q 128), .ref (q 129), .ref (q 130), .ref (q 131), .int y141, .int y142, .ref (q 132), .ref (q 133), .int y143])) : Option (Nat × va_E)) := hO136
        replace hA145 : u134[121]? = (some (q 121, .inl (g 0, (1408 : Int32).toNatClampNeg, .inl f144)) : Option (Nat × va_E)) := hA145
        replace hA147 : u134[122]? = (some (q 122, .inl (g 3, 11, .inl f146)) : Option (Nat × va_E)) := hA147
        obtain ⟨p162, e163⟩ : ∃ z, z = (F_WR_store x4 lx42 t0_1 t0_2 lx89 t0_4 t0_5 t0_6 t1_0 t2_0 f126) := ⟨_, rfl⟩
        have e164 : y137 = p162.1 := congrArg (fun z => z.1) (hE160.trans e163.symm)
        have e165 : y138 = p162.2.1 := congrArg (fun z => z.2.1) (hE160.trans e163.symm)
        have e166 : y139 = p162.2.2.1 := congrArg (fun z => z.2.2.1) (hE160.trans e163.symm)
        have e167 : y140 = p162.2.2.2.1 := congrArg (fun z => z.2.2.2.1) (hE160.trans e163.symm)
        have e168 : y141 = p162.2.2.2.2.1 := congrArg (fun z => z.2.2.2.2.1) (hE160.trans e163.symm)
        have e169 : y142 = p162.2.2.2.2.2.1 := congrArg (fun z => z.2.2.2.2.2.1) (hE160.trans e163.symm)
        have e170 : y143 = p162.2.2.2.2.2.2.1 := congrArg (fun z => z.2.2.2.2.2.2.1) (hE160.trans e163.symm)
        have e171 : f144 = p162.2.2.2.2.2.2.2.1 := congrArg (fun z => z.2.2.2.2.2.2.2.1) (hE160.trans e163.symm)
        have e172 : f146 = p162.2.2.2.2.2.2.2.2 := congrArg (fun z => z.2.2.2.2.2.2.2.2) (hE160.trans e163.symm)
        replace b148 : q_F (t0_1.toInt ≤ y138.toInt) := b148
        replace b149 : q_F (y138.toInt ≤ t0_1.toInt) := b149
        replace b150 : q_F (t0_2.toInt ≤ y139.toInt) := b150
        replace b151 : q_F (y139.toInt ≤ t0_2.toInt) := b151
        replace b154 : q_F (t0_4.toInt ≤ y141.toInt) := b154
        replace b155 : q_F (y141.toInt ≤ t0_4.toInt) := b155
        replace b156 : q_F (t0_5.toInt ≤ y142.toInt) := b156
        replace b157 : q_F (y142.toInt ≤ t0_5.toInt) := b157
        replace b158 : q_F (t0_6.toInt ≤ y143.toInt) := b158
        replace b159 : q_F (y143.toInt ≤ t0_6.toInt) := b159
        replace hA127 := (hu161 _ (by decide)).trans hA127
        replace hA110 := (hu161 _ (by decide)).trans hA110
        replace hA112 := (hu161 _ (by decide)).trans hA112
        replace hA67 := (hu161 _ (by decide)).trans hA67
        replace hA75 := (hu161 _ (by decide)).trans hA75
        replace hF := q_uc hF hu161 (by simp)
        have hR173 := (show F_WR_divide_c137 x2 x3 x4 x5 t0_0 t0_1 t0_2 t0_3 t0_4 t0_5 t0_6 t1_0 t2_0 t3_0 t4_0 t5_0 t6_0 t7_0 lx42 a81 f66 f74 lx89 p115 f126 f109 f111 p162 = (F_WR_divide x2 x3 x4 x5 t0_0 t0_1 t0_2 t0_3 t0_4 t0_5 t0_6 t1_0 t2_0 t3_0 t4_0 t5_0 t6_0 t7_0) from Eq.trans (by rw [e163, e130, e118, e117, F_WR_divide_c115.eq_1]) hR119)
        have hS174 := (show True ∧ S_WR_divide_c137 x2 x3 x4 x5 t0_0 t0_1 t0_2 t0_3 t0_4 t0_5 t0_6 t1_0 t2_0 t3_0 t4_0 t5_0 t6_0 t7_0 lx42 a81 f66 f74 lx89 p115 f126 f109 f111 p162 from (by rw [e163, e130, e118, e117]; have h := hS120; rw [S_WR_divide_c115.eq_1] at h; replace h := q_s2 h; with_reducible exact h))
        refine lv_aload_n hx hb d_19_24_140 rfl (lv_at hl 2 rfl) ?_
        refine q_get (ci := 13) (j := 10) (v := .ref (q 126)) C0 V i_WR rfl rfl hO136 (by decide) w_1934 rfl d_19_24_141 ?_
        refine lv_aload_n hx hb d_19_24_144 rfl (lv_at hl 2 rfl) ?_
        refine q_get (ci := 13) (j := 6) (v := .ref (q 123)) C0 V i_WR rfl rfl hO136 (by decide) w_1930 rfl d_19_24_145 ?_
        refine q_gov V (q_runS (As := [.ref (q 126), .ref (q 123)]) (rest := []) (d := 1) (mc := 0) (ms := 0) C0 V rfl LS_WR_67 (X_WR_copy l D g q u134 126 264 (n_r126 g q) 123 264 (n_r123 g q)  (by decide) hI f109 hA110 f126 hA127  _) rfl hl.1 rfl (Nat.le_of_ble_eq_true rfl) ⟨by decide, by decide⟩ ⟨Nat.le_of_ble_eq_true rfl, Nat.le_of_ble_eq_true rfl⟩ d_19_24_148) (fun u178 H locs hp179 V => ?_)
        obtain ⟨hI, hu183, f180, hA181, hE182⟩ := hp179
        replace hA181 : u178[123]? = (some (q 123, .inl (g 0, (264 : Int32).toNatClampNeg, .inl f180)) : Option (Nat × va_E)) := hA181
        have e184 : f180 = (F_WR_copy (264 : Int32) (264 : Int32) f109 f126) := hE182
        replace hO136 := (hu183 _ (by decide)).trans hO136
        replace hA145 := (hu183 _ (by decide)).trans hA145
        replace hA147 := (hu183 _ (by decide)).trans hA147
        replace hA110 := (hu183 _ (by decide)).trans hA110
        replace hA112 := (hu183 _ (by decide)).trans hA112
        replace hA67 := (hu183 _ (by decide)).trans hA67
        replace hA75 := (hu183 _ (by decide)).trans hA75
        replace hF := q_uc hF hu183 (by simp)
        refine lv_aload_n hx hb d_19_24_151 rfl (lv_at hl 2 rfl) ?_
        refine lv_iload hx hb d_19_24_152 (lv_at hl 1 rfl) ?_
        have ob187 : q_F (0 ≤ a81.toInt) := (by have h := hS174; rw [S_WR_divide_c137.eq_1] at h; exact h.2.1)
        have ob188 : q_F (a81.toInt ≤ 1) := (by have h := hS174; rw [S_WR_divide_c137.eq_1] at h; replace h := q_s2 h; exact h.2.1)
        refine q_put (ci := 13) (j := 7) (v := .int a81) (ty := .boolean) C0 V i_WR o_WR n_WR rfl rfl hO136 (by decide) w_1931 rfl rfl (q_nz01 (q_Ile (x := 0) (y := a81.toInt) (by decide) rfl (by first | with_reducible exact q_fe ob187 | (have t1 : 0 ≤ a81.toInt := ob187; omega))) (q_Ile (x := a81.toInt) (y := 1) rfl (by decide) (by first | with_reducible exact q_fe ob188 | (have t1 : a81.toInt ≤ 1 := ob188; omega)))) (q_fz01 (q_Ile (x := 0) (y := a81.toInt) (by decide) rfl (by first | with_reducible exact q_fe ob187 | (have t1 : 0 ≤ a81.toInt := ob187; omega))) (q_Ile (x := a81.toInt) (y := 1) rfl (by decide) (by first | with_reducible exact q_fe ob188 | (have t1 : a81.toInt ≤ 1 := ob188; omega)))) (Nat.le_of_ble_eq_true rfl) d_19_24_154 (fun H locs w185 hu186 hO136 V => ?_)
        replace hO136 : w185[119]? = (some (q 119, .inr (13, [.int y137, .int y138, .ref (q 120), .int y139, .ref (q 121), .ref (q 122), .ref (q 123), .int a81, .ref (q 124), .ref (q 125), .ref (q 126), .ref (q 127), .ref (q 128), .ref (q 129), .ref (q 130), .ref (q 131), .int y141, .int y142, .ref (q 132), .ref (q 133), .int y143])) : Option (Nat × va_E)) := hO136
        replace hI := n_p119 hI hu186 hO136 ⟨(by have t1 : 0 ≤ t0_2.toInt ∧ t0_2.toInt ≤ 4100 := btt0_2; have t2 : t0_2.toInt ≤ y139.toInt := b150; omega), (by have t1 : 0 ≤ t0_2.toInt ∧ t0_2.toInt ≤ 4100 := btt0_2; have t2 : y139.toInt ≤ t0_2.toInt := b151; omega)⟩ ⟨(by first | with_reducible exact q_fe ob187 | (have t1 : 0 ≤ a81.toInt := ob187; omega)), (by first | with_reducible exact q_fe ob188 | (have t1 : a81.toInt ≤ 1 := ob188; omega))⟩ ⟨(by have t1 : 0 ≤ t0_4.toInt ∧ t0_4.toInt ≤ 1 := btt0_4; have t2 : t0_4.toInt ≤ y141.toInt := b154; omega), (by have t1 : 0 ≤ t0_4.toInt ∧ t0_4.toInt ≤ 1 := btt0_4; have t2 : y141.toInt ≤ t0_4.toInt := b155; omega)⟩ ⟨(by have t1 : 0 ≤ t0_5.toInt ∧ t0_5.toInt ≤ 1 := btt0_5; have t2 : t0_5.toInt ≤ y142.toInt := b156; omega), (by have t1 : 0 ≤ t0_5.toInt ∧ t0_5.toInt ≤ 1 := btt0_5; have t2 : y142.toInt ≤ t0_5.toInt := b157; omega)⟩ ⟨(by have t1 : 0 ≤ t0_6.toInt ∧ t0_6.toInt ≤ 2100 := btt0_6; have t2 : t0_6.toInt ≤ y143.toInt := b158; omega), (by have t1 : 0 ≤ t0_6.toInt ∧ t0_6.toInt ≤ 2100 := btt0_6; have t2 : y143.toInt ≤ t0_6.toInt := b159; omega)⟩
        replace hA145 := (hu186 _ (by decide)).trans hA145
        replace hA147 := (hu186 _ (by decide)).trans hA147
        replace hA181 := (hu186 _ (by decide)).trans hA181
        replace hA110 := (hu186 _ (by decide)).trans hA110
        replace hA112 := (hu186 _ (by decide)).trans hA112
        replace hA67 := (hu186 _ (by decide)).trans hA67
        replace hA75 := (hu186 _ (by decide)).trans hA75
        replace hF := q_us hF hu186 (by simp)
        refine lv_aload_n hx hb d_19_24_157 rfl (lv_at hl 2 rfl) ?_
        refine lv_iload hx hb d_19_24_158 (lv_at hl 4 rfl) ?_
        have ob189 : True ∧ S_WR_store x5 y137 y138 y139 a81 y141 y142 y143 f144 f146 f180 := (by rw [e184, e172, e171, e170, e169, e168, e166, e165, e164]; have h := hS174; rw [S_WR_divide_c137.eq_1] at h; replace h := q_s2 h; replace h := q_s2 h; with_reducible exact h.2.1)
        refine q_gov V (q_runV (As := [.int x5]) (rest := []) (d := 2) (mc := 0) (ms := 0) (ci := 13) C0 V rfl LV_WR_103 (X_WR_store l D g q w185  x5 hI y137 y138 y139 a81 y141 y142 y143 hO136 f144 hA145 f146 hA147 f180 hA181 ob189 _) rfl rfl hO136 rfl hl.1 rfl (Nat.le_of_ble_eq_true rfl) ⟨by decide, by decide⟩ ⟨Nat.le_of_ble_eq_true rfl, Nat.le_of_ble_eq_true rfl⟩ d_19_24_160) (fun u190 H locs hp191 V => ?_)
        obtain ⟨hI, hZ9⟩ := hp191
        obtain ⟨hu217, hZ9⟩ := hZ9
        obtain ⟨y193, hZ9⟩ := hZ9
        obtain ⟨y194, hZ9⟩ := hZ9
        obtain ⟨y195, hZ9⟩ := hZ9
        obtain ⟨y196, hZ9⟩ := hZ9
        obtain ⟨y197, hZ9⟩ := hZ9
        obtain ⟨y198, hZ9⟩ := hZ9
        obtain ⟨y199, hZ9⟩ := hZ9
        obtain ⟨f200, hZ9⟩ := hZ9
        obtain ⟨f202, hZ9⟩ := hZ9
        obtain ⟨hO192, hZ9⟩ := hZ9
        obtain ⟨hA201, hZ9⟩ := hZ9
        obtain ⟨hA203, hZ9⟩ := hZ9
        obtain ⟨b204, hZ9⟩ := hZ9
        obtain ⟨b205, hZ9⟩ := hZ9
        obtain ⟨b206, hZ9⟩ := hZ9
        obtain ⟨b207, hZ9⟩ := hZ9
        obtain ⟨b208, hZ9⟩ := hZ9
        obtain ⟨b209, hZ9⟩ := hZ9
        obtain ⟨b210, hZ9⟩ := hZ9
        obtain ⟨b211, hZ9⟩ := hZ9
        obtain ⟨b212, hZ9⟩ := hZ9
        obtain ⟨b213, hZ9⟩ := hZ9
        obtain ⟨b214, hZ9⟩ := hZ9
        obtain ⟨b215, hE216⟩ := hZ9
        replace hO192 : u190[119]? = (some (q 119, .inr (13, [.int y193, .int y194, .ref (q 120), .int y195, .ref (q 121), .ref (q 122), .ref (q 123), .int y196, .ref (q 124), .ref (q 125), .ref (q 126), .ref (q 127), .ref (q 128), .ref (q 129), .ref (q 130), .ref (q 131), .int y197, .int y198, .ref (q 132), .ref (q 133), .int y199])) : Option (Nat × va_E)) := hO192
        replace hA201 : u190[121]? = (some (q 121, .inl (g 0, (1408 : Int32).toNatClampNeg, .inl f200)) : Option (Nat × va_E)) := hA201
        replace hA203 : u190[122]? = (some (q 122, .inl (g 3, 11, .inl f202)) : Option (Nat × va_E)) := hA203
        obtain ⟨p218, e219⟩ : ∃ z, z = (F_WR_store x5 y137 y138 y139 a81 y141 y142 y143 f144 f146 f180) := ⟨_, rfl⟩
        have e220 : y193 = p218.1 := congrArg (fun z => z.1) (hE216.trans e219.symm)
        have e221 : y194 = p218.2.1 := congrArg (fun z => z.2.1) (hE216.trans e219.symm)
        have e222 : y195 = p218.2.2.1 := congrArg (fun z => z.2.2.1) (hE216.trans e219.symm)
        have e223 : y196 = p218.2.2.2.1 := congrArg (fun z => z.2.2.2.1) (hE216.trans e219.symm)
        have e224 : y197 = p218.2.2.2.2.1 := congrArg (fun z => z.2.2.2.2.1) (hE216.trans e219.symm)
        have e225 : y198 = p218.2.2.2.2.2.1 := congrArg (fun z => z.2.2.2.2.2.1) (hE216.trans e219.symm)
        have e226 : y199 = p218.2.2.2.2.2.2.1 := congrArg (fun z => z.2.2.2.2.2.2.1) (hE216.trans e219.symm)
        have e227 : f200 = p218.2.2.2.2.2.2.2.1 := congrArg (fun z => z.2.2.2.2.2.2.2.1) (hE216.trans e219.symm)
        have e228 : f202 = p218.2.2.2.2.2.2.2.2 := congrArg (fun z => z.2.2.2.2.2.2.2.2) (hE216.trans e219.symm)
        replace b204 : q_F (y138.toInt ≤ y194.toInt) := b204
        replace b205 : q_F (y194.toInt ≤ y138.toInt) := b205
        replace b206 : q_F (y139.toInt ≤ y195.toInt) := b206
        replace b207 : q_F (y195.toInt ≤ y139.toInt) := b207
        replace b208 : q_F (a81.toInt ≤ y196.toInt) := b208
        replace b209 : q_F (y196.toInt ≤ a81.toInt) := b209
        replace b210 : q_F (y141.toInt ≤ y197.toInt) := b210
        replace b211 : q_F (y197.toInt ≤ y141.toInt) := b211
        replace b212 : q_F (y142.toInt ≤ y198.toInt) := b212
        replace b213 : q_F (y198.toInt ≤ y142.toInt) := b213
        replace b214 : q_F (y143.toInt ≤ y199.toInt) := b214
        replace b215 : q_F (y199.toInt ≤ y143.toInt) := b215
        replace hA181 := (hu217 _ (by decide)).trans hA181
        replace hA110 := (hu217 _ (by decide)).trans hA110
        replace hA112 := (hu217 _ (by decide)).trans hA112
        replace hA67 := (hu217 _ (by decide)).trans hA67
        replace hA75 := (hu217 _ (by decide)).trans hA75
        replace hF := q_uc hF hu217 (by simp)
        have hR229 := (show F_WR_divide_c160 x2 x3 x4 x5 t0_0 t0_1 t0_2 t0_3 t0_4 t0_5 t0_6 t1_0 t2_0 t3_0 t4_0 t5_0 t6_0 t7_0 lx42 a81 f66 f74 lx89 p115 f126 f109 f111 p162 f180 p218 = (F_WR_divide x2 x3 x4 x5 t0_0 t0_1 t0_2 t0_3 t0_4 t0_5 t0_6 t1_0 t2_0 t3_0 t4_0 t5_0 t6_0 t7_0) from Eq.trans (by rw [e219, e184, e172, e171, e170, e169, e168, e166, e165, e164, F_WR_divide_c137.eq_1]) hR173)
        have hS230 := (show True ∧ S_WR_divide_c160 x2 x3 x4 x5 t0_0 t0_1 t0_2 t0_3 t0_4 t0_5 t0_6 t1_0 t2_0 t3_0 t4_0 t5_0 t6_0 t7_0 lx42 a81 f66 f74 lx89 p115 f126 f109 f111 p162 f180 p218 from (by rw [e219, e184, e172, e171, e170, e169, e168, e166, e165, e164]; have h := hS174; rw [S_WR_divide_c137.eq_1] at h; replace h := q_s2 h; replace h := q_s2 h; replace h := q_s2 h; with_reducible exact h))
        exact q_retv C0 V (⟨hI, hF, y193, y194, y195, y196, y197, y198, y199, f200, f202, f180, f109, f111, f66, f74, hO192, hA201, hA203, hA181, hA110, hA112, hA67, hA75, (show 0 ≤ y196.toInt from (by have t1 : 0 ≤ a81.toInt := ob187; have t2 : a81.toInt ≤ y196.toInt := b208; omega)), (show y196.toInt ≤ 1 from (by have t1 : a81.toInt ≤ 1 := ob188; have t2 : y196.toInt ≤ a81.toInt := b209; omega)), (show t0_1.toInt ≤ y194.toInt from (by have t1 : t0_1.toInt ≤ y138.toInt := b148; have t2 : y138.toInt ≤ y194.toInt := b204; omega)), (show y194.toInt ≤ t0_1.toInt from (by have t1 : y138.toInt ≤ t0_1.toInt := b149; have t2 : y194.toInt ≤ y138.toInt := b205; omega)), (show t0_2.toInt ≤ y195.toInt from (by have t1 : t0_2.toInt ≤ y139.toInt := b150; have t2 : y139.toInt ≤ y195.toInt := b206; omega)), (show y195.toInt ≤ t0_2.toInt from (by have t1 : y139.toInt ≤ t0_2.toInt := b151; have t2 : y195.toInt ≤ y139.toInt := b207; omega)), (show t0_4.toInt ≤ y197.toInt from (by have t1 : t0_4.toInt ≤ y141.toInt := b154; have t2 : y141.toInt ≤ y197.toInt := b210; omega)), (show y197.toInt ≤ t0_4.toInt from (by have t1 : y141.toInt ≤ t0_4.toInt := b155; have t2 : y197.toInt ≤ y141.toInt := b211; omega)), (show t0_5.toInt ≤ y198.toInt from (by have t1 : t0_5.toInt ≤ y142.toInt := b156; have t2 : y142.toInt ≤ y198.toInt := b212; omega)), (show y198.toInt ≤ t0_5.toInt from (by have t1 : y142.toInt ≤ t0_5.toInt := b157; have t2 : y198.toInt ≤ y142.toInt := b213; omega)), (show t0_6.toInt ≤ y199.toInt from (by have t1 : t0_6.toInt ≤ y143.toInt := b158; have t2 : y143.toInt ≤ y199.toInt := b214; omega)), (show y199.toInt ≤ t0_6.toInt from (by have t1 : y143.toInt ≤ t0_6.toInt := b159; have t2 : y199.toInt ≤ y143.toInt := b215; omega)), (show (y193, y194, y195, y196, y197, y198, y199, f200, f202, f180, f109, f111, f66, f74) = (F_WR_divide x2 x3 x4 x5 t0_0 t0_1 t0_2 t0_3 t0_4 t0_5 t0_6 t1_0 t2_0 t3_0 t4_0 t5_0 t6_0 t7_0) from Eq.trans (by rw [e228, e227, e226, e225, e224, e223, e222, e221, e220, F_WR_divide_c160.eq_1]) hR229)⟩) d_19_24_163
      ·
        intro J98
        refine lv_icmp_eq (tgt := 103) hx hb d_19_24_96 (by decide) (fun c234 => ?_) (fun c234 => ?_)
        ·
          refine lv_iconst (v := 0) hx hb d_19_24_103 (by decide) ?_
          exact J98 ((0 : Int32)) _ _ _ u72 ⟨(show q_F (lx42.toInt ≤ 0) from (show lx42.toInt ≤ 0 from by have t1 : lx42.toInt ≤ 0 := b62; omega)), (show q_F (0 ≤ lx42.toInt + 1) from (show 0 ≤ lx42.toInt + 1 from by have t1 : 0 ≤ lx42.toInt := i52; omega)), V, q_lw hl (q_lw1 0 rfl (q_lw1 1 rfl (q_lw1 4 rfl (q_lw1 5 rfl q_lw0)))), (show F_WR_divide_J104 x2 x3 x4 x5 t0_0 t0_1 t0_2 t0_3 t0_4 t0_5 t0_6 t1_0 t2_0 t3_0 t4_0 t5_0 t6_0 t7_0 lx42 a81 f66 f74 0 = (F_WR_divide x2 x3 x4 x5 t0_0 t0_1 t0_2 t0_3 t0_4 t0_5 t0_6 t1_0 t2_0 t3_0 t4_0 t5_0 t6_0 t7_0) from Eq.trans (by have c234x := c234; rw [← e88, ← e84] at c234x; rw [← e82, e78, e70, F_WR_divide_J47.eq_1, if_pos c61, if_pos c234x]) hR54), (show True ∧ S_WR_divide_J104 x2 x3 x4 x5 t0_0 t0_1 t0_2 t0_3 t0_4 t0_5 t0_6 t1_0 t2_0 t3_0 t4_0 t5_0 t6_0 t7_0 lx42 a81 f66 f74 0 from (by rw [← e82, e78, e70]; have h := hS55; rw [S_WR_divide_J47.eq_1] at h; rw [if_pos c61] at h; replace h := q_s2 h; replace h := q_s2 h; replace h := q_s2 h; replace h := q_s2 h; replace h := q_s2 h; replace h := q_s2 h; have c234x := c234; rw [← e88, ← e84] at c234x; rw [if_pos c234x] at h; with_reducible exact h))⟩
        ·
          refine lv_iconst (v := 1) hx hb d_19_24_99 (by decide) ?_
          refine lv_goto (tgt := 104) hx hb d_19_24_100 (by decide) ?_
          exact J98 ((1 : Int32)) _ _ _ u72 ⟨(show q_F (lx42.toInt ≤ 1) from (show lx42.toInt ≤ 1 from by have t1 : lx42.toInt ≤ 0 := b62; omega)), (show q_F (1 ≤ lx42.toInt + 1) from (show 1 ≤ lx42.toInt + 1 from by have t1 : 0 ≤ lx42.toInt := i52; omega)), V, q_lw hl (q_lw1 0 rfl (q_lw1 1 rfl (q_lw1 4 rfl (q_lw1 5 rfl q_lw0)))), (show F_WR_divide_J104 x2 x3 x4 x5 t0_0 t0_1 t0_2 t0_3 t0_4 t0_5 t0_6 t1_0 t2_0 t3_0 t4_0 t5_0 t6_0 t7_0 lx42 a81 f66 f74 1 = (F_WR_divide x2 x3 x4 x5 t0_0 t0_1 t0_2 t0_3 t0_4 t0_5 t0_6 t1_0 t2_0 t3_0 t4_0 t5_0 t6_0 t7_0) from Eq.trans (by have c234x := c234; rw [← e88, ← e84] at c234x; rw [← e82, e78, e70, F_WR_divide_J47.eq_1, if_pos c61, if_neg c234x]) hR54), (show True ∧ S_WR_divide_J104 x2 x3 x4 x5 t0_0 t0_1 t0_2 t0_3 t0_4 t0_5 t0_6 t1_0 t2_0 t3_0 t4_0 t5_0 t6_0 t7_0 lx42 a81 f66 f74 1 from (by rw [← e82, e78, e70]; have h := hS55; rw [S_WR_divide_J47.eq_1] at h; rw [if_pos c61] at h; replace h := q_s2 h; replace h := q_s2 h; replace h := q_s2 h; replace h := q_s2 h; replace h := q_s2 h; replace h := q_s2 h; have c234x := c234; rw [← e88, ← e84] at c234x; rw [if_neg c234x] at h; with_reducible exact h))⟩
    ·
      exact q_retv C0 V (⟨hI, hF, lx42, t0_1, t0_2, t0_3, t0_4, t0_5, t0_6, t1_0, t2_0, t3_0, t4_0, t5_0, t6_0, t7_0, hT0, hT1, hT2, hT3, hT4, hT5, hT6, hT7, (show 0 ≤ t0_3.toInt from (by first | with_reducible exact (q_fe btt0_3).2 | with_reducible exact (q_fe btt0_3).1 | (have t1 : 0 ≤ t0_3.toInt ∧ t0_3.toInt ≤ 1 := btt0_3; omega))), (show t0_3.toInt ≤ 1 from (by first | with_reducible exact (q_fe btt0_3).2 | with_reducible exact (q_fe btt0_3).1 | (have t1 : 0 ≤ t0_3.toInt ∧ t0_3.toInt ≤ 1 := btt0_3; omega))), (show t0_1.toInt ≤ t0_1.toInt from (by omega)), (show t0_1.toInt ≤ t0_1.toInt from (by omega)), (show t0_2.toInt ≤ t0_2.toInt from (by omega)), (show t0_2.toInt ≤ t0_2.toInt from (by omega)), (show t0_4.toInt ≤ t0_4.toInt from (by omega)), (show t0_4.toInt ≤ t0_4.toInt from (by omega)), (show t0_5.toInt ≤ t0_5.toInt from (by omega)), (show t0_5.toInt ≤ t0_5.toInt from (by omega)), (show t0_6.toInt ≤ t0_6.toInt from (by omega)), (show t0_6.toInt ≤ t0_6.toInt from (by omega)), (show (lx42, t0_1, t0_2, t0_3, t0_4, t0_5, t0_6, t1_0, t2_0, t3_0, t4_0, t5_0, t6_0, t7_0) = (F_WR_divide x2 x3 x4 x5 t0_0 t0_1 t0_2 t0_3 t0_4 t0_5 t0_6 t1_0 t2_0 t3_0 t4_0 t5_0 t6_0 t7_0) from Eq.trans (by rw [F_WR_divide_J47.eq_1, if_neg c61]) hR54)⟩) d_19_24_57
  ·
    intro J51
    refine q_join (X := Unit) (fun z H locs ls _ => q_Wd D g (va_A ws sz) s ws H locs ∧ lv_has ls 7 [(0, .ref (q 119)), (1, .int x2), (2, .int x3), (3, .int x4), (4, .int x5)] ∧ F_WR_divide_J30 x2 x3 x4 x5 t0_0 t0_1 t0_2 t0_3 t0_4 t0_5 t0_6 t1_0 t2_0 t3_0 t4_0 t5_0 t6_0 t7_0 = (F_WR_divide x2 x3 x4 x5 t0_0 t0_1 t0_2 t0_3 t0_4 t0_5 t0_6 t1_0 t2_0 t3_0 t4_0 t5_0 t6_0 t7_0) ∧ True ∧ S_WR_divide_J30 x2 x3 x4 x5 t0_0 t0_1 t0_2 t0_3 t0_4 t0_5 t0_6 t1_0 t2_0 t3_0 t4_0 t5_0 t6_0 t7_0) (fun z => [.ref (q 119)]) 30 0 0 ?_ ?_
    ·
      rintro _ H locs ls _ ⟨V, hl, hR247, hS248⟩
      replace hl : lv_has ls 7 [(0, .ref (q 119)), (1, .int x2), (2, .int x3), (3, .int x4), (4, .int x5)] := hl
      refine lv_iconst (v := 1) hx hb d_19_24_30 (by decide) ?_
      refine lv_goto (tgt := 47) hx hb d_19_24_31 (by decide) ?_
      exact J51 ((1 : Int32)) _ _ _ ws ⟨(show q_F (0 ≤ 1) from (show 0 ≤ 1 from by omega)), (show q_F (1 ≤ 2) from (show 1 ≤ 2 from by omega)), V, q_lw hl (q_lw1 0 rfl (q_lw1 1 rfl (q_lw1 2 rfl (q_lw1 3 rfl (q_lw1 4 rfl q_lw0))))), (show F_WR_divide_J47 x2 x3 x4 x5 t0_0 t0_1 t0_2 t0_3 t0_4 t0_5 t0_6 t1_0 t2_0 t3_0 t4_0 t5_0 t6_0 t7_0 1 = (F_WR_divide x2 x3 x4 x5 t0_0 t0_1 t0_2 t0_3 t0_4 t0_5 t0_6 t1_0 t2_0 t3_0 t4_0 t5_0 t6_0 t7_0) from Eq.trans (by rw [F_WR_divide_J30.eq_1]) hR247), (show True ∧ S_WR_divide_J47 x2 x3 x4 x5 t0_0 t0_1 t0_2 t0_3 t0_4 t0_5 t0_6 t1_0 t2_0 t3_0 t4_0 t5_0 t6_0 t7_0 1 from (by have h := hS248; rw [S_WR_divide_J30.eq_1] at h; with_reducible exact h))⟩
    ·
      intro J246
      refine lv_if_ne (tgt := 30) hx hb d_19_24_5 (by decide) (fun c252 => ?_) (fun c252 => ?_)
      ·
        exact J246 (()) _ _ _ ws ⟨V, q_lw hl (q_lw1 0 rfl (q_lw1 1 rfl (q_lw1 2 rfl (q_lw1 3 rfl (q_lw1 4 rfl q_lw0))))), (show F_WR_divide_J30 x2 x3 x4 x5 t0_0 t0_1 t0_2 t0_3 t0_4 t0_5 t0_6 t1_0 t2_0 t3_0 t4_0 t5_0 t6_0 t7_0 = (F_WR_divide x2 x3 x4 x5 t0_0 t0_1 t0_2 t0_3 t0_4 t0_5 t0_6 t1_0 t2_0 t3_0 t4_0 t5_0 t6_0 t7_0) from (by have c252x := c252; rw [e41] at c252x; rw [F_WR_divide.eq_1, if_neg c252x])), (show True ∧ S_WR_divide_J30 x2 x3 x4 x5 t0_0 t0_1 t0_2 t0_3 t0_4 t0_5 t0_6 t1_0 t2_0 t3_0 t4_0 t5_0 t6_0 t7_0 from (by have h := hS; rw [S_WR_divide.eq_1] at h; have c252x := c252; rw [e41] at c252x; rw [if_neg c252x] at h; with_reducible exact h))⟩
      ·
        refine lv_iload_n hx hb d_19_24_8 rfl (lv_at hl 2 rfl) ?_
        refine q_goi V (q_runS (As := [.int x3]) (rest := [.ref (q 119)]) (d := 1) (mc := 0) (ms := 0) C0 V rfl LS_WR_91 (X_WR_no l D g q ws  x3 hI   _) rfl hl.1 rfl (Nat.le_of_ble_eq_true rfl) ⟨by decide, by decide⟩ ⟨Nat.le_of_ble_eq_true rfl, Nat.le_of_ble_eq_true rfl⟩ d_19_24_9) (fun a257 u255 H locs hp256 V => ?_)
        obtain ⟨rfl, b258, b259, hE260⟩ := hp256
        have e261 : a257 = (F_WR_no x3) := hE260
        clear b258
        clear b259
        refine lv_if_ne (tgt := 30) hx hb d_19_24_12 (by decide) (fun c262 => ?_) (fun c262 => ?_)
        ·
          exact J246 (()) _ _ _ ws ⟨V, q_lw hl (q_lw1 0 rfl (q_lw1 1 rfl (q_lw1 2 rfl (q_lw1 3 rfl (q_lw1 4 rfl q_lw0))))), (show F_WR_divide_J30 x2 x3 x4 x5 t0_0 t0_1 t0_2 t0_3 t0_4 t0_5 t0_6 t1_0 t2_0 t3_0 t4_0 t5_0 t6_0 t7_0 = (F_WR_divide x2 x3 x4 x5 t0_0 t0_1 t0_2 t0_3 t0_4 t0_5 t0_6 t1_0 t2_0 t3_0 t4_0 t5_0 t6_0 t7_0) from (by have c252x := c252; rw [e41] at c252x; have c262x := c262; rw [e261] at c262x; rw [F_WR_divide.eq_1, if_pos c252x, if_neg c262x])), (show True ∧ S_WR_divide_J30 x2 x3 x4 x5 t0_0 t0_1 t0_2 t0_3 t0_4 t0_5 t0_6 t1_0 t2_0 t3_0 t4_0 t5_0 t6_0 t7_0 from (by have h := hS; rw [S_WR_divide.eq_1] at h; have c252x := c252; rw [e41] at c252x; rw [if_pos c252x] at h; have c262x := c262; rw [e261] at c262x; rw [if_neg c262x] at h; with_reducible exact h))⟩
        ·
          refine lv_iload_n hx hb d_19_24_15 rfl (lv_at hl 3 rfl) ?_
          refine q_goi V (q_runS (As := [.int x4]) (rest := [.ref (q 119)]) (d := 1) (mc := 0) (ms := 0) C0 V rfl LS_WR_91 (X_WR_no l D g q ws  x4 hI   _) rfl hl.1 rfl (Nat.le_of_ble_eq_true rfl) ⟨by decide, by decide⟩ ⟨Nat.le_of_ble_eq_true rfl, Nat.le_of_ble_eq_true rfl⟩ d_19_24_16) (fun a267 u265 H locs hp266 V => ?_)
          obtain ⟨rfl, b268, b269, hE270⟩ := hp266
          have e271 : a267 = (F_WR_no x4) := hE270
          clear b268
          clear b269
          refine lv_if_ne (tgt := 30) hx hb d_19_24_19 (by decide) (fun c272 => ?_) (fun c272 => ?_)
          ·
            exact J246 (()) _ _ _ ws ⟨V, q_lw hl (q_lw1 0 rfl (q_lw1 1 rfl (q_lw1 2 rfl (q_lw1 3 rfl (q_lw1 4 rfl q_lw0))))), (show F_WR_divide_J30 x2 x3 x4 x5 t0_0 t0_1 t0_2 t0_3 t0_4 t0_5 t0_6 t1_0 t2_0 t3_0 t4_0 t5_0 t6_0 t7_0 = (F_WR_divide x2 x3 x4 x5 t0_0 t0_1 t0_2 t0_3 t0_4 t0_5 t0_6 t1_0 t2_0 t3_0 t4_0 t5_0 t6_0 t7_0) from (by have c252x := c252; rw [e41] at c252x; have c262x := c262; rw [e261] at c262x; have c272x := c272; rw [e271] at c272x; rw [F_WR_divide.eq_1, if_pos c252x, if_pos c262x, if_neg c272x])), (show True ∧ S_WR_divide_J30 x2 x3 x4 x5 t0_0 t0_1 t0_2 t0_3 t0_4 t0_5 t0_6 t1_0 t2_0 t3_0 t4_0 t5_0 t6_0 t7_0 from (by have h := hS; rw [S_WR_divide.eq_1] at h; have c252x := c252; rw [e41] at c252x; rw [if_pos c252x] at h; have c262x := c262; rw [e261] at c262x; rw [if_pos c262x] at h; have c272x := c272; rw [e271] at c272x; rw [if_neg c272x] at h; with_reducible exact h))⟩
          ·
            refine lv_iload hx hb d_19_24_22 (lv_at hl 4 rfl) ?_
            refine q_goi V (q_runS (As := [.int x5]) (rest := [.ref (q 119)]) (d := 1) (mc := 0) (ms := 0) C0 V rfl LS_WR_91 (X_WR_no l D g q ws  x5 hI   _) rfl hl.1 rfl (Nat.le_of_ble_eq_true rfl) ⟨by decide, by decide⟩ ⟨Nat.le_of_ble_eq_true rfl, Nat.le_of_ble_eq_true rfl⟩ d_19_24_24) (fun a277 u275 H locs hp276 V => ?_)
            obtain ⟨rfl, b278, b279, hE280⟩ := hp276
            have e281 : a277 = (F_WR_no x5) := hE280
            clear b278
            clear b279
            refine lv_if_eq (tgt := 34) hx hb d_19_24_27 (by decide) (fun c282 => ?_) (fun c282 => ?_)
            ·
              refine lv_aload_n hx hb d_19_24_34 rfl (lv_at hl 0 rfl) ?_
              refine lv_iload_n hx hb d_19_24_35 rfl (lv_at hl 2 rfl) ?_
              have ob284 : True ∧ S_WR_isZero x3 t0_0 t0_1 t0_2 t0_3 t0_4 t0_5 t0_6 t1_0 := (by have h := hS; rw [S_WR_divide.eq_1] at h; have c252x := c252; rw [e41] at c252x; rw [if_pos c252x] at h; have c262x := c262; rw [e261] at c262x; rw [if_pos c262x] at h; have c272x := c272; rw [e271] at c272x; rw [if_pos c272x] at h; have c282x := c282; rw [e281] at c282x; rw [if_pos c282x] at h; with_reducible exact h.2.1)
              refine q_goi V (q_runV (As := [.int x3]) (rest := [.ref (q 119)]) (d := 1) (mc := 0) (ms := 0) (ci := 13) C0 V rfl LV_WR_119 (X_WR_isZero l D g q ws  x3 hI t0_0 t0_1 t0_2 t0_3 t0_4 t0_5 t0_6 hT0 t1_0 hT1 ob284 _) rfl rfl hT0 rfl hl.1 rfl (Nat.le_of_ble_eq_true rfl) ⟨by decide, by decide⟩ ⟨Nat.le_of_ble_eq_true rfl, Nat.le_of_ble_eq_true rfl⟩ d_19_24_36) (fun a287 u285 H locs hp286 V => ?_)
              obtain ⟨rfl, b288, b289, hE290⟩ := hp286
              have e291 : a287 = (F_WR_isZero x3 t0_0 t0_1 t0_2 t0_3 t0_4 t0_5 t0_6 t1_0) := hE290
              clear b288
              clear b289
              refine lv_if_eq (tgt := 46) hx hb d_19_24_39 (by decide) (fun c292 => ?_) (fun c292 => ?_)
              ·
                refine lv_iconst (v := 0) hx hb d_19_24_46 (by decide) ?_
                exact J51 ((0 : Int32)) _ _ _ ws ⟨(show q_F (0 ≤ 0) from (show 0 ≤ 0 from by omega)), (show q_F (0 ≤ 2) from (show 0 ≤ 2 from by omega)), V, q_lw hl (q_lw1 0 rfl (q_lw1 1 rfl (q_lw1 2 rfl (q_lw1 3 rfl (q_lw1 4 rfl q_lw0))))), (show F_WR_divide_J47 x2 x3 x4 x5 t0_0 t0_1 t0_2 t0_3 t0_4 t0_5 t0_6 t1_0 t2_0 t3_0 t4_0 t5_0 t6_0 t7_0 0 = (F_WR_divide x2 x3 x4 x5 t0_0 t0_1 t0_2 t0_3 t0_4 t0_5 t0_6 t1_0 t2_0 t3_0 t4_0 t5_0 t6_0 t7_0) from (by have c252x := c252; rw [e41] at c252x; have c262x := c262; rw [e261] at c262x; have c272x := c272; rw [e271] at c272x; have c282x := c282; rw [e281] at c282x; have c292x := c292; rw [e291] at c292x; rw [F_WR_divide.eq_1, if_pos c252x, if_pos c262x, if_pos c272x, if_pos c282x, if_pos c292x])), (show True ∧ S_WR_divide_J47 x2 x3 x4 x5 t0_0 t0_1 t0_2 t0_3 t0_4 t0_5 t0_6 t1_0 t2_0 t3_0 t4_0 t5_0 t6_0 t7_0 0 from (by have h := hS; rw [S_WR_divide.eq_1] at h; have c252x := c252; rw [e41] at c252x; rw [if_pos c252x] at h; have c262x := c262; rw [e261] at c262x; rw [if_pos c262x] at h; have c272x := c272; rw [e271] at c272x; rw [if_pos c272x] at h; have c282x := c282; rw [e281] at c282x; rw [if_pos c282x] at h; replace h := q_s2 h; have c292x := c292; rw [e291] at c292x; rw [if_pos c292x] at h; with_reducible exact h))⟩
              ·
                refine lv_iconst (v := 2) hx hb d_19_24_42 (by decide) ?_
                refine lv_goto (tgt := 47) hx hb d_19_24_43 (by decide) ?_
                exact J51 ((2 : Int32)) _ _ _ ws ⟨(show q_F (0 ≤ 2) from (show 0 ≤ 2 from by omega)), (show q_F (2 ≤ 2) from (show 2 ≤ 2 from by omega)), V, q_lw hl (q_lw1 0 rfl (q_lw1 1 rfl (q_lw1 2 rfl (q_lw1 3 rfl (q_lw1 4 rfl q_lw0))))), (show F_WR_divide_J47 x2 x3 x4 x5 t0_0 t0_1 t0_2 t0_3 t0_4 t0_5 t0_6 t1_0 t2_0 t3_0 t4_0 t5_0 t6_0 t7_0 2 = (F_WR_divide x2 x3 x4 x5 t0_0 t0_1 t0_2 t0_3 t0_4 t0_5 t0_6 t1_0 t2_0 t3_0 t4_0 t5_0 t6_0 t7_0) from (by have c252x := c252; rw [e41] at c252x; have c262x := c262; rw [e261] at c262x; have c272x := c272; rw [e271] at c272x; have c282x := c282; rw [e281] at c282x; have c292x := c292; rw [e291] at c292x; rw [F_WR_divide.eq_1, if_pos c252x, if_pos c262x, if_pos c272x, if_pos c282x, if_neg c292x])), (show True ∧ S_WR_divide_J47 x2 x3 x4 x5 t0_0 t0_1 t0_2 t0_3 t0_4 t0_5 t0_6 t1_0 t2_0 t3_0 t4_0 t5_0 t6_0 t7_0 2 from (by have h := hS; rw [S_WR_divide.eq_1] at h; have c252x := c252; rw [e41] at c252x; rw [if_pos c252x] at h; have c262x := c262; rw [e261] at c262x; rw [if_pos c262x] at h; have c272x := c272; rw [e271] at c272x; rw [if_pos c272x] at h; have c282x := c282; rw [e281] at c282x; rw [if_pos c282x] at h; replace h := q_s2 h; have c292x := c292; rw [e291] at c292x; rw [if_neg c292x] at h; with_reducible exact h))⟩
            ·
              exact J246 (()) _ _ _ ws ⟨V, q_lw hl (q_lw1 0 rfl (q_lw1 1 rfl (q_lw1 2 rfl (q_lw1 3 rfl (q_lw1 4 rfl q_lw0))))), (show F_WR_divide_J30 x2 x3 x4 x5 t0_0 t0_1 t0_2 t0_3 t0_4 t0_5 t0_6 t1_0 t2_0 t3_0 t4_0 t5_0 t6_0 t7_0 = (F_WR_divide x2 x3 x4 x5 t0_0 t0_1 t0_2 t0_3 t0_4 t0_5 t0_6 t1_0 t2_0 t3_0 t4_0 t5_0 t6_0 t7_0) from (by have c252x := c252; rw [e41] at c252x; have c262x := c262; rw [e261] at c262x; have c272x := c272; rw [e271] at c272x; have c282x := c282; rw [e281] at c282x; rw [F_WR_divide.eq_1, if_pos c252x, if_pos c262x, if_pos c272x, if_neg c282x])), (show True ∧ S_WR_divide_J30 x2 x3 x4 x5 t0_0 t0_1 t0_2 t0_3 t0_4 t0_5 t0_6 t1_0 t2_0 t3_0 t4_0 t5_0 t6_0 t7_0 from (by have h := hS; rw [S_WR_divide.eq_1] at h; have c252x := c252; rw [e41] at c252x; rw [if_pos c252x] at h; have c262x := c262; rw [e261] at c262x; rw [if_pos c262x] at h; have c272x := c272; rw [e271] at c272x; rw [if_pos c272x] at h; have c282x := c282; rw [e281] at c282x; rw [if_neg c282x] at h; with_reducible exact h))⟩

