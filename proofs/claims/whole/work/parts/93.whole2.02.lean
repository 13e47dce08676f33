theorem d_19_40_0 : decode prog_19_method_40_code 0 = .ok (.aload_n 0, 1) := by decide +kernel
theorem d_19_40_1 : decode prog_19_method_40_code 1 = .ok (.iload_n 1, 1) := by decide +kernel
theorem d_19_40_2 : decode prog_19_method_40_code 2 = .ok (.invokestatic 91, 3) := by decide +kernel
theorem d_19_40_20 : decode prog_19_method_40_code 20 = .ok (.putfield 53, 3) := by decide +kernel
theorem d_19_40_23 : decode prog_19_method_40_code 23 = .ok (.aload_n 0, 1) := by decide +kernel
theorem d_19_40_24 : decode prog_19_method_40_code 24 = .ok (.getfield 53, 3) := by decide +kernel
theorem d_19_40_27 : decode prog_19_method_40_code 27 = .ok (.ifCond .le 5, 3) := by decide +kernel
theorem d_19_40_32 : decode prog_19_method_40_code 32 = .ok (.aload_n 0, 1) := by decide +kernel
theorem d_19_40_33 : decode prog_19_method_40_code 33 = .ok (.getfield 16, 3) := by decide +kernel
theorem d_19_40_36 : decode prog_19_method_40_code 36 = .ok (.iload_n 1, 1) := by decide +kernel
theorem d_19_40_37 : decode prog_19_method_40_code 37 = .ok (.baload, 1) := by decide +kernel
theorem d_19_40_38 : decode prog_19_method_40_code 38 = .ok (.aload_n 0, 1) := by decide +kernel
theorem d_19_40_39 : decode prog_19_method_40_code 39 = .ok (.getfield 16, 3) := by decide +kernel
theorem d_19_40_42 : decode prog_19_method_40_code 42 = .ok (.iload_n 2, 1) := by decide +kernel
theorem d_19_40_43 : decode prog_19_method_40_code 43 = .ok (.baload, 1) := by decide +kernel
theorem d_19_40_44 : decode prog_19_method_40_code 44 = .ok (.if_icmp .eq 18, 3) := by decide +kernel
theorem d_19_40_62 : decode prog_19_method_40_code 62 = .ok (.aload_n 0, 1) := by decide +kernel
theorem d_19_40_63 : decode prog_19_method_40_code 63 = .ok (.iload_n 1, 1) := by decide +kernel
theorem d_19_40_64 : decode prog_19_method_40_code 64 = .ok (.aload_n 0, 1) := by decide +kernel
theorem d_19_40_65 : decode prog_19_method_40_code 65 = .ok (.getfield 35, 3) := by decide +kernel
theorem d_19_40_68 : decode prog_19_method_40_code 68 = .ok (.invokevirtual 107, 3) := by decide +kernel
set_option maxRecDepth 100000 in
theorem w_2655 : (Cond.code ({ cls := "NumberHouseModel$WholeRows", name := "take", desc := "(I[I)V" } : MethodName) prog_19_method_6_code (4 : Nat) (none : Option ClassFile.FieldType)) ∈ q_tbl := q_of12 15 rfl (by decide +kernel)
set_option maxRecDepth 100000 in
theorem w_2652 : (Cond.methodLink "NumberHouseModel$WholeRows" (107 : Nat) ({ cls := "NumberHouseModel$WholeRows", name := "take", desc := "(I[I)V" } : MethodName)) ∈ q_tbl := q_of12 12 rfl (by decide +kernel)
set_option maxRecDepth 100000 in
theorem w_2654 : (Cond.instanceMethod ({ cls := "NumberHouseModel$WholeRows", name := "take", desc := "(I[I)V" } : MethodName)) ∈ q_tbl := q_of12 14 rfl (by decide +kernel)
theorem ws_100 : Cond.selects "NumberHouseModel$WholeRows" (⟨"NumberHouseModel$WholeRows", "take", "(I[I)V"⟩ : MethodName) (⟨"NumberHouseModel$WholeRows", "take", "(I[I)V"⟩ : MethodName) ∈ q_tbl := q_ofs 100 (by decide +kernel) (by decide +kernel)
theorem LV_WR_107 : q_LV "NumberHouseModel$WholeRows" 107 y_WR_take prog_19_method_6_code 4 none 2 := ⟨w_2655, w_15, w_2652, w_2654, ws_100, ⟨by decide, by decide, by decide +kernel⟩⟩
theorem d_19_40_71 : decode prog_19_method_40_code 71 = .ok (.aload_n 0, 1) := by decide +kernel
theorem d_19_40_72 : decode prog_19_method_40_code 72 = .ok (.iload_n 2, 1) := by decide +kernel
theorem d_19_40_73 : decode prog_19_method_40_code 73 = .ok (.aload_n 0, 1) := by decide +kernel
theorem d_19_40_74 : decode prog_19_method_40_code 74 = .ok (.getfield 38, 3) := by decide +kernel
theorem d_19_40_77 : decode prog_19_method_40_code 77 = .ok (.invokevirtual 107, 3) := by decide +kernel
theorem d_19_40_80 : decode prog_19_method_40_code 80 = .ok (.aload_n 0, 1) := by decide +kernel
theorem d_19_40_81 : decode prog_19_method_40_code 81 = .ok (.getfield 35, 3) := by decide +kernel
theorem d_19_40_84 : decode prog_19_method_40_code 84 = .ok (.aload_n 0, 1) := by decide +kernel
theorem d_19_40_85 : decode prog_19_method_40_code 85 = .ok (.getfield 38, 3) := by decide +kernel
theorem d_19_40_88 : decode prog_19_method_40_code 88 = .ok (.invokestatic 71, 3) := by decide +kernel
theorem d_19_40_91 : decode prog_19_method_40_code 91 = .ok (.istore_n 3, 1) := by decide +kernel
theorem d_19_40_92 : decode prog_19_method_40_code 92 = .ok (.aload_n 0, 1) := by decide +kernel
theorem d_19_40_93 : decode prog_19_method_40_code 93 = .ok (.getfield 16, 3) := by decide +kernel
theorem d_19_40_96 : decode prog_19_method_40_code 96 = .ok (.iload_n 1, 1) := by decide +kernel
theorem d_19_40_97 : decode prog_19_method_40_code 97 = .ok (.baload, 1) := by decide +kernel
theorem d_19_40_98 : decode prog_19_method_40_code 98 = .ok (.ifCond .eq 8, 3) := by decide +kernel
theorem d_19_40_106 : decode prog_19_method_40_code 106 = .ok (.iload_n 3, 1) := by decide +kernel
theorem d_19_40_107 : decode prog_19_method_40_code 107 = .ok (.ireturn, 1) := by decide +kernel
theorem d_19_40_101 : decode prog_19_method_40_code 101 = .ok (.iload_n 3, 1) := by decide +kernel
theorem d_19_40_102 : decode prog_19_method_40_code 102 = .ok (.ineg, 1) := by decide +kernel
theorem d_19_40_103 : decode prog_19_method_40_code 103 = .ok (.goto 4, 3) := by decide +kernel
theorem d_19_40_47 : decode prog_19_method_40_code 47 = .ok (.aload_n 0, 1) := by decide +kernel
theorem d_19_40_48 : decode prog_19_method_40_code 48 = .ok (.getfield 16, 3) := by decide +kernel
theorem d_19_40_51 : decode prog_19_method_40_code 51 = .ok (.iload_n 1, 1) := by decide +kernel
theorem d_19_40_52 : decode prog_19_method_40_code 52 = .ok (.baload, 1) := by decide +kernel
theorem d_19_40_53 : decode prog_19_method_40_code 53 = .ok (.ifCond .eq 7, 3) := by decide +kernel
theorem d_19_40_60 : decode prog_19_method_40_code 60 = .ok (.iconst 1, 1) := by decide +kernel
theorem d_19_40_61 : decode prog_19_method_40_code 61 = .ok (.ireturn, 1) := by decide +kernel
theorem d_19_40_56 : decode prog_19_method_40_code 56 = .ok (.iconst (-1), 1) := by decide +kernel
theorem d_19_40_57 : decode prog_19_method_40_code 57 = .ok (.goto 4, 3) := by decide +kernel
theorem d_19_40_30 : decode prog_19_method_40_code 30 = .ok (.iconst 0, 1) := by decide +kernel
theorem d_19_40_31 : decode prog_19_method_40_code 31 = .ok (.ireturn, 1) := by decide +kernel
theorem d_19_40_15 : decode prog_19_method_40_code 15 = .ok (.iconst 1, 1) := by decide +kernel
theorem d_19_40_16 : decode prog_19_method_40_code 16 = .ok (.goto 4, 3) := by decide +kernel
theorem d_19_40_5 : decode prog_19_method_40_code 5 = .ok (.ifCond .ne 10, 3) := by decide +kernel
theorem d_19_40_8 : decode prog_19_method_40_code 8 = .ok (.iload_n 2, 1) := by decide +kernel
theorem d_19_40_9 : decode prog_19_method_40_code 9 = .ok (.invokestatic 91, 3) := by decide +kernel
theorem d_19_40_12 : decode prog_19_method_40_code 12 = .ok (.ifCond .eq 7, 3) := by decide +kernel
theorem d_19_40_19 : decode prog_19_method_40_code 19 = .ok (.iconst 0, 1) := by decide +kernel
def y_WR_compare : MethodName := ⟨"NumberHouseModel$WholeRows", "compare", "(II)I"⟩
def F_WR_compare_J20 (x2 : Int32) (x3 : Int32) (t0_0 : Int32) (t0_1 : Int32) (t0_2 : Int32) (t0_3 : Int32) (t0_4 : Int32) (t0_5 : Int32) (t0_6 : Int32) (t1_0 : (Nat → Int32)) (t2_0 : (Nat → Int32)) (t3_0 : (Nat → Int32)) (t4_0 : (Nat → Int32)) (lx33 : Int32) : Int32 × Int32 × Int32 × Int32 × Int32 × Int32 × Int32 × Int32 × (Nat → Int32) × (Nat → Int32) := if lx33 ≤ (0 : Int32) then (if (t2_0 x2.toNatClampNeg : Int32) = (t2_0 x3.toNatClampNeg : Int32) then (if (t2_0 x2.toNatClampNeg : Int32) = (0 : Int32) then ((((F_WR_compareRows (264 : Int32) (264 : Int32) ((F_WR_take x2 (264 : Int32) lx33 t0_1 t0_2 t0_3 t0_4 t0_5 t0_6 t1_0 t3_0) : (Nat → Int32)) ((F_WR_take x3 (264 : Int32) lx33 t0_1 t0_2 t0_3 t0_4 t0_5 t0_6 t1_0 t4_0) : (Nat → Int32))) : Int32), lx33, t0_1, t0_2, t0_3, t0_4, t0_5, t0_6, ((F_WR_take x2 (264 : Int32) lx33 t0_1 t0_2 t0_3 t0_4 t0_5 t0_6 t1_0 t3_0) : (Nat → Int32)), ((F_WR_take x3 (264 : Int32) lx33 t0_1 t0_2 t0_3 t0_4 t0_5 t0_6 t1_0 t4_0) : (Nat → Int32)))) else (((-((F_WR_compareRows (264 : Int32) (264 : Int32) ((F_WR_take x2 (264 : Int32) lx33 t0_1 t0_2 t0_3 t0_4 t0_5 t0_6 t1_0 t3_0) : (Nat → Int32)) ((F_WR_take x3 (264 : Int32) lx33 t0_1 t0_2 t0_3 t0_4 t0_5 t0_6 t1_0 t4_0) : (Nat → Int32))) : Int32) : Int32), lx33, t0_1, t0_2, t0_3, t0_4, t0_5, t0_6, ((F_WR_take x2 (264 : Int32) lx33 t0_1 t0_2 t0_3 t0_4 t0_5 t0_6 t1_0 t3_0) : (Nat → Int32)), ((F_WR_take x3 (264 : Int32) lx33 t0_1 t0_2 t0_3 t0_4 t0_5 t0_6 t1_0 t4_0) : (Nat → Int32))))) else (if (t2_0 x2.toNatClampNeg : Int32) = (0 : Int32) then (((1 : Int32), lx33, t0_1, t0_2, t0_3, t0_4, t0_5, t0_6, t3_0, t4_0)) else (((-1 : Int32), lx33, t0_1, t0_2, t0_3, t0_4, t0_5, t0_6, t3_0, t4_0)))) else (((0 : Int32), lx33, t0_1, t0_2, t0_3, t0_4, t0_5, t0_6, t3_0, t4_0))
def F_WR_compare_J15 (x2 : Int32) (x3 : Int32) (t0_0 : Int32) (t0_1 : Int32) (t0_2 : Int32) (t0_3 : Int32) (t0_4 : Int32) (t0_5 : Int32) (t0_6 : Int32) (t1_0 : (Nat → Int32)) (t2_0 : (Nat → Int32)) (t3_0 : (Nat → Int32)) (t4_0 : (Nat → Int32)) : Int32 × Int32 × Int32 × Int32 × Int32 × Int32 × Int32 × Int32 × (Nat → Int32) × (Nat → Int32) := F_WR_compare_J20 x2 x3 t0_0 t0_1 t0_2 t0_3 t0_4 t0_5 t0_6 t1_0 t2_0 t3_0 t4_0 1
def F_WR_compare (x2 : Int32) (x3 : Int32) (t0_0 : Int32) (t0_1 : Int32) (t0_2 : Int32) (t0_3 : Int32) (t0_4 : Int32) (t0_5 : Int32) (t0_6 : Int32) (t1_0 : (Nat → Int32)) (t2_0 : (Nat → Int32)) (t3_0 : (Nat → Int32)) (t4_0 : (Nat → Int32)) : Int32 × Int32 × Int32 × Int32 × Int32 × Int32 × Int32 × Int32 × (Nat → Int32) × (Nat → Int32) := if ((F_WR_no x2) : Int32) = (0 : Int32) then (if ((F_WR_no x3) : Int32) = (0 : Int32) then (F_WR_compare_J20 x2 x3 t0_0 t0_1 t0_2 t0_3 t0_4 t0_5 t0_6 t1_0 t2_0 t3_0 t4_0 0) else (F_WR_compare_J15 x2 x3 t0_0 t0_1 t0_2 t0_3 t0_4 t0_5 t0_6 t1_0 t2_0 t3_0 t4_0)) else (F_WR_compare_J15 x2 x3 t0_0 t0_1 t0_2 t0_3 t0_4 t0_5 t0_6 t1_0 t2_0 t3_0 t4_0)
def S_WR_compare_J20 (x2 : Int32) (x3 : Int32) (t0_0 : Int32) (t0_1 : Int32) (t0_2 : Int32) (t0_3 : Int32) (t0_4 : Int32) (t0_5 : Int32) (t0_6 : Int32) (t1_0 : (Nat → Int32)) (t2_0 : (Nat → Int32)) (t3_0 : (Nat → Int32)) (t4_0 : (Nat → Int32)) (lx33 : Int32) : Prop := if lx33 ≤ (0 : Int32) then ((0 ≤ x2.toInt) ∧ ((x2.toInt ≤ 10) ∧ ((0 ≤ x3.toInt) ∧ ((x3.toInt ≤ 10) ∧ (if (t2_0 x2.toNatClampNeg : Int32) = (t2_0 x3.toNatClampNeg : Int32) then ((True ∧ S_WR_take x2 (264 : Int32) lx33 t0_1 t0_2 t0_3 t0_4 t0_5 t0_6 t1_0 t3_0) ∧ ((True ∧ S_WR_take x3 (264 : Int32) lx33 t0_1 t0_2 t0_3 t0_4 t0_5 t0_6 t1_0 t4_0) ∧ ((True ∧ S_WR_compareRows (264 : Int32) (264 : Int32) ((F_WR_take x2 (264 : Int32) lx33 t0_1 t0_2 t0_3 t0_4 t0_5 t0_6 t1_0 t3_0) : (Nat → Int32)) ((F_WR_take x3 (264 : Int32) lx33 t0_1 t0_2 t0_3 t0_4 t0_5 t0_6 t1_0 t4_0) : (Nat → Int32))) ∧ (if (t2_0 x2.toNatClampNeg : Int32) = (0 : Int32) then (True) else (True))))) else (if (t2_0 x2.toNatClampNeg : Int32) = (0 : Int32) then (True) else (True))))))) else (True)
def S_WR_compare_J15 (x2 : Int32) (x3 : Int32) (t0_0 : Int32) (t0_1 : Int32) (t0_2 : Int32) (t0_3 : Int32) (t0_4 : Int32) (t0_5 : Int32) (t0_6 : Int32) (t1_0 : (Nat → Int32)) (t2_0 : (Nat → Int32)) (t3_0 : (Nat → Int32)) (t4_0 : (Nat → Int32)) : Prop := S_WR_compare_J20 x2 x3 t0_0 t0_1 t0_2 t0_3 t0_4 t0_5 t0_6 t1_0 t2_0 t3_0 t4_0 1
def S_WR_compare (x2 : Int32) (x3 : Int32) (t0_0 : Int32) (t0_1 : Int32) (t0_2 : Int32) (t0_3 : Int32) (t0_4 : Int32) (t0_5 : Int32) (t0_6 : Int32) (t1_0 : (Nat → Int32)) (t2_0 : (Nat → Int32)) (t3_0 : (Nat → Int32)) (t4_0 : (Nat → Int32)) : Prop := if ((F_WR_no x2) : Int32) = (0 : Int32) then (if ((F_WR_no x3) : Int32) = (0 : Int32) then (S_WR_compare_J20 x2 x3 t0_0 t0_1 t0_2 t0_3 t0_4 t0_5 t0_6 t1_0 t2_0 t3_0 t4_0 0) else (S_WR_compare_J15 x2 x3 t0_0 t0_1 t0_2 t0_3 t0_4 t0_5 t0_6 t1_0 t2_0 t3_0 t4_0)) else (S_WR_compare_J15 x2 x3 t0_0 t0_1 t0_2 t0_3 t0_4 t0_5 t0_6 t1_0 t2_0 t3_0 t4_0)
set_option maxRecDepth 100000 in
set_option maxHeartbeats 4000000 in
theorem X_WR_compare (l : Launch) (D : va_G) (g : Nat → ClassId) (q : Nat → Nat) (ws : va_W) (x2 : Int32) (x3 : Int32) (hI : q_I (msh g q) q ws) (t0_0 : Int32) (t0_1 : Int32) (t0_2 : Int32) (t0_3 : Int32) (t0_4 : Int32) (t0_5 : Int32) (t0_6 : Int32) (hT0 : ws[119]? = (some (q 119, .inr (13, [.int t0_0, .int t0_1, .ref (q 120), .int t0_2, .ref (q 121), .ref (q 122), .ref (q 123), .int t0_3, .ref (q 124), .ref (q 125), .ref (q 126), .ref (q 127), .ref (q 128), .ref (q 129), .ref (q 130), .ref (q 131), .int t0_4, .int t0_5, .ref (q 132), .ref (q 133), .int t0_6])) : Option (Nat × va_E))) (t1_0 : (Nat → Int32)) (hT1 : ws[121]? = (some (q 121, .inl (g 0, (1408 : Int32).toNatClampNeg, .inl t1_0)) : Option (Nat × va_E))) (t2_0 : (Nat → Int32)) (hT2 : ws[122]? = (some (q 122, .inl (g 3, 11, .inl t2_0)) : Option (Nat × va_E))) (t3_0 : (Nat → Int32)) (hT3 : ws[128]? = (some (q 128, .inl (g 0, (264 : Int32).toNatClampNeg, .inl t3_0)) : Option (Nat × va_E))) (t4_0 : (Nat → Int32)) (hT4 : ws[129]? = (some (q 129, .inl (g 0, (264 : Int32).toNatClampNeg, .inl t4_0)) : Option (Nat × va_E))) (hS : True ∧ S_WR_compare x2 x3 t0_0 t0_1 t0_2 t0_3 t0_4 t0_5 t0_6 t1_0 t2_0 t3_0 t4_0) : q_mI l y_WR_compare prog_19_method_40_code 4 (.int) 2 0 0 D g [.ref (q 119), .int x2, .int x3] ws (fun r u => q_I (msh g q) q u ∧ q_un ws u [119, 128, 129] ∧ ∃ (u0_0 : Int32) (u0_1 : Int32) (u0_2 : Int32) (u0_3 : Int32) (u0_4 : Int32) (u0_5 : Int32) (u0_6 : Int32) (u3_0 : (Nat → Int32)) (u4_0 : (Nat → Int32)), u[119]? = (some (q 119, .inr (13, [.int u0_0, .int u0_1, .ref (q 120), .int u0_2, .ref (q 121), .ref (q 122), .ref (q 123), .int u0_3, .ref (q 124), .ref (q 125), .ref (q 126), .ref (q 127), .ref (q 128), .ref (q 129), .ref (q 130), .ref (q 131), .int u0_4, .int u0_5, .ref (q 132), .ref (q 133), .int u0_6])) : Option (Nat × va_E)) ∧ u[128]? = (some (q 128, .inl (g 0, (264 : Int32).toNatClampNeg, .inl u3_0)) : Option (Nat × va_E)) ∧ u[129]? = (some (q 129, .inl (g 0, (264 : Int32).toNatClampNeg, .inl u4_0)) : Option (Nat × va_E)) ∧ (r.toInt ≤ 1) ∧ (0 ≤ u0_0.toInt) ∧ (u0_0.toInt ≤ 1) ∧ (t0_1.toInt ≤ u0_1.toInt) ∧ (u0_1.toInt ≤ t0_1.toInt) ∧ (t0_2.toInt ≤ u0_2.toInt) ∧ (u0_2.toInt ≤ t0_2.toInt) ∧ (t0_3.toInt ≤ u0_3.toInt) ∧ (u0_3.toInt ≤ t0_3.toInt) ∧ (t0_4.toInt ≤ u0_4.toInt) ∧ (u0_4.toInt ≤ t0_4.toInt) ∧ (t0_5.toInt ≤ u0_5.toInt) ∧ (u0_5.toInt ≤ t0_5.toInt) ∧ (t0_6.toInt ≤ u0_6.toInt) ∧ (u0_6.toInt ≤ t0_6.toInt) ∧ (u0_0.toInt ≤ r.toInt + 1) ∧ (r, u0_0, u0_1, u0_2, u0_3, u0_4, u0_5, u0_6, u3_0, u4_0) = (F_WR_compare x2 x3 t0_0 t0_1 t0_2 t0_3 t0_4 t0_5 t0_6 t1_0 t2_0 t3_0 t4_0)) := by
  intro sz
  refine q_into (by decide) (Nat.le_of_ble_eq_true rfl) ?_
  intro p e s m below meth c ls hsz C0 V hl
  have hx := C0.1
  have hb := C0.2.1
  obtain ⟨yy0_0, yy0_1, yy0_2, yy0_3, yy0_4, yy0_5, yy0_6, hh0, btt0_2, btt0_3, btt0_4, btt0_5, btt0_6⟩ := n_o119 hI
  obtain ⟨rfl, rfl, rfl, rfl, rfl, rfl, rfl⟩ : t0_0 = yy0_0 ∧ t0_1 = yy0_1 ∧ t0_2 = yy0_2 ∧ t0_3 = yy0_3 ∧ t0_4 = yy0_4 ∧ t0_5 = yy0_5 ∧ t0_6 = yy0_6 := by have z := Option.some.inj (hT0.symm.trans hh0); simpa using z
  replace btt0_2 : q_F (0 ≤ t0_2.toInt ∧ t0_2.toInt ≤ 4100) := btt0_2
  replace btt0_3 : q_F (0 ≤ t0_3.toInt ∧ t0_3.toInt ≤ 1) := btt0_3
  replace btt0_4 : q_F (0 ≤ t0_4.toInt ∧ t0_4.toInt ≤ 1) := btt0_4
  replace btt0_5 : q_F (0 ≤ t0_5.toInt ∧ t0_5.toInt ≤ 1) := btt0_5
  replace btt0_6 : q_F (0 ≤ t0_6.toInt ∧ t0_6.toInt ≤ 2100) := btt0_6
  have hF : q_un ws ws [119, 128, 129] := q_u0
  have hl : lv_has ls 4 [(0, .ref (q 119)), (1, .int x2), (2, .int x3)] := hl
  refine lv_aload_n hx hb d_19_40_0 rfl (lv_at hl 0 rfl) ?_
  refine lv_iload_n hx hb d_19_40_1 rfl (lv_at hl 1 rfl) ?_
  refine q_goi V (q_runS (As := [.int x2]) (rest := [.ref (q 119)]) (d := 1) (mc := 0) (ms := 0) C0 V rfl LS_WR_91 (X_WR_no l D g q ws  x2 hI   _) rfl hl.1 rfl (Nat.le_of_ble_eq_true rfl) ⟨by decide, by decide⟩ ⟨Nat.le_of_ble_eq_true rfl, Nat.le_of_ble_eq_true rfl⟩ d_19_40_2) (fun a28 u26 H locs hp27 V => ?_)
  obtain ⟨rfl, b29, b30, hE31⟩ := hp27
  have e32 : a28 = (F_WR_no x2) := hE31
  replace b29 : q_F (0 ≤ a28.toInt) := b29
  replace b30 : q_F (a28.toInt ≤ 1) := b30
  refine q_join (X := Int32) (fun z H locs ls _ => q_F (0 ≤ z.toInt) ∧ q_F (z.toInt ≤ 1) ∧ q_Wd D g (va_A ws sz) s ws H locs ∧ lv_has ls 4 [(0, .ref (q 119)), (1, .int x2), (2, .int x3)] ∧ F_WR_compare_J20 x2 x3 t0_0 t0_1 t0_2 t0_3 t0_4 t0_5 t0_6 t1_0 t2_0 t3_0 t4_0 z = (F_WR_compare x2 x3 t0_0 t0_1 t0_2 t0_3 t0_4 t0_5 t0_6 t1_0 t2_0 t3_0 t4_0) ∧ True ∧ S_WR_compare_J20 x2 x3 t0_0 t0_1 t0_2 t0_3 t0_4 t0_5 t0_6 t1_0 t2_0 t3_0 t4_0 z) (fun z => [.int z, .ref (q 119)]) 20 0 0 ?_ ?_
  ·
    rintro lx33 H locs ls _ ⟨i40, i41, V, hl, hR42, hS43⟩
    replace i40 : q_F (0 ≤ lx33.toInt) := i40
    replace i41 : q_F (lx33.toInt ≤ 1) := i41
    replace hl : lv_has ls 4 [(0, .ref (q 119)), (1, .int x2), (2, .int x3)] := hl
    refine q_put (ci := 13) (j := 0) (v := .int lx33) (ty := .int) C0 V i_WR o_WR n_WR rfl rfl hT0 (by decide) w_1921 rfl rfl rfl rfl (Nat.le_of_ble_eq_true rfl) d_19_40_20 (fun H locs w47 hu48 hT0 V => ?_)
    replace hT0 : w47[119]? = (some (q 119, .inr (13, [.int lx33, .int t0_1, .ref (q 120), .int t0_2, .ref (q 121), .ref (q 122), .ref (q 123), .int t0_3, .ref (q 124), .ref (q 125), .ref (q 126), .ref (q 127), .ref (q 128), .ref (q 129), .ref (q 130), .ref (q 131), .int t0_4, .int t0_5, .ref (q 132), .ref (q 133), .int t0_6])) : Option (Nat × va_E)) := hT0
    replace hI := n_p119 hI hu48 hT0 ⟨(by have t1 : 0 ≤ t0_2.toInt ∧ t0_2.toInt ≤ 4100 := btt0_2; omega), (by have t1 : 0 ≤ t0_2.toInt ∧ t0_2.toInt ≤ 4100 := btt0_2; omega)⟩ ⟨(by have t1 : 0 ≤ t0_3.toInt ∧ t0_3.toInt ≤ 1 := btt0_3; omega), (by have t1 : 0 ≤ t0_3.toInt ∧ t0_3.toInt ≤ 1 := btt0_3; omega)⟩ ⟨(by have t1 : 0 ≤ t0_4.toInt ∧ t0_4.toInt ≤ 1 := btt0_4; omega), (by have t1 : 0 ≤ t0_4.toInt ∧ t0_4.toInt ≤ 1 := btt0_4; omega)⟩ ⟨(by have t1 : 0 ≤ t0_5.toInt ∧ t0_5.toInt ≤ 1 := btt0_5; omega), (by have t1 : 0 ≤ t0_5.toInt ∧ t0_5.toInt ≤ 1 := btt0_5; omega)⟩ ⟨(by have t1 : 0 ≤ t0_6.toInt ∧ t0_6.toInt ≤ 2100 := btt0_6; omega), (by have t1 : 0 ≤ t0_6.toInt ∧ t0_6.toInt ≤ 2100 := btt0_6; omega)⟩
    replace hT1 := (hu48 _ (by decide)).trans hT1
    replace hT2 := (hu48 _ (by decide)).trans hT2
    replace hT3 := (hu48 _ (by decide)).trans hT3
    replace hT4 := (hu48 _ (by decide)).trans hT4
    replace hF := q_us hF hu48 (by simp)
    refine lv_aload_n hx hb d_19_40_23 rfl (lv_at hl 0 rfl) ?_
    refine q_get (ci := 13) (j := 0) (v := .int lx33) C0 V i_WR rfl rfl hT0 (by decide) w_1921 rfl d_19_40_24 ?_
    refine lv_if_le (tgt := 32) hx hb d_19_40_27 (by decide) (fun c49 => ?_) (fun c49 => ?_)
    ·
      have b50 : q_F (lx33.toInt ≤ 0) := (q_leI c49)
      refine lv_aload_n hx hb d_19_40_32 rfl (lv_at hl 0 rfl) ?_
      refine q_get (ci := 13) (j := 5) (v := .ref (q 122)) C0 V i_WR rfl rfl hT0 (by decide) w_1929 rfl d_19_40_33 ?_
      refine lv_iload_n hx hb d_19_40_36 rfl (lv_at hl 1 rfl) ?_
      have ob51 : q_F (0 ≤ x2.toInt) := (by have h := hS43; rw [S_WR_compare_J20.eq_1] at h; rw [if_pos c49] at h; exact h.2.1)
      have ob52 : q_F (x2.toInt ≤ 10) := (by have h := hS43; rw [S_WR_compare_J20.eq_1] at h; rw [if_pos c49] at h; replace h := q_s2 h; exact h.2.1)
      refine q_zald C0 V hT2 (q_ix (x := x2.toInt) rfl (by have t1 : 0 ≤ x2.toInt := ob51; omega) (by have t1 : 0 ≤ x2.toInt := ob51; have t2 : x2.toInt ≤ 10 := ob52; omega)) d_19_40_37 ?_
      obtain ⟨a53, e54⟩ := q_nm (t2_0 x2.toNatClampNeg : Int32)
      refine q_ti (v := a53) e54 ?_
      refine lv_aload_n hx hb d_19_40_38 rfl (lv_at hl 0 rfl) ?_
      refine q_get (ci := 13) (j := 5) (v := .ref (q 122)) C0 V i_WR rfl rfl hT0 (by decide) w_1929 rfl d_19_40_39 ?_
      refine lv_iload_n hx hb d_19_40_42 rfl (lv_at hl 2 rfl) ?_
      have ob55 : q_F (0 ≤ x3.toInt) := (by have h := hS43; rw [S_WR_compare_J20.eq_1] at h; rw [if_pos c49] at h; replace h := q_s2 h; replace h := q_s2 h; exact h.2.1)
      have ob56 : q_F (x3.toInt ≤ 10) := (by have h := hS43; rw [S_WR_compare_J20.eq_1] at h; rw [if_pos c49] at h; replace h := q_s2 h; replace h := q_s2 h; replace h := q_s2 h; exact h.2.1)
      refine q_zald C0 V hT2 (q_ix (x := x3.toInt) rfl (by have t1 : 0 ≤ x3.toInt := ob55; omega) (by have t1 : 0 ≤ x3.toInt := ob55; have t2 : x3.toInt ≤ 10 := ob56; omega)) d_19_40_43 ?_
      obtain ⟨a57, e58⟩ := q_nm (t2_0 x3.toNatClampNeg : Int32)
      refine q_ti (v := a57) e58 ?_
      refine lv_icmp_eq (tgt := 62) hx hb d_19_40_44 (by decide) (fun c59 => ?_) (fun c59 => ?_)
      ·
        have b60 : q_F (a53.toInt = a57.toInt) := (q_eqI c59)
        refine lv_aload_n hx hb d_19_40_62 rfl (lv_at hl 0 rfl) ?_
        refine lv_iload_n hx hb d_19_40_63 rfl (lv_at hl 1 rfl) ?_
        refine lv_aload_n hx hb d_19_40_64 rfl (lv_at hl 0 rfl) ?_
        refine q_get (ci := 13) (j := 12) (v := .ref (q 128)) C0 V i_WR rfl rfl hT0 (by decide) w_1936 rfl d_19_40_65 ?_
        have ob61 : True ∧ S_WR_take x2 (264 : Int32) lx33 t0_1 t0_2 t0_3 t0_4 t0_5 t0_6 t1_0 t3_0 := (by have h := hS43; rw [S_WR_compare_J20.eq_1] at h; rw [if_pos c49] at h; replace h := q_s2 h; replace h := q_s2 h; replace h := q_s2 h; replace h := q_s2 h; have c59x := c59; rw [← e58, ← e54] at c59x; rw [if_pos c59x] at h; with_reducible exact h.2.1)
        refine q_gov V (q_runV (As := [.int x2, .ref (q 128)]) (rest := []) (d := 1) (mc := 0) (ms := 0) (ci := 13) C0 V rfl LV_WR_107 (X_WR_take l D g q w47 128 264 (n_r128 g q) x2 (by decide) hI lx33 t0_1 t0_2 t0_3 t0_4 t0_5 t0_6 hT0 t1_0 hT1 t3_0 hT3 ob61 _) rfl rfl hT0 rfl hl.1 rfl (Nat.le_of_ble_eq_true rfl) ⟨by decide, by decide⟩ ⟨Nat.le_of_ble_eq_true rfl, Nat.le_of_ble_eq_true rfl⟩ d_19_40_68) (fun u62 H locs hp63 V => ?_)
        obtain ⟨hI, hu67, f64, hA65, hE66⟩ := hp63
        replace hA65 : u62[128]? = (some (q 128, .inl (g 0, (264 : Int32).toNatClampNeg, .inl f64)) : Option (Nat × va_E)) := hA65
        have e68 : f64 = (F_WR_take x2 (264 : Int32) lx33 t0_1 t0_2 t0_3 t0_4 t0_5 t0_6 t1_0 t3_0) := hE66
        replace hT0 := (hu67 _ (by decide)).trans hT0
        replace hT1 := (hu67 _ (by decide)).trans hT1
        replace hT2 := (hu67 _ (by decide)).trans hT2
        replace hT4 := (hu67 _ (by decide)).trans hT4
        replace hF := q_uc hF hu67 (by simp)
        refine lv_aload_n hx hb d_19_40_71 rfl (lv_at hl 0 rfl) ?_
        refine lv_iload_n hx hb d_19_40_72 rfl (lv_at hl 2 rfl) ?_
        refine lv_aload_n hx hb d_19_40_73 rfl (lv_at hl 0 rfl) ?_
        refine q_get (ci := 13) (j := 13) (v := .ref (q 129)) C0 V i_WR rfl rfl hT0 (by decide) w_1937 rfl d_19_40_74 ?_
        have ob69 : True ∧ S_WR_take x3 (264 : Int32) lx33 t0_1 t0_2 t0_3 t0_4 t0_5 t0_6 t1_0 t4_0 := (by have h := hS43; rw [S_WR_compare_J20.eq_1] at h; rw [if_pos c49] at h; replace h := q_s2 h; replace h := q_s2 h; replace h := q_s2 h; replace h := q_s2 h; have c59x := c59; rw [← e58, ← e54] at c59x; rw [if_pos c59x] at h; replace h := q_s2 h; with_reducible exact h.2.1)
        refine q_gov V (q_runV (As := [.int x3, .ref (q 129)]) (rest := []) (d := 1) (mc := 0) (ms := 0) (ci := 13) C0 V rfl LV_WR_107 (X_WR_take l D g q u62 129 264 (n_r129 g q) x3 (by decide) hI lx33 t0_1 t0_2 t0_3 t0_4 t0_5 t0_6 hT0 t1_0 hT1 t4_0 hT4 ob69 _) rfl rfl hT0 rfl hl.1 rfl (Nat.le_of_ble_eq_true rfl) ⟨by decide, by decide⟩ ⟨Nat.le_of_ble_eq_true rfl, Nat.le_of_ble_eq_true rfl⟩ d_19_40_77) (fun u70 H locs hp71 V => ?_)
        obtain ⟨hI, hu75, f72, hA73, hE74⟩ := hp71
        replace hA73 : u70[129]? = (some (q 129, .inl (g 0, (264 : Int32).toNatClampNeg, .inl f72)) : Option (Nat × va_E)) := hA73
        have e76 : f72 = (F_WR_take x3 (264 : Int32) lx33 t0_1 t0_2 t0_3 t0_4 t0_5 t0_6 t1_0 t4_0) := hE74
        replace hT0 := (hu75 _ (by decide)).trans hT0
        replace hT1 := (hu75 _ (by decide)).trans hT1
        replace hT2 := (hu75 _ (by decide)).trans hT2
        replace hA65 := (hu75 _ (by decide)).trans hA65
        replace hF := q_uc hF hu75 (by simp)
        refine lv_aload_n hx hb d_19_40_80 rfl (lv_at hl 0 rfl) ?_
        refine q_get (ci := 13) (j := 12) (v := .ref (q 128)) C0 V i_WR rfl rfl hT0 (by decide) w_1936 rfl d_19_40_81 ?_
        refine lv_aload_n hx hb d_19_40_84 rfl (lv_at hl 0 rfl) ?_
        refine q_get (ci := 13) (j := 13) (v := .ref (q 129)) C0 V i_WR rfl rfl hT0 (by decide) w_1937 rfl d_19_40_85 ?_
        have ob77 : True ∧ S_WR_compareRows (264 : Int32) (264 : Int32) f64 f72 := (by rw [e76, e68]; have h := hS43; rw [S_WR_compare_J20.eq_1] at h; rw [if_pos c49] at h; replace h := q_s2 h; replace h := q_s2 h; replace h := q_s2 h; replace h := q_s2 h; have c59x := c59; rw [← e58, ← e54] at c59x; rw [if_pos c59x] at h; replace h := q_s2 h; replace h := q_s2 h; with_reducible exact h.2.1)
        refine q_goi V (q_runS (As := [.ref (q 128), .ref (q 129)]) (rest := []) (d := 1) (mc := 0) (ms := 0) C0 V rfl LS_WR_71 (X_WR_compareRows l D g q u70 128 264 (n_r128 g q) 129 264 (n_r129 g q)  hI f64 hA65 f72 hA73 ob77 _) rfl hl.1 rfl (Nat.le_of_ble_eq_true rfl) ⟨by decide, by decide⟩ ⟨Nat.le_of_ble_eq_true rfl, Nat.le_of_ble_eq_true rfl⟩ d_19_40_88) (fun a80 u78 H locs hp79 V => ?_)
        obtain ⟨rfl, b81, b82, b83, b84, hE85⟩ := hp79
        have e86 : a80 = (F_WR_compareRows (264 : Int32) (264 : Int32) f64 f72) := hE85
        replace b81 : q_F (0 ≤ a80.toInt + 1) := b81
        replace b82 : q_F (a80.toInt ≤ 1) := b82
        replace b83 : q_F (a80.toInt ≤ 264) := b83
        replace b84 : q_F (a80.toInt ≤ 264) := b84
        refine lv_istore_n (lv' := [(3, .int a80), (0, .ref (q 119)), (1, .int x2), (2, .int x3)]) hx hb d_19_40_91 rfl hl (by decide) rfl (fun ls hl => ?_)
        refine lv_aload_n hx hb d_19_40_92 rfl (lv_at hl 1 rfl) ?_
        refine q_get (ci := 13) (j := 5) (v := .ref (q 122)) C0 V i_WR rfl rfl hT0 (by decide) w_1929 rfl d_19_40_93 ?_
        refine lv_iload_n hx hb d_19_40_96 rfl (lv_at hl 2 rfl) ?_
        refine q_zald C0 V hT2 (q_ix (x := x2.toInt) rfl (by have t1 : 0 ≤ x2.toInt := ob51; omega) (by have t1 : 0 ≤ x2.toInt := ob51; have t2 : x2.toInt ≤ 10 := ob52; omega)) d_19_40_97 ?_
        obtain ⟨a87, e88⟩ := q_nm (t2_0 x2.toNatClampNeg : Int32)
        refine q_ti (v := a87) e88 ?_
        refine lv_if_eq (tgt := 106) hx hb d_19_40_98 (by decide) (fun c89 => ?_) (fun c89 => ?_)
        ·
          have b90 : q_F (a87.toInt = 0) := (q_eqI c89)
          refine lv_iload_n hx hb d_19_40_106 rfl (lv_at hl 0 rfl) ?_
          exact q_reti C0 V (⟨hI, hF, lx33, t0_1, t0_2, t0_3, t0_4, t0_5, t0_6, f64, f72, hT0, hA65, hA73, (show a80.toInt ≤ 1 from (by have t1 : a80.toInt ≤ 1 := b82; omega)), (show 0 ≤ lx33.toInt from (by have t1 : 0 ≤ lx33.toInt := i40; omega)), (show lx33.toInt ≤ 1 from (by have t1 : lx33.toInt ≤ 1 := i41; omega)), (show t0_1.toInt ≤ t0_1.toInt from (by omega)), (show t0_1.toInt ≤ t0_1.toInt from (by omega)), (show t0_2.toInt ≤ t0_2.toInt from (by omega)), (show t0_2.toInt ≤ t0_2.toInt from (by omega)), (show t0_3.toInt ≤ t0_3.toInt from (by omega)), (show t0_3.toInt ≤ t0_3.toInt from (by omega)), (show t0_4.toInt ≤ t0_4.toInt from (by omega)), (show t0_4.toInt ≤ t0_4.toInt from (by omega)), (show t0_5.toInt ≤ t0_5.toInt from (by omega)), (show t0_5.toInt ≤ t0_5.toInt from (by omega)), (show t0_6.toInt ≤ t0_6.toInt from (by omega)), (show t0_6.toInt ≤ t0_6.toInt from (by omega)), (show lx33.toInt ≤ a80.toInt + 1 from (by have t1 : lx33.toInt ≤ 0 := b50; have t2 : 0 ≤ a80.toInt + 1 := b81; omega)), (show (a80, lx33, t0_1, t0_2, t0_3, t0_4, t0_5, t0_6, f64, f72) = (F_WR_compare x2 x3 t0_0 t0_1 t0_2 t0_3 t0_4 t0_5 t0_6 t1_0 t2_0 t3_0 t4_0) from Eq.trans (by have c59x := c59; rw [← e58, ← e54] at c59x; have c89x := c89; rw [← e88] at c89x; rw [e86, e76, e68, F_WR_compare_J20.eq_1, if_pos c49, if_pos c59x, if_pos c89x]) hR42)⟩) d_19_40_107
        ·
          have b91 : q_F (a87.toInt ≠ 0) := (q_neI c89)
          refine lv_iload_n hx hb d_19_40_101 rfl (lv_at hl 0 rfl) ?_
          refine lv_ineg hx hb d_19_40_102 ?_
          obtain ⟨a92, e93⟩ := q_nm (-a80 : Int32)
          refine q_ti (v := a92) e93 ?_
          have b94 : q_F (a92.toInt = -a80.toInt) := (by rw [← e93]; show (-a80 : Int32).toInt = -a80.toInt; exact q_negI rfl (by have t1 : 0 ≤ a80.toInt + 1 := b81; omega))
          refine lv_goto (tgt := 107) hx hb d_19_40_103 (by decide) ?_
          exact q_reti C0 V (⟨hI, hF, lx33, t0_1, t0_2, t0_3, t0_4, t0_5, t0_6, f64, f72, hT0, hA65, hA73, (show a92.toInt ≤ 1 from (by have t1 : 0 ≤ a80.toInt + 1 := b81; have t2 : a92.toInt = -a80.toInt := b94; omega)), (show 0 ≤ lx33.toInt from (by have t1 : 0 ≤ lx33.toInt := i40; omega)), (show lx33.toInt ≤ 1 from (by have t1 : lx33.toInt ≤ 1 := i41; omega)), (show t0_1.toInt ≤ t0_1.toInt from (by omega)), (show t0_1.toInt ≤ t0_1.toInt from (by omega)), (show t0_2.toInt ≤ t0_2.toInt from (by omega)), (show t0_2.toInt ≤ t0_2.toInt from (by omega)), (show t0_3.toInt ≤ t0_3.toInt from (by omega)), (show t0_3.toInt ≤ t0_3.toInt from (by omega)), (show t0_4.toInt ≤ t0_4.toInt from (by omega)), (show t0_4.toInt ≤ t0_4.toInt from (by omega)), (show t0_5.toInt ≤ t0_5.toInt from (by omega)), (show t0_5.toInt ≤ t0_5.toInt from (by omega)), (show t0_6.toInt ≤ t0_6.toInt from (by omega)), (show t0_6.toInt ≤ t0_6.toInt from (by omega)), (show lx33.toInt ≤ a92.toInt + 1 from (by have t1 : lx33.toInt ≤ 0 := b50; have t2 : a80.toInt ≤ 1 := b82; have t3 : a92.toInt = -a80.toInt := b94; omega)), (show (a92, lx33, t0_1, t0_2, t0_3, t0_4, t0_5, t0_6, f64, f72) = (F_WR_compare x2 x3 t0_0 t0_1 t0_2 t0_3 t0_4 t0_5 t0_6 t1_0 t2_0 t3_0 t4_0) from Eq.trans (by have c59x := c59; rw [← e58, ← e54] at c59x; have c89x := c89; rw [← e88] at c89x; rw [← e93, e86, e76, e68, F_WR_compare_J20.eq_1, if_pos c49, if_pos c59x, if_neg c89x]) hR42)⟩) d_19_40_107
      ·
        have b95 : q_F (a53.toInt ≠ a57.toInt) := (q_neI c59)
        refine lv_aload_n hx hb d_19_40_47 rfl (lv_at hl 0 rfl) ?_
        refine q_get (ci := 13) (j := 5) (v := .ref (q 122)) C0 V i_WR rfl rfl hT0 (by decide) w_1929 rfl d_19_40_48 ?_
        refine lv_iload_n hx hb d_19_40_51 rfl (lv_at hl 1 rfl) ?_
        refine q_zald C0 V hT2 (q_ix (x := x2.toInt) rfl (by have t1 : 0 ≤ x2.toInt := ob51; omega) (by have t1 : 0 ≤ x2.toInt := ob51; have t2 : x2.toInt ≤ 10 := ob52; omega)) d_19_40_52 ?_
        obtain ⟨a96, e97⟩ := q_nm (t2_0 x2.toNatClampNeg : Int32)
        refine q_ti (v := a96) e97 ?_
        refine lv_if_eq (tgt := 60) hx hb d_19_40_53 (by decide) (fun c98 => ?_) (fun c98 => ?_)
        ·
          have b99 : q_F (a96.toInt = 0) := (q_eqI c98)
          refine lv_iconst (v := 1) hx hb d_19_40_60 (by decide) ?_
          exact q_reti C0 V (⟨hI, hF, lx33, t0_1, t0_2, t0_3, t0_4, t0_5, t0_6, t3_0, t4_0, hT0, hT3, hT4, (show (1 : Int32).toInt ≤ 1 from (by have z13 : (1 : Int32).toInt = 1 := rfl; omega)), (show 0 ≤ lx33.toInt from (by have z13 : (1 : Int32).toInt = 1 := rfl; have t1 : 0 ≤ lx33.toInt := i40; omega)), (show lx33.toInt ≤ 1 from (by have z13 : (1 : Int32).toInt = 1 := rfl; have t1 : lx33.toInt ≤ 1 := i41; omega)), (show t0_1.toInt ≤ t0_1.toInt from (by have z13 : (1 : Int32).toInt = 1 := rfl; omega)), (show t0_1.toInt ≤ t0_1.toInt from (by have z13 : (1 : Int32).toInt = 1 := rfl; omega)), (show t0_2.toInt ≤ t0_2.toInt from (by have z13 : (1 : Int32).toInt = 1 := rfl; omega)), (show t0_2.toInt ≤ t0_2.toInt from (by have z13 : (1 : Int32).toInt = 1 := rfl; omega)), (show t0_3.toInt ≤ t0_3.toInt from (by have z13 : (1 : Int32).toInt = 1 := rfl; omega)), (show t0_3.toInt ≤ t0_3.toInt from (by have z13 : (1 : Int32).toInt = 1 := rfl; omega)), (show t0_4.toInt ≤ t0_4.toInt from (by have z13 : (1 : Int32).toInt = 1 := rfl; omega)), (show t0_4.toInt ≤ t0_4.toInt from (by have z13 : (1 : Int32).toInt = 1 := rfl; omega)), (show t0_5.toInt ≤ t0_5.toInt from (by have z13 : (1 : Int32).toInt = 1 := rfl; omega)), (show t0_5.toInt ≤ t0_5.toInt from (by have z13 : (1 : Int32).toInt = 1 := rfl; omega)), (show t0_6.toInt ≤ t0_6.toInt from (by have z13 : (1 : Int32).toInt = 1 := rfl; omega)), (show t0_6.toInt ≤ t0_6.toInt from (by have z13 : (1 : Int32).toInt = 1 := rfl; omega)), (show lx33.toInt ≤ (1 : Int32).toInt + 1 from (by have z13 : (1 : Int32).toInt = 1 := rfl; have t1 : lx33.toInt ≤ 1 := i41; omega)), (show ((1 : Int32), lx33, t0_1, t0_2, t0_3, t0_4, t0_5, t0_6, t3_0, t4_0) = (F_WR_compare x2 x3 t0_0 t0_1 t0_2 t0_3 t0_4 t0_5 t0_6 t1_0 t2_0 t3_0 t4_0) from Eq.trans (by have c59x := c59; rw [← e58, ← e54] at c59x; have c98x := c98; rw [← e97] at c98x; rw [F_WR_compare_J20.eq_1, if_pos c49, if_neg c59x, if_pos c98x]) hR42)⟩) d_19_40_61
        ·
          have b100 : q_F (a96.toInt ≠ 0) := (q_neI c98)
          refine lv_iconst (v := (-1)) hx hb d_19_40_56 (by decide) ?_
          refine lv_goto (tgt := 61) hx hb d_19_40_57 (by decide) ?_
          exact q_reti C0 V (⟨hI, hF, lx33, t0_1, t0_2, t0_3, t0_4, t0_5, t0_6, t3_0, t4_0, hT0, hT3, hT4, (show (-1 : Int32).toInt ≤ 1 from (by have z13 : (-1 : Int32).toInt = -1 := rfl; omega)), (show 0 ≤ lx33.toInt from (by have z13 : (-1 : Int32).toInt = -1 := rfl; have t1 : 0 ≤ lx33.toInt := i40; omega)), (show lx33.toInt ≤ 1 from (by have z13 : (-1 : Int32).toInt = -1 := rfl; have t1 : lx33.toInt ≤ 1 := i41; omega)), (show t0_1.toInt ≤ t0_1.toInt from (by have z13 : (-1 : Int32).toInt = -1 := rfl; omega)), (show t0_1.toInt ≤ t0_1.toInt from (by have z13 : (-1 : Int32).toInt = -1 := rfl; omega)), (show t0_2.toInt ≤ t0_2.toInt from (by have z13 : (-1 : Int32).toInt = -1 := rfl; omega)), (show t0_2.toInt ≤ t0_2.toInt from (by have z13 : (-1 : Int32).toInt = -1 := rfl; omega)), (show t0_3.toInt ≤ t0_3.toInt from (by have z13 : (-1 : Int32).toInt = -1 := rfl; omega)), (show t0_3.toInt ≤ t0_3.toInt from (by have z13 : (-1 : Int32).toInt = -1 := rfl; omega)), (show t0_4.toInt ≤ t0_4.toInt from (by have z13 : (-1 : Int32).toInt = -1 := rfl; omega)), (show t0_4.toInt ≤ t0_4.toInt from (by have z13 : (-1 : Int32).toInt = -1 := rfl; omega)), (show t0_5.toInt ≤ t0_5.toInt from (by have z13 : (-1 : Int32).toInt = -1 := rfl; omega)), (show t0_5.toInt ≤ t0_5.toInt from (by have z13 : (-1 : Int32).toInt = -1 := rfl; omega)), (show t0_6.toInt ≤ t0_6.toInt from (by have z13 : (-1 : Int32).toInt = -1 := rfl; omega)), (show t0_6.toInt ≤ t0_6.toInt from (by have z13 : (-1 : Int32).toInt = -1 := rfl; omega)), (show lx33.toInt ≤ (-1 : Int32).toInt + 1 from (by have z13 : (-1 : Int32).toInt = -1 := rfl; have t1 : lx33.toInt ≤ 0 := b50; omega)), (show ((-1 : Int32), lx33, t0_1, t0_2, t0_3, t0_4, t0_5, t0_6, t3_0, t4_0) = (F_WR_compare x2 x3 t0_0 t0_1 t0_2 t0_3 t0_4 t0_5 t0_6 t1_0 t2_0 t3_0 t4_0) from Eq.trans (by have c59x := c59; rw [← e58, ← e54] at c59x; have c98x := c98; rw [← e97] at c98x; rw [F_WR_compare_J20.eq_1, if_pos c49, if_neg c59x, if_neg c98x]) hR42)⟩) d_19_40_61
    ·
      have b101 : q_F (0 < lx33.toInt) := (q_nleI c49)
      refine lv_iconst (v := 0) hx hb d_19_40_30 (by decide) ?_
      exact q_reti C0 V (⟨hI, hF, lx33, t0_1, t0_2, t0_3, t0_4, t0_5, t0_6, t3_0, t4_0, hT0, hT3, hT4, (show (0 : Int32).toInt ≤ 1 from (by have z13 : (0 : Int32).toInt = 0 := rfl; omega)), (show 0 ≤ lx33.toInt from (by have z13 : (0 : Int32).toInt = 0 := rfl; have t1 : 0 ≤ lx33.toInt := i40; omega)), (show lx33.toInt ≤ 1 from (by have z13 : (0 : Int32).toInt = 0 := rfl; have t1 : lx33.toInt ≤ 1 := i41; omega)), (show t0_1.toInt ≤ t0_1.toInt from (by have z13 : (0 : Int32).toInt = 0 := rfl; omega)), (show t0_1.toInt ≤ t0_1.toInt from (by have z13 : (0 : Int32).toInt = 0 := rfl; omega)), (show t0_2.toInt ≤ t0_2.toInt from (by have z13 : (0 : Int32).toInt = 0 := rfl; omega)), (show t0_2.toInt ≤ t0_2.toInt from (by have z13 : (0 : Int32).toInt = 0 := rfl; omega)), (show t0_3.toInt ≤ t0_3.toInt from (by have z13 : (0 : Int32).toInt = 0 := rfl; omega)), (show t0_3.toInt ≤ t0_3.toInt from (by have z13 : (0 : Int32).toInt = 0 := rfl; omega)), (show t0_4.toInt ≤ t0_4.toInt from (by have z13 : (0 : Int32).toInt = 0 := rfl; omega)), (show t0_4.toInt ≤ t0_4.toInt from (by have z13 : (0 : Int32).toInt = 0 := rfl; omega)), (show t0_5.toInt ≤ t0_5.toInt from (by have z13 : (0 : Int32).toInt = 0 := rfl; omega)), (show t0_5.toInt ≤ t0_5.toInt from (by have z13 : (0 : Int32).toInt = 0 := rfl; omega)), (show t0_6.toInt ≤ t0_6.toInt from (by have z13 : (0 : Int32).toInt = 0 := rfl; omega)), (show t0_6.toInt ≤ t0_6.toInt from (by have z13 : (0 : Int32).toInt = 0 := rfl; omega)), (show lx33.toInt ≤ (0 : Int32).toInt + 1 from (by have z13 : (0 : Int32).toInt = 0 := rfl; have t1 : lx33.toInt ≤ 1 := i41; omega)), (show ((0 : Int32), lx33, t0_1, t0_2, t0_3, t0_4, t0_5, t0_6, t3_0, t4_0) = (F_WR_compare x2 x3 t0_0 t0_1 t0_2 t0_3 t0_4 t0_5 t0_6 t1_0 t2_0 t3_0 t4_0) from Eq.trans (by rw [F_WR_compare_J20.eq_1, if_neg c49]) hR42)⟩) d_19_40_31
  ·
    intro J39
    refine q_join (X := Unit) (fun z H locs ls _ => q_Wd D g (va_A ws sz) s ws H locs ∧ lv_has ls 4 [(0, .ref (q 119)), (1, .int x2), (2, .int x3)] ∧ F_WR_compare_J15 x2 x3 t0_0 t0_1 t0_2 t0_3 t0_4 t0_5 t0_6 t1_0 t2_0 t3_0 t4_0 = (F_WR_compare x2 x3 t0_0 t0_1 t0_2 t0_3 t0_4 t0_5 t0_6 t1_0 t2_0 t3_0 t4_0) ∧ True ∧ S_WR_compare_J15 x2 x3 t0_0 t0_1 t0_2 t0_3 t0_4 t0_5 t0_6 t1_0 t2_0 t3_0 t4_0) (fun z => [.ref (q 119)]) 15 0 0 ?_ ?_
    ·
      rintro _ H locs ls _ ⟨V, hl, hR108, hS109⟩
      replace hl : lv_has ls 4 [(0, .ref (q 119)), (1, .int x2), (2, .int x3)] := hl
      refine lv_iconst (v := 1) hx hb d_19_40_15 (by decide) ?_
      refine lv_goto (tgt := 20) hx hb d_19_40_16 (by decide) ?_
      exact J39 ((1 : Int32)) _ _ _ ws ⟨(show q_F (0 ≤ 1) from (show 0 ≤ 1 from by omega)), (show q_F (1 ≤ 1) from (show 1 ≤ 1 from by omega)), V, q_lw hl (q_lw1 0 rfl (q_lw1 1 rfl (q_lw1 2 rfl q_lw0))), (show F_WR_compare_J20 x2 x3 t0_0 t0_1 t0_2 t0_3 t0_4 t0_5 t0_6 t1_0 t2_0 t3_0 t4_0 1 = (F_WR_compare x2 x3 t0_0 t0_1 t0_2 t0_3 t0_4 t0_5 t0_6 t1_0 t2_0 t3_0 t4_0) from Eq.trans (by rw [F_WR_compare_J15.eq_1]) hR108), (show True ∧ S_WR_compare_J20 x2 x3 t0_0 t0_1 t0_2 t0_3 t0_4 t0_5 t0_6 t1_0 t2_0 t3_0 t4_0 1 from (by have h := hS109; rw [S_WR_compare_J15.eq_1] at h; with_reducible exact h))⟩
    ·
      intro J107
      refine lv_if_ne (tgt := 15) hx hb d_19_40_5 (by decide) (fun c113 => ?_) (fun c113 => ?_)
      ·
        have b114 : q_F (a28.toInt ≠ 0) := (q_neI c113)
        exact J107 (()) _ _ _ ws ⟨V, q_lw hl (q_lw1 0 rfl (q_lw1 1 rfl (q_lw1 2 rfl q_lw0))), (show F_WR_compare_J15 x2 x3 t0_0 t0_1 t0_2 t0_3 t0_4 t0_5 t0_6 t1_0 t2_0 t3_0 t4_0 = (F_WR_compare x2 x3 t0_0 t0_1 t0_2 t0_3 t0_4 t0_5 t0_6 t1_0 t2_0 t3_0 t4_0) from (by have c113x := c113; rw [e32] at c113x; rw [F_WR_compare.eq_1, if_neg c113x])), (show True ∧ S_WR_compare_J15 x2 x3 t0_0 t0_1 t0_2 t0_3 t0_4 t0_5 t0_6 t1_0 t2_0 t3_0 t4_0 from (by have h := hS; rw [S_WR_compare.eq_1] at h; have c113x := c113; rw [e32] at c113x; rw [if_neg c113x] at h; with_reducible exact h))⟩
      ·
        have b115 : q_F (a28.toInt = 0) := (q_eqI c113)
        refine lv_iload_n hx hb d_19_40_8 rfl (lv_at hl 2 rfl) ?_
        refine q_goi V (q_runS (As := [.int x3]) (rest := [.ref (q 119)]) (d := 1) (mc := 0) (ms := 0) C0 V rfl LS_WR_91 (X_WR_no l D g q ws  x3 hI   _) rfl hl.1 rfl (Nat.le_of_ble_eq_true rfl) ⟨by decide, by decide⟩ ⟨Nat.le_of_ble_eq_true rfl, Nat.le_of_ble_eq_true rfl⟩ d_19_40_9) (fun a118 u116 H locs hp117 V => ?_)
        obtain ⟨rfl, b119, b120, hE121⟩ := hp117
        have e122 : a118 = (F_WR_no x3) := hE121
        replace b119 : q_F (0 ≤ a118.toInt) := b119
        replace b120 : q_F (a118.toInt ≤ 1) := b120
        refine lv_if_eq (tgt := 19) hx hb d_19_40_12 (by decide) (fun c123 => ?_) (fun c123 => ?_)
        ·
          have b124 : q_F (a118.toInt = 0) := (q_eqI c123)
          refine lv_iconst (v := 0) hx hb d_19_40_19 (by decide) ?_
          exact J39 ((0 : Int32)) _ _ _ ws ⟨(show q_F (0 ≤ 0) from (show 0 ≤ 0 from by omega)), (show q_F (0 ≤ 1) from (show 0 ≤ 1 from by omega)), V, q_lw hl (q_lw1 0 rfl (q_lw1 1 rfl (q_lw1 2 rfl q_lw0))), (show F_WR_compare_J20 x2 x3 t0_0 t0_1 t0_2 t0_3 t0_4 t0_5 t0_6 t1_0 t2_0 t3_0 t4_0 0 = (F_WR_compare x2 x3 t0_0 t0_1 t0_2 t0_3 t0_4 t0_5 t0_6 t1_0 t2_0 t3_0 t4_0) from (by have c113x := c113; rw [e32] at c113x; have c123x := c123; rw [e122] at c123x; rw [F_WR_compare.eq_1, if_pos c113x, if_pos c123x])), (show True ∧ S_WR_compare_J20 x2 x3 t0_0 t0_1 t0_2 t0_3 t0_4 t0_5 t0_6 t1_0 t2_0 t3_0 t4_0 0 from (by have h := hS; rw [S_WR_compare.eq_1] at h; have c113x := c113; rw [e32] at c113x; rw [if_pos c113x] at h; have c123x := c123; rw [e122] at c123x; rw [if_pos c123x] at h; with_reducible exact h))⟩
        ·
          have b125 : q_F (a118.toInt ≠ 0) := (q_neI c123)
          exact J107 (()) _ _ _ ws ⟨V, q_lw hl (q_lw1 0 rfl (q_lw1 1 rfl (q_lw1 2 rfl q_lw0))), (show F_WR_compare_J15 x2 x3 t0_0 t0_1 t0_2 t0_3 t0_4 t0_5 t0_6 t1_0 t2_0 t3_0 t4_0 = (F_WR_compare x2 x3 t0_0 t0_1 t0_2 t0_3 t0_4 t0_5 t0_6 t1_0 t2_0 t3_0 t4_0) from (by have c113x := c113; rw [e32] at c113x; have c123x := c123; rw [e122] at c123x; rw [F_WR_compare.eq_1, if_pos c113x, if_neg c123x])), (show True ∧ S_WR_compare_J15 x2 x3 t0_0 t0_1 t0_2 t0_3 t0_4 t0_5 t0_6 t1_0 t2_0 t3_0 t4_0 from (by have h := hS; rw [S_WR_compare.eq_1] at h; have c113x := c113; rw [e32] at c113x; rw [if_pos c113x] at h; have c123x := c123; rw [e122] at c123x; rw [if_neg c123x] at h; with_reducible exact h))⟩
theorem d_19_21_0 : decode prog_19_method_21_code 0 = .ok (.iload_n 2, 1) := by decide +kernel
theorem d_19_21_1 : decode prog_19_method_21_code 1 = .ok (.iload 4, 2) := by decide +kernel
theorem d_19_21_3 : decode prog_19_method_21_code 3 = .ok (.if_icmp .ne 33, 3) := by decide +kernel
theorem d_19_21_36 : decode prog_19_method_21_code 36 = .ok (.aload_n 1, 1) := by decide +kernel
theorem d_19_21_37 : decode prog_19_method_21_code 37 = .ok (.aload_n 3, 1) := by decide +kernel
theorem d_19_21_38 : decode prog_19_method_21_code 38 = .ok (.invokestatic 71, 3) := by decide +kernel
theorem d_19_21_41 : decode prog_19_method_21_code 41 = .ok (.ifCond .lt 33, 3) := by decide +kernel
theorem d_19_21_74 : decode prog_19_method_21_code 74 = .ok (.aload_n 3, 1) := by decide +kernel
theorem d_19_21_75 : decode prog_19_method_21_code 75 = .ok (.aload_n 0, 1) := by decide +kernel
theorem d_19_21_76 : decode prog_19_method_21_code 76 = .ok (.getfield 20, 3) := by decide +kernel
theorem d_19_21_79 : decode prog_19_method_21_code 79 = .ok (.invokestatic 67, 3) := by decide +kernel
theorem d_19_21_82 : decode prog_19_method_21_code 82 = .ok (.aload_n 0, 1) := by decide +kernel
theorem d_19_21_83 : decode prog_19_method_21_code 83 = .ok (.getfield 20, 3) := by decide +kernel
theorem d_19_21_86 : decode prog_19_method_21_code 86 = .ok (.aload_n 1, 1) := by decide +kernel
theorem d_19_21_87 : decode prog_19_method_21_code 87 = .ok (.aload_n 1, 1) := by decide +kernel
theorem d_19_21_88 : decode prog_19_method_21_code 88 = .ok (.invokestatic 59, 3) := by decide +kernel
theorem d_19_21_91 : decode prog_19_method_21_code 91 = .ok (.lconst 1, 1) := by decide +kernel
theorem d_19_21_92 : decode prog_19_method_21_code 92 = .ok (.iconst 1, 1) := by decide +kernel
theorem d_19_21_93 : decode prog_19_method_21_code 93 = .ok (.invokestatic 75, 3) := by decide +kernel
theorem d_19_21_96 : decode prog_19_method_21_code 96 = .ok (.aload_n 0, 1) := by decide +kernel
theorem d_19_21_97 : decode prog_19_method_21_code 97 = .ok (.iload 4, 2) := by decide +kernel
theorem d_19_21_99 : decode prog_19_method_21_code 99 = .ok (.putfield 82, 3) := by decide +kernel
theorem d_19_21_102 : decode prog_19_method_21_code 102 = .ok (.return_, 1) := by decide +kernel
theorem d_19_21_44 : decode prog_19_method_21_code 44 = .ok (.aload_n 1, 1) := by decide +kernel
theorem d_19_21_45 : decode prog_19_method_21_code 45 = .ok (.aload_n 0, 1) := by decide +kernel
theorem d_19_21_46 : decode prog_19_method_21_code 46 = .ok (.getfield 20, 3) := by decide +kernel
theorem d_19_21_49 : decode prog_19_method_21_code 49 = .ok (.invokestatic 67, 3) := by decide +kernel
theorem d_19_21_52 : decode prog_19_method_21_code 52 = .ok (.aload_n 0, 1) := by decide +kernel
theorem d_19_21_53 : decode prog_19_method_21_code 53 = .ok (.getfield 20, 3) := by decide +kernel
theorem d_19_21_56 : decode prog_19_method_21_code 56 = .ok (.aload_n 3, 1) := by decide +kernel
theorem d_19_21_57 : decode prog_19_method_21_code 57 = .ok (.aload_n 3, 1) := by decide +kernel
theorem d_19_21_58 : decode prog_19_method_21_code 58 = .ok (.invokestatic 59, 3) := by decide +kernel
theorem d_19_21_61 : decode prog_19_method_21_code 61 = .ok (.lconst 1, 1) := by decide +kernel
theorem d_19_21_62 : decode prog_19_method_21_code 62 = .ok (.iconst 1, 1) := by decide +kernel
theorem d_19_21_63 : decode prog_19_method_21_code 63 = .ok (.invokestatic 75, 3) := by decide +kernel
theorem d_19_21_66 : decode prog_19_method_21_code 66 = .ok (.aload_n 0, 1) := by decide +kernel
theorem d_19_21_67 : decode prog_19_method_21_code 67 = .ok (.iload_n 2, 1) := by decide +kernel
theorem d_19_21_68 : decode prog_19_method_21_code 68 = .ok (.putfield 82, 3) := by decide +kernel
theorem d_19_21_71 : decode prog_19_method_21_code 71 = .ok (.goto 31, 3) := by decide +kernel
theorem d_19_21_6 : decode prog_19_method_21_code 6 = .ok (.aload_n 1, 1) := by decide +kernel
theorem d_19_21_7 : decode prog_19_method_21_code 7 = .ok (.aload_n 0, 1) := by decide +kernel
theorem d_19_21_8 : decode prog_19_method_21_code 8 = .ok (.getfield 20, 3) := by decide +kernel
theorem d_19_21_11 : decode prog_19_method_21_code 11 = .ok (.invokestatic 67, 3) := by decide +kernel
theorem d_19_21_14 : decode prog_19_method_21_code 14 = .ok (.aload_n 0, 1) := by decide +kernel
theorem d_19_21_15 : decode prog_19_method_21_code 15 = .ok (.getfield 20, 3) := by decide +kernel
theorem d_19_21_18 : decode prog_19_method_21_code 18 = .ok (.aload_n 3, 1) := by decide +kernel
theorem d_19_21_19 : decode prog_19_method_21_code 19 = .ok (.aload_n 3, 1) := by decide +kernel
theorem d_19_21_20 : decode prog_19_method_21_code 20 = .ok (.invokestatic 59, 3) := by decide +kernel
theorem d_19_21_23 : decode prog_19_method_21_code 23 = .ok (.lconst 1, 1) := by decide +kernel
theorem d_19_21_24 : decode prog_19_method_21_code 24 = .ok (.iconst 0, 1) := by decide +kernel
theorem d_19_21_25 : decode prog_19_method_21_code 25 = .ok (.invokestatic 75, 3) := by decide +kernel
theorem d_19_21_28 : decode prog_19_method_21_code 28 = .ok (.aload_n 0, 1) := by decide +kernel
theorem d_19_21_29 : decode prog_19_method_21_code 29 = .ok (.iload_n 2, 1) := by decide +kernel
theorem d_19_21_30 : decode prog_19_method_21_code 30 = .ok (.putfield 82, 3) := by decide +kernel
theorem d_19_21_33 : decode prog_19_method_21_code 33 = .ok (.goto 69, 3) := by decide +kernel
def y_WR_sum : MethodName := ⟨"NumberHouseModel$WholeRows", "sum", "([IZ[IZ)V"⟩
def F_WR_sum (N2 : Int32) (x3 : Int32) (N4 : Int32) (x5 : Int32) (t0_0 : Int32) (t0_1 : Int32) (t0_2 : Int32) (t0_3 : Int32) (t0_4 : Int32) (t0_5 : Int32) (t0_6 : Int32) (t1_0 : (Nat → Int32)) (t2_0 : (Nat → Int32)) (t3_0 : (Nat → Int32)) : Int32 × Int32 × Int32 × Int32 × Int32 × Int32 × Int32 × (Nat → Int32) := if x3 = x5 then ((t0_0, t0_1, t0_2, x3, t0_4, t0_5, t0_6, ((F_WR_join (264 : Int32) N4 ((F_WR_size N4 t3_0) : Int32) (1 : Int64) (0 : Int32) ((F_WR_copy N2 (264 : Int32) t2_0 t1_0) : (Nat → Int32)) t3_0) : (Nat → Int32)))) else (if ((F_WR_compareRows N2 N4 t2_0 t3_0) : Int32) < (0 : Int32) then ((t0_0, t0_1, t0_2, x5, t0_4, t0_5, t0_6, ((F_WR_join (264 : Int32) N2 ((F_WR_size N2 t2_0) : Int32) (1 : Int64) (1 : Int32) ((F_WR_copy N4 (264 : Int32) t3_0 t1_0) : (Nat → Int32)) t2_0) : (Nat → Int32)))) else ((t0_0, t0_1, t0_2, x3, t0_4, t0_5, t0_6, ((F_WR_join (264 : Int32) N4 ((F_WR_size N4 t3_0) : Int32) (1 : Int64) (1 : Int32) ((F_WR_copy N2 (264 : Int32) t2_0 t1_0) : (Nat → Int32)) t3_0) : (Nat → Int32)))))
def S_WR_sum (N2 : Int32) (x3 : Int32) (N4 : Int32) (x5 : Int32) (t0_0 : Int32) (t0_1 : Int32) (t0_2 : Int32) (t0_3 : Int32) (t0_4 : Int32) (t0_5 : Int32) (t0_6 : Int32) (t1_0 : (Nat → Int32)) (t2_0 : (Nat → Int32)) (t3_0 : (Nat → Int32)) : Prop := if x3 = x5 then ((True ∧ S_WR_join (264 : Int32) N4 ((F_WR_size N4 t3_0) : Int32) (1 : Int64) (0 : Int32) ((F_WR_copy N2 (264 : Int32) t2_0 t1_0) : (Nat → Int32)) t3_0) ∧ (True)) else ((True ∧ S_WR_compareRows N2 N4 t2_0 t3_0) ∧ (if ((F_WR_compareRows N2 N4 t2_0 t3_0) : Int32) < (0 : Int32) then ((True ∧ S_WR_join (264 : Int32) N2 ((F_WR_size N2 t2_0) : Int32) (1 : Int64) (1 : Int32) ((F_WR_copy N4 (264 : Int32) t3_0 t1_0) : (Nat → Int32)) t2_0) ∧ (True)) else ((True ∧ S_WR_join (264 : Int32) N4 ((F_WR_size N4 t3_0) : Int32) (1 : Int64) (1 : Int32) ((F_WR_copy N2 (264 : Int32) t2_0 t1_0) : (Nat → Int32)) t3_0) ∧ (True))))
set_option maxRecDepth 100000 in
set_option maxHeartbeats 4000000 in
theorem X_WR_sum (l : Launch) (D : va_G) (g : Nat → ClassId) (q : Nat → Nat) (ws : va_W) (k2 : Nat) (N2 : Int32) (hB2 : q_isRow (msh g q) g k2 N2) (k4 : Nat) (N4 : Int32) (hB4 : q_isRow (msh g q) g k4 N4) (x3 : Int32) (x5 : Int32) (ne_k2_123 : k2 ≠ 123) (ne_k4_123 : k4 ≠ 123) (ne_k2_k4 : k2 ≠ k4) (hI : q_I (msh g q) q ws) (t0_0 : Int32) (t0_1 : Int32) (t0_2 : Int32) (t0_3 : Int32) (t0_4 : Int32) (t0_5 : Int32) (t0_6 : Int32) (hT0 : ws[119]? = (some (q 119, .inr (13, [.int t0_0, .int t0_1, .ref (q 120), .int t0_2, .ref (q 121), .ref (q 122), .ref (q 123), .int t0_3, .ref (q 124), .ref (q 125), .ref (q 126), .ref (q 127), .ref (q 128), .ref (q 129), .ref (q 130), .ref (q 131), .int t0_4, .int t0_5, .ref (q 132), .ref (q 133), .int t0_6])) : Option (Nat × va_E))) (t1_0 : (Nat → Int32)) (hT1 : ws[123]? = (some (q 123, .inl (g 0, (264 : Int32).toNatClampNeg, .inl t1_0)) : Option (Nat × va_E))) (t2_0 : (Nat → Int32)) (hT2 : ws[k2]? = (some (q k2, .inl (g 0, N2.toNatClampNeg, .inl t2_0)) : Option (Nat × va_E))) (t3_0 : (Nat → Int32)) (hT3 : ws[k4]? = (some (q k4, .inl (g 0, N4.toNatClampNeg, .inl t3_0)) : Option (Nat × va_E))) (hzx3 : 0 ≤ x3.toInt ∧ x3.toInt ≤ 1) (hzx5 : 0 ≤ x5.toInt ∧ x5.toInt ≤ 1) (hS : True ∧ S_WR_sum N2 x3 N4 x5 t0_0 t0_1 t0_2 t0_3 t0_4 t0_5 t0_6 t1_0 t2_0 t3_0) : q_mV l y_WR_sum prog_19_method_21_code 5 2 0 0 D g [.ref (q 119), .ref (q k2), .int x3, .ref (q k4), .int x5] ws (fun u => q_I (msh g q) q u ∧ q_un ws u [119, 123] ∧ ∃ (u0_0 : Int32) (u0_1 : Int32) (u0_2 : Int32) (u0_3 : Int32) (u0_4 : Int32) (u0_5 : Int32) (u0_6 : Int32) (u1_0 : (Nat → Int32)), u[119]? = (some (q 119, .inr (13, [.int u0_0, .int u0_1, .ref (q 120), .int u0_2, .ref (q 121), .ref (q 122), .ref (q 123), .int u0_3, .ref (q 124), .ref (q 125), .ref (q 126), .ref (q 127), .ref (q 128), .ref (q 129), .ref (q 130), .ref (q 131), .int u0_4, .int u0_5, .ref (q 132), .ref (q 133), .int u0_6])) : Option (Nat × va_E)) ∧ u[123]? = (some (q 123, .inl (g 0, (264 : Int32).toNatClampNeg, .inl u1_0)) : Option (Nat × va_E)) ∧ (0 ≤ u0_3.toInt) ∧ (u0_3.toInt ≤ 1) ∧ (t0_0.toInt ≤ u0_0.toInt) ∧ (u0_0.toInt ≤ t0_0.toInt) ∧ (t0_1.toInt ≤ u0_1.toInt) ∧ (u0_1.toInt ≤ t0_1.toInt) ∧ (t0_2.toInt ≤ u0_2.toInt) ∧ (u0_2.toInt ≤ t0_2.toInt) ∧ (t0_4.toInt ≤ u0_4.toInt) ∧ (u0_4.toInt ≤ t0_4.toInt) ∧ (t0_5.toInt ≤ u0_5.toInt) ∧ (u0_5.toInt ≤ t0_5.toInt) ∧ (t0_6.toInt ≤ u0_6.toInt) ∧ (u0_6.toInt ≤ t0_6.toInt) ∧ (u0_0, u0_1, u0_2, u0_3, u0_4, u0_5, u0_6, u1_0) = (F_WR_sum N2 x3 N4 x5 t0_0 t0_1 t0_2 t0_3 t0_4 t0_5 t0_6 t1_0 t2_0 t3_0)) := by
  intro sz
  refine q_into (by decide) (Nat.le_of_ble_eq_true rfl) ?_
  intro p e s m below meth c ls hsz C0 V hl
  have hx := C0.1
  have hb := C0.2.1
  have hfk20 : q_F (0 ≤ N2.toInt ∧ N2.toInt ≤ 20200) := hB2.2
  replace hzx3 : q_F (0 ≤ x3.toInt ∧ x3.toInt ≤ 1) := hzx3
  have hfk40 : q_F (0 ≤ N4.toInt ∧ N4.toInt ≤ 20200) := hB4.2
  replace hzx5 : q_F (0 ≤ x5.toInt ∧ x5.toInt ≤ 1) := hzx5
  obtain ⟨yy0_0, yy0_1, yy0_2, yy0_3, yy0_4, yy0_5, yy0_6, hh0, btt0_2, btt0_3, btt0_4, btt0_5, btt0_6⟩ := n_o119 hI
  obtain ⟨rfl, rfl, rfl, rfl, rfl, rfl, rfl⟩ : t0_0 = yy0_0 ∧ t0_1 = yy0_1 ∧ t0_2 = yy0_2 ∧ t0_3 = yy0_3 ∧ t0_4 = yy0_4 ∧ t0_5 = yy0_5 ∧ t0_6 = yy0_6 := by have z := Option.some.inj (hT0.symm.trans hh0); simpa using z
  replace btt0_2 : q_F (0 ≤ t0_2.toInt ∧ t0_2.toInt ≤ 4100) := btt0_2
  replace btt0_3 : q_F (0 ≤ t0_3.toInt ∧ t0_3.toInt ≤ 1) := btt0_3
  replace btt0_4 : q_F (0 ≤ t0_4.toInt ∧ t0_4.toInt ≤ 1) := btt0_4
  replace btt0_5 : q_F (0 ≤ t0_5.toInt ∧ t0_5.toInt ≤ 1) := btt0_5
  replace btt0_6 : q_F (0 ≤ t0_6.toInt ∧ t0_6.toInt ≤ 2100) := btt0_6
  have hF : q_un ws ws [119, 123] := q_u0
  have hl : lv_has ls 5 [(0, .ref (q 119)), (1, .ref (q k2)), (2, .int x3), (3, .ref (q k4)), (4, .int x5)] := hl
  refine lv_iload_n hx hb d_19_21_0 rfl (lv_at hl 2 rfl) ?_
  refine lv_iload hx hb d_19_21_1 (lv_at hl 4 rfl) ?_
  refine lv_icmp_ne (tgt := 36) hx hb d_19_21_3 (by decide) (fun c23 => ?_) (fun c23 => ?_)
  ·
    have b24 : q_F (x3.toInt ≠ x5.toInt) := (q_neI c23)
    refine lv_aload_n hx hb d_19_21_36 rfl (lv_at hl 1 rfl) ?_
    refine lv_aload_n hx hb d_19_21_37 rfl (lv_at hl 3 rfl) ?_
    have ob25 : True ∧ S_WR_compareRows N2 N4 t2_0 t3_0 := (by have h := hS; rw [S_WR_sum.eq_1] at h; rw [if_neg c23] at h; with_reducible exact h.2.1)
    refine q_goi V (q_runS (As := [.ref (q k2), .ref (q k4)]) (rest := []) (d := 1) (mc := 0) (ms := 0) C0 V rfl LS_WR_71 (X_WR_compareRows l D g q ws k2 N2 hB2 k4 N4 hB4  hI t2_0 hT2 t3_0 hT3 ob25 _) rfl hl.1 rfl (Nat.le_of_ble_eq_true rfl) ⟨by decide, by decide⟩ ⟨Nat.le_of_ble_eq_true rfl, Nat.le_of_ble_eq_true rfl⟩ d_19_21_38) (fun a28 u26 H locs hp27 V => ?_)
    obtain ⟨rfl, b29, b30, b31, b32, hE33⟩ := hp27
    have e34 : a28 = (F_WR_compareRows N2 N4 t2_0 t3_0) := hE33
    replace b29 : q_F (0 ≤ a28.toInt + 1) := b29
    replace b30 : q_F (a28.toInt ≤ 1) := b30
    replace b31 : q_F (a28.toInt ≤ N2.toInt) := b31
    replace b32 : q_F (a28.toInt ≤ N4.toInt) := b32
    refine lv_if_lt (tgt := 74) hx hb d_19_21_41 (by decide) (fun c35 => ?_) (fun c35 => ?_)
    ·
      have b36 : q_F (a28.toInt < 0) := (q_ltI c35)
      refine lv_aload_n hx hb d_19_21_74 rfl (lv_at hl 3 rfl) ?_
      refine lv_aload_n hx hb d_19_21_75 rfl (lv_at hl 0 rfl) ?_
      refine q_get (ci := 13) (j := 6) (v := .ref (q 123)) C0 V i_WR rfl rfl hT0 (by decide) w_1930 rfl d_19_21_76 ?_
      refine q_gov V (q_runS (As := [.ref (q k4), .ref (q 123)]) (rest := []) (d := 1) (mc := 0) (ms := 0) C0 V rfl LS_WR_67 (X_WR_copy l D g q ws k4 N4 hB4 123 264 (n_r123 g q)  (by have z := ne_k4_123; omega) hI t3_0 hT3 t1_0 hT1  _) rfl hl.1 rfl (Nat.le_of_ble_eq_true rfl) ⟨by decide, by decide⟩ ⟨Nat.le_of_ble_eq_true rfl, Nat.le_of_ble_eq_true rfl⟩ d_19_21_79) (fun u37 H locs hp38 V => ?_)
      obtain ⟨hI, hu42, f39, hA40, hE41⟩ := hp38
      replace hA40 : u37[123]? = (some (q 123, .inl (g 0, (264 : Int32).toNatClampNeg, .inl f39)) : Option (Nat × va_E)) := hA40
      have e43 : f39 = (F_WR_copy N4 (264 : Int32) t3_0 t1_0) := hE41
      replace hT0 := (hu42 _ (by decide)).trans hT0
      replace hT2 := (hu42 _ (by simp only [List.mem_cons, List.not_mem_nil, or_false, not_or]; omega)).trans hT2
      replace hT3 := (hu42 _ (by simp only [List.mem_cons, List.not_mem_nil, or_false, not_or]; omega)).trans hT3
      replace hF := q_uc hF hu42 (by simp)
      refine lv_aload_n hx hb d_19_21_82 rfl (lv_at hl 0 rfl) ?_
      refine q_get (ci := 13) (j := 6) (v := .ref (q 123)) C0 V i_WR rfl rfl hT0 (by decide) w_1930 rfl d_19_21_83 ?_
      refine lv_aload_n hx hb d_19_21_86 rfl (lv_at hl 1 rfl) ?_
      refine lv_aload_n hx hb d_19_21_87 rfl (lv_at hl 1 rfl) ?_
      refine q_goi V (q_runS (As := [.ref (q k2)]) (rest := [.ref (q k2), .ref (q 123)]) (d := 1) (mc := 0) (ms := 0) C0 V rfl LS_WR_59 (X_WR_size l D g q u37 k2 N2 hB2  hI t2_0 hT2  _) rfl hl.1 rfl (Nat.le_of_ble_eq_true rfl) ⟨by decide, by decide⟩ ⟨Nat.le_of_ble_eq_true rfl, Nat.le_of_ble_eq_true rfl⟩ d_19_21_88) (fun a46 u44 H locs hp45 V => ?_)
      obtain ⟨rfl, b47, b48, hE49⟩ := hp45
      have e50 : a46 = (F_WR_size N2 t2_0) := hE49
      replace b47 : q_F (0 ≤ a46.toInt) := b47
      replace b48 : q_F (a46.toInt ≤ N2.toInt) := b48
      refine lv_lconst (v := 1) hx hb d_19_21_91 (by decide) ?_
      refine lv_iconst (v := 1) hx hb d_19_21_92 (by decide) ?_
      have ob51 : True ∧ S_WR_join (264 : Int32) N2 a46 (1 : Int64) (1 : Int32) f39 t2_0 := (by rw [e50, e43]; have h := hS; rw [S_WR_sum.eq_1] at h; rw [if_neg c23] at h; replace h := q_s2 h; have c35x := c35; rw [e34] at c35x; rw [if_pos c35x] at h; with_reducible exact h.2.1)
      refine q_gov V (q_runS (As := [.ref (q 123), .ref (q k2), .int a46, .long 1, .int 1]) (rest := []) (d := 1) (mc := 0) (ms := 0) C0 V rfl LS_WR_75 (X_WR_join l D g q u37 123 264 (n_r123 g q) k2 N2 hB2 a46 1 1 (by have z := ne_k2_123; omega) hI f39 hA40 t2_0 hT2 ⟨(by have y0 : (264 : Int32).toInt = 264 := rfl; have y1 : (1 : Int64).toInt = 1 := rfl; have y2 : (1 : Int32).toInt = 1 := rfl; omega), (by have y0 : (264 : Int32).toInt = 264 := rfl; have y1 : (1 : Int64).toInt = 1 := rfl; have y2 : (1 : Int32).toInt = 1 := rfl; omega)⟩ ob51 _) rfl hl.1 rfl (Nat.le_of_ble_eq_true rfl) ⟨by decide, by decide⟩ ⟨Nat.le_of_ble_eq_true rfl, Nat.le_of_ble_eq_true rfl⟩ d_19_21_93) (fun u52 H locs hp53 V => ?_)
      obtain ⟨hI, hu57, f54, hA55, hE56⟩ := hp53
      replace hA55 : u52[123]? = (some (q 123, .inl (g 0, (264 : Int32).toNatClampNeg, .inl f54)) : Option (Nat × va_E)) := hA55
      have e58 : f54 = (F_WR_join (264 : Int32) N2 a46 (1 : Int64) (1 : Int32) f39 t2_0) := hE56
      replace hT0 := (hu57 _ (by decide)).trans hT0
      replace hT2 := (hu57 _ (by simp only [List.mem_cons, List.not_mem_nil, or_false, not_or]; omega)).trans hT2
      replace hT3 := (hu57 _ (by simp only [List.mem_cons, List.not_mem_nil, or_false, not_or]; omega)).trans hT3
      replace hF := q_uc hF hu57 (by simp)
      refine lv_aload_n hx hb d_19_21_96 rfl (lv_at hl 0 rfl) ?_
      refine lv_iload hx hb d_19_21_97 (lv_at hl 4 rfl) ?_
      have ne61 := q_df hT2 hT0
      have ne62 := q_df hT3 hT0
      refine q_put (ci := 13) (j := 7) (v := .int x5) (ty := .boolean) C0 V i_WR o_WR n_WR rfl rfl hT0 (by decide) w_1931 rfl rfl (q_nz01 (q_Ile (x := 0) (y := x5.toInt) (by decide) rfl (by have t1 : 0 ≤ x5.toInt ∧ x5.toInt ≤ 1 := hzx5; omega)) (q_Ile (x := x5.toInt) (y := 1) rfl (by decide) (by have t1 : 0 ≤ x5.toInt ∧ x5.toInt ≤ 1 := hzx5; omega))) (q_fz01 (q_Ile (x := 0) (y := x5.toInt) (by decide) rfl (by have t1 : 0 ≤ x5.toInt ∧ x5.toInt ≤ 1 := hzx5; omega)) (q_Ile (x := x5.toInt) (y := 1) rfl (by decide) (by have t1 : 0 ≤ x5.toInt ∧ x5.toInt ≤ 1 := hzx5; omega))) (Nat.le_of_ble_eq_true rfl) d_19_21_99 (fun H locs w59 hu60 hT0 V => ?_)
      replace hT0 : w59[119]? = (some (q 119, .inr (13, [.int t0_0, .int t0_1, .ref (q 120), .int t0_2, .ref (q 121), .ref (q 122), .ref (q 123), .int x5, .ref (q 124), .ref (q 125), .ref (q 126), .ref (q 127), .ref (q 128), .ref (q 129), .ref (q 130), .ref (q 131), .int t0_4, .int t0_5, .ref (q 132), .ref (q 133), .int t0_6])) : Option (Nat × va_E)) := hT0
      replace hI := n_p119 hI hu60 hT0 ⟨(by have t1 : 0 ≤ t0_2.toInt ∧ t0_2.toInt ≤ 4100 := btt0_2; omega), (by have t1 : 0 ≤ t0_2.toInt ∧ t0_2.toInt ≤ 4100 := btt0_2; omega)⟩ ⟨(by have t1 : 0 ≤ x5.toInt ∧ x5.toInt ≤ 1 := hzx5; omega), (by have t1 : 0 ≤ x5.toInt ∧ x5.toInt ≤ 1 := hzx5; omega)⟩ ⟨(by have t1 : 0 ≤ t0_4.toInt ∧ t0_4.toInt ≤ 1 := btt0_4; omega), (by have t1 : 0 ≤ t0_4.toInt ∧ t0_4.toInt ≤ 1 := btt0_4; omega)⟩ ⟨(by have t1 : 0 ≤ t0_5.toInt ∧ t0_5.toInt ≤ 1 := btt0_5; omega), (by have t1 : 0 ≤ t0_5.toInt ∧ t0_5.toInt ≤ 1 := btt0_5; omega)⟩ ⟨(by have t1 : 0 ≤ t0_6.toInt ∧ t0_6.toInt ≤ 2100 := btt0_6; omega), (by have t1 : 0 ≤ t0_6.toInt ∧ t0_6.toInt ≤ 2100 := btt0_6; omega)⟩
      replace hA55 := (hu60 _ (by decide)).trans hA55
      replace hT2 := (hu60 _ ne61).trans hT2
      replace hT3 := (hu60 _ ne62).trans hT3
      replace hF := q_us hF hu60 (by simp)
      exact q_retv C0 V (⟨hI, hF, t0_0, t0_1, t0_2, x5, t0_4, t0_5, t0_6, f54, hT0, hA55, (show 0 ≤ x5.toInt from (by have t1 : 0 ≤ x5.toInt ∧ x5.toInt ≤ 1 := hzx5; omega)), (show x5.toInt ≤ 1 from (by have t1 : 0 ≤ x5.toInt ∧ x5.toInt ≤ 1 := hzx5; omega)), (show t0_0.toInt ≤ t0_0.toInt from (by omega)), (show t0_0.toInt ≤ t0_0.toInt from (by omega)), (show t0_1.toInt ≤ t0_1.toInt from (by omega)), (show t0_1.toInt ≤ t0_1.toInt from (by omega)), (show t0_2.toInt ≤ t0_2.toInt from (by omega)), (show t0_2.toInt ≤ t0_2.toInt from (by omega)), (show t0_4.toInt ≤ t0_4.toInt from (by omega)), (show t0_4.toInt ≤ t0_4.toInt from (by omega)), (show t0_5.toInt ≤ t0_5.toInt from (by omega)), (show t0_5.toInt ≤ t0_5.toInt from (by omega)), (show t0_6.toInt ≤ t0_6.toInt from (by omega)), (show t0_6.toInt ≤ t0_6.toInt from (by omega)), (show (t0_0, t0_1, t0_2, x5, t0_4, t0_5, t0_6, f54) = (F_WR_sum N2 x3 N4 x5 t0_0 t0_1 t0_2 t0_3 t0_4 t0_5 t0_6 t1_0 t2_0 t3_0) from (by have c35x := c35; rw [e34] at c35x; rw [e58, e50, e43, F_WR_sum.eq_1, if_neg c23, if_pos c35x]))⟩) d_19_21_102
    ·
      have b63 : q_F (0 ≤ a28.toInt) := (q_nltI c35)
      refine lv_aload_n hx hb d_19_21_44 rfl (lv_at hl 1 rfl) ?_
      refine lv_aload_n hx hb d_19_21_45 rfl (lv_at hl 0 rfl) ?_
      refine q_get (ci := 13) (j := 6) (v := .ref (q 123)) C0 V i_WR rfl rfl hT0 (by decide) w_1930 rfl d_19_21_46 ?_
      refine q_gov V (q_runS (As := [.ref (q k2), .ref (q 123)]) (rest := []) (d := 1) (mc := 0) (ms := 0) C0 V rfl LS_WR_67 (X_WR_copy l D g q ws k2 N2 hB2 123 264 (n_r123 g q)  (by have z := ne_k2_123; omega) hI t2_0 hT2 t1_0 hT1  _) rfl hl.1 rfl (Nat.le_of_ble_eq_true rfl) ⟨by decide, by decide⟩ ⟨Nat.le_of_ble_eq_true rfl, Nat.le_of_ble_eq_true rfl⟩ d_19_21_49) (fun u64 H locs hp65 V => ?_)
      obtain ⟨hI, hu69, f66, hA67, hE68⟩ := hp65
      replace hA67 : u64[123]? = (some (q 123, .inl (g 0, (264 : Int32).toNatClampNeg, .inl f66)) : Option (Nat × va_E)) := hA67
      have e70 : f66 = (F_WR_copy N2 (264 : Int32) t2_0 t1_0) := hE68
      replace hT0 := (hu69 _ (by decide)).trans hT0
      replace hT2 := (hu69 _ (by simp only [List.mem_cons, List.not_mem_nil, or_false, not_or]; omega)).trans hT2
      replace hT3 := (hu69 _ (by simp only [List.mem_cons, List.not_mem_nil, or_false, not_or]; omega)).trans hT3
      replace hF := q_uc hF hu69 (by simp)
      refine lv_aload_n hx hb d_19_21_52 rfl (lv_at hl 0 rfl) ?_
      refine q_get (ci := 13) (j := 6) (v := .ref (q 123)) C0 V i_WR rfl rfl hT0 (by decide) w_1930 rfl d_19_21_53 ?_
      refine lv_aload_n hx hb d_19_21_56 rfl (lv_at hl 3 rfl) ?_
      refine lv_aload_n hx hb d_19_21_57 rfl (lv_at hl 3 rfl) ?_
      refine q_goi V (q_runS (As := [.ref (q k4)]) (rest := [.ref (q k4), .ref (q 123)]) (d := 1) (mc := 0) (ms := 0) C0 V rfl LS_WR_59 (X_WR_size l D g q u64 k4 N4 hB4  hI t3_0 hT3  _) rfl hl.1 rfl (Nat.le_of_ble_eq_true rfl) ⟨by decide, by decide⟩ ⟨Nat.le_of_ble_eq_true rfl, Nat.le_of_ble_eq_true rfl⟩ d_19_21_58) (fun a73 u71 H locs hp72 V => ?_)
      obtain ⟨rfl, b74, b75, hE76⟩ := hp72
      have e77 : a73 = (F_WR_size N4 t3_0) := hE76
      replace b74 : q_F (0 ≤ a73.toInt) := b74
      replace b75 : q_F (a73.toInt ≤ N4.toInt) := b75
      refine lv_lconst (v := 1) hx hb d_19_21_61 (by decide) ?_
      refine lv_iconst (v := 1) hx hb d_19_21_62 (by decide) ?_
      have ob78 : True ∧ S_WR_join (264 : Int32) N4 a73 (1 : Int64) (1 : Int32) f66 t3_0 := (by rw [e77, e70]; have h := hS; rw [S_WR_sum.eq_1] at h; rw [if_neg c23] at h; replace h := q_s2 h; have c35x := c35; rw [e34] at c35x; rw [if_neg c35x] at h; with_reducible exact h.2.1)
      refine q_gov V (q_runS (As := [.ref (q 123), .ref (q k4), .int a73, .long 1, .int 1]) (rest := []) (d := 1) (mc := 0) (ms := 0) C0 V rfl LS_WR_75 (X_WR_join l D g q u64 123 264 (n_r123 g q) k4 N4 hB4 a73 1 1 (by have z := ne_k4_123; omega) hI f66 hA67 t3_0 hT3 ⟨(by have y0 : (264 : Int32).toInt = 264 := rfl; have y1 : (1 : Int64).toInt = 1 := rfl; have y2 : (1 : Int32).toInt = 1 := rfl; omega), (by have y0 : (264 : Int32).toInt = 264 := rfl; have y1 : (1 : Int64).toInt = 1 := rfl; have y2 : (1 : Int32).toInt = 1 := rfl; omega)⟩ ob78 _) rfl hl.1 rfl (Nat.le_of_ble_eq_true rfl) ⟨by decide, by decide⟩ ⟨Nat.le_of_ble_eq_true rfl, Nat.le_of_ble_eq_true rfl⟩ d_19_21_63) (fun u79 H locs hp80 V => ?_)
      obtain ⟨hI, hu84, f81, hA82, hE83⟩ := hp80
      replace hA82 : u79[123]? = (some (q 123, .inl (g 0, (264 : Int32).toNatClampNeg, .inl f81)) : Option (Nat × va_E)) := hA82
      have e85 : f81 = (F_WR_join (264 : Int32) N4 a73 (1 : Int64) (1 : Int32) f66 t3_0) := hE83
      replace hT0 := (hu84 _ (by decide)).trans hT0
      replace hT2 := (hu84 _ (by simp only [List.mem_cons, List.not_mem_nil, or_false, not_or]; omega)).trans hT2
      replace hT3 := (hu84 _ (by simp only [List.mem_cons, List.not_mem_nil, or_false, not_or]; omega)).trans hT3
      replace hF := q_uc hF hu84 (by simp)
      refine lv_aload_n hx hb d_19_21_66 rfl (lv_at hl 0 rfl) ?_
      refine lv_iload_n hx hb d_19_21_67 rfl (lv_at hl 2 rfl) ?_
      have ne88 := q_df hT2 hT0
      have ne89 := q_df hT3 hT0
      refine q_put (ci := 13) (j := 7) (v := .int x3) (ty := .boolean) C0 V i_WR o_WR n_WR rfl rfl hT0 (by decide) w_1931 rfl rfl (q_nz01 (q_Ile (x := 0) (y := x3.toInt) (by decide) rfl (by have t1 : 0 ≤ x3.toInt ∧ x3.toInt ≤ 1 := hzx3; omega)) (q_Ile (x := x3.toInt) (y := 1) rfl (by decide) (by have t1 : 0 ≤ x3.toInt ∧ x3.toInt ≤ 1 := hzx3; omega))) (q_fz01 (q_Ile (x := 0) (y := x3.toInt) (by decide) rfl (by have t1 : 0 ≤ x3.toInt ∧ x3.toInt ≤ 1 := hzx3; omega)) (q_Ile (x := x3.toInt) (y := 1) rfl (by decide) (by have t1 : 0 ≤ x3.toInt ∧ x3.toInt ≤ 1 := hzx3; omega))) (Nat.le_of_ble_eq_true rfl) d_19_21_68 (fun H locs w86 hu87 hT0 V => ?_)
      replace hT0 : w86[119]? = (some (q 119, .inr (13, [.int t0_0, .int t0_1, .ref (q 120), .int t0_2, .ref (q 121), .ref (q 122), .ref (q 123), .int x3, .ref (q 124), .ref (q 125), .ref (q 126), .ref (q 127), .ref (q 128), .ref (q 129), .ref (q 130), .ref (q 131), .int t0_4, .int t0_5, .ref (q 132), .ref (q 133), .int t0_6])) : Option (Nat × va_E)) := hT0
      replace hI := n_p119 hI hu87 hT0 ⟨(by have t1 : 0 ≤ t0_2.toInt ∧ t0_2.toInt ≤ 4100 := btt0_2; omega), (by have t1 : 0 ≤ t0_2.toInt ∧ t0_2.toInt ≤ 4100 := btt0_2; omega)⟩ ⟨(by have t1 : 0 ≤ x3.toInt ∧ x3.toInt ≤ 1 := hzx3; omega), (by have t1 : 0 ≤ x3.toInt ∧ x3.toInt ≤ 1 := hzx3; omega)⟩ ⟨(by have t1 : 0 ≤ t0_4.toInt ∧ t0_4.toInt ≤ 1 := btt0_4; omega), (by have t1 : 0 ≤ t0_4.toInt ∧ t0_4.toInt ≤ 1 := btt0_4; omega)⟩ ⟨(by have t1 : 0 ≤ t0_5.toInt ∧ t0_5.toInt ≤ 1 := btt0_5; omega), (by have t1 : 0 ≤ t0_5.toInt ∧ t0_5.toInt ≤ 1 := btt0_5; omega)⟩ ⟨(by have t1 : 0 ≤ t0_6.toInt ∧ t0_6.toInt ≤ 2100 := btt0_6; omega), (by have t1 : 0 ≤ t0_6.toInt ∧ t0_6.toInt ≤ 2100 := btt0_6; omega)⟩
      replace hA82 := (hu87 _ (by decide)).trans hA82
      replace hT2 := (hu87 _ ne88).trans hT2
      replace hT3 := (hu87 _ ne89).trans hT3
      replace hF := q_us hF hu87 (by simp)
      refine lv_goto (tgt := 102) hx hb d_19_21_71 (by decide) ?_
      exact q_retv C0 V (⟨hI, hF, t0_0, t0_1, t0_2, x3, t0_4, t0_5, t0_6, f81, hT0, hA82, (show 0 ≤ x3.toInt from (by have t1 : 0 ≤ x3.toInt ∧ x3.toInt ≤ 1 := hzx3; omega)), (show x3.toInt ≤ 1 from (by have t1 : 0 ≤ x3.toInt ∧ x3.toInt ≤ 1 := hzx3; omega)), (show t0_0.toInt ≤ t0_0.toInt from (by omega)), (show t0_0.toInt ≤ t0_0.toInt from (by omega)), (show t0_1.toInt ≤ t0_1.toInt from (by omega)), (show t0_1.toInt ≤ t0_1.toInt from (by omega)), (show t0_2.toInt ≤ t0_2.toInt from (by omega)), (show t0_2.toInt ≤ t0_2.toInt from (by omega)), (show t0_4.toInt ≤ t0_4.toInt from (by omega)), (show t0_4.toInt ≤ t0_4.toInt from (by omega)), (show t0_5.toInt ≤ t0_5.toInt from (by omega)), (show t0_5.toInt ≤ t0_5.toInt from (by omega)), (show t0_6.toInt ≤ t0_6.toInt from (by omega)), (show t0_6.toInt ≤ t0_6.toInt from (by omega)), (show (t0_0, t0_1, t0_2, x3, t0_4, t0_5, t0_6, f81) = (F_WR_sum N2 x3 N4 x5 t0_0 t0_1 t0_2 t0_3 t0_4 t0_5 t0_6 t1_0 t2_0 t3_0) from (by have c35x := c35; rw [e34] at c35x; rw [e85, e77, e70, F_WR_sum.eq_1, if_neg c23, if_neg c35x]))⟩) d_19_21_102
  ·
    have b90 : q_F (x3.toInt = x5.toInt) := (q_eqI c23)
    refine lv_aload_n hx hb d_19_21_6 rfl (lv_at hl 1 rfl) ?_
    refine lv_aload_n hx hb d_19_21_7 rfl (lv_at hl 0 rfl) ?_
    refine q_get (ci := 13) (j := 6) (v := .ref (q 123)) C0 V i_WR rfl rfl hT0 (by decide) w_1930 rfl d_19_21_8 ?_
    refine q_gov V (q_runS (As := [.ref (q k2), .ref (q 123)]) (rest := []) (d := 1) (mc := 0) (ms := 0) C0 V rfl LS_WR_67 (X_WR_copy l D g q ws k2 N2 hB2 123 264 (n_r123 g q)  (by have z := ne_k2_123; omega) hI t2_0 hT2 t1_0 hT1  _) rfl hl.1 rfl (Nat.le_of_ble_eq_true rfl) ⟨by decide, by decide⟩ ⟨Nat.le_of_ble_eq_true rfl, Nat.le_of_ble_eq_true rfl⟩ d_19_21_11) (fun u91 H locs hp92 V => ?_)
    obtain ⟨hI, hu96, f93, hA94, hE95⟩ := hp92
    replace hA94 : u91[123]? = (some (q 123, .inl (g 0, (264 : Int32).toNatClampNeg, .inl f93)) : Option (Nat × va_E)) := hA94
    have e97 : f93 = (F_WR_copy N2 (264 : Int32) t2_0 t1_0) := hE95
    replace hT0 := (hu96 _ (by decide)).trans hT0
    replace hT2 := (hu96 _ (by simp only [List.mem_cons, List.not_mem_nil, or_false, not_or]; omega)).trans hT2
    replace hT3 := (hu96 _ (by simp only [List.mem_cons, List.not_mem_nil, or_false, not_or]; omega)).trans hT3
    replace hF := q_uc hF hu96 (by simp)
    refine lv_aload_n hx hb d_19_21_14 rfl (lv_at hl 0 rfl) ?_
    refine q_get (ci := 13) (j := 6) (v := .ref (q 123)) C0 V i_WR rfl rfl hT0 (by decide) w_1930 rfl d_19_21_15 ?_
    refine lv_aload_n hx hb d_19_21_18 rfl (lv_at hl 3 rfl) ?_
    refine lv_aload_n hx hb d_19_21_19 rfl (lv_at hl 3 rfl) ?_
    refine q_goi V (q_runS (As := [.ref (q k4)]) (rest := [.ref (q k4), .ref (q 123)]) (d := 1) (mc := 0) (ms := 0) C0 V rfl LS_WR_59 (X_WR_size l D g q u91 k4 N4 hB4  hI t3_0 hT3  _) rfl hl.1 rfl (Nat.le_of_ble_eq_true rfl) ⟨by decide, by decide⟩ ⟨Nat.le_of_ble_eq_true rfl, Nat.le_of_ble_eq_true rfl⟩ d_19_21_20) (fun a100 u98 H locs hp99 V => ?_)
    obtain ⟨rfl, b101, b102, hE103⟩ := hp99
    have e104 : a100 = (F_WR_size N4 t3_0) := hE103
    replace b101 : q_F (0 ≤ a100.toInt) := b101
    replace b102 : q_F (a100.toInt ≤ N4.toInt) := b102
    refine lv_lconst (v := 1) hx hb d_19_21_23 (by decide) ?_
    refine lv_iconst (v := 0) hx hb d_19_21_24 (by decide) ?_
    have ob105 : True ∧ S_WR_join (264 : Int32) N4 a100 (1 : Int64) (0 : Int32) f93 t3_0 := (by rw [e104, e97]; have h := hS; rw [S_WR_sum.eq_1] at h; rw [if_pos c23] at h; with_reducible exact h.2.1)
    refine q_gov V (q_runS (As := [.ref (q 123), .ref (q k4), .int a100, .long 1, .int 0]) (rest := []) (d := 1) (mc := 0) (ms := 0) C0 V rfl LS_WR_75 (X_WR_join l D g q u91 123 264 (n_r123 g q) k4 N4 hB4 a100 1 0 (by have z := ne_k4_123; omega) hI f93 hA94 t3_0 hT3 ⟨(by have y0 : (264 : Int32).toInt = 264 := rfl; have y1 : (1 : Int64).toInt = 1 := rfl; have y2 : (0 : Int32).toInt = 0 := rfl; omega), (by have y0 : (264 : Int32).toInt = 264 := rfl; have y1 : (1 : Int64).toInt = 1 := rfl; have y2 : (0 : Int32).toInt = 0 := rfl; omega)⟩ ob105 _) rfl hl.1 rfl (Nat.le_of_ble_eq_true rfl) ⟨by decide, by decide⟩ ⟨Nat.le_of_ble_eq_true rfl, Nat.le_of_ble_eq_true rfl⟩ d_19_21_25) (fun u106 H locs hp107 V => ?_)
    obtain ⟨hI, hu111, f108, hA109, hE110⟩ := hp107
    replace hA109 : u106[123]? = (some (q 123, .inl (g 0, (264 : Int32).toNatClampNeg, .inl f108)) : Option (Nat × va_E)) := hA109
    have e112 : f108 = (F_WR_join (264 : Int32) N4 a100 (1 : Int64) (0 : Int32) f93 t3_0) := hE110
    replace hT0 := (hu111 _ (by decide)).trans hT0
    replace hT2 := (hu111 _ (by simp only [List.mem_cons, List.not_mem_nil, or_false, not_or]; omega)).trans hT2
    replace hT3 := (hu111 _ (by simp only [List.mem_cons, List.not_mem_nil, or_false, not_or]; omega)).trans hT3
    replace hF := q_uc hF hu111 (by simp)
    refine lv_aload_n hx hb d_19_21_28 rfl (lv_at hl 0 rfl) ?_
    refine lv_iload_n hx hb d_19_21_29 rfl (lv_at hl 2 rfl) ?_
    have ne115 := q_df hT2 hT0
    have ne116 := q_df hT3 hT0
    refine q_put (ci := 13) (j := 7) (v := .int x3) (ty := .boolean) C0 V i_WR o_WR n_WR rfl rfl hT0 (by decide) w_1931 rfl rfl (q_nz01 (q_Ile (x := 0) (y := x3.toInt) (by decide) rfl (by have t1 : 0 ≤ x3.toInt ∧ x3.toInt ≤ 1 := hzx3; omega)) (q_Ile (x := x3.toInt) (y := 1) rfl (by decide) (by have t1 : 0 ≤ x3.toInt ∧ x3.toInt ≤ 1 := hzx3; omega))) (q_fz01 (q_Ile (x := 0) (y := x3.toInt) (by decide) rfl (by have t1 : 0 ≤ x3.toInt ∧ x3.toInt ≤ 1 := hzx3; omega)) (q_Ile (x := x3.toInt) (y := 1) rfl (by decide) (by have t1 : 0 ≤ x3.toInt ∧ x3.toInt ≤ 1 := hzx3; omega))) (Nat.le_of_ble_eq_true rfl) d_19_21_30 (fun H locs w113 hu114 hT0 V => ?_)
    replace hT0 : w113[119]? = (some (q 119, .inr (13, [.int t0_0, .int t0_1, .ref (q 120), .int t0_2, .ref (q 121), .ref (q 122), .ref (q 123), .int x3, .ref (q 124), .ref (q 125), .ref (q 126), .ref (q 127), .ref (q 128), .ref (q 129), .ref (q 130), .ref (q 131), .int t0_4, .int t0_5, .ref (q 132), .ref (q 133), .int t0_6])) : Option (Nat × va_E)) := hT0
    replace hI := n_p119 hI hu114 hT0 ⟨(by have t1 : 0 ≤ t0_2.toInt ∧ t0_2.toInt ≤ 4100 := btt0_2; omega), (by have t1 : 0 ≤ t0_2.toInt ∧ t0_2.toInt ≤ 4100 := btt0_2; omega)⟩ ⟨(by have t1 : 0 ≤ x3.toInt ∧ x3.toInt ≤ 1 := hzx3; omega), (by have t1 : 0 ≤ x3.toInt ∧ x3.toInt ≤ 1 := hzx3; omega)⟩ ⟨(by have t1 : 0 ≤ t0_4.toInt ∧ t0_4.toInt ≤ 1 := btt0_4; omega), (by have t1 : 0 ≤ t0_4.toInt ∧ t0_4.toInt ≤ 1 := btt0_4; omega)⟩ ⟨(by have t1 : 0 ≤ t0_5.toInt ∧ t0_5.toInt ≤ 1 := btt0_5; omega), (by have t1 : 0 ≤ t0_5.toInt ∧ t0_5.toInt ≤ 1 := btt0_5; omega)⟩ ⟨(by have t1 : 0 ≤ t0_6.toInt ∧ t0_6.toInt ≤ 2100 := btt0_6; omega), (by have t1 : 0 ≤ t0_6.toInt ∧ t0_6.toInt ≤ 2100 := btt0_6; omega)⟩
    replace hA109 := (hu114 _ (by decide)).trans hA109
    replace hT2 := (hu114 _ ne115).trans hT2
    replace hT3 := (hu114 _ ne116).trans hT3
    replace hF := q_us hF hu114 (by simp)
    refine lv_goto (tgt := 102) hx hb d_19_21_33 (by decide) ?_
    exact q_retv C0 V (⟨hI, hF, t0_0, t0_1, t0_2, x3, t0_4, t0_5, t0_6, f108, hT0, hA109, (show 0 ≤ x3.toInt from (by have t1 : 0 ≤ x3.toInt ∧ x3.toInt ≤ 1 := hzx3; omega)), (show x3.toInt ≤ 1 from (by have t1 : 0 ≤ x3.toInt ∧ x3.toInt ≤ 1 := hzx3; omega)), (show t0_0.toInt ≤ t0_0.toInt from (by omega)), (show t0_0.toInt ≤ t0_0.toInt from (by omega)), (show t0_1.toInt ≤ t0_1.toInt from (by omega)), (show t0_1.toInt ≤ t0_1.toInt from (by omega)), (show t0_2.toInt ≤ t0_2.toInt from (by omega)), (show t0_2.toInt ≤ t0_2.toInt from (by omega)), (show t0_4.toInt ≤ t0_4.toInt from (by omega)), (show t0_4.toInt ≤ t0_4.toInt from (by omega)), (show t0_5.toInt ≤ t0_5.toInt from (by omega)), (show t0_5.toInt ≤ t0_5.toInt from (by omega)), (show t0_6.toInt ≤ t0_6.toInt from (by omega)), (show t0_6.toInt ≤ t0_6.toInt from (by omega)), (show (t0_0, t0_1, t0_2, x3, t0_4, t0_5, t0_6, f108) = (F_WR_sum N2 x3 N4 x5 t0_0 t0_1 t0_2 t0_3 t0_4 t0_5 t0_6 t1_0 t2_0 t3_0) from (by rw [e112, e104, e97, F_WR_sum.eq_1, if_pos c23]))⟩) d_19_21_102
theorem d_19_22_0 : decode prog_19_method_22_code 0 = .ok (.aload_n 0, 1) := by decide +kernel
theorem d_19_22_1 : decode prog_19_method_22_code 1 = .ok (.iload_n 1, 1) := by decide +kernel
theorem d_19_22_2 : decode prog_19_method_22_code 2 = .ok (.invokestatic 91, 3) := by decide +kernel
theorem d_19_22_27 : decode prog_19_method_22_code 27 = .ok (.putfield 53, 3) := by decide +kernel
theorem d_19_22_30 : decode prog_19_method_22_code 30 = .ok (.aload_n 0, 1) := by decide +kernel
theorem d_19_22_31 : decode prog_19_method_22_code 31 = .ok (.getfield 53, 3) := by decide +kernel
theorem d_19_22_34 : decode prog_19_method_22_code 34 = .ok (.ifCond .le 4, 3) := by decide +kernel
theorem d_19_22_38 : decode prog_19_method_22_code 38 = .ok (.aload_n 0, 1) := by decide +kernel
theorem d_19_22_39 : decode prog_19_method_22_code 39 = .ok (.iconst 2, 1) := by decide +kernel
theorem d_19_22_40 : decode prog_19_method_22_code 40 = .ok (.putfield 79, 3) := by decide +kernel
theorem d_19_22_43 : decode prog_19_method_22_code 43 = .ok (.aload_n 0, 1) := by decide +kernel
theorem d_19_22_44 : decode prog_19_method_22_code 44 = .ok (.iload_n 1, 1) := by decide +kernel
theorem d_19_22_45 : decode prog_19_method_22_code 45 = .ok (.aload_n 0, 1) := by decide +kernel
theorem d_19_22_46 : decode prog_19_method_22_code 46 = .ok (.getfield 35, 3) := by decide +kernel
theorem d_19_22_49 : decode prog_19_method_22_code 49 = .ok (.invokevirtual 107, 3) := by decide +kernel
theorem d_19_22_52 : decode prog_19_method_22_code 52 = .ok (.aload_n 0, 1) := by decide +kernel
theorem d_19_22_53 : decode prog_19_method_22_code 53 = .ok (.iload_n 2, 1) := by decide +kernel
theorem d_19_22_54 : decode prog_19_method_22_code 54 = .ok (.aload_n 0, 1) := by decide +kernel
theorem d_19_22_55 : decode prog_19_method_22_code 55 = .ok (.getfield 38, 3) := by decide +kernel
theorem d_19_22_58 : decode prog_19_method_22_code 58 = .ok (.invokevirtual 107, 3) := by decide +kernel
theorem d_19_22_61 : decode prog_19_method_22_code 61 = .ok (.aload_n 0, 1) := by decide +kernel
theorem d_19_22_62 : decode prog_19_method_22_code 62 = .ok (.aload_n 0, 1) := by decide +kernel
theorem d_19_22_63 : decode prog_19_method_22_code 63 = .ok (.getfield 35, 3) := by decide +kernel
theorem d_19_22_66 : decode prog_19_method_22_code 66 = .ok (.aload_n 0, 1) := by decide +kernel
theorem d_19_22_67 : decode prog_19_method_22_code 67 = .ok (.getfield 16, 3) := by decide +kernel
theorem d_19_22_70 : decode prog_19_method_22_code 70 = .ok (.iload_n 1, 1) := by decide +kernel
theorem d_19_22_71 : decode prog_19_method_22_code 71 = .ok (.baload, 1) := by decide +kernel
theorem d_19_22_72 : decode prog_19_method_22_code 72 = .ok (.aload_n 0, 1) := by decide +kernel
theorem d_19_22_73 : decode prog_19_method_22_code 73 = .ok (.getfield 38, 3) := by decide +kernel
theorem d_19_22_76 : decode prog_19_method_22_code 76 = .ok (.aload_n 0, 1) := by decide +kernel
theorem d_19_22_77 : decode prog_19_method_22_code 77 = .ok (.getfield 16, 3) := by decide +kernel
theorem d_19_22_80 : decode prog_19_method_22_code 80 = .ok (.iload_n 2, 1) := by decide +kernel
theorem d_19_22_81 : decode prog_19_method_22_code 81 = .ok (.baload, 1) := by decide +kernel
theorem d_19_22_82 : decode prog_19_method_22_code 82 = .ok (.iload 4, 2) := by decide +kernel
theorem d_19_22_84 : decode prog_19_method_22_code 84 = .ok (.if_icmp .eq 7, 3) := by decide +kernel
theorem d_19_22_91 : decode prog_19_method_22_code 91 = .ok (.iconst 0, 1) := by decide +kernel
theorem d_19_22_92 : decode prog_19_method_22_code 92 = .ok (.invokevirtual 111, 3) := by decide +kernel
set_option maxRecDepth 100000 in
theorem w_2689 : (Cond.code ({ cls := "NumberHouseModel$WholeRows", name := "sum", desc := "([IZ[IZ)V" } : MethodName) prog_19_method_21_code (5 : Nat) (none : Option ClassFile.FieldType)) ∈ q_tbl := q_of12 49 rfl (by decide +kernel)
set_option maxRecDepth 100000 in
theorem w_2686 : (Cond.methodLink "NumberHouseModel$WholeRows" (111 : Nat) ({ cls := "NumberHouseModel$WholeRows", name := "sum", desc := "([IZ[IZ)V" } : MethodName)) ∈ q_tbl := q_of12 46 rfl (by decide +kernel)
set_option maxRecDepth 100000 in
theorem w_2688 : (Cond.instanceMethod ({ cls := "NumberHouseModel$WholeRows", name := "sum", desc := "([IZ[IZ)V" } : MethodName)) ∈ q_tbl := q_of12 48 rfl (by decide +kernel)
theorem ws_102 : Cond.selects "NumberHouseModel$WholeRows" (⟨"NumberHouseModel$WholeRows", "sum", "([IZ[IZ)V"⟩ : MethodName) (⟨"NumberHouseModel$WholeRows", "sum", "([IZ[IZ)V"⟩ : MethodName) ∈ q_tbl := q_ofs 102 (by decide +kernel) (by decide +kernel)
theorem LV_WR_111 : q_LV "NumberHouseModel$WholeRows" 111 y_WR_sum prog_19_method_21_code 5 none 4 := ⟨w_2689, w_15, w_2686, w_2688, ws_102, ⟨by decide, by decide, by decide +kernel⟩⟩
theorem d_19_22_95 : decode prog_19_method_22_code 95 = .ok (.aload_n 0, 1) := by decide +kernel
theorem d_19_22_96 : decode prog_19_method_22_code 96 = .ok (.iload_n 3, 1) := by decide +kernel
theorem d_19_22_97 : decode prog_19_method_22_code 97 = .ok (.invokevirtual 103, 3) := by decide +kernel
theorem d_19_22_100 : decode prog_19_method_22_code 100 = .ok (.return_, 1) := by decide +kernel
theorem d_19_22_87 : decode prog_19_method_22_code 87 = .ok (.iconst 1, 1) := by decide +kernel
theorem d_19_22_88 : decode prog_19_method_22_code 88 = .ok (.goto 4, 3) := by decide +kernel
theorem d_19_22_37 : decode prog_19_method_22_code 37 = .ok (.return_, 1) := by decide +kernel
theorem d_19_22_22 : decode prog_19_method_22_code 22 = .ok (.iconst 1, 1) := by decide +kernel
theorem d_19_22_23 : decode prog_19_method_22_code 23 = .ok (.goto 4, 3) := by decide +kernel
theorem d_19_22_5 : decode prog_19_method_22_code 5 = .ok (.ifCond .ne 17, 3) := by decide +kernel
theorem d_19_22_8 : decode prog_19_method_22_code 8 = .ok (.iload_n 2, 1) := by decide +kernel
theorem d_19_22_9 : decode prog_19_method_22_code 9 = .ok (.invokestatic 91, 3) := by decide +kernel
theorem d_19_22_12 : decode prog_19_method_22_code 12 = .ok (.ifCond .ne 10, 3) := by decide +kernel
theorem d_19_22_15 : decode prog_19_method_22_code 15 = .ok (.iload_n 3, 1) := by decide +kernel
theorem d_19_22_16 : decode prog_19_method_22_code 16 = .ok (.invokestatic 91, 3) := by decide +kernel
theorem d_19_22_19 : decode prog_19_method_22_code 19 = .ok (.ifCond .eq 7, 3) := by decide +kernel
theorem d_19_22_26 : decode prog_19_method_22_code 26 = .ok (.iconst 0, 1) := by decide +kernel
def y_WR_add : MethodName := ⟨"NumberHouseModel$WholeRows", "add", "(IIIZ)V"⟩
def F_WR_add_c97 (x2 : Int32) (x3 : Int32) (x4 : Int32) (x5 : Int32) (t0_0 : Int32) (t0_1 : Int32) (t0_2 : Int32) (t0_3 : Int32) (t0_4 : Int32) (t0_5 : Int32) (t0_6 : Int32) (t1_0 : (Nat → Int32)) (t2_0 : (Nat → Int32)) (t3_0 : (Nat → Int32)) (t4_0 : (Nat → Int32)) (t5_0 : (Nat → Int32)) (lx36 : Int32) (f60 : (Nat → Int32)) (f68 : (Nat → Int32)) (p114 : (Int32 × Int32 × Int32 × Int32 × Int32 × Int32 × Int32 × (Nat → Int32))) (f96 : (Nat → Int32)) (p158 : (Int32 × Int32 × Int32 × Int32 × Int32 × Int32 × Int32 × (Nat → Int32) × (Nat → Int32))) : Int32 × Int32 × Int32 × Int32 × Int32 × Int32 × Int32 × (Nat → Int32) × (Nat → Int32) × (Nat → Int32) × (Nat → Int32) × (Nat → Int32) := ((p158.1 : Int32), (p158.2.1 : Int32), (p158.2.2.1 : Int32), (p158.2.2.2.1 : Int32), (p158.2.2.2.2.1 : Int32), (p158.2.2.2.2.2.1 : Int32), (p158.2.2.2.2.2.2.1 : Int32), (p158.2.2.2.2.2.2.2.1 : (Nat → Int32)), (p158.2.2.2.2.2.2.2.2 : (Nat → Int32)), f96, f60, f68)
def F_WR_add_c92 (x2 : Int32) (x3 : Int32) (x4 : Int32) (x5 : Int32) (t0_0 : Int32) (t0_1 : Int32) (t0_2 : Int32) (t0_3 : Int32) (t0_4 : Int32) (t0_5 : Int32) (t0_6 : Int32) (t1_0 : (Nat → Int32)) (t2_0 : (Nat → Int32)) (t3_0 : (Nat → Int32)) (t4_0 : (Nat → Int32)) (t5_0 : (Nat → Int32)) (lx36 : Int32) (f60 : (Nat → Int32)) (f68 : (Nat → Int32)) (p114 : (Int32 × Int32 × Int32 × Int32 × Int32 × Int32 × Int32 × (Nat → Int32))) : Int32 × Int32 × Int32 × Int32 × Int32 × Int32 × Int32 × (Nat → Int32) × (Nat → Int32) × (Nat → Int32) × (Nat → Int32) × (Nat → Int32) := F_WR_add_c97 x2 x3 x4 x5 t0_0 t0_1 t0_2 t0_3 t0_4 t0_5 t0_6 t1_0 t2_0 t3_0 t4_0 t5_0 lx36 f60 f68 p114 (p114.2.2.2.2.2.2.2 : (Nat → Int32)) ((F_WR_store x4 (p114.1 : Int32) (p114.2.1 : Int32) (p114.2.2.1 : Int32) (p114.2.2.2.1 : Int32) (p114.2.2.2.2.1 : Int32) (p114.2.2.2.2.2.1 : Int32) (p114.2.2.2.2.2.2.1 : Int32) t1_0 t2_0 (p114.2.2.2.2.2.2.2 : (Nat → Int32))) : (Int32 × Int32 × Int32 × Int32 × Int32 × Int32 × Int32 × (Nat → Int32) × (Nat → Int32)))
def F_WR_add_c97_5 (x2 : Int32) (x3 : Int32) (x4 : Int32) (x5 : Int32) (t0_0 : Int32) (t0_1 : Int32) (t0_2 : Int32) (t0_3 : Int32) (t0_4 : Int32) (t0_5 : Int32) (t0_6 : Int32) (t1_0 : (Nat → Int32)) (t2_0 : (Nat → Int32)) (t3_0 : (Nat → Int32)) (t4_0 : (Nat → Int32)) (t5_0 : (Nat → Int32)) (lx36 : Int32) (f60 : (Nat → Int32)) (f68 : (Nat → Int32)) (p206 : (Int32 × Int32 × Int32 × Int32 × Int32 × Int32 × Int32 × (Nat → Int32))) (f188 : (Nat → Int32)) (p250 : (Int32 × Int32 × Int32 × Int32 × Int32 × Int32 × Int32 × (Nat → Int32) × (Nat → Int32))) : Int32 × Int32 × Int32 × Int32 × Int32 × Int32 × Int32 × (Nat → Int32) × (Nat → Int32) × (Nat → Int32) × (Nat → Int32) × (Nat → Int32) := ((p250.1 : Int32), (p250.2.1 : Int32), (p250.2.2.1 : Int32), (p250.2.2.2.1 : Int32), (p250.2.2.2.2.1 : Int32), (p250.2.2.2.2.2.1 : Int32), (p250.2.2.2.2.2.2.1 : Int32), (p250.2.2.2.2.2.2.2.1 : (Nat → Int32)), (p250.2.2.2.2.2.2.2.2 : (Nat → Int32)), f188, f60, f68)
def F_WR_add_c92_4 (x2 : Int32) (x3 : Int32) (x4 : Int32) (x5 : Int32) (t0_0 : Int32) (t0_1 : Int32) (t0_2 : Int32) (t0_3 : Int32) (t0_4 : Int32) (t0_5 : Int32) (t0_6 : Int32) (t1_0 : (Nat → Int32)) (t2_0 : (Nat → Int32)) (t3_0 : (Nat → Int32)) (t4_0 : (Nat → Int32)) (t5_0 : (Nat → Int32)) (lx36 : Int32) (f60 : (Nat → Int32)) (f68 : (Nat → Int32)) (p206 : (Int32 × Int32 × Int32 × Int32 × Int32 × Int32 × Int32 × (Nat → Int32))) : Int32 × Int32 × Int32 × Int32 × Int32 × Int32 × Int32 × (Nat → Int32) × (Nat → Int32) × (Nat → Int32) × (Nat → Int32) × (Nat → Int32) := F_WR_add_c97_5 x2 x3 x4 x5 t0_0 t0_1 t0_2 t0_3 t0_4 t0_5 t0_6 t1_0 t2_0 t3_0 t4_0 t5_0 lx36 f60 f68 p206 (p206.2.2.2.2.2.2.2 : (Nat → Int32)) ((F_WR_store x4 (p206.1 : Int32) (p206.2.1 : Int32) (p206.2.2.1 : Int32) (p206.2.2.2.1 : Int32) (p206.2.2.2.2.1 : Int32) (p206.2.2.2.2.2.1 : Int32) (p206.2.2.2.2.2.2.1 : Int32) t1_0 t2_0 (p206.2.2.2.2.2.2.2 : (Nat → Int32))) : (Int32 × Int32 × Int32 × Int32 × Int32 × Int32 × Int32 × (Nat → Int32) × (Nat → Int32)))
def F_WR_add_J27 (x2 : Int32) (x3 : Int32) (x4 : Int32) (x5 : Int32) (t0_0 : Int32) (t0_1 : Int32) (t0_2 : Int32) (t0_3 : Int32) (t0_4 : Int32) (t0_5 : Int32) (t0_6 : Int32) (t1_0 : (Nat → Int32)) (t2_0 : (Nat → Int32)) (t3_0 : (Nat → Int32)) (t4_0 : (Nat → Int32)) (t5_0 : (Nat → Int32)) (lx36 : Int32) : Int32 × Int32 × Int32 × Int32 × Int32 × Int32 × Int32 × (Nat → Int32) × (Nat → Int32) × (Nat → Int32) × (Nat → Int32) × (Nat → Int32) := if lx36 ≤ (0 : Int32) then (if (t2_0 x3.toNatClampNeg : Int32) = x5 then (F_WR_add_c92 x2 x3 x4 x5 t0_0 t0_1 t0_2 t0_3 t0_4 t0_5 t0_6 t1_0 t2_0 t3_0 t4_0 t5_0 lx36 ((F_WR_take x2 (264 : Int32) lx36 (2 : Int32) t0_2 t0_3 t0_4 t0_5 t0_6 t1_0 t4_0) : (Nat → Int32)) ((F_WR_take x3 (264 : Int32) lx36 (2 : Int32) t0_2 t0_3 t0_4 t0_5 t0_6 t1_0 t5_0) : (Nat → Int32)) ((F_WR_sum (264 : Int32) (t2_0 x2.toNatClampNeg : Int32) (264 : Int32) (0 : Int32) lx36 (2 : Int32) t0_2 t0_3 t0_4 t0_5 t0_6 t3_0 ((F_WR_take x2 (264 : Int32) lx36 (2 : Int32) t0_2 t0_3 t0_4 t0_5 t0_6 t1_0 t4_0) : (Nat → Int32)) ((F_WR_take x3 (264 : Int32) lx36 (2 : Int32) t0_2 t0_3 t0_4 t0_5 t0_6 t1_0 t5_0) : (Nat → Int32))) : (Int32 × Int32 × Int32 × Int32 × Int32 × Int32 × Int32 × (Nat → Int32)))) else (F_WR_add_c92_4 x2 x3 x4 x5 t0_0 t0_1 t0_2 t0_3 t0_4 t0_5 t0_6 t1_0 t2_0 t3_0 t4_0 t5_0 lx36 ((F_WR_take x2 (264 : Int32) lx36 (2 : Int32) t0_2 t0_3 t0_4 t0_5 t0_6 t1_0 t4_0) : (Nat → Int32)) ((F_WR_take x3 (264 : Int32) lx36 (2 : Int32) t0_2 t0_3 t0_4 t0_5 t0_6 t1_0 t5_0) : (Nat → Int32)) ((F_WR_sum (264 : Int32) (t2_0 x2.toNatClampNeg : Int32) (264 : Int32) (1 : Int32) lx36 (2 : Int32) t0_2 t0_3 t0_4 t0_5 t0_6 t3_0 ((F_WR_take x2 (264 : Int32) lx36 (2 : Int32) t0_2 t0_3 t0_4 t0_5 t0_6 t1_0 t4_0) : (Nat → Int32)) ((F_WR_take x3 (264 : Int32) lx36 (2 : Int32) t0_2 t0_3 t0_4 t0_5 t0_6 t1_0 t5_0) : (Nat → Int32))) : (Int32 × Int32 × Int32 × Int32 × Int32 × Int32 × Int32 × (Nat → Int32))))) else ((lx36, t0_1, t0_2, t0_3, t0_4, t0_5, t0_6, t1_0, t2_0, t3_0, t4_0, t5_0))
def F_WR_add_J22 (x2 : Int32) (x3 : Int32) (x4 : Int32) (x5 : Int32) (t0_0 : Int32) (t0_1 : Int32) (t0_2 : Int32) (t0_3 : Int32) (t0_4 : Int32) (t0_5 : Int32) (t0_6 : Int32) (t1_0 : (Nat → Int32)) (t2_0 : (Nat → Int32)) (t3_0 : (Nat → Int32)) (t4_0 : (Nat → Int32)) (t5_0 : (Nat → Int32)) : Int32 × Int32 × Int32 × Int32 × Int32 × Int32 × Int32 × (Nat → Int32) × (Nat → Int32) × (Nat → Int32) × (Nat → Int32) × (Nat → Int32) := F_WR_add_J27 x2 x3 x4 x5 t0_0 t0_1 t0_2 t0_3 t0_4 t0_5 t0_6 t1_0 t2_0 t3_0 t4_0 t5_0 1
def F_WR_add (x2 : Int32) (x3 : Int32) (x4 : Int32) (x5 : Int32) (t0_0 : Int32) (t0_1 : Int32) (t0_2 : Int32) (t0_3 : Int32) (t0_4 : Int32) (t0_5 : Int32) (t0_6 : Int32) (t1_0 : (Nat → Int32)) (t2_0 : (Nat → Int32)) (t3_0 : (Nat → Int32)) (t4_0 : (Nat → Int32)) (t5_0 : (Nat → Int32)) : Int32 × Int32 × Int32 × Int32 × Int32 × Int32 × Int32 × (Nat → Int32) × (Nat → Int32) × (Nat → Int32) × (Nat → Int32) × (Nat → Int32) := if ((F_WR_no x2) : Int32) = (0 : Int32) then (if ((F_WR_no x3) : Int32) = (0 : Int32) then (if ((F_WR_no x4) : Int32) = (0 : Int32) then (F_WR_add_J27 x2 x3 x4 x5 t0_0 t0_1 t0_2 t0_3 t0_4 t0_5 t0_6 t1_0 t2_0 t3_0 t4_0 t5_0 0) else (F_WR_add_J22 x2 x3 x4 x5 t0_0 t0_1 t0_2 t0_3 t0_4 t0_5 t0_6 t1_0 t2_0 t3_0 t4_0 t5_0)) else (F_WR_add_J22 x2 x3 x4 x5 t0_0 t0_1 t0_2 t0_3 t0_4 t0_5 t0_6 t1_0 t2_0 t3_0 t4_0 t5_0)) else (F_WR_add_J22 x2 x3 x4 x5 t0_0 t0_1 t0_2 t0_3 t0_4 t0_5 t0_6 t1_0 t2_0 t3_0 t4_0 t5_0)
def S_WR_add_c97 (x2 : Int32) (x3 : Int32) (x4 : Int32) (x5 : Int32) (t0_0 : Int32) (t0_1 : Int32) (t0_2 : Int32) (t0_3 : Int32) (t0_4 : Int32) (t0_5 : Int32) (t0_6 : Int32) (t1_0 : (Nat → Int32)) (t2_0 : (Nat → Int32)) (t3_0 : (Nat → Int32)) (t4_0 : (Nat → Int32)) (t5_0 : (Nat → Int32)) (lx36 : Int32) (f60 : (Nat → Int32)) (f68 : (Nat → Int32)) (p114 : (Int32 × Int32 × Int32 × Int32 × Int32 × Int32 × Int32 × (Nat → Int32))) (f96 : (Nat → Int32)) (p158 : (Int32 × Int32 × Int32 × Int32 × Int32 × Int32 × Int32 × (Nat → Int32) × (Nat → Int32))) : Prop := True
def S_WR_add_c92 (x2 : Int32) (x3 : Int32) (x4 : Int32) (x5 : Int32) (t0_0 : Int32) (t0_1 : Int32) (t0_2 : Int32) (t0_3 : Int32) (t0_4 : Int32) (t0_5 : Int32) (t0_6 : Int32) (t1_0 : (Nat → Int32)) (t2_0 : (Nat → Int32)) (t3_0 : (Nat → Int32)) (t4_0 : (Nat → Int32)) (t5_0 : (Nat → Int32)) (lx36 : Int32) (f60 : (Nat → Int32)) (f68 : (Nat → Int32)) (p114 : (Int32 × Int32 × Int32 × Int32 × Int32 × Int32 × Int32 × (Nat → Int32))) : Prop := (True ∧ S_WR_store x4 (p114.1 : Int32) (p114.2.1 : Int32) (p114.2.2.1 : Int32) (p114.2.2.2.1 : Int32) (p114.2.2.2.2.1 : Int32) (p114.2.2.2.2.2.1 : Int32) (p114.2.2.2.2.2.2.1 : Int32) t1_0 t2_0 (p114.2.2.2.2.2.2.2 : (Nat → Int32))) ∧ (S_WR_add_c97 x2 x3 x4 x5 t0_0 t0_1 t0_2 t0_3 t0_4 t0_5 t0_6 t1_0 t2_0 t3_0 t4_0 t5_0 lx36 f60 f68 p114 (p114.2.2.2.2.2.2.2 : (Nat → Int32)) ((F_WR_store x4 (p114.1 : Int32) (p114.2.1 : Int32) (p114.2.2.1 : Int32) (p114.2.2.2.1 : Int32) (p114.2.2.2.2.1 : Int32) (p114.2.2.2.2.2.1 : Int32) (p114.2.2.2.2.2.2.1 : Int32) t1_0 t2_0 (p114.2.2.2.2.2.2.2 : (Nat → Int32))) : (Int32 × Int32 × Int32 × Int32 × Int32 × Int32 × Int32 × (Nat → Int32) × (Nat → Int32))))
def S_WR_add_c97_5 (x2 : Int32) (x3 : Int32) (x4 : Int32) (x5 : Int32) (t0_0 : Int32) (t0_1 : Int32) (t0_2 : Int32) (t0_3 : Int32) (t0_4 : Int32) (t0_5 : Int32) (t0_6 : Int32) (t1_0 : (Nat → Int32)) (t2_0 : (Nat → Int32)) (t3_0 : (Nat → Int32)) (t4_0 : (Nat → Int32)) (t5_0 : (Nat → Int32)) (lx36 : Int32) (f60 : (Nat → Int32)) (f68 : (Nat → Int32)) (p206 : (Int32 × Int32 × Int32 × Int32 × Int32 × Int32 × Int32 × (Nat → Int32))) (f188 : (Nat → Int32)) (p250 : (Int32 × Int32 × Int32 × Int32 × Int32 × Int32 × Int32 × (Nat → Int32) × (Nat → Int32))) : Prop := True
def S_WR_add_c92_4 (x2 : Int32) (x3 : Int32) (x4 : Int32) (x5 : Int32) (t0_0 : Int32) (t0_1 : Int32) (t0_2 : Int32) (t0_3 : Int32) (t0_4 : Int32) (t0_5 : Int32) (t0_6 : Int32) (t1_0 : (Nat → Int32)) (t2_0 : (Nat → Int32)) (t3_0 : (Nat → Int32)) (t4_0 : (Nat → Int32)) (t5_0 : (Nat → Int32)) (lx36 : Int32) (f60 : (Nat → Int32)) (f68 : (Nat → Int32)) (p206 : (Int32 × Int32 × Int32 × Int32 × Int32 × Int32 × Int32 × (Nat → Int32))) : Prop := (True ∧ S_WR_store x4 (p206.1 : Int32) (p206.2.1 : Int32) (p206.2.2.1 : Int32) (p206.2.2.2.1 : Int32) (p206.2.2.2.2.1 : Int32) (p206.2.2.2.2.2.1 : Int32) (p206.2.2.2.2.2.2.1 : Int32) t1_0 t2_0 (p206.2.2.2.2.2.2.2 : (Nat → Int32))) ∧ (S_WR_add_c97_5 x2 x3 x4 x5 t0_0 t0_1 t0_2 t0_3 t0_4 t0_5 t0_6 t1_0 t2_0 t3_0 t4_0 t5_0 lx36 f60 f68 p206 (p206.2.2.2.2.2.2.2 : (Nat → Int32)) ((F_WR_store x4 (p206.1 : Int32) (p206.2.1 : Int32) (p206.2.2.1 : Int32) (p206.2.2.2.1 : Int32) (p206.2.2.2.2.1 : Int32) (p206.2.2.2.2.2.1 : Int32) (p206.2.2.2.2.2.2.1 : Int32) t1_0 t2_0 (p206.2.2.2.2.2.2.2 : (Nat → Int32))) : (Int32 × Int32 × Int32 × Int32 × Int32 × Int32 × Int32 × (Nat → Int32) × (Nat → Int32))))
def S_WR_add_J27 (x2 : Int32) (x3 : Int32) (x4 : Int32) (x5 : Int32) (t0_0 : Int32) (t0_1 : Int32) (t0_2 : Int32) (t0_3 : Int32) (t0_4 : Int32) (t0_5 : Int32) (t0_6 : Int32) (t1_0 : (Nat → Int32)) (t2_0 : (Nat → Int32)) (t3_0 : (Nat → Int32)) (t4_0 : (Nat → Int32)) (t5_0 : (Nat → Int32)) (lx36 : Int32) : Prop := if lx36 ≤ (0 : Int32) then ((True ∧ S_WR_take x2 (264 : Int32) lx36 (2 : Int32) t0_2 t0_3 t0_4 t0_5 t0_6 t1_0 t4_0) ∧ ((True ∧ S_WR_take x3 (264 : Int32) lx36 (2 : Int32) t0_2 t0_3 t0_4 t0_5 t0_6 t1_0 t5_0) ∧ ((0 ≤ x2.toInt) ∧ ((x2.toInt ≤ 10) ∧ ((0 ≤ x3.toInt) ∧ ((x3.toInt ≤ 10) ∧ (if (t2_0 x3.toNatClampNeg : Int32) = x5 then ((0 ≤ (t2_0 x2.toNatClampNeg : Int32).toInt) ∧ (((t2_0 x2.toNatClampNeg : Int32).toInt ≤ 1) ∧ ((True ∧ S_WR_sum (264 : Int32) (t2_0 x2.toNatClampNeg : Int32) (264 : Int32) (0 : Int32) lx36 (2 : Int32) t0_2 t0_3 t0_4 t0_5 t0_6 t3_0 ((F_WR_take x2 (264 : Int32) lx36 (2 : Int32) t0_2 t0_3 t0_4 t0_5 t0_6 t1_0 t4_0) : (Nat → Int32)) ((F_WR_take x3 (264 : Int32) lx36 (2 : Int32) t0_2 t0_3 t0_4 t0_5 t0_6 t1_0 t5_0) : (Nat → Int32))) ∧ (S_WR_add_c92 x2 x3 x4 x5 t0_0 t0_1 t0_2 t0_3 t0_4 t0_5 t0_6 t1_0 t2_0 t3_0 t4_0 t5_0 lx36 ((F_WR_take x2 (264 : Int32) lx36 (2 : Int32) t0_2 t0_3 t0_4 t0_5 t0_6 t1_0 t4_0) : (Nat → Int32)) ((F_WR_take x3 (264 : Int32) lx36 (2 : Int32) t0_2 t0_3 t0_4 t0_5 t0_6 t1_0 t5_0) : (Nat → Int32)) ((F_WR_sum (264 : Int32) (t2_0 x2.toNatClampNeg : Int32) (264 : Int32) (0 : Int32) lx36 (2 : Int32) t0_2 t0_3 t0_4 t0_5 t0_6 t3_0 ((F_WR_take x2 (264 : Int32) lx36 (2 : Int32) t0_2 t0_3 t0_4 t0_5 t0_6 t1_0 t4_0) : (Nat → Int32)) ((F_WR_take x3 (264 : Int32) lx36 (2 : Int32) t0_2 t0_3 t0_4 t0_5 t0_6 t1_0 t5_0) : (Nat → Int32))) : (Int32 × Int32 × Int32 × Int32 × Int32 × Int32 × Int32 × (Nat → Int32))))))) else ((0 ≤ (t2_0 x2.toNatClampNeg : Int32).toInt) ∧ (((t2_0 x2.toNatClampNeg : Int32).toInt ≤ 1) ∧ ((True ∧ S_WR_sum (264 : Int32) (t2_0 x2.toNatClampNeg : Int32) (264 : Int32) (1 : Int32) lx36 (2 : Int32) t0_2 t0_3 t0_4 t0_5 t0_6 t3_0 ((F_WR_take x2 (264 : Int32) lx36 (2 : Int32) t0_2 t0_3 t0_4 t0_5 t0_6 t1_0 t4_0) : (Nat → Int32)) ((F_WR_take x3 (264 : Int32) lx36 (2 : Int32) t0_2 t0_3 t0_4 t0_5 t0_6 t1_0 t5_0) : (Nat → Int32))) ∧ (S_WR_add_c92_4 x2 x3 x4 x5 t0_0 t0_1 t0_2 t0_3 t0_4 t0_5 t0_6 t1_0 t2_0 t3_0 t4_0 t5_0 lx36 ((F_WR_take x2 (264 : Int32) lx36 (2 : Int32) t0_2 t0_3 t0_4 t0_5 t0_6 t1_0 t4_0) : (Nat → Int32)) ((F_WR_take x3 (264 : Int32) lx36 (2 : Int32) t0_2 t0_3 t0_4 t0_5 t0_6 t1_0 t5_0) : (Nat → Int32)) ((F_WR_sum (264 : Int32) (t2_0 x2.toNatClampNeg : Int32) (264 : Int32) (1 : Int32) lx36 (2 : Int32) t0_2 t0_3 t0_4 t0_5 t0_6 t3_0 ((F_WR_take x2 (264 : Int32) lx36 (2 : Int32) t0_2 t0_3 t0_4 t0_5 t0_6 t1_0 t4_0) : (Nat → Int32)) ((F_WR_take x3 (264 : Int32) lx36 (2 : Int32) t0_2 t0_3 t0_4 t0_5 t0_6 t1_0 t5_0) : (Nat → Int32))) : (Int32 × Int32 × Int32 × Int32 × Int32 × Int32 × Int32 × (Nat → Int32)))))))))))))) else (True)
def S_WR_add_J22 (x2 : Int32) (x3 : Int32) (x4 : Int32) (x5 : Int32) (t0_0 : Int32) (t0_1 : Int32) (t0_2 : Int32) (t0_3 : Int32) (t0_4 : Int32) (t0_5 : Int32) (t0_6 : Int32) (t1_0 : (Nat → Int32)) (t2_0 : (Nat → Int32)) (t3_0 : (Nat → Int32)) (t4_0 : (Nat → Int32)) (t5_0 : (Nat → Int32)) : Prop := S_WR_add_J27 x2 x3 x4 x5 t0_0 t0_1 t0_2 t0_3 t0_4 t0_5 t0_6 t1_0 t2_0 t3_0 t4_0 t5_0 1
def S_WR_add (x2 : Int32) (x3 : Int32) (x4 : Int32) (x5 : Int32) (t0_0 : Int32) (t0_1 : Int32) (t0_2 : Int32) (t0_3 : Int32) (t0_4 : Int32) (t0_5 : Int32) (t0_6 : Int32) (t1_0 : (Nat → Int32)) (t2_0 : (Nat → Int32)) (t3_0 : (Nat → Int32)) (t4_0 : (Nat → Int32)) (t5_0 : (Nat → Int32)) : Prop := if ((F_WR_no x2) : Int32) = (0 : Int32) then (if ((F_WR_no x3) : Int32) = (0 : Int32) then (if ((F_WR_no x4) : Int32) = (0 : Int32) then (S_WR_add_J27 x2 x3 x4 x5 t0_0 t0_1 t0_2 t0_3 t0_4 t0_5 t0_6 t1_0 t2_0 t3_0 t4_0 t5_0 0) else (S_WR_add_J22 x2 x3 x4 x5 t0_0 t0_1 t0_2 t0_3 t0_4 t0_5 t0_6 t1_0 t2_0 t3_0 t4_0 t5_0)) else (S_WR_add_J22 x2 x3 x4 x5 t0_0 t0_1 t0_2 t0_3 t0_4 t0_5 t0_6 t1_0 t2_0 t3_0 t4_0 t5_0)) else (S_WR_add_J22 x2 x3 x4 x5 t0_0 t0_1 t0_2 t0_3 t0_4 t0_5 t0_6 t1_0 t2_0 t3_0 t4_0 t5_0)
set_option maxRecDepth 100000 in
set_option maxHeartbeats 4000000 in
theorem X_WR_add (l : Launch) (D : va_G) (g : Nat → ClassId) (q : Nat → Nat) (ws : va_W) (x2 : Int32) (x3 : Int32) (x4 : Int32) (x5 : Int32) (hI : q_I (msh g q) q ws) (t0_0 : Int32) (t0_1 : Int32) (t0_2 : Int32) (t0_3 : Int32) (t0_4 : Int32) (t0_5 : Int32) (t0_6 : Int32) (hT0 : ws[119]? = (some (q 119, .inr (13, [.int t0_0, .int t0_1, .ref (q 120), .int t0_2, .ref (q 121), .ref (q 122), .ref (q 123), .int t0_3, .ref (q 124), .ref (q 125), .ref (q 126), .ref (q 127), .ref (q 128), .ref (q 129), .ref (q 130), .ref (q 131), .int t0_4, .int t0_5, .ref (q 132), .ref (q 133), .int t0_6])) : Option (Nat × va_E))) (t1_0 : (Nat → Int32)) (hT1 : ws[121]? = (some (q 121, .inl (g 0, (1408 : Int32).toNatClampNeg, .inl t1_0)) : Option (Nat × va_E))) (t2_0 : (Nat → Int32)) (hT2 : ws[122]? = (some (q 122, .inl (g 3, 11, .inl t2_0)) : Option (Nat × va_E))) (t3_0 : (Nat → Int32)) (hT3 : ws[123]? = (some (q 123, .inl (g 0, (264 : Int32).toNatClampNeg, .inl t3_0)) : Option (Nat × va_E))) (t4_0 : (Nat → Int32)) (hT4 : ws[128]? = (some (q 128, .inl (g 0, (264 : Int32).toNatClampNeg, .inl t4_0)) : Option (Nat × va_E))) (t5_0 : (Nat → Int32)) (hT5 : ws[129]? = (some (q 129, .inl (g 0, (264 : Int32).toNatClampNeg, .inl t5_0)) : Option (Nat × va_E))) (hzx5 : 0 ≤ x5.toInt ∧ x5.toInt ≤ 1) (hS : True ∧ S_WR_add x2 x3 x4 x5 t0_0 t0_1 t0_2 t0_3 t0_4 t0_5 t0_6 t1_0 t2_0 t3_0 t4_0 t5_0) : q_mV l y_WR_add prog_19_method_22_code 5 3 0 0 D g [.ref (q 119), .int x2, .int x3, .int x4, .int x5] ws (fun u => q_I (msh g q) q u ∧ q_un ws u [119, 121, 122, 123, 128, 129] ∧ ∃ (u0_0 : Int32) (u0_1 : Int32) (u0_2 : Int32) (u0_3 : Int32) (u0_4 : Int32) (u0_5 : Int32) (u0_6 : Int32) (u1_0 : (Nat → Int32)) (u2_0 : (Nat → Int32)) (u3_0 : (Nat → Int32)) (u4_0 : (Nat → Int32)) (u5_0 : (Nat → Int32)), u[119]? = (some (q 119, .inr (13, [.int u0_0, .int u0_1, .ref (q 120), .int u0_2, .ref (q 121), .ref (q 122), .ref (q 123), .int u0_3, .ref (q 124), .ref (q 125), .ref (q 126), .ref (q 127), .ref (q 128), .ref (q 129), .ref (q 130), .ref (q 131), .int u0_4, .int u0_5, .ref (q 132), .ref (q 133), .int u0_6])) : Option (Nat × va_E)) ∧ u[121]? = (some (q 121, .inl (g 0, (1408 : Int32).toNatClampNeg, .inl u1_0)) : Option (Nat × va_E)) ∧ u[122]? = (some (q 122, .inl (g 3, 11, .inl u2_0)) : Option (Nat × va_E)) ∧ u[123]? = (some (q 123, .inl (g 0, (264 : Int32).toNatClampNeg, .inl u3_0)) : Option (Nat × va_E)) ∧ u[128]? = (some (q 128, .inl (g 0, (264 : Int32).toNatClampNeg, .inl u4_0)) : Option (Nat × va_E)) ∧ u[129]? = (some (q 129, .inl (g 0, (264 : Int32).toNatClampNeg, .inl u5_0)) : Option (Nat × va_E)) ∧ (0 ≤ u0_3.toInt) ∧ (u0_3.toInt ≤ 1) ∧ (t0_2.toInt ≤ u0_2.toInt) ∧ (u0_2.toInt ≤ t0_2.toInt) ∧ (t0_4.toInt ≤ u0_4.toInt) ∧ (u0_4.toInt ≤ t0_4.toInt) ∧ (t0_5.toInt ≤ u0_5.toInt) ∧ (u0_5.toInt ≤ t0_5.toInt) ∧ (t0_6.toInt ≤ u0_6.toInt) ∧ (u0_6.toInt ≤ t0_6.toInt) ∧ (u0_0, u0_1, u0_2, u0_3, u0_4, u0_5, u0_6, u1_0, u2_0, u3_0, u4_0, u5_0) = (F_WR_add x2 x3 x4 x5 t0_0 t0_1 t0_2 t0_3 t0_4 t0_5 t0_6 t1_0 t2_0 t3_0 t4_0 t5_0)) := by
  intro sz
  refine q_into (by decide) (Nat.le_of_ble_eq_true rfl) ?_
  intro p e s m below meth c ls hsz C0 V hl
  have hx := C0.1
  have hb := C0.2.1
  replace hzx5 : q_F (0 ≤ x5.toInt ∧ x5.toInt ≤ 1) := hzx5
  obtain ⟨yy0_0, yy0_1, yy0_2, yy0_3, yy0_4, yy0_5, yy0_6, hh0, btt0_2, btt0_3, btt0_4, btt0_5, btt0_6⟩ := n_o119 hI
  obtain ⟨rfl, rfl, rfl, rfl, rfl, rfl, rfl⟩ : t0_0 = yy0_0 ∧ t0_1 = yy0_1 ∧ t0_2 = yy0_2 ∧ t0_3 = yy0_3 ∧ t0_4 = yy0_4 ∧ t0_5 = yy0_5 ∧ t0_6 = yy0_6 := by have z := Option.some.inj (hT0.symm.trans hh0); simpa using z
  replace btt0_2 : q_F (0 ≤ t0_2.toInt ∧ t0_2.toInt ≤ 4100) := btt0_2
  replace btt0_3 : q_F (0 ≤ t0_3.toInt ∧ t0_3.toInt ≤ 1) := btt0_3
  replace btt0_4 : q_F (0 ≤ t0_4.toInt ∧ t0_4.toInt ≤ 1) := btt0_4
  replace btt0_5 : q_F (0 ≤ t0_5.toInt ∧ t0_5.toInt ≤ 1) := btt0_5
  replace btt0_6 : q_F (0 ≤ t0_6.toInt ∧ t0_6.toInt ≤ 2100) := btt0_6
  have hF : q_un ws ws [119, 121, 122, 123, 128, 129] := q_u0
  have hl : lv_has ls 5 [(0, .ref (q 119)), (1, .int x2), (2, .int x3), (3, .int x4), (4, .int x5)] := hl
  refine lv_aload_n hx hb d_19_22_0 rfl (lv_at hl 0 rfl) ?_
  refine lv_iload_n hx hb d_19_22_1 rfl (lv_at hl 1 rfl) ?_
  refine q_goi V (q_runS (As := [.int x2]) (rest := [.ref (q 119)]) (d := 1) (mc := 0) (ms := 0) C0 V rfl LS_WR_91 (X_WR_no l D g q ws  x2 hI   _) rfl hl.1 rfl (Nat.le_of_ble_eq_true rfl) ⟨by decide, by decide⟩ ⟨Nat.le_of_ble_eq_true rfl, Nat.le_of_ble_eq_true rfl⟩ d_19_22_2) (fun a31 u29 H locs hp30 V => ?_)
  obtain ⟨rfl, b32, b33, hE34⟩ := hp30
  have e35 : a31 = (F_WR_no x2) := hE34
  replace b32 : q_F (0 ≤ a31.toInt) := b32
  replace b33 : q_F (a31.toInt ≤ 1) := b33
  refine q_join (X := Int32) (fun z H locs ls _ => q_F (0 ≤ z.toInt) ∧ q_F (z.toInt ≤ 1) ∧ q_Wd D g (va_A ws sz) s ws H locs ∧ lv_has ls 5 [(0, .ref (q 119)), (1, .int x2), (2, .int x3), (3, .int x4), (4, .int x5)] ∧ F_WR_add_J27 x2 x3 x4 x5 t0_0 t0_1 t0_2 t0_3 t0_4 t0_5 t0_6 t1_0 t2_0 t3_0 t4_0 t5_0 z = (F_WR_add x2 x3 x4 x5 t0_0 t0_1 t0_2 t0_3 t0_4 t0_5 t0_6 t1_0 t2_0 t3_0 t4_0 t5_0) ∧ True ∧ S_WR_add_J27 x2 x3 x4 x5 t0_0 t0_1 t0_2 t0_3 t0_4 t0_5 t0_6 t1_0 t2_0 t3_0 t4_0 t5_0 z) (fun z => [.int z, .ref (q 119)]) 27 0 0 ?_ ?_
  ·
    rintro lx36 H locs ls _ ⟨i44, i45, V, hl, hR46, hS47⟩
    replace i44 : q_F (0 ≤ lx36.toInt) := i44
    replace i45 : q_F (lx36.toInt ≤ 1) := i45
    replace hl : lv_has ls 5 [(0, .ref (q 119)), (1, .int x2), (2, .int x3), (3, .int x4), (4, .int x5)] := hl
    refine q_put (ci := 13) (j := 0) (v := .int lx36) (ty := .int) C0 V i_WR o_WR n_WR rfl rfl hT0 (by decide) w_1921 rfl rfl rfl rfl (Nat.le_of_ble_eq_true rfl) d_19_22_27 (fun H locs w51 hu52 hT0 V => ?_)
    replace hT0 : w51[119]? = (some (q 119, .inr (13, [.int lx36, .int t0_1, .ref (q 120), .int t0_2, .ref (q 121), .ref (q 122), .ref (q 123), .int t0_3, .ref (q 124), .ref (q 125), .ref (q 126), .ref (q 127), .ref (q 128), .ref (q 129), .ref (q 130), .ref (q 131), .int t0_4, .int t0_5, .ref (q 132), .ref (q 133), .int t0_6])) : Option (Nat × va_E)) := hT0
    replace hI := n_p119 hI hu52 hT0 ⟨(by have t1 : 0 ≤ t0_2.toInt ∧ t0_2.toInt ≤ 4100 := btt0_2; omega), (by have t1 : 0 ≤ t0_2.toInt ∧ t0_2.toInt ≤ 4100 := btt0_2; omega)⟩ ⟨(by have t1 : 0 ≤ t0_3.toInt ∧ t0_3.toInt ≤ 1 := btt0_3; omega), (by have t1 : 0 ≤ t0_3.toInt ∧ t0_3.toInt ≤ 1 := btt0_3; omega)⟩ ⟨(by have t1 : 0 ≤ t0_4.toInt ∧ t0_4.toInt ≤ 1 := btt0_4; omega), (by have t1 : 0 ≤ t0_4.toInt ∧ t0_4.toInt ≤ 1 := btt0_4; omega)⟩ ⟨(by have t1 : 0 ≤ t0_5.toInt ∧ t0_5.toInt ≤ 1 := btt0_5; omega), (by have t1 : 0 ≤ t0_5.toInt ∧ t0_5.toInt ≤ 1 := btt0_5; omega)⟩ ⟨(by have t1 : 0 ≤ t0_6.toInt ∧ t0_6.toInt ≤ 2100 := btt0_6; omega), (by have t1 : 0 ≤ t0_6.toInt ∧ t0_6.toInt ≤ 2100 := btt0_6; omega)⟩
    replace hT1 := (hu52 _ (by decide)).trans hT1
    replace hT2 := (hu52 _ (by decide)).trans hT2
    replace hT3 := (hu52 _ (by decide)).trans hT3
    replace hT4 := (hu52 _ (by decide)).trans hT4
    replace hT5 := (hu52 _ (by decide)).trans hT5
    replace hF := q_us hF hu52 (by simp)
    refine lv_aload_n hx hb d_19_22_30 rfl (lv_at hl 0 rfl) ?_
    refine q_get (ci := 13) (j := 0) (v := .int lx36) C0 V i_WR rfl rfl hT0 (by decide) w_1921 rfl d_19_22_31 ?_
    refine lv_if_le (tgt := 38) hx hb d_19_22_34 (by decide) (fun c53 => ?_) (fun c53 => ?_)
    ·
      have b54 : q_F (lx36.toInt ≤ 0) := (q_leI c53)
      refine lv_aload_n hx hb d_19_22_38 rfl (lv_at hl 0 rfl) ?_
      refine lv_iconst (v := 2) hx hb d_19_22_39 (by decide) ?_
      refine q_put (ci := 13) (j := 1) (v := .int 2) (ty := .int) C0 V i_WR o_WR n_WR rfl rfl hT0 (by decide) w_1923 rfl rfl rfl rfl (Nat.le_of_ble_eq_true rfl) d_19_22_40 (fun H locs w55 hu56 hT0 V => ?_)
      replace hT0 : w55[119]? = (some (q 119, .inr (13, [.int lx36, .int 2, .ref (q 120), .int t0_2, .ref (q 121), .ref (q 122), .ref (q 123), .int t0_3, .ref (q 124), .ref (q 125), .ref (q 126), .ref (q 127), .ref (q 128), .ref (q 129), .ref (q 130), .ref (q 131), .int t0_4, .int t0_5, .ref (q 132), .ref (q 133), .int t0_6])) : Option (Nat × va_E)) := hT0
      replace hI := n_p119 hI hu56 hT0 ⟨(by have t1 : 0 ≤ t0_2.toInt ∧ t0_2.toInt ≤ 4100 := btt0_2; omega), (by have t1 : 0 ≤ t0_2.toInt ∧ t0_2.toInt ≤ 4100 := btt0_2; omega)⟩ ⟨(by have t1 : 0 ≤ t0_3.toInt ∧ t0_3.toInt ≤ 1 := btt0_3; omega), (by have t1 : 0 ≤ t0_3.toInt ∧ t0_3.toInt ≤ 1 := btt0_3; omega)⟩ ⟨(by have t1 : 0 ≤ t0_4.toInt ∧ t0_4.toInt ≤ 1 := btt0_4; omega), (by have t1 : 0 ≤ t0_4.toInt ∧ t0_4.toInt ≤ 1 := btt0_4; omega)⟩ ⟨(by have t1 : 0 ≤ t0_5.toInt ∧ t0_5.toInt ≤ 1 := btt0_5; omega), (by have t1 : 0 ≤ t0_5.toInt ∧ t0_5.toInt ≤ 1 := btt0_5; omega)⟩ ⟨(by have t1 : 0 ≤ t0_6.toInt ∧ t0_6.toInt ≤ 2100 := btt0_6; omega), (by have t1 : 0 ≤ t0_6.toInt ∧ t0_6.toInt ≤ 2100 := btt0_6; omega)⟩
      replace hT1 := (hu56 _ (by decide)).trans hT1
      replace hT2 := (hu56 _ (by decide)).trans hT2
      replace hT3 := (hu56 _ (by decide)).trans hT3
      replace hT4 := (hu56 _ (by decide)).trans hT4
      replace hT5 := (hu56 _ (by decide)).trans hT5
      replace hF := q_us hF hu56 (by simp)
      refine lv_aload_n hx hb d_19_22_43 rfl (lv_at hl 0 rfl) ?_
      refine lv_iload_n hx hb d_19_22_44 rfl (lv_at hl 1 rfl) ?_
      refine lv_aload_n hx hb d_19_22_45 rfl (lv_at hl 0 rfl) ?_
      refine q_get (ci := 13) (j := 12) (v := .ref (q 128)) C0 V i_WR rfl rfl hT0 (by decide) w_1936 rfl d_19_22_46 ?_
      have ob57 : True ∧ S_WR_take x2 (264 : Int32) lx36 (2 : Int32) t0_2 t0_3 t0_4 t0_5 t0_6 t1_0 t4_0 := (by have h := hS47; rw [S_WR_add_J27.eq_1] at h; rw [if_pos c53] at h; with_reducible exact h.2.1)
      refine q_gov V (q_runV (As := [.int x2, .ref (q 128)]) (rest := []) (d := 1) (mc := 0) (ms := 0) (ci := 13) C0 V rfl LV_WR_107 (X_WR_take l D g q w55 128 264 (n_r128 g q) x2 (by decide) hI lx36 2 t0_2 t0_3 t0_4 t0_5 t0_6 hT0 t1_0 hT1 t4_0 hT4 ob57 _) rfl rfl hT0 rfl hl.1 rfl (Nat.le_of_ble_eq_true rfl) ⟨by decide, by decide⟩ ⟨Nat.le_of_ble_eq_true rfl, Nat.le_of_ble_eq_true rfl⟩ d_19_22_49) (fun u58 H locs hp59 V => ?_)
      obtain ⟨hI, hu63, f60, hA61, hE62⟩ := hp59
      replace hA61 : u58[128]? = (some (q 128, .inl (g 0, (264 : Int32).toNatClampNeg, .inl f60)) : Option (Nat × va_E)) := hA61
      have e64 : f60 = (F_WR_take x2 (264 : Int32) lx36 (2 : Int32) t0_2 t0_3 t0_4 t0_5 t0_6 t1_0 t4_0) := hE62
      replace hT0 := (hu63 _ (by decide)).trans hT0
      replace hT1 := (hu63 _ (by decide)).trans hT1
      replace hT2 := (hu63 _ (by decide)).trans hT2
      replace hT3 := (hu63 _ (by decide)).trans hT3
      replace hT5 := (hu63 _ (by decide)).trans hT5
      replace hF := q_uc hF hu63 (by simp)
      refine lv_aload_n hx hb d_19_22_52 rfl (lv_at hl 0 rfl) ?_
      refine lv_iload_n hx hb d_19_22_53 rfl (lv_at hl 2 rfl) ?_
      refine lv_aload_n hx hb d_19_22_54 rfl (lv_at hl 0 rfl) ?_
      refine q_get (ci := 13) (j := 13) (v := .ref (q 129)) C0 V i_WR rfl rfl hT0 (by decide) w_1937 rfl d_19_22_55 ?_
      have ob65 : True ∧ S_WR_take x3 (264 : Int32) lx36 (2 : Int32) t0_2 t0_3 t0_4 t0_5 t0_6 t1_0 t5_0 := (by have h := hS47; rw [S_WR_add_J27.eq_1] at h; rw [if_pos c53] at h; replace h := q_s2 h; with_reducible exact h.2.1)
      refine q_gov V (q_runV (As := [.int x3, .ref (q 129)]) (rest := []) (d := 1) (mc := 0) (ms := 0) (ci := 13) C0 V rfl LV_WR_107 (X_WR_take l D g q u58 129 264 (n_r129 g q) x3 (by decide) hI lx36 2 t0_2 t0_3 t0_4 t0_5 t0_6 hT0 t1_0 hT1 t5_0 hT5 ob65 _) rfl rfl hT0 rfl hl.1 rfl (Nat.le_of_ble_eq_true rfl) ⟨by decide, by decide⟩ ⟨Nat.le_of_ble_eq_true rfl, Nat.le_of_ble_eq_true rfl⟩ d_19_22_58) (fun u66 H locs hp67 V => ?_)
      obtain ⟨hI, hu71, f68, hA69, hE70⟩ := hp67
      replace hA69 : u66[129]? = (some (q 129, .inl (g 0, (264 : Int32).toNatClampNeg, .inl f68)) : Option (Nat × va_E)) := hA69
      have e72 : f68 = (F_WR_take x3 (264 : Int32) lx36 (2 : Int32) t0_2 t0_3 t0_4 t0_5 t0_6 t1_0 t5_0) := hE70
      replace hT0 := (hu71 _ (by decide)).trans hT0
      replace hT1 := (hu71 _ (by decide)).trans hT1
      replace hT2 := (hu71 _ (by decide)).trans hT2
      replace hT3 := (hu71 _ (by decide)).trans hT3
      replace hA61 := (hu71 _ (by decide)).trans hA61
      replace hF := q_uc hF hu71 (by simp)
      refine lv_aload_n hx hb d_19_22_61 rfl (lv_at hl 0 rfl) ?_
      refine lv_aload_n hx hb d_19_22_62 rfl (lv_at hl 0 rfl) ?_
      refine q_get (ci := 13) (j := 12) (v := .ref (q 128)) C0 V i_WR rfl rfl hT0 (by decide) w_1936 rfl d_19_22_63 ?_
      refine lv_aload_n hx hb d_19_22_66 rfl (lv_at hl 0 rfl) ?_
      refine q_get (ci := 13) (j := 5) (v := .ref (q 122)) C0 V i_WR rfl rfl hT0 (by decide) w_1929 rfl d_19_22_67 ?_
      refine lv_iload_n hx hb d_19_22_70 rfl (lv_at hl 1 rfl) ?_
      have ob73 : q_F (0 ≤ x2.toInt) := (by have h := hS47; rw [S_WR_add_J27.eq_1] at h; rw [if_pos c53] at h; replace h := q_s2 h; replace h := q_s2 h; exact h.2.1)
      have ob74 : q_F (x2.toInt ≤ 10) := (by have h := hS47; rw [S_WR_add_J27.eq_1] at h; rw [if_pos c53] at h; replace h := q_s2 h; replace h := q_s2 h; replace h := q_s2 h; exact h.2.1)
      refine q_zald C0 V hT2 (q_ix (x := x2.toInt) rfl (by have t1 : 0 ≤ x2.toInt := ob73; omega) (by have t1 : 0 ≤ x2.toInt := ob73; have t2 : x2.toInt ≤ 10 := ob74; omega)) d_19_22_71 ?_
      obtain ⟨a75, e76⟩ := q_nm (t2_0 x2.toNatClampNeg : Int32)
      refine q_ti (v := a75) e76 ?_
      refine lv_aload_n hx hb d_19_22_72 rfl (lv_at hl 0 rfl) ?_
      refine q_get (ci := 13) (j := 13) (v := .ref (q 129)) C0 V i_WR rfl rfl hT0 (by decide) w_1937 rfl d_19_22_73 ?_
      refine lv_aload_n hx hb d_19_22_76 rfl (lv_at hl 0 rfl) ?_
      refine q_get (ci := 13) (j := 5) (v := .ref (q 122)) C0 V i_WR rfl rfl hT0 (by decide) w_1929 rfl d_19_22_77 ?_
      refine lv_iload_n hx hb d_19_22_80 rfl (lv_at hl 2 rfl) ?_
      have ob77 : q_F (0 ≤ x3.toInt) := (by have h := hS47; rw [S_WR_add_J27.eq_1] at h; rw [if_pos c53] at h; replace h := q_s2 h; replace h := q_s2 h; replace h := q_s2 h; replace h := q_s2 h; exact h.2.1)
      have ob78 : q_F (x3.toInt ≤ 10) := (by have h := hS47; rw [S_WR_add_J27.eq_1] at h; rw [if_pos c53] at h; replace h := q_s2 h; replace h := q_s2 h; replace h := q_s2 h; replace h := q_s2 h; replace h := q_s2 h; exact h.2.1)
      refine q_zald C0 V hT2 (q_ix (x := x3.toInt) rfl (by have t1 : 0 ≤ x3.toInt := ob77; omega) (by have t1 : 0 ≤ x3.toInt := ob77; have t2 : x3.toInt ≤ 10 := ob78; omega)) d_19_22_81 ?_
      obtain ⟨a79, e80⟩ := q_nm (t2_0 x3.toNatClampNeg : Int32)
      refine q_ti (v := a79) e80 ?_
      refine lv_iload hx hb d_19_22_82 (lv_at hl 4 rfl) ?_
      refine lv_icmp_eq (tgt := 91) hx hb d_19_22_84 (by decide) (fun c81 => ?_) (fun c81 => ?_)
      ·
        have b82 : q_F (a79.toInt = x5.toInt) := (q_eqI c81)
        refine lv_iconst (v := 0) hx hb d_19_22_91 (by decide) ?_
        have ob83 : q_F (0 ≤ a75.toInt) := (by rw [← e76]; have h := hS47; rw [S_WR_add_J27.eq_1] at h; rw [if_pos c53] at h; replace h := q_s2 h; replace h := q_s2 h; replace h := q_s2 h; replace h := q_s2 h; replace h := q_s2 h; replace h := q_s2 h; have c81x := c81; rw [← e80] at c81x; rw [if_pos c81x] at h; exact h.2.1)
        have ob84 : q_F (a75.toInt ≤ 1) := (by rw [← e76]; have h := hS47; rw [S_WR_add_J27.eq_1] at h; rw [if_pos c53] at h; replace h := q_s2 h; replace h := q_s2 h; replace h := q_s2 h; replace h := q_s2 h; replace h := q_s2 h; replace h := q_s2 h; have c81x := c81; rw [← e80] at c81x; rw [if_pos c81x] at h; replace h := q_s2 h; exact h.2.1)
        have ob85 : True ∧ S_WR_sum (264 : Int32) a75 (264 : Int32) (0 : Int32) lx36 (2 : Int32) t0_2 t0_3 t0_4 t0_5 t0_6 t3_0 f60 f68 := (by rw [← e76, e72, e64]; have h := hS47; rw [S_WR_add_J27.eq_1] at h; rw [if_pos c53] at h; replace h := q_s2 h; replace h := q_s2 h; replace h := q_s2 h; replace h := q_s2 h; replace h := q_s2 h; replace h := q_s2 h; have c81x := c81; rw [← e80] at c81x; rw [if_pos c81x] at h; replace h := q_s2 h; replace h := q_s2 h; with_reducible exact h.2.1)
        refine q_gov V (q_runV (As := [.ref (q 128), .int a75, .ref (q 129), .int 0]) (rest := []) (d := 2) (mc := 0) (ms := 0) (ci := 13) C0 V rfl LV_WR_111 (X_WR_sum l D g q u66 128 264 (n_r128 g q) 129 264 (n_r129 g q) a75 0 (by decide) (by decide) (by decide) hI lx36 2 t0_2 t0_3 t0_4 t0_5 t0_6 hT0 t3_0 hT3 f60 hA61 f68 hA69 ⟨(by have y0 : (264 : Int32).toInt = 264 := rfl; have y1 : (264 : Int32).toInt = 264 := rfl; have y2 : (0 : Int32).toInt = 0 := rfl; have y3 : (2 : Int32).toInt = 2 := rfl; have t1 : 0 ≤ a75.toInt := ob83; omega), (by have y0 : (264 : Int32).toInt = 264 := rfl; have y1 : (264 : Int32).toInt = 264 := rfl; have y2 : (0 : Int32).toInt = 0 := rfl; have y3 : (2 : Int32).toInt = 2 := rfl; have t1 : a75.toInt ≤ 1 := ob84; omega)⟩ ⟨(by have y0 : (264 : Int32).toInt = 264 := rfl; have y1 : (264 : Int32).toInt = 264 := rfl; have y2 : (0 : Int32).toInt = 0 := rfl; have y3 : (2 : Int32).toInt = 2 := rfl; omega), (by have y0 : (264 : Int32).toInt = 264 := rfl; have y1 : (264 : Int32).toInt = 264 := rfl; have y2 : (0 : Int32).toInt = 0 := rfl; have y3 : (2 : Int32).toInt = 2 := rfl; omega)⟩ ob85 _) rfl rfl hT0 rfl hl.1 rfl (Nat.le_of_ble_eq_true rfl) ⟨by decide, by decide⟩ ⟨Nat.le_of_ble_eq_true rfl, Nat.le_of_ble_eq_true rfl⟩ d_19_22_92) (fun u86 H locs hp87 V => ?_)
        obtain ⟨hI, hu113, y89, y90, y91, y92, y93, y94, y95, f96, hO88, hA97, b98, b99, b100, b101, b102, b103, b104, b105, b106, b107, b108, b109, b110, b111, hE112⟩ := hp87
        replace hO88 : u86[119]? = (some (q 119, .inr (13, [.int y89, .int y90, .ref (q 120), .int y91, .ref (q 121), .ref (q 122), .ref (q 123), .int y92, .ref (q 124), .ref (q 125), .ref (q 126), .ref (q 127), .ref (q 128), .ref (q 129), .ref (q 130), .ref (q 131), .int y93, .int y94, .ref (q 132), .ref (q 133), .int y95])) : Option (Nat × va_E)) := hO88
        replace hA97 : u86[123]? = (some (q 123, .inl (g 0, (264 : Int32).toNatClampNeg, .inl f96)) : Option (Nat × va_E)) := hA97
        obtain ⟨p114, e115⟩ : ∃ z, z = (F_WR_sum (264 : Int32) a75 (264 : Int32) (0 : Int32) lx36 (2 : Int32) t0_2 t0_3 t0_4 t0_5 t0_6 t3_0 f60 f68) := ⟨_, rfl⟩
        have e116 : y89 = p114.1 := congrArg (fun z => z.1) (hE112.trans e115.symm)
        have e117 : y90 = p114.2.1 := congrArg (fun z => z.2.1) (hE112.trans e115.symm)
        have e118 : y91 = p114.2.2.1 := congrArg (fun z => z.2.2.1) (hE112.trans e115.symm)
        have e119 : y92 = p114.2.2.2.1 := congrArg (fun z => z.2.2.2.1) (hE112.trans e115.symm)
        have e120 : y93 = p114.2.2.2.2.1 := congrArg (fun z => z.2.2.2.2.1) (hE112.trans e115.symm)
        have e121 : y94 = p114.2.2.2.2.2.1 := congrArg (fun z => z.2.2.2.2.2.1) (hE112.trans e115.symm)
        have e122 : y95 = p114.2.2.2.2.2.2.1 := congrArg (fun z => z.2.2.2.2.2.2.1) (hE112.trans e115.symm)
        have e123 : f96 = p114.2.2.2.2.2.2.2 := congrArg (fun z => z.2.2.2.2.2.2.2) (hE112.trans e115.symm)
        replace b98 : q_F (0 ≤ y92.toInt) := b98
        replace b99 : q_F (y92.toInt ≤ 1) := b99
        replace b100 : q_F (lx36.toInt ≤ y89.toInt) := b100
        replace b101 : q_F (y89.toInt ≤ lx36.toInt) := b101
        replace b102 : q_F (2 ≤ y90.toInt) := b102
        replace b103 : q_F (y90.toInt ≤ 2) := b103
        replace b104 : q_F (t0_2.toInt ≤ y91.toInt) := b104
        replace b105 : q_F (y91.toInt ≤ t0_2.toInt) := b105
        replace b106 : q_F (t0_4.toInt ≤ y93.toInt) := b106
        replace b107 : q_F (y93.toInt ≤ t0_4.toInt) := b107
        replace b108 : q_F (t0_5.toInt ≤ y94.toInt) := b108
        replace b109 : q_F (y94.toInt ≤ t0_5.toInt) := b109
        replace b110 : q_F (t0_6.toInt ≤ y95.toInt) := b110
        replace b111 : q_F (y95.toInt ≤ t0_6.toInt) := b111
        replace hT1 := (hu113 _ (by decide)).trans hT1
        replace hT2 := (hu113 _ (by decide)).trans hT2
        replace hA61 := (hu113 _ (by decide)).trans hA61
        replace hA69 := (hu113 _ (by decide)).trans hA69
        replace hF := q_uc hF hu113 (by simp)
        have hR124 := (show F_WR_add_c92 x2 x3 x4 x5 t0_0 t0_1 t0_2 t0_3 t0_4 t0_5 t0_6 t1_0 t2_0 t3_0 t4_0 t5_0 lx36 f60 f68 p114 = (F_WR_add x2 x3 x4 x5 t0_0 t0_1 t0_2 t0_3 t0_4 t0_5 t0_6 t1_0 t2_0 t3_0 t4_0 t5_0) from Eq.trans (by have c81x := c81; rw [← e80] at c81x; rw [e115, ← e76, e72, e64, F_WR_add_J27.eq_1, if_pos c53, if_pos c81x]) hR46)
        have hS125 := (show True ∧ S_WR_add_c92 x2 x3 x4 x5 t0_0 t0_1 t0_2 t0_3 t0_4 t0_5 t0_6 t1_0 t2_0 t3_0 t4_0 t5_0 lx36 f60 f68 p114 from (by rw [e115, ← e76, e72, e64]; have h := hS47; rw [S_WR_add_J27.eq_1] at h; rw [if_pos c53] at h; replace h := q_s2 h; replace h := q_s2 h; replace h := q_s2 h; replace h := q_s2 h; replace h := q_s2 h; replace h := q_s2 h; have c81x := c81; rw [← e80] at c81x; rw [if_pos c81x] at h; replace h := q_s2 h; replace h := q_s2 h; replace h := q_s2 h; with_reducible exact h))
        refine lv_aload_n hx hb d_19_22_95 rfl (lv_at hl 0 rfl) ?_
        refine lv_iload_n hx hb d_19_22_96 rfl (lv_at hl 3 rfl) ?_
        have ob129 : True ∧ S_WR_store x4 y89 y90 y91 y92 y93 y94 y95 t1_0 t2_0 f96 := (by rw [e123, e122, e121, e120, e119, e118, e117, e116]; have h := hS125; rw [S_WR_add_c92.eq_1] at h; with_reducible exact h.2.1)
        refine q_gov V (q_runV (As := [.int x4]) (rest := []) (d := 2) (mc := 0) (ms := 0) (ci := 13) C0 V rfl LV_WR_103 (X_WR_store l D g q u86  x4 hI y89 y90 y91 y92 y93 y94 y95 hO88 t1_0 hT1 t2_0 hT2 f96 hA97 ob129 _) rfl rfl hO88 rfl hl.1 rfl (Nat.le_of_ble_eq_true rfl) ⟨by decide, by decide⟩ ⟨Nat.le_of_ble_eq_true rfl, Nat.le_of_ble_eq_true rfl⟩ d_19_22_97) (fun u130 H locs hp131 V => ?_)
        obtain ⟨hI, hu157, y133, y134, y135, y136, y137, y138, y139, f140, f142, hO132, hA141, hA143, b144, b145, b146, b147, b148, b149, b150, b151, b152, b153, b154, b155, hE156⟩ := hp131
        replace hO132 : u130[119]? = (some (q 119, .inr (13, [.int y133, .int y134, .ref (q 120), .int y135, .ref (q 121), .ref (q 122), .ref (q 123), .int y136, .ref (q 124), .ref (q 125), .ref (q 126), .ref (q 127), .ref (q 128), .ref (q 129), .ref (q 130), .ref (q 131), .int y137, .int y138, .ref (q 132), .ref (q 133), .int y139])) : Option (Nat × va_E)) := hO132
        replace hA141 : u130[121]? = (some (q 121, .inl (g 0, (1408 : Int32).toNatClampNeg, .inl f140)) : Option (Nat × va_E)) := hA141
        replace hA143 : u130[122]? = (some (q 122, .inl (g 3, 11, .inl f142)) : Option (Nat × va_E)) := hA143
        obtain ⟨p158, e159⟩ : ∃ z, z = (F_WR_store x4 y89 y90 y91 y92 y93 y94 y95 t1_0 t2_0 f96) := ⟨_, rfl⟩
        have e160 : y133 = p158.1 := congrArg (fun z => z.1) (hE156.trans e159.symm)
        have e161 : y134 = p158.2.1 := congrArg (fun z => z.2.1) (hE156.trans e159.symm)
        have e162 : y135 = p158.2.2.1 := congrArg (fun z => z.2.2.1) (hE156.trans e159.symm)
        have e163 : y136 = p158.2.2.2.1 := congrArg (fun z => z.2.2.2.1) (hE156.trans e159.symm)
        have e164 : y137 = p158.2.2.2.2.1 := congrArg (fun z => z.2.2.2.2.1) (hE156.trans e159.symm)
        have e165 : y138 = p158.2.2.2.2.2.1 := congrArg (fun z => z.2.2.2.2.2.1) (hE156.trans e159.symm)
        have e166 : y139 = p158.2.2.2.2.2.2.1 := congrArg (fun z => z.2.2.2.2.2.2.1) (hE156.trans e159.symm)
        have e167 : f140 = p158.2.2.2.2.2.2.2.1 := congrArg (fun z => z.2.2.2.2.2.2.2.1) (hE156.trans e159.symm)
        have e168 : f142 = p158.2.2.2.2.2.2.2.2 := congrArg (fun z => z.2.2.2.2.2.2.2.2) (hE156.trans e159.symm)
        replace b144 : q_F (y90.toInt ≤ y134.toInt) := b144
        replace b145 : q_F (y134.toInt ≤ y90.toInt) := b145
        replace b146 : q_F (y91.toInt ≤ y135.toInt) := b146
        replace b147 : q_F (y135.toInt ≤ y91.toInt) := b147
        replace b148 : q_F (y92.toInt ≤ y136.toInt) := b148
        replace b149 : q_F (y136.toInt ≤ y92.toInt) := b149
        replace b150 : q_F (y93.toInt ≤ y137.toInt) := b150
        replace b151 : q_F (y137.toInt ≤ y93.toInt) := b151
        replace b152 : q_F (y94.toInt ≤ y138.toInt) := b152
        replace b153 : q_F (y138.toInt ≤ y94.toInt) := b153
        replace b154 : q_F (y95.toInt ≤ y139.toInt) := b154
        replace b155 : q_F (y139.toInt ≤ y95.toInt) := b155
        replace hA97 := (hu157 _ (by decide)).trans hA97
        replace hA61 := (hu157 _ (by decide)).trans hA61
        replace hA69 := (hu157 _ (by decide)).trans hA69
        replace hF := q_uc hF hu157 (by simp)
        have hR169 := (show F_WR_add_c97 x2 x3 x4 x5 t0_0 t0_1 t0_2 t0_3 t0_4 t0_5 t0_6 t1_0 t2_0 t3_0 t4_0 t5_0 lx36 f60 f68 p114 f96 p158 = (F_WR_add x2 x3 x4 x5 t0_0 t0_1 t0_2 t0_3 t0_4 t0_5 t0_6 t1_0 t2_0 t3_0 t4_0 t5_0) from Eq.trans (by rw [e159, e123, e122, e121, e120, e119, e118, e117, e116, F_WR_add_c92.eq_1]) hR124)
        have hS170 := (show True ∧ S_WR_add_c97 x2 x3 x4 x5 t0_0 t0_1 t0_2 t0_3 t0_4 t0_5 t0_6 t1_0 t2_0 t3_0 t4_0 t5_0 lx36 f60 f68 p114 f96 p158 from (by rw [e159, e123, e122, e121, e120, e119, e118, e117, e116]; have h := hS125; rw [S_WR_add_c92.eq_1] at h; replace h := q_s2 h; with_reducible exact h))
        exact q_retv C0 V (⟨hI, hF, y133, y134, y135, y136, y137, y138, y139, f140, f142, f96, f60, f68, hO132, hA141, hA143, hA97, hA61, hA69, (show 0 ≤ y136.toInt from (by have t1 : 0 ≤ y92.toInt := b98; have t2 : y92.toInt ≤ y136.toInt := b148; omega)), (show y136.toInt ≤ 1 from (by have t1 : y92.toInt ≤ 1 := b99; have t2 : y136.toInt ≤ y92.toInt := b149; omega)), (show t0_2.toInt ≤ y135.toInt from (by have t1 : t0_2.toInt ≤ y91.toInt := b104; have t2 : y91.toInt ≤ y135.toInt := b146; omega)), (show y135.toInt ≤ t0_2.toInt from (by have t1 : y91.toInt ≤ t0_2.toInt := b105; have t2 : y135.toInt ≤ y91.toInt := b147; omega)), (show t0_4.toInt ≤ y137.toInt from (by have t1 : t0_4.toInt ≤ y93.toInt := b106; have t2 : y93.toInt ≤ y137.toInt := b150; omega)), (show y137.toInt ≤ t0_4.toInt from (by have t1 : y93.toInt ≤ t0_4.toInt := b107; have t2 : y137.toInt ≤ y93.toInt := b151; omega)), (show t0_5.toInt ≤ y138.toInt from (by have t1 : t0_5.toInt ≤ y94.toInt := b108; have t2 : y94.toInt ≤ y138.toInt := b152; omega)), (show y138.toInt ≤ t0_5.toInt from (by have t1 : y94.toInt ≤ t0_5.toInt := b109; have t2 : y138.toInt ≤ y94.toInt := b153; omega)), (show t0_6.toInt ≤ y139.toInt from (by have t1 : t0_6.toInt ≤ y95.toInt := b110; have t2 : y95.toInt ≤ y139.toInt := b154; omega)), (show y139.toInt ≤ t0_6.toInt from (by have t1 : y95.toInt ≤ t0_6.toInt := b111; have t2 : y139.toInt ≤ y95.toInt := b155; omega)), (show (y133, y134, y135, y136, y137, y138, y139, f140, f142, f96, f60, f68) = (F_WR_add x2 x3 x4 x5 t0_0 t0_1 t0_2 t0_3 t0_4 t0_5 t0_6 t1_0 t2_0 t3_0 t4_0 t5_0) from Eq.trans (by rw [e168, e167, e166, e165, e164, e163, e162, e161, e160, F_WR_add_c97.eq_1]) hR169)⟩) d_19_22_100
      ·
        have b174 : q_F (a79.toInt ≠ x5.toInt) := (q_neI c81)
        refine lv_iconst (v := 1) hx hb d_19_22_87 (by decide) ?_
        refine lv_goto (tgt := 92) hx hb d_19_22_88 (by decide) ?_
        have ob175 : q_F (0 ≤ a75.toInt) := (by rw [← e76]; have h := hS47; rw [S_WR_add_J27.eq_1] at h; rw [if_pos c53] at h; replace h := q_s2 h; replace h := q_s2 h; replace h := q_s2 h; replace h := q_s2 h; replace h := q_s2 h; replace h := q_s2 h; have c81x := c81; rw [← e80] at c81x; rw [if_neg c81x] at h; exact h.2.1)
        have ob176 : q_F (a75.toInt ≤ 1) := (by rw [← e76]; have h := hS47; rw [S_WR_add_J27.eq_1] at h; rw [if_pos c53] at h; replace h := q_s2 h; replace h := q_s2 h; replace h := q_s2 h; replace h := q_s2 h; replace h := q_s2 h; replace h := q_s2 h; have c81x := c81; rw [← e80] at c81x; rw [if_neg c81x] at h; replace h := q_s2 h; exact h.2.1)
        have ob177 : True ∧ S_WR_sum (264 : Int32) a75 (264 : Int32) (1 : Int32) lx36 (2 : Int32) t0_2 t0_3 t0_4 t0_5 t0_6 t3_0 f60 f68 := (by rw [← e76, e72, e64]; have h := hS47; rw [S_WR_add_J27.eq_1] at h; rw [if_pos c53] at h; replace h := q_s2 h; replace h := q_s2 h; replace h := q_s2 h; replace h := q_s2 h; replace h := q_s2 h; replace h := q_s2 h; have c81x := c81; rw [← e80] at c81x; rw [if_neg c81x] at h; replace h := q_s2 h; replace h := q_s2 h; with_reducible exact h.2.1)
        refine q_gov V (q_runV (As := [.ref (q 128), .int a75, .ref (q 129), .int 1]) (rest := []) (d := 2) (mc := 0) (ms := 0) (ci := 13) C0 V rfl LV_WR_111 (X_WR_sum l D g q u66 128 264 (n_r128 g q) 129 264 (n_r129 g q) a75 1 (by decide) (by decide) (by decide) hI lx36 2 t0_2 t0_3 t0_4 t0_5 t0_6 hT0 t3_0 hT3 f60 hA61 f68 hA69 ⟨(by have y0 : (264 : Int32).toInt = 264 := rfl; have y1 : (264 : Int32).toInt = 264 := rfl; have y2 : (1 : Int32).toInt = 1 := rfl; have y3 : (2 : Int32).toInt = 2 := rfl; have t1 : 0 ≤ a75.toInt := ob175; omega), (by have y0 : (264 : Int32).toInt = 264 := rfl; have y1 : (264 : Int32).toInt = 264 := rfl; have y2 : (1 : Int32).toInt = 1 := rfl; have y3 : (2 : Int32).toInt = 2 := rfl; have t1 : a75.toInt ≤ 1 := ob176; omega)⟩ ⟨(by have y0 : (264 : Int32).toInt = 264 := rfl; have y1 : (264 : Int32).toInt = 264 := rfl; have y2 : (1 : Int32).toInt = 1 := rfl; have y3 : (2 : Int32).toInt = 2 := rfl; omega), (by have y0 : (264 : Int32).toInt = 264 := rfl; have y1 : (264 : Int32).toInt = 264 := rfl; have y2 : (1 : Int32).toInt = 1 := rfl; have y3 : (2 : Int32).toInt = 2 := rfl; omega)⟩ ob177 _) rfl rfl hT0 rfl hl.1 rfl (Nat.le_of_ble_eq_true rfl) ⟨by decide, by decide⟩ ⟨Nat.le_of_ble_eq_true rfl, Nat.le_of_ble_eq_true rfl⟩ d_19_22_92) (fun u178 H locs hp179 V => ?_)
        obtain ⟨hI, hu205, y181, y182, y183, y184, y185, y186, y187, f188, hO180, hA189, b190, b191, b192, b193, b194, b195, b196, b197, b198, b199, b200, b201, b202, b203, hE204⟩ := hp179
        replace hO180 : u178[119]? = (some (q 119, .inr (13, [.int y181, .int y182, .ref (q 120), .int y183, .ref (q 121), .ref (q 122), .ref (q 123), .int y184, .ref (q 124), .ref (q 125), .ref (q 126), .ref (q 127), .ref (q 128), .ref (q 129), .ref (q 130), .ref (q 131), .int y185, .int y186, .ref (q 132), .ref (q 133), .int y187])) : Option (Nat × va_E)) := hO180
        replace hA189 : u178[123]? = (some (q 123, .inl (g 0, (264 : Int32).toNatClampNeg, .inl f188)) : Option (Nat × va_E)) := hA189
        obtain ⟨p206, e207⟩ : ∃ z, z = (F_WR_sum (264 : Int32) a75 (264 : Int32) (1 : Int32) lx36 (2 : Int32) t0_2 t0_3 t0_4 t0_5 t0_6 t3_0 f60 f68) := ⟨_, rfl⟩
        have e208 : y181 = p206.1 := congrArg (fun z => z.1) (hE204.trans e207.symm)
        have e209 : y182 = p206.2.1 := congrArg (fun z => z.2.1) (hE204.trans e207.symm)
        have e210 : y183 = p206.2.2.1 := congrArg (fun z => z.2.2.1) (hE204.trans e207.symm)
        have e211 : y184 = p206.2.2.2.1 := congrArg (fun z => z.2.2.2.1) (hE204.trans e207.symm)
        have e212 : y185 = p206.2.2.2.2.1 := congrArg (fun z => z.2.2.2.2.1) (hE204.trans e207.symm)
        have e213 : y186 = p206.2.2.2.2.2.1 := congrArg (fun z => z.2.2.2.2.2.1) (hE204.trans e207.symm)
        have e214 : y187 = p206.2.2.2.2.2.2.1 := congrArg (fun z => z.2.2.2.2.2.2.1) (hE204.trans e207.symm)
        have e215 : f188 = p206.2.2.2.2.2.2.2 := congrArg (fun z => z.2.2.2.2.2.2.2) (hE204.trans e207.symm)
        replace b190 : q_F (0 ≤ y184.toInt) := b190
        replace b191 : q_F (y184.toInt ≤ 1) := b191
        replace b192 : q_F (lx36.toInt ≤ y181.toInt) := b192
        replace b193 : q_F (y181.toInt ≤ lx36.toInt) := b193
        replace b194 : q_F (2 ≤ y182.toInt) := b194
        replace b195 : q_F (y182.toInt ≤ 2) := b195
        replace b196 : q_F (t0_2.toInt ≤ y183.toInt) := b196
        replace b197 : q_F (y183.toInt ≤ t0_2.toInt) := b197
        replace b198 : q_F (t0_4.toInt ≤ y185.toInt) := b198
        replace b199 : q_F (y185.toInt ≤ t0_4.toInt) := b199
        replace b200 : q_F (t0_5.toInt ≤ y186.toInt) := b200
        replace b201 : q_F (y186.toInt ≤ t0_5.toInt) := b201
        replace b202 : q_F (t0_6.toInt ≤ y187.toInt) := b202
        replace b203 : q_F (y187.toInt ≤ t0_6.toInt) := b203
        replace hT1 := (hu205 _ (by decide)).trans hT1
        replace hT2 := (hu205 _ (by decide)).trans hT2
        replace hA61 := (hu205 _ (by decide)).trans hA61
        replace hA69 := (hu205 _ (by decide)).trans hA69
        replace hF := q_uc hF hu205 (by simp)
        have hR216 := (show F_WR_add_c92_4 x2 x3 x4 x5 t0_0 t0_1 t0_2 t0_3 t0_4 t0_5 t0_6 t1_0 t2_0 t3_0 t4_0 t5_0 lx36 f60 f68 p206 = (F_WR_add x2 x3 x4 x5 t0_0 t0_1 t0_2 t0_3 t0_4 t0_5 t0_6 t1_0 t2_0 t3_0 t4_0 t5_0) from Eq.trans (by have c81x := c81; rw [← e80] at c81x; rw [e207, ← e76, e72, e64, F_WR_add_J27.eq_1, if_pos c53, if_neg c81x]) hR46)
        have hS217 := (show True ∧ S_WR_add_c92_4 x2 x3 x4 x5 t0_0 t0_1 t0_2 t0_3 t0_4 t0_5 t0_6 t1_0 t2_0 t3_0 t4_0 t5_0 lx36 f60 f68 p206 from (by rw [e207, ← e76, e72, e64]; have h := hS47; rw [S_WR_add_J27.eq_1] at h; rw [if_pos c53] at h; replace h := q_s2 h; replace h := q_s2 h; replace h := q_s2 h; replace h := q_s2 h; replace h := q_s2 h; replace h := q_s2 h; have c81x := c81; rw [← e80] at c81x; rw [if_neg c81x] at h; replace h := q_s2 h; replace h := q_s2 h; replace h := q_s2 h; with_reducible exact h))
        refine lv_aload_n hx hb d_19_22_95 rfl (lv_at hl 0 rfl) ?_
        refine lv_iload_n hx hb d_19_22_96 rfl (lv_at hl 3 rfl) ?_
        have ob221 : True ∧ S_WR_store x4 y181 y182 y183 y184 y185 y186 y187 t1_0 t2_0 f188 := (by rw [e215, e214, e213, e212, e211, e210, e209, e208]; have h := hS217; rw [S_WR_add_c92_4.eq_1] at h; with_reducible exact h.2.1)
        refine q_gov V (q_runV (As := [.int x4]) (rest := []) (d := 2) (mc := 0) (ms := 0) (ci := 13) C0 V rfl LV_WR_103 (X_WR_store l D g q u178  x4 hI y181 y182 y183 y184 y185 y186 y187 hO180 t1_0 hT1 t2_0 hT2 f188 hA189 ob221 _) rfl rfl hO180 rfl hl.1 rfl (Nat.le_of_ble_eq_true rfl) ⟨by decide, by decide⟩ ⟨Nat.le_of_ble_eq_true rfl, Nat.le_of_ble_eq_true rfl⟩ d_19_22_97) (fun u222 H locs hp223 V => ?_)
        obtain ⟨hI, hu249, y225, y226, y227, y228, y229, y230, y231, f232, f234, hO224, hA233, hA235, b236, b237, b238, b239, b240, b241, b242, b243, b244, b245, b246, b247, hE248⟩ := hp223
        replace hO224 : u222[119]? = (some (q 119, .inr (13, [.int y225, .int y226, .ref (q 120), .int y227, .ref (q 121), .ref (q 122), .ref (q 123), .int y228, .ref (q 124), .ref (q 125), .ref (q 126), .ref (q 127), .ref (q 128), .ref (q 129), .ref (q 130), .ref (q 131), .int y229, .int y230, .ref (q 132), .ref (q 133), .int y231])) : Option (Nat × va_E)) := hO224
        replace hA233 : u222[121]? = (some (q 121, .inl (g 0, (1408 : Int32).toNatClampNeg, .inl f232)) : Option (Nat × va_E)) := hA233
        replace hA235 : u222[122]? = (some (q 122, .inl (g 3, 11, .inl f234)) : Option (Nat × va_E)) := hA235
        obtain ⟨p250, e251⟩ : ∃ z, z = (F_WR_store x4 y181 y182 y183 y184 y185 y186 y187 t1_0 t2_0 f188) := ⟨_, rfl⟩
        have e252 : y225 = p250.1 := congrArg (fun z => z.1) (hE248.trans e251.symm)
        have e253 : y226 = p250.2.1 := congrArg (fun z => z.2.1) (hE248.trans e251.symm)
        have e254 : y227 = p250.2.2.1 := congrArg (fun z => z.2.2.1) (hE248.trans e251.symm)
        have e255 : y228 = p250.2.2.2.1 := congrArg (fun z => z.2.2.2.1) (hE248.trans e251.symm)
        have e256 : y229 = p250.2.2.2.2.1 := congrArg (fun z => z.2.2.2.2.1) (hE248.trans e251.symm)
        have e257 : y230 = p250.2.2.2.2.2.1 := congrArg (fun z => z.2.2.2.2.2.1) (hE248.trans e251.symm)
        have e258 : y231 = p250.2.2.2.2.2.2.1 := congrArg (fun z => z.2.2.2.2.2.2.1) (hE248.trans e251.symm)
        have e259 : f232 = p250.2.2.2.2.2.2.2.1 := congrArg (fun z => z.2.2.2.2.2.2.2.1) (hE248.trans e251.symm)
        have e260 : f234 = p250.2.2.2.2.2.2.2.2 := congrArg (fun z => z.2.2.2.2.2.2.2.2) (hE248.trans e251.symm)
        replace b236 : q_F (y182.toInt ≤ y226.toInt) := b236
        replace b237 : q_F (y226.toInt ≤ y182.toInt) := b237
        replace b238 : q_F (y183.toInt ≤ y227.toInt) := b238
        replace b239 : q_F (y227.toInt ≤ y183.toInt) := b239
        replace b240 : q_F (y184.toInt ≤ y228.toInt) := b240
        replace b241 : q_F (y228.toInt ≤ y184.toInt) := b241
        replace b242 : q_F (y185.toInt ≤ y229.toInt) := b242
        replace b243 : q_F (y229.toInt ≤ y185.toInt) := b243
        replace b244 : q_F (y186.toInt ≤ y230.toInt) := b244
        replace b245 : q_F (y230.toInt ≤ y186.toInt) := b245
        replace b246 : q_F (y187.toInt ≤ y231.toInt) := b246
        replace b247 : q_F (y231.toInt ≤ y187.toInt) := b247
        replace hA189 := (hu249 _ (by decide)).trans hA189
        replace hA61 := (hu249 _ (by decide)).trans hA61
        replace hA69 := (hu249 _ (by decide)).trans hA69
        replace hF := q_uc hF hu249 (by simp)
        have hR261 := (show F_WR_add_c97_5 x2 x3 x4 x5 t0_0 t0_1 t0_2 t0_3 t0_4 t0_5 t0_6 t1_0 t2_0 t3_0 t4_0 t5_0 lx36 f60 f68 p206 f188 p250 = (F_WR_add x2 x3 x4 x5 t0_0 t0_1 t0_2 t0_3 t0_4 t0_5 t0_6 t1_0 t2_0 t3_0 t4_0 t5_0) from Eq.trans (by rw [e251, e215, e214, e213, e212, e211, e210, e209, e208, F_WR_add_c92_4.eq_1]) hR216)
        have hS262 := (show True ∧ S_WR_add_c97_5 x2 x3 x4 x5 t0_0 t0_1 t0_2 t0_3 t0_4 t0_5 t0_6 t1_0 t2_0 t3_0 t4_0 t5_0 lx36 f60 f68 p206 f188 p250 from (by rw [e251, e215, e214, e213, e212, e211, e210, e209, e208]; have h := hS217; rw [S_WR_add_c92_4.eq_1] at h; replace h := q_s2 h; with_reducible exact h))
        exact q_retv C0 V (⟨hI, hF, y225, y226, y227, y228, y229, y230, y231, f232, f234, f188, f60, f68, hO224, hA233, hA235, hA189, hA61, hA69, (show 0 ≤ y228.toInt from (by have t1 : 0 ≤ y184.toInt := b190; have t2 : y184.toInt ≤ y228.toInt := b240; omega)), (show y228.toInt ≤ 1 from (by have t1 : y184.toInt ≤ 1 := b191; have t2 : y228.toInt ≤ y184.toInt := b241; omega)), (show t0_2.toInt ≤ y227.toInt from (by have t1 : t0_2.toInt ≤ y183.toInt := b196; have t2 : y183.toInt ≤ y227.toInt := b238; omega)), (show y227.toInt ≤ t0_2.toInt from (by have t1 : y183.toInt ≤ t0_2.toInt := b197; have t2 : y227.toInt ≤ y183.toInt := b239; omega)), (show t0_4.toInt ≤ y229.toInt from (by have t1 : t0_4.toInt ≤ y185.toInt := b198; have t2 : y185.toInt ≤ y229.toInt := b242; omega)), (show y229.toInt ≤ t0_4.toInt from (by have t1 : y185.toInt ≤ t0_4.toInt := b199; have t2 : y229.toInt ≤ y185.toInt := b243; omega)), (show t0_5.toInt ≤ y230.toInt from (by have t1 : t0_5.toInt ≤ y186.toInt := b200; have t2 : y186.toInt ≤ y230.toInt := b244; omega)), (show y230.toInt ≤ t0_5.toInt from (by have t1 : y186.toInt ≤ t0_5.toInt := b201; have t2 : y230.toInt ≤ y186.toInt := b245; omega)), (show t0_6.toInt ≤ y231.toInt from (by have t1 : t0_6.toInt ≤ y187.toInt := b202; have t2 : y187.toInt ≤ y231.toInt := b246; omega)), (show y231.toInt ≤ t0_6.toInt from (by have t1 : y187.toInt ≤ t0_6.toInt := b203; have t2 : y231.toInt ≤ y187.toInt := b247; omega)), (show (y225, y226, y227, y228, y229, y230, y231, f232, f234, f188, f60, f68) = (F_WR_add x2 x3 x4 x5 t0_0 t0_1 t0_2 t0_3 t0_4 t0_5 t0_6 t1_0 t2_0 t3_0 t4_0 t5_0) from Eq.trans (by rw [e260, e259, e258, e257, e256, e255, e254, e253, e252, F_WR_add_c97_5.eq_1]) hR261)⟩) d_19_22_100
    ·
      have b266 : q_F (0 < lx36.toInt) := (q_nleI c53)
      exact q_retv C0 V (⟨hI, hF, lx36, t0_1, t0_2, t0_3, t0_4, t0_5, t0_6, t1_0, t2_0, t3_0, t4_0, t5_0, hT0, hT1, hT2, hT3, hT4, hT5, (show 0 ≤ t0_3.toInt from (by have t1 : 0 ≤ t0_3.toInt ∧ t0_3.toInt ≤ 1 := btt0_3; omega)), (show t0_3.toInt ≤ 1 from (by have t1 : 0 ≤ t0_3.toInt ∧ t0_3.toInt ≤ 1 := btt0_3; omega)), (show t0_2.toInt ≤ t0_2.toInt from (by omega)), (show t0_2.toInt ≤ t0_2.toInt from (by omega)), (show t0_4.toInt ≤ t0_4.toInt from (by omega)), (show t0_4.toInt ≤ t0_4.toInt from (by omega)), (show t0_5.toInt ≤ t0_5.toInt from (by omega)), (show t0_5.toInt ≤ t0_5.toInt from (by omega)), (show t0_6.toInt ≤ t0_6.toInt from (by omega)), (show t0_6.toInt ≤ t0_6.toInt from (by omega)), (show (lx36, t0_1, t0_2, t0_3, t0_4, t0_5, t0_6, t1_0, t2_0, t3_0, t4_0, t5_0) = (F_WR_add x2 x3 x4 x5 t0_0 t0_1 t0_2 t0_3 t0_4 t0_5 t0_6 t1_0 t2_0 t3_0 t4_0 t5_0) from Eq.trans (by rw [F_WR_add_J27.eq_1, if_neg c53]) hR46)⟩) d_19_22_37
  ·
    intro J43
    refine q_join (X := Unit) (fun z H locs ls _ => q_Wd D g (va_A ws sz) s ws H locs ∧ lv_has ls 5 [(0, .ref (q 119)), (1, .int x2), (2, .int x3), (3, .int x4), (4, .int x5)] ∧ F_WR_add_J22 x2 x3 x4 x5 t0_0 t0_1 t0_2 t0_3 t0_4 t0_5 t0_6 t1_0 t2_0 t3_0 t4_0 t5_0 = (F_WR_add x2 x3 x4 x5 t0_0 t0_1 t0_2 t0_3 t0_4 t0_5 t0_6 t1_0 t2_0 t3_0 t4_0 t5_0) ∧ True ∧ S_WR_add_J22 x2 x3 x4 x5 t0_0 t0_1 t0_2 t0_3 t0_4 t0_5 t0_6 t1_0 t2_0 t3_0 t4_0 t5_0) (fun z => [.ref (q 119)]) 22 0 0 ?_ ?_
    ·
      rintro _ H locs ls _ ⟨V, hl, hR274, hS275⟩
      replace hl : lv_has ls 5 [(0, .ref (q 119)), (1, .int x2), (2, .int x3), (3, .int x4), (4, .int x5)] := hl
      refine lv_iconst (v := 1) hx hb d_19_22_22 (by decide) ?_
      refine lv_goto (tgt := 27) hx hb d_19_22_23 (by decide) ?_
      exact J43 ((1 : Int32)) _ _ _ ws ⟨(show q_F (0 ≤ 1) from (show 0 ≤ 1 from by omega)), (show q_F (1 ≤ 1) from (show 1 ≤ 1 from by omega)), V, q_lw hl (q_lw1 0 rfl (q_lw1 1 rfl (q_lw1 2 rfl (q_lw1 3 rfl (q_lw1 4 rfl q_lw0))))), (show F_WR_add_J27 x2 x3 x4 x5 t0_0 t0_1 t0_2 t0_3 t0_4 t0_5 t0_6 t1_0 t2_0 t3_0 t4_0 t5_0 1 = (F_WR_add x2 x3 x4 x5 t0_0 t0_1 t0_2 t0_3 t0_4 t0_5 t0_6 t1_0 t2_0 t3_0 t4_0 t5_0) from Eq.trans (by rw [F_WR_add_J22.eq_1]) hR274), (show True ∧ S_WR_add_J27 x2 x3 x4 x5 t0_0 t0_1 t0_2 t0_3 t0_4 t0_5 t0_6 t1_0 t2_0 t3_0 t4_0 t5_0 1 from (by have h := hS275; rw [S_WR_add_J22.eq_1] at h; with_reducible exact h))⟩
    ·
      intro J273
      refine lv_if_ne (tgt := 22) hx hb d_19_22_5 (by decide) (fun c279 => ?_) (fun c279 => ?_)
      ·
        have b280 : q_F (a31.toInt ≠ 0) := (q_neI c279)
        exact J273 (()) _ _ _ ws ⟨V, q_lw hl (q_lw1 0 rfl (q_lw1 1 rfl (q_lw1 2 rfl (q_lw1 3 rfl (q_lw1 4 rfl q_lw0))))), (show F_WR_add_J22 x2 x3 x4 x5 t0_0 t0_1 t0_2 t0_3 t0_4 t0_5 t0_6 t1_0 t2_0 t3_0 t4_0 t5_0 = (F_WR_add x2 x3 x4 x5 t0_0 t0_1 t0_2 t0_3 t0_4 t0_5 t0_6 t1_0 t2_0 t3_0 t4_0 t5_0) from (by have c279x := c279; rw [e35] at c279x; rw [F_WR_add.eq_1, if_neg c279x])), (show True ∧ S_WR_add_J22 x2 x3 x4 x5 t0_0 t0_1 t0_2 t0_3 t0_4 t0_5 t0_6 t1_0 t2_0 t3_0 t4_0 t5_0 from (by have h := hS; rw [S_WR_add.eq_1] at h; have c279x := c279; rw [e35] at c279x; rw [if_neg c279x] at h; with_reducible exact h))⟩
      ·
        have b281 : q_F (a31.toInt = 0) := (q_eqI c279)
        refine lv_iload_n hx hb d_19_22_8 rfl (lv_at hl 2 rfl) ?_
        refine q_goi V (q_runS (As := [.int x3]) (rest := [.ref (q 119)]) (d := 1) (mc := 0) (ms := 0) C0 V rfl LS_WR_91 (X_WR_no l D g q ws  x3 hI   _) rfl hl.1 rfl (Nat.le_of_ble_eq_true rfl) ⟨by decide, by decide⟩ ⟨Nat.le_of_ble_eq_true rfl, Nat.le_of_ble_eq_true rfl⟩ d_19_22_9) (fun a284 u282 H locs hp283 V => ?_)
        obtain ⟨rfl, b285, b286, hE287⟩ := hp283
        have e288 : a284 = (F_WR_no x3) := hE287
        replace b285 : q_F (0 ≤ a284.toInt) := b285
        replace b286 : q_F (a284.toInt ≤ 1) := b286
        refine lv_if_ne (tgt := 22) hx hb d_19_22_12 (by decide) (fun c289 => ?_) (fun c289 => ?_)
        ·
          have b290 : q_F (a284.toInt ≠ 0) := (q_neI c289)
          exact J273 (()) _ _ _ ws ⟨V, q_lw hl (q_lw1 0 rfl (q_lw1 1 rfl (q_lw1 2 rfl (q_lw1 3 rfl (q_lw1 4 rfl q_lw0))))), (show F_WR_add_J22 x2 x3 x4 x5 t0_0 t0_1 t0_2 t0_3 t0_4 t0_5 t0_6 t1_0 t2_0 t3_0 t4_0 t5_0 = (F_WR_add x2 x3 x4 x5 t0_0 t0_1 t0_2 t0_3 t0_4 t0_5 t0_6 t1_0 t2_0 t3_0 t4_0 t5_0) from (by have c279x := c279; rw [e35] at c279x; have c289x := c289; rw [e288] at c289x; rw [F_WR_add.eq_1, if_pos c279x, if_neg c289x])), (show True ∧ S_WR_add_J22 x2 x3 x4 x5 t0_0 t0_1 t0_2 t0_3 t0_4 t0_5 t0_6 t1_0 t2_0 t3_0 t4_0 t5_0 from (by have h := hS; rw [S_WR_add.eq_1] at h; have c279x := c279; rw [e35] at c279x; rw [if_pos c279x] at h; have c289x := c289; rw [e288] at c289x; rw [if_neg c289x] at h; with_reducible exact h))⟩
        ·
          have b291 : q_F (a284.toInt = 0) := (q_eqI c289)
          refine lv_iload_n hx hb d_19_22_15 rfl (lv_at hl 3 rfl) ?_
          refine q_goi V (q_runS (As := [.int x4]) (rest := [.ref (q 119)]) (d := 1) (mc := 0) (ms := 0) C0 V rfl LS_WR_91 (X_WR_no l D g q ws  x4 hI   _) rfl hl.1 rfl (Nat.le_of_ble_eq_true rfl) ⟨by decide, by decide⟩ ⟨Nat.le_of_ble_eq_true rfl, Nat.le_of_ble_eq_true rfl⟩ d_19_22_16) (fun a294 u292 H locs hp293 V => ?_)
          obtain ⟨rfl, b295, b296, hE297⟩ := hp293
          have e298 : a294 = (F_WR_no x4) := hE297
          replace b295 : q_F (0 ≤ a294.toInt) := b295
          replace b296 : q_F (a294.toInt ≤ 1) := b296
          refine lv_if_eq (tgt := 26) hx hb d_19_22_19 (by decide) (fun c299 => ?_) (fun c299 => ?_)
          ·
            have b300 : q_F (a294.toInt = 0) := (q_eqI c299)
            refine lv_iconst (v := 0) hx hb d_19_22_26 (by decide) ?_
            exact J43 ((0 : Int32)) _ _ _ ws ⟨(show q_F (0 ≤ 0) from (show 0 ≤ 0 from by omega)), (show q_F (0 ≤ 1) from (show 0 ≤ 1 from by omega)), V, q_lw hl (q_lw1 0 rfl (q_lw1 1 rfl (q_lw1 2 rfl (q_lw1 3 rfl (q_lw1 4 rfl q_lw0))))), (show F_WR_add_J27 x2 x3 x4 x5 t0_0 t0_1 t0_2 t0_3 t0_4 t0_5 t0_6 t1_0 t2_0 t3_0 t4_0 t5_0 0 = (F_WR_add x2 x3 x4 x5 t0_0 t0_1 t0_2 t0_3 t0_4 t0_5 t0_6 t1_0 t2_0 t3_0 t4_0 t5_0) from (by have c279x := c279; rw [e35] at c279x; have c289x := c289; rw [e288] at c289x; have c299x := c299; rw [e298] at c299x; rw [F_WR_add.eq_1, if_pos c279x, if_pos c289x, if_pos c299x])), (show True ∧ S_WR_add_J27 x2 x3 x4 x5 t0_0 t0_1 t0_2 t0_3 t0_4 t0_5 t0_6 t1_0 t2_0 t3_0 t4_0 t5_0 0 from (by have h := hS; rw [S_WR_add.eq_1] at h; have c279x := c279; rw [e35] at c279x; rw [if_pos c279x] at h; have c289x := c289; rw [e288] at c289x; rw [if_pos c289x] at h; have c299x := c299; rw [e298] at c299x; rw [if_pos c299x] at h; with_reducible exact h))⟩
          ·
            have b301 : q_F (a294.toInt ≠ 0) := (q_neI c299)
            exact J273 (()) _ _ _ ws ⟨V, q_lw hl (q_lw1 0 rfl (q_lw1 1 rfl (q_lw1 2 rfl (q_lw1 3 rfl (q_lw1 4 rfl q_lw0))))), (show F_WR_add_J22 x2 x3 x4 x5 t0_0 t0_1 t0_2 t0_3 t0_4 t0_5 t0_6 t1_0 t2_0 t3_0 t4_0 t5_0 = (F_WR_add x2 x3 x4 x5 t0_0 t0_1 t0_2 t0_3 t0_4 t0_5 t0_6 t1_0 t2_0 t3_0 t4_0 t5_0) from (by have c279x := c279; rw [e35] at c279x; have c289x := c289; rw [e288] at c289x; have c299x := c299; rw [e298] at c299x; rw [F_WR_add.eq_1, if_pos c279x, if_pos c289x, if_neg c299x])), (show True ∧ S_WR_add_J22 x2 x3 x4 x5 t0_0 t0_1 t0_2 t0_3 t0_4 t0_5 t0_6 t1_0 t2_0 t3_0 t4_0 t5_0 from (by have h := hS; rw [S_WR_add.eq_1] at h; have c279x := c279; rw [e35] at c279x; rw [if_pos c279x] at h; have c289x := c289; rw [e288] at c289x; rw [if_pos c289x] at h; have c299x := c299; rw [e298] at c299x; rw [if_neg c299x] at h; with_reducible exact h))⟩
