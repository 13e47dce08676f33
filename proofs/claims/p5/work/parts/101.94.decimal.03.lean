theorem d_15_5_0 : decode prog_15_method_5_code 0 = .ok (.aload_n 0, 1) := by decide +kernel
theorem d_15_5_1 : decode prog_15_method_5_code 1 = .ok (.getfield 13, 3) := by decide +kernel
theorem d_15_5_4 : decode prog_15_method_5_code 4 = .ok (.sipush 1000, 3) := by decide +kernel
theorem d_15_5_7 : decode prog_15_method_5_code 7 = .ok (.iload_n 1, 1) := by decide +kernel
theorem d_15_5_8 : decode prog_15_method_5_code 8 = .ok (.imul, 1) := by decide +kernel
theorem d_15_5_9 : decode prog_15_method_5_code 9 = .ok (.iaload, 1) := by decide +kernel
theorem d_15_5_10 : decode prog_15_method_5_code 10 = .ok (.ifCond .ne 7, 3) := by decide +kernel
theorem d_15_5_17 : decode prog_15_method_5_code 17 = .ok (.iconst 0, 1) := by decide +kernel
theorem d_15_5_18 : decode prog_15_method_5_code 18 = .ok (.ireturn, 1) := by decide +kernel
theorem d_15_5_13 : decode prog_15_method_5_code 13 = .ok (.iconst 1, 1) := by decide +kernel
theorem d_15_5_14 : decode prog_15_method_5_code 14 = .ok (.goto 4, 3) := by decide +kernel
def y_DR_isZero : MethodName := ⟨"NumberHouseModel$DecimalRows", "isZero", "(I)Z"⟩
def F_DR_isZero (x2 : Int32) (t0_0 : Int32) (t0_1 : Int32) (t0_2 : Int32) (t0_3 : Int64) (t0_4 : Int32) (t0_5 : Int32) (t0_6 : Int32) (t0_7 : Int32) (t0_8 : Int32) (t0_9 : Int32) (t0_10 : Int32) (t1_0 : (Nat → Int32)) : Int32 := if (t1_0 (1000 * x2 : Int32).toNatClampNeg : Int32) = (0 : Int32) then ((1 : Int32)) else ((0 : Int32))
def S_DR_isZero (x2 : Int32) (t0_0 : Int32) (t0_1 : Int32) (t0_2 : Int32) (t0_3 : Int64) (t0_4 : Int32) (t0_5 : Int32) (t0_6 : Int32) (t0_7 : Int32) (t0_8 : Int32) (t0_9 : Int32) (t0_10 : Int32) (t1_0 : (Nat → Int32)) : Prop := (0 ≤ (1000 * x2 : Int32).toInt) ∧ (((1000 * x2 : Int32).toInt ≤ 9999) ∧ (if (t1_0 (1000 * x2 : Int32).toNatClampNeg : Int32) = (0 : Int32) then (True) else (True)))
set_option maxRecDepth 100000 in
set_option maxHeartbeats 4000000 in
theorem X_DR_isZero (l : Launch) (D : va_G) (g : Nat → ClassId) (q : Nat → Nat) (ws : va_W) (x2 : Int32) (hI : q_I (msh g q) q ws) (t0_0 : Int32) (t0_1 : Int32) (t0_2 : Int32) (t0_3 : Int64) (t0_4 : Int32) (t0_5 : Int32) (t0_6 : Int32) (t0_7 : Int32) (t0_8 : Int32) (t0_9 : Int32) (t0_10 : Int32) (hT0 : ws[134]? = (some (q 134, .inr (14, [.int t0_0, .ref (q 135), .int t0_1, .ref (q 136), .ref (q 137), .ref (q 138), .ref (q 139), .ref (q 140), .int t0_2, .long t0_3, .int t0_4, .int t0_5, .ref (q 141), .int t0_6, .ref (q 142), .int t0_7, .ref (q 143), .int t0_8, .ref (q 144), .int t0_9, .int t0_10])) : Option (Nat × va_E))) (t1_0 : (Nat → Int32)) (hT1 : ws[136]? = (some (q 136, .inl (g 0, (10000 : Int32).toNatClampNeg, .inl t1_0)) : Option (Nat × va_E))) (hS : True ∧ S_DR_isZero x2 t0_0 t0_1 t0_2 t0_3 t0_4 t0_5 t0_6 t0_7 t0_8 t0_9 t0_10 t1_0) : q_mI l y_DR_isZero prog_15_method_5_code 2 (.boolean) 1 0 0 D g [.ref (q 134), .int x2] ws (fun r u => ws = u ∧ (0 ≤ r.toInt) ∧ (r.toInt ≤ 1) ∧ r = (F_DR_isZero x2 t0_0 t0_1 t0_2 t0_3 t0_4 t0_5 t0_6 t0_7 t0_8 t0_9 t0_10 t1_0)) := by
  intro sz
  refine q_into (by decide) (Nat.le_of_ble_eq_true rfl) ?_
  intro p e s m below meth c ls hsz C0 V hl
  have hx := C0.1
  have hb := C0.2.1
  have hZ9 := (n_w134 hI hT0).2.2
  obtain ⟨-, btt0_9⟩ := hZ9
  clear btt0_9
  have hl : lv_has ls 2 [(0, .ref (q 134)), (1, .int x2)] := hl
  refine lv_aload_n hx hb d_15_5_0 rfl (lv_at hl 0 rfl) ?_
  refine q_get (ci := 14) (j := 3) (v := .ref (q 136)) C0 V i_DR rfl rfl hT0 (by decide) w_2002 rfl d_15_5_1 ?_
  refine lv_sipush (v := 1000) hx hb d_15_5_4 (by decide) ?_
  refine lv_iload_n hx hb d_15_5_7 rfl (lv_at hl 1 rfl) ?_
  refine lv_imul hx hb d_15_5_8 ?_
  obtain ⟨a20, e21⟩ := q_nm (1000 * x2 : Int32)
  refine q_ti (v := a20) e21 ?_
  have ob22 : q_F (0 ≤ a20.toInt) := (by rw [← e21]; have h := hS; rw [S_DR_isZero.eq_1] at h; exact h.2.1)
  have ob23 : q_F (a20.toInt ≤ 9999) := (by rw [← e21]; have h := hS; rw [S_DR_isZero.eq_1] at h; replace h := q_s2 h; exact h.2.1)
  refine q_iald C0 V hT1 (q_ix (x := a20.toInt) rfl (by first | with_reducible exact q_fe ob22 | (have t1 : 0 ≤ a20.toInt := ob22; omega)) (by have t1 : 0 ≤ a20.toInt := ob22; have t2 : a20.toInt ≤ 9999 := ob23; have e9 : (((10000 : Int32).toNatClampNeg : Nat) : Int) = 10000 := (by decide); omega)) d_15_5_9 ?_
  obtain ⟨a24, e25⟩ := q_nm (t1_0 a20.toNatClampNeg : Int32)
  refine q_ti (v := a24) e25 ?_
  refine lv_if_ne (tgt := 17) hx hb d_15_5_10 (by decide) (fun c26 => ?_) (fun c26 => ?_)
  ·
    refine lv_iconst (v := 0) hx hb d_15_5_17 (by decide) ?_
    exact q_retz C0 V (by decide) (⟨rfl, (show 0 ≤ (0 : Int32).toInt from (by have z13 : (0 : Int32).toInt = 0 := rfl; omega)), (show (0 : Int32).toInt ≤ 1 from (by have z13 : (0 : Int32).toInt = 0 := rfl; omega)), (show (0 : Int32) = (F_DR_isZero x2 t0_0 t0_1 t0_2 t0_3 t0_4 t0_5 t0_6 t0_7 t0_8 t0_9 t0_10 t1_0) from (by have c26x := c26; rw [← e25, ← e21] at c26x; rw [F_DR_isZero.eq_1, if_neg c26x]))⟩) d_15_5_18
  ·
    refine lv_iconst (v := 1) hx hb d_15_5_13 (by decide) ?_
    refine lv_goto (tgt := 18) hx hb d_15_5_14 (by decide) ?_
    exact q_retz C0 V (by decide) (⟨rfl, (show 0 ≤ (1 : Int32).toInt from (by have z13 : (1 : Int32).toInt = 1 := rfl; omega)), (show (1 : Int32).toInt ≤ 1 from (by have z13 : (1 : Int32).toInt = 1 := rfl; omega)), (show (1 : Int32) = (F_DR_isZero x2 t0_0 t0_1 t0_2 t0_3 t0_4 t0_5 t0_6 t0_7 t0_8 t0_9 t0_10 t1_0) from (by have c26x := c26; rw [← e25, ← e21] at c26x; rw [F_DR_isZero.eq_1, if_pos c26x]))⟩) d_15_5_18
theorem d_15_48_0 : decode prog_15_method_48_code 0 = .ok (.aload_n 0, 1) := by decide +kernel
theorem d_15_48_1 : decode prog_15_method_48_code 1 = .ok (.iload_n 1, 1) := by decide +kernel
theorem d_15_48_2 : decode prog_15_method_48_code 2 = .ok (.invokestatic 113, 3) := by decide +kernel
theorem d_15_48_33 : decode prog_15_method_48_code 33 = .ok (.putfield 41, 3) := by decide +kernel
theorem d_15_48_36 : decode prog_15_method_48_code 36 = .ok (.aload_n 0, 1) := by decide +kernel
theorem d_15_48_37 : decode prog_15_method_48_code 37 = .ok (.getfield 41, 3) := by decide +kernel
theorem d_15_48_40 : decode prog_15_method_48_code 40 = .ok (.ifCond .le 5, 3) := by decide +kernel
theorem d_15_48_45 : decode prog_15_method_48_code 45 = .ok (.iload_n 2, 1) := by decide +kernel
theorem d_15_48_46 : decode prog_15_method_48_code 46 = .ok (.ifCond .ne 32, 3) := by decide +kernel
theorem d_15_48_78 : decode prog_15_method_48_code 78 = .ok (.iload_n 2, 1) := by decide +kernel
theorem d_15_48_79 : decode prog_15_method_48_code 79 = .ok (.iconst 1, 1) := by decide +kernel
theorem d_15_48_80 : decode prog_15_method_48_code 80 = .ok (.if_icmp .ne 12, 3) := by decide +kernel
theorem d_15_48_92 : decode prog_15_method_48_code 92 = .ok (.iload_n 2, 1) := by decide +kernel
theorem d_15_48_93 : decode prog_15_method_48_code 93 = .ok (.iconst 2, 1) := by decide +kernel
theorem d_15_48_94 : decode prog_15_method_48_code 94 = .ok (.if_icmp .ne 12, 3) := by decide +kernel
theorem d_15_48_106 : decode prog_15_method_48_code 106 = .ok (.aload_n 0, 1) := by decide +kernel
theorem d_15_48_107 : decode prog_15_method_48_code 107 = .ok (.getfield 13, 3) := by decide +kernel
theorem d_15_48_110 : decode prog_15_method_48_code 110 = .ok (.sipush 1000, 3) := by decide +kernel
theorem d_15_48_113 : decode prog_15_method_48_code 113 = .ok (.iload_n 1, 1) := by decide +kernel
theorem d_15_48_114 : decode prog_15_method_48_code 114 = .ok (.imul, 1) := by decide +kernel
theorem d_15_48_115 : decode prog_15_method_48_code 115 = .ok (.iload_n 2, 1) := by decide +kernel
theorem d_15_48_116 : decode prog_15_method_48_code 116 = .ok (.iadd, 1) := by decide +kernel
theorem d_15_48_117 : decode prog_15_method_48_code 117 = .ok (.iconst 3, 1) := by decide +kernel
theorem d_15_48_118 : decode prog_15_method_48_code 118 = .ok (.isub, 1) := by decide +kernel
theorem d_15_48_119 : decode prog_15_method_48_code 119 = .ok (.iaload, 1) := by decide +kernel
theorem d_15_48_120 : decode prog_15_method_48_code 120 = .ok (.ireturn, 1) := by decide +kernel
theorem d_15_48_97 : decode prog_15_method_48_code 97 = .ok (.aload_n 0, 1) := by decide +kernel
theorem d_15_48_98 : decode prog_15_method_48_code 98 = .ok (.getfield 16, 3) := by decide +kernel
theorem d_15_48_101 : decode prog_15_method_48_code 101 = .ok (.iload_n 1, 1) := by decide +kernel
theorem d_15_48_102 : decode prog_15_method_48_code 102 = .ok (.iaload, 1) := by decide +kernel
theorem d_15_48_103 : decode prog_15_method_48_code 103 = .ok (.goto 17, 3) := by decide +kernel
theorem d_15_48_83 : decode prog_15_method_48_code 83 = .ok (.aload_n 0, 1) := by decide +kernel
theorem d_15_48_84 : decode prog_15_method_48_code 84 = .ok (.getfield 23, 3) := by decide +kernel
theorem d_15_48_87 : decode prog_15_method_48_code 87 = .ok (.iload_n 1, 1) := by decide +kernel
theorem d_15_48_88 : decode prog_15_method_48_code 88 = .ok (.iaload, 1) := by decide +kernel
theorem d_15_48_89 : decode prog_15_method_48_code 89 = .ok (.goto 31, 3) := by decide +kernel
theorem d_15_48_49 : decode prog_15_method_48_code 49 = .ok (.aload_n 0, 1) := by decide +kernel
theorem d_15_48_50 : decode prog_15_method_48_code 50 = .ok (.iload_n 1, 1) := by decide +kernel
theorem d_15_48_51 : decode prog_15_method_48_code 51 = .ok (.invokevirtual 120, 3) := by decide +kernel
set_option maxRecDepth 100000 in
theorem w_2572 : (Cond.code ({ cls := "NumberHouseModel$DecimalRows", name := "isZero", desc := "(I)Z" } : MethodName) prog_15_method_5_code (2 : Nat) (some .boolean)) ∈ q_tbl := q_of11 172 rfl (by decide +kernel)
set_option maxRecDepth 100000 in
theorem w_2569 : (Cond.methodLink "NumberHouseModel$DecimalRows" (120 : Nat) ({ cls := "NumberHouseModel$DecimalRows", name := "isZero", desc := "(I)Z" } : MethodName)) ∈ q_tbl := q_of11 169 rfl (by decide +kernel)
set_option maxRecDepth 100000 in
theorem w_2571 : (Cond.instanceMethod ({ cls := "NumberHouseModel$DecimalRows", name := "isZero", desc := "(I)Z" } : MethodName)) ∈ q_tbl := q_of11 171 rfl (by decide +kernel)
theorem ws_87 : Cond.selects "NumberHouseModel$DecimalRows" (⟨"NumberHouseModel$DecimalRows", "isZero", "(I)Z"⟩ : MethodName) (⟨"NumberHouseModel$DecimalRows", "isZero", "(I)Z"⟩ : MethodName) ∈ q_tbl := q_ofs 87 (by decide +kernel) (by decide +kernel)
theorem LV_DR_120 : q_LV "NumberHouseModel$DecimalRows" 120 y_DR_isZero prog_15_method_5_code 2 (some .boolean) 1 := ⟨w_2572, w_16, w_2569, w_2571, ws_87, ⟨by decide, by decide, by decide +kernel⟩⟩
theorem d_15_48_54 : decode prog_15_method_48_code 54 = .ok (.ifCond .eq 7, 3) := by decide +kernel
theorem d_15_48_61 : decode prog_15_method_48_code 61 = .ok (.aload_n 0, 1) := by decide +kernel
theorem d_15_48_62 : decode prog_15_method_48_code 62 = .ok (.getfield 19, 3) := by decide +kernel
theorem d_15_48_65 : decode prog_15_method_48_code 65 = .ok (.iload_n 1, 1) := by decide +kernel
theorem d_15_48_66 : decode prog_15_method_48_code 66 = .ok (.baload, 1) := by decide +kernel
theorem d_15_48_67 : decode prog_15_method_48_code 67 = .ok (.ifCond .eq 7, 3) := by decide +kernel
theorem d_15_48_74 : decode prog_15_method_48_code 74 = .ok (.iconst 1, 1) := by decide +kernel
theorem d_15_48_75 : decode prog_15_method_48_code 75 = .ok (.goto 45, 3) := by decide +kernel
theorem d_15_48_70 : decode prog_15_method_48_code 70 = .ok (.iconst (-1), 1) := by decide +kernel
theorem d_15_48_71 : decode prog_15_method_48_code 71 = .ok (.goto 49, 3) := by decide +kernel
theorem d_15_48_57 : decode prog_15_method_48_code 57 = .ok (.iconst 0, 1) := by decide +kernel
theorem d_15_48_58 : decode prog_15_method_48_code 58 = .ok (.goto 62, 3) := by decide +kernel
theorem d_15_48_43 : decode prog_15_method_48_code 43 = .ok (.iconst 0, 1) := by decide +kernel
theorem d_15_48_44 : decode prog_15_method_48_code 44 = .ok (.ireturn, 1) := by decide +kernel
theorem d_15_48_5 : decode prog_15_method_48_code 5 = .ok (.ifCond .eq 7, 3) := by decide +kernel
theorem d_15_48_12 : decode prog_15_method_48_code 12 = .ok (.iload_n 2, 1) := by decide +kernel
theorem d_15_48_28 : decode prog_15_method_48_code 28 = .ok (.iconst 2, 1) := by decide +kernel
theorem d_15_48_29 : decode prog_15_method_48_code 29 = .ok (.goto 4, 3) := by decide +kernel
theorem d_15_48_13 : decode prog_15_method_48_code 13 = .ok (.ifCond .lt 15, 3) := by decide +kernel
theorem d_15_48_16 : decode prog_15_method_48_code 16 = .ok (.iload_n 2, 1) := by decide +kernel
theorem d_15_48_17 : decode prog_15_method_48_code 17 = .ok (.iconst 3, 1) := by decide +kernel
theorem d_15_48_18 : decode prog_15_method_48_code 18 = .ok (.isub, 1) := by decide +kernel
theorem d_15_48_19 : decode prog_15_method_48_code 19 = .ok (.aload_n 0, 1) := by decide +kernel
theorem d_15_48_20 : decode prog_15_method_48_code 20 = .ok (.getfield 16, 3) := by decide +kernel
theorem d_15_48_23 : decode prog_15_method_48_code 23 = .ok (.iload_n 1, 1) := by decide +kernel
theorem d_15_48_24 : decode prog_15_method_48_code 24 = .ok (.iaload, 1) := by decide +kernel
theorem d_15_48_25 : decode prog_15_method_48_code 25 = .ok (.if_icmp .lt 7, 3) := by decide +kernel
theorem d_15_48_32 : decode prog_15_method_48_code 32 = .ok (.iconst 0, 1) := by decide +kernel
theorem d_15_48_8 : decode prog_15_method_48_code 8 = .ok (.iconst 1, 1) := by decide +kernel
theorem d_15_48_9 : decode prog_15_method_48_code 9 = .ok (.goto 24, 3) := by decide +kernel
def y_DR_told : MethodName := ⟨"NumberHouseModel$DecimalRows", "told", "(II)I"⟩
def F_DR_told_J33 (x2 : Int32) (x3 : Int32) (t0_0 : Int32) (t0_1 : Int32) (t0_2 : Int32) (t0_3 : Int64) (t0_4 : Int32) (t0_5 : Int32) (t0_6 : Int32) (t0_7 : Int32) (t0_8 : Int32) (t0_9 : Int32) (t0_10 : Int32) (t1_0 : (Nat → Int32)) (t2_0 : (Nat → Int32)) (t3_0 : (Nat → Int32)) (t4_0 : (Nat → Int32)) (lx36 : Int32) : Int32 × Int32 × Int32 × Int32 × Int64 × Int32 × Int32 × Int32 × Int32 × Int32 × Int32 × Int32 := if lx36 ≤ (0 : Int32) then (if x3 = (0 : Int32) then (if ((F_DR_isZero x2 lx36 t0_1 t0_2 t0_3 t0_4 t0_5 t0_6 t0_7 t0_8 t0_9 t0_10 t1_0) : Int32) = (0 : Int32) then (if (t3_0 x2.toNatClampNeg : Int32) = (0 : Int32) then (((1 : Int32), lx36, t0_1, t0_2, t0_3, t0_4, t0_5, t0_6, t0_7, t0_8, t0_9, t0_10)) else (((-1 : Int32), lx36, t0_1, t0_2, t0_3, t0_4, t0_5, t0_6, t0_7, t0_8, t0_9, t0_10))) else (((0 : Int32), lx36, t0_1, t0_2, t0_3, t0_4, t0_5, t0_6, t0_7, t0_8, t0_9, t0_10))) else (if x3 = (1 : Int32) then (((t4_0 x2.toNatClampNeg : Int32), lx36, t0_1, t0_2, t0_3, t0_4, t0_5, t0_6, t0_7, t0_8, t0_9, t0_10)) else (if x3 = (2 : Int32) then (((t2_0 x2.toNatClampNeg : Int32), lx36, t0_1, t0_2, t0_3, t0_4, t0_5, t0_6, t0_7, t0_8, t0_9, t0_10)) else (((t1_0 (((1000 * x2 : Int32) + x3 : Int32) - 3 : Int32).toNatClampNeg : Int32), lx36, t0_1, t0_2, t0_3, t0_4, t0_5, t0_6, t0_7, t0_8, t0_9, t0_10))))) else (((0 : Int32), lx36, t0_1, t0_2, t0_3, t0_4, t0_5, t0_6, t0_7, t0_8, t0_9, t0_10))
def F_DR_told_J28 (x2 : Int32) (x3 : Int32) (t0_0 : Int32) (t0_1 : Int32) (t0_2 : Int32) (t0_3 : Int64) (t0_4 : Int32) (t0_5 : Int32) (t0_6 : Int32) (t0_7 : Int32) (t0_8 : Int32) (t0_9 : Int32) (t0_10 : Int32) (t1_0 : (Nat → Int32)) (t2_0 : (Nat → Int32)) (t3_0 : (Nat → Int32)) (t4_0 : (Nat → Int32)) : Int32 × Int32 × Int32 × Int32 × Int64 × Int32 × Int32 × Int32 × Int32 × Int32 × Int32 × Int32 := F_DR_told_J33 x2 x3 t0_0 t0_1 t0_2 t0_3 t0_4 t0_5 t0_6 t0_7 t0_8 t0_9 t0_10 t1_0 t2_0 t3_0 t4_0 2
def F_DR_told (x2 : Int32) (x3 : Int32) (t0_0 : Int32) (t0_1 : Int32) (t0_2 : Int32) (t0_3 : Int64) (t0_4 : Int32) (t0_5 : Int32) (t0_6 : Int32) (t0_7 : Int32) (t0_8 : Int32) (t0_9 : Int32) (t0_10 : Int32) (t1_0 : (Nat → Int32)) (t2_0 : (Nat → Int32)) (t3_0 : (Nat → Int32)) (t4_0 : (Nat → Int32)) : Int32 × Int32 × Int32 × Int32 × Int64 × Int32 × Int32 × Int32 × Int32 × Int32 × Int32 × Int32 := if ((F_DR_no x2) : Int32) = (0 : Int32) then (if x3 < (0 : Int32) then (F_DR_told_J28 x2 x3 t0_0 t0_1 t0_2 t0_3 t0_4 t0_5 t0_6 t0_7 t0_8 t0_9 t0_10 t1_0 t2_0 t3_0 t4_0) else (if (x3 - 3 : Int32) < (t2_0 x2.toNatClampNeg : Int32) then (F_DR_told_J33 x2 x3 t0_0 t0_1 t0_2 t0_3 t0_4 t0_5 t0_6 t0_7 t0_8 t0_9 t0_10 t1_0 t2_0 t3_0 t4_0 0) else (F_DR_told_J28 x2 x3 t0_0 t0_1 t0_2 t0_3 t0_4 t0_5 t0_6 t0_7 t0_8 t0_9 t0_10 t1_0 t2_0 t3_0 t4_0))) else (F_DR_told_J33 x2 x3 t0_0 t0_1 t0_2 t0_3 t0_4 t0_5 t0_6 t0_7 t0_8 t0_9 t0_10 t1_0 t2_0 t3_0 t4_0 1)
def S_DR_told_J33 (x2 : Int32) (x3 : Int32) (t0_0 : Int32) (t0_1 : Int32) (t0_2 : Int32) (t0_3 : Int64) (t0_4 : Int32) (t0_5 : Int32) (t0_6 : Int32) (t0_7 : Int32) (t0_8 : Int32) (t0_9 : Int32) (t0_10 : Int32) (t1_0 : (Nat → Int32)) (t2_0 : (Nat → Int32)) (t3_0 : (Nat → Int32)) (t4_0 : (Nat → Int32)) (lx36 : Int32) : Prop := if lx36 ≤ (0 : Int32) then (if x3 = (0 : Int32) then ((True ∧ S_DR_isZero x2 lx36 t0_1 t0_2 t0_3 t0_4 t0_5 t0_6 t0_7 t0_8 t0_9 t0_10 t1_0) ∧ (if ((F_DR_isZero x2 lx36 t0_1 t0_2 t0_3 t0_4 t0_5 t0_6 t0_7 t0_8 t0_9 t0_10 t1_0) : Int32) = (0 : Int32) then ((0 ≤ x2.toInt) ∧ ((x2.toInt ≤ 9) ∧ (if (t3_0 x2.toNatClampNeg : Int32) = (0 : Int32) then (True) else (True)))) else (True))) else (if x3 = (1 : Int32) then ((0 ≤ x2.toInt) ∧ ((x2.toInt ≤ 9) ∧ (True))) else (if x3 = (2 : Int32) then ((0 ≤ x2.toInt) ∧ ((x2.toInt ≤ 9) ∧ (True))) else ((0 ≤ (((1000 * x2 : Int32) + x3 : Int32) - 3 : Int32).toInt) ∧ (((((1000 * x2 : Int32) + x3 : Int32) - 3 : Int32).toInt ≤ 9999) ∧ (True)))))) else (True)
def S_DR_told_J28 (x2 : Int32) (x3 : Int32) (t0_0 : Int32) (t0_1 : Int32) (t0_2 : Int32) (t0_3 : Int64) (t0_4 : Int32) (t0_5 : Int32) (t0_6 : Int32) (t0_7 : Int32) (t0_8 : Int32) (t0_9 : Int32) (t0_10 : Int32) (t1_0 : (Nat → Int32)) (t2_0 : (Nat → Int32)) (t3_0 : (Nat → Int32)) (t4_0 : (Nat → Int32)) : Prop := S_DR_told_J33 x2 x3 t0_0 t0_1 t0_2 t0_3 t0_4 t0_5 t0_6 t0_7 t0_8 t0_9 t0_10 t1_0 t2_0 t3_0 t4_0 2
def S_DR_told (x2 : Int32) (x3 : Int32) (t0_0 : Int32) (t0_1 : Int32) (t0_2 : Int32) (t0_3 : Int64) (t0_4 : Int32) (t0_5 : Int32) (t0_6 : Int32) (t0_7 : Int32) (t0_8 : Int32) (t0_9 : Int32) (t0_10 : Int32) (t1_0 : (Nat → Int32)) (t2_0 : (Nat → Int32)) (t3_0 : (Nat → Int32)) (t4_0 : (Nat → Int32)) : Prop := if ((F_DR_no x2) : Int32) = (0 : Int32) then (if x3 < (0 : Int32) then (S_DR_told_J28 x2 x3 t0_0 t0_1 t0_2 t0_3 t0_4 t0_5 t0_6 t0_7 t0_8 t0_9 t0_10 t1_0 t2_0 t3_0 t4_0) else ((0 ≤ x2.toInt) ∧ ((x2.toInt ≤ 9) ∧ (if (x3 - 3 : Int32) < (t2_0 x2.toNatClampNeg : Int32) then (S_DR_told_J33 x2 x3 t0_0 t0_1 t0_2 t0_3 t0_4 t0_5 t0_6 t0_7 t0_8 t0_9 t0_10 t1_0 t2_0 t3_0 t4_0 0) else (S_DR_told_J28 x2 x3 t0_0 t0_1 t0_2 t0_3 t0_4 t0_5 t0_6 t0_7 t0_8 t0_9 t0_10 t1_0 t2_0 t3_0 t4_0))))) else (S_DR_told_J33 x2 x3 t0_0 t0_1 t0_2 t0_3 t0_4 t0_5 t0_6 t0_7 t0_8 t0_9 t0_10 t1_0 t2_0 t3_0 t4_0 1)
set_option maxRecDepth 100000 in
set_option maxHeartbeats 4000000 in
theorem X_DR_told (l : Launch) (D : va_G) (g : Nat → ClassId) (q : Nat → Nat) (ws : va_W) (x2 : Int32) (x3 : Int32) (hI : q_I (msh g q) q ws) (t0_0 : Int32) (t0_1 : Int32) (t0_2 : Int32) (t0_3 : Int64) (t0_4 : Int32) (t0_5 : Int32) (t0_6 : Int32) (t0_7 : Int32) (t0_8 : Int32) (t0_9 : Int32) (t0_10 : Int32) (hT0 : ws[134]? = (some (q 134, .inr (14, [.int t0_0, .ref (q 135), .int t0_1, .ref (q 136), .ref (q 137), .ref (q 138), .ref (q 139), .ref (q 140), .int t0_2, .long t0_3, .int t0_4, .int t0_5, .ref (q 141), .int t0_6, .ref (q 142), .int t0_7, .ref (q 143), .int t0_8, .ref (q 144), .int t0_9, .int t0_10])) : Option (Nat × va_E))) (t1_0 : (Nat → Int32)) (hT1 : ws[136]? = (some (q 136, .inl (g 0, (10000 : Int32).toNatClampNeg, .inl t1_0)) : Option (Nat × va_E))) (t2_0 : (Nat → Int32)) (hT2 : ws[137]? = (some (q 137, .inl (g 0, (10 : Int32).toNatClampNeg, .inl t2_0)) : Option (Nat × va_E))) (t3_0 : (Nat → Int32)) (hT3 : ws[138]? = (some (q 138, .inl (g 3, 10, .inl t3_0)) : Option (Nat × va_E))) (t4_0 : (Nat → Int32)) (hT4 : ws[139]? = (some (q 139, .inl (g 0, (10 : Int32).toNatClampNeg, .inl t4_0)) : Option (Nat × va_E))) (hS : True ∧ S_DR_told x2 x3 t0_0 t0_1 t0_2 t0_3 t0_4 t0_5 t0_6 t0_7 t0_8 t0_9 t0_10 t1_0 t2_0 t3_0 t4_0) : q_mI l y_DR_told prog_15_method_48_code 3 (.int) 2 0 0 D g [.ref (q 134), .int x2, .int x3] ws (fun r u => q_I (msh g q) q u ∧ q_un ws u [134] ∧ ∃ (u0_0 : Int32) (u0_1 : Int32) (u0_2 : Int32) (u0_3 : Int64) (u0_4 : Int32) (u0_5 : Int32) (u0_6 : Int32) (u0_7 : Int32) (u0_8 : Int32) (u0_9 : Int32) (u0_10 : Int32), u[134]? = (some (q 134, .inr (14, [.int u0_0, .ref (q 135), .int u0_1, .ref (q 136), .ref (q 137), .ref (q 138), .ref (q 139), .ref (q 140), .int u0_2, .long u0_3, .int u0_4, .int u0_5, .ref (q 141), .int u0_6, .ref (q 142), .int u0_7, .ref (q 143), .int u0_8, .ref (q 144), .int u0_9, .int u0_10])) : Option (Nat × va_E)) ∧ (0 ≤ u0_0.toInt) ∧ (u0_0.toInt ≤ 2) ∧ (t0_1.toInt ≤ u0_1.toInt) ∧ (u0_1.toInt ≤ t0_1.toInt) ∧ (t0_2.toInt ≤ u0_2.toInt) ∧ (u0_2.toInt ≤ t0_2.toInt) ∧ (t0_3.toInt ≤ u0_3.toInt) ∧ (u0_3.toInt ≤ t0_3.toInt) ∧ (t0_4.toInt ≤ u0_4.toInt) ∧ (u0_4.toInt ≤ t0_4.toInt) ∧ (t0_5.toInt ≤ u0_5.toInt) ∧ (u0_5.toInt ≤ t0_5.toInt) ∧ (t0_6.toInt ≤ u0_6.toInt) ∧ (u0_6.toInt ≤ t0_6.toInt) ∧ (t0_7.toInt ≤ u0_7.toInt) ∧ (u0_7.toInt ≤ t0_7.toInt) ∧ (t0_8.toInt ≤ u0_8.toInt) ∧ (u0_8.toInt ≤ t0_8.toInt) ∧ (t0_9.toInt ≤ u0_9.toInt) ∧ (u0_9.toInt ≤ t0_9.toInt) ∧ (t0_10.toInt ≤ u0_10.toInt) ∧ (u0_10.toInt ≤ t0_10.toInt) ∧ (r, u0_0, u0_1, u0_2, u0_3, u0_4, u0_5, u0_6, u0_7, u0_8, u0_9, u0_10) = (F_DR_told x2 x3 t0_0 t0_1 t0_2 t0_3 t0_4 t0_5 t0_6 t0_7 t0_8 t0_9 t0_10 t1_0 t2_0 t3_0 t4_0)) := by
  intro sz
  refine q_into (by decide) (Nat.le_of_ble_eq_true rfl) ?_
  intro p e s m below meth c ls hsz C0 V hl
  have hx := C0.1
  have hb := C0.2.1
  obtain ⟨btt0_1, hZ9⟩ := n_w134 hI hT0
  obtain ⟨btt0_4, hZ9⟩ := hZ9
  obtain ⟨btt0_5, btt0_9⟩ := hZ9
  replace btt0_1 : q_F (0 ≤ t0_1.toInt ∧ t0_1.toInt ≤ 4100) := btt0_1
  replace btt0_4 : q_F (0 ≤ t0_4.toInt ∧ t0_4.toInt ≤ 1) := btt0_4
  replace btt0_5 : q_F (0 ≤ t0_5.toInt ∧ t0_5.toInt ≤ 1) := btt0_5
  replace btt0_9 : q_F (0 ≤ t0_9.toInt ∧ t0_9.toInt ≤ 12200) := btt0_9
  have hF : q_un ws ws [134] := q_u0
  have hl : lv_has ls 3 [(0, .ref (q 134)), (1, .int x2), (2, .int x3)] := hl
  refine lv_aload_n hx hb d_15_48_0 rfl (lv_at hl 0 rfl) ?_
  refine lv_iload_n hx hb d_15_48_1 rfl (lv_at hl 1 rfl) ?_
  refine q_goi V (q_runS (As := [.int x2]) (rest := [.ref (q 134)]) (d := 1) (mc := 0) (ms := 0) C0 V rfl LS_DR_113 (X_DR_no l D g q ws  x2 hI   _) rfl hl.1 rfl (Nat.le_of_ble_eq_true rfl) ⟨by decide, by decide⟩ ⟨Nat.le_of_ble_eq_true rfl, Nat.le_of_ble_eq_true rfl⟩ d_15_48_2) (fun a31 u29 H locs hp30 V => ?_)
  obtain ⟨rfl, b32, b33, hE34⟩ := hp30
  have e35 : a31 = (F_DR_no x2) := hE34
  clear b32
  clear b33
  refine q_join (X := Int32) (fun z H locs ls _ => q_F (0 ≤ z.toInt) ∧ q_F (z.toInt ≤ 2) ∧ q_Wd D g (va_A ws sz) s ws H locs ∧ lv_has ls 3 [(0, .ref (q 134)), (1, .int x2), (2, .int x3)] ∧ F_DR_told_J33 x2 x3 t0_0 t0_1 t0_2 t0_3 t0_4 t0_5 t0_6 t0_7 t0_8 t0_9 t0_10 t1_0 t2_0 t3_0 t4_0 z = (F_DR_told x2 x3 t0_0 t0_1 t0_2 t0_3 t0_4 t0_5 t0_6 t0_7 t0_8 t0_9 t0_10 t1_0 t2_0 t3_0 t4_0) ∧ True ∧ S_DR_told_J33 x2 x3 t0_0 t0_1 t0_2 t0_3 t0_4 t0_5 t0_6 t0_7 t0_8 t0_9 t0_10 t1_0 t2_0 t3_0 t4_0 z) (fun z => [.int z, .ref (q 134)]) 33 0 0 ?_ ?_
  ·
    rintro lx36 H locs ls _ hZ9
    obtain ⟨i43, hZ9⟩ := hZ9
    obtain ⟨i44, hZ9⟩ := hZ9
    obtain ⟨V, hZ9⟩ := hZ9
    obtain ⟨hl, hZ9⟩ := hZ9
    obtain ⟨hR45, hS46⟩ := hZ9
    replace i43 : q_F (0 ≤ lx36.toInt) := i43
    replace i44 : q_F (lx36.toInt ≤ 2) := i44
    replace hl : lv_has ls 3 [(0, .ref (q 134)), (1, .int x2), (2, .int x3)] := hl
    refine q_put (ci := 14) (j := 0) (v := .int lx36) (ty := .int) C0 V i_DR o_DR n_DR rfl rfl hT0 (by decide) w_1996 rfl rfl rfl rfl (Nat.le_of_ble_eq_true rfl) d_15_48_33 (fun H locs w50 hu51 hT0 V => ?_)
    replace hT0 : w50[134]? = (some (q 134, .inr (14, [.int lx36, .ref (q 135), .int t0_1, .ref (q 136), .ref (q 137), .ref (q 138), .ref (q 139), .ref (q 140), .int t0_2, .long t0_3, .int t0_4, .int t0_5, .ref (q 141), .int t0_6, .ref (q 142), .int t0_7, .ref (q 143), .int t0_8, .ref (q 144), .int t0_9, .int t0_10])) : Option (Nat × va_E)) := hT0
    replace hI := n_p134 hI hu51 hT0 (by first | with_reducible exact q_fe btt0_1 | exact ⟨(by have t1 : 0 ≤ t0_1.toInt ∧ t0_1.toInt ≤ 4100 := btt0_1; omega), (by have t1 : 0 ≤ t0_1.toInt ∧ t0_1.toInt ≤ 4100 := btt0_1; omega)⟩) (by first | with_reducible exact q_fe btt0_4 | exact ⟨(by have t1 : 0 ≤ t0_4.toInt ∧ t0_4.toInt ≤ 1 := btt0_4; omega), (by have t1 : 0 ≤ t0_4.toInt ∧ t0_4.toInt ≤ 1 := btt0_4; omega)⟩) (by first | with_reducible exact q_fe btt0_5 | exact ⟨(by have t1 : 0 ≤ t0_5.toInt ∧ t0_5.toInt ≤ 1 := btt0_5; omega), (by have t1 : 0 ≤ t0_5.toInt ∧ t0_5.toInt ≤ 1 := btt0_5; omega)⟩) (by first | with_reducible exact q_fe btt0_9 | exact ⟨(by have t1 : 0 ≤ t0_9.toInt ∧ t0_9.toInt ≤ 12200 := btt0_9; omega), (by have t1 : 0 ≤ t0_9.toInt ∧ t0_9.toInt ≤ 12200 := btt0_9; omega)⟩)
    replace hT1 := (hu51 _ (by decide)).trans hT1
    replace hT2 := (hu51 _ (by decide)).trans hT2
    replace hT3 := (hu51 _ (by decide)).trans hT3
    replace hT4 := (hu51 _ (by decide)).trans hT4
    replace hF := q_us hF hu51 (by simp)
    refine lv_aload_n hx hb d_15_48_36 rfl (lv_at hl 0 rfl) ?_
    refine q_get (ci := 14) (j := 0) (v := .int lx36) C0 V i_DR rfl rfl hT0 (by decide) w_1996 rfl d_15_48_37 ?_
    refine lv_if_le (tgt := 45) hx hb d_15_48_40 (by decide) (fun c52 => ?_) (fun c52 => ?_)
    ·
      refine lv_iload_n hx hb d_15_48_45 rfl (lv_at hl 2 rfl) ?_
      refine lv_if_ne (tgt := 78) hx hb d_15_48_46 (by decide) (fun c54 => ?_) (fun c54 => ?_)
      ·
        refine lv_iload_n hx hb d_15_48_78 rfl (lv_at hl 2 rfl) ?_
        refine lv_iconst (v := 1) hx hb d_15_48_79 (by decide) ?_
        refine lv_icmp_ne (tgt := 92) hx hb d_15_48_80 (by decide) (fun c56 => ?_) (fun c56 => ?_)
        ·
          refine lv_iload_n hx hb d_15_48_92 rfl (lv_at hl 2 rfl) ?_
          refine lv_iconst (v := 2) hx hb d_15_48_93 (by decide) ?_
          refine lv_icmp_ne (tgt := 106) hx hb d_15_48_94 (by decide) (fun c58 => ?_) (fun c58 => ?_)
          ·
            refine lv_aload_n hx hb d_15_48_106 rfl (lv_at hl 0 rfl) ?_
            refine q_get (ci := 14) (j := 3) (v := .ref (q 136)) C0 V i_DR rfl rfl hT0 (by decide) w_2002 rfl d_15_48_107 ?_
            refine lv_sipush (v := 1000) hx hb d_15_48_110 (by decide) ?_
            refine lv_iload_n hx hb d_15_48_113 rfl (lv_at hl 1 rfl) ?_
            refine lv_imul hx hb d_15_48_114 ?_
            obtain ⟨a60, e61⟩ := q_nm (1000 * x2 : Int32)
            refine q_ti (v := a60) e61 ?_
            refine lv_iload_n hx hb d_15_48_115 rfl (lv_at hl 2 rfl) ?_
            refine lv_iadd hx hb d_15_48_116 ?_
            obtain ⟨a62, e63⟩ := q_nm (a60 + x3 : Int32)
            refine q_ti (v := a62) e63 ?_
            refine lv_iconst (v := 3) hx hb d_15_48_117 (by decide) ?_
            refine lv_isub hx hb d_15_48_118 ?_
            obtain ⟨a64, e65⟩ := q_nm (a62 - 3 : Int32)
            refine q_ti (v := a64) e65 ?_
            have ob66 : q_F (0 ≤ a64.toInt) := (by rw [← e65, ← e63, ← e61]; have h := hS46; rw [S_DR_told_J33.eq_1] at h; rw [if_pos c52] at h; rw [if_neg c54] at h; rw [if_neg c56] at h; rw [if_neg c58] at h; exact h.2.1)
            have ob67 : q_F (a64.toInt ≤ 9999) := (by rw [← e65, ← e63, ← e61]; have h := hS46; rw [S_DR_told_J33.eq_1] at h; rw [if_pos c52] at h; rw [if_neg c54] at h; rw [if_neg c56] at h; rw [if_neg c58] at h; replace h := q_s2 h; exact h.2.1)
            refine q_iald C0 V hT1 (q_ix (x := a64.toInt) rfl (by first | with_reducible exact q_fe ob66 | (have t1 : 0 ≤ a64.toInt := ob66; omega)) (by have t1 : 0 ≤ a64.toInt := ob66; have t2 : a64.toInt ≤ 9999 := ob67; have e9 : (((10000 : Int32).toNatClampNeg : Nat) : Int) = 10000 := (by decide); omega)) d_15_48_119 ?_
            obtain ⟨a68, e69⟩ := q_nm (t1_0 a64.toNatClampNeg : Int32)
            refine q_ti (v := a68) e69 ?_
            exact q_reti C0 V (⟨hI, hF, lx36, t0_1, t0_2, t0_3, t0_4, t0_5, t0_6, t0_7, t0_8, t0_9, t0_10, hT0, (show 0 ≤ lx36.toInt from (by first | with_reducible exact q_fe i43 | (have t1 : 0 ≤ lx36.toInt := i43; omega))), (show lx36.toInt ≤ 2 from (by first | with_reducible exact q_fe i44 | (have t1 : lx36.toInt ≤ 2 := i44; omega))), (show t0_1.toInt ≤ t0_1.toInt from (by omega)), (show t0_1.toInt ≤ t0_1.toInt from (by omega)), (show t0_2.toInt ≤ t0_2.toInt from (by omega)), (show t0_2.toInt ≤ t0_2.toInt from (by omega)), (show t0_3.toInt ≤ t0_3.toInt from (by omega)), (show t0_3.toInt ≤ t0_3.toInt from (by omega)), (show t0_4.toInt ≤ t0_4.toInt from (by omega)), (show t0_4.toInt ≤ t0_4.toInt from (by omega)), (show t0_5.toInt ≤ t0_5.toInt from (by omega)), (show t0_5.toInt ≤ t0_5.toInt from (by omega)), (show t0_6.toInt ≤ t0_6.toInt from (by omega)), (show t0_6.toInt ≤ t0_6.toInt from (by omega)), (show t0_7.toInt ≤ t0_7.toInt from (by omega)), (show t0_7.toInt ≤ t0_7.toInt from (by omega)), (show t0_8.toInt ≤ t0_8.toInt from (by omega)), (show t0_8.toInt ≤ t0_8.toInt from (by omega)), (show t0_9.toInt ≤ t0_9.toInt from (by omega)), (show t0_9.toInt ≤ t0_9.toInt from (by omega)), (show t0_10.toInt ≤ t0_10.toInt from (by omega)), (show t0_10.toInt ≤ t0_10.toInt from (by omega)), (show (a68, lx36, t0_1, t0_2, t0_3, t0_4, t0_5, t0_6, t0_7, t0_8, t0_9, t0_10) = (F_DR_told x2 x3 t0_0 t0_1 t0_2 t0_3 t0_4 t0_5 t0_6 t0_7 t0_8 t0_9 t0_10 t1_0 t2_0 t3_0 t4_0) from Eq.trans (by rw [← e69, ← e65, ← e63, ← e61, F_DR_told_J33.eq_1, if_pos c52, if_neg c54, if_neg c56, if_neg c58]) hR45)⟩) d_15_48_120
          ·
            refine lv_aload_n hx hb d_15_48_97 rfl (lv_at hl 0 rfl) ?_
            refine q_get (ci := 14) (j := 4) (v := .ref (q 137)) C0 V i_DR rfl rfl hT0 (by decide) w_2004 rfl d_15_48_98 ?_
            refine lv_iload_n hx hb d_15_48_101 rfl (lv_at hl 1 rfl) ?_
            have ob71 : q_F (0 ≤ x2.toInt) := (by have h := hS46; rw [S_DR_told_J33.eq_1] at h; rw [if_pos c52] at h; rw [if_neg c54] at h; rw [if_neg c56] at h; rw [if_pos c58] at h; exact h.2.1)
            have ob72 : q_F (x2.toInt ≤ 9) := (by have h := hS46; rw [S_DR_told_J33.eq_1] at h; rw [if_pos c52] at h; rw [if_neg c54] at h; rw [if_neg c56] at h; rw [if_pos c58] at h; replace h := q_s2 h; exact h.2.1)
            refine q_iald C0 V hT2 (q_ix (x := x2.toInt) rfl (by first | with_reducible exact q_fe ob71 | (have t1 : 0 ≤ x2.toInt := ob71; omega)) (by have t1 : 0 ≤ x2.toInt := ob71; have t2 : x2.toInt ≤ 9 := ob72; have e9 : (((10 : Int32).toNatClampNeg : Nat) : Int) = 10 := (by decide); omega)) d_15_48_102 ?_
            obtain ⟨a73, e74⟩ := q_nm (t2_0 x2.toNatClampNeg : Int32)
            refine q_ti (v := a73) e74 ?_
            refine lv_goto (tgt := 120) hx hb d_15_48_103 (by decide) ?_
            exact q_reti C0 V (⟨hI, hF, lx36, t0_1, t0_2, t0_3, t0_4, t0_5, t0_6, t0_7, t0_8, t0_9, t0_10, hT0, (show 0 ≤ lx36.toInt from (by first | with_reducible exact q_fe i43 | (have t1 : 0 ≤ lx36.toInt := i43; omega))), (show lx36.toInt ≤ 2 from (by first | with_reducible exact q_fe i44 | (have t1 : lx36.toInt ≤ 2 := i44; omega))), (show t0_1.toInt ≤ t0_1.toInt from (by omega)), (show t0_1.toInt ≤ t0_1.toInt from (by omega)), (show t0_2.toInt ≤ t0_2.toInt from (by omega)), (show t0_2.toInt ≤ t0_2.toInt from (by omega)), (show t0_3.toInt ≤ t0_3.toInt from (by omega)), (show t0_3.toInt ≤ t0_3.toInt from (by omega)), (show t0_4.toInt ≤ t0_4.toInt from (by omega)), (show t0_4.toInt ≤ t0_4.toInt from (by omega)), (show t0_5.toInt ≤ t0_5.toInt from (by omega)), (show t0_5.toInt ≤ t0_5.toInt from (by omega)), (show t0_6.toInt ≤ t0_6.toInt from (by omega)), (show t0_6.toInt ≤ t0_6.toInt from (by omega)), (show t0_7.toInt ≤ t0_7.toInt from (by omega)), (show t0_7.toInt ≤ t0_7.toInt from (by omega)), (show t0_8.toInt ≤ t0_8.toInt from (by omega)), (show t0_8.toInt ≤ t0_8.toInt from (by omega)), (show t0_9.toInt ≤ t0_9.toInt from (by omega)), (show t0_9.toInt ≤ t0_9.toInt from (by omega)), (show t0_10.toInt ≤ t0_10.toInt from (by omega)), (show t0_10.toInt ≤ t0_10.toInt from (by omega)), (show (a73, lx36, t0_1, t0_2, t0_3, t0_4, t0_5, t0_6, t0_7, t0_8, t0_9, t0_10) = (F_DR_told x2 x3 t0_0 t0_1 t0_2 t0_3 t0_4 t0_5 t0_6 t0_7 t0_8 t0_9 t0_10 t1_0 t2_0 t3_0 t4_0) from Eq.trans (by rw [← e74, F_DR_told_J33.eq_1, if_pos c52, if_neg c54, if_neg c56, if_pos c58]) hR45)⟩) d_15_48_120
        ·
          refine lv_aload_n hx hb d_15_48_83 rfl (lv_at hl 0 rfl) ?_
          refine q_get (ci := 14) (j := 6) (v := .ref (q 139)) C0 V i_DR rfl rfl hT0 (by decide) w_2008 rfl d_15_48_84 ?_
          refine lv_iload_n hx hb d_15_48_87 rfl (lv_at hl 1 rfl) ?_
          have ob76 : q_F (0 ≤ x2.toInt) := (by have h := hS46; rw [S_DR_told_J33.eq_1] at h; rw [if_pos c52] at h; rw [if_neg c54] at h; rw [if_pos c56] at h; exact h.2.1)
          have ob77 : q_F (x2.toInt ≤ 9) := (by have h := hS46; rw [S_DR_told_J33.eq_1] at h; rw [if_pos c52] at h; rw [if_neg c54] at h; rw [if_pos c56] at h; replace h := q_s2 h; exact h.2.1)
          refine q_iald C0 V hT4 (q_ix (x := x2.toInt) rfl (by first | with_reducible exact q_fe ob76 | (have t1 : 0 ≤ x2.toInt := ob76; omega)) (by have t1 : 0 ≤ x2.toInt := ob76; have t2 : x2.toInt ≤ 9 := ob77; have e9 : (((10 : Int32).toNatClampNeg : Nat) : Int) = 10 := (by decide); omega)) d_15_48_88 ?_
          obtain ⟨a78, e79⟩ := q_nm (t4_0 x2.toNatClampNeg : Int32)
          refine q_ti (v := a78) e79 ?_
          refine lv_goto (tgt := 120) hx hb d_15_48_89 (by decide) ?_
          exact q_reti C0 V (⟨hI, hF, lx36, t0_1, t0_2, t0_3, t0_4, t0_5, t0_6, t0_7, t0_8, t0_9, t0_10, hT0, (show 0 ≤ lx36.toInt from (by first | with_reducible exact q_fe i43 | (have t1 : 0 ≤ lx36.toInt := i43; omega))), (show lx36.toInt ≤ 2 from (by first | with_reducible exact q_fe i44 | (have t1 : lx36.toInt ≤ 2 := i44; omega))), (show t0_1.toInt ≤ t0_1.toInt from (by omega)), (show t0_1.toInt ≤ t0_1.toInt from (by omega)), (show t0_2.toInt ≤ t0_2.toInt from (by omega)), (show t0_2.toInt ≤ t0_2.toInt from (by omega)), (show t0_3.toInt ≤ t0_3.toInt from (by omega)), (show t0_3.toInt ≤ t0_3.toInt from (by omega)), (show t0_4.toInt ≤ t0_4.toInt from (by omega)), (show t0_4.toInt ≤ t0_4.toInt from (by omega)), (show t0_5.toInt ≤ t0_5.toInt from (by omega)), (show t0_5.toInt ≤ t0_5.toInt from (by omega)), (show t0_6.toInt ≤ t0_6.toInt from (by omega)), (show t0_6.toInt ≤ t0_6.toInt from (by omega)), (show t0_7.toInt ≤ t0_7.toInt from (by omega)), (show t0_7.toInt ≤ t0_7.toInt from (by omega)), (show t0_8.toInt ≤ t0_8.toInt from (by omega)), (show t0_8.toInt ≤ t0_8.toInt from (by omega)), (show t0_9.toInt ≤ t0_9.toInt from (by omega)), (show t0_9.toInt ≤ t0_9.toInt from (by omega)), (show t0_10.toInt ≤ t0_10.toInt from (by omega)), (show t0_10.toInt ≤ t0_10.toInt from (by omega)), (show (a78, lx36, t0_1, t0_2, t0_3, t0_4, t0_5, t0_6, t0_7, t0_8, t0_9, t0_10) = (F_DR_told x2 x3 t0_0 t0_1 t0_2 t0_3 t0_4 t0_5 t0_6 t0_7 t0_8 t0_9 t0_10 t1_0 t2_0 t3_0 t4_0) from Eq.trans (by rw [← e79, F_DR_told_J33.eq_1, if_pos c52, if_neg c54, if_pos c56]) hR45)⟩) d_15_48_120
      ·
        refine lv_aload_n hx hb d_15_48_49 rfl (lv_at hl 0 rfl) ?_
        refine lv_iload_n hx hb d_15_48_50 rfl (lv_at hl 1 rfl) ?_
        have ob81 : True ∧ S_DR_isZero x2 lx36 t0_1 t0_2 t0_3 t0_4 t0_5 t0_6 t0_7 t0_8 t0_9 t0_10 t1_0 := (by have h := hS46; rw [S_DR_told_J33.eq_1] at h; rw [if_pos c52] at h; rw [if_pos c54] at h; with_reducible exact h.2.1)
        refine q_goi V (q_runV (As := [.int x2]) (rest := []) (d := 1) (mc := 0) (ms := 0) (ci := 14) C0 V rfl LV_DR_120 (X_DR_isZero l D g q w50  x2 hI lx36 t0_1 t0_2 t0_3 t0_4 t0_5 t0_6 t0_7 t0_8 t0_9 t0_10 hT0 t1_0 hT1 ob81 _) rfl rfl hT0 rfl hl.1 rfl (Nat.le_of_ble_eq_true rfl) ⟨by decide, by decide⟩ ⟨Nat.le_of_ble_eq_true rfl, Nat.le_of_ble_eq_true rfl⟩ d_15_48_51) (fun a84 u82 H locs hp83 V => ?_)
        obtain ⟨rfl, b85, b86, hE87⟩ := hp83
        have e88 : a84 = (F_DR_isZero x2 lx36 t0_1 t0_2 t0_3 t0_4 t0_5 t0_6 t0_7 t0_8 t0_9 t0_10 t1_0) := hE87
        clear b85
        clear b86
        refine lv_if_eq (tgt := 61) hx hb d_15_48_54 (by decide) (fun c89 => ?_) (fun c89 => ?_)
        ·
          refine lv_aload_n hx hb d_15_48_61 rfl (lv_at hl 0 rfl) ?_
          refine q_get (ci := 14) (j := 5) (v := .ref (q 138)) C0 V i_DR rfl rfl hT0 (by decide) w_2006 rfl d_15_48_62 ?_
          refine lv_iload_n hx hb d_15_48_65 rfl (lv_at hl 1 rfl) ?_
          have ob91 : q_F (0 ≤ x2.toInt) := (by have h := hS46; rw [S_DR_told_J33.eq_1] at h; rw [if_pos c52] at h; rw [if_pos c54] at h; replace h := q_s2 h; have c89x := c89; rw [e88] at c89x; rw [if_pos c89x] at h; exact h.2.1)
          have ob92 : q_F (x2.toInt ≤ 9) := (by have h := hS46; rw [S_DR_told_J33.eq_1] at h; rw [if_pos c52] at h; rw [if_pos c54] at h; replace h := q_s2 h; have c89x := c89; rw [e88] at c89x; rw [if_pos c89x] at h; replace h := q_s2 h; exact h.2.1)
          refine q_zald C0 V hT3 (q_ix (x := x2.toInt) rfl (by first | with_reducible exact q_fe ob91 | (have t1 : 0 ≤ x2.toInt := ob91; omega)) (by have t1 : 0 ≤ x2.toInt := ob91; have t2 : x2.toInt ≤ 9 := ob92; omega)) d_15_48_66 ?_
          obtain ⟨a93, e94⟩ := q_nm (t3_0 x2.toNatClampNeg : Int32)
          refine q_ti (v := a93) e94 ?_
          refine lv_if_eq (tgt := 74) hx hb d_15_48_67 (by decide) (fun c95 => ?_) (fun c95 => ?_)
          ·
            refine lv_iconst (v := 1) hx hb d_15_48_74 (by decide) ?_
            refine lv_goto (tgt := 120) hx hb d_15_48_75 (by decide) ?_
            exact q_reti C0 V (⟨hI, hF, lx36, t0_1, t0_2, t0_3, t0_4, t0_5, t0_6, t0_7, t0_8, t0_9, t0_10, hT0, (show 0 ≤ lx36.toInt from (by have z17 : (1 : Int32).toInt = 1 := rfl; have t1 : 0 ≤ lx36.toInt := i43; omega)), (show lx36.toInt ≤ 2 from (by have z17 : (1 : Int32).toInt = 1 := rfl; have t1 : lx36.toInt ≤ 2 := i44; omega)), (show t0_1.toInt ≤ t0_1.toInt from (by have z17 : (1 : Int32).toInt = 1 := rfl; omega)), (show t0_1.toInt ≤ t0_1.toInt from (by have z17 : (1 : Int32).toInt = 1 := rfl; omega)), (show t0_2.toInt ≤ t0_2.toInt from (by have z17 : (1 : Int32).toInt = 1 := rfl; omega)), (show t0_2.toInt ≤ t0_2.toInt from (by have z17 : (1 : Int32).toInt = 1 := rfl; omega)), (show t0_3.toInt ≤ t0_3.toInt from (by have z17 : (1 : Int32).toInt = 1 := rfl; omega)), (show t0_3.toInt ≤ t0_3.toInt from (by have z17 : (1 : Int32).toInt = 1 := rfl; omega)), (show t0_4.toInt ≤ t0_4.toInt from (by have z17 : (1 : Int32).toInt = 1 := rfl; omega)), (show t0_4.toInt ≤ t0_4.toInt from (by have z17 : (1 : Int32).toInt = 1 := rfl; omega)), (show t0_5.toInt ≤ t0_5.toInt from (by have z17 : (1 : Int32).toInt = 1 := rfl; omega)), (show t0_5.toInt ≤ t0_5.toInt from (by have z17 : (1 : Int32).toInt = 1 := rfl; omega)), (show t0_6.toInt ≤ t0_6.toInt from (by have z17 : (1 : Int32).toInt = 1 := rfl; omega)), (show t0_6.toInt ≤ t0_6.toInt from (by have z17 : (1 : Int32).toInt = 1 := rfl; omega)), (show t0_7.toInt ≤ t0_7.toInt from (by have z17 : (1 : Int32).toInt = 1 := rfl; omega)), (show t0_7.toInt ≤ t0_7.toInt from (by have z17 : (1 : Int32).toInt = 1 := rfl; omega)), (show t0_8.toInt ≤ t0_8.toInt from (by have z17 : (1 : Int32).toInt = 1 := rfl; omega)), (show t0_8.toInt ≤ t0_8.toInt from (by have z17 : (1 : Int32).toInt = 1 := rfl; omega)), (show t0_9.toInt ≤ t0_9.toInt from (by have z17 : (1 : Int32).toInt = 1 := rfl; omega)), (show t0_9.toInt ≤ t0_9.toInt from (by have z17 : (1 : Int32).toInt = 1 := rfl; omega)), (show t0_10.toInt ≤ t0_10.toInt from (by have z17 : (1 : Int32).toInt = 1 := rfl; omega)), (show t0_10.toInt ≤ t0_10.toInt from (by have z17 : (1 : Int32).toInt = 1 := rfl; omega)), (show ((1 : Int32), lx36, t0_1, t0_2, t0_3, t0_4, t0_5, t0_6, t0_7, t0_8, t0_9, t0_10) = (F_DR_told x2 x3 t0_0 t0_1 t0_2 t0_3 t0_4 t0_5 t0_6 t0_7 t0_8 t0_9 t0_10 t1_0 t2_0 t3_0 t4_0) from Eq.trans (by have c89x := c89; rw [e88] at c89x; have c95x := c95; rw [← e94] at c95x; rw [F_DR_told_J33.eq_1, if_pos c52, if_pos c54, if_pos c89x, if_pos c95x]) hR45)⟩) d_15_48_120
          ·
            refine lv_iconst (v := (-1)) hx hb d_15_48_70 (by decide) ?_
            refine lv_goto (tgt := 120) hx hb d_15_48_71 (by decide) ?_
            exact q_reti C0 V (⟨hI, hF, lx36, t0_1, t0_2, t0_3, t0_4, t0_5, t0_6, t0_7, t0_8, t0_9, t0_10, hT0, (show 0 ≤ lx36.toInt from (by have z17 : (-1 : Int32).toInt = -1 := rfl; have t1 : 0 ≤ lx36.toInt := i43; omega)), (show lx36.toInt ≤ 2 from (by have z17 : (-1 : Int32).toInt = -1 := rfl; have t1 : lx36.toInt ≤ 2 := i44; omega)), (show t0_1.toInt ≤ t0_1.toInt from (by have z17 : (-1 : Int32).toInt = -1 := rfl; omega)), (show t0_1.toInt ≤ t0_1.toInt from (by have z17 : (-1 : Int32).toInt = -1 := rfl; omega)), (show t0_2.toInt ≤ t0_2.toInt from (by have z17 : (-1 : Int32).toInt = -1 := rfl; omega)), (show t0_2.toInt ≤ t0_2.toInt from (by have z17 : (-1 : Int32).toInt = -1 := rfl; omega)), (show t0_3.toInt ≤ t0_3.toInt from (by have z17 : (-1 : Int32).toInt = -1 := rfl; omega)), (show t0_3.toInt ≤ t0_3.toInt from (by have z17 : (-1 : Int32).toInt = -1 := rfl; omega)), (show t0_4.toInt ≤ t0_4.toInt from (by have z17 : (-1 : Int32).toInt = -1 := rfl; omega)), (show t0_4.toInt ≤ t0_4.toInt from (by have z17 : (-1 : Int32).toInt = -1 := rfl; omega)), (show t0_5.toInt ≤ t0_5.toInt from (by have z17 : (-1 : Int32).toInt = -1 := rfl; omega)), (show t0_5.toInt ≤ t0_5.toInt from (by have z17 : (-1 : Int32).toInt = -1 := rfl; omega)), (show t0_6.toInt ≤ t0_6.toInt from (by have z17 : (-1 : Int32).toInt = -1 := rfl; omega)), (show t0_6.toInt ≤ t0_6.toInt from (by have z17 : (-1 : Int32).toInt = -1 := rfl; omega)), (show t0_7.toInt ≤ t0_7.toInt from (by have z17 : (-1 : Int32).toInt = -1 := rfl; omega)), (show t0_7.toInt ≤ t0_7.toInt from (by have z17 : (-1 : Int32).toInt = -1 := rfl; omega)), (show t0_8.toInt ≤ t0_8.toInt from (by have z17 : (-1 : Int32).toInt = -1 := rfl; omega)), (show t0_8.toInt ≤ t0_8.toInt from (by have z17 : (-1 : Int32).toInt = -1 := rfl; omega)), (show t0_9.toInt ≤ t0_9.toInt from (by have z17 : (-1 : Int32).toInt = -1 := rfl; omega)), (show t0_9.toInt ≤ t0_9.toInt from (by have z17 : (-1 : Int32).toInt = -1 := rfl; omega)), (show t0_10.toInt ≤ t0_10.toInt from (by have z17 : (-1 : Int32).toInt = -1 := rfl; omega)), (show t0_10.toInt ≤ t0_10.toInt from (by have z17 : (-1 : Int32).toInt = -1 := rfl; omega)), (show ((-1 : Int32), lx36, t0_1, t0_2, t0_3, t0_4, t0_5, t0_6, t0_7, t0_8, t0_9, t0_10) = (F_DR_told x2 x3 t0_0 t0_1 t0_2 t0_3 t0_4 t0_5 t0_6 t0_7 t0_8 t0_9 t0_10 t1_0 t2_0 t3_0 t4_0) from Eq.trans (by have c89x := c89; rw [e88] at c89x; have c95x := c95; rw [← e94] at c95x; rw [F_DR_told_J33.eq_1, if_pos c52, if_pos c54, if_pos c89x, if_neg c95x]) hR45)⟩) d_15_48_120
        ·
          refine lv_iconst (v := 0) hx hb d_15_48_57 (by decide) ?_
          refine lv_goto (tgt := 120) hx hb d_15_48_58 (by decide) ?_
          exact q_reti C0 V (⟨hI, hF, lx36, t0_1, t0_2, t0_3, t0_4, t0_5, t0_6, t0_7, t0_8, t0_9, t0_10, hT0, (show 0 ≤ lx36.toInt from (by have z17 : (0 : Int32).toInt = 0 := rfl; have t1 : 0 ≤ lx36.toInt := i43; omega)), (show lx36.toInt ≤ 2 from (by have z17 : (0 : Int32).toInt = 0 := rfl; have t1 : lx36.toInt ≤ 2 := i44; omega)), (show t0_1.toInt ≤ t0_1.toInt from (by have z17 : (0 : Int32).toInt = 0 := rfl; omega)), (show t0_1.toInt ≤ t0_1.toInt from (by have z17 : (0 : Int32).toInt = 0 := rfl; omega)), (show t0_2.toInt ≤ t0_2.toInt from (by have z17 : (0 : Int32).toInt = 0 := rfl; omega)), (show t0_2.toInt ≤ t0_2.toInt from (by have z17 : (0 : Int32).toInt = 0 := rfl; omega)), (show t0_3.toInt ≤ t0_3.toInt from (by have z17 : (0 : Int32).toInt = 0 := rfl; omega)), (show t0_3.toInt ≤ t0_3.toInt from (by have z17 : (0 : Int32).toInt = 0 := rfl; omega)), (show t0_4.toInt ≤ t0_4.toInt from (by have z17 : (0 : Int32).toInt = 0 := rfl; omega)), (show t0_4.toInt ≤ t0_4.toInt from (by have z17 : (0 : Int32).toInt = 0 := rfl; omega)), (show t0_5.toInt ≤ t0_5.toInt from (by have z17 : (0 : Int32).toInt = 0 := rfl; omega)), (show t0_5.toInt ≤ t0_5.toInt from (by have z17 : (0 : Int32).toInt = 0 := rfl; omega)), (show t0_6.toInt ≤ t0_6.toInt from (by have z17 : (0 : Int32).toInt = 0 := rfl; omega)), (show t0_6.toInt ≤ t0_6.toInt from (by have z17 : (0 : Int32).toInt = 0 := rfl; omega)), (show t0_7.toInt ≤ t0_7.toInt from (by have z17 : (0 : Int32).toInt = 0 := rfl; omega)), (show t0_7.toInt ≤ t0_7.toInt from (by have z17 : (0 : Int32).toInt = 0 := rfl; omega)), (show t0_8.toInt ≤ t0_8.toInt from (by have z17 : (0 : Int32).toInt = 0 := rfl; omega)), (show t0_8.toInt ≤ t0_8.toInt from (by have z17 : (0 : Int32).toInt = 0 := rfl; omega)), (show t0_9.toInt ≤ t0_9.toInt from (by have z17 : (0 : Int32).toInt = 0 := rfl; omega)), (show t0_9.toInt ≤ t0_9.toInt from (by have z17 : (0 : Int32).toInt = 0 := rfl; omega)), (show t0_10.toInt ≤ t0_10.toInt from (by have z17 : (0 : Int32).toInt = 0 := rfl; omega)), (show t0_10.toInt ≤ t0_10.toInt from (by have z17 : (0 : Int32).toInt = 0 := rfl; omega)), (show ((0 : Int32), lx36, t0_1, t0_2, t0_3, t0_4, t0_5, t0_6, t0_7, t0_8, t0_9, t0_10) = (F_DR_told x2 x3 t0_0 t0_1 t0_2 t0_3 t0_4 t0_5 t0_6 t0_7 t0_8 t0_9 t0_10 t1_0 t2_0 t3_0 t4_0) from Eq.trans (by have c89x := c89; rw [e88] at c89x; rw [F_DR_told_J33.eq_1, if_pos c52, if_pos c54, if_neg c89x]) hR45)⟩) d_15_48_120
    ·
      refine lv_iconst (v := 0) hx hb d_15_48_43 (by decide) ?_
      exact q_reti C0 V (⟨hI, hF, lx36, t0_1, t0_2, t0_3, t0_4, t0_5, t0_6, t0_7, t0_8, t0_9, t0_10, hT0, (show 0 ≤ lx36.toInt from (by have z17 : (0 : Int32).toInt = 0 := rfl; have t1 : 0 ≤ lx36.toInt := i43; omega)), (show lx36.toInt ≤ 2 from (by have z17 : (0 : Int32).toInt = 0 := rfl; have t1 : lx36.toInt ≤ 2 := i44; omega)), (show t0_1.toInt ≤ t0_1.toInt from (by have z17 : (0 : Int32).toInt = 0 := rfl; omega)), (show t0_1.toInt ≤ t0_1.toInt from (by have z17 : (0 : Int32).toInt = 0 := rfl; omega)), (show t0_2.toInt ≤ t0_2.toInt from (by have z17 : (0 : Int32).toInt = 0 := rfl; omega)), (show t0_2.toInt ≤ t0_2.toInt from (by have z17 : (0 : Int32).toInt = 0 := rfl; omega)), (show t0_3.toInt ≤ t0_3.toInt from (by have z17 : (0 : Int32).toInt = 0 := rfl; omega)), (show t0_3.toInt ≤ t0_3.toInt from (by have z17 : (0 : Int32).toInt = 0 := rfl; omega)), (show t0_4.toInt ≤ t0_4.toInt from (by have z17 : (0 : Int32).toInt = 0 := rfl; omega)), (show t0_4.toInt ≤ t0_4.toInt from (by have z17 : (0 : Int32).toInt = 0 := rfl; omega)), (show t0_5.toInt ≤ t0_5.toInt from (by have z17 : (0 : Int32).toInt = 0 := rfl; omega)), (show t0_5.toInt ≤ t0_5.toInt from (by have z17 : (0 : Int32).toInt = 0 := rfl; omega)), (show t0_6.toInt ≤ t0_6.toInt from (by have z17 : (0 : Int32).toInt = 0 := rfl; omega)), (show t0_6.toInt ≤ t0_6.toInt from (by have z17 : (0 : Int32).toInt = 0 := rfl; omega)), (show t0_7.toInt ≤ t0_7.toInt from (by have z17 : (0 : Int32).toInt = 0 := rfl; omega)), (show t0_7.toInt ≤ t0_7.toInt from (by have z17 : (0 : Int32).toInt = 0 := rfl; omega)), (show t0_8.toInt ≤ t0_8.toInt from (by have z17 : (0 : Int32).toInt = 0 := rfl; omega)), (show t0_8.toInt ≤ t0_8.toInt from (by have z17 : (0 : Int32).toInt = 0 := rfl; omega)), (show t0_9.toInt ≤ t0_9.toInt from (by have z17 : (0 : Int32).toInt = 0 := rfl; omega)), (show t0_9.toInt ≤ t0_9.toInt from (by have z17 : (0 : Int32).toInt = 0 := rfl; omega)), (show t0_10.toInt ≤ t0_10.toInt from (by have z17 : (0 : Int32).toInt = 0 := rfl; omega)), (show t0_10.toInt ≤ t0_10.toInt from (by have z17 : (0 : Int32).toInt = 0 := rfl; omega)), (show ((0 : Int32), lx36, t0_1, t0_2, t0_3, t0_4, t0_5, t0_6, t0_7, t0_8, t0_9, t0_10) = (F_DR_told x2 x3 t0_0 t0_1 t0_2 t0_3 t0_4 t0_5 t0_6 t0_7 t0_8 t0_9 t0_10 t1_0 t2_0 t3_0 t4_0) from Eq.trans (by rw [F_DR_told_J33.eq_1, if_neg c52]) hR45)⟩) d_15_48_44
  ·
    intro J42
    refine lv_if_eq (tgt := 12) hx hb d_15_48_5 (by decide) (fun c100 => ?_) (fun c100 => ?_)
    ·
      refine lv_iload_n hx hb d_15_48_12 rfl (lv_at hl 2 rfl) ?_
      refine q_join (X := Unit) (fun z H locs ls _ => q_Wd D g (va_A ws sz) s ws H locs ∧ lv_has ls 3 [(0, .ref (q 134)), (1, .int x2), (2, .int x3)] ∧ F_DR_told_J28 x2 x3 t0_0 t0_1 t0_2 t0_3 t0_4 t0_5 t0_6 t0_7 t0_8 t0_9 t0_10 t1_0 t2_0 t3_0 t4_0 = (F_DR_told x2 x3 t0_0 t0_1 t0_2 t0_3 t0_4 t0_5 t0_6 t0_7 t0_8 t0_9 t0_10 t1_0 t2_0 t3_0 t4_0) ∧ True ∧ S_DR_told_J28 x2 x3 t0_0 t0_1 t0_2 t0_3 t0_4 t0_5 t0_6 t0_7 t0_8 t0_9 t0_10 t1_0 t2_0 t3_0 t4_0) (fun z => [.ref (q 134)]) 28 0 0 ?_ ?_
      ·
        rintro _ H locs ls _ ⟨V, hl, hR108, hS109⟩
        replace hl : lv_has ls 3 [(0, .ref (q 134)), (1, .int x2), (2, .int x3)] := hl
        refine lv_iconst (v := 2) hx hb d_15_48_28 (by decide) ?_
        refine lv_goto (tgt := 33) hx hb d_15_48_29 (by decide) ?_
        exact J42 ((2 : Int32)) _ _ _ ws ⟨(show q_F (0 ≤ 2) from (show 0 ≤ 2 from by omega)), (show q_F (2 ≤ 2) from (show 2 ≤ 2 from by omega)), V, q_lw hl (q_lw1 0 rfl (q_lw1 1 rfl (q_lw1 2 rfl q_lw0))), (show F_DR_told_J33 x2 x3 t0_0 t0_1 t0_2 t0_3 t0_4 t0_5 t0_6 t0_7 t0_8 t0_9 t0_10 t1_0 t2_0 t3_0 t4_0 2 = (F_DR_told x2 x3 t0_0 t0_1 t0_2 t0_3 t0_4 t0_5 t0_6 t0_7 t0_8 t0_9 t0_10 t1_0 t2_0 t3_0 t4_0) from Eq.trans (by rw [F_DR_told_J28.eq_1]) hR108), (show True ∧ S_DR_told_J33 x2 x3 t0_0 t0_1 t0_2 t0_3 t0_4 t0_5 t0_6 t0_7 t0_8 t0_9 t0_10 t1_0 t2_0 t3_0 t4_0 2 from (by have h := hS109; rw [S_DR_told_J28.eq_1] at h; with_reducible exact h))⟩
      ·
        intro J107
        refine lv_if_lt (tgt := 28) hx hb d_15_48_13 (by decide) (fun c113 => ?_) (fun c113 => ?_)
        ·
          exact J107 (()) _ _ _ ws ⟨V, q_lw hl (q_lw1 0 rfl (q_lw1 1 rfl (q_lw1 2 rfl q_lw0))), (show F_DR_told_J28 x2 x3 t0_0 t0_1 t0_2 t0_3 t0_4 t0_5 t0_6 t0_7 t0_8 t0_9 t0_10 t1_0 t2_0 t3_0 t4_0 = (F_DR_told x2 x3 t0_0 t0_1 t0_2 t0_3 t0_4 t0_5 t0_6 t0_7 t0_8 t0_9 t0_10 t1_0 t2_0 t3_0 t4_0) from (by have c100x := c100; rw [e35] at c100x; rw [F_DR_told.eq_1, if_pos c100x, if_pos c113])), (show True ∧ S_DR_told_J28 x2 x3 t0_0 t0_1 t0_2 t0_3 t0_4 t0_5 t0_6 t0_7 t0_8 t0_9 t0_10 t1_0 t2_0 t3_0 t4_0 from (by have h := hS; rw [S_DR_told.eq_1] at h; have c100x := c100; rw [e35] at c100x; rw [if_pos c100x] at h; rw [if_pos c113] at h; with_reducible exact h))⟩
        ·
          refine lv_iload_n hx hb d_15_48_16 rfl (lv_at hl 2 rfl) ?_
          refine lv_iconst (v := 3) hx hb d_15_48_17 (by decide) ?_
          refine lv_isub hx hb d_15_48_18 ?_
          obtain ⟨a116, e117⟩ := q_nm (x3 - 3 : Int32)
          refine q_ti (v := a116) e117 ?_
          refine lv_aload_n hx hb d_15_48_19 rfl (lv_at hl 0 rfl) ?_
          refine q_get (ci := 14) (j := 4) (v := .ref (q 137)) C0 V i_DR rfl rfl hT0 (by decide) w_2004 rfl d_15_48_20 ?_
          refine lv_iload_n hx hb d_15_48_23 rfl (lv_at hl 1 rfl) ?_
          have ob119 : q_F (0 ≤ x2.toInt) := (by have h := hS; rw [S_DR_told.eq_1] at h; have c100x := c100; rw [e35] at c100x; rw [if_pos c100x] at h; rw [if_neg c113] at h; exact h.2.1)
          have ob120 : q_F (x2.toInt ≤ 9) := (by have h := hS; rw [S_DR_told.eq_1] at h; have c100x := c100; rw [e35] at c100x; rw [if_pos c100x] at h; rw [if_neg c113] at h; replace h := q_s2 h; exact h.2.1)
          refine q_iald C0 V hT2 (q_ix (x := x2.toInt) rfl (by first | with_reducible exact q_fe ob119 | (have t1 : 0 ≤ x2.toInt := ob119; omega)) (by have t1 : 0 ≤ x2.toInt := ob119; have t2 : x2.toInt ≤ 9 := ob120; have e9 : (((10 : Int32).toNatClampNeg : Nat) : Int) = 10 := (by decide); omega)) d_15_48_24 ?_
          obtain ⟨a121, e122⟩ := q_nm (t2_0 x2.toNatClampNeg : Int32)
          refine q_ti (v := a121) e122 ?_
          refine lv_icmp_lt (tgt := 32) hx hb d_15_48_25 (by decide) (fun c123 => ?_) (fun c123 => ?_)
          ·
            refine lv_iconst (v := 0) hx hb d_15_48_32 (by decide) ?_
            exact J42 ((0 : Int32)) _ _ _ ws ⟨(show q_F (0 ≤ 0) from (show 0 ≤ 0 from by omega)), (show q_F (0 ≤ 2) from (show 0 ≤ 2 from by omega)), V, q_lw hl (q_lw1 0 rfl (q_lw1 1 rfl (q_lw1 2 rfl q_lw0))), (show F_DR_told_J33 x2 x3 t0_0 t0_1 t0_2 t0_3 t0_4 t0_5 t0_6 t0_7 t0_8 t0_9 t0_10 t1_0 t2_0 t3_0 t4_0 0 = (F_DR_told x2 x3 t0_0 t0_1 t0_2 t0_3 t0_4 t0_5 t0_6 t0_7 t0_8 t0_9 t0_10 t1_0 t2_0 t3_0 t4_0) from (by have c100x := c100; rw [e35] at c100x; have c123x := c123; rw [← e122, ← e117] at c123x; rw [F_DR_told.eq_1, if_pos c100x, if_neg c113, if_pos c123x])), (show True ∧ S_DR_told_J33 x2 x3 t0_0 t0_1 t0_2 t0_3 t0_4 t0_5 t0_6 t0_7 t0_8 t0_9 t0_10 t1_0 t2_0 t3_0 t4_0 0 from (by have h := hS; rw [S_DR_told.eq_1] at h; have c100x := c100; rw [e35] at c100x; rw [if_pos c100x] at h; rw [if_neg c113] at h; replace h := q_s2 h; replace h := q_s2 h; have c123x := c123; rw [← e122, ← e117] at c123x; rw [if_pos c123x] at h; with_reducible exact h))⟩
          ·
            exact J107 (()) _ _ _ ws ⟨V, q_lw hl (q_lw1 0 rfl (q_lw1 1 rfl (q_lw1 2 rfl q_lw0))), (show F_DR_told_J28 x2 x3 t0_0 t0_1 t0_2 t0_3 t0_4 t0_5 t0_6 t0_7 t0_8 t0_9 t0_10 t1_0 t2_0 t3_0 t4_0 = (F_DR_told x2 x3 t0_0 t0_1 t0_2 t0_3 t0_4 t0_5 t0_6 t0_7 t0_8 t0_9 t0_10 t1_0 t2_0 t3_0 t4_0) from (by have c100x := c100; rw [e35] at c100x; have c123x := c123; rw [← e122, ← e117] at c123x; rw [F_DR_told.eq_1, if_pos c100x, if_neg c113, if_neg c123x])), (show True ∧ S_DR_told_J28 x2 x3 t0_0 t0_1 t0_2 t0_3 t0_4 t0_5 t0_6 t0_7 t0_8 t0_9 t0_10 t1_0 t2_0 t3_0 t4_0 from (by have h := hS; rw [S_DR_told.eq_1] at h; have c100x := c100; rw [e35] at c100x; rw [if_pos c100x] at h; rw [if_neg c113] at h; replace h := q_s2 h; replace h := q_s2 h; have c123x := c123; rw [← e122, ← e117] at c123x; rw [if_neg c123x] at h; with_reducible exact h))⟩
    ·
      refine lv_iconst (v := 1) hx hb d_15_48_8 (by decide) ?_
      refine lv_goto (tgt := 33) hx hb d_15_48_9 (by decide) ?_
      exact J42 ((1 : Int32)) _ _ _ ws ⟨(show q_F (0 ≤ 1) from (show 0 ≤ 1 from by omega)), (show q_F (1 ≤ 2) from (show 1 ≤ 2 from by omega)), V, q_lw hl (q_lw1 0 rfl (q_lw1 1 rfl (q_lw1 2 rfl q_lw0))), (show F_DR_told_J33 x2 x3 t0_0 t0_1 t0_2 t0_3 t0_4 t0_5 t0_6 t0_7 t0_8 t0_9 t0_10 t1_0 t2_0 t3_0 t4_0 1 = (F_DR_told x2 x3 t0_0 t0_1 t0_2 t0_3 t0_4 t0_5 t0_6 t0_7 t0_8 t0_9 t0_10 t1_0 t2_0 t3_0 t4_0) from (by have c100x := c100; rw [e35] at c100x; rw [F_DR_told.eq_1, if_neg c100x])), (show True ∧ S_DR_told_J33 x2 x3 t0_0 t0_1 t0_2 t0_3 t0_4 t0_5 t0_6 t0_7 t0_8 t0_9 t0_10 t1_0 t2_0 t3_0 t4_0 1 from (by have h := hS; rw [S_DR_told.eq_1] at h; have c100x := c100; rw [e35] at c100x; rw [if_neg c100x] at h; with_reducible exact h))⟩
theorem d_15_23_0 : decode prog_15_method_23_code 0 = .ok (.aload_n 0, 1) := by decide +kernel
theorem d_15_23_1 : decode prog_15_method_23_code 1 = .ok (.getfield 16, 3) := by decide +kernel
theorem d_15_23_4 : decode prog_15_method_23_code 4 = .ok (.iload_n 1, 1) := by decide +kernel
theorem d_15_23_5 : decode prog_15_method_23_code 5 = .ok (.iaload, 1) := by decide +kernel
theorem d_15_23_6 : decode prog_15_method_23_code 6 = .ok (.i2l, 1) := by decide +kernel
theorem d_15_23_7 : decode prog_15_method_23_code 7 = .ok (.aload_n 0, 1) := by decide +kernel
theorem d_15_23_8 : decode prog_15_method_23_code 8 = .ok (.getfield 23, 3) := by decide +kernel
theorem d_15_23_11 : decode prog_15_method_23_code 11 = .ok (.iload_n 1, 1) := by decide +kernel
theorem d_15_23_12 : decode prog_15_method_23_code 12 = .ok (.iaload, 1) := by decide +kernel
theorem d_15_23_13 : decode prog_15_method_23_code 13 = .ok (.i2l, 1) := by decide +kernel
theorem d_15_23_14 : decode prog_15_method_23_code 14 = .ok (.lsub, 1) := by decide +kernel
theorem d_15_23_15 : decode prog_15_method_23_code 15 = .ok (.lstore_n 3, 1) := by decide +kernel
theorem d_15_23_16 : decode prog_15_method_23_code 16 = .ok (.aload_n 0, 1) := by decide +kernel
theorem d_15_23_17 : decode prog_15_method_23_code 17 = .ok (.getfield 16, 3) := by decide +kernel
theorem d_15_23_20 : decode prog_15_method_23_code 20 = .ok (.iload_n 2, 1) := by decide +kernel
theorem d_15_23_21 : decode prog_15_method_23_code 21 = .ok (.iaload, 1) := by decide +kernel
theorem d_15_23_22 : decode prog_15_method_23_code 22 = .ok (.i2l, 1) := by decide +kernel
theorem d_15_23_23 : decode prog_15_method_23_code 23 = .ok (.aload_n 0, 1) := by decide +kernel
theorem d_15_23_24 : decode prog_15_method_23_code 24 = .ok (.getfield 23, 3) := by decide +kernel
theorem d_15_23_27 : decode prog_15_method_23_code 27 = .ok (.iload_n 2, 1) := by decide +kernel
theorem d_15_23_28 : decode prog_15_method_23_code 28 = .ok (.iaload, 1) := by decide +kernel
theorem d_15_23_29 : decode prog_15_method_23_code 29 = .ok (.i2l, 1) := by decide +kernel
theorem d_15_23_30 : decode prog_15_method_23_code 30 = .ok (.lsub, 1) := by decide +kernel
theorem d_15_23_31 : decode prog_15_method_23_code 31 = .ok (.lstore 5, 2) := by decide +kernel
theorem d_15_23_33 : decode prog_15_method_23_code 33 = .ok (.lload_n 3, 1) := by decide +kernel
theorem d_15_23_34 : decode prog_15_method_23_code 34 = .ok (.lload 5, 2) := by decide +kernel
theorem d_15_23_36 : decode prog_15_method_23_code 36 = .ok (.lcmp, 1) := by decide +kernel
theorem d_15_23_37 : decode prog_15_method_23_code 37 = .ok (.ifCond .eq 16, 3) := by decide +kernel
theorem d_15_23_53 : decode prog_15_method_23_code 53 = .ok (.iconst 0, 1) := by decide +kernel
theorem d_15_23_54 : decode prog_15_method_23_code 54 = .ok (.istore 7, 2) := by decide +kernel
theorem d_15_23_56 : decode prog_15_method_23_code 56 = .ok (.iload 7, 2) := by decide +kernel
theorem d_15_23_58 : decode prog_15_method_23_code 58 = .ok (.aload_n 0, 1) := by decide +kernel
theorem d_15_23_59 : decode prog_15_method_23_code 59 = .ok (.getfield 16, 3) := by decide +kernel
theorem d_15_23_62 : decode prog_15_method_23_code 62 = .ok (.iload_n 1, 1) := by decide +kernel
theorem d_15_23_63 : decode prog_15_method_23_code 63 = .ok (.iaload, 1) := by decide +kernel
theorem d_15_23_78 : decode prog_15_method_23_code 78 = .ok (.iload 7, 2) := by decide +kernel
theorem d_15_23_80 : decode prog_15_method_23_code 80 = .ok (.aload_n 0, 1) := by decide +kernel
theorem d_15_23_81 : decode prog_15_method_23_code 81 = .ok (.getfield 16, 3) := by decide +kernel
theorem d_15_23_84 : decode prog_15_method_23_code 84 = .ok (.iload_n 1, 1) := by decide +kernel
theorem d_15_23_85 : decode prog_15_method_23_code 85 = .ok (.iaload, 1) := by decide +kernel
theorem d_15_23_106 : decode prog_15_method_23_code 106 = .ok (.istore 8, 2) := by decide +kernel
theorem d_15_23_108 : decode prog_15_method_23_code 108 = .ok (.iload 7, 2) := by decide +kernel
theorem d_15_23_110 : decode prog_15_method_23_code 110 = .ok (.aload_n 0, 1) := by decide +kernel
theorem d_15_23_111 : decode prog_15_method_23_code 111 = .ok (.getfield 16, 3) := by decide +kernel
theorem d_15_23_114 : decode prog_15_method_23_code 114 = .ok (.iload_n 2, 1) := by decide +kernel
theorem d_15_23_115 : decode prog_15_method_23_code 115 = .ok (.iaload, 1) := by decide +kernel
theorem d_15_23_136 : decode prog_15_method_23_code 136 = .ok (.istore 9, 2) := by decide +kernel
theorem d_15_23_138 : decode prog_15_method_23_code 138 = .ok (.iload 8, 2) := by decide +kernel
theorem d_15_23_140 : decode prog_15_method_23_code 140 = .ok (.iload 9, 2) := by decide +kernel
theorem d_15_23_142 : decode prog_15_method_23_code 142 = .ok (.if_icmp .eq 16, 3) := by decide +kernel
theorem d_15_23_158 : decode prog_15_method_23_code 158 = .ok (.iinc 7 1, 3) := by decide +kernel
theorem d_15_23_161 : decode prog_15_method_23_code 161 = .ok (.goto (-105), 3) := by decide +kernel
theorem d_15_23_145 : decode prog_15_method_23_code 145 = .ok (.iload 8, 2) := by decide +kernel
theorem d_15_23_147 : decode prog_15_method_23_code 147 = .ok (.iload 9, 2) := by decide +kernel
theorem d_15_23_149 : decode prog_15_method_23_code 149 = .ok (.if_icmp .ge 7, 3) := by decide +kernel
theorem d_15_23_156 : decode prog_15_method_23_code 156 = .ok (.iconst 1, 1) := by decide +kernel
theorem d_15_23_157 : decode prog_15_method_23_code 157 = .ok (.ireturn, 1) := by decide +kernel
theorem d_15_23_152 : decode prog_15_method_23_code 152 = .ok (.iconst (-1), 1) := by decide +kernel
theorem d_15_23_153 : decode prog_15_method_23_code 153 = .ok (.goto 4, 3) := by decide +kernel
theorem d_15_23_116 : decode prog_15_method_23_code 116 = .ok (.if_icmp .ge 19, 3) := by decide +kernel
theorem d_15_23_135 : decode prog_15_method_23_code 135 = .ok (.iconst 0, 1) := by decide +kernel
theorem d_15_23_119 : decode prog_15_method_23_code 119 = .ok (.aload_n 0, 1) := by decide +kernel
theorem d_15_23_120 : decode prog_15_method_23_code 120 = .ok (.getfield 13, 3) := by decide +kernel
theorem d_15_23_123 : decode prog_15_method_23_code 123 = .ok (.sipush 1000, 3) := by decide +kernel
theorem d_15_23_126 : decode prog_15_method_23_code 126 = .ok (.iload_n 2, 1) := by decide +kernel
theorem d_15_23_127 : decode prog_15_method_23_code 127 = .ok (.imul, 1) := by decide +kernel
theorem d_15_23_128 : decode prog_15_method_23_code 128 = .ok (.iload 7, 2) := by decide +kernel
theorem d_15_23_130 : decode prog_15_method_23_code 130 = .ok (.iadd, 1) := by decide +kernel
theorem d_15_23_131 : decode prog_15_method_23_code 131 = .ok (.iaload, 1) := by decide +kernel
theorem d_15_23_132 : decode prog_15_method_23_code 132 = .ok (.goto 4, 3) := by decide +kernel
theorem d_15_23_86 : decode prog_15_method_23_code 86 = .ok (.if_icmp .ge 19, 3) := by decide +kernel
theorem d_15_23_105 : decode prog_15_method_23_code 105 = .ok (.iconst 0, 1) := by decide +kernel
theorem d_15_23_89 : decode prog_15_method_23_code 89 = .ok (.aload_n 0, 1) := by decide +kernel
theorem d_15_23_90 : decode prog_15_method_23_code 90 = .ok (.getfield 13, 3) := by decide +kernel
theorem d_15_23_93 : decode prog_15_method_23_code 93 = .ok (.sipush 1000, 3) := by decide +kernel
theorem d_15_23_96 : decode prog_15_method_23_code 96 = .ok (.iload_n 1, 1) := by decide +kernel
theorem d_15_23_97 : decode prog_15_method_23_code 97 = .ok (.imul, 1) := by decide +kernel
theorem d_15_23_98 : decode prog_15_method_23_code 98 = .ok (.iload 7, 2) := by decide +kernel
theorem d_15_23_100 : decode prog_15_method_23_code 100 = .ok (.iadd, 1) := by decide +kernel
theorem d_15_23_101 : decode prog_15_method_23_code 101 = .ok (.iaload, 1) := by decide +kernel
theorem d_15_23_102 : decode prog_15_method_23_code 102 = .ok (.goto 4, 3) := by decide +kernel
theorem d_15_23_64 : decode prog_15_method_23_code 64 = .ok (.if_icmp .lt 14, 3) := by decide +kernel
theorem d_15_23_67 : decode prog_15_method_23_code 67 = .ok (.iload 7, 2) := by decide +kernel
theorem d_15_23_69 : decode prog_15_method_23_code 69 = .ok (.aload_n 0, 1) := by decide +kernel
theorem d_15_23_70 : decode prog_15_method_23_code 70 = .ok (.getfield 16, 3) := by decide +kernel
theorem d_15_23_73 : decode prog_15_method_23_code 73 = .ok (.iload_n 2, 1) := by decide +kernel
theorem d_15_23_74 : decode prog_15_method_23_code 74 = .ok (.iaload, 1) := by decide +kernel
theorem d_15_23_75 : decode prog_15_method_23_code 75 = .ok (.if_icmp .ge 89, 3) := by decide +kernel
theorem d_15_23_164 : decode prog_15_method_23_code 164 = .ok (.iconst 0, 1) := by decide +kernel
theorem d_15_23_165 : decode prog_15_method_23_code 165 = .ok (.ireturn, 1) := by decide +kernel
theorem d_15_23_40 : decode prog_15_method_23_code 40 = .ok (.lload_n 3, 1) := by decide +kernel
theorem d_15_23_41 : decode prog_15_method_23_code 41 = .ok (.lload 5, 2) := by decide +kernel
theorem d_15_23_43 : decode prog_15_method_23_code 43 = .ok (.lcmp, 1) := by decide +kernel
theorem d_15_23_44 : decode prog_15_method_23_code 44 = .ok (.ifCond .ge 7, 3) := by decide +kernel
theorem d_15_23_51 : decode prog_15_method_23_code 51 = .ok (.iconst 1, 1) := by decide +kernel
theorem d_15_23_52 : decode prog_15_method_23_code 52 = .ok (.ireturn, 1) := by decide +kernel
theorem d_15_23_47 : decode prog_15_method_23_code 47 = .ok (.iconst (-1), 1) := by decide +kernel
theorem d_15_23_48 : decode prog_15_method_23_code 48 = .ok (.goto 4, 3) := by decide +kernel
def y_DR_compareSizes : MethodName := ⟨"NumberHouseModel$DecimalRows", "compareSizes", "(II)I"⟩
def F_DR_compareSizes_J136 (K_F_DR_compareSizes_L56 : Int32 → Int32) (x2 : Int32) (x3 : Int32) (t0_0 : Int32) (t0_1 : Int32) (t0_2 : Int32) (t0_3 : Int64) (t0_4 : Int32) (t0_5 : Int32) (t0_6 : Int32) (t0_7 : Int32) (t0_8 : Int32) (t0_9 : Int32) (t0_10 : Int32) (t1_0 : (Nat → Int32)) (t2_0 : (Nat → Int32)) (t3_0 : (Nat → Int32)) (lx62 : Int32) (lx83 : Int32) (lx96 : Int32) : Int32 := if lx83 = lx96 then (K_F_DR_compareSizes_L56 (lx62 + 1 : Int32)) else (if lx96 ≤ lx83 then ((1 : Int32)) else ((-1 : Int32)))
def F_DR_compareSizes_J106 (K_F_DR_compareSizes_L56 : Int32 → Int32) (x2 : Int32) (x3 : Int32) (t0_0 : Int32) (t0_1 : Int32) (t0_2 : Int32) (t0_3 : Int64) (t0_4 : Int32) (t0_5 : Int32) (t0_6 : Int32) (t0_7 : Int32) (t0_8 : Int32) (t0_9 : Int32) (t0_10 : Int32) (t1_0 : (Nat → Int32)) (t2_0 : (Nat → Int32)) (t3_0 : (Nat → Int32)) (lx62 : Int32) (lx83 : Int32) : Int32 := if (t2_0 x3.toNatClampNeg : Int32) ≤ lx62 then (F_DR_compareSizes_J136 K_F_DR_compareSizes_L56 x2 x3 t0_0 t0_1 t0_2 t0_3 t0_4 t0_5 t0_6 t0_7 t0_8 t0_9 t0_10 t1_0 t2_0 t3_0 lx62 lx83 0) else (F_DR_compareSizes_J136 K_F_DR_compareSizes_L56 x2 x3 t0_0 t0_1 t0_2 t0_3 t0_4 t0_5 t0_6 t0_7 t0_8 t0_9 t0_10 t1_0 t2_0 t3_0 lx62 lx83 (t1_0 ((1000 * x3 : Int32) + lx62 : Int32).toNatClampNeg : Int32))
def F_DR_compareSizes_J78 (K_F_DR_compareSizes_L56 : Int32 → Int32) (x2 : Int32) (x3 : Int32) (t0_0 : Int32) (t0_1 : Int32) (t0_2 : Int32) (t0_3 : Int64) (t0_4 : Int32) (t0_5 : Int32) (t0_6 : Int32) (t0_7 : Int32) (t0_8 : Int32) (t0_9 : Int32) (t0_10 : Int32) (t1_0 : (Nat → Int32)) (t2_0 : (Nat → Int32)) (t3_0 : (Nat → Int32)) (lx62 : Int32) : Int32 := if (t2_0 x2.toNatClampNeg : Int32) ≤ lx62 then (F_DR_compareSizes_J106 K_F_DR_compareSizes_L56 x2 x3 t0_0 t0_1 t0_2 t0_3 t0_4 t0_5 t0_6 t0_7 t0_8 t0_9 t0_10 t1_0 t2_0 t3_0 lx62 0) else (F_DR_compareSizes_J106 K_F_DR_compareSizes_L56 x2 x3 t0_0 t0_1 t0_2 t0_3 t0_4 t0_5 t0_6 t0_7 t0_8 t0_9 t0_10 t1_0 t2_0 t3_0 lx62 (t1_0 ((1000 * x2 : Int32) + lx62 : Int32).toNatClampNeg : Int32))
def F_DR_compareSizes_L56 (x2 : Int32) (x3 : Int32) (t0_0 : Int32) (t0_1 : Int32) (t0_2 : Int32) (t0_3 : Int64) (t0_4 : Int32) (t0_5 : Int32) (t0_6 : Int32) (t0_7 : Int32) (t0_8 : Int32) (t0_9 : Int32) (t0_10 : Int32) (t1_0 : (Nat → Int32)) (t2_0 : (Nat → Int32)) (t3_0 : (Nat → Int32)) : Nat → Int32 → Int32
  | 0, _ => default
  | fm + 1, lx62 => if lx62 < (t2_0 x2.toNatClampNeg : Int32) then (F_DR_compareSizes_J78 (F_DR_compareSizes_L56 x2 x3 t0_0 t0_1 t0_2 t0_3 t0_4 t0_5 t0_6 t0_7 t0_8 t0_9 t0_10 t1_0 t2_0 t3_0 fm) x2 x3 t0_0 t0_1 t0_2 t0_3 t0_4 t0_5 t0_6 t0_7 t0_8 t0_9 t0_10 t1_0 t2_0 t3_0 lx62) else (if (t2_0 x3.toNatClampNeg : Int32) ≤ lx62 then ((0 : Int32)) else (F_DR_compareSizes_J78 (F_DR_compareSizes_L56 x2 x3 t0_0 t0_1 t0_2 t0_3 t0_4 t0_5 t0_6 t0_7 t0_8 t0_9 t0_10 t1_0 t2_0 t3_0 fm) x2 x3 t0_0 t0_1 t0_2 t0_3 t0_4 t0_5 t0_6 t0_7 t0_8 t0_9 t0_10 t1_0 t2_0 t3_0 lx62))
def F_DR_compareSizes (x2 : Int32) (x3 : Int32) (t0_0 : Int32) (t0_1 : Int32) (t0_2 : Int32) (t0_3 : Int64) (t0_4 : Int32) (t0_5 : Int32) (t0_6 : Int32) (t0_7 : Int32) (t0_8 : Int32) (t0_9 : Int32) (t0_10 : Int32) (t1_0 : (Nat → Int32)) (t2_0 : (Nat → Int32)) (t3_0 : (Nat → Int32)) : Int32 := if (lg_cmp (((t2_0 x2.toNatClampNeg : Int32).toInt64 : Int64) - ((t3_0 x2.toNatClampNeg : Int32).toInt64 : Int64) : Int64) (((t2_0 x3.toNatClampNeg : Int32).toInt64 : Int64) - ((t3_0 x3.toNatClampNeg : Int32).toInt64 : Int64) : Int64) : Int32) = (0 : Int32) then (F_DR_compareSizes_L56 x2 x3 t0_0 t0_1 t0_2 t0_3 t0_4 t0_5 t0_6 t0_7 t0_8 t0_9 t0_10 t1_0 t2_0 t3_0 1000000 0) else (if (0 : Int32) ≤ (lg_cmp (((t2_0 x2.toNatClampNeg : Int32).toInt64 : Int64) - ((t3_0 x2.toNatClampNeg : Int32).toInt64 : Int64) : Int64) (((t2_0 x3.toNatClampNeg : Int32).toInt64 : Int64) - ((t3_0 x3.toNatClampNeg : Int32).toInt64 : Int64) : Int64) : Int32) then ((1 : Int32)) else ((-1 : Int32)))
def S_DR_compareSizes_J136 (K_S_DR_compareSizes_L56 : Int32 → Prop) (x2 : Int32) (x3 : Int32) (t0_0 : Int32) (t0_1 : Int32) (t0_2 : Int32) (t0_3 : Int64) (t0_4 : Int32) (t0_5 : Int32) (t0_6 : Int32) (t0_7 : Int32) (t0_8 : Int32) (t0_9 : Int32) (t0_10 : Int32) (t1_0 : (Nat → Int32)) (t2_0 : (Nat → Int32)) (t3_0 : (Nat → Int32)) (lx62 : Int32) (lx83 : Int32) (lx96 : Int32) : Prop := if lx83 = lx96 then (K_S_DR_compareSizes_L56 (lx62 + 1 : Int32)) else (if lx96 ≤ lx83 then (True) else (True))
def S_DR_compareSizes_J106 (K_S_DR_compareSizes_L56 : Int32 → Prop) (x2 : Int32) (x3 : Int32) (t0_0 : Int32) (t0_1 : Int32) (t0_2 : Int32) (t0_3 : Int64) (t0_4 : Int32) (t0_5 : Int32) (t0_6 : Int32) (t0_7 : Int32) (t0_8 : Int32) (t0_9 : Int32) (t0_10 : Int32) (t1_0 : (Nat → Int32)) (t2_0 : (Nat → Int32)) (t3_0 : (Nat → Int32)) (lx62 : Int32) (lx83 : Int32) : Prop := if (t2_0 x3.toNatClampNeg : Int32) ≤ lx62 then (S_DR_compareSizes_J136 K_S_DR_compareSizes_L56 x2 x3 t0_0 t0_1 t0_2 t0_3 t0_4 t0_5 t0_6 t0_7 t0_8 t0_9 t0_10 t1_0 t2_0 t3_0 lx62 lx83 0) else ((0 ≤ ((1000 * x3 : Int32) + lx62 : Int32).toInt) ∧ ((((1000 * x3 : Int32) + lx62 : Int32).toInt ≤ 9999) ∧ (S_DR_compareSizes_J136 K_S_DR_compareSizes_L56 x2 x3 t0_0 t0_1 t0_2 t0_3 t0_4 t0_5 t0_6 t0_7 t0_8 t0_9 t0_10 t1_0 t2_0 t3_0 lx62 lx83 (t1_0 ((1000 * x3 : Int32) + lx62 : Int32).toNatClampNeg : Int32))))
def S_DR_compareSizes_J78 (K_S_DR_compareSizes_L56 : Int32 → Prop) (x2 : Int32) (x3 : Int32) (t0_0 : Int32) (t0_1 : Int32) (t0_2 : Int32) (t0_3 : Int64) (t0_4 : Int32) (t0_5 : Int32) (t0_6 : Int32) (t0_7 : Int32) (t0_8 : Int32) (t0_9 : Int32) (t0_10 : Int32) (t1_0 : (Nat → Int32)) (t2_0 : (Nat → Int32)) (t3_0 : (Nat → Int32)) (lx62 : Int32) : Prop := if (t2_0 x2.toNatClampNeg : Int32) ≤ lx62 then (S_DR_compareSizes_J106 K_S_DR_compareSizes_L56 x2 x3 t0_0 t0_1 t0_2 t0_3 t0_4 t0_5 t0_6 t0_7 t0_8 t0_9 t0_10 t1_0 t2_0 t3_0 lx62 0) else ((0 ≤ ((1000 * x2 : Int32) + lx62 : Int32).toInt) ∧ ((((1000 * x2 : Int32) + lx62 : Int32).toInt ≤ 9999) ∧ (S_DR_compareSizes_J106 K_S_DR_compareSizes_L56 x2 x3 t0_0 t0_1 t0_2 t0_3 t0_4 t0_5 t0_6 t0_7 t0_8 t0_9 t0_10 t1_0 t2_0 t3_0 lx62 (t1_0 ((1000 * x2 : Int32) + lx62 : Int32).toNatClampNeg : Int32))))
def S_DR_compareSizes_L56 (x2 : Int32) (x3 : Int32) (t0_0 : Int32) (t0_1 : Int32) (t0_2 : Int32) (t0_3 : Int64) (t0_4 : Int32) (t0_5 : Int32) (t0_6 : Int32) (t0_7 : Int32) (t0_8 : Int32) (t0_9 : Int32) (t0_10 : Int32) (t1_0 : (Nat → Int32)) (t2_0 : (Nat → Int32)) (t3_0 : (Nat → Int32)) : Nat → Int32 → Prop
  | 0, _ => False
  | fm + 1, lx62 => if lx62 < (t2_0 x2.toNatClampNeg : Int32) then (S_DR_compareSizes_J78 (S_DR_compareSizes_L56 x2 x3 t0_0 t0_1 t0_2 t0_3 t0_4 t0_5 t0_6 t0_7 t0_8 t0_9 t0_10 t1_0 t2_0 t3_0 fm) x2 x3 t0_0 t0_1 t0_2 t0_3 t0_4 t0_5 t0_6 t0_7 t0_8 t0_9 t0_10 t1_0 t2_0 t3_0 lx62) else (if (t2_0 x3.toNatClampNeg : Int32) ≤ lx62 then (True) else (S_DR_compareSizes_J78 (S_DR_compareSizes_L56 x2 x3 t0_0 t0_1 t0_2 t0_3 t0_4 t0_5 t0_6 t0_7 t0_8 t0_9 t0_10 t1_0 t2_0 t3_0 fm) x2 x3 t0_0 t0_1 t0_2 t0_3 t0_4 t0_5 t0_6 t0_7 t0_8 t0_9 t0_10 t1_0 t2_0 t3_0 lx62))
def S_DR_compareSizes (x2 : Int32) (x3 : Int32) (t0_0 : Int32) (t0_1 : Int32) (t0_2 : Int32) (t0_3 : Int64) (t0_4 : Int32) (t0_5 : Int32) (t0_6 : Int32) (t0_7 : Int32) (t0_8 : Int32) (t0_9 : Int32) (t0_10 : Int32) (t1_0 : (Nat → Int32)) (t2_0 : (Nat → Int32)) (t3_0 : (Nat → Int32)) : Prop := (0 ≤ x2.toInt) ∧ ((x2.toInt ≤ 9) ∧ ((0 ≤ x3.toInt) ∧ ((x3.toInt ≤ 9) ∧ (if (lg_cmp (((t2_0 x2.toNatClampNeg : Int32).toInt64 : Int64) - ((t3_0 x2.toNatClampNeg : Int32).toInt64 : Int64) : Int64) (((t2_0 x3.toNatClampNeg : Int32).toInt64 : Int64) - ((t3_0 x3.toNatClampNeg : Int32).toInt64 : Int64) : Int64) : Int32) = (0 : Int32) then (S_DR_compareSizes_L56 x2 x3 t0_0 t0_1 t0_2 t0_3 t0_4 t0_5 t0_6 t0_7 t0_8 t0_9 t0_10 t1_0 t2_0 t3_0 1000000 0) else (if (0 : Int32) ≤ (lg_cmp (((t2_0 x2.toNatClampNeg : Int32).toInt64 : Int64) - ((t3_0 x2.toNatClampNeg : Int32).toInt64 : Int64) : Int64) (((t2_0 x3.toNatClampNeg : Int32).toInt64 : Int64) - ((t3_0 x3.toNatClampNeg : Int32).toInt64 : Int64) : Int64) : Int32) then (True) else (True))))))
set_option maxRecDepth 100000 in
set_option maxHeartbeats 4000000 in
theorem X_DR_compareSizes (l : Launch) (D : va_G) (g : Nat → ClassId) (q : Nat → Nat) (ws : va_W) (x2 : Int32) (x3 : Int32) (hI : q_I (msh g q) q ws) (t0_0 : Int32) (t0_1 : Int32) (t0_2 : Int32) (t0_3 : Int64) (t0_4 : Int32) (t0_5 : Int32) (t0_6 : Int32) (t0_7 : Int32) (t0_8 : Int32) (t0_9 : Int32) (t0_10 : Int32) (hT0 : ws[134]? = (some (q 134, .inr (14, [.int t0_0, .ref (q 135), .int t0_1, .ref (q 136), .ref (q 137), .ref (q 138), .ref (q 139), .ref (q 140), .int t0_2, .long t0_3, .int t0_4, .int t0_5, .ref (q 141), .int t0_6, .ref (q 142), .int t0_7, .ref (q 143), .int t0_8, .ref (q 144), .int t0_9, .int t0_10])) : Option (Nat × va_E))) (t1_0 : (Nat → Int32)) (hT1 : ws[136]? = (some (q 136, .inl (g 0, (10000 : Int32).toNatClampNeg, .inl t1_0)) : Option (Nat × va_E))) (t2_0 : (Nat → Int32)) (hT2 : ws[137]? = (some (q 137, .inl (g 0, (10 : Int32).toNatClampNeg, .inl t2_0)) : Option (Nat × va_E))) (t3_0 : (Nat → Int32)) (hT3 : ws[139]? = (some (q 139, .inl (g 0, (10 : Int32).toNatClampNeg, .inl t3_0)) : Option (Nat × va_E))) (hS : True ∧ S_DR_compareSizes x2 x3 t0_0 t0_1 t0_2 t0_3 t0_4 t0_5 t0_6 t0_7 t0_8 t0_9 t0_10 t1_0 t2_0 t3_0) : q_mI l y_DR_compareSizes prog_15_method_23_code 10 (.int) 1 0 0 D g [.ref (q 134), .int x2, .int x3] ws (fun r u => ws = u ∧ (0 ≤ r.toInt + 1) ∧ (r.toInt ≤ 1) ∧ (x2.toInt ≤ r.toInt + 10) ∧ (r.toInt ≤ x2.toInt + 1) ∧ (x3.toInt ≤ r.toInt + 10) ∧ (r.toInt ≤ x3.toInt + 1) ∧ r = (F_DR_compareSizes x2 x3 t0_0 t0_1 t0_2 t0_3 t0_4 t0_5 t0_6 t0_7 t0_8 t0_9 t0_10 t1_0 t2_0 t3_0)) := by
  intro sz
  refine q_into (by decide) (Nat.le_of_ble_eq_true rfl) ?_
  intro p e s m below meth c ls hsz C0 V hl
  have hx := C0.1
  have hb := C0.2.1
  have hZ9 := (n_w134 hI hT0).2.2
  obtain ⟨-, btt0_9⟩ := hZ9
  clear btt0_9
  have hl : lv_has ls 10 [(0, .ref (q 134)), (1, .int x2), (2, .int x3)] := hl
  refine lv_aload_n hx hb d_15_23_0 rfl (lv_at hl 0 rfl) ?_
  refine q_get (ci := 14) (j := 4) (v := .ref (q 137)) C0 V i_DR rfl rfl hT0 (by decide) w_2004 rfl d_15_23_1 ?_
  refine lv_iload_n hx hb d_15_23_4 rfl (lv_at hl 1 rfl) ?_
  have ob26 : q_F (0 ≤ x2.toInt) := (by have h := hS; rw [S_DR_compareSizes.eq_1] at h; exact h.2.1)
  have ob27 : q_F (x2.toInt ≤ 9) := (by have h := hS; rw [S_DR_compareSizes.eq_1] at h; replace h := q_s2 h; exact h.2.1)
  refine q_iald C0 V hT2 (q_ix (x := x2.toInt) rfl (by first | with_reducible exact q_fe ob26 | (have t1 : 0 ≤ x2.toInt := ob26; omega)) (by have t1 : 0 ≤ x2.toInt := ob26; have t2 : x2.toInt ≤ 9 := ob27; have e9 : (((10 : Int32).toNatClampNeg : Nat) : Int) = 10 := (by decide); omega)) d_15_23_5 ?_
  obtain ⟨a28, e29⟩ := q_nm (t2_0 x2.toNatClampNeg : Int32)
  refine q_ti (v := a28) e29 ?_
  refine lv_i2l hx hb d_15_23_6 rfl ?_
  obtain ⟨j30, e31⟩ := q_nm (a28.toInt64 : Int64)
  refine q_tl (v := j30) e31 ?_
  refine lv_aload_n hx hb d_15_23_7 rfl (lv_at hl 0 rfl) ?_
  refine q_get (ci := 14) (j := 6) (v := .ref (q 139)) C0 V i_DR rfl rfl hT0 (by decide) w_2008 rfl d_15_23_8 ?_
  refine lv_iload_n hx hb d_15_23_11 rfl (lv_at hl 1 rfl) ?_
  refine q_iald C0 V hT3 (q_ix (x := x2.toInt) rfl (by first | with_reducible exact q_fe ob26 | (have t1 : 0 ≤ x2.toInt := ob26; omega)) (by have t1 : 0 ≤ x2.toInt := ob26; have t2 : x2.toInt ≤ 9 := ob27; have e9 : (((10 : Int32).toNatClampNeg : Nat) : Int) = 10 := (by decide); omega)) d_15_23_12 ?_
  obtain ⟨a33, e34⟩ := q_nm (t3_0 x2.toNatClampNeg : Int32)
  refine q_ti (v := a33) e34 ?_
  refine lv_i2l hx hb d_15_23_13 rfl ?_
  obtain ⟨j35, e36⟩ := q_nm (a33.toInt64 : Int64)
  refine q_tl (v := j35) e36 ?_
  refine lv_lsub hx hb d_15_23_14 ?_
  obtain ⟨j38, e39⟩ := q_nm (j30 - j35 : Int64)
  refine q_tl (v := j38) e39 ?_
  refine lv_lstore_n (lv' := [(3, .long j38), (0, .ref (q 134)), (1, .int x2), (2, .int x3)]) hx hb d_15_23_15 rfl hl (by decide) rfl (fun ls hl => ?_)
  refine lv_aload_n hx hb d_15_23_16 rfl (lv_at hl 1 rfl) ?_
  refine q_get (ci := 14) (j := 4) (v := .ref (q 137)) C0 V i_DR rfl rfl hT0 (by decide) w_2004 rfl d_15_23_17 ?_
  refine lv_iload_n hx hb d_15_23_20 rfl (lv_at hl 3 rfl) ?_
  have ob41 : q_F (0 ≤ x3.toInt) := (by have h := hS; rw [S_DR_compareSizes.eq_1] at h; replace h := q_s2 h; replace h := q_s2 h; exact h.2.1)
  have ob42 : q_F (x3.toInt ≤ 9) := (by have h := hS; rw [S_DR_compareSizes.eq_1] at h; replace h := q_s2 h; replace h := q_s2 h; replace h := q_s2 h; exact h.2.1)
  refine q_iald C0 V hT2 (q_ix (x := x3.toInt) rfl (by first | with_reducible exact q_fe ob41 | (have t1 : 0 ≤ x3.toInt := ob41; omega)) (by have t1 : 0 ≤ x3.toInt := ob41; have t2 : x3.toInt ≤ 9 := ob42; have e9 : (((10 : Int32).toNatClampNeg : Nat) : Int) = 10 := (by decide); omega)) d_15_23_21 ?_
  obtain ⟨a43, e44⟩ := q_nm (t2_0 x3.toNatClampNeg : Int32)
  refine q_ti (v := a43) e44 ?_
  refine lv_i2l hx hb d_15_23_22 rfl ?_
  obtain ⟨j45, e46⟩ := q_nm (a43.toInt64 : Int64)
  refine q_tl (v := j45) e46 ?_
  refine lv_aload_n hx hb d_15_23_23 rfl (lv_at hl 1 rfl) ?_
  refine q_get (ci := 14) (j := 6) (v := .ref (q 139)) C0 V i_DR rfl rfl hT0 (by decide) w_2008 rfl d_15_23_24 ?_
  refine lv_iload_n hx hb d_15_23_27 rfl (lv_at hl 3 rfl) ?_
  refine q_iald C0 V hT3 (q_ix (x := x3.toInt) rfl (by first | with_reducible exact q_fe ob41 | (have t1 : 0 ≤ x3.toInt := ob41; omega)) (by have t1 : 0 ≤ x3.toInt := ob41; have t2 : x3.toInt ≤ 9 := ob42; have e9 : (((10 : Int32).toNatClampNeg : Nat) : Int) = 10 := (by decide); omega)) d_15_23_28 ?_
  obtain ⟨a48, e49⟩ := q_nm (t3_0 x3.toNatClampNeg : Int32)
  refine q_ti (v := a48) e49 ?_
  refine lv_i2l hx hb d_15_23_29 rfl ?_
  obtain ⟨j50, e51⟩ := q_nm (a48.toInt64 : Int64)
  refine q_tl (v := j50) e51 ?_
  refine lv_lsub hx hb d_15_23_30 ?_
  obtain ⟨j53, e54⟩ := q_nm (j45 - j50 : Int64)
  refine q_tl (v := j53) e54 ?_
  refine lv_lstore (lv' := [(5, .long j53), (3, .long j38), (0, .ref (q 134)), (1, .int x2), (2, .int x3)]) hx hb d_15_23_31 hl (by decide) rfl (fun ls hl => ?_)
  refine lv_lload_n hx hb d_15_23_33 rfl (lv_at hl 1 rfl) ?_
  refine lv_lload hx hb d_15_23_34 (lv_at hl 0 rfl) ?_
  refine W.lcmp hx hb d_15_23_36 ?_
  obtain ⟨a56, e57⟩ := q_nm (lg_cmp j38 j53 : Int32)
  refine q_ti (v := a56) e57 ?_
  refine lv_if_eq (tgt := 53) hx hb d_15_23_37 (by decide) (fun c59 => ?_) (fun c59 => ?_)
  ·
    refine lv_iconst (v := 0) hx hb d_15_23_53 (by decide) ?_
    refine lv_istore (lv' := [(7, .int 0), (5, .long j53), (3, .long j38), (0, .ref (q 134)), (1, .int x2), (2, .int x3)]) hx hb d_15_23_54 hl (by decide) rfl (fun ls hl => ?_)
    refine q_loop (X := Nat × Int32) (fun z H locs ls _ => q_Wd D g (va_A ws sz) s ws H locs ∧ lv_has ls 10 [(7, .int z.2), (0, .ref (q 134)), (1, .int x2), (2, .int x3)] ∧ F_DR_compareSizes_L56 x2 x3 t0_0 t0_1 t0_2 t0_3 t0_4 t0_5 t0_6 t0_7 t0_8 t0_9 t0_10 t1_0 t2_0 t3_0 z.1 z.2 = (F_DR_compareSizes x2 x3 t0_0 t0_1 t0_2 t0_3 t0_4 t0_5 t0_6 t0_7 t0_8 t0_9 t0_10 t1_0 t2_0 t3_0) ∧ True ∧ S_DR_compareSizes_L56 x2 x3 t0_0 t0_1 t0_2 t0_3 t0_4 t0_5 t0_6 t0_7 t0_8 t0_9 t0_10 t1_0 t2_0 t3_0 z.1 z.2) (fun z => z.1) ?_ ((1000000 : Nat), (0 : Int32)) _ _ _ ws ⟨V, q_lw hl (q_lw1 0 rfl (q_lw1 3 rfl (q_lw1 4 rfl (q_lw1 5 rfl q_lw0)))), (show F_DR_compareSizes_L56 x2 x3 t0_0 t0_1 t0_2 t0_3 t0_4 t0_5 t0_6 t0_7 t0_8 t0_9 t0_10 t1_0 t2_0 t3_0 1000000 0 = (F_DR_compareSizes x2 x3 t0_0 t0_1 t0_2 t0_3 t0_4 t0_5 t0_6 t0_7 t0_8 t0_9 t0_10 t1_0 t2_0 t3_0) from (by have c59x := c59; rw [← e57, ← e54, ← e51, ← e49, ← e46, ← e44, ← e39, ← e36, ← e34, ← e31, ← e29] at c59x; rw [F_DR_compareSizes.eq_1, if_pos c59x])), (show True ∧ S_DR_compareSizes_L56 x2 x3 t0_0 t0_1 t0_2 t0_3 t0_4 t0_5 t0_6 t0_7 t0_8 t0_9 t0_10 t1_0 t2_0 t3_0 1000000 0 from (by have h := hS; rw [S_DR_compareSizes.eq_1] at h; replace h := q_s2 h; replace h := q_s2 h; replace h := q_s2 h; replace h := q_s2 h; have c59x := c59; rw [← e57, ← e54, ← e51, ← e49, ← e46, ← e44, ← e39, ← e36, ← e34, ← e31, ← e29] at c59x; rw [if_pos c59x] at h; with_reducible exact h))⟩
    rintro ⟨fu66, lx62⟩ H locs ls _ ⟨V, hl, hR64, hS65⟩ ih63
    obtain ⟨fm68, rfl⟩ : ∃ m, fu66 = m + 1 := Nat.exists_eq_succ_of_ne_zero (fun e => by subst e; rw [S_DR_compareSizes_L56.eq_1] at hS65; exact hS65.2)
    replace hl : lv_has ls 10 [(7, .int lx62), (0, .ref (q 134)), (1, .int x2), (2, .int x3)] := hl
    refine lv_iload hx hb d_15_23_56 (lv_at hl 0 rfl) ?_
    refine lv_aload_n hx hb d_15_23_58 rfl (lv_at hl 1 rfl) ?_
    refine q_get (ci := 14) (j := 4) (v := .ref (q 137)) C0 V i_DR rfl rfl hT0 (by decide) w_2004 rfl d_15_23_59 ?_
    refine lv_iload_n hx hb d_15_23_62 rfl (lv_at hl 2 rfl) ?_
    refine q_iald C0 V hT2 (q_ix (x := x2.toInt) rfl (by first | with_reducible exact q_fe ob26 | (have t1 : 0 ≤ x2.toInt := ob26; omega)) (by have t1 : 0 ≤ x2.toInt := ob26; have t2 : x2.toInt ≤ 9 := ob27; have e9 : (((10 : Int32).toNatClampNeg : Nat) : Int) = 10 := (by decide); omega)) d_15_23_63 ?_
    obtain ⟨a69, e70⟩ := q_nm (t2_0 x2.toNatClampNeg : Int32)
    refine q_ti (v := a69) e70 ?_
    refine q_join (X := Unit) (fun z H locs ls _ => q_Wd D g (va_A ws sz) s ws H locs ∧ lv_has ls 10 [(7, .int lx62), (0, .ref (q 134)), (1, .int x2), (2, .int x3)] ∧ F_DR_compareSizes_J78 (F_DR_compareSizes_L56 x2 x3 t0_0 t0_1 t0_2 t0_3 t0_4 t0_5 t0_6 t0_7 t0_8 t0_9 t0_10 t1_0 t2_0 t3_0 fm68) x2 x3 t0_0 t0_1 t0_2 t0_3 t0_4 t0_5 t0_6 t0_7 t0_8 t0_9 t0_10 t1_0 t2_0 t3_0 lx62 = (F_DR_compareSizes x2 x3 t0_0 t0_1 t0_2 t0_3 t0_4 t0_5 t0_6 t0_7 t0_8 t0_9 t0_10 t1_0 t2_0 t3_0) ∧ True ∧ S_DR_compareSizes_J78 (S_DR_compareSizes_L56 x2 x3 t0_0 t0_1 t0_2 t0_3 t0_4 t0_5 t0_6 t0_7 t0_8 t0_9 t0_10 t1_0 t2_0 t3_0 fm68) x2 x3 t0_0 t0_1 t0_2 t0_3 t0_4 t0_5 t0_6 t0_7 t0_8 t0_9 t0_10 t1_0 t2_0 t3_0 lx62) (fun z => []) 78 0 0 ?_ ?_
    ·
      rintro _ H locs ls _ ⟨V, hl, hR76, hS77⟩
      replace hl : lv_has ls 10 [(7, .int lx62), (0, .ref (q 134)), (1, .int x2), (2, .int x3)] := hl
      refine lv_iload hx hb d_15_23_78 (lv_at hl 0 rfl) ?_
      refine lv_aload_n hx hb d_15_23_80 rfl (lv_at hl 1 rfl) ?_
      refine q_get (ci := 14) (j := 4) (v := .ref (q 137)) C0 V i_DR rfl rfl hT0 (by decide) w_2004 rfl d_15_23_81 ?_
      refine lv_iload_n hx hb d_15_23_84 rfl (lv_at hl 2 rfl) ?_
      refine q_iald C0 V hT2 (q_ix (x := x2.toInt) rfl (by first | with_reducible exact q_fe ob26 | (have t1 : 0 ≤ x2.toInt := ob26; omega)) (by have t1 : 0 ≤ x2.toInt := ob26; have t2 : x2.toInt ≤ 9 := ob27; have e9 : (((10 : Int32).toNatClampNeg : Nat) : Int) = 10 := (by decide); omega)) d_15_23_85 ?_
      obtain ⟨a81, e82⟩ := q_nm (t2_0 x2.toNatClampNeg : Int32)
      refine q_ti (v := a81) e82 ?_
      refine q_join (X := Int32) (fun z H locs ls _ => q_Wd D g (va_A ws sz) s ws H locs ∧ lv_has ls 10 [(7, .int lx62), (0, .ref (q 134)), (1, .int x2), (2, .int x3)] ∧ F_DR_compareSizes_J106 (F_DR_compareSizes_L56 x2 x3 t0_0 t0_1 t0_2 t0_3 t0_4 t0_5 t0_6 t0_7 t0_8 t0_9 t0_10 t1_0 t2_0 t3_0 fm68) x2 x3 t0_0 t0_1 t0_2 t0_3 t0_4 t0_5 t0_6 t0_7 t0_8 t0_9 t0_10 t1_0 t2_0 t3_0 lx62 z = (F_DR_compareSizes x2 x3 t0_0 t0_1 t0_2 t0_3 t0_4 t0_5 t0_6 t0_7 t0_8 t0_9 t0_10 t1_0 t2_0 t3_0) ∧ True ∧ S_DR_compareSizes_J106 (S_DR_compareSizes_L56 x2 x3 t0_0 t0_1 t0_2 t0_3 t0_4 t0_5 t0_6 t0_7 t0_8 t0_9 t0_10 t1_0 t2_0 t3_0 fm68) x2 x3 t0_0 t0_1 t0_2 t0_3 t0_4 t0_5 t0_6 t0_7 t0_8 t0_9 t0_10 t1_0 t2_0 t3_0 lx62 z) (fun z => [.int z]) 106 0 0 ?_ ?_
      ·
        rintro lx83 H locs ls _ ⟨V, hl, hR89, hS90⟩
        replace hl : lv_has ls 10 [(7, .int lx62), (0, .ref (q 134)), (1, .int x2), (2, .int x3)] := hl
        refine lv_istore (lv' := [(8, .int lx83), (7, .int lx62), (0, .ref (q 134)), (1, .int x2), (2, .int x3)]) hx hb d_15_23_106 hl (by decide) rfl (fun ls hl => ?_)
        refine lv_iload hx hb d_15_23_108 (lv_at hl 1 rfl) ?_
        refine lv_aload_n hx hb d_15_23_110 rfl (lv_at hl 2 rfl) ?_
        refine q_get (ci := 14) (j := 4) (v := .ref (q 137)) C0 V i_DR rfl rfl hT0 (by decide) w_2004 rfl d_15_23_111 ?_
        refine lv_iload_n hx hb d_15_23_114 rfl (lv_at hl 4 rfl) ?_
        refine q_iald C0 V hT2 (q_ix (x := x3.toInt) rfl (by first | with_reducible exact q_fe ob41 | (have t1 : 0 ≤ x3.toInt := ob41; omega)) (by have t1 : 0 ≤ x3.toInt := ob41; have t2 : x3.toInt ≤ 9 := ob42; have e9 : (((10 : Int32).toNatClampNeg : Nat) : Int) = 10 := (by decide); omega)) d_15_23_115 ?_
        obtain ⟨a94, e95⟩ := q_nm (t2_0 x3.toNatClampNeg : Int32)
        refine q_ti (v := a94) e95 ?_
        refine q_join (X := Int32) (fun z H locs ls _ => q_Wd D g (va_A ws sz) s ws H locs ∧ lv_has ls 10 [(8, .int lx83), (7, .int lx62), (0, .ref (q 134)), (1, .int x2), (2, .int x3)] ∧ F_DR_compareSizes_J136 (F_DR_compareSizes_L56 x2 x3 t0_0 t0_1 t0_2 t0_3 t0_4 t0_5 t0_6 t0_7 t0_8 t0_9 t0_10 t1_0 t2_0 t3_0 fm68) x2 x3 t0_0 t0_1 t0_2 t0_3 t0_4 t0_5 t0_6 t0_7 t0_8 t0_9 t0_10 t1_0 t2_0 t3_0 lx62 lx83 z = (F_DR_compareSizes x2 x3 t0_0 t0_1 t0_2 t0_3 t0_4 t0_5 t0_6 t0_7 t0_8 t0_9 t0_10 t1_0 t2_0 t3_0) ∧ True ∧ S_DR_compareSizes_J136 (S_DR_compareSizes_L56 x2 x3 t0_0 t0_1 t0_2 t0_3 t0_4 t0_5 t0_6 t0_7 t0_8 t0_9 t0_10 t1_0 t2_0 t3_0 fm68) x2 x3 t0_0 t0_1 t0_2 t0_3 t0_4 t0_5 t0_6 t0_7 t0_8 t0_9 t0_10 t1_0 t2_0 t3_0 lx62 lx83 z) (fun z => [.int z]) 136 0 0 ?_ ?_
        ·
          rintro lx96 H locs ls _ ⟨V, hl, hR102, hS103⟩
          replace hl : lv_has ls 10 [(8, .int lx83), (7, .int lx62), (0, .ref (q 134)), (1, .int x2), (2, .int x3)] := hl
          refine lv_istore (lv' := [(9, .int lx96), (8, .int lx83), (7, .int lx62), (0, .ref (q 134)), (1, .int x2), (2, .int x3)]) hx hb d_15_23_136 hl (by decide) rfl (fun ls hl => ?_)
          refine lv_iload hx hb d_15_23_138 (lv_at hl 1 rfl) ?_
          refine lv_iload hx hb d_15_23_140 (lv_at hl 0 rfl) ?_
          refine lv_icmp_eq (tgt := 158) hx hb d_15_23_142 (by decide) (fun c107 => ?_) (fun c107 => ?_)
          ·
            obtain ⟨a109, e110⟩ := q_nm (lx62 + 1 : Int32)
            refine lv_iinc (v := a109) (lv' := [(7, .int a109), (9, .int lx96), (8, .int lx83), (0, .ref (q 134)), (1, .int x2), (2, .int x3)]) hx hb d_15_23_158 hl (k := 2) rfl (e110) (by decide) rfl (fun ls hl => ?_)
            refine lv_goto (tgt := 56) hx hb d_15_23_161 (by decide) ?_
            exact ih63 ((fm68 : Nat), (a109 : Int32)) _ _ _ ws (Nat.lt_succ_self _) ⟨V, q_lw hl (q_lw1 0 rfl (q_lw1 3 rfl (q_lw1 4 rfl (q_lw1 5 rfl q_lw0)))), (show F_DR_compareSizes_L56 x2 x3 t0_0 t0_1 t0_2 t0_3 t0_4 t0_5 t0_6 t0_7 t0_8 t0_9 t0_10 t1_0 t2_0 t3_0 fm68 a109 = (F_DR_compareSizes x2 x3 t0_0 t0_1 t0_2 t0_3 t0_4 t0_5 t0_6 t0_7 t0_8 t0_9 t0_10 t1_0 t2_0 t3_0) from Eq.trans (by rw [← e110, F_DR_compareSizes_J136.eq_1, if_pos c107]) hR102), (show True ∧ S_DR_compareSizes_L56 x2 x3 t0_0 t0_1 t0_2 t0_3 t0_4 t0_5 t0_6 t0_7 t0_8 t0_9 t0_10 t1_0 t2_0 t3_0 fm68 a109 from (by rw [← e110]; have h := hS103; rw [S_DR_compareSizes_J136.eq_1] at h; rw [if_pos c107] at h; with_reducible exact h))⟩
          ·
            refine lv_iload hx hb d_15_23_145 (lv_at hl 1 rfl) ?_
            refine lv_iload hx hb d_15_23_147 (lv_at hl 0 rfl) ?_
            refine lv_icmp_ge (tgt := 156) hx hb d_15_23_149 (by decide) (fun c112 => ?_) (fun c112 => ?_)
            ·
              refine lv_iconst (v := 1) hx hb d_15_23_156 (by decide) ?_
              exact q_reti C0 V (⟨rfl, (show 0 ≤ (1 : Int32).toInt + 1 from (by have z16 : (1 : Int32).toInt = 1 := rfl; omega)), (show (1 : Int32).toInt ≤ 1 from (by have z16 : (1 : Int32).toInt = 1 := rfl; omega)), (show x2.toInt ≤ (1 : Int32).toInt + 10 from (by have z16 : (1 : Int32).toInt = 1 := rfl; have t1 : x2.toInt ≤ 9 := ob27; omega)), (show (1 : Int32).toInt ≤ x2.toInt + 1 from (by have z16 : (1 : Int32).toInt = 1 := rfl; have t1 : 0 ≤ x2.toInt := ob26; omega)), (show x3.toInt ≤ (1 : Int32).toInt + 10 from (by have z16 : (1 : Int32).toInt = 1 := rfl; have t1 : x3.toInt ≤ 9 := ob42; omega)), (show (1 : Int32).toInt ≤ x3.toInt + 1 from (by have z16 : (1 : Int32).toInt = 1 := rfl; have t1 : 0 ≤ x3.toInt := ob41; omega)), (show (1 : Int32) = (F_DR_compareSizes x2 x3 t0_0 t0_1 t0_2 t0_3 t0_4 t0_5 t0_6 t0_7 t0_8 t0_9 t0_10 t1_0 t2_0 t3_0) from Eq.trans (by rw [F_DR_compareSizes_J136.eq_1, if_neg c107, if_pos c112]) hR102)⟩) d_15_23_157
            ·
              refine lv_iconst (v := (-1)) hx hb d_15_23_152 (by decide) ?_
              refine lv_goto (tgt := 157) hx hb d_15_23_153 (by decide) ?_
              exact q_reti C0 V (⟨rfl, (show 0 ≤ (-1 : Int32).toInt + 1 from (by have z16 : (-1 : Int32).toInt = -1 := rfl; omega)), (show (-1 : Int32).toInt ≤ 1 from (by have z16 : (-1 : Int32).toInt = -1 := rfl; omega)), (show x2.toInt ≤ (-1 : Int32).toInt + 10 from (by have z16 : (-1 : Int32).toInt = -1 := rfl; have t1 : x2.toInt ≤ 9 := ob27; omega)), (show (-1 : Int32).toInt ≤ x2.toInt + 1 from (by have z16 : (-1 : Int32).toInt = -1 := rfl; have t1 : 0 ≤ x2.toInt := ob26; omega)), (show x3.toInt ≤ (-1 : Int32).toInt + 10 from (by have z16 : (-1 : Int32).toInt = -1 := rfl; have t1 : x3.toInt ≤ 9 := ob42; omega)), (show (-1 : Int32).toInt ≤ x3.toInt + 1 from (by have z16 : (-1 : Int32).toInt = -1 := rfl; have t1 : 0 ≤ x3.toInt := ob41; omega)), (show (-1 : Int32) = (F_DR_compareSizes x2 x3 t0_0 t0_1 t0_2 t0_3 t0_4 t0_5 t0_6 t0_7 t0_8 t0_9 t0_10 t1_0 t2_0 t3_0) from Eq.trans (by rw [F_DR_compareSizes_J136.eq_1, if_neg c107, if_neg c112]) hR102)⟩) d_15_23_157
        ·
          intro J101
          refine lv_icmp_ge (tgt := 135) hx hb d_15_23_116 (by decide) (fun c115 => ?_) (fun c115 => ?_)
          ·
            refine lv_iconst (v := 0) hx hb d_15_23_135 (by decide) ?_
            exact J101 ((0 : Int32)) _ _ _ ws ⟨V, q_lw hl (q_lw1 0 rfl (q_lw1 1 rfl (q_lw1 2 rfl (q_lw1 3 rfl (q_lw1 4 rfl q_lw0))))), (show F_DR_compareSizes_J136 (F_DR_compareSizes_L56 x2 x3 t0_0 t0_1 t0_2 t0_3 t0_4 t0_5 t0_6 t0_7 t0_8 t0_9 t0_10 t1_0 t2_0 t3_0 fm68) x2 x3 t0_0 t0_1 t0_2 t0_3 t0_4 t0_5 t0_6 t0_7 t0_8 t0_9 t0_10 t1_0 t2_0 t3_0 lx62 lx83 0 = (F_DR_compareSizes x2 x3 t0_0 t0_1 t0_2 t0_3 t0_4 t0_5 t0_6 t0_7 t0_8 t0_9 t0_10 t1_0 t2_0 t3_0) from Eq.trans (by have c115x := c115; rw [← e95] at c115x; rw [F_DR_compareSizes_J106.eq_1, if_pos c115x]) hR89), (show True ∧ S_DR_compareSizes_J136 (S_DR_compareSizes_L56 x2 x3 t0_0 t0_1 t0_2 t0_3 t0_4 t0_5 t0_6 t0_7 t0_8 t0_9 t0_10 t1_0 t2_0 t3_0 fm68) x2 x3 t0_0 t0_1 t0_2 t0_3 t0_4 t0_5 t0_6 t0_7 t0_8 t0_9 t0_10 t1_0 t2_0 t3_0 lx62 lx83 0 from (by have h := hS90; rw [S_DR_compareSizes_J106.eq_1] at h; have c115x := c115; rw [← e95] at c115x; rw [if_pos c115x] at h; with_reducible exact h))⟩
          ·
            refine lv_aload_n hx hb d_15_23_119 rfl (lv_at hl 2 rfl) ?_
            refine q_get (ci := 14) (j := 3) (v := .ref (q 136)) C0 V i_DR rfl rfl hT0 (by decide) w_2002 rfl d_15_23_120 ?_
            refine lv_sipush (v := 1000) hx hb d_15_23_123 (by decide) ?_
            refine lv_iload_n hx hb d_15_23_126 rfl (lv_at hl 4 rfl) ?_
            refine lv_imul hx hb d_15_23_127 ?_
            obtain ⟨a118, e119⟩ := q_nm (1000 * x3 : Int32)
            refine q_ti (v := a118) e119 ?_
            refine lv_iload hx hb d_15_23_128 (lv_at hl 1 rfl) ?_
            refine lv_iadd hx hb d_15_23_130 ?_
            obtain ⟨a121, e122⟩ := q_nm (a118 + lx62 : Int32)
            refine q_ti (v := a121) e122 ?_
            have ob123 : q_F (0 ≤ a121.toInt) := (by rw [← e122, ← e119]; have h := hS90; rw [S_DR_compareSizes_J106.eq_1] at h; have c115x := c115; rw [← e95] at c115x; rw [if_neg c115x] at h; exact h.2.1)
            have ob124 : q_F (a121.toInt ≤ 9999) := (by rw [← e122, ← e119]; have h := hS90; rw [S_DR_compareSizes_J106.eq_1] at h; have c115x := c115; rw [← e95] at c115x; rw [if_neg c115x] at h; replace h := q_s2 h; exact h.2.1)
            refine q_iald C0 V hT1 (q_ix (x := a121.toInt) rfl (by first | with_reducible exact q_fe ob123 | (have t1 : 0 ≤ a121.toInt := ob123; omega)) (by have t1 : 0 ≤ a121.toInt := ob123; have t2 : a121.toInt ≤ 9999 := ob124; have e9 : (((10000 : Int32).toNatClampNeg : Nat) : Int) = 10000 := (by decide); omega)) d_15_23_131 ?_
            obtain ⟨a125, e126⟩ := q_nm (t1_0 a121.toNatClampNeg : Int32)
            refine q_ti (v := a125) e126 ?_
            refine lv_goto (tgt := 136) hx hb d_15_23_132 (by decide) ?_
            exact J101 ((a125 : Int32)) _ _ _ ws ⟨V, q_lw hl (q_lw1 0 rfl (q_lw1 1 rfl (q_lw1 2 rfl (q_lw1 3 rfl (q_lw1 4 rfl q_lw0))))), (show F_DR_compareSizes_J136 (F_DR_compareSizes_L56 x2 x3 t0_0 t0_1 t0_2 t0_3 t0_4 t0_5 t0_6 t0_7 t0_8 t0_9 t0_10 t1_0 t2_0 t3_0 fm68) x2 x3 t0_0 t0_1 t0_2 t0_3 t0_4 t0_5 t0_6 t0_7 t0_8 t0_9 t0_10 t1_0 t2_0 t3_0 lx62 lx83 a125 = (F_DR_compareSizes x2 x3 t0_0 t0_1 t0_2 t0_3 t0_4 t0_5 t0_6 t0_7 t0_8 t0_9 t0_10 t1_0 t2_0 t3_0) from Eq.trans (by have c115x := c115; rw [← e95] at c115x; rw [← e126, ← e122, ← e119, F_DR_compareSizes_J106.eq_1, if_neg c115x]) hR89), (show True ∧ S_DR_compareSizes_J136 (S_DR_compareSizes_L56 x2 x3 t0_0 t0_1 t0_2 t0_3 t0_4 t0_5 t0_6 t0_7 t0_8 t0_9 t0_10 t1_0 t2_0 t3_0 fm68) x2 x3 t0_0 t0_1 t0_2 t0_3 t0_4 t0_5 t0_6 t0_7 t0_8 t0_9 t0_10 t1_0 t2_0 t3_0 lx62 lx83 a125 from (by rw [← e126, ← e122, ← e119]; have h := hS90; rw [S_DR_compareSizes_J106.eq_1] at h; have c115x := c115; rw [← e95] at c115x; rw [if_neg c115x] at h; replace h := q_s2 h; replace h := q_s2 h; with_reducible exact h))⟩
      ·
        intro J88
        refine lv_icmp_ge (tgt := 105) hx hb d_15_23_86 (by decide) (fun c127 => ?_) (fun c127 => ?_)
        ·
          refine lv_iconst (v := 0) hx hb d_15_23_105 (by decide) ?_
          exact J88 ((0 : Int32)) _ _ _ ws ⟨V, q_lw hl (q_lw1 0 rfl (q_lw1 1 rfl (q_lw1 2 rfl (q_lw1 3 rfl q_lw0)))), (show F_DR_compareSizes_J106 (F_DR_compareSizes_L56 x2 x3 t0_0 t0_1 t0_2 t0_3 t0_4 t0_5 t0_6 t0_7 t0_8 t0_9 t0_10 t1_0 t2_0 t3_0 fm68) x2 x3 t0_0 t0_1 t0_2 t0_3 t0_4 t0_5 t0_6 t0_7 t0_8 t0_9 t0_10 t1_0 t2_0 t3_0 lx62 0 = (F_DR_compareSizes x2 x3 t0_0 t0_1 t0_2 t0_3 t0_4 t0_5 t0_6 t0_7 t0_8 t0_9 t0_10 t1_0 t2_0 t3_0) from Eq.trans (by have c127x := c127; rw [← e82] at c127x; rw [F_DR_compareSizes_J78.eq_1, if_pos c127x]) hR76), (show True ∧ S_DR_compareSizes_J106 (S_DR_compareSizes_L56 x2 x3 t0_0 t0_1 t0_2 t0_3 t0_4 t0_5 t0_6 t0_7 t0_8 t0_9 t0_10 t1_0 t2_0 t3_0 fm68) x2 x3 t0_0 t0_1 t0_2 t0_3 t0_4 t0_5 t0_6 t0_7 t0_8 t0_9 t0_10 t1_0 t2_0 t3_0 lx62 0 from (by have h := hS77; rw [S_DR_compareSizes_J78.eq_1] at h; have c127x := c127; rw [← e82] at c127x; rw [if_pos c127x] at h; with_reducible exact h))⟩
        ·
          refine lv_aload_n hx hb d_15_23_89 rfl (lv_at hl 1 rfl) ?_
          refine q_get (ci := 14) (j := 3) (v := .ref (q 136)) C0 V i_DR rfl rfl hT0 (by decide) w_2002 rfl d_15_23_90 ?_
          refine lv_sipush (v := 1000) hx hb d_15_23_93 (by decide) ?_
          refine lv_iload_n hx hb d_15_23_96 rfl (lv_at hl 2 rfl) ?_
          refine lv_imul hx hb d_15_23_97 ?_
          obtain ⟨a130, e131⟩ := q_nm (1000 * x2 : Int32)
          refine q_ti (v := a130) e131 ?_
          refine lv_iload hx hb d_15_23_98 (lv_at hl 0 rfl) ?_
          refine lv_iadd hx hb d_15_23_100 ?_
          obtain ⟨a133, e134⟩ := q_nm (a130 + lx62 : Int32)
          refine q_ti (v := a133) e134 ?_
          have ob135 : q_F (0 ≤ a133.toInt) := (by rw [← e134, ← e131]; have h := hS77; rw [S_DR_compareSizes_J78.eq_1] at h; have c127x := c127; rw [← e82] at c127x; rw [if_neg c127x] at h; exact h.2.1)
          have ob136 : q_F (a133.toInt ≤ 9999) := (by rw [← e134, ← e131]; have h := hS77; rw [S_DR_compareSizes_J78.eq_1] at h; have c127x := c127; rw [← e82] at c127x; rw [if_neg c127x] at h; replace h := q_s2 h; exact h.2.1)
          refine q_iald C0 V hT1 (q_ix (x := a133.toInt) rfl (by first | with_reducible exact q_fe ob135 | (have t1 : 0 ≤ a133.toInt := ob135; omega)) (by have t1 : 0 ≤ a133.toInt := ob135; have t2 : a133.toInt ≤ 9999 := ob136; have e9 : (((10000 : Int32).toNatClampNeg : Nat) : Int) = 10000 := (by decide); omega)) d_15_23_101 ?_
          obtain ⟨a137, e138⟩ := q_nm (t1_0 a133.toNatClampNeg : Int32)
          refine q_ti (v := a137) e138 ?_
          refine lv_goto (tgt := 106) hx hb d_15_23_102 (by decide) ?_
          exact J88 ((a137 : Int32)) _ _ _ ws ⟨V, q_lw hl (q_lw1 0 rfl (q_lw1 1 rfl (q_lw1 2 rfl (q_lw1 3 rfl q_lw0)))), (show F_DR_compareSizes_J106 (F_DR_compareSizes_L56 x2 x3 t0_0 t0_1 t0_2 t0_3 t0_4 t0_5 t0_6 t0_7 t0_8 t0_9 t0_10 t1_0 t2_0 t3_0 fm68) x2 x3 t0_0 t0_1 t0_2 t0_3 t0_4 t0_5 t0_6 t0_7 t0_8 t0_9 t0_10 t1_0 t2_0 t3_0 lx62 a137 = (F_DR_compareSizes x2 x3 t0_0 t0_1 t0_2 t0_3 t0_4 t0_5 t0_6 t0_7 t0_8 t0_9 t0_10 t1_0 t2_0 t3_0) from Eq.trans (by have c127x := c127; rw [← e82] at c127x; rw [← e138, ← e134, ← e131, F_DR_compareSizes_J78.eq_1, if_neg c127x]) hR76), (show True ∧ S_DR_compareSizes_J106 (S_DR_compareSizes_L56 x2 x3 t0_0 t0_1 t0_2 t0_3 t0_4 t0_5 t0_6 t0_7 t0_8 t0_9 t0_10 t1_0 t2_0 t3_0 fm68) x2 x3 t0_0 t0_1 t0_2 t0_3 t0_4 t0_5 t0_6 t0_7 t0_8 t0_9 t0_10 t1_0 t2_0 t3_0 lx62 a137 from (by rw [← e138, ← e134, ← e131]; have h := hS77; rw [S_DR_compareSizes_J78.eq_1] at h; have c127x := c127; rw [← e82] at c127x; rw [if_neg c127x] at h; replace h := q_s2 h; replace h := q_s2 h; with_reducible exact h))⟩
    ·
      intro J75
      refine lv_icmp_lt (tgt := 78) hx hb d_15_23_64 (by decide) (fun c139 => ?_) (fun c139 => ?_)
      ·
        exact J75 (()) _ _ _ ws ⟨V, q_lw hl (q_lw1 0 rfl (q_lw1 1 rfl (q_lw1 2 rfl (q_lw1 3 rfl q_lw0)))), (show F_DR_compareSizes_J78 (F_DR_compareSizes_L56 x2 x3 t0_0 t0_1 t0_2 t0_3 t0_4 t0_5 t0_6 t0_7 t0_8 t0_9 t0_10 t1_0 t2_0 t3_0 fm68) x2 x3 t0_0 t0_1 t0_2 t0_3 t0_4 t0_5 t0_6 t0_7 t0_8 t0_9 t0_10 t1_0 t2_0 t3_0 lx62 = (F_DR_compareSizes x2 x3 t0_0 t0_1 t0_2 t0_3 t0_4 t0_5 t0_6 t0_7 t0_8 t0_9 t0_10 t1_0 t2_0 t3_0) from Eq.trans (by have c139x := c139; rw [← e70] at c139x; rw [F_DR_compareSizes_L56.eq_2, if_pos c139x]) hR64), (show True ∧ S_DR_compareSizes_J78 (S_DR_compareSizes_L56 x2 x3 t0_0 t0_1 t0_2 t0_3 t0_4 t0_5 t0_6 t0_7 t0_8 t0_9 t0_10 t1_0 t2_0 t3_0 fm68) x2 x3 t0_0 t0_1 t0_2 t0_3 t0_4 t0_5 t0_6 t0_7 t0_8 t0_9 t0_10 t1_0 t2_0 t3_0 lx62 from (by have h := hS65; rw [S_DR_compareSizes_L56.eq_2] at h; have c139x := c139; rw [← e70] at c139x; rw [if_pos c139x] at h; with_reducible exact h))⟩
      ·
        refine lv_iload hx hb d_15_23_67 (lv_at hl 0 rfl) ?_
        refine lv_aload_n hx hb d_15_23_69 rfl (lv_at hl 1 rfl) ?_
        refine q_get (ci := 14) (j := 4) (v := .ref (q 137)) C0 V i_DR rfl rfl hT0 (by decide) w_2004 rfl d_15_23_70 ?_
        refine lv_iload_n hx hb d_15_23_73 rfl (lv_at hl 3 rfl) ?_
        refine q_iald C0 V hT2 (q_ix (x := x3.toInt) rfl (by first | with_reducible exact q_fe ob41 | (have t1 : 0 ≤ x3.toInt := ob41; omega)) (by have t1 : 0 ≤ x3.toInt := ob41; have t2 : x3.toInt ≤ 9 := ob42; have e9 : (((10 : Int32).toNatClampNeg : Nat) : Int) = 10 := (by decide); omega)) d_15_23_74 ?_
        obtain ⟨a142, e143⟩ := q_nm (t2_0 x3.toNatClampNeg : Int32)
        refine q_ti (v := a142) e143 ?_
        refine lv_icmp_ge (tgt := 164) hx hb d_15_23_75 (by decide) (fun c144 => ?_) (fun c144 => ?_)
        ·
          refine lv_iconst (v := 0) hx hb d_15_23_164 (by decide) ?_
          exact q_reti C0 V (⟨rfl, (show 0 ≤ (0 : Int32).toInt + 1 from (by have z16 : (0 : Int32).toInt = 0 := rfl; omega)), (show (0 : Int32).toInt ≤ 1 from (by have z16 : (0 : Int32).toInt = 0 := rfl; omega)), (show x2.toInt ≤ (0 : Int32).toInt + 10 from (by have z16 : (0 : Int32).toInt = 0 := rfl; have t1 : x2.toInt ≤ 9 := ob27; omega)), (show (0 : Int32).toInt ≤ x2.toInt + 1 from (by have z16 : (0 : Int32).toInt = 0 := rfl; have t1 : 0 ≤ x2.toInt := ob26; omega)), (show x3.toInt ≤ (0 : Int32).toInt + 10 from (by have z16 : (0 : Int32).toInt = 0 := rfl; have t1 : x3.toInt ≤ 9 := ob42; omega)), (show (0 : Int32).toInt ≤ x3.toInt + 1 from (by have z16 : (0 : Int32).toInt = 0 := rfl; have t1 : 0 ≤ x3.toInt := ob41; omega)), (show (0 : Int32) = (F_DR_compareSizes x2 x3 t0_0 t0_1 t0_2 t0_3 t0_4 t0_5 t0_6 t0_7 t0_8 t0_9 t0_10 t1_0 t2_0 t3_0) from Eq.trans (by have c139x := c139; rw [← e70] at c139x; have c144x := c144; rw [← e143] at c144x; rw [F_DR_compareSizes_L56.eq_2, if_neg c139x, if_pos c144x]) hR64)⟩) d_15_23_165
        ·
          exact J75 (()) _ _ _ ws ⟨V, q_lw hl (q_lw1 0 rfl (q_lw1 1 rfl (q_lw1 2 rfl (q_lw1 3 rfl q_lw0)))), (show F_DR_compareSizes_J78 (F_DR_compareSizes_L56 x2 x3 t0_0 t0_1 t0_2 t0_3 t0_4 t0_5 t0_6 t0_7 t0_8 t0_9 t0_10 t1_0 t2_0 t3_0 fm68) x2 x3 t0_0 t0_1 t0_2 t0_3 t0_4 t0_5 t0_6 t0_7 t0_8 t0_9 t0_10 t1_0 t2_0 t3_0 lx62 = (F_DR_compareSizes x2 x3 t0_0 t0_1 t0_2 t0_3 t0_4 t0_5 t0_6 t0_7 t0_8 t0_9 t0_10 t1_0 t2_0 t3_0) from Eq.trans (by have c139x := c139; rw [← e70] at c139x; have c144x := c144; rw [← e143] at c144x; rw [F_DR_compareSizes_L56.eq_2, if_neg c139x, if_neg c144x]) hR64), (show True ∧ S_DR_compareSizes_J78 (S_DR_compareSizes_L56 x2 x3 t0_0 t0_1 t0_2 t0_3 t0_4 t0_5 t0_6 t0_7 t0_8 t0_9 t0_10 t1_0 t2_0 t3_0 fm68) x2 x3 t0_0 t0_1 t0_2 t0_3 t0_4 t0_5 t0_6 t0_7 t0_8 t0_9 t0_10 t1_0 t2_0 t3_0 lx62 from (by have h := hS65; rw [S_DR_compareSizes_L56.eq_2] at h; have c139x := c139; rw [← e70] at c139x; rw [if_neg c139x] at h; have c144x := c144; rw [← e143] at c144x; rw [if_neg c144x] at h; with_reducible exact h))⟩
  ·
    refine lv_lload_n hx hb d_15_23_40 rfl (lv_at hl 1 rfl) ?_
    refine lv_lload hx hb d_15_23_41 (lv_at hl 0 rfl) ?_
    refine W.lcmp hx hb d_15_23_43 ?_
    obtain ⟨a148, e149⟩ := q_nm (lg_cmp j38 j53 : Int32)
    refine q_ti (v := a148) e149 ?_
    refine lv_if_ge (tgt := 51) hx hb d_15_23_44 (by decide) (fun c151 => ?_) (fun c151 => ?_)
    ·
      refine lv_iconst (v := 1) hx hb d_15_23_51 (by decide) ?_
      exact q_reti C0 V (⟨rfl, (show 0 ≤ (1 : Int32).toInt + 1 from (by have z16 : (1 : Int32).toInt = 1 := rfl; omega)), (show (1 : Int32).toInt ≤ 1 from (by have z16 : (1 : Int32).toInt = 1 := rfl; omega)), (show x2.toInt ≤ (1 : Int32).toInt + 10 from (by have z16 : (1 : Int32).toInt = 1 := rfl; have t1 : x2.toInt ≤ 9 := ob27; omega)), (show (1 : Int32).toInt ≤ x2.toInt + 1 from (by have z16 : (1 : Int32).toInt = 1 := rfl; have t1 : 0 ≤ x2.toInt := ob26; omega)), (show x3.toInt ≤ (1 : Int32).toInt + 10 from (by have z16 : (1 : Int32).toInt = 1 := rfl; have t1 : x3.toInt ≤ 9 := ob42; omega)), (show (1 : Int32).toInt ≤ x3.toInt + 1 from (by have z16 : (1 : Int32).toInt = 1 := rfl; have t1 : 0 ≤ x3.toInt := ob41; omega)), (show (1 : Int32) = (F_DR_compareSizes x2 x3 t0_0 t0_1 t0_2 t0_3 t0_4 t0_5 t0_6 t0_7 t0_8 t0_9 t0_10 t1_0 t2_0 t3_0) from (by have c59x := c59; rw [← e57, ← e54, ← e51, ← e49, ← e46, ← e44, ← e39, ← e36, ← e34, ← e31, ← e29] at c59x; have c151x := c151; rw [← e149, ← e54, ← e51, ← e49, ← e46, ← e44, ← e39, ← e36, ← e34, ← e31, ← e29] at c151x; rw [F_DR_compareSizes.eq_1, if_neg c59x, if_pos c151x]))⟩) d_15_23_52
    ·
      refine lv_iconst (v := (-1)) hx hb d_15_23_47 (by decide) ?_
      refine lv_goto (tgt := 52) hx hb d_15_23_48 (by decide) ?_
      exact q_reti C0 V (⟨rfl, (show 0 ≤ (-1 : Int32).toInt + 1 from (by have z16 : (-1 : Int32).toInt = -1 := rfl; omega)), (show (-1 : Int32).toInt ≤ 1 from (by have z16 : (-1 : Int32).toInt = -1 := rfl; omega)), (show x2.toInt ≤ (-1 : Int32).toInt + 10 from (by have z16 : (-1 : Int32).toInt = -1 := rfl; have t1 : x2.toInt ≤ 9 := ob27; omega)), (show (-1 : Int32).toInt ≤ x2.toInt + 1 from (by have z16 : (-1 : Int32).toInt = -1 := rfl; have t1 : 0 ≤ x2.toInt := ob26; omega)), (show x3.toInt ≤ (-1 : Int32).toInt + 10 from (by have z16 : (-1 : Int32).toInt = -1 := rfl; have t1 : x3.toInt ≤ 9 := ob42; omega)), (show (-1 : Int32).toInt ≤ x3.toInt + 1 from (by have z16 : (-1 : Int32).toInt = -1 := rfl; have t1 : 0 ≤ x3.toInt := ob41; omega)), (show (-1 : Int32) = (F_DR_compareSizes x2 x3 t0_0 t0_1 t0_2 t0_3 t0_4 t0_5 t0_6 t0_7 t0_8 t0_9 t0_10 t1_0 t2_0 t3_0) from (by have c59x := c59; rw [← e57, ← e54, ← e51, ← e49, ← e46, ← e44, ← e39, ← e36, ← e34, ← e31, ← e29] at c59x; have c151x := c151; rw [← e149, ← e54, ← e51, ← e49, ← e46, ← e44, ← e39, ← e36, ← e34, ← e31, ← e29] at c151x; rw [F_DR_compareSizes.eq_1, if_neg c59x, if_neg c151x]))⟩) d_15_23_52
theorem d_15_24_0 : decode prog_15_method_24_code 0 = .ok (.aload_n 0, 1) := by decide +kernel
theorem d_15_24_1 : decode prog_15_method_24_code 1 = .ok (.iload_n 1, 1) := by decide +kernel
theorem d_15_24_2 : decode prog_15_method_24_code 2 = .ok (.invokestatic 113, 3) := by decide +kernel
theorem d_15_24_20 : decode prog_15_method_24_code 20 = .ok (.putfield 41, 3) := by decide +kernel
theorem d_15_24_23 : decode prog_15_method_24_code 23 = .ok (.aload_n 0, 1) := by decide +kernel
theorem d_15_24_24 : decode prog_15_method_24_code 24 = .ok (.getfield 41, 3) := by decide +kernel
theorem d_15_24_27 : decode prog_15_method_24_code 27 = .ok (.ifCond .le 5, 3) := by decide +kernel
theorem d_15_24_32 : decode prog_15_method_24_code 32 = .ok (.aload_n 0, 1) := by decide +kernel
theorem d_15_24_33 : decode prog_15_method_24_code 33 = .ok (.iload_n 1, 1) := by decide +kernel
theorem d_15_24_34 : decode prog_15_method_24_code 34 = .ok (.invokevirtual 120, 3) := by decide +kernel
theorem d_15_24_58 : decode prog_15_method_24_code 58 = .ok (.istore_n 3, 1) := by decide +kernel
theorem d_15_24_59 : decode prog_15_method_24_code 59 = .ok (.aload_n 0, 1) := by decide +kernel
theorem d_15_24_60 : decode prog_15_method_24_code 60 = .ok (.iload_n 2, 1) := by decide +kernel
theorem d_15_24_61 : decode prog_15_method_24_code 61 = .ok (.invokevirtual 120, 3) := by decide +kernel
theorem d_15_24_85 : decode prog_15_method_24_code 85 = .ok (.istore 4, 2) := by decide +kernel
theorem d_15_24_87 : decode prog_15_method_24_code 87 = .ok (.iload_n 3, 1) := by decide +kernel
theorem d_15_24_88 : decode prog_15_method_24_code 88 = .ok (.iload 4, 2) := by decide +kernel
theorem d_15_24_97 : decode prog_15_method_24_code 97 = .ok (.iload_n 3, 1) := by decide +kernel
theorem d_15_24_98 : decode prog_15_method_24_code 98 = .ok (.iload 4, 2) := by decide +kernel
theorem d_15_24_100 : decode prog_15_method_24_code 100 = .ok (.if_icmp .ge 7, 3) := by decide +kernel
theorem d_15_24_107 : decode prog_15_method_24_code 107 = .ok (.iload_n 3, 1) := by decide +kernel
theorem d_15_24_108 : decode prog_15_method_24_code 108 = .ok (.iload 4, 2) := by decide +kernel
theorem d_15_24_110 : decode prog_15_method_24_code 110 = .ok (.if_icmp .le 7, 3) := by decide +kernel
theorem d_15_24_117 : decode prog_15_method_24_code 117 = .ok (.iconst 0, 1) := by decide +kernel
theorem d_15_24_118 : decode prog_15_method_24_code 118 = .ok (.ireturn, 1) := by decide +kernel
theorem d_15_24_113 : decode prog_15_method_24_code 113 = .ok (.iconst 1, 1) := by decide +kernel
theorem d_15_24_114 : decode prog_15_method_24_code 114 = .ok (.goto 4, 3) := by decide +kernel
theorem d_15_24_103 : decode prog_15_method_24_code 103 = .ok (.iconst (-1), 1) := by decide +kernel
theorem d_15_24_104 : decode prog_15_method_24_code 104 = .ok (.goto 14, 3) := by decide +kernel
theorem d_15_24_90 : decode prog_15_method_24_code 90 = .ok (.if_icmp .ne 7, 3) := by decide +kernel
theorem d_15_24_93 : decode prog_15_method_24_code 93 = .ok (.iload_n 3, 1) := by decide +kernel
theorem d_15_24_94 : decode prog_15_method_24_code 94 = .ok (.ifCond .ne 25, 3) := by decide +kernel
theorem d_15_24_119 : decode prog_15_method_24_code 119 = .ok (.iload_n 3, 1) := by decide +kernel
theorem d_15_24_120 : decode prog_15_method_24_code 120 = .ok (.aload_n 0, 1) := by decide +kernel
theorem d_15_24_121 : decode prog_15_method_24_code 121 = .ok (.iload_n 1, 1) := by decide +kernel
theorem d_15_24_122 : decode prog_15_method_24_code 122 = .ok (.iload_n 2, 1) := by decide +kernel
theorem d_15_24_123 : decode prog_15_method_24_code 123 = .ok (.invokevirtual 123, 3) := by decide +kernel
set_option maxRecDepth 100000 in
theorem w_2666 : (Cond.code ({ cls := "NumberHouseModel$DecimalRows", name := "compareSizes", desc := "(II)I" } : MethodName) prog_15_method_23_code (10 : Nat) (some .int)) ∈ q_tbl := q_of12 26 rfl (by decide +kernel)
set_option maxRecDepth 100000 in
theorem w_2663 : (Cond.methodLink "NumberHouseModel$DecimalRows" (123 : Nat) ({ cls := "NumberHouseModel$DecimalRows", name := "compareSizes", desc := "(II)I" } : MethodName)) ∈ q_tbl := q_of12 23 rfl (by decide +kernel)
set_option maxRecDepth 100000 in
theorem w_2665 : (Cond.instanceMethod ({ cls := "NumberHouseModel$DecimalRows", name := "compareSizes", desc := "(II)I" } : MethodName)) ∈ q_tbl := q_of12 25 rfl (by decide +kernel)
theorem ws_101 : Cond.selects "NumberHouseModel$DecimalRows" (⟨"NumberHouseModel$DecimalRows", "compareSizes", "(II)I"⟩ : MethodName) (⟨"NumberHouseModel$DecimalRows", "compareSizes", "(II)I"⟩ : MethodName) ∈ q_tbl := q_ofs 101 (by decide +kernel) (by decide +kernel)
theorem LV_DR_123 : q_LV "NumberHouseModel$DecimalRows" 123 y_DR_compareSizes prog_15_method_23_code 10 (some .int) 2 := ⟨w_2666, w_16, w_2663, w_2665, ws_101, ⟨by decide, by decide, by decide +kernel⟩⟩
theorem d_15_24_126 : decode prog_15_method_24_code 126 = .ok (.imul, 1) := by decide +kernel
theorem d_15_24_127 : decode prog_15_method_24_code 127 = .ok (.ireturn, 1) := by decide +kernel
theorem d_15_24_64 : decode prog_15_method_24_code 64 = .ok (.ifCond .eq 7, 3) := by decide +kernel
theorem d_15_24_71 : decode prog_15_method_24_code 71 = .ok (.aload_n 0, 1) := by decide +kernel
theorem d_15_24_72 : decode prog_15_method_24_code 72 = .ok (.getfield 19, 3) := by decide +kernel
theorem d_15_24_75 : decode prog_15_method_24_code 75 = .ok (.iload_n 2, 1) := by decide +kernel
theorem d_15_24_76 : decode prog_15_method_24_code 76 = .ok (.baload, 1) := by decide +kernel
theorem d_15_24_77 : decode prog_15_method_24_code 77 = .ok (.ifCond .eq 7, 3) := by decide +kernel
theorem d_15_24_84 : decode prog_15_method_24_code 84 = .ok (.iconst 1, 1) := by decide +kernel
theorem d_15_24_80 : decode prog_15_method_24_code 80 = .ok (.iconst (-1), 1) := by decide +kernel
theorem d_15_24_81 : decode prog_15_method_24_code 81 = .ok (.goto 4, 3) := by decide +kernel
theorem d_15_24_67 : decode prog_15_method_24_code 67 = .ok (.iconst 0, 1) := by decide +kernel
theorem d_15_24_68 : decode prog_15_method_24_code 68 = .ok (.goto 17, 3) := by decide +kernel
theorem d_15_24_37 : decode prog_15_method_24_code 37 = .ok (.ifCond .eq 7, 3) := by decide +kernel
theorem d_15_24_44 : decode prog_15_method_24_code 44 = .ok (.aload_n 0, 1) := by decide +kernel
theorem d_15_24_45 : decode prog_15_method_24_code 45 = .ok (.getfield 19, 3) := by decide +kernel
theorem d_15_24_48 : decode prog_15_method_24_code 48 = .ok (.iload_n 1, 1) := by decide +kernel
theorem d_15_24_49 : decode prog_15_method_24_code 49 = .ok (.baload, 1) := by decide +kernel
theorem d_15_24_50 : decode prog_15_method_24_code 50 = .ok (.ifCond .eq 7, 3) := by decide +kernel
theorem d_15_24_57 : decode prog_15_method_24_code 57 = .ok (.iconst 1, 1) := by decide +kernel
theorem d_15_24_53 : decode prog_15_method_24_code 53 = .ok (.iconst (-1), 1) := by decide +kernel
theorem d_15_24_54 : decode prog_15_method_24_code 54 = .ok (.goto 4, 3) := by decide +kernel
theorem d_15_24_40 : decode prog_15_method_24_code 40 = .ok (.iconst 0, 1) := by decide +kernel
theorem d_15_24_41 : decode prog_15_method_24_code 41 = .ok (.goto 17, 3) := by decide +kernel
theorem d_15_24_30 : decode prog_15_method_24_code 30 = .ok (.iconst 0, 1) := by decide +kernel
theorem d_15_24_31 : decode prog_15_method_24_code 31 = .ok (.ireturn, 1) := by decide +kernel
theorem d_15_24_15 : decode prog_15_method_24_code 15 = .ok (.iconst 1, 1) := by decide +kernel
theorem d_15_24_16 : decode prog_15_method_24_code 16 = .ok (.goto 4, 3) := by decide +kernel
theorem d_15_24_5 : decode prog_15_method_24_code 5 = .ok (.ifCond .ne 10, 3) := by decide +kernel
theorem d_15_24_8 : decode prog_15_method_24_code 8 = .ok (.iload_n 2, 1) := by decide +kernel
theorem d_15_24_9 : decode prog_15_method_24_code 9 = .ok (.invokestatic 113, 3) := by decide +kernel
theorem d_15_24_12 : decode prog_15_method_24_code 12 = .ok (.ifCond .eq 7, 3) := by decide +kernel
theorem d_15_24_19 : decode prog_15_method_24_code 19 = .ok (.iconst 0, 1) := by decide +kernel
def y_DR_compare : MethodName := ⟨"NumberHouseModel$DecimalRows", "compare", "(II)I"⟩
def F_DR_compare_J97 (x2 : Int32) (x3 : Int32) (t0_0 : Int32) (t0_1 : Int32) (t0_2 : Int32) (t0_3 : Int64) (t0_4 : Int32) (t0_5 : Int32) (t0_6 : Int32) (t0_7 : Int32) (t0_8 : Int32) (t0_9 : Int32) (t0_10 : Int32) (t1_0 : (Nat → Int32)) (t2_0 : (Nat → Int32)) (t3_0 : (Nat → Int32)) (t4_0 : (Nat → Int32)) (lx36 : Int32) (lx62 : Int32) (lx84 : Int32) : Int32 × Int32 × Int32 × Int32 × Int64 × Int32 × Int32 × Int32 × Int32 × Int32 × Int32 × Int32 := if lx84 ≤ lx62 then (if lx62 ≤ lx84 then (((0 : Int32), lx36, t0_1, t0_2, t0_3, t0_4, t0_5, t0_6, t0_7, t0_8, t0_9, t0_10)) else (((1 : Int32), lx36, t0_1, t0_2, t0_3, t0_4, t0_5, t0_6, t0_7, t0_8, t0_9, t0_10))) else (((-1 : Int32), lx36, t0_1, t0_2, t0_3, t0_4, t0_5, t0_6, t0_7, t0_8, t0_9, t0_10))
def F_DR_compare_J85 (x2 : Int32) (x3 : Int32) (t0_0 : Int32) (t0_1 : Int32) (t0_2 : Int32) (t0_3 : Int64) (t0_4 : Int32) (t0_5 : Int32) (t0_6 : Int32) (t0_7 : Int32) (t0_8 : Int32) (t0_9 : Int32) (t0_10 : Int32) (t1_0 : (Nat → Int32)) (t2_0 : (Nat → Int32)) (t3_0 : (Nat → Int32)) (t4_0 : (Nat → Int32)) (lx36 : Int32) (lx62 : Int32) (lx84 : Int32) : Int32 × Int32 × Int32 × Int32 × Int64 × Int32 × Int32 × Int32 × Int32 × Int32 × Int32 × Int32 := if lx62 = lx84 then (if lx62 = (0 : Int32) then (F_DR_compare_J97 x2 x3 t0_0 t0_1 t0_2 t0_3 t0_4 t0_5 t0_6 t0_7 t0_8 t0_9 t0_10 t1_0 t2_0 t3_0 t4_0 lx36 lx62 lx84) else (((lx62 * ((F_DR_compareSizes x2 x3 lx36 t0_1 t0_2 t0_3 t0_4 t0_5 t0_6 t0_7 t0_8 t0_9 t0_10 t1_0 t2_0 t4_0) : Int32) : Int32), lx36, t0_1, t0_2, t0_3, t0_4, t0_5, t0_6, t0_7, t0_8, t0_9, t0_10))) else (F_DR_compare_J97 x2 x3 t0_0 t0_1 t0_2 t0_3 t0_4 t0_5 t0_6 t0_7 t0_8 t0_9 t0_10 t1_0 t2_0 t3_0 t4_0 lx36 lx62 lx84)
def F_DR_compare_J58 (x2 : Int32) (x3 : Int32) (t0_0 : Int32) (t0_1 : Int32) (t0_2 : Int32) (t0_3 : Int64) (t0_4 : Int32) (t0_5 : Int32) (t0_6 : Int32) (t0_7 : Int32) (t0_8 : Int32) (t0_9 : Int32) (t0_10 : Int32) (t1_0 : (Nat → Int32)) (t2_0 : (Nat → Int32)) (t3_0 : (Nat → Int32)) (t4_0 : (Nat → Int32)) (lx36 : Int32) (lx62 : Int32) : Int32 × Int32 × Int32 × Int32 × Int64 × Int32 × Int32 × Int32 × Int32 × Int32 × Int32 × Int32 := if ((F_DR_isZero x3 lx36 t0_1 t0_2 t0_3 t0_4 t0_5 t0_6 t0_7 t0_8 t0_9 t0_10 t1_0) : Int32) = (0 : Int32) then (if (t3_0 x3.toNatClampNeg : Int32) = (0 : Int32) then (F_DR_compare_J85 x2 x3 t0_0 t0_1 t0_2 t0_3 t0_4 t0_5 t0_6 t0_7 t0_8 t0_9 t0_10 t1_0 t2_0 t3_0 t4_0 lx36 lx62 1) else (F_DR_compare_J85 x2 x3 t0_0 t0_1 t0_2 t0_3 t0_4 t0_5 t0_6 t0_7 t0_8 t0_9 t0_10 t1_0 t2_0 t3_0 t4_0 lx36 lx62 (-1))) else (F_DR_compare_J85 x2 x3 t0_0 t0_1 t0_2 t0_3 t0_4 t0_5 t0_6 t0_7 t0_8 t0_9 t0_10 t1_0 t2_0 t3_0 t4_0 lx36 lx62 0)
def F_DR_compare_J20 (x2 : Int32) (x3 : Int32) (t0_0 : Int32) (t0_1 : Int32) (t0_2 : Int32) (t0_3 : Int64) (t0_4 : Int32) (t0_5 : Int32) (t0_6 : Int32) (t0_7 : Int32) (t0_8 : Int32) (t0_9 : Int32) (t0_10 : Int32) (t1_0 : (Nat → Int32)) (t2_0 : (Nat → Int32)) (t3_0 : (Nat → Int32)) (t4_0 : (Nat → Int32)) (lx36 : Int32) : Int32 × Int32 × Int32 × Int32 × Int64 × Int32 × Int32 × Int32 × Int32 × Int32 × Int32 × Int32 := if lx36 ≤ (0 : Int32) then (if ((F_DR_isZero x2 lx36 t0_1 t0_2 t0_3 t0_4 t0_5 t0_6 t0_7 t0_8 t0_9 t0_10 t1_0) : Int32) = (0 : Int32) then (if (t3_0 x2.toNatClampNeg : Int32) = (0 : Int32) then (F_DR_compare_J58 x2 x3 t0_0 t0_1 t0_2 t0_3 t0_4 t0_5 t0_6 t0_7 t0_8 t0_9 t0_10 t1_0 t2_0 t3_0 t4_0 lx36 1) else (F_DR_compare_J58 x2 x3 t0_0 t0_1 t0_2 t0_3 t0_4 t0_5 t0_6 t0_7 t0_8 t0_9 t0_10 t1_0 t2_0 t3_0 t4_0 lx36 (-1))) else (F_DR_compare_J58 x2 x3 t0_0 t0_1 t0_2 t0_3 t0_4 t0_5 t0_6 t0_7 t0_8 t0_9 t0_10 t1_0 t2_0 t3_0 t4_0 lx36 0)) else (((0 : Int32), lx36, t0_1, t0_2, t0_3, t0_4, t0_5, t0_6, t0_7, t0_8, t0_9, t0_10))
def F_DR_compare_J15 (x2 : Int32) (x3 : Int32) (t0_0 : Int32) (t0_1 : Int32) (t0_2 : Int32) (t0_3 : Int64) (t0_4 : Int32) (t0_5 : Int32) (t0_6 : Int32) (t0_7 : Int32) (t0_8 : Int32) (t0_9 : Int32) (t0_10 : Int32) (t1_0 : (Nat → Int32)) (t2_0 : (Nat → Int32)) (t3_0 : (Nat → Int32)) (t4_0 : (Nat → Int32)) : Int32 × Int32 × Int32 × Int32 × Int64 × Int32 × Int32 × Int32 × Int32 × Int32 × Int32 × Int32 := F_DR_compare_J20 x2 x3 t0_0 t0_1 t0_2 t0_3 t0_4 t0_5 t0_6 t0_7 t0_8 t0_9 t0_10 t1_0 t2_0 t3_0 t4_0 1
def F_DR_compare (x2 : Int32) (x3 : Int32) (t0_0 : Int32) (t0_1 : Int32) (t0_2 : Int32) (t0_3 : Int64) (t0_4 : Int32) (t0_5 : Int32) (t0_6 : Int32) (t0_7 : Int32) (t0_8 : Int32) (t0_9 : Int32) (t0_10 : Int32) (t1_0 : (Nat → Int32)) (t2_0 : (Nat → Int32)) (t3_0 : (Nat → Int32)) (t4_0 : (Nat → Int32)) : Int32 × Int32 × Int32 × Int32 × Int64 × Int32 × Int32 × Int32 × Int32 × Int32 × Int32 × Int32 := if ((F_DR_no x2) : Int32) = (0 : Int32) then (if ((F_DR_no x3) : Int32) = (0 : Int32) then (F_DR_compare_J20 x2 x3 t0_0 t0_1 t0_2 t0_3 t0_4 t0_5 t0_6 t0_7 t0_8 t0_9 t0_10 t1_0 t2_0 t3_0 t4_0 0) else (F_DR_compare_J15 x2 x3 t0_0 t0_1 t0_2 t0_3 t0_4 t0_5 t0_6 t0_7 t0_8 t0_9 t0_10 t1_0 t2_0 t3_0 t4_0)) else (F_DR_compare_J15 x2 x3 t0_0 t0_1 t0_2 t0_3 t0_4 t0_5 t0_6 t0_7 t0_8 t0_9 t0_10 t1_0 t2_0 t3_0 t4_0)
def S_DR_compare_J97 (x2 : Int32) (x3 : Int32) (t0_0 : Int32) (t0_1 : Int32) (t0_2 : Int32) (t0_3 : Int64) (t0_4 : Int32) (t0_5 : Int32) (t0_6 : Int32) (t0_7 : Int32) (t0_8 : Int32) (t0_9 : Int32) (t0_10 : Int32) (t1_0 : (Nat → Int32)) (t2_0 : (Nat → Int32)) (t3_0 : (Nat → Int32)) (t4_0 : (Nat → Int32)) (lx36 : Int32) (lx62 : Int32) (lx84 : Int32) : Prop := if lx84 ≤ lx62 then (if lx62 ≤ lx84 then (True) else (True)) else (True)
def S_DR_compare_J85 (x2 : Int32) (x3 : Int32) (t0_0 : Int32) (t0_1 : Int32) (t0_2 : Int32) (t0_3 : Int64) (t0_4 : Int32) (t0_5 : Int32) (t0_6 : Int32) (t0_7 : Int32) (t0_8 : Int32) (t0_9 : Int32) (t0_10 : Int32) (t1_0 : (Nat → Int32)) (t2_0 : (Nat → Int32)) (t3_0 : (Nat → Int32)) (t4_0 : (Nat → Int32)) (lx36 : Int32) (lx62 : Int32) (lx84 : Int32) : Prop := if lx62 = lx84 then (if lx62 = (0 : Int32) then (S_DR_compare_J97 x2 x3 t0_0 t0_1 t0_2 t0_3 t0_4 t0_5 t0_6 t0_7 t0_8 t0_9 t0_10 t1_0 t2_0 t3_0 t4_0 lx36 lx62 lx84) else ((True ∧ S_DR_compareSizes x2 x3 lx36 t0_1 t0_2 t0_3 t0_4 t0_5 t0_6 t0_7 t0_8 t0_9 t0_10 t1_0 t2_0 t4_0) ∧ (True))) else (S_DR_compare_J97 x2 x3 t0_0 t0_1 t0_2 t0_3 t0_4 t0_5 t0_6 t0_7 t0_8 t0_9 t0_10 t1_0 t2_0 t3_0 t4_0 lx36 lx62 lx84)
def S_DR_compare_J58 (x2 : Int32) (x3 : Int32) (t0_0 : Int32) (t0_1 : Int32) (t0_2 : Int32) (t0_3 : Int64) (t0_4 : Int32) (t0_5 : Int32) (t0_6 : Int32) (t0_7 : Int32) (t0_8 : Int32) (t0_9 : Int32) (t0_10 : Int32) (t1_0 : (Nat → Int32)) (t2_0 : (Nat → Int32)) (t3_0 : (Nat → Int32)) (t4_0 : (Nat → Int32)) (lx36 : Int32) (lx62 : Int32) : Prop := (True ∧ S_DR_isZero x3 lx36 t0_1 t0_2 t0_3 t0_4 t0_5 t0_6 t0_7 t0_8 t0_9 t0_10 t1_0) ∧ (if ((F_DR_isZero x3 lx36 t0_1 t0_2 t0_3 t0_4 t0_5 t0_6 t0_7 t0_8 t0_9 t0_10 t1_0) : Int32) = (0 : Int32) then ((0 ≤ x3.toInt) ∧ ((x3.toInt ≤ 9) ∧ (if (t3_0 x3.toNatClampNeg : Int32) = (0 : Int32) then (S_DR_compare_J85 x2 x3 t0_0 t0_1 t0_2 t0_3 t0_4 t0_5 t0_6 t0_7 t0_8 t0_9 t0_10 t1_0 t2_0 t3_0 t4_0 lx36 lx62 1) else (S_DR_compare_J85 x2 x3 t0_0 t0_1 t0_2 t0_3 t0_4 t0_5 t0_6 t0_7 t0_8 t0_9 t0_10 t1_0 t2_0 t3_0 t4_0 lx36 lx62 (-1))))) else (S_DR_compare_J85 x2 x3 t0_0 t0_1 t0_2 t0_3 t0_4 t0_5 t0_6 t0_7 t0_8 t0_9 t0_10 t1_0 t2_0 t3_0 t4_0 lx36 lx62 0))
def S_DR_compare_J20 (x2 : Int32) (x3 : Int32) (t0_0 : Int32) (t0_1 : Int32) (t0_2 : Int32) (t0_3 : Int64) (t0_4 : Int32) (t0_5 : Int32) (t0_6 : Int32) (t0_7 : Int32) (t0_8 : Int32) (t0_9 : Int32) (t0_10 : Int32) (t1_0 : (Nat → Int32)) (t2_0 : (Nat → Int32)) (t3_0 : (Nat → Int32)) (t4_0 : (Nat → Int32)) (lx36 : Int32) : Prop := if lx36 ≤ (0 : Int32) then ((True ∧ S_DR_isZero x2 lx36 t0_1 t0_2 t0_3 t0_4 t0_5 t0_6 t0_7 t0_8 t0_9 t0_10 t1_0) ∧ (if ((F_DR_isZero x2 lx36 t0_1 t0_2 t0_3 t0_4 t0_5 t0_6 t0_7 t0_8 t0_9 t0_10 t1_0) : Int32) = (0 : Int32) then ((0 ≤ x2.toInt) ∧ ((x2.toInt ≤ 9) ∧ (if (t3_0 x2.toNatClampNeg : Int32) = (0 : Int32) then (S_DR_compare_J58 x2 x3 t0_0 t0_1 t0_2 t0_3 t0_4 t0_5 t0_6 t0_7 t0_8 t0_9 t0_10 t1_0 t2_0 t3_0 t4_0 lx36 1) else (S_DR_compare_J58 x2 x3 t0_0 t0_1 t0_2 t0_3 t0_4 t0_5 t0_6 t0_7 t0_8 t0_9 t0_10 t1_0 t2_0 t3_0 t4_0 lx36 (-1))))) else (S_DR_compare_J58 x2 x3 t0_0 t0_1 t0_2 t0_3 t0_4 t0_5 t0_6 t0_7 t0_8 t0_9 t0_10 t1_0 t2_0 t3_0 t4_0 lx36 0))) else (True)
def S_DR_compare_J15 (x2 : Int32) (x3 : Int32) (t0_0 : Int32) (t0_1 : Int32) (t0_2 : Int32) (t0_3 : Int64) (t0_4 : Int32) (t0_5 : Int32) (t0_6 : Int32) (t0_7 : Int32) (t0_8 : Int32) (t0_9 : Int32) (t0_10 : Int32) (t1_0 : (Nat → Int32)) (t2_0 : (Nat → Int32)) (t3_0 : (Nat → Int32)) (t4_0 : (Nat → Int32)) : Prop := S_DR_compare_J20 x2 x3 t0_0 t0_1 t0_2 t0_3 t0_4 t0_5 t0_6 t0_7 t0_8 t0_9 t0_10 t1_0 t2_0 t3_0 t4_0 1
def S_DR_compare (x2 : Int32) (x3 : Int32) (t0_0 : Int32) (t0_1 : Int32) (t0_2 : Int32) (t0_3 : Int64) (t0_4 : Int32) (t0_5 : Int32) (t0_6 : Int32) (t0_7 : Int32) (t0_8 : Int32) (t0_9 : Int32) (t0_10 : Int32) (t1_0 : (Nat → Int32)) (t2_0 : (Nat → Int32)) (t3_0 : (Nat → Int32)) (t4_0 : (Nat → Int32)) : Prop := if ((F_DR_no x2) : Int32) = (0 : Int32) then (if ((F_DR_no x3) : Int32) = (0 : Int32) then (S_DR_compare_J20 x2 x3 t0_0 t0_1 t0_2 t0_3 t0_4 t0_5 t0_6 t0_7 t0_8 t0_9 t0_10 t1_0 t2_0 t3_0 t4_0 0) else (S_DR_compare_J15 x2 x3 t0_0 t0_1 t0_2 t0_3 t0_4 t0_5 t0_6 t0_7 t0_8 t0_9 t0_10 t1_0 t2_0 t3_0 t4_0)) else (S_DR_compare_J15 x2 x3 t0_0 t0_1 t0_2 t0_3 t0_4 t0_5 t0_6 t0_7 t0_8 t0_9 t0_10 t1_0 t2_0 t3_0 t4_0)
set_option maxRecDepth 100000 in
set_option maxHeartbeats 4000000 in
theorem X_DR_compare (l : Launch) (D : va_G) (g : Nat → ClassId) (q : Nat → Nat) (ws : va_W) (x2 : Int32) (x3 : Int32) (hI : q_I (msh g q) q ws) (t0_0 : Int32) (t0_1 : Int32) (t0_2 : Int32) (t0_3 : Int64) (t0_4 : Int32) (t0_5 : Int32) (t0_6 : Int32) (t0_7 : Int32) (t0_8 : Int32) (t0_9 : Int32) (t0_10 : Int32) (hT0 : ws[134]? = (some (q 134, .inr (14, [.int t0_0, .ref (q 135), .int t0_1, .ref (q 136), .ref (q 137), .ref (q 138), .ref (q 139), .ref (q 140), .int t0_2, .long t0_3, .int t0_4, .int t0_5, .ref (q 141), .int t0_6, .ref (q 142), .int t0_7, .ref (q 143), .int t0_8, .ref (q 144), .int t0_9, .int t0_10])) : Option (Nat × va_E))) (t1_0 : (Nat → Int32)) (hT1 : ws[136]? = (some (q 136, .inl (g 0, (10000 : Int32).toNatClampNeg, .inl t1_0)) : Option (Nat × va_E))) (t2_0 : (Nat → Int32)) (hT2 : ws[137]? = (some (q 137, .inl (g 0, (10 : Int32).toNatClampNeg, .inl t2_0)) : Option (Nat × va_E))) (t3_0 : (Nat → Int32)) (hT3 : ws[138]? = (some (q 138, .inl (g 3, 10, .inl t3_0)) : Option (Nat × va_E))) (t4_0 : (Nat → Int32)) (hT4 : ws[139]? = (some (q 139, .inl (g 0, (10 : Int32).toNatClampNeg, .inl t4_0)) : Option (Nat × va_E))) (hS : True ∧ S_DR_compare x2 x3 t0_0 t0_1 t0_2 t0_3 t0_4 t0_5 t0_6 t0_7 t0_8 t0_9 t0_10 t1_0 t2_0 t3_0 t4_0) : q_mI l y_DR_compare prog_15_method_24_code 5 (.int) 2 0 0 D g [.ref (q 134), .int x2, .int x3] ws (fun r u => q_I (msh g q) q u ∧ q_un ws u [134] ∧ ∃ (u0_0 : Int32) (u0_1 : Int32) (u0_2 : Int32) (u0_3 : Int64) (u0_4 : Int32) (u0_5 : Int32) (u0_6 : Int32) (u0_7 : Int32) (u0_8 : Int32) (u0_9 : Int32) (u0_10 : Int32), u[134]? = (some (q 134, .inr (14, [.int u0_0, .ref (q 135), .int u0_1, .ref (q 136), .ref (q 137), .ref (q 138), .ref (q 139), .ref (q 140), .int u0_2, .long u0_3, .int u0_4, .int u0_5, .ref (q 141), .int u0_6, .ref (q 142), .int u0_7, .ref (q 143), .int u0_8, .ref (q 144), .int u0_9, .int u0_10])) : Option (Nat × va_E)) ∧ (0 ≤ u0_0.toInt) ∧ (u0_0.toInt ≤ 1) ∧ (t0_1.toInt ≤ u0_1.toInt) ∧ (u0_1.toInt ≤ t0_1.toInt) ∧ (t0_2.toInt ≤ u0_2.toInt) ∧ (u0_2.toInt ≤ t0_2.toInt) ∧ (t0_3.toInt ≤ u0_3.toInt) ∧ (u0_3.toInt ≤ t0_3.toInt) ∧ (t0_4.toInt ≤ u0_4.toInt) ∧ (u0_4.toInt ≤ t0_4.toInt) ∧ (t0_5.toInt ≤ u0_5.toInt) ∧ (u0_5.toInt ≤ t0_5.toInt) ∧ (t0_6.toInt ≤ u0_6.toInt) ∧ (u0_6.toInt ≤ t0_6.toInt) ∧ (t0_7.toInt ≤ u0_7.toInt) ∧ (u0_7.toInt ≤ t0_7.toInt) ∧ (t0_8.toInt ≤ u0_8.toInt) ∧ (u0_8.toInt ≤ t0_8.toInt) ∧ (t0_9.toInt ≤ u0_9.toInt) ∧ (u0_9.toInt ≤ t0_9.toInt) ∧ (t0_10.toInt ≤ u0_10.toInt) ∧ (u0_10.toInt ≤ t0_10.toInt) ∧ (r, u0_0, u0_1, u0_2, u0_3, u0_4, u0_5, u0_6, u0_7, u0_8, u0_9, u0_10) = (F_DR_compare x2 x3 t0_0 t0_1 t0_2 t0_3 t0_4 t0_5 t0_6 t0_7 t0_8 t0_9 t0_10 t1_0 t2_0 t3_0 t4_0)) := by
  intro sz
  refine q_into (by decide) (Nat.le_of_ble_eq_true rfl) ?_
  intro p e s m below meth c ls hsz C0 V hl
  have hx := C0.1
  have hb := C0.2.1
  obtain ⟨btt0_1, hZ9⟩ := n_w134 hI hT0
  obtain ⟨btt0_4, hZ9⟩ := hZ9
  obtain ⟨btt0_5, btt0_9⟩ := hZ9
  replace btt0_1 : q_F (0 ≤ t0_1.toInt ∧ t0_1.toInt ≤ 4100) := btt0_1
  replace btt0_4 : q_F (0 ≤ t0_4.toInt ∧ t0_4.toInt ≤ 1) := btt0_4
  replace btt0_5 : q_F (0 ≤ t0_5.toInt ∧ t0_5.toInt ≤ 1) := btt0_5
  replace btt0_9 : q_F (0 ≤ t0_9.toInt ∧ t0_9.toInt ≤ 12200) := btt0_9
  have hF : q_un ws ws [134] := q_u0
  have hl : lv_has ls 5 [(0, .ref (q 134)), (1, .int x2), (2, .int x3)] := hl
  refine lv_aload_n hx hb d_15_24_0 rfl (lv_at hl 0 rfl) ?_
  refine lv_iload_n hx hb d_15_24_1 rfl (lv_at hl 1 rfl) ?_
  refine q_goi V (q_runS (As := [.int x2]) (rest := [.ref (q 134)]) (d := 1) (mc := 0) (ms := 0) C0 V rfl LS_DR_113 (X_DR_no l D g q ws  x2 hI   _) rfl hl.1 rfl (Nat.le_of_ble_eq_true rfl) ⟨by decide, by decide⟩ ⟨Nat.le_of_ble_eq_true rfl, Nat.le_of_ble_eq_true rfl⟩ d_15_24_2) (fun a31 u29 H locs hp30 V => ?_)
  obtain ⟨rfl, b32, b33, hE34⟩ := hp30
  have e35 : a31 = (F_DR_no x2) := hE34
  clear b32
  clear b33
  refine q_join (X := Int32) (fun z H locs ls _ => q_F (0 ≤ z.toInt) ∧ q_F (z.toInt ≤ 1) ∧ q_Wd D g (va_A ws sz) s ws H locs ∧ lv_has ls 5 [(0, .ref (q 134)), (1, .int x2), (2, .int x3)] ∧ F_DR_compare_J20 x2 x3 t0_0 t0_1 t0_2 t0_3 t0_4 t0_5 t0_6 t0_7 t0_8 t0_9 t0_10 t1_0 t2_0 t3_0 t4_0 z = (F_DR_compare x2 x3 t0_0 t0_1 t0_2 t0_3 t0_4 t0_5 t0_6 t0_7 t0_8 t0_9 t0_10 t1_0 t2_0 t3_0 t4_0) ∧ True ∧ S_DR_compare_J20 x2 x3 t0_0 t0_1 t0_2 t0_3 t0_4 t0_5 t0_6 t0_7 t0_8 t0_9 t0_10 t1_0 t2_0 t3_0 t4_0 z) (fun z => [.int z, .ref (q 134)]) 20 0 0 ?_ ?_
  ·
    rintro lx36 H locs ls _ hZ9
    obtain ⟨i43, hZ9⟩ := hZ9
    obtain ⟨i44, hZ9⟩ := hZ9
    obtain ⟨V, hZ9⟩ := hZ9
    obtain ⟨hl, hZ9⟩ := hZ9
    obtain ⟨hR45, hS46⟩ := hZ9
    replace i43 : q_F (0 ≤ lx36.toInt) := i43
    replace i44 : q_F (lx36.toInt ≤ 1) := i44
    replace hl : lv_has ls 5 [(0, .ref (q 134)), (1, .int x2), (2, .int x3)] := hl
    refine q_put (ci := 14) (j := 0) (v := .int lx36) (ty := .int) C0 V i_DR o_DR n_DR rfl rfl hT0 (by decide) w_1996 rfl rfl rfl rfl (Nat.le_of_ble_eq_true rfl) d_15_24_20 (fun H locs w50 hu51 hT0 V => ?_)
    replace hT0 : w50[134]? = (some (q 134, .inr (14, [.int lx36, .ref (q 135), .int t0_1, .ref (q 136), .ref (q 137), .ref (q 138), .ref (q 139), .ref (q 140), .int t0_2, .long t0_3, .int t0_4, .int t0_5, .ref (q 141), .int t0_6, .ref (q 142), .int t0_7, .ref (q 143), .int t0_8, .ref (q 144), .int t0_9, .int t0_10])) : Option (Nat × va_E)) := hT0
    replace hI := n_p134 hI hu51 hT0 (by first | with_reducible exact q_fe btt0_1 | exact ⟨(by have t1 : 0 ≤ t0_1.toInt ∧ t0_1.toInt ≤ 4100 := btt0_1; omega), (by have t1 : 0 ≤ t0_1.toInt ∧ t0_1.toInt ≤ 4100 := btt0_1; omega)⟩) (by first | with_reducible exact q_fe btt0_4 | exact ⟨(by have t1 : 0 ≤ t0_4.toInt ∧ t0_4.toInt ≤ 1 := btt0_4; omega), (by have t1 : 0 ≤ t0_4.toInt ∧ t0_4.toInt ≤ 1 := btt0_4; omega)⟩) (by first | with_reducible exact q_fe btt0_5 | exact ⟨(by have t1 : 0 ≤ t0_5.toInt ∧ t0_5.toInt ≤ 1 := btt0_5; omega), (by have t1 : 0 ≤ t0_5.toInt ∧ t0_5.toInt ≤ 1 := btt0_5; omega)⟩) (by first | with_reducible exact q_fe btt0_9 | exact ⟨(by have t1 : 0 ≤ t0_9.toInt ∧ t0_9.toInt ≤ 12200 := btt0_9; omega), (by have t1 : 0 ≤ t0_9.toInt ∧ t0_9.toInt ≤ 12200 := btt0_9; omega)⟩)
    replace hT1 := (hu51 _ (by decide)).trans hT1
    replace hT2 := (hu51 _ (by decide)).trans hT2
    replace hT3 := (hu51 _ (by decide)).trans hT3
    replace hT4 := (hu51 _ (by decide)).trans hT4
    replace hF := q_us hF hu51 (by simp)
    refine lv_aload_n hx hb d_15_24_23 rfl (lv_at hl 0 rfl) ?_
    refine q_get (ci := 14) (j := 0) (v := .int lx36) C0 V i_DR rfl rfl hT0 (by decide) w_1996 rfl d_15_24_24 ?_
    refine lv_if_le (tgt := 32) hx hb d_15_24_27 (by decide) (fun c52 => ?_) (fun c52 => ?_)
    ·
      have b53 : q_F (lx36.toInt ≤ 0) := (q_leI c52)
      refine lv_aload_n hx hb d_15_24_32 rfl (lv_at hl 0 rfl) ?_
      refine lv_iload_n hx hb d_15_24_33 rfl (lv_at hl 1 rfl) ?_
      have ob54 : True ∧ S_DR_isZero x2 lx36 t0_1 t0_2 t0_3 t0_4 t0_5 t0_6 t0_7 t0_8 t0_9 t0_10 t1_0 := (by have h := hS46; rw [S_DR_compare_J20.eq_1] at h; rw [if_pos c52] at h; with_reducible exact h.2.1)
      refine q_goi V (q_runV (As := [.int x2]) (rest := []) (d := 1) (mc := 0) (ms := 0) (ci := 14) C0 V rfl LV_DR_120 (X_DR_isZero l D g q w50  x2 hI lx36 t0_1 t0_2 t0_3 t0_4 t0_5 t0_6 t0_7 t0_8 t0_9 t0_10 hT0 t1_0 hT1 ob54 _) rfl rfl hT0 rfl hl.1 rfl (Nat.le_of_ble_eq_true rfl) ⟨by decide, by decide⟩ ⟨Nat.le_of_ble_eq_true rfl, Nat.le_of_ble_eq_true rfl⟩ d_15_24_34) (fun a57 u55 H locs hp56 V => ?_)
      obtain ⟨rfl, b58, b59, hE60⟩ := hp56
      have e61 : a57 = (F_DR_isZero x2 lx36 t0_1 t0_2 t0_3 t0_4 t0_5 t0_6 t0_7 t0_8 t0_9 t0_10 t1_0) := hE60
      clear b58
      clear b59
      refine q_join (X := Int32) (fun z H locs ls _ => q_F (lx36.toInt ≤ z.toInt + 1) ∧ q_F (z.toInt ≤ lx36.toInt + 1) ∧ q_Wd D g (va_A ws sz) s w50 H locs ∧ lv_has ls 5 [(0, .ref (q 134)), (1, .int x2), (2, .int x3)] ∧ F_DR_compare_J58 x2 x3 t0_0 t0_1 t0_2 t0_3 t0_4 t0_5 t0_6 t0_7 t0_8 t0_9 t0_10 t1_0 t2_0 t3_0 t4_0 lx36 z = (F_DR_compare x2 x3 t0_0 t0_1 t0_2 t0_3 t0_4 t0_5 t0_6 t0_7 t0_8 t0_9 t0_10 t1_0 t2_0 t3_0 t4_0) ∧ True ∧ S_DR_compare_J58 x2 x3 t0_0 t0_1 t0_2 t0_3 t0_4 t0_5 t0_6 t0_7 t0_8 t0_9 t0_10 t1_0 t2_0 t3_0 t4_0 lx36 z) (fun z => [.int z]) 58 0 0 ?_ ?_
      ·
        rintro lx62 H locs ls _ hZ9
        replace hZ9 := hZ9.2.2
        obtain ⟨V, hZ9⟩ := hZ9
        obtain ⟨hl, hZ9⟩ := hZ9
        obtain ⟨hR71, hS72⟩ := hZ9
        replace hl : lv_has ls 5 [(0, .ref (q 134)), (1, .int x2), (2, .int x3)] := hl
        refine lv_istore_n (lv' := [(3, .int lx62), (0, .ref (q 134)), (1, .int x2), (2, .int x3)]) hx hb d_15_24_58 rfl hl (by decide) rfl (fun ls hl => ?_)
        refine lv_aload_n hx hb d_15_24_59 rfl (lv_at hl 1 rfl) ?_
        refine lv_iload_n hx hb d_15_24_60 rfl (lv_at hl 3 rfl) ?_
        have ob76 : True ∧ S_DR_isZero x3 lx36 t0_1 t0_2 t0_3 t0_4 t0_5 t0_6 t0_7 t0_8 t0_9 t0_10 t1_0 := (by have h := hS72; rw [S_DR_compare_J58.eq_1] at h; with_reducible exact h.2.1)
        refine q_goi V (q_runV (As := [.int x3]) (rest := []) (d := 1) (mc := 0) (ms := 0) (ci := 14) C0 V rfl LV_DR_120 (X_DR_isZero l D g q w50  x3 hI lx36 t0_1 t0_2 t0_3 t0_4 t0_5 t0_6 t0_7 t0_8 t0_9 t0_10 hT0 t1_0 hT1 ob76 _) rfl rfl hT0 rfl hl.1 rfl (Nat.le_of_ble_eq_true rfl) ⟨by decide, by decide⟩ ⟨Nat.le_of_ble_eq_true rfl, Nat.le_of_ble_eq_true rfl⟩ d_15_24_61) (fun a79 u77 H locs hp78 V => ?_)
        obtain ⟨rfl, b80, b81, hE82⟩ := hp78
        have e83 : a79 = (F_DR_isZero x3 lx36 t0_1 t0_2 t0_3 t0_4 t0_5 t0_6 t0_7 t0_8 t0_9 t0_10 t1_0) := hE82
        clear b80
        clear b81
        refine q_join (X := Int32) (fun z H locs ls _ => q_F (lx36.toInt ≤ z.toInt + 1) ∧ q_F (z.toInt ≤ lx36.toInt + 1) ∧ q_Wd D g (va_A ws sz) s w50 H locs ∧ lv_has ls 5 [(3, .int lx62), (0, .ref (q 134)), (1, .int x2), (2, .int x3)] ∧ F_DR_compare_J85 x2 x3 t0_0 t0_1 t0_2 t0_3 t0_4 t0_5 t0_6 t0_7 t0_8 t0_9 t0_10 t1_0 t2_0 t3_0 t4_0 lx36 lx62 z = (F_DR_compare x2 x3 t0_0 t0_1 t0_2 t0_3 t0_4 t0_5 t0_6 t0_7 t0_8 t0_9 t0_10 t1_0 t2_0 t3_0 t4_0) ∧ True ∧ S_DR_compare_J85 x2 x3 t0_0 t0_1 t0_2 t0_3 t0_4 t0_5 t0_6 t0_7 t0_8 t0_9 t0_10 t1_0 t2_0 t3_0 t4_0 lx36 lx62 z) (fun z => [.int z]) 85 0 0 ?_ ?_
        ·
          rintro lx84 H locs ls _ hZ9
          replace hZ9 := hZ9.2.2
          obtain ⟨V, hZ9⟩ := hZ9
          obtain ⟨hl, hZ9⟩ := hZ9
          obtain ⟨hR93, hS94⟩ := hZ9
          replace hl : lv_has ls 5 [(3, .int lx62), (0, .ref (q 134)), (1, .int x2), (2, .int x3)] := hl
          refine lv_istore (lv' := [(4, .int lx84), (3, .int lx62), (0, .ref (q 134)), (1, .int x2), (2, .int x3)]) hx hb d_15_24_85 hl (by decide) rfl (fun ls hl => ?_)
          refine lv_iload_n hx hb d_15_24_87 rfl (lv_at hl 1 rfl) ?_
          refine lv_iload hx hb d_15_24_88 (lv_at hl 0 rfl) ?_
          refine q_join (X := Unit) (fun z H locs ls _ => q_Wd D g (va_A ws sz) s w50 H locs ∧ lv_has ls 5 [(4, .int lx84), (3, .int lx62)] ∧ F_DR_compare_J97 x2 x3 t0_0 t0_1 t0_2 t0_3 t0_4 t0_5 t0_6 t0_7 t0_8 t0_9 t0_10 t1_0 t2_0 t3_0 t4_0 lx36 lx62 lx84 = (F_DR_compare x2 x3 t0_0 t0_1 t0_2 t0_3 t0_4 t0_5 t0_6 t0_7 t0_8 t0_9 t0_10 t1_0 t2_0 t3_0 t4_0) ∧ True ∧ S_DR_compare_J97 x2 x3 t0_0 t0_1 t0_2 t0_3 t0_4 t0_5 t0_6 t0_7 t0_8 t0_9 t0_10 t1_0 t2_0 t3_0 t4_0 lx36 lx62 lx84) (fun z => []) 97 0 0 ?_ ?_
          ·
            rintro _ H locs ls _ ⟨V, hl, hR104, hS105⟩
            replace hl : lv_has ls 5 [(4, .int lx84), (3, .int lx62)] := hl
            refine lv_iload_n hx hb d_15_24_97 rfl (lv_at hl 1 rfl) ?_
            refine lv_iload hx hb d_15_24_98 (lv_at hl 0 rfl) ?_
            refine lv_icmp_ge (tgt := 107) hx hb d_15_24_100 (by decide) (fun c109 => ?_) (fun c109 => ?_)
            ·
              refine lv_iload_n hx hb d_15_24_107 rfl (lv_at hl 1 rfl) ?_
              refine lv_iload hx hb d_15_24_108 (lv_at hl 0 rfl) ?_
              refine lv_icmp_le (tgt := 117) hx hb d_15_24_110 (by decide) (fun c111 => ?_) (fun c111 => ?_)
              ·
                refine lv_iconst (v := 0) hx hb d_15_24_117 (by decide) ?_
                exact q_reti C0 V (⟨hI, hF, lx36, t0_1, t0_2, t0_3, t0_4, t0_5, t0_6, t0_7, t0_8, t0_9, t0_10, hT0, (show 0 ≤ lx36.toInt from (by have z17 : (0 : Int32).toInt = 0 := rfl; have t1 : 0 ≤ lx36.toInt := i43; omega)), (show lx36.toInt ≤ 1 from (by have z17 : (0 : Int32).toInt = 0 := rfl; have t1 : lx36.toInt ≤ 1 := i44; omega)), (show t0_1.toInt ≤ t0_1.toInt from (by have z17 : (0 : Int32).toInt = 0 := rfl; omega)), (show t0_1.toInt ≤ t0_1.toInt from (by have z17 : (0 : Int32).toInt = 0 := rfl; omega)), (show t0_2.toInt ≤ t0_2.toInt from (by have z17 : (0 : Int32).toInt = 0 := rfl; omega)), (show t0_2.toInt ≤ t0_2.toInt from (by have z17 : (0 : Int32).toInt = 0 := rfl; omega)), (show t0_3.toInt ≤ t0_3.toInt from (by have z17 : (0 : Int32).toInt = 0 := rfl; omega)), (show t0_3.toInt ≤ t0_3.toInt from (by have z17 : (0 : Int32).toInt = 0 := rfl; omega)), (show t0_4.toInt ≤ t0_4.toInt from (by have z17 : (0 : Int32).toInt = 0 := rfl; omega)), (show t0_4.toInt ≤ t0_4.toInt from (by have z17 : (0 : Int32).toInt = 0 := rfl; omega)), (show t0_5.toInt ≤ t0_5.toInt from (by have z17 : (0 : Int32).toInt = 0 := rfl; omega)), (show t0_5.toInt ≤ t0_5.toInt from (by have z17 : (0 : Int32).toInt = 0 := rfl; omega)), (show t0_6.toInt ≤ t0_6.toInt from (by have z17 : (0 : Int32).toInt = 0 := rfl; omega)), (show t0_6.toInt ≤ t0_6.toInt from (by have z17 : (0 : Int32).toInt = 0 := rfl; omega)), (show t0_7.toInt ≤ t0_7.toInt from (by have z17 : (0 : Int32).toInt = 0 := rfl; omega)), (show t0_7.toInt ≤ t0_7.toInt from (by have z17 : (0 : Int32).toInt = 0 := rfl; omega)), (show t0_8.toInt ≤ t0_8.toInt from (by have z17 : (0 : Int32).toInt = 0 := rfl; omega)), (show t0_8.toInt ≤ t0_8.toInt from (by have z17 : (0 : Int32).toInt = 0 := rfl; omega)), (show t0_9.toInt ≤ t0_9.toInt from (by have z17 : (0 : Int32).toInt = 0 := rfl; omega)), (show t0_9.toInt ≤ t0_9.toInt from (by have z17 : (0 : Int32).toInt = 0 := rfl; omega)), (show t0_10.toInt ≤ t0_10.toInt from (by have z17 : (0 : Int32).toInt = 0 := rfl; omega)), (show t0_10.toInt ≤ t0_10.toInt from (by have z17 : (0 : Int32).toInt = 0 := rfl; omega)), (show ((0 : Int32), lx36, t0_1, t0_2, t0_3, t0_4, t0_5, t0_6, t0_7, t0_8, t0_9, t0_10) = (F_DR_compare x2 x3 t0_0 t0_1 t0_2 t0_3 t0_4 t0_5 t0_6 t0_7 t0_8 t0_9 t0_10 t1_0 t2_0 t3_0 t4_0) from Eq.trans (by rw [F_DR_compare_J97.eq_1, if_pos c109, if_pos c111]) hR104)⟩) d_15_24_118
              ·
                refine lv_iconst (v := 1) hx hb d_15_24_113 (by decide) ?_
                refine lv_goto (tgt := 118) hx hb d_15_24_114 (by decide) ?_
                exact q_reti C0 V (⟨hI, hF, lx36, t0_1, t0_2, t0_3, t0_4, t0_5, t0_6, t0_7, t0_8, t0_9, t0_10, hT0, (show 0 ≤ lx36.toInt from (by have z17 : (1 : Int32).toInt = 1 := rfl; have t1 : 0 ≤ lx36.toInt := i43; omega)), (show lx36.toInt ≤ 1 from (by have z17 : (1 : Int32).toInt = 1 := rfl; have t1 : lx36.toInt ≤ 1 := i44; omega)), (show t0_1.toInt ≤ t0_1.toInt from (by have z17 : (1 : Int32).toInt = 1 := rfl; omega)), (show t0_1.toInt ≤ t0_1.toInt from (by have z17 : (1 : Int32).toInt = 1 := rfl; omega)), (show t0_2.toInt ≤ t0_2.toInt from (by have z17 : (1 : Int32).toInt = 1 := rfl; omega)), (show t0_2.toInt ≤ t0_2.toInt from (by have z17 : (1 : Int32).toInt = 1 := rfl; omega)), (show t0_3.toInt ≤ t0_3.toInt from (by have z17 : (1 : Int32).toInt = 1 := rfl; omega)), (show t0_3.toInt ≤ t0_3.toInt from (by have z17 : (1 : Int32).toInt = 1 := rfl; omega)), (show t0_4.toInt ≤ t0_4.toInt from (by have z17 : (1 : Int32).toInt = 1 := rfl; omega)), (show t0_4.toInt ≤ t0_4.toInt from (by have z17 : (1 : Int32).toInt = 1 := rfl; omega)), (show t0_5.toInt ≤ t0_5.toInt from (by have z17 : (1 : Int32).toInt = 1 := rfl; omega)), (show t0_5.toInt ≤ t0_5.toInt from (by have z17 : (1 : Int32).toInt = 1 := rfl; omega)), (show t0_6.toInt ≤ t0_6.toInt from (by have z17 : (1 : Int32).toInt = 1 := rfl; omega)), (show t0_6.toInt ≤ t0_6.toInt from (by have z17 : (1 : Int32).toInt = 1 := rfl; omega)), (show t0_7.toInt ≤ t0_7.toInt from (by have z17 : (1 : Int32).toInt = 1 := rfl; omega)), (show t0_7.toInt ≤ t0_7.toInt from (by have z17 : (1 : Int32).toInt = 1 := rfl; omega)), (show t0_8.toInt ≤ t0_8.toInt from (by have z17 : (1 : Int32).toInt = 1 := rfl; omega)), (show t0_8.toInt ≤ t0_8.toInt from (by have z17 : (1 : Int32).toInt = 1 := rfl; omega)), (show t0_9.toInt ≤ t0_9.toInt from (by have z17 : (1 : Int32).toInt = 1 := rfl; omega)), (show t0_9.toInt ≤ t0_9.toInt from (by have z17 : (1 : Int32).toInt = 1 := rfl; omega)), (show t0_10.toInt ≤ t0_10.toInt from (by have z17 : (1 : Int32).toInt = 1 := rfl; omega)), (show t0_10.toInt ≤ t0_10.toInt from (by have z17 : (1 : Int32).toInt = 1 := rfl; omega)), (show ((1 : Int32), lx36, t0_1, t0_2, t0_3, t0_4, t0_5, t0_6, t0_7, t0_8, t0_9, t0_10) = (F_DR_compare x2 x3 t0_0 t0_1 t0_2 t0_3 t0_4 t0_5 t0_6 t0_7 t0_8 t0_9 t0_10 t1_0 t2_0 t3_0 t4_0) from Eq.trans (by rw [F_DR_compare_J97.eq_1, if_pos c109, if_neg c111]) hR104)⟩) d_15_24_118
            ·
              refine lv_iconst (v := (-1)) hx hb d_15_24_103 (by decide) ?_
              refine lv_goto (tgt := 118) hx hb d_15_24_104 (by decide) ?_
              exact q_reti C0 V (⟨hI, hF, lx36, t0_1, t0_2, t0_3, t0_4, t0_5, t0_6, t0_7, t0_8, t0_9, t0_10, hT0, (show 0 ≤ lx36.toInt from (by have z17 : (-1 : Int32).toInt = -1 := rfl; have t1 : 0 ≤ lx36.toInt := i43; omega)), (show lx36.toInt ≤ 1 from (by have z17 : (-1 : Int32).toInt = -1 := rfl; have t1 : lx36.toInt ≤ 1 := i44; omega)), (show t0_1.toInt ≤ t0_1.toInt from (by have z17 : (-1 : Int32).toInt = -1 := rfl; omega)), (show t0_1.toInt ≤ t0_1.toInt from (by have z17 : (-1 : Int32).toInt = -1 := rfl; omega)), (show t0_2.toInt ≤ t0_2.toInt from (by have z17 : (-1 : Int32).toInt = -1 := rfl; omega)), (show t0_2.toInt ≤ t0_2.toInt from (by have z17 : (-1 : Int32).toInt = -1 := rfl; omega)), (show t0_3.toInt ≤ t0_3.toInt from (by have z17 : (-1 : Int32).toInt = -1 := rfl; omega)), (show t0_3.toInt ≤ t0_3.toInt from (by have z17 : (-1 : Int32).toInt = -1 := rfl; omega)), (show t0_4.toInt ≤ t0_4.toInt from (by have z17 : (-1 : Int32).toInt = -1 := rfl; omega)), (show t0_4.toInt ≤ t0_4.toInt from (by have z17 : (-1 : Int32).toInt = -1 := rfl; omega)), (show t0_5.toInt ≤ t0_5.toInt from (by have z17 : (-1 : Int32).toInt = -1 := rfl; omega)), (show t0_5.toInt ≤ t0_5.toInt from (by have z17 : (-1 : Int32).toInt = -1 := rfl; omega)), (show t0_6.toInt ≤ t0_6.toInt from (by have z17 : (-1 : Int32).toInt = -1 := rfl; omega)), (show t0_6.toInt ≤ t0_6.toInt from (by have z17 : (-1 : Int32).toInt = -1 := rfl; omega)), (show t0_7.toInt ≤ t0_7.toInt from (by have z17 : (-1 : Int32).toInt = -1 := rfl; omega)), (show t0_7.toInt ≤ t0_7.toInt from (by have z17 : (-1 : Int32).toInt = -1 := rfl; omega)), (show t0_8.toInt ≤ t0_8.toInt from (by have z17 : (-1 : Int32).toInt = -1 := rfl; omega)), (show t0_8.toInt ≤ t0_8.toInt from (by have z17 : (-1 : Int32).toInt = -1 := rfl; omega)), (show t0_9.toInt ≤ t0_9.toInt from (by have z17 : (-1 : Int32).toInt = -1 := rfl; omega)), (show t0_9.toInt ≤ t0_9.toInt from (by have z17 : (-1 : Int32).toInt = -1 := rfl; omega)), (show t0_10.toInt ≤ t0_10.toInt from (by have z17 : (-1 : Int32).toInt = -1 := rfl; omega)), (show t0_10.toInt ≤ t0_10.toInt from (by have z17 : (-1 : Int32).toInt = -1 := rfl; omega)), (show ((-1 : Int32), lx36, t0_1, t0_2, t0_3, t0_4, t0_5, t0_6, t0_7, t0_8, t0_9, t0_10) = (F_DR_compare x2 x3 t0_0 t0_1 t0_2 t0_3 t0_4 t0_5 t0_6 t0_7 t0_8 t0_9 t0_10 t1_0 t2_0 t3_0 t4_0) from Eq.trans (by rw [F_DR_compare_J97.eq_1, if_neg c109]) hR104)⟩) d_15_24_118
          ·
            intro J103
            refine lv_icmp_ne (tgt := 97) hx hb d_15_24_90 (by decide) (fun c115 => ?_) (fun c115 => ?_)
            ·
              exact J103 (()) _ _ _ w50 ⟨V, q_lw hl (q_lw1 0 rfl (q_lw1 1 rfl q_lw0)), (show F_DR_compare_J97 x2 x3 t0_0 t0_1 t0_2 t0_3 t0_4 t0_5 t0_6 t0_7 t0_8 t0_9 t0_10 t1_0 t2_0 t3_0 t4_0 lx36 lx62 lx84 = (F_DR_compare x2 x3 t0_0 t0_1 t0_2 t0_3 t0_4 t0_5 t0_6 t0_7 t0_8 t0_9 t0_10 t1_0 t2_0 t3_0 t4_0) from Eq.trans (by rw [F_DR_compare_J85.eq_1, if_neg c115]) hR93), (show True ∧ S_DR_compare_J97 x2 x3 t0_0 t0_1 t0_2 t0_3 t0_4 t0_5 t0_6 t0_7 t0_8 t0_9 t0_10 t1_0 t2_0 t3_0 t4_0 lx36 lx62 lx84 from (by have h := hS94; rw [S_DR_compare_J85.eq_1] at h; rw [if_neg c115] at h; with_reducible exact h))⟩
            ·
              refine lv_iload_n hx hb d_15_24_93 rfl (lv_at hl 1 rfl) ?_
              refine lv_if_ne (tgt := 119) hx hb d_15_24_94 (by decide) (fun c118 => ?_) (fun c118 => ?_)
              ·
                refine lv_iload_n hx hb d_15_24_119 rfl (lv_at hl 1 rfl) ?_
                refine lv_aload_n hx hb d_15_24_120 rfl (lv_at hl 2 rfl) ?_
                refine lv_iload_n hx hb d_15_24_121 rfl (lv_at hl 3 rfl) ?_
                refine lv_iload_n hx hb d_15_24_122 rfl (lv_at hl 4 rfl) ?_
                have ob120 : True ∧ S_DR_compareSizes x2 x3 lx36 t0_1 t0_2 t0_3 t0_4 t0_5 t0_6 t0_7 t0_8 t0_9 t0_10 t1_0 t2_0 t4_0 := (by have h := hS94; rw [S_DR_compare_J85.eq_1] at h; rw [if_pos c115] at h; rw [if_neg c118] at h; with_reducible exact h.2.1)
                refine q_goi V (q_runV (As := [.int x2, .int x3]) (rest := [.int lx62]) (d := 1) (mc := 0) (ms := 0) (ci := 14) C0 V rfl LV_DR_123 (X_DR_compareSizes l D g q w50  x2 x3 hI lx36 t0_1 t0_2 t0_3 t0_4 t0_5 t0_6 t0_7 t0_8 t0_9 t0_10 hT0 t1_0 hT1 t2_0 hT2 t4_0 hT4 ob120 _) rfl rfl hT0 rfl hl.1 rfl (Nat.le_of_ble_eq_true rfl) ⟨by decide, by decide⟩ ⟨Nat.le_of_ble_eq_true rfl, Nat.le_of_ble_eq_true rfl⟩ d_15_24_123) (fun a123 u121 H locs hp122 V => ?_)
                obtain ⟨rfl, hZ9⟩ := hp122
                replace hZ9 := hZ9.2.2.2.2.2
                obtain ⟨-, hE130⟩ := hZ9
                have e131 : a123 = (F_DR_compareSizes x2 x3 lx36 t0_1 t0_2 t0_3 t0_4 t0_5 t0_6 t0_7 t0_8 t0_9 t0_10 t1_0 t2_0 t4_0) := hE130
                refine lv_imul hx hb d_15_24_126 ?_
                obtain ⟨a132, e133⟩ := q_nm (lx62 * a123 : Int32)
                refine q_ti (v := a132) e133 ?_
                exact q_reti C0 V (⟨hI, hF, lx36, t0_1, t0_2, t0_3, t0_4, t0_5, t0_6, t0_7, t0_8, t0_9, t0_10, hT0, (show 0 ≤ lx36.toInt from (by first | with_reducible exact q_fe i43 | (have t1 : 0 ≤ lx36.toInt := i43; omega))), (show lx36.toInt ≤ 1 from (by first | with_reducible exact q_fe i44 | (have t1 : lx36.toInt ≤ 1 := i44; omega))), (show t0_1.toInt ≤ t0_1.toInt from (by omega)), (show t0_1.toInt ≤ t0_1.toInt from (by omega)), (show t0_2.toInt ≤ t0_2.toInt from (by omega)), (show t0_2.toInt ≤ t0_2.toInt from (by omega)), (show t0_3.toInt ≤ t0_3.toInt from (by omega)), (show t0_3.toInt ≤ t0_3.toInt from (by omega)), (show t0_4.toInt ≤ t0_4.toInt from (by omega)), (show t0_4.toInt ≤ t0_4.toInt from (by omega)), (show t0_5.toInt ≤ t0_5.toInt from (by omega)), (show t0_5.toInt ≤ t0_5.toInt from (by omega)), (show t0_6.toInt ≤ t0_6.toInt from (by omega)), (show t0_6.toInt ≤ t0_6.toInt from (by omega)), (show t0_7.toInt ≤ t0_7.toInt from (by omega)), (show t0_7.toInt ≤ t0_7.toInt from (by omega)), (show t0_8.toInt ≤ t0_8.toInt from (by omega)), (show t0_8.toInt ≤ t0_8.toInt from (by omega)), (show t0_9.toInt ≤ t0_9.toInt from (by omega)), (show t0_9.toInt ≤ t0_9.toInt from (by omega)), (show t0_10.toInt ≤ t0_10.toInt from (by omega)), (show t0_10.toInt ≤ t0_10.toInt from (by omega)), (show (a132, lx36, t0_1, t0_2, t0_3, t0_4, t0_5, t0_6, t0_7, t0_8, t0_9, t0_10) = (F_DR_compare x2 x3 t0_0 t0_1 t0_2 t0_3 t0_4 t0_5 t0_6 t0_7 t0_8 t0_9 t0_10 t1_0 t2_0 t3_0 t4_0) from Eq.trans (by rw [← e133, e131, F_DR_compare_J85.eq_1, if_pos c115, if_neg c118]) hR93)⟩) d_15_24_127
              ·
                exact J103 (()) _ _ _ w50 ⟨V, q_lw hl (q_lw1 0 rfl (q_lw1 1 rfl q_lw0)), (show F_DR_compare_J97 x2 x3 t0_0 t0_1 t0_2 t0_3 t0_4 t0_5 t0_6 t0_7 t0_8 t0_9 t0_10 t1_0 t2_0 t3_0 t4_0 lx36 lx62 lx84 = (F_DR_compare x2 x3 t0_0 t0_1 t0_2 t0_3 t0_4 t0_5 t0_6 t0_7 t0_8 t0_9 t0_10 t1_0 t2_0 t3_0 t4_0) from Eq.trans (by rw [F_DR_compare_J85.eq_1, if_pos c115, if_pos c118]) hR93), (show True ∧ S_DR_compare_J97 x2 x3 t0_0 t0_1 t0_2 t0_3 t0_4 t0_5 t0_6 t0_7 t0_8 t0_9 t0_10 t1_0 t2_0 t3_0 t4_0 lx36 lx62 lx84 from (by have h := hS94; rw [S_DR_compare_J85.eq_1] at h; rw [if_pos c115] at h; rw [if_pos c118] at h; with_reducible exact h))⟩
        ·
          intro J90
          refine lv_if_eq (tgt := 71) hx hb d_15_24_64 (by decide) (fun c135 => ?_) (fun c135 => ?_)
          ·
            refine lv_aload_n hx hb d_15_24_71 rfl (lv_at hl 1 rfl) ?_
            refine q_get (ci := 14) (j := 5) (v := .ref (q 138)) C0 V i_DR rfl rfl hT0 (by decide) w_2006 rfl d_15_24_72 ?_
            refine lv_iload_n hx hb d_15_24_75 rfl (lv_at hl 3 rfl) ?_
            have ob137 : q_F (0 ≤ x3.toInt) := (by have h := hS72; rw [S_DR_compare_J58.eq_1] at h; replace h := q_s2 h; have c135x := c135; rw [e83] at c135x; rw [if_pos c135x] at h; exact h.2.1)
            have ob138 : q_F (x3.toInt ≤ 9) := (by have h := hS72; rw [S_DR_compare_J58.eq_1] at h; replace h := q_s2 h; have c135x := c135; rw [e83] at c135x; rw [if_pos c135x] at h; replace h := q_s2 h; exact h.2.1)
            refine q_zald C0 V hT3 (q_ix (x := x3.toInt) rfl (by first | with_reducible exact q_fe ob137 | (have t1 : 0 ≤ x3.toInt := ob137; omega)) (by have t1 : 0 ≤ x3.toInt := ob137; have t2 : x3.toInt ≤ 9 := ob138; omega)) d_15_24_76 ?_
            obtain ⟨a139, e140⟩ := q_nm (t3_0 x3.toNatClampNeg : Int32)
            refine q_ti (v := a139) e140 ?_
            refine lv_if_eq (tgt := 84) hx hb d_15_24_77 (by decide) (fun c141 => ?_) (fun c141 => ?_)
            ·
              refine lv_iconst (v := 1) hx hb d_15_24_84 (by decide) ?_
              exact J90 ((1 : Int32)) _ _ _ w50 ⟨(show q_F (lx36.toInt ≤ 1 + 1) from (show lx36.toInt ≤ 1 + 1 from by have t1 : lx36.toInt ≤ 1 := i44; omega)), (show q_F (1 ≤ lx36.toInt + 1) from (show 1 ≤ lx36.toInt + 1 from by have t1 : 0 ≤ lx36.toInt := i43; omega)), V, q_lw hl (q_lw1 0 rfl (q_lw1 1 rfl (q_lw1 2 rfl (q_lw1 3 rfl q_lw0)))), (show F_DR_compare_J85 x2 x3 t0_0 t0_1 t0_2 t0_3 t0_4 t0_5 t0_6 t0_7 t0_8 t0_9 t0_10 t1_0 t2_0 t3_0 t4_0 lx36 lx62 1 = (F_DR_compare x2 x3 t0_0 t0_1 t0_2 t0_3 t0_4 t0_5 t0_6 t0_7 t0_8 t0_9 t0_10 t1_0 t2_0 t3_0 t4_0) from Eq.trans (by have c135x := c135; rw [e83] at c135x; have c141x := c141; rw [← e140] at c141x; rw [F_DR_compare_J58.eq_1, if_pos c135x, if_pos c141x]) hR71), (show True ∧ S_DR_compare_J85 x2 x3 t0_0 t0_1 t0_2 t0_3 t0_4 t0_5 t0_6 t0_7 t0_8 t0_9 t0_10 t1_0 t2_0 t3_0 t4_0 lx36 lx62 1 from (by have h := hS72; rw [S_DR_compare_J58.eq_1] at h; replace h := q_s2 h; have c135x := c135; rw [e83] at c135x; rw [if_pos c135x] at h; replace h := q_s2 h; replace h := q_s2 h; have c141x := c141; rw [← e140] at c141x; rw [if_pos c141x] at h; with_reducible exact h))⟩
            ·
              refine lv_iconst (v := (-1)) hx hb d_15_24_80 (by decide) ?_
              refine lv_goto (tgt := 85) hx hb d_15_24_81 (by decide) ?_
              exact J90 (((-1) : Int32)) _ _ _ w50 ⟨(show q_F (lx36.toInt ≤ (-1) + 1) from (show lx36.toInt ≤ (-1) + 1 from by have t1 : lx36.toInt ≤ 0 := b53; omega)), (show q_F ((-1) ≤ lx36.toInt + 1) from (show (-1) ≤ lx36.toInt + 1 from by have t1 : 0 ≤ lx36.toInt := i43; omega)), V, q_lw hl (q_lw1 0 rfl (q_lw1 1 rfl (q_lw1 2 rfl (q_lw1 3 rfl q_lw0)))), (show F_DR_compare_J85 x2 x3 t0_0 t0_1 t0_2 t0_3 t0_4 t0_5 t0_6 t0_7 t0_8 t0_9 t0_10 t1_0 t2_0 t3_0 t4_0 lx36 lx62 (-1) = (F_DR_compare x2 x3 t0_0 t0_1 t0_2 t0_3 t0_4 t0_5 t0_6 t0_7 t0_8 t0_9 t0_10 t1_0 t2_0 t3_0 t4_0) from Eq.trans (by have c135x := c135; rw [e83] at c135x; have c141x := c141; rw [← e140] at c141x; rw [F_DR_compare_J58.eq_1, if_pos c135x, if_neg c141x]) hR71), (show True ∧ S_DR_compare_J85 x2 x3 t0_0 t0_1 t0_2 t0_3 t0_4 t0_5 t0_6 t0_7 t0_8 t0_9 t0_10 t1_0 t2_0 t3_0 t4_0 lx36 lx62 (-1) from (by have h := hS72; rw [S_DR_compare_J58.eq_1] at h; replace h := q_s2 h; have c135x := c135; rw [e83] at c135x; rw [if_pos c135x] at h; replace h := q_s2 h; replace h := q_s2 h; have c141x := c141; rw [← e140] at c141x; rw [if_neg c141x] at h; with_reducible exact h))⟩
          ·
            refine lv_iconst (v := 0) hx hb d_15_24_67 (by decide) ?_
            refine lv_goto (tgt := 85) hx hb d_15_24_68 (by decide) ?_
            exact J90 ((0 : Int32)) _ _ _ w50 ⟨(show q_F (lx36.toInt ≤ 0 + 1) from (show lx36.toInt ≤ 0 + 1 from by have t1 : lx36.toInt ≤ 1 := i44; omega)), (show q_F (0 ≤ lx36.toInt + 1) from (show 0 ≤ lx36.toInt + 1 from by have t1 : 0 ≤ lx36.toInt := i43; omega)), V, q_lw hl (q_lw1 0 rfl (q_lw1 1 rfl (q_lw1 2 rfl (q_lw1 3 rfl q_lw0)))), (show F_DR_compare_J85 x2 x3 t0_0 t0_1 t0_2 t0_3 t0_4 t0_5 t0_6 t0_7 t0_8 t0_9 t0_10 t1_0 t2_0 t3_0 t4_0 lx36 lx62 0 = (F_DR_compare x2 x3 t0_0 t0_1 t0_2 t0_3 t0_4 t0_5 t0_6 t0_7 t0_8 t0_9 t0_10 t1_0 t2_0 t3_0 t4_0) from Eq.trans (by have c135x := c135; rw [e83] at c135x; rw [F_DR_compare_J58.eq_1, if_neg c135x]) hR71), (show True ∧ S_DR_compare_J85 x2 x3 t0_0 t0_1 t0_2 t0_3 t0_4 t0_5 t0_6 t0_7 t0_8 t0_9 t0_10 t1_0 t2_0 t3_0 t4_0 lx36 lx62 0 from (by have h := hS72; rw [S_DR_compare_J58.eq_1] at h; replace h := q_s2 h; have c135x := c135; rw [e83] at c135x; rw [if_neg c135x] at h; with_reducible exact h))⟩
      ·
        intro J68
        refine lv_if_eq (tgt := 44) hx hb d_15_24_37 (by decide) (fun c145 => ?_) (fun c145 => ?_)
        ·
          refine lv_aload_n hx hb d_15_24_44 rfl (lv_at hl 0 rfl) ?_
          refine q_get (ci := 14) (j := 5) (v := .ref (q 138)) C0 V i_DR rfl rfl hT0 (by decide) w_2006 rfl d_15_24_45 ?_
          refine lv_iload_n hx hb d_15_24_48 rfl (lv_at hl 1 rfl) ?_
          have ob147 : q_F (0 ≤ x2.toInt) := (by have h := hS46; rw [S_DR_compare_J20.eq_1] at h; rw [if_pos c52] at h; replace h := q_s2 h; have c145x := c145; rw [e61] at c145x; rw [if_pos c145x] at h; exact h.2.1)
          have ob148 : q_F (x2.toInt ≤ 9) := (by have h := hS46; rw [S_DR_compare_J20.eq_1] at h; rw [if_pos c52] at h; replace h := q_s2 h; have c145x := c145; rw [e61] at c145x; rw [if_pos c145x] at h; replace h := q_s2 h; exact h.2.1)
          refine q_zald C0 V hT3 (q_ix (x := x2.toInt) rfl (by first | with_reducible exact q_fe ob147 | (have t1 : 0 ≤ x2.toInt := ob147; omega)) (by have t1 : 0 ≤ x2.toInt := ob147; have t2 : x2.toInt ≤ 9 := ob148; omega)) d_15_24_49 ?_
          obtain ⟨a149, e150⟩ := q_nm (t3_0 x2.toNatClampNeg : Int32)
          refine q_ti (v := a149) e150 ?_
          refine lv_if_eq (tgt := 57) hx hb d_15_24_50 (by decide) (fun c151 => ?_) (fun c151 => ?_)
          ·
            refine lv_iconst (v := 1) hx hb d_15_24_57 (by decide) ?_
            exact J68 ((1 : Int32)) _ _ _ w50 ⟨(show q_F (lx36.toInt ≤ 1 + 1) from (show lx36.toInt ≤ 1 + 1 from by have t1 : lx36.toInt ≤ 1 := i44; omega)), (show q_F (1 ≤ lx36.toInt + 1) from (show 1 ≤ lx36.toInt + 1 from by have t1 : 0 ≤ lx36.toInt := i43; omega)), V, q_lw hl (q_lw1 0 rfl (q_lw1 1 rfl (q_lw1 2 rfl q_lw0))), (show F_DR_compare_J58 x2 x3 t0_0 t0_1 t0_2 t0_3 t0_4 t0_5 t0_6 t0_7 t0_8 t0_9 t0_10 t1_0 t2_0 t3_0 t4_0 lx36 1 = (F_DR_compare x2 x3 t0_0 t0_1 t0_2 t0_3 t0_4 t0_5 t0_6 t0_7 t0_8 t0_9 t0_10 t1_0 t2_0 t3_0 t4_0) from Eq.trans (by have c145x := c145; rw [e61] at c145x; have c151x := c151; rw [← e150] at c151x; rw [F_DR_compare_J20.eq_1, if_pos c52, if_pos c145x, if_pos c151x]) hR45), (show True ∧ S_DR_compare_J58 x2 x3 t0_0 t0_1 t0_2 t0_3 t0_4 t0_5 t0_6 t0_7 t0_8 t0_9 t0_10 t1_0 t2_0 t3_0 t4_0 lx36 1 from (by have h := hS46; rw [S_DR_compare_J20.eq_1] at h; rw [if_pos c52] at h; replace h := q_s2 h; have c145x := c145; rw [e61] at c145x; rw [if_pos c145x] at h; replace h := q_s2 h; replace h := q_s2 h; have c151x := c151; rw [← e150] at c151x; rw [if_pos c151x] at h; with_reducible exact h))⟩
          ·
            refine lv_iconst (v := (-1)) hx hb d_15_24_53 (by decide) ?_
            refine lv_goto (tgt := 58) hx hb d_15_24_54 (by decide) ?_
            exact J68 (((-1) : Int32)) _ _ _ w50 ⟨(show q_F (lx36.toInt ≤ (-1) + 1) from (show lx36.toInt ≤ (-1) + 1 from by have t1 : lx36.toInt ≤ 0 := b53; omega)), (show q_F ((-1) ≤ lx36.toInt + 1) from (show (-1) ≤ lx36.toInt + 1 from by have t1 : 0 ≤ lx36.toInt := i43; omega)), V, q_lw hl (q_lw1 0 rfl (q_lw1 1 rfl (q_lw1 2 rfl q_lw0))), (show F_DR_compare_J58 x2 x3 t0_0 t0_1 t0_2 t0_3 t0_4 t0_5 t0_6 t0_7 t0_8 t0_9 t0_10 t1_0 t2_0 t3_0 t4_0 lx36 (-1) = (F_DR_compare x2 x3 t0_0 t0_1 t0_2 t0_3 t0_4 t0_5 t0_6 t0_7 t0_8 t0_9 t0_10 t1_0 t2_0 t3_0 t4_0) from Eq.trans (by have c145x := c145; rw [e61] at c145x; have c151x := c151; rw [← e150] at c151x; rw [F_DR_compare_J20.eq_1, if_pos c52, if_pos c145x, if_neg c151x]) hR45), (show True ∧ S_DR_compare_J58 x2 x3 t0_0 t0_1 t0_2 t0_3 t0_4 t0_5 t0_6 t0_7 t0_8 t0_9 t0_10 t1_0 t2_0 t3_0 t4_0 lx36 (-1) from (by have h := hS46; rw [S_DR_compare_J20.eq_1] at h; rw [if_pos c52] at h; replace h := q_s2 h; have c145x := c145; rw [e61] at c145x; rw [if_pos c145x] at h; replace h := q_s2 h; replace h := q_s2 h; have c151x := c151; rw [← e150] at c151x; rw [if_neg c151x] at h; with_reducible exact h))⟩
        ·
          refine lv_iconst (v := 0) hx hb d_15_24_40 (by decide) ?_
          refine lv_goto (tgt := 58) hx hb d_15_24_41 (by decide) ?_
          exact J68 ((0 : Int32)) _ _ _ w50 ⟨(show q_F (lx36.toInt ≤ 0 + 1) from (show lx36.toInt ≤ 0 + 1 from by have t1 : lx36.toInt ≤ 1 := i44; omega)), (show q_F (0 ≤ lx36.toInt + 1) from (show 0 ≤ lx36.toInt + 1 from by have t1 : 0 ≤ lx36.toInt := i43; omega)), V, q_lw hl (q_lw1 0 rfl (q_lw1 1 rfl (q_lw1 2 rfl q_lw0))), (show F_DR_compare_J58 x2 x3 t0_0 t0_1 t0_2 t0_3 t0_4 t0_5 t0_6 t0_7 t0_8 t0_9 t0_10 t1_0 t2_0 t3_0 t4_0 lx36 0 = (F_DR_compare x2 x3 t0_0 t0_1 t0_2 t0_3 t0_4 t0_5 t0_6 t0_7 t0_8 t0_9 t0_10 t1_0 t2_0 t3_0 t4_0) from Eq.trans (by have c145x := c145; rw [e61] at c145x; rw [F_DR_compare_J20.eq_1, if_pos c52, if_neg c145x]) hR45), (show True ∧ S_DR_compare_J58 x2 x3 t0_0 t0_1 t0_2 t0_3 t0_4 t0_5 t0_6 t0_7 t0_8 t0_9 t0_10 t1_0 t2_0 t3_0 t4_0 lx36 0 from (by have h := hS46; rw [S_DR_compare_J20.eq_1] at h; rw [if_pos c52] at h; replace h := q_s2 h; have c145x := c145; rw [e61] at c145x; rw [if_neg c145x] at h; with_reducible exact h))⟩
    ·
      refine lv_iconst (v := 0) hx hb d_15_24_30 (by decide) ?_
      exact q_reti C0 V (⟨hI, hF, lx36, t0_1, t0_2, t0_3, t0_4, t0_5, t0_6, t0_7, t0_8, t0_9, t0_10, hT0, (show 0 ≤ lx36.toInt from (by have z17 : (0 : Int32).toInt = 0 := rfl; have t1 : 0 ≤ lx36.toInt := i43; omega)), (show lx36.toInt ≤ 1 from (by have z17 : (0 : Int32).toInt = 0 := rfl; have t1 : lx36.toInt ≤ 1 := i44; omega)), (show t0_1.toInt ≤ t0_1.toInt from (by have z17 : (0 : Int32).toInt = 0 := rfl; omega)), (show t0_1.toInt ≤ t0_1.toInt from (by have z17 : (0 : Int32).toInt = 0 := rfl; omega)), (show t0_2.toInt ≤ t0_2.toInt from (by have z17 : (0 : Int32).toInt = 0 := rfl; omega)), (show t0_2.toInt ≤ t0_2.toInt from (by have z17 : (0 : Int32).toInt = 0 := rfl; omega)), (show t0_3.toInt ≤ t0_3.toInt from (by have z17 : (0 : Int32).toInt = 0 := rfl; omega)), (show t0_3.toInt ≤ t0_3.toInt from (by have z17 : (0 : Int32).toInt = 0 := rfl; omega)), (show t0_4.toInt ≤ t0_4.toInt from (by have z17 : (0 : Int32).toInt = 0 := rfl; omega)), (show t0_4.toInt ≤ t0_4.toInt from (by have z17 : (0 : Int32).toInt = 0 := rfl; omega)), (show t0_5.toInt ≤ t0_5.toInt from (by have z17 : (0 : Int32).toInt = 0 := rfl; omega)), (show t0_5.toInt ≤ t0_5.toInt from (by have z17 : (0 : Int32).toInt = 0 := rfl; omega)), (show t0_6.toInt ≤ t0_6.toInt from (by have z17 : (0 : Int32).toInt = 0 := rfl; omega)), (show t0_6.toInt ≤ t0_6.toInt from (by have z17 : (0 : Int32).toInt = 0 := rfl; omega)), (show t0_7.toInt ≤ t0_7.toInt from (by have z17 : (0 : Int32).toInt = 0 := rfl; omega)), (show t0_7.toInt ≤ t0_7.toInt from (by have z17 : (0 : Int32).toInt = 0 := rfl; omega)), (show t0_8.toInt ≤ t0_8.toInt from (by have z17 : (0 : Int32).toInt = 0 := rfl; omega)), (show t0_8.toInt ≤ t0_8.toInt from (by have z17 : (0 : Int32).toInt = 0 := rfl; omega)), (show t0_9.toInt ≤ t0_9.toInt from (by have z17 : (0 : Int32).toInt = 0 := rfl; omega)), (show t0_9.toInt ≤ t0_9.toInt from (by have z17 : (0 : Int32).toInt = 0 := rfl; omega)), (show t0_10.toInt ≤ t0_10.toInt from (by have z17 : (0 : Int32).toInt = 0 := rfl; omega)), (show t0_10.toInt ≤ t0_10.toInt from (by have z17 : (0 : Int32).toInt = 0 := rfl; omega)), (show ((0 : Int32), lx36, t0_1, t0_2, t0_3, t0_4, t0_5, t0_6, t0_7, t0_8, t0_9, t0_10) = (F_DR_compare x2 x3 t0_0 t0_1 t0_2 t0_3 t0_4 t0_5 t0_6 t0_7 t0_8 t0_9 t0_10 t1_0 t2_0 t3_0 t4_0) from Eq.trans (by rw [F_DR_compare_J20.eq_1, if_neg c52]) hR45)⟩) d_15_24_31
  ·
    intro J42
    refine q_join (X := Unit) (fun z H locs ls _ => q_Wd D g (va_A ws sz) s ws H locs ∧ lv_has ls 5 [(0, .ref (q 134)), (1, .int x2), (2, .int x3)] ∧ F_DR_compare_J15 x2 x3 t0_0 t0_1 t0_2 t0_3 t0_4 t0_5 t0_6 t0_7 t0_8 t0_9 t0_10 t1_0 t2_0 t3_0 t4_0 = (F_DR_compare x2 x3 t0_0 t0_1 t0_2 t0_3 t0_4 t0_5 t0_6 t0_7 t0_8 t0_9 t0_10 t1_0 t2_0 t3_0 t4_0) ∧ True ∧ S_DR_compare_J15 x2 x3 t0_0 t0_1 t0_2 t0_3 t0_4 t0_5 t0_6 t0_7 t0_8 t0_9 t0_10 t1_0 t2_0 t3_0 t4_0) (fun z => [.ref (q 134)]) 15 0 0 ?_ ?_
    ·
      rintro _ H locs ls _ ⟨V, hl, hR162, hS163⟩
      replace hl : lv_has ls 5 [(0, .ref (q 134)), (1, .int x2), (2, .int x3)] := hl
      refine lv_iconst (v := 1) hx hb d_15_24_15 (by decide) ?_
      refine lv_goto (tgt := 20) hx hb d_15_24_16 (by decide) ?_
      exact J42 ((1 : Int32)) _ _ _ ws ⟨(show q_F (0 ≤ 1) from (show 0 ≤ 1 from by omega)), (show q_F (1 ≤ 1) from (show 1 ≤ 1 from by omega)), V, q_lw hl (q_lw1 0 rfl (q_lw1 1 rfl (q_lw1 2 rfl q_lw0))), (show F_DR_compare_J20 x2 x3 t0_0 t0_1 t0_2 t0_3 t0_4 t0_5 t0_6 t0_7 t0_8 t0_9 t0_10 t1_0 t2_0 t3_0 t4_0 1 = (F_DR_compare x2 x3 t0_0 t0_1 t0_2 t0_3 t0_4 t0_5 t0_6 t0_7 t0_8 t0_9 t0_10 t1_0 t2_0 t3_0 t4_0) from Eq.trans (by rw [F_DR_compare_J15.eq_1]) hR162), (show True ∧ S_DR_compare_J20 x2 x3 t0_0 t0_1 t0_2 t0_3 t0_4 t0_5 t0_6 t0_7 t0_8 t0_9 t0_10 t1_0 t2_0 t3_0 t4_0 1 from (by have h := hS163; rw [S_DR_compare_J15.eq_1] at h; with_reducible exact h))⟩
    ·
      intro J161
      refine lv_if_ne (tgt := 15) hx hb d_15_24_5 (by decide) (fun c167 => ?_) (fun c167 => ?_)
      ·
        exact J161 (()) _ _ _ ws ⟨V, q_lw hl (q_lw1 0 rfl (q_lw1 1 rfl (q_lw1 2 rfl q_lw0))), (show F_DR_compare_J15 x2 x3 t0_0 t0_1 t0_2 t0_3 t0_4 t0_5 t0_6 t0_7 t0_8 t0_9 t0_10 t1_0 t2_0 t3_0 t4_0 = (F_DR_compare x2 x3 t0_0 t0_1 t0_2 t0_3 t0_4 t0_5 t0_6 t0_7 t0_8 t0_9 t0_10 t1_0 t2_0 t3_0 t4_0) from (by have c167x := c167; rw [e35] at c167x; rw [F_DR_compare.eq_1, if_neg c167x])), (show True ∧ S_DR_compare_J15 x2 x3 t0_0 t0_1 t0_2 t0_3 t0_4 t0_5 t0_6 t0_7 t0_8 t0_9 t0_10 t1_0 t2_0 t3_0 t4_0 from (by have h := hS; rw [S_DR_compare.eq_1] at h; have c167x := c167; rw [e35] at c167x; rw [if_neg c167x] at h; with_reducible exact h))⟩
      ·
        refine lv_iload_n hx hb d_15_24_8 rfl (lv_at hl 2 rfl) ?_
        refine q_goi V (q_runS (As := [.int x3]) (rest := [.ref (q 134)]) (d := 1) (mc := 0) (ms := 0) C0 V rfl LS_DR_113 (X_DR_no l D g q ws  x3 hI   _) rfl hl.1 rfl (Nat.le_of_ble_eq_true rfl) ⟨by decide, by decide⟩ ⟨Nat.le_of_ble_eq_true rfl, Nat.le_of_ble_eq_true rfl⟩ d_15_24_9) (fun a172 u170 H locs hp171 V => ?_)
        obtain ⟨rfl, b173, b174, hE175⟩ := hp171
        have e176 : a172 = (F_DR_no x3) := hE175
        clear b173
        clear b174
        refine lv_if_eq (tgt := 19) hx hb d_15_24_12 (by decide) (fun c177 => ?_) (fun c177 => ?_)
        ·
          refine lv_iconst (v := 0) hx hb d_15_24_19 (by decide) ?_
          exact J42 ((0 : Int32)) _ _ _ ws ⟨(show q_F (0 ≤ 0) from (show 0 ≤ 0 from by omega)), (show q_F (0 ≤ 1) from (show 0 ≤ 1 from by omega)), V, q_lw hl (q_lw1 0 rfl (q_lw1 1 rfl (q_lw1 2 rfl q_lw0))), (show F_DR_compare_J20 x2 x3 t0_0 t0_1 t0_2 t0_3 t0_4 t0_5 t0_6 t0_7 t0_8 t0_9 t0_10 t1_0 t2_0 t3_0 t4_0 0 = (F_DR_compare x2 x3 t0_0 t0_1 t0_2 t0_3 t0_4 t0_5 t0_6 t0_7 t0_8 t0_9 t0_10 t1_0 t2_0 t3_0 t4_0) from (by have c167x := c167; rw [e35] at c167x; have c177x := c177; rw [e176] at c177x; rw [F_DR_compare.eq_1, if_pos c167x, if_pos c177x])), (show True ∧ S_DR_compare_J20 x2 x3 t0_0 t0_1 t0_2 t0_3 t0_4 t0_5 t0_6 t0_7 t0_8 t0_9 t0_10 t1_0 t2_0 t3_0 t4_0 0 from (by have h := hS; rw [S_DR_compare.eq_1] at h; have c167x := c167; rw [e35] at c167x; rw [if_pos c167x] at h; have c177x := c177; rw [e176] at c177x; rw [if_pos c177x] at h; with_reducible exact h))⟩
        ·
          exact J161 (()) _ _ _ ws ⟨V, q_lw hl (q_lw1 0 rfl (q_lw1 1 rfl (q_lw1 2 rfl q_lw0))), (show F_DR_compare_J15 x2 x3 t0_0 t0_1 t0_2 t0_3 t0_4 t0_5 t0_6 t0_7 t0_8 t0_9 t0_10 t1_0 t2_0 t3_0 t4_0 = (F_DR_compare x2 x3 t0_0 t0_1 t0_2 t0_3 t0_4 t0_5 t0_6 t0_7 t0_8 t0_9 t0_10 t1_0 t2_0 t3_0 t4_0) from (by have c167x := c167; rw [e35] at c167x; have c177x := c177; rw [e176] at c177x; rw [F_DR_compare.eq_1, if_pos c167x, if_neg c177x])), (show True ∧ S_DR_compare_J15 x2 x3 t0_0 t0_1 t0_2 t0_3 t0_4 t0_5 t0_6 t0_7 t0_8 t0_9 t0_10 t1_0 t2_0 t3_0 t4_0 from (by have h := hS; rw [S_DR_compare.eq_1] at h; have c167x := c167; rw [e35] at c167x; rw [if_pos c167x] at h; have c177x := c177; rw [e176] at c177x; rw [if_neg c177x] at h; with_reducible exact h))⟩

