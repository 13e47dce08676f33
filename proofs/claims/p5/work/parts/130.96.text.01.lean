theorem d_18_10_0 : decode prog_18_method_10_code 0 = .ok (.aload_n 0, 1) := by decide +kernel
theorem d_18_10_1 : decode prog_18_method_10_code 1 = .ok (.invokevirtual 35, 3) := by decide +kernel
theorem d_18_10_4 : decode prog_18_method_10_code 4 = .ok (.iload_n 1, 1) := by decide +kernel
theorem d_18_10_5 : decode prog_18_method_10_code 5 = .ok (.if_icmp .eq 11, 3) := by decide +kernel
theorem d_18_10_16 : decode prog_18_method_10_code 16 = .ok (.iconst 1, 1) := by decide +kernel
theorem d_18_10_17 : decode prog_18_method_10_code 17 = .ok (.goto 4, 3) := by decide +kernel
theorem d_18_10_21 : decode prog_18_method_10_code 21 = .ok (.ireturn, 1) := by decide +kernel
theorem d_18_10_8 : decode prog_18_method_10_code 8 = .ok (.aload_n 0, 1) := by decide +kernel
theorem d_18_10_9 : decode prog_18_method_10_code 9 = .ok (.invokevirtual 35, 3) := by decide +kernel
theorem d_18_10_12 : decode prog_18_method_10_code 12 = .ok (.iload_n 2, 1) := by decide +kernel
theorem d_18_10_13 : decode prog_18_method_10_code 13 = .ok (.if_icmp .ne 7, 3) := by decide +kernel
theorem d_18_10_20 : decode prog_18_method_10_code 20 = .ok (.iconst 0, 1) := by decide +kernel
def y_TR_isAt : MethodName := ⟨"NumberHouseModel$TextRows", "isAt", "(II)Z"⟩
def F_TR_isAt (x2 : Int32) (x3 : Int32) (t0_0 : Int32) (t0_1 : Int32) (t0_2 : Int32) (t0_3 : Int32) (t0_4 : Int32) (t0_5 : Int32) (t0_6 : Int32) (t0_7 : Int64) (t0_8 : Int32) (t0_9 : Int32) (t0_10 : Int64) (t0_11 : Int64) (t0_12 : Int32) (t0_13 : Int32) (t1_0 : (Nat → Int32)) : Int32 := if ((F_TR_here t0_0 t0_1 t0_2 t0_3 t0_4 t0_5 t0_6 t0_7 t0_8 t0_9 t0_10 t0_11 t0_12 t0_13 t1_0) : Int32) = x2 then ((1 : Int32)) else (if ((F_TR_here t0_0 t0_1 t0_2 t0_3 t0_4 t0_5 t0_6 t0_7 t0_8 t0_9 t0_10 t0_11 t0_12 t0_13 t1_0) : Int32) = x3 then ((1 : Int32)) else ((0 : Int32)))
def S_TR_isAt (x2 : Int32) (x3 : Int32) (t0_0 : Int32) (t0_1 : Int32) (t0_2 : Int32) (t0_3 : Int32) (t0_4 : Int32) (t0_5 : Int32) (t0_6 : Int32) (t0_7 : Int64) (t0_8 : Int32) (t0_9 : Int32) (t0_10 : Int64) (t0_11 : Int64) (t0_12 : Int32) (t0_13 : Int32) (t1_0 : (Nat → Int32)) : Prop := (True ∧ S_TR_here t0_0 t0_1 t0_2 t0_3 t0_4 t0_5 t0_6 t0_7 t0_8 t0_9 t0_10 t0_11 t0_12 t0_13 t1_0) ∧ (if ((F_TR_here t0_0 t0_1 t0_2 t0_3 t0_4 t0_5 t0_6 t0_7 t0_8 t0_9 t0_10 t0_11 t0_12 t0_13 t1_0) : Int32) = x2 then (True) else ((True ∧ S_TR_here t0_0 t0_1 t0_2 t0_3 t0_4 t0_5 t0_6 t0_7 t0_8 t0_9 t0_10 t0_11 t0_12 t0_13 t1_0) ∧ (if ((F_TR_here t0_0 t0_1 t0_2 t0_3 t0_4 t0_5 t0_6 t0_7 t0_8 t0_9 t0_10 t0_11 t0_12 t0_13 t1_0) : Int32) = x3 then (True) else (True))))
set_option maxRecDepth 100000 in
set_option maxHeartbeats 4000000 in
theorem X_TR_isAt (l : Launch) (D : va_G) (g : Nat → ClassId) (q : Nat → Nat) (ws : va_W) (x2 : Int32) (x3 : Int32) (hI : q_I (msh g q) q ws) (t0_0 : Int32) (t0_1 : Int32) (t0_2 : Int32) (t0_3 : Int32) (t0_4 : Int32) (t0_5 : Int32) (t0_6 : Int32) (t0_7 : Int64) (t0_8 : Int32) (t0_9 : Int32) (t0_10 : Int64) (t0_11 : Int64) (t0_12 : Int32) (t0_13 : Int32) (hT0 : ws[153]? = (some (q 153, .inr (16, [.int t0_0, .ref (q 154), .int t0_1, .int t0_2, .int t0_3, .int t0_4, .ref (q 155), .int t0_5, .int t0_6, .long t0_7, .ref (q 156), .int t0_8, .int t0_9, .long t0_10, .long t0_11, .int t0_12, .int t0_13])) : Option (Nat × va_E))) (t1_0 : (Nat → Int32)) (hT1 : ws[154]? = (some (q 154, .inl (g 0, (4100 : Int32).toNatClampNeg, .inl t1_0)) : Option (Nat × va_E))) (hS : True ∧ S_TR_isAt x2 x3 t0_0 t0_1 t0_2 t0_3 t0_4 t0_5 t0_6 t0_7 t0_8 t0_9 t0_10 t0_11 t0_12 t0_13 t1_0) : q_mI l y_TR_isAt prog_18_method_10_code 3 (.boolean) 2 0 0 D g [.ref (q 153), .int x2, .int x3] ws (fun r u => ws = u ∧ (0 ≤ r.toInt) ∧ (r.toInt ≤ 1) ∧ r = (F_TR_isAt x2 x3 t0_0 t0_1 t0_2 t0_3 t0_4 t0_5 t0_6 t0_7 t0_8 t0_9 t0_10 t0_11 t0_12 t0_13 t1_0)) := by
  intro sz
  refine q_into (by decide) (Nat.le_of_ble_eq_true rfl) ?_
  intro p e s m below meth c ls hsz C0 V hl
  have hx := C0.1
  have hb := C0.2.1
  have hZ9 := (n_w153 hI hT0).2
  obtain ⟨-, btt0_13⟩ := hZ9
  clear btt0_13
  have hl : lv_has ls 3 [(0, .ref (q 153)), (1, .int x2), (2, .int x3)] := hl
  refine lv_aload_n hx hb d_18_10_0 rfl (lv_at hl 0 rfl) ?_
  have ob22 : True ∧ S_TR_here t0_0 t0_1 t0_2 t0_3 t0_4 t0_5 t0_6 t0_7 t0_8 t0_9 t0_10 t0_11 t0_12 t0_13 t1_0 := (by have h := hS; rw [S_TR_isAt.eq_1] at h; with_reducible exact h.2.1)
  refine q_goi V (q_runV (As := []) (rest := []) (d := 1) (mc := 0) (ms := 0) (ci := 16) C0 V rfl LV_TR_35 (X_TR_here l D g q ws   hI t0_0 t0_1 t0_2 t0_3 t0_4 t0_5 t0_6 t0_7 t0_8 t0_9 t0_10 t0_11 t0_12 t0_13 hT0 t1_0 hT1 ob22 _) rfl rfl hT0 rfl hl.1 rfl (Nat.le_of_ble_eq_true rfl) ⟨by decide, by decide⟩ ⟨Nat.le_of_ble_eq_true rfl, Nat.le_of_ble_eq_true rfl⟩ d_18_10_1) (fun a25 u23 H locs hp24 V => ?_)
  obtain ⟨rfl, hE26⟩ := hp24
  have e27 : a25 = (F_TR_here t0_0 t0_1 t0_2 t0_3 t0_4 t0_5 t0_6 t0_7 t0_8 t0_9 t0_10 t0_11 t0_12 t0_13 t1_0) := hE26
  refine lv_iload_n hx hb d_18_10_4 rfl (lv_at hl 1 rfl) ?_
  refine lv_icmp_eq (tgt := 16) hx hb d_18_10_5 (by decide) (fun c28 => ?_) (fun c28 => ?_)
  ·
    refine lv_iconst (v := 1) hx hb d_18_10_16 (by decide) ?_
    refine lv_goto (tgt := 21) hx hb d_18_10_17 (by decide) ?_
    exact q_retz C0 V (by decide) (⟨rfl, (show 0 ≤ (1 : Int32).toInt from (by have z17 : (1 : Int32).toInt = 1 := rfl; omega)), (show (1 : Int32).toInt ≤ 1 from (by have z17 : (1 : Int32).toInt = 1 := rfl; omega)), (show (1 : Int32) = (F_TR_isAt x2 x3 t0_0 t0_1 t0_2 t0_3 t0_4 t0_5 t0_6 t0_7 t0_8 t0_9 t0_10 t0_11 t0_12 t0_13 t1_0) from (by have c28x := c28; rw [e27] at c28x; rw [F_TR_isAt.eq_1, if_pos c28x]))⟩) d_18_10_21
  ·
    refine lv_aload_n hx hb d_18_10_8 rfl (lv_at hl 0 rfl) ?_
    have ob31 : True ∧ S_TR_here t0_0 t0_1 t0_2 t0_3 t0_4 t0_5 t0_6 t0_7 t0_8 t0_9 t0_10 t0_11 t0_12 t0_13 t1_0 := (by have h := hS; rw [S_TR_isAt.eq_1] at h; replace h := q_s2 h; have c28x := c28; rw [e27] at c28x; rw [if_neg c28x] at h; with_reducible exact h.2.1)
    refine q_goi V (q_runV (As := []) (rest := []) (d := 1) (mc := 0) (ms := 0) (ci := 16) C0 V rfl LV_TR_35 (X_TR_here l D g q ws   hI t0_0 t0_1 t0_2 t0_3 t0_4 t0_5 t0_6 t0_7 t0_8 t0_9 t0_10 t0_11 t0_12 t0_13 hT0 t1_0 hT1 ob31 _) rfl rfl hT0 rfl hl.1 rfl (Nat.le_of_ble_eq_true rfl) ⟨by decide, by decide⟩ ⟨Nat.le_of_ble_eq_true rfl, Nat.le_of_ble_eq_true rfl⟩ d_18_10_9) (fun a34 u32 H locs hp33 V => ?_)
    obtain ⟨rfl, hE35⟩ := hp33
    have e36 : a34 = (F_TR_here t0_0 t0_1 t0_2 t0_3 t0_4 t0_5 t0_6 t0_7 t0_8 t0_9 t0_10 t0_11 t0_12 t0_13 t1_0) := hE35
    refine lv_iload_n hx hb d_18_10_12 rfl (lv_at hl 2 rfl) ?_
    refine lv_icmp_ne (tgt := 20) hx hb d_18_10_13 (by decide) (fun c37 => ?_) (fun c37 => ?_)
    ·
      refine lv_iconst (v := 0) hx hb d_18_10_20 (by decide) ?_
      exact q_retz C0 V (by decide) (⟨rfl, (show 0 ≤ (0 : Int32).toInt from (by have z17 : (0 : Int32).toInt = 0 := rfl; omega)), (show (0 : Int32).toInt ≤ 1 from (by have z17 : (0 : Int32).toInt = 0 := rfl; omega)), (show (0 : Int32) = (F_TR_isAt x2 x3 t0_0 t0_1 t0_2 t0_3 t0_4 t0_5 t0_6 t0_7 t0_8 t0_9 t0_10 t0_11 t0_12 t0_13 t1_0) from (by have c28x := c28; rw [e27] at c28x; have c37x := c37; rw [e36] at c37x; rw [F_TR_isAt.eq_1, if_neg c28x, if_neg c37x]))⟩) d_18_10_21
    ·
      refine lv_iconst (v := 1) hx hb d_18_10_16 (by decide) ?_
      refine lv_goto (tgt := 21) hx hb d_18_10_17 (by decide) ?_
      exact q_retz C0 V (by decide) (⟨rfl, (show 0 ≤ (1 : Int32).toInt from (by have z17 : (1 : Int32).toInt = 1 := rfl; omega)), (show (1 : Int32).toInt ≤ 1 from (by have z17 : (1 : Int32).toInt = 1 := rfl; omega)), (show (1 : Int32) = (F_TR_isAt x2 x3 t0_0 t0_1 t0_2 t0_3 t0_4 t0_5 t0_6 t0_7 t0_8 t0_9 t0_10 t0_11 t0_12 t0_13 t1_0) from (by have c28x := c28; rw [e27] at c28x; have c37x := c37; rw [e36] at c37x; rw [F_TR_isAt.eq_1, if_neg c28x, if_pos c37x]))⟩) d_18_10_21
theorem d_18_13_0 : decode prog_18_method_13_code 0 = .ok (.aload_n 0, 1) := by decide +kernel
theorem d_18_13_1 : decode prog_18_method_13_code 1 = .ok (.invokevirtual 35, 3) := by decide +kernel
theorem d_18_13_4 : decode prog_18_method_13_code 4 = .ok (.bipush 45, 2) := by decide +kernel
theorem d_18_13_14 : decode prog_18_method_13_code 14 = .ok (.istore_n 1, 1) := by decide +kernel
theorem d_18_13_15 : decode prog_18_method_13_code 15 = .ok (.iload_n 1, 1) := by decide +kernel
theorem d_18_13_38 : decode prog_18_method_13_code 38 = .ok (.aload_n 0, 1) := by decide +kernel
theorem d_18_13_39 : decode prog_18_method_13_code 39 = .ok (.invokevirtual 35, 3) := by decide +kernel
theorem d_18_13_42 : decode prog_18_method_13_code 42 = .ok (.invokestatic 31, 3) := by decide +kernel
theorem d_18_13_45 : decode prog_18_method_13_code 45 = .ok (.ifCond .ne 5, 3) := by decide +kernel
theorem d_18_13_50 : decode prog_18_method_13_code 50 = .ok (.aload_n 0, 1) := by decide +kernel
theorem d_18_13_51 : decode prog_18_method_13_code 51 = .ok (.invokevirtual 35, 3) := by decide +kernel
theorem d_18_13_54 : decode prog_18_method_13_code 54 = .ok (.invokestatic 31, 3) := by decide +kernel
theorem d_18_13_57 : decode prog_18_method_13_code 57 = .ok (.ifCond .eq 56, 3) := by decide +kernel
theorem d_18_13_113 : decode prog_18_method_13_code 113 = .ok (.aload_n 0, 1) := by decide +kernel
theorem d_18_13_114 : decode prog_18_method_13_code 114 = .ok (.iload_n 1, 1) := by decide +kernel
theorem d_18_13_115 : decode prog_18_method_13_code 115 = .ok (.ifCond .eq 11, 3) := by decide +kernel
theorem d_18_13_126 : decode prog_18_method_13_code 126 = .ok (.aload_n 0, 1) := by decide +kernel
theorem d_18_13_127 : decode prog_18_method_13_code 127 = .ok (.getfield 49, 3) := by decide +kernel
set_option maxRecDepth 100000 in
theorem w_2149 : (Cond.fieldLink "NumberHouseModel$TextRows" (49 : Nat) "NumberHouseModel$TextRows" "exponent" "J") ∈ q_tbl := q_of9 229 rfl (by decide +kernel)
theorem d_18_13_130 : decode prog_18_method_13_code 130 = .ok (.putfield 49, 3) := by decide +kernel
theorem d_18_13_133 : decode prog_18_method_13_code 133 = .ok (.iconst 1, 1) := by decide +kernel
theorem d_18_13_134 : decode prog_18_method_13_code 134 = .ok (.ireturn, 1) := by decide +kernel
theorem d_18_13_118 : decode prog_18_method_13_code 118 = .ok (.aload_n 0, 1) := by decide +kernel
theorem d_18_13_119 : decode prog_18_method_13_code 119 = .ok (.getfield 49, 3) := by decide +kernel
theorem d_18_13_122 : decode prog_18_method_13_code 122 = .ok (.lneg, 1) := by decide +kernel
theorem d_18_13_123 : decode prog_18_method_13_code 123 = .ok (.goto 7, 3) := by decide +kernel
theorem d_18_13_60 : decode prog_18_method_13_code 60 = .ok (.aload_n 0, 1) := by decide +kernel
theorem d_18_13_61 : decode prog_18_method_13_code 61 = .ok (.aload_n 0, 1) := by decide +kernel
theorem d_18_13_62 : decode prog_18_method_13_code 62 = .ok (.getfield 49, 3) := by decide +kernel
theorem d_18_13_65 : decode prog_18_method_13_code 65 = .ok (.ldc2_w 53, 3) := by decide +kernel
set_option maxRecDepth 100000 in
theorem w_2464 : (Cond.constantLong "NumberHouseModel$TextRows" (53 : Nat) (1000000000 : Int64)) ∈ q_tbl := q_of11 64 rfl (by decide +kernel)
theorem d_18_13_68 : decode prog_18_method_13_code 68 = .ok (.lcmp, 1) := by decide +kernel
theorem d_18_13_69 : decode prog_18_method_13_code 69 = .ok (.ifCond .ge 24, 3) := by decide +kernel
theorem d_18_13_93 : decode prog_18_method_13_code 93 = .ok (.aload_n 0, 1) := by decide +kernel
theorem d_18_13_94 : decode prog_18_method_13_code 94 = .ok (.getfield 49, 3) := by decide +kernel
theorem d_18_13_97 : decode prog_18_method_13_code 97 = .ok (.putfield 49, 3) := by decide +kernel
theorem d_18_13_100 : decode prog_18_method_13_code 100 = .ok (.aload_n 0, 1) := by decide +kernel
theorem d_18_13_101 : decode prog_18_method_13_code 101 = .ok (.dup, 1) := by decide +kernel
theorem d_18_13_102 : decode prog_18_method_13_code 102 = .ok (.getfield 28, 3) := by decide +kernel
theorem d_18_13_105 : decode prog_18_method_13_code 105 = .ok (.iconst 1, 1) := by decide +kernel
theorem d_18_13_106 : decode prog_18_method_13_code 106 = .ok (.iadd, 1) := by decide +kernel
theorem d_18_13_107 : decode prog_18_method_13_code 107 = .ok (.putfield 28, 3) := by decide +kernel
theorem d_18_13_110 : decode prog_18_method_13_code 110 = .ok (.goto (-60), 3) := by decide +kernel
theorem d_18_13_72 : decode prog_18_method_13_code 72 = .ok (.ldc2_w 55, 3) := by decide +kernel
set_option maxRecDepth 100000 in
theorem w_2465 : (Cond.constantLong "NumberHouseModel$TextRows" (55 : Nat) (10 : Int64)) ∈ q_tbl := q_of11 65 rfl (by decide +kernel)
theorem d_18_13_75 : decode prog_18_method_13_code 75 = .ok (.aload_n 0, 1) := by decide +kernel
theorem d_18_13_76 : decode prog_18_method_13_code 76 = .ok (.getfield 49, 3) := by decide +kernel
theorem d_18_13_79 : decode prog_18_method_13_code 79 = .ok (.lmul, 1) := by decide +kernel
theorem d_18_13_80 : decode prog_18_method_13_code 80 = .ok (.aload_n 0, 1) := by decide +kernel
theorem d_18_13_81 : decode prog_18_method_13_code 81 = .ok (.invokevirtual 35, 3) := by decide +kernel
theorem d_18_13_84 : decode prog_18_method_13_code 84 = .ok (.i2l, 1) := by decide +kernel
theorem d_18_13_85 : decode prog_18_method_13_code 85 = .ok (.ladd, 1) := by decide +kernel
theorem d_18_13_86 : decode prog_18_method_13_code 86 = .ok (.ldc2_w 57, 3) := by decide +kernel
set_option maxRecDepth 100000 in
theorem w_2466 : (Cond.constantLong "NumberHouseModel$TextRows" (57 : Nat) (48 : Int64)) ∈ q_tbl := q_of11 66 rfl (by decide +kernel)
theorem d_18_13_89 : decode prog_18_method_13_code 89 = .ok (.lsub, 1) := by decide +kernel
theorem d_18_13_90 : decode prog_18_method_13_code 90 = .ok (.goto 7, 3) := by decide +kernel
theorem d_18_13_48 : decode prog_18_method_13_code 48 = .ok (.iconst 0, 1) := by decide +kernel
theorem d_18_13_49 : decode prog_18_method_13_code 49 = .ok (.ireturn, 1) := by decide +kernel
theorem d_18_13_28 : decode prog_18_method_13_code 28 = .ok (.aload_n 0, 1) := by decide +kernel
theorem d_18_13_29 : decode prog_18_method_13_code 29 = .ok (.dup, 1) := by decide +kernel
theorem d_18_13_30 : decode prog_18_method_13_code 30 = .ok (.getfield 28, 3) := by decide +kernel
theorem d_18_13_33 : decode prog_18_method_13_code 33 = .ok (.iconst 1, 1) := by decide +kernel
theorem d_18_13_34 : decode prog_18_method_13_code 34 = .ok (.iadd, 1) := by decide +kernel
theorem d_18_13_35 : decode prog_18_method_13_code 35 = .ok (.putfield 28, 3) := by decide +kernel
theorem d_18_13_16 : decode prog_18_method_13_code 16 = .ok (.ifCond .ne 12, 3) := by decide +kernel
theorem d_18_13_19 : decode prog_18_method_13_code 19 = .ok (.aload_n 0, 1) := by decide +kernel
theorem d_18_13_20 : decode prog_18_method_13_code 20 = .ok (.invokevirtual 35, 3) := by decide +kernel
theorem d_18_13_23 : decode prog_18_method_13_code 23 = .ok (.bipush 43, 2) := by decide +kernel
theorem d_18_13_25 : decode prog_18_method_13_code 25 = .ok (.if_icmp .ne 13, 3) := by decide +kernel
theorem d_18_13_6 : decode prog_18_method_13_code 6 = .ok (.if_icmp .ne 7, 3) := by decide +kernel
theorem d_18_13_13 : decode prog_18_method_13_code 13 = .ok (.iconst 0, 1) := by decide +kernel
theorem d_18_13_9 : decode prog_18_method_13_code 9 = .ok (.iconst 1, 1) := by decide +kernel
theorem d_18_13_10 : decode prog_18_method_13_code 10 = .ok (.goto 4, 3) := by decide +kernel
def y_TR_power : MethodName := ⟨"NumberHouseModel$TextRows", "power", "()Z"⟩
def F_TR_power_L50 (t0_0 : Int32) (t0_1 : Int32) (t0_2 : Int32) (t0_3 : Int32) (t0_4 : Int32) (t0_5 : Int32) (t0_6 : Int32) (t0_7 : Int64) (t0_8 : Int32) (t0_9 : Int32) (t0_10 : Int64) (t0_11 : Int64) (t0_12 : Int32) (t0_13 : Int32) (t1_0 : (Nat → Int32)) (lx28 : Int32) (lx39 : Int32) : Nat → Int32 → Int64 → (Int32 × Int32 × Int32 × Int32 × Int32 × Int32 × Int32 × Int32 × Int64 × Int32 × Int32 × Int64 × Int64 × Int32 × Int32)
  | 0, _, _ => default
  | fm + 1, lx64, lx65 => if ((F_TR_isDigit ((F_TR_here t0_0 t0_1 t0_2 lx64 t0_4 t0_5 t0_6 lx65 t0_8 t0_9 t0_10 t0_11 t0_12 t0_13 t1_0) : Int32)) : Int32) = (0 : Int32) then (if lx28 = (0 : Int32) then (((1 : Int32), t0_0, t0_1, t0_2, lx64, t0_4, t0_5, t0_6, lx65, t0_8, t0_9, t0_10, t0_11, t0_12, t0_13)) else (((1 : Int32), t0_0, t0_1, t0_2, lx64, t0_4, t0_5, t0_6, (-lx65 : Int64), t0_8, t0_9, t0_10, t0_11, t0_12, t0_13))) else (if (0 : Int32) ≤ (lg_cmp lx65 1000000000 : Int32) then (F_TR_power_L50 t0_0 t0_1 t0_2 t0_3 t0_4 t0_5 t0_6 t0_7 t0_8 t0_9 t0_10 t0_11 t0_12 t0_13 t1_0 lx28 lx39 fm (lx64 + 1 : Int32) lx65) else (F_TR_power_L50 t0_0 t0_1 t0_2 t0_3 t0_4 t0_5 t0_6 t0_7 t0_8 t0_9 t0_10 t0_11 t0_12 t0_13 t1_0 lx28 lx39 fm (lx64 + 1 : Int32) (((10 * lx65 : Int64) + (((F_TR_here t0_0 t0_1 t0_2 lx64 t0_4 t0_5 t0_6 lx65 t0_8 t0_9 t0_10 t0_11 t0_12 t0_13 t1_0) : Int32).toInt64 : Int64) : Int64) - 48 : Int64)))
def F_TR_power_J38 (t0_0 : Int32) (t0_1 : Int32) (t0_2 : Int32) (t0_3 : Int32) (t0_4 : Int32) (t0_5 : Int32) (t0_6 : Int32) (t0_7 : Int64) (t0_8 : Int32) (t0_9 : Int32) (t0_10 : Int64) (t0_11 : Int64) (t0_12 : Int32) (t0_13 : Int32) (t1_0 : (Nat → Int32)) (lx28 : Int32) (lx39 : Int32) : Int32 × Int32 × Int32 × Int32 × Int32 × Int32 × Int32 × Int32 × Int64 × Int32 × Int32 × Int64 × Int64 × Int32 × Int32 := if ((F_TR_isDigit ((F_TR_here t0_0 t0_1 t0_2 lx39 t0_4 t0_5 t0_6 t0_7 t0_8 t0_9 t0_10 t0_11 t0_12 t0_13 t1_0) : Int32)) : Int32) = (0 : Int32) then (((0 : Int32), t0_0, t0_1, t0_2, lx39, t0_4, t0_5, t0_6, t0_7, t0_8, t0_9, t0_10, t0_11, t0_12, t0_13)) else (F_TR_power_L50 t0_0 t0_1 t0_2 t0_3 t0_4 t0_5 t0_6 t0_7 t0_8 t0_9 t0_10 t0_11 t0_12 t0_13 t1_0 lx28 lx39 1000000 lx39 t0_7)
def F_TR_power_J28 (t0_0 : Int32) (t0_1 : Int32) (t0_2 : Int32) (t0_3 : Int32) (t0_4 : Int32) (t0_5 : Int32) (t0_6 : Int32) (t0_7 : Int64) (t0_8 : Int32) (t0_9 : Int32) (t0_10 : Int64) (t0_11 : Int64) (t0_12 : Int32) (t0_13 : Int32) (t1_0 : (Nat → Int32)) (lx28 : Int32) : Int32 × Int32 × Int32 × Int32 × Int32 × Int32 × Int32 × Int32 × Int64 × Int32 × Int32 × Int64 × Int64 × Int32 × Int32 := F_TR_power_J38 t0_0 t0_1 t0_2 t0_3 t0_4 t0_5 t0_6 t0_7 t0_8 t0_9 t0_10 t0_11 t0_12 t0_13 t1_0 lx28 (t0_3 + 1 : Int32)
def F_TR_power_J14 (t0_0 : Int32) (t0_1 : Int32) (t0_2 : Int32) (t0_3 : Int32) (t0_4 : Int32) (t0_5 : Int32) (t0_6 : Int32) (t0_7 : Int64) (t0_8 : Int32) (t0_9 : Int32) (t0_10 : Int64) (t0_11 : Int64) (t0_12 : Int32) (t0_13 : Int32) (t1_0 : (Nat → Int32)) (lx28 : Int32) : Int32 × Int32 × Int32 × Int32 × Int32 × Int32 × Int32 × Int32 × Int64 × Int32 × Int32 × Int64 × Int64 × Int32 × Int32 := if lx28 = (0 : Int32) then (if ((F_TR_here t0_0 t0_1 t0_2 t0_3 t0_4 t0_5 t0_6 t0_7 t0_8 t0_9 t0_10 t0_11 t0_12 t0_13 t1_0) : Int32) = (43 : Int32) then (F_TR_power_J28 t0_0 t0_1 t0_2 t0_3 t0_4 t0_5 t0_6 t0_7 t0_8 t0_9 t0_10 t0_11 t0_12 t0_13 t1_0 lx28) else (F_TR_power_J38 t0_0 t0_1 t0_2 t0_3 t0_4 t0_5 t0_6 t0_7 t0_8 t0_9 t0_10 t0_11 t0_12 t0_13 t1_0 lx28 t0_3)) else (F_TR_power_J28 t0_0 t0_1 t0_2 t0_3 t0_4 t0_5 t0_6 t0_7 t0_8 t0_9 t0_10 t0_11 t0_12 t0_13 t1_0 lx28)
def F_TR_power (t0_0 : Int32) (t0_1 : Int32) (t0_2 : Int32) (t0_3 : Int32) (t0_4 : Int32) (t0_5 : Int32) (t0_6 : Int32) (t0_7 : Int64) (t0_8 : Int32) (t0_9 : Int32) (t0_10 : Int64) (t0_11 : Int64) (t0_12 : Int32) (t0_13 : Int32) (t1_0 : (Nat → Int32)) : Int32 × Int32 × Int32 × Int32 × Int32 × Int32 × Int32 × Int32 × Int64 × Int32 × Int32 × Int64 × Int64 × Int32 × Int32 := if ((F_TR_here t0_0 t0_1 t0_2 t0_3 t0_4 t0_5 t0_6 t0_7 t0_8 t0_9 t0_10 t0_11 t0_12 t0_13 t1_0) : Int32) = (45 : Int32) then (F_TR_power_J14 t0_0 t0_1 t0_2 t0_3 t0_4 t0_5 t0_6 t0_7 t0_8 t0_9 t0_10 t0_11 t0_12 t0_13 t1_0 1) else (F_TR_power_J14 t0_0 t0_1 t0_2 t0_3 t0_4 t0_5 t0_6 t0_7 t0_8 t0_9 t0_10 t0_11 t0_12 t0_13 t1_0 0)
def S_TR_power_L50 (t0_0 : Int32) (t0_1 : Int32) (t0_2 : Int32) (t0_3 : Int32) (t0_4 : Int32) (t0_5 : Int32) (t0_6 : Int32) (t0_7 : Int64) (t0_8 : Int32) (t0_9 : Int32) (t0_10 : Int64) (t0_11 : Int64) (t0_12 : Int32) (t0_13 : Int32) (t1_0 : (Nat → Int32)) (lx28 : Int32) (lx39 : Int32) : Nat → Int32 → Int64 → Prop
  | 0, _, _ => False
  | fm + 1, lx64, lx65 => (True ∧ S_TR_here t0_0 t0_1 t0_2 lx64 t0_4 t0_5 t0_6 lx65 t0_8 t0_9 t0_10 t0_11 t0_12 t0_13 t1_0) ∧ (if ((F_TR_isDigit ((F_TR_here t0_0 t0_1 t0_2 lx64 t0_4 t0_5 t0_6 lx65 t0_8 t0_9 t0_10 t0_11 t0_12 t0_13 t1_0) : Int32)) : Int32) = (0 : Int32) then (if lx28 = (0 : Int32) then (True) else (True)) else (if (0 : Int32) ≤ (lg_cmp lx65 1000000000 : Int32) then (S_TR_power_L50 t0_0 t0_1 t0_2 t0_3 t0_4 t0_5 t0_6 t0_7 t0_8 t0_9 t0_10 t0_11 t0_12 t0_13 t1_0 lx28 lx39 fm (lx64 + 1 : Int32) lx65) else ((True ∧ S_TR_here t0_0 t0_1 t0_2 lx64 t0_4 t0_5 t0_6 lx65 t0_8 t0_9 t0_10 t0_11 t0_12 t0_13 t1_0) ∧ (S_TR_power_L50 t0_0 t0_1 t0_2 t0_3 t0_4 t0_5 t0_6 t0_7 t0_8 t0_9 t0_10 t0_11 t0_12 t0_13 t1_0 lx28 lx39 fm (lx64 + 1 : Int32) (((10 * lx65 : Int64) + (((F_TR_here t0_0 t0_1 t0_2 lx64 t0_4 t0_5 t0_6 lx65 t0_8 t0_9 t0_10 t0_11 t0_12 t0_13 t1_0) : Int32).toInt64 : Int64) : Int64) - 48 : Int64)))))
def S_TR_power_J38 (t0_0 : Int32) (t0_1 : Int32) (t0_2 : Int32) (t0_3 : Int32) (t0_4 : Int32) (t0_5 : Int32) (t0_6 : Int32) (t0_7 : Int64) (t0_8 : Int32) (t0_9 : Int32) (t0_10 : Int64) (t0_11 : Int64) (t0_12 : Int32) (t0_13 : Int32) (t1_0 : (Nat → Int32)) (lx28 : Int32) (lx39 : Int32) : Prop := (True ∧ S_TR_here t0_0 t0_1 t0_2 lx39 t0_4 t0_5 t0_6 t0_7 t0_8 t0_9 t0_10 t0_11 t0_12 t0_13 t1_0) ∧ (if ((F_TR_isDigit ((F_TR_here t0_0 t0_1 t0_2 lx39 t0_4 t0_5 t0_6 t0_7 t0_8 t0_9 t0_10 t0_11 t0_12 t0_13 t1_0) : Int32)) : Int32) = (0 : Int32) then (True) else (S_TR_power_L50 t0_0 t0_1 t0_2 t0_3 t0_4 t0_5 t0_6 t0_7 t0_8 t0_9 t0_10 t0_11 t0_12 t0_13 t1_0 lx28 lx39 1000000 lx39 t0_7))
def S_TR_power_J28 (t0_0 : Int32) (t0_1 : Int32) (t0_2 : Int32) (t0_3 : Int32) (t0_4 : Int32) (t0_5 : Int32) (t0_6 : Int32) (t0_7 : Int64) (t0_8 : Int32) (t0_9 : Int32) (t0_10 : Int64) (t0_11 : Int64) (t0_12 : Int32) (t0_13 : Int32) (t1_0 : (Nat → Int32)) (lx28 : Int32) : Prop := S_TR_power_J38 t0_0 t0_1 t0_2 t0_3 t0_4 t0_5 t0_6 t0_7 t0_8 t0_9 t0_10 t0_11 t0_12 t0_13 t1_0 lx28 (t0_3 + 1 : Int32)
def S_TR_power_J14 (t0_0 : Int32) (t0_1 : Int32) (t0_2 : Int32) (t0_3 : Int32) (t0_4 : Int32) (t0_5 : Int32) (t0_6 : Int32) (t0_7 : Int64) (t0_8 : Int32) (t0_9 : Int32) (t0_10 : Int64) (t0_11 : Int64) (t0_12 : Int32) (t0_13 : Int32) (t1_0 : (Nat → Int32)) (lx28 : Int32) : Prop := if lx28 = (0 : Int32) then ((True ∧ S_TR_here t0_0 t0_1 t0_2 t0_3 t0_4 t0_5 t0_6 t0_7 t0_8 t0_9 t0_10 t0_11 t0_12 t0_13 t1_0) ∧ (if ((F_TR_here t0_0 t0_1 t0_2 t0_3 t0_4 t0_5 t0_6 t0_7 t0_8 t0_9 t0_10 t0_11 t0_12 t0_13 t1_0) : Int32) = (43 : Int32) then (S_TR_power_J28 t0_0 t0_1 t0_2 t0_3 t0_4 t0_5 t0_6 t0_7 t0_8 t0_9 t0_10 t0_11 t0_12 t0_13 t1_0 lx28) else (S_TR_power_J38 t0_0 t0_1 t0_2 t0_3 t0_4 t0_5 t0_6 t0_7 t0_8 t0_9 t0_10 t0_11 t0_12 t0_13 t1_0 lx28 t0_3))) else (S_TR_power_J28 t0_0 t0_1 t0_2 t0_3 t0_4 t0_5 t0_6 t0_7 t0_8 t0_9 t0_10 t0_11 t0_12 t0_13 t1_0 lx28)
def S_TR_power (t0_0 : Int32) (t0_1 : Int32) (t0_2 : Int32) (t0_3 : Int32) (t0_4 : Int32) (t0_5 : Int32) (t0_6 : Int32) (t0_7 : Int64) (t0_8 : Int32) (t0_9 : Int32) (t0_10 : Int64) (t0_11 : Int64) (t0_12 : Int32) (t0_13 : Int32) (t1_0 : (Nat → Int32)) : Prop := (True ∧ S_TR_here t0_0 t0_1 t0_2 t0_3 t0_4 t0_5 t0_6 t0_7 t0_8 t0_9 t0_10 t0_11 t0_12 t0_13 t1_0) ∧ (if ((F_TR_here t0_0 t0_1 t0_2 t0_3 t0_4 t0_5 t0_6 t0_7 t0_8 t0_9 t0_10 t0_11 t0_12 t0_13 t1_0) : Int32) = (45 : Int32) then (S_TR_power_J14 t0_0 t0_1 t0_2 t0_3 t0_4 t0_5 t0_6 t0_7 t0_8 t0_9 t0_10 t0_11 t0_12 t0_13 t1_0 1) else (S_TR_power_J14 t0_0 t0_1 t0_2 t0_3 t0_4 t0_5 t0_6 t0_7 t0_8 t0_9 t0_10 t0_11 t0_12 t0_13 t1_0 0))
set_option maxRecDepth 100000 in
set_option maxHeartbeats 4000000 in
theorem X_TR_power (l : Launch) (D : va_G) (g : Nat → ClassId) (q : Nat → Nat) (ws : va_W) (hI : q_I (msh g q) q ws) (t0_0 : Int32) (t0_1 : Int32) (t0_2 : Int32) (t0_3 : Int32) (t0_4 : Int32) (t0_5 : Int32) (t0_6 : Int32) (t0_7 : Int64) (t0_8 : Int32) (t0_9 : Int32) (t0_10 : Int64) (t0_11 : Int64) (t0_12 : Int32) (t0_13 : Int32) (hT0 : ws[153]? = (some (q 153, .inr (16, [.int t0_0, .ref (q 154), .int t0_1, .int t0_2, .int t0_3, .int t0_4, .ref (q 155), .int t0_5, .int t0_6, .long t0_7, .ref (q 156), .int t0_8, .int t0_9, .long t0_10, .long t0_11, .int t0_12, .int t0_13])) : Option (Nat × va_E))) (t1_0 : (Nat → Int32)) (hT1 : ws[154]? = (some (q 154, .inl (g 0, (4100 : Int32).toNatClampNeg, .inl t1_0)) : Option (Nat × va_E))) (hS : True ∧ S_TR_power t0_0 t0_1 t0_2 t0_3 t0_4 t0_5 t0_6 t0_7 t0_8 t0_9 t0_10 t0_11 t0_12 t0_13 t1_0) : q_mI l y_TR_power prog_18_method_13_code 2 (.boolean) 2 0 0 D g [.ref (q 153)] ws (fun r u => q_I (msh g q) q u ∧ q_un ws u [153] ∧ ∃ (u0_0 : Int32) (u0_1 : Int32) (u0_2 : Int32) (u0_3 : Int32) (u0_4 : Int32) (u0_5 : Int32) (u0_6 : Int32) (u0_7 : Int64) (u0_8 : Int32) (u0_9 : Int32) (u0_10 : Int64) (u0_11 : Int64) (u0_12 : Int32) (u0_13 : Int32), u[153]? = (some (q 153, .inr (16, [.int u0_0, .ref (q 154), .int u0_1, .int u0_2, .int u0_3, .int u0_4, .ref (q 155), .int u0_5, .int u0_6, .long u0_7, .ref (q 156), .int u0_8, .int u0_9, .long u0_10, .long u0_11, .int u0_12, .int u0_13])) : Option (Nat × va_E)) ∧ (0 ≤ r.toInt) ∧ (r.toInt ≤ 1) ∧ (t0_0.toInt ≤ u0_0.toInt) ∧ (u0_0.toInt ≤ t0_0.toInt) ∧ (t0_1.toInt ≤ u0_1.toInt) ∧ (u0_1.toInt ≤ t0_1.toInt) ∧ (t0_2.toInt ≤ u0_2.toInt) ∧ (u0_2.toInt ≤ t0_2.toInt) ∧ (t0_4.toInt ≤ u0_4.toInt) ∧ (u0_4.toInt ≤ t0_4.toInt) ∧ (t0_5.toInt ≤ u0_5.toInt) ∧ (u0_5.toInt ≤ t0_5.toInt) ∧ (t0_6.toInt ≤ u0_6.toInt) ∧ (u0_6.toInt ≤ t0_6.toInt) ∧ (t0_8.toInt ≤ u0_8.toInt) ∧ (u0_8.toInt ≤ t0_8.toInt) ∧ (t0_9.toInt ≤ u0_9.toInt) ∧ (u0_9.toInt ≤ t0_9.toInt) ∧ (t0_10.toInt ≤ u0_10.toInt) ∧ (u0_10.toInt ≤ t0_10.toInt) ∧ (t0_11.toInt ≤ u0_11.toInt) ∧ (u0_11.toInt ≤ t0_11.toInt) ∧ (t0_12.toInt ≤ u0_12.toInt) ∧ (u0_12.toInt ≤ t0_12.toInt) ∧ (t0_13.toInt ≤ u0_13.toInt) ∧ (u0_13.toInt ≤ t0_13.toInt) ∧ (r, u0_0, u0_1, u0_2, u0_3, u0_4, u0_5, u0_6, u0_7, u0_8, u0_9, u0_10, u0_11, u0_12, u0_13) = (F_TR_power t0_0 t0_1 t0_2 t0_3 t0_4 t0_5 t0_6 t0_7 t0_8 t0_9 t0_10 t0_11 t0_12 t0_13 t1_0)) := by
  intro sz
  refine q_into (by decide) (Nat.le_of_ble_eq_true rfl) ?_
  intro p e s m below meth c ls hsz C0 V hl
  have hx := C0.1
  have hb := C0.2.1
  obtain ⟨btt0_1, hZ9⟩ := n_w153 hI hT0
  obtain ⟨btt0_4, btt0_13⟩ := hZ9
  replace btt0_1 : q_F (0 ≤ t0_1.toInt ∧ t0_1.toInt ≤ 4100) := btt0_1
  replace btt0_4 : q_F (0 ≤ t0_4.toInt ∧ t0_4.toInt ≤ 1) := btt0_4
  replace btt0_13 : q_F (0 ≤ t0_13.toInt ∧ t0_13.toInt ≤ 1) := btt0_13
  have hF : q_un ws ws [153] := q_u0
  have hl : lv_has ls 2 [(0, .ref (q 153))] := hl
  refine lv_aload_n hx hb d_18_13_0 rfl (lv_at hl 0 rfl) ?_
  have ob22 : True ∧ S_TR_here t0_0 t0_1 t0_2 t0_3 t0_4 t0_5 t0_6 t0_7 t0_8 t0_9 t0_10 t0_11 t0_12 t0_13 t1_0 := (by have h := hS; rw [S_TR_power.eq_1] at h; with_reducible exact h.2.1)
  refine q_goi V (q_runV (As := []) (rest := []) (d := 1) (mc := 0) (ms := 0) (ci := 16) C0 V rfl LV_TR_35 (X_TR_here l D g q ws   hI t0_0 t0_1 t0_2 t0_3 t0_4 t0_5 t0_6 t0_7 t0_8 t0_9 t0_10 t0_11 t0_12 t0_13 hT0 t1_0 hT1 ob22 _) rfl rfl hT0 rfl hl.1 rfl (Nat.le_of_ble_eq_true rfl) ⟨by decide, by decide⟩ ⟨Nat.le_of_ble_eq_true rfl, Nat.le_of_ble_eq_true rfl⟩ d_18_13_1) (fun a25 u23 H locs hp24 V => ?_)
  obtain ⟨rfl, hE26⟩ := hp24
  have e27 : a25 = (F_TR_here t0_0 t0_1 t0_2 t0_3 t0_4 t0_5 t0_6 t0_7 t0_8 t0_9 t0_10 t0_11 t0_12 t0_13 t1_0) := hE26
  refine lv_bipush (v := 45) hx hb d_18_13_4 (by decide) ?_
  refine q_join (X := Int32) (fun z H locs ls _ => q_F (0 ≤ z.toInt) ∧ q_F (z.toInt ≤ 1) ∧ q_Wd D g (va_A ws sz) s ws H locs ∧ lv_has ls 2 [(0, .ref (q 153))] ∧ F_TR_power_J14 t0_0 t0_1 t0_2 t0_3 t0_4 t0_5 t0_6 t0_7 t0_8 t0_9 t0_10 t0_11 t0_12 t0_13 t1_0 z = (F_TR_power t0_0 t0_1 t0_2 t0_3 t0_4 t0_5 t0_6 t0_7 t0_8 t0_9 t0_10 t0_11 t0_12 t0_13 t1_0) ∧ True ∧ S_TR_power_J14 t0_0 t0_1 t0_2 t0_3 t0_4 t0_5 t0_6 t0_7 t0_8 t0_9 t0_10 t0_11 t0_12 t0_13 t1_0 z) (fun z => [.int z]) 14 0 0 ?_ ?_
  ·
    rintro lx28 H locs ls _ hZ9
    replace hZ9 := hZ9.2.2
    obtain ⟨V, hZ9⟩ := hZ9
    obtain ⟨hl, hZ9⟩ := hZ9
    obtain ⟨hR34, hS35⟩ := hZ9
    replace hl : lv_has ls 2 [(0, .ref (q 153))] := hl
    refine lv_istore_n (lv' := [(1, .int lx28), (0, .ref (q 153))]) hx hb d_18_13_14 rfl hl (by decide) rfl (fun ls hl => ?_)
    refine lv_iload_n hx hb d_18_13_15 rfl (lv_at hl 0 rfl) ?_
    refine q_join (X := Int32) (fun z H locs ls w43 => q_Wd D g (va_A ws sz) s w43 H locs ∧ lv_has ls 2 [(1, .int lx28), (0, .ref (q 153))] ∧ q_I (msh g q) q w43 ∧ q_un ws w43 [153] ∧ w43[153]? = (some (q 153, .inr (16, [.int t0_0, .ref (q 154), .int t0_1, .int t0_2, .int z, .int t0_4, .ref (q 155), .int t0_5, .int t0_6, .long t0_7, .ref (q 156), .int t0_8, .int t0_9, .long t0_10, .long t0_11, .int t0_12, .int t0_13])) : Option (Nat × va_E)) ∧ w43[154]? = (some (q 154, .inl (g 0, (4100 : Int32).toNatClampNeg, .inl t1_0)) : Option (Nat × va_E)) ∧ F_TR_power_J38 t0_0 t0_1 t0_2 t0_3 t0_4 t0_5 t0_6 t0_7 t0_8 t0_9 t0_10 t0_11 t0_12 t0_13 t1_0 lx28 z = (F_TR_power t0_0 t0_1 t0_2 t0_3 t0_4 t0_5 t0_6 t0_7 t0_8 t0_9 t0_10 t0_11 t0_12 t0_13 t1_0) ∧ True ∧ S_TR_power_J38 t0_0 t0_1 t0_2 t0_3 t0_4 t0_5 t0_6 t0_7 t0_8 t0_9 t0_10 t0_11 t0_12 t0_13 t1_0 lx28 z) (fun z => []) 38 0 0 ?_ ?_
    ·
      rintro lx39 H locs ls w43 hZ9
      obtain ⟨V, hZ9⟩ := hZ9
      obtain ⟨hl, hZ9⟩ := hZ9
      obtain ⟨hI, hZ9⟩ := hZ9
      obtain ⟨hF, hZ9⟩ := hZ9
      obtain ⟨hO40, hZ9⟩ := hZ9
      obtain ⟨hA41, hZ9⟩ := hZ9
      obtain ⟨hR44, hS45⟩ := hZ9
      replace hl : lv_has ls 2 [(1, .int lx28), (0, .ref (q 153))] := hl
      replace hO40 : w43[153]? = (some (q 153, .inr (16, [.int t0_0, .ref (q 154), .int t0_1, .int t0_2, .int lx39, .int t0_4, .ref (q 155), .int t0_5, .int t0_6, .long t0_7, .ref (q 156), .int t0_8, .int t0_9, .long t0_10, .long t0_11, .int t0_12, .int t0_13])) : Option (Nat × va_E)) := hO40
      replace hA41 : w43[154]? = (some (q 154, .inl (g 0, (4100 : Int32).toNatClampNeg, .inl t1_0)) : Option (Nat × va_E)) := hA41
      refine lv_aload_n hx hb d_18_13_38 rfl (lv_at hl 1 rfl) ?_
      have ob49 : True ∧ S_TR_here t0_0 t0_1 t0_2 lx39 t0_4 t0_5 t0_6 t0_7 t0_8 t0_9 t0_10 t0_11 t0_12 t0_13 t1_0 := (by have h := hS45; rw [S_TR_power_J38.eq_1] at h; with_reducible exact h.2.1)
      refine q_goi V (q_runV (As := []) (rest := []) (d := 1) (mc := 0) (ms := 0) (ci := 16) C0 V rfl LV_TR_35 (X_TR_here l D g q w43   hI t0_0 t0_1 t0_2 lx39 t0_4 t0_5 t0_6 t0_7 t0_8 t0_9 t0_10 t0_11 t0_12 t0_13 hO40 t1_0 hA41 ob49 _) rfl rfl hO40 rfl hl.1 rfl (Nat.le_of_ble_eq_true rfl) ⟨by decide, by decide⟩ ⟨Nat.le_of_ble_eq_true rfl, Nat.le_of_ble_eq_true rfl⟩ d_18_13_39) (fun a52 u50 H locs hp51 V => ?_)
      obtain ⟨rfl, hE53⟩ := hp51
      have e54 : a52 = (F_TR_here t0_0 t0_1 t0_2 lx39 t0_4 t0_5 t0_6 t0_7 t0_8 t0_9 t0_10 t0_11 t0_12 t0_13 t1_0) := hE53
      refine q_goi V (q_runS (As := [.int a52]) (rest := []) (d := 1) (mc := 0) (ms := 0) C0 V rfl LS_TR_31 (X_TR_isDigit l D g q w43  a52 hI   _) rfl hl.1 rfl (Nat.le_of_ble_eq_true rfl) ⟨by decide, by decide⟩ ⟨Nat.le_of_ble_eq_true rfl, Nat.le_of_ble_eq_true rfl⟩ d_18_13_42) (fun a57 u55 H locs hp56 V => ?_)
      obtain ⟨rfl, b58, b59, hE60⟩ := hp56
      have e61 : a57 = (F_TR_isDigit a52) := hE60
      clear b58
      clear b59
      refine lv_if_ne (tgt := 50) hx hb d_18_13_45 (by decide) (fun c62 => ?_) (fun c62 => ?_)
      ·
        refine q_loop (X := Nat × Int32 × Int64) (fun z H locs ls w67 => q_Wd D g (va_A ws sz) s w67 H locs ∧ lv_has ls 2 [(1, .int lx28), (0, .ref (q 153))] ∧ q_I (msh g q) q w67 ∧ q_un ws w67 [153] ∧ w67[153]? = (some (q 153, .inr (16, [.int t0_0, .ref (q 154), .int t0_1, .int t0_2, .int z.2.1, .int t0_4, .ref (q 155), .int t0_5, .int t0_6, .long z.2.2, .ref (q 156), .int t0_8, .int t0_9, .long t0_10, .long t0_11, .int t0_12, .int t0_13])) : Option (Nat × va_E)) ∧ w67[154]? = (some (q 154, .inl (g 0, (4100 : Int32).toNatClampNeg, .inl t1_0)) : Option (Nat × va_E)) ∧ F_TR_power_L50 t0_0 t0_1 t0_2 t0_3 t0_4 t0_5 t0_6 t0_7 t0_8 t0_9 t0_10 t0_11 t0_12 t0_13 t1_0 lx28 lx39 z.1 z.2.1 z.2.2 = (F_TR_power t0_0 t0_1 t0_2 t0_3 t0_4 t0_5 t0_6 t0_7 t0_8 t0_9 t0_10 t0_11 t0_12 t0_13 t1_0) ∧ True ∧ S_TR_power_L50 t0_0 t0_1 t0_2 t0_3 t0_4 t0_5 t0_6 t0_7 t0_8 t0_9 t0_10 t0_11 t0_12 t0_13 t1_0 lx28 lx39 z.1 z.2.1 z.2.2) (fun z => z.1) ?_ ((1000000 : Nat), (lx39 : Int32), (t0_7 : Int64)) _ _ _ w43 ⟨V, q_lw hl (q_lw1 0 rfl (q_lw1 1 rfl q_lw0)), hI, hF, hO40, hA41, (show F_TR_power_L50 t0_0 t0_1 t0_2 t0_3 t0_4 t0_5 t0_6 t0_7 t0_8 t0_9 t0_10 t0_11 t0_12 t0_13 t1_0 lx28 lx39 1000000 lx39 t0_7 = (F_TR_power t0_0 t0_1 t0_2 t0_3 t0_4 t0_5 t0_6 t0_7 t0_8 t0_9 t0_10 t0_11 t0_12 t0_13 t1_0) from Eq.trans (by have c62x := c62; rw [e61, e54] at c62x; rw [F_TR_power_J38.eq_1, if_neg c62x]) hR44), (show True ∧ S_TR_power_L50 t0_0 t0_1 t0_2 t0_3 t0_4 t0_5 t0_6 t0_7 t0_8 t0_9 t0_10 t0_11 t0_12 t0_13 t1_0 lx28 lx39 1000000 lx39 t0_7 from (by have h := hS45; rw [S_TR_power_J38.eq_1] at h; replace h := q_s2 h; have c62x := c62; rw [e61, e54] at c62x; rw [if_neg c62x] at h; with_reducible exact h))⟩
        rintro ⟨fu72, lx64, lx65⟩ H locs ls w67 ⟨V, hl, hI, hF, hO68, hO69, hR70, hS71⟩ ih66
        obtain ⟨fm74, rfl⟩ : ∃ m, fu72 = m + 1 := Nat.exists_eq_succ_of_ne_zero (fun e => by subst e; rw [S_TR_power_L50.eq_1] at hS71; exact hS71.2)
        replace hl : lv_has ls 2 [(1, .int lx28), (0, .ref (q 153))] := hl
        replace hO68 : w67[153]? = (some (q 153, .inr (16, [.int t0_0, .ref (q 154), .int t0_1, .int t0_2, .int lx64, .int t0_4, .ref (q 155), .int t0_5, .int t0_6, .long lx65, .ref (q 156), .int t0_8, .int t0_9, .long t0_10, .long t0_11, .int t0_12, .int t0_13])) : Option (Nat × va_E)) := hO68
        replace hO69 : w67[154]? = (some (q 154, .inl (g 0, (4100 : Int32).toNatClampNeg, .inl t1_0)) : Option (Nat × va_E)) := hO69
        refine lv_aload_n hx hb d_18_13_50 rfl (lv_at hl 1 rfl) ?_
        have ob75 : True ∧ S_TR_here t0_0 t0_1 t0_2 lx64 t0_4 t0_5 t0_6 lx65 t0_8 t0_9 t0_10 t0_11 t0_12 t0_13 t1_0 := (by have h := hS71; rw [S_TR_power_L50.eq_2] at h; with_reducible exact h.2.1)
        refine q_goi V (q_runV (As := []) (rest := []) (d := 1) (mc := 0) (ms := 0) (ci := 16) C0 V rfl LV_TR_35 (X_TR_here l D g q w67   hI t0_0 t0_1 t0_2 lx64 t0_4 t0_5 t0_6 lx65 t0_8 t0_9 t0_10 t0_11 t0_12 t0_13 hO68 t1_0 hO69 ob75 _) rfl rfl hO68 rfl hl.1 rfl (Nat.le_of_ble_eq_true rfl) ⟨by decide, by decide⟩ ⟨Nat.le_of_ble_eq_true rfl, Nat.le_of_ble_eq_true rfl⟩ d_18_13_51) (fun a78 u76 H locs hp77 V => ?_)
        obtain ⟨rfl, hE79⟩ := hp77
        have e80 : a78 = (F_TR_here t0_0 t0_1 t0_2 lx64 t0_4 t0_5 t0_6 lx65 t0_8 t0_9 t0_10 t0_11 t0_12 t0_13 t1_0) := hE79
        refine q_goi V (q_runS (As := [.int a78]) (rest := []) (d := 1) (mc := 0) (ms := 0) C0 V rfl LS_TR_31 (X_TR_isDigit l D g q w67  a78 hI   _) rfl hl.1 rfl (Nat.le_of_ble_eq_true rfl) ⟨by decide, by decide⟩ ⟨Nat.le_of_ble_eq_true rfl, Nat.le_of_ble_eq_true rfl⟩ d_18_13_54) (fun a83 u81 H locs hp82 V => ?_)
        obtain ⟨rfl, b84, b85, hE86⟩ := hp82
        have e87 : a83 = (F_TR_isDigit a78) := hE86
        clear b84
        clear b85
        refine lv_if_eq (tgt := 113) hx hb d_18_13_57 (by decide) (fun c88 => ?_) (fun c88 => ?_)
        ·
          refine lv_aload_n hx hb d_18_13_113 rfl (lv_at hl 1 rfl) ?_
          refine lv_iload_n hx hb d_18_13_114 rfl (lv_at hl 0 rfl) ?_
          refine lv_if_eq (tgt := 126) hx hb d_18_13_115 (by decide) (fun c90 => ?_) (fun c90 => ?_)
          ·
            refine lv_aload_n hx hb d_18_13_126 rfl (lv_at hl 1 rfl) ?_
            refine q_get (ci := 16) (j := 9) (v := .long lx65) C0 V i_TR rfl rfl hO68 (by decide) w_2149 rfl d_18_13_127 ?_
            refine q_put (ci := 16) (j := 9) (v := .long lx65) (ty := .long) C0 V i_TR o_TR n_TR rfl rfl hO68 (by decide) w_2149 rfl rfl rfl rfl (Nat.le_of_ble_eq_true rfl) d_18_13_130 (fun H locs w92 hu93 hO68 V => ?_)
            replace hO68 : w92[153]? = (some (q 153, .inr (16, [.int t0_0, .ref (q 154), .int t0_1, .int t0_2, .int lx64, .int t0_4, .ref (q 155), .int t0_5, .int t0_6, .long lx65, .ref (q 156), .int t0_8, .int t0_9, .long t0_10, .long t0_11, .int t0_12, .int t0_13])) : Option (Nat × va_E)) := hO68
            replace hI := n_p153 hI hu93 hO68 (by first | with_reducible exact q_fe btt0_1 | exact ⟨(by have t1 : 0 ≤ t0_1.toInt ∧ t0_1.toInt ≤ 4100 := btt0_1; omega), (by have t1 : 0 ≤ t0_1.toInt ∧ t0_1.toInt ≤ 4100 := btt0_1; omega)⟩) (by first | with_reducible exact q_fe btt0_4 | exact ⟨(by have t1 : 0 ≤ t0_4.toInt ∧ t0_4.toInt ≤ 1 := btt0_4; omega), (by have t1 : 0 ≤ t0_4.toInt ∧ t0_4.toInt ≤ 1 := btt0_4; omega)⟩) (by first | with_reducible exact q_fe btt0_13 | exact ⟨(by have t1 : 0 ≤ t0_13.toInt ∧ t0_13.toInt ≤ 1 := btt0_13; omega), (by have t1 : 0 ≤ t0_13.toInt ∧ t0_13.toInt ≤ 1 := btt0_13; omega)⟩)
            replace hF := q_us hF hu93 (by simp)
            refine lv_iconst (v := 1) hx hb d_18_13_133 (by decide) ?_
            exact q_retz C0 V (by decide) (⟨hI, hF, t0_0, t0_1, t0_2, lx64, t0_4, t0_5, t0_6, lx65, t0_8, t0_9, t0_10, t0_11, t0_12, t0_13, hO68, (show 0 ≤ (1 : Int32).toInt from (by have z15 : (1 : Int32).toInt = 1 := rfl; omega)), (show (1 : Int32).toInt ≤ 1 from (by have z15 : (1 : Int32).toInt = 1 := rfl; omega)), (show t0_0.toInt ≤ t0_0.toInt from (by have z15 : (1 : Int32).toInt = 1 := rfl; omega)), (show t0_0.toInt ≤ t0_0.toInt from (by have z15 : (1 : Int32).toInt = 1 := rfl; omega)), (show t0_1.toInt ≤ t0_1.toInt from (by have z15 : (1 : Int32).toInt = 1 := rfl; omega)), (show t0_1.toInt ≤ t0_1.toInt from (by have z15 : (1 : Int32).toInt = 1 := rfl; omega)), (show t0_2.toInt ≤ t0_2.toInt from (by have z15 : (1 : Int32).toInt = 1 := rfl; omega)), (show t0_2.toInt ≤ t0_2.toInt from (by have z15 : (1 : Int32).toInt = 1 := rfl; omega)), (show t0_4.toInt ≤ t0_4.toInt from (by have z15 : (1 : Int32).toInt = 1 := rfl; omega)), (show t0_4.toInt ≤ t0_4.toInt from (by have z15 : (1 : Int32).toInt = 1 := rfl; omega)), (show t0_5.toInt ≤ t0_5.toInt from (by have z15 : (1 : Int32).toInt = 1 := rfl; omega)), (show t0_5.toInt ≤ t0_5.toInt from (by have z15 : (1 : Int32).toInt = 1 := rfl; omega)), (show t0_6.toInt ≤ t0_6.toInt from (by have z15 : (1 : Int32).toInt = 1 := rfl; omega)), (show t0_6.toInt ≤ t0_6.toInt from (by have z15 : (1 : Int32).toInt = 1 := rfl; omega)), (show t0_8.toInt ≤ t0_8.toInt from (by have z15 : (1 : Int32).toInt = 1 := rfl; omega)), (show t0_8.toInt ≤ t0_8.toInt from (by have z15 : (1 : Int32).toInt = 1 := rfl; omega)), (show t0_9.toInt ≤ t0_9.toInt from (by have z15 : (1 : Int32).toInt = 1 := rfl; omega)), (show t0_9.toInt ≤ t0_9.toInt from (by have z15 : (1 : Int32).toInt = 1 := rfl; omega)), (show t0_10.toInt ≤ t0_10.toInt from (by have z15 : (1 : Int32).toInt = 1 := rfl; omega)), (show t0_10.toInt ≤ t0_10.toInt from (by have z15 : (1 : Int32).toInt = 1 := rfl; omega)), (show t0_11.toInt ≤ t0_11.toInt from (by have z15 : (1 : Int32).toInt = 1 := rfl; omega)), (show t0_11.toInt ≤ t0_11.toInt from (by have z15 : (1 : Int32).toInt = 1 := rfl; omega)), (show t0_12.toInt ≤ t0_12.toInt from (by have z15 : (1 : Int32).toInt = 1 := rfl; omega)), (show t0_12.toInt ≤ t0_12.toInt from (by have z15 : (1 : Int32).toInt = 1 := rfl; omega)), (show t0_13.toInt ≤ t0_13.toInt from (by have z15 : (1 : Int32).toInt = 1 := rfl; omega)), (show t0_13.toInt ≤ t0_13.toInt from (by have z15 : (1 : Int32).toInt = 1 := rfl; omega)), (show ((1 : Int32), t0_0, t0_1, t0_2, lx64, t0_4, t0_5, t0_6, lx65, t0_8, t0_9, t0_10, t0_11, t0_12, t0_13) = (F_TR_power t0_0 t0_1 t0_2 t0_3 t0_4 t0_5 t0_6 t0_7 t0_8 t0_9 t0_10 t0_11 t0_12 t0_13 t1_0) from Eq.trans (by have c88x := c88; rw [e87, e80] at c88x; rw [F_TR_power_L50.eq_2, if_pos c88x, if_pos c90]) hR70)⟩) d_18_13_134
          ·
            refine lv_aload_n hx hb d_18_13_118 rfl (lv_at hl 1 rfl) ?_
            refine q_get (ci := 16) (j := 9) (v := .long lx65) C0 V i_TR rfl rfl hO68 (by decide) w_2149 rfl d_18_13_119 ?_
            refine lv_lneg hx hb d_18_13_122 ?_
            obtain ⟨j95, e96⟩ := q_nm (-lx65 : Int64)
            refine q_tl (v := j95) e96 ?_
            refine lv_goto (tgt := 130) hx hb d_18_13_123 (by decide) ?_
            refine q_put (ci := 16) (j := 9) (v := .long j95) (ty := .long) C0 V i_TR o_TR n_TR rfl rfl hO68 (by decide) w_2149 rfl rfl rfl rfl (Nat.le_of_ble_eq_true rfl) d_18_13_130 (fun H locs w97 hu98 hO68 V => ?_)
            replace hO68 : w97[153]? = (some (q 153, .inr (16, [.int t0_0, .ref (q 154), .int t0_1, .int t0_2, .int lx64, .int t0_4, .ref (q 155), .int t0_5, .int t0_6, .long j95, .ref (q 156), .int t0_8, .int t0_9, .long t0_10, .long t0_11, .int t0_12, .int t0_13])) : Option (Nat × va_E)) := hO68
            replace hI := n_p153 hI hu98 hO68 (by first | with_reducible exact q_fe btt0_1 | exact ⟨(by have t1 : 0 ≤ t0_1.toInt ∧ t0_1.toInt ≤ 4100 := btt0_1; omega), (by have t1 : 0 ≤ t0_1.toInt ∧ t0_1.toInt ≤ 4100 := btt0_1; omega)⟩) (by first | with_reducible exact q_fe btt0_4 | exact ⟨(by have t1 : 0 ≤ t0_4.toInt ∧ t0_4.toInt ≤ 1 := btt0_4; omega), (by have t1 : 0 ≤ t0_4.toInt ∧ t0_4.toInt ≤ 1 := btt0_4; omega)⟩) (by first | with_reducible exact q_fe btt0_13 | exact ⟨(by have t1 : 0 ≤ t0_13.toInt ∧ t0_13.toInt ≤ 1 := btt0_13; omega), (by have t1 : 0 ≤ t0_13.toInt ∧ t0_13.toInt ≤ 1 := btt0_13; omega)⟩)
            replace hF := q_us hF hu98 (by simp)
            refine lv_iconst (v := 1) hx hb d_18_13_133 (by decide) ?_
            exact q_retz C0 V (by decide) (⟨hI, hF, t0_0, t0_1, t0_2, lx64, t0_4, t0_5, t0_6, j95, t0_8, t0_9, t0_10, t0_11, t0_12, t0_13, hO68, (show 0 ≤ (1 : Int32).toInt from (by have z15 : (1 : Int32).toInt = 1 := rfl; omega)), (show (1 : Int32).toInt ≤ 1 from (by have z15 : (1 : Int32).toInt = 1 := rfl; omega)), (show t0_0.toInt ≤ t0_0.toInt from (by have z15 : (1 : Int32).toInt = 1 := rfl; omega)), (show t0_0.toInt ≤ t0_0.toInt from (by have z15 : (1 : Int32).toInt = 1 := rfl; omega)), (show t0_1.toInt ≤ t0_1.toInt from (by have z15 : (1 : Int32).toInt = 1 := rfl; omega)), (show t0_1.toInt ≤ t0_1.toInt from (by have z15 : (1 : Int32).toInt = 1 := rfl; omega)), (show t0_2.toInt ≤ t0_2.toInt from (by have z15 : (1 : Int32).toInt = 1 := rfl; omega)), (show t0_2.toInt ≤ t0_2.toInt from (by have z15 : (1 : Int32).toInt = 1 := rfl; omega)), (show t0_4.toInt ≤ t0_4.toInt from (by have z15 : (1 : Int32).toInt = 1 := rfl; omega)), (show t0_4.toInt ≤ t0_4.toInt from (by have z15 : (1 : Int32).toInt = 1 := rfl; omega)), (show t0_5.toInt ≤ t0_5.toInt from (by have z15 : (1 : Int32).toInt = 1 := rfl; omega)), (show t0_5.toInt ≤ t0_5.toInt from (by have z15 : (1 : Int32).toInt = 1 := rfl; omega)), (show t0_6.toInt ≤ t0_6.toInt from (by have z15 : (1 : Int32).toInt = 1 := rfl; omega)), (show t0_6.toInt ≤ t0_6.toInt from (by have z15 : (1 : Int32).toInt = 1 := rfl; omega)), (show t0_8.toInt ≤ t0_8.toInt from (by have z15 : (1 : Int32).toInt = 1 := rfl; omega)), (show t0_8.toInt ≤ t0_8.toInt from (by have z15 : (1 : Int32).toInt = 1 := rfl; omega)), (show t0_9.toInt ≤ t0_9.toInt from (by have z15 : (1 : Int32).toInt = 1 := rfl; omega)), (show t0_9.toInt ≤ t0_9.toInt from (by have z15 : (1 : Int32).toInt = 1 := rfl; omega)), (show t0_10.toInt ≤ t0_10.toInt from (by have z15 : (1 : Int32).toInt = 1 := rfl; omega)), (show t0_10.toInt ≤ t0_10.toInt from (by have z15 : (1 : Int32).toInt = 1 := rfl; omega)), (show t0_11.toInt ≤ t0_11.toInt from (by have z15 : (1 : Int32).toInt = 1 := rfl; omega)), (show t0_11.toInt ≤ t0_11.toInt from (by have z15 : (1 : Int32).toInt = 1 := rfl; omega)), (show t0_12.toInt ≤ t0_12.toInt from (by have z15 : (1 : Int32).toInt = 1 := rfl; omega)), (show t0_12.toInt ≤ t0_12.toInt from (by have z15 : (1 : Int32).toInt = 1 := rfl; omega)), (show t0_13.toInt ≤ t0_13.toInt from (by have z15 : (1 : Int32).toInt = 1 := rfl; omega)), (show t0_13.toInt ≤ t0_13.toInt from (by have z15 : (1 : Int32).toInt = 1 := rfl; omega)), (show ((1 : Int32), t0_0, t0_1, t0_2, lx64, t0_4, t0_5, t0_6, j95, t0_8, t0_9, t0_10, t0_11, t0_12, t0_13) = (F_TR_power t0_0 t0_1 t0_2 t0_3 t0_4 t0_5 t0_6 t0_7 t0_8 t0_9 t0_10 t0_11 t0_12 t0_13 t1_0) from Eq.trans (by have c88x := c88; rw [e87, e80] at c88x; rw [← e96, F_TR_power_L50.eq_2, if_pos c88x, if_neg c90]) hR70)⟩) d_18_13_134
        ·
          refine lv_aload_n hx hb d_18_13_60 rfl (lv_at hl 1 rfl) ?_
          refine lv_aload_n hx hb d_18_13_61 rfl (lv_at hl 1 rfl) ?_
          refine q_get (ci := 16) (j := 9) (v := .long lx65) C0 V i_TR rfl rfl hO68 (by decide) w_2149 rfl d_18_13_62 ?_
          refine q_ldc2 C0 rfl w_2464 d_18_13_65 ?_
          refine W.lcmp hx hb d_18_13_68 ?_
          obtain ⟨a100, e101⟩ := q_nm (lg_cmp lx65 1000000000 : Int32)
          refine q_ti (v := a100) e101 ?_
          refine lv_if_ge (tgt := 93) hx hb d_18_13_69 (by decide) (fun c103 => ?_) (fun c103 => ?_)
          ·
            refine lv_aload_n hx hb d_18_13_93 rfl (lv_at hl 1 rfl) ?_
            refine q_get (ci := 16) (j := 9) (v := .long lx65) C0 V i_TR rfl rfl hO68 (by decide) w_2149 rfl d_18_13_94 ?_
            refine q_put (ci := 16) (j := 9) (v := .long lx65) (ty := .long) C0 V i_TR o_TR n_TR rfl rfl hO68 (by decide) w_2149 rfl rfl rfl rfl (Nat.le_of_ble_eq_true rfl) d_18_13_97 (fun H locs w105 hu106 hO68 V => ?_)
            replace hO68 : w105[153]? = (some (q 153, .inr (16, [.int t0_0, .ref (q 154), .int t0_1, .int t0_2, .int lx64, .int t0_4, .ref (q 155), .int t0_5, .int t0_6, .long lx65, .ref (q 156), .int t0_8, .int t0_9, .long t0_10, .long t0_11, .int t0_12, .int t0_13])) : Option (Nat × va_E)) := hO68
            replace hI := n_p153 hI hu106 hO68 (by first | with_reducible exact q_fe btt0_1 | exact ⟨(by have t1 : 0 ≤ t0_1.toInt ∧ t0_1.toInt ≤ 4100 := btt0_1; omega), (by have t1 : 0 ≤ t0_1.toInt ∧ t0_1.toInt ≤ 4100 := btt0_1; omega)⟩) (by first | with_reducible exact q_fe btt0_4 | exact ⟨(by have t1 : 0 ≤ t0_4.toInt ∧ t0_4.toInt ≤ 1 := btt0_4; omega), (by have t1 : 0 ≤ t0_4.toInt ∧ t0_4.toInt ≤ 1 := btt0_4; omega)⟩) (by first | with_reducible exact q_fe btt0_13 | exact ⟨(by have t1 : 0 ≤ t0_13.toInt ∧ t0_13.toInt ≤ 1 := btt0_13; omega), (by have t1 : 0 ≤ t0_13.toInt ∧ t0_13.toInt ≤ 1 := btt0_13; omega)⟩)
            replace hO69 := (hu106 _ (by decide)).trans hO69
            replace hF := q_us hF hu106 (by simp)
            refine lv_aload_n hx hb d_18_13_100 rfl (lv_at hl 1 rfl) ?_
            refine lv_dup hx hb d_18_13_101 rfl ?_
            refine q_get (ci := 16) (j := 4) (v := .int lx64) C0 V i_TR rfl rfl hO68 (by decide) w_2144 rfl d_18_13_102 ?_
            refine lv_iconst (v := 1) hx hb d_18_13_105 (by decide) ?_
            refine lv_iadd hx hb d_18_13_106 ?_
            obtain ⟨a107, e108⟩ := q_nm (lx64 + 1 : Int32)
            refine q_ti (v := a107) e108 ?_
            refine q_put (ci := 16) (j := 4) (v := .int a107) (ty := .int) C0 V i_TR o_TR n_TR rfl rfl hO68 (by decide) w_2144 rfl rfl rfl rfl (Nat.le_of_ble_eq_true rfl) d_18_13_107 (fun H locs w109 hu110 hO68 V => ?_)
            replace hO68 : w109[153]? = (some (q 153, .inr (16, [.int t0_0, .ref (q 154), .int t0_1, .int t0_2, .int a107, .int t0_4, .ref (q 155), .int t0_5, .int t0_6, .long lx65, .ref (q 156), .int t0_8, .int t0_9, .long t0_10, .long t0_11, .int t0_12, .int t0_13])) : Option (Nat × va_E)) := hO68
            replace hI := n_p153 hI hu110 hO68 (by first | with_reducible exact q_fe btt0_1 | exact ⟨(by have t1 : 0 ≤ t0_1.toInt ∧ t0_1.toInt ≤ 4100 := btt0_1; omega), (by have t1 : 0 ≤ t0_1.toInt ∧ t0_1.toInt ≤ 4100 := btt0_1; omega)⟩) (by first | with_reducible exact q_fe btt0_4 | exact ⟨(by have t1 : 0 ≤ t0_4.toInt ∧ t0_4.toInt ≤ 1 := btt0_4; omega), (by have t1 : 0 ≤ t0_4.toInt ∧ t0_4.toInt ≤ 1 := btt0_4; omega)⟩) (by first | with_reducible exact q_fe btt0_13 | exact ⟨(by have t1 : 0 ≤ t0_13.toInt ∧ t0_13.toInt ≤ 1 := btt0_13; omega), (by have t1 : 0 ≤ t0_13.toInt ∧ t0_13.toInt ≤ 1 := btt0_13; omega)⟩)
            replace hO69 := (hu110 _ (by decide)).trans hO69
            replace hF := q_us hF hu110 (by simp)
            refine lv_goto (tgt := 50) hx hb d_18_13_110 (by decide) ?_
            exact ih66 ((fm74 : Nat), (a107 : Int32), (lx65 : Int64)) _ _ _ _ (Nat.lt_succ_self _) ⟨V, q_lw hl (q_lw1 0 rfl (q_lw1 1 rfl q_lw0)), hI, hF, hO68, hO69, (show F_TR_power_L50 t0_0 t0_1 t0_2 t0_3 t0_4 t0_5 t0_6 t0_7 t0_8 t0_9 t0_10 t0_11 t0_12 t0_13 t1_0 lx28 lx39 fm74 a107 lx65 = (F_TR_power t0_0 t0_1 t0_2 t0_3 t0_4 t0_5 t0_6 t0_7 t0_8 t0_9 t0_10 t0_11 t0_12 t0_13 t1_0) from Eq.trans (by have c88x := c88; rw [e87, e80] at c88x; have c103x := c103; rw [← e101] at c103x; rw [← e108, F_TR_power_L50.eq_2, if_neg c88x, if_pos c103x]) hR70), (show True ∧ S_TR_power_L50 t0_0 t0_1 t0_2 t0_3 t0_4 t0_5 t0_6 t0_7 t0_8 t0_9 t0_10 t0_11 t0_12 t0_13 t1_0 lx28 lx39 fm74 a107 lx65 from (by rw [← e108]; have h := hS71; rw [S_TR_power_L50.eq_2] at h; replace h := q_s2 h; have c88x := c88; rw [e87, e80] at c88x; rw [if_neg c88x] at h; have c103x := c103; rw [← e101] at c103x; rw [if_pos c103x] at h; with_reducible exact h))⟩
          ·
            refine q_ldc2 C0 rfl w_2465 d_18_13_72 ?_
            refine lv_aload_n hx hb d_18_13_75 rfl (lv_at hl 1 rfl) ?_
            refine q_get (ci := 16) (j := 9) (v := .long lx65) C0 V i_TR rfl rfl hO68 (by decide) w_2149 rfl d_18_13_76 ?_
            refine lv_lmul hx hb d_18_13_79 ?_
            obtain ⟨j112, e113⟩ := q_nm (10 * lx65 : Int64)
            refine q_tl (v := j112) e113 ?_
            refine lv_aload_n hx hb d_18_13_80 rfl (lv_at hl 1 rfl) ?_
            have ob114 : True ∧ S_TR_here t0_0 t0_1 t0_2 lx64 t0_4 t0_5 t0_6 lx65 t0_8 t0_9 t0_10 t0_11 t0_12 t0_13 t1_0 := (by have h := hS71; rw [S_TR_power_L50.eq_2] at h; replace h := q_s2 h; have c88x := c88; rw [e87, e80] at c88x; rw [if_neg c88x] at h; have c103x := c103; rw [← e101] at c103x; rw [if_neg c103x] at h; with_reducible exact h.2.1)
            refine q_goi V (q_runV (As := []) (rest := [.long j112, .ref (q 153)]) (d := 1) (mc := 0) (ms := 0) (ci := 16) C0 V rfl LV_TR_35 (X_TR_here l D g q w67   hI t0_0 t0_1 t0_2 lx64 t0_4 t0_5 t0_6 lx65 t0_8 t0_9 t0_10 t0_11 t0_12 t0_13 hO68 t1_0 hO69 ob114 _) rfl rfl hO68 rfl hl.1 rfl (Nat.le_of_ble_eq_true rfl) ⟨by decide, by decide⟩ ⟨Nat.le_of_ble_eq_true rfl, Nat.le_of_ble_eq_true rfl⟩ d_18_13_81) (fun a117 u115 H locs hp116 V => ?_)
            obtain ⟨rfl, hE118⟩ := hp116
            have e119 : a117 = (F_TR_here t0_0 t0_1 t0_2 lx64 t0_4 t0_5 t0_6 lx65 t0_8 t0_9 t0_10 t0_11 t0_12 t0_13 t1_0) := hE118
            refine lv_i2l hx hb d_18_13_84 rfl ?_
            obtain ⟨j120, e121⟩ := q_nm (a117.toInt64 : Int64)
            refine q_tl (v := j120) e121 ?_
            refine lv_ladd hx hb d_18_13_85 ?_
            obtain ⟨j123, e124⟩ := q_nm (j112 + j120 : Int64)
            refine q_tl (v := j123) e124 ?_
            refine q_ldc2 C0 rfl w_2466 d_18_13_86 ?_
            refine lv_lsub hx hb d_18_13_89 ?_
            obtain ⟨j125, e126⟩ := q_nm (j123 - 48 : Int64)
            refine q_tl (v := j125) e126 ?_
            refine lv_goto (tgt := 97) hx hb d_18_13_90 (by decide) ?_
            refine q_put (ci := 16) (j := 9) (v := .long j125) (ty := .long) C0 V i_TR o_TR n_TR rfl rfl hO68 (by decide) w_2149 rfl rfl rfl rfl (Nat.le_of_ble_eq_true rfl) d_18_13_97 (fun H locs w127 hu128 hO68 V => ?_)
            replace hO68 : w127[153]? = (some (q 153, .inr (16, [.int t0_0, .ref (q 154), .int t0_1, .int t0_2, .int lx64, .int t0_4, .ref (q 155), .int t0_5, .int t0_6, .long j125, .ref (q 156), .int t0_8, .int t0_9, .long t0_10, .long t0_11, .int t0_12, .int t0_13])) : Option (Nat × va_E)) := hO68
            replace hI := n_p153 hI hu128 hO68 (by first | with_reducible exact q_fe btt0_1 | exact ⟨(by have t1 : 0 ≤ t0_1.toInt ∧ t0_1.toInt ≤ 4100 := btt0_1; omega), (by have t1 : 0 ≤ t0_1.toInt ∧ t0_1.toInt ≤ 4100 := btt0_1; omega)⟩) (by first | with_reducible exact q_fe btt0_4 | exact ⟨(by have t1 : 0 ≤ t0_4.toInt ∧ t0_4.toInt ≤ 1 := btt0_4; omega), (by have t1 : 0 ≤ t0_4.toInt ∧ t0_4.toInt ≤ 1 := btt0_4; omega)⟩) (by first | with_reducible exact q_fe btt0_13 | exact ⟨(by have t1 : 0 ≤ t0_13.toInt ∧ t0_13.toInt ≤ 1 := btt0_13; omega), (by have t1 : 0 ≤ t0_13.toInt ∧ t0_13.toInt ≤ 1 := btt0_13; omega)⟩)
            replace hO69 := (hu128 _ (by decide)).trans hO69
            replace hF := q_us hF hu128 (by simp)
            refine lv_aload_n hx hb d_18_13_100 rfl (lv_at hl 1 rfl) ?_
            refine lv_dup hx hb d_18_13_101 rfl ?_
            refine q_get (ci := 16) (j := 4) (v := .int lx64) C0 V i_TR rfl rfl hO68 (by decide) w_2144 rfl d_18_13_102 ?_
            refine lv_iconst (v := 1) hx hb d_18_13_105 (by decide) ?_
            refine lv_iadd hx hb d_18_13_106 ?_
            obtain ⟨a129, e130⟩ := q_nm (lx64 + 1 : Int32)
            refine q_ti (v := a129) e130 ?_
            refine q_put (ci := 16) (j := 4) (v := .int a129) (ty := .int) C0 V i_TR o_TR n_TR rfl rfl hO68 (by decide) w_2144 rfl rfl rfl rfl (Nat.le_of_ble_eq_true rfl) d_18_13_107 (fun H locs w131 hu132 hO68 V => ?_)
            replace hO68 : w131[153]? = (some (q 153, .inr (16, [.int t0_0, .ref (q 154), .int t0_1, .int t0_2, .int a129, .int t0_4, .ref (q 155), .int t0_5, .int t0_6, .long j125, .ref (q 156), .int t0_8, .int t0_9, .long t0_10, .long t0_11, .int t0_12, .int t0_13])) : Option (Nat × va_E)) := hO68
            replace hI := n_p153 hI hu132 hO68 (by first | with_reducible exact q_fe btt0_1 | exact ⟨(by have t1 : 0 ≤ t0_1.toInt ∧ t0_1.toInt ≤ 4100 := btt0_1; omega), (by have t1 : 0 ≤ t0_1.toInt ∧ t0_1.toInt ≤ 4100 := btt0_1; omega)⟩) (by first | with_reducible exact q_fe btt0_4 | exact ⟨(by have t1 : 0 ≤ t0_4.toInt ∧ t0_4.toInt ≤ 1 := btt0_4; omega), (by have t1 : 0 ≤ t0_4.toInt ∧ t0_4.toInt ≤ 1 := btt0_4; omega)⟩) (by first | with_reducible exact q_fe btt0_13 | exact ⟨(by have t1 : 0 ≤ t0_13.toInt ∧ t0_13.toInt ≤ 1 := btt0_13; omega), (by have t1 : 0 ≤ t0_13.toInt ∧ t0_13.toInt ≤ 1 := btt0_13; omega)⟩)
            replace hO69 := (hu132 _ (by decide)).trans hO69
            replace hF := q_us hF hu132 (by simp)
            refine lv_goto (tgt := 50) hx hb d_18_13_110 (by decide) ?_
            exact ih66 ((fm74 : Nat), (a129 : Int32), (j125 : Int64)) _ _ _ _ (Nat.lt_succ_self _) ⟨V, q_lw hl (q_lw1 0 rfl (q_lw1 1 rfl q_lw0)), hI, hF, hO68, hO69, (show F_TR_power_L50 t0_0 t0_1 t0_2 t0_3 t0_4 t0_5 t0_6 t0_7 t0_8 t0_9 t0_10 t0_11 t0_12 t0_13 t1_0 lx28 lx39 fm74 a129 j125 = (F_TR_power t0_0 t0_1 t0_2 t0_3 t0_4 t0_5 t0_6 t0_7 t0_8 t0_9 t0_10 t0_11 t0_12 t0_13 t1_0) from Eq.trans (by have c88x := c88; rw [e87, e80] at c88x; have c103x := c103; rw [← e101] at c103x; rw [← e130, ← e126, ← e124, ← e121, e119, ← e113, F_TR_power_L50.eq_2, if_neg c88x, if_neg c103x]) hR70), (show True ∧ S_TR_power_L50 t0_0 t0_1 t0_2 t0_3 t0_4 t0_5 t0_6 t0_7 t0_8 t0_9 t0_10 t0_11 t0_12 t0_13 t1_0 lx28 lx39 fm74 a129 j125 from (by rw [← e130, ← e126, ← e124, ← e121, e119, ← e113]; have h := hS71; rw [S_TR_power_L50.eq_2] at h; replace h := q_s2 h; have c88x := c88; rw [e87, e80] at c88x; rw [if_neg c88x] at h; have c103x := c103; rw [← e101] at c103x; rw [if_neg c103x] at h; replace h := q_s2 h; with_reducible exact h))⟩
      ·
        refine lv_iconst (v := 0) hx hb d_18_13_48 (by decide) ?_
        exact q_retz C0 V (by decide) (⟨hI, hF, t0_0, t0_1, t0_2, lx39, t0_4, t0_5, t0_6, t0_7, t0_8, t0_9, t0_10, t0_11, t0_12, t0_13, hO40, (show 0 ≤ (0 : Int32).toInt from (by have z15 : (0 : Int32).toInt = 0 := rfl; omega)), (show (0 : Int32).toInt ≤ 1 from (by have z15 : (0 : Int32).toInt = 0 := rfl; omega)), (show t0_0.toInt ≤ t0_0.toInt from (by have z15 : (0 : Int32).toInt = 0 := rfl; omega)), (show t0_0.toInt ≤ t0_0.toInt from (by have z15 : (0 : Int32).toInt = 0 := rfl; omega)), (show t0_1.toInt ≤ t0_1.toInt from (by have z15 : (0 : Int32).toInt = 0 := rfl; omega)), (show t0_1.toInt ≤ t0_1.toInt from (by have z15 : (0 : Int32).toInt = 0 := rfl; omega)), (show t0_2.toInt ≤ t0_2.toInt from (by have z15 : (0 : Int32).toInt = 0 := rfl; omega)), (show t0_2.toInt ≤ t0_2.toInt from (by have z15 : (0 : Int32).toInt = 0 := rfl; omega)), (show t0_4.toInt ≤ t0_4.toInt from (by have z15 : (0 : Int32).toInt = 0 := rfl; omega)), (show t0_4.toInt ≤ t0_4.toInt from (by have z15 : (0 : Int32).toInt = 0 := rfl; omega)), (show t0_5.toInt ≤ t0_5.toInt from (by have z15 : (0 : Int32).toInt = 0 := rfl; omega)), (show t0_5.toInt ≤ t0_5.toInt from (by have z15 : (0 : Int32).toInt = 0 := rfl; omega)), (show t0_6.toInt ≤ t0_6.toInt from (by have z15 : (0 : Int32).toInt = 0 := rfl; omega)), (show t0_6.toInt ≤ t0_6.toInt from (by have z15 : (0 : Int32).toInt = 0 := rfl; omega)), (show t0_8.toInt ≤ t0_8.toInt from (by have z15 : (0 : Int32).toInt = 0 := rfl; omega)), (show t0_8.toInt ≤ t0_8.toInt from (by have z15 : (0 : Int32).toInt = 0 := rfl; omega)), (show t0_9.toInt ≤ t0_9.toInt from (by have z15 : (0 : Int32).toInt = 0 := rfl; omega)), (show t0_9.toInt ≤ t0_9.toInt from (by have z15 : (0 : Int32).toInt = 0 := rfl; omega)), (show t0_10.toInt ≤ t0_10.toInt from (by have z15 : (0 : Int32).toInt = 0 := rfl; omega)), (show t0_10.toInt ≤ t0_10.toInt from (by have z15 : (0 : Int32).toInt = 0 := rfl; omega)), (show t0_11.toInt ≤ t0_11.toInt from (by have z15 : (0 : Int32).toInt = 0 := rfl; omega)), (show t0_11.toInt ≤ t0_11.toInt from (by have z15 : (0 : Int32).toInt = 0 := rfl; omega)), (show t0_12.toInt ≤ t0_12.toInt from (by have z15 : (0 : Int32).toInt = 0 := rfl; omega)), (show t0_12.toInt ≤ t0_12.toInt from (by have z15 : (0 : Int32).toInt = 0 := rfl; omega)), (show t0_13.toInt ≤ t0_13.toInt from (by have z15 : (0 : Int32).toInt = 0 := rfl; omega)), (show t0_13.toInt ≤ t0_13.toInt from (by have z15 : (0 : Int32).toInt = 0 := rfl; omega)), (show ((0 : Int32), t0_0, t0_1, t0_2, lx39, t0_4, t0_5, t0_6, t0_7, t0_8, t0_9, t0_10, t0_11, t0_12, t0_13) = (F_TR_power t0_0 t0_1 t0_2 t0_3 t0_4 t0_5 t0_6 t0_7 t0_8 t0_9 t0_10 t0_11 t0_12 t0_13 t1_0) from Eq.trans (by have c62x := c62; rw [e61, e54] at c62x; rw [F_TR_power_J38.eq_1, if_pos c62x]) hR44)⟩) d_18_13_49
    ·
      intro J42
      refine q_join (X := Unit) (fun z H locs ls _ => q_Wd D g (va_A ws sz) s ws H locs ∧ lv_has ls 2 [(1, .int lx28), (0, .ref (q 153))] ∧ F_TR_power_J28 t0_0 t0_1 t0_2 t0_3 t0_4 t0_5 t0_6 t0_7 t0_8 t0_9 t0_10 t0_11 t0_12 t0_13 t1_0 lx28 = (F_TR_power t0_0 t0_1 t0_2 t0_3 t0_4 t0_5 t0_6 t0_7 t0_8 t0_9 t0_10 t0_11 t0_12 t0_13 t1_0) ∧ True ∧ S_TR_power_J28 t0_0 t0_1 t0_2 t0_3 t0_4 t0_5 t0_6 t0_7 t0_8 t0_9 t0_10 t0_11 t0_12 t0_13 t1_0 lx28) (fun z => []) 28 0 0 ?_ ?_
      ·
        rintro _ H locs ls _ ⟨V, hl, hR137, hS138⟩
        replace hl : lv_has ls 2 [(1, .int lx28), (0, .ref (q 153))] := hl
        refine lv_aload_n hx hb d_18_13_28 rfl (lv_at hl 1 rfl) ?_
        refine lv_dup hx hb d_18_13_29 rfl ?_
        refine q_get (ci := 16) (j := 4) (v := .int t0_3) C0 V i_TR rfl rfl hT0 (by decide) w_2144 rfl d_18_13_30 ?_
        refine lv_iconst (v := 1) hx hb d_18_13_33 (by decide) ?_
        refine lv_iadd hx hb d_18_13_34 ?_
        obtain ⟨a142, e143⟩ := q_nm (t0_3 + 1 : Int32)
        refine q_ti (v := a142) e143 ?_
        refine q_put (ci := 16) (j := 4) (v := .int a142) (ty := .int) C0 V i_TR o_TR n_TR rfl rfl hT0 (by decide) w_2144 rfl rfl rfl rfl (Nat.le_of_ble_eq_true rfl) d_18_13_35 (fun H locs w144 hu145 hT0 V => ?_)
        replace hT0 : w144[153]? = (some (q 153, .inr (16, [.int t0_0, .ref (q 154), .int t0_1, .int t0_2, .int a142, .int t0_4, .ref (q 155), .int t0_5, .int t0_6, .long t0_7, .ref (q 156), .int t0_8, .int t0_9, .long t0_10, .long t0_11, .int t0_12, .int t0_13])) : Option (Nat × va_E)) := hT0
        replace hI := n_p153 hI hu145 hT0 (by first | with_reducible exact q_fe btt0_1 | exact ⟨(by have t1 : 0 ≤ t0_1.toInt ∧ t0_1.toInt ≤ 4100 := btt0_1; omega), (by have t1 : 0 ≤ t0_1.toInt ∧ t0_1.toInt ≤ 4100 := btt0_1; omega)⟩) (by first | with_reducible exact q_fe btt0_4 | exact ⟨(by have t1 : 0 ≤ t0_4.toInt ∧ t0_4.toInt ≤ 1 := btt0_4; omega), (by have t1 : 0 ≤ t0_4.toInt ∧ t0_4.toInt ≤ 1 := btt0_4; omega)⟩) (by first | with_reducible exact q_fe btt0_13 | exact ⟨(by have t1 : 0 ≤ t0_13.toInt ∧ t0_13.toInt ≤ 1 := btt0_13; omega), (by have t1 : 0 ≤ t0_13.toInt ∧ t0_13.toInt ≤ 1 := btt0_13; omega)⟩)
        replace hT1 := (hu145 _ (by decide)).trans hT1
        replace hF := q_us hF hu145 (by simp)
        exact J42 ((a142 : Int32)) _ _ _ _ ⟨V, q_lw hl (q_lw1 0 rfl (q_lw1 1 rfl q_lw0)), hI, hF, hT0, hT1, (show F_TR_power_J38 t0_0 t0_1 t0_2 t0_3 t0_4 t0_5 t0_6 t0_7 t0_8 t0_9 t0_10 t0_11 t0_12 t0_13 t1_0 lx28 a142 = (F_TR_power t0_0 t0_1 t0_2 t0_3 t0_4 t0_5 t0_6 t0_7 t0_8 t0_9 t0_10 t0_11 t0_12 t0_13 t1_0) from Eq.trans (by rw [← e143, F_TR_power_J28.eq_1]) hR137), (show True ∧ S_TR_power_J38 t0_0 t0_1 t0_2 t0_3 t0_4 t0_5 t0_6 t0_7 t0_8 t0_9 t0_10 t0_11 t0_12 t0_13 t1_0 lx28 a142 from (by rw [← e143]; have h := hS138; rw [S_TR_power_J28.eq_1] at h; with_reducible exact h))⟩
      ·
        intro J136
        refine lv_if_ne (tgt := 28) hx hb d_18_13_16 (by decide) (fun c146 => ?_) (fun c146 => ?_)
        ·
          exact J136 (()) _ _ _ ws ⟨V, q_lw hl (q_lw1 0 rfl (q_lw1 1 rfl q_lw0)), (show F_TR_power_J28 t0_0 t0_1 t0_2 t0_3 t0_4 t0_5 t0_6 t0_7 t0_8 t0_9 t0_10 t0_11 t0_12 t0_13 t1_0 lx28 = (F_TR_power t0_0 t0_1 t0_2 t0_3 t0_4 t0_5 t0_6 t0_7 t0_8 t0_9 t0_10 t0_11 t0_12 t0_13 t1_0) from Eq.trans (by rw [F_TR_power_J14.eq_1, if_neg c146]) hR34), (show True ∧ S_TR_power_J28 t0_0 t0_1 t0_2 t0_3 t0_4 t0_5 t0_6 t0_7 t0_8 t0_9 t0_10 t0_11 t0_12 t0_13 t1_0 lx28 from (by have h := hS35; rw [S_TR_power_J14.eq_1] at h; rw [if_neg c146] at h; with_reducible exact h))⟩
        ·
          refine lv_aload_n hx hb d_18_13_19 rfl (lv_at hl 1 rfl) ?_
          have ob149 : True ∧ S_TR_here t0_0 t0_1 t0_2 t0_3 t0_4 t0_5 t0_6 t0_7 t0_8 t0_9 t0_10 t0_11 t0_12 t0_13 t1_0 := (by have h := hS35; rw [S_TR_power_J14.eq_1] at h; rw [if_pos c146] at h; with_reducible exact h.2.1)
          refine q_goi V (q_runV (As := []) (rest := []) (d := 1) (mc := 0) (ms := 0) (ci := 16) C0 V rfl LV_TR_35 (X_TR_here l D g q ws   hI t0_0 t0_1 t0_2 t0_3 t0_4 t0_5 t0_6 t0_7 t0_8 t0_9 t0_10 t0_11 t0_12 t0_13 hT0 t1_0 hT1 ob149 _) rfl rfl hT0 rfl hl.1 rfl (Nat.le_of_ble_eq_true rfl) ⟨by decide, by decide⟩ ⟨Nat.le_of_ble_eq_true rfl, Nat.le_of_ble_eq_true rfl⟩ d_18_13_20) (fun a152 u150 H locs hp151 V => ?_)
          obtain ⟨rfl, hE153⟩ := hp151
          have e154 : a152 = (F_TR_here t0_0 t0_1 t0_2 t0_3 t0_4 t0_5 t0_6 t0_7 t0_8 t0_9 t0_10 t0_11 t0_12 t0_13 t1_0) := hE153
          refine lv_bipush (v := 43) hx hb d_18_13_23 (by decide) ?_
          refine lv_icmp_ne (tgt := 38) hx hb d_18_13_25 (by decide) (fun c155 => ?_) (fun c155 => ?_)
          ·
            exact J42 ((t0_3 : Int32)) _ _ _ _ ⟨V, q_lw hl (q_lw1 0 rfl (q_lw1 1 rfl q_lw0)), hI, hF, hT0, hT1, (show F_TR_power_J38 t0_0 t0_1 t0_2 t0_3 t0_4 t0_5 t0_6 t0_7 t0_8 t0_9 t0_10 t0_11 t0_12 t0_13 t1_0 lx28 t0_3 = (F_TR_power t0_0 t0_1 t0_2 t0_3 t0_4 t0_5 t0_6 t0_7 t0_8 t0_9 t0_10 t0_11 t0_12 t0_13 t1_0) from Eq.trans (by have c155x := c155; rw [e154] at c155x; rw [F_TR_power_J14.eq_1, if_pos c146, if_neg c155x]) hR34), (show True ∧ S_TR_power_J38 t0_0 t0_1 t0_2 t0_3 t0_4 t0_5 t0_6 t0_7 t0_8 t0_9 t0_10 t0_11 t0_12 t0_13 t1_0 lx28 t0_3 from (by have h := hS35; rw [S_TR_power_J14.eq_1] at h; rw [if_pos c146] at h; replace h := q_s2 h; have c155x := c155; rw [e154] at c155x; rw [if_neg c155x] at h; with_reducible exact h))⟩
          ·
            exact J136 (()) _ _ _ ws ⟨V, q_lw hl (q_lw1 0 rfl (q_lw1 1 rfl q_lw0)), (show F_TR_power_J28 t0_0 t0_1 t0_2 t0_3 t0_4 t0_5 t0_6 t0_7 t0_8 t0_9 t0_10 t0_11 t0_12 t0_13 t1_0 lx28 = (F_TR_power t0_0 t0_1 t0_2 t0_3 t0_4 t0_5 t0_6 t0_7 t0_8 t0_9 t0_10 t0_11 t0_12 t0_13 t1_0) from Eq.trans (by have c155x := c155; rw [e154] at c155x; rw [F_TR_power_J14.eq_1, if_pos c146, if_pos c155x]) hR34), (show True ∧ S_TR_power_J28 t0_0 t0_1 t0_2 t0_3 t0_4 t0_5 t0_6 t0_7 t0_8 t0_9 t0_10 t0_11 t0_12 t0_13 t1_0 lx28 from (by have h := hS35; rw [S_TR_power_J14.eq_1] at h; rw [if_pos c146] at h; replace h := q_s2 h; have c155x := c155; rw [e154] at c155x; rw [if_pos c155x] at h; with_reducible exact h))⟩
  ·
    intro J31
    refine lv_icmp_ne (tgt := 13) hx hb d_18_13_6 (by decide) (fun c158 => ?_) (fun c158 => ?_)
    ·
      refine lv_iconst (v := 0) hx hb d_18_13_13 (by decide) ?_
      exact J31 ((0 : Int32)) _ _ _ ws ⟨(show q_F (0 ≤ 0) from (show 0 ≤ 0 from by omega)), (show q_F (0 ≤ 1) from (show 0 ≤ 1 from by omega)), V, q_lw hl (q_lw1 0 rfl q_lw0), (show F_TR_power_J14 t0_0 t0_1 t0_2 t0_3 t0_4 t0_5 t0_6 t0_7 t0_8 t0_9 t0_10 t0_11 t0_12 t0_13 t1_0 0 = (F_TR_power t0_0 t0_1 t0_2 t0_3 t0_4 t0_5 t0_6 t0_7 t0_8 t0_9 t0_10 t0_11 t0_12 t0_13 t1_0) from (by have c158x := c158; rw [e27] at c158x; rw [F_TR_power.eq_1, if_neg c158x])), (show True ∧ S_TR_power_J14 t0_0 t0_1 t0_2 t0_3 t0_4 t0_5 t0_6 t0_7 t0_8 t0_9 t0_10 t0_11 t0_12 t0_13 t1_0 0 from (by have h := hS; rw [S_TR_power.eq_1] at h; replace h := q_s2 h; have c158x := c158; rw [e27] at c158x; rw [if_neg c158x] at h; with_reducible exact h))⟩
    ·
      refine lv_iconst (v := 1) hx hb d_18_13_9 (by decide) ?_
      refine lv_goto (tgt := 14) hx hb d_18_13_10 (by decide) ?_
      exact J31 ((1 : Int32)) _ _ _ ws ⟨(show q_F (0 ≤ 1) from (show 0 ≤ 1 from by omega)), (show q_F (1 ≤ 1) from (show 1 ≤ 1 from by omega)), V, q_lw hl (q_lw1 0 rfl q_lw0), (show F_TR_power_J14 t0_0 t0_1 t0_2 t0_3 t0_4 t0_5 t0_6 t0_7 t0_8 t0_9 t0_10 t0_11 t0_12 t0_13 t1_0 1 = (F_TR_power t0_0 t0_1 t0_2 t0_3 t0_4 t0_5 t0_6 t0_7 t0_8 t0_9 t0_10 t0_11 t0_12 t0_13 t1_0) from (by have c158x := c158; rw [e27] at c158x; rw [F_TR_power.eq_1, if_pos c158x])), (show True ∧ S_TR_power_J14 t0_0 t0_1 t0_2 t0_3 t0_4 t0_5 t0_6 t0_7 t0_8 t0_9 t0_10 t0_11 t0_12 t0_13 t1_0 1 from (by have h := hS; rw [S_TR_power.eq_1] at h; replace h := q_s2 h; have c158x := c158; rw [e27] at c158x; rw [if_pos c158x] at h; with_reducible exact h))⟩
theorem d_18_14_0 : decode prog_18_method_14_code 0 = .ok (.aload_n 0, 1) := by decide +kernel
theorem d_18_14_1 : decode prog_18_method_14_code 1 = .ok (.lconst 0, 1) := by decide +kernel
theorem d_18_14_2 : decode prog_18_method_14_code 2 = .ok (.putfield 49, 3) := by decide +kernel
theorem d_18_14_5 : decode prog_18_method_14_code 5 = .ok (.aload_n 0, 1) := by decide +kernel
theorem d_18_14_6 : decode prog_18_method_14_code 6 = .ok (.invokevirtual 35, 3) := by decide +kernel
theorem d_18_14_9 : decode prog_18_method_14_code 9 = .ok (.bipush 48, 2) := by decide +kernel
theorem d_18_14_159 : decode prog_18_method_14_code 159 = .ok (.aload_n 0, 1) := by decide +kernel
theorem d_18_14_160 : decode prog_18_method_14_code 160 = .ok (.bipush 100, 2) := by decide +kernel
theorem d_18_14_162 : decode prog_18_method_14_code 162 = .ok (.bipush 68, 2) := by decide +kernel
theorem d_18_14_164 : decode prog_18_method_14_code 164 = .ok (.invokevirtual 66, 3) := by decide +kernel
set_option maxRecDepth 100000 in
theorem w_2459 : (Cond.code ({ cls := "NumberHouseModel$TextRows", name := "isAt", desc := "(II)Z" } : MethodName) prog_18_method_10_code (3 : Nat) (some .boolean)) ∈ q_tbl := q_of11 59 rfl (by decide +kernel)
set_option maxRecDepth 100000 in
theorem w_2456 : (Cond.methodLink "NumberHouseModel$TextRows" (66 : Nat) ({ cls := "NumberHouseModel$TextRows", name := "isAt", desc := "(II)Z" } : MethodName)) ∈ q_tbl := q_of11 56 rfl (by decide +kernel)
set_option maxRecDepth 100000 in
theorem w_2458 : (Cond.instanceMethod ({ cls := "NumberHouseModel$TextRows", name := "isAt", desc := "(II)Z" } : MethodName)) ∈ q_tbl := q_of11 58 rfl (by decide +kernel)
theorem ws_71 : Cond.selects "NumberHouseModel$TextRows" (⟨"NumberHouseModel$TextRows", "isAt", "(II)Z"⟩ : MethodName) (⟨"NumberHouseModel$TextRows", "isAt", "(II)Z"⟩ : MethodName) ∈ q_tbl := q_ofs 71 (by decide +kernel) (by decide +kernel)
theorem LV_TR_66 : q_LV "NumberHouseModel$TextRows" 66 y_TR_isAt prog_18_method_10_code 3 (some .boolean) 2 := ⟨w_2459, w_18, w_2456, w_2458, ws_71, ⟨by decide, by decide, by decide +kernel⟩⟩
theorem d_18_14_167 : decode prog_18_method_14_code 167 = .ok (.ifCond .ne 14, 3) := by decide +kernel
theorem d_18_14_181 : decode prog_18_method_14_code 181 = .ok (.aload_n 0, 1) := by decide +kernel
theorem d_18_14_182 : decode prog_18_method_14_code 182 = .ok (.dup, 1) := by decide +kernel
theorem d_18_14_183 : decode prog_18_method_14_code 183 = .ok (.getfield 28, 3) := by decide +kernel
theorem d_18_14_186 : decode prog_18_method_14_code 186 = .ok (.iconst 1, 1) := by decide +kernel
theorem d_18_14_187 : decode prog_18_method_14_code 187 = .ok (.iadd, 1) := by decide +kernel
theorem d_18_14_188 : decode prog_18_method_14_code 188 = .ok (.putfield 28, 3) := by decide +kernel
theorem d_18_14_191 : decode prog_18_method_14_code 191 = .ok (.iconst 1, 1) := by decide +kernel
theorem d_18_14_192 : decode prog_18_method_14_code 192 = .ok (.ireturn, 1) := by decide +kernel
theorem d_18_14_170 : decode prog_18_method_14_code 170 = .ok (.aload_n 0, 1) := by decide +kernel
theorem d_18_14_171 : decode prog_18_method_14_code 171 = .ok (.bipush 102, 2) := by decide +kernel
theorem d_18_14_173 : decode prog_18_method_14_code 173 = .ok (.bipush 70, 2) := by decide +kernel
theorem d_18_14_175 : decode prog_18_method_14_code 175 = .ok (.invokevirtual 66, 3) := by decide +kernel
theorem d_18_14_178 : decode prog_18_method_14_code 178 = .ok (.ifCond .eq 13, 3) := by decide +kernel
theorem d_18_14_114 : decode prog_18_method_14_code 114 = .ok (.aload_n 0, 1) := by decide +kernel
theorem d_18_14_115 : decode prog_18_method_14_code 115 = .ok (.iconst 0, 1) := by decide +kernel
theorem d_18_14_116 : decode prog_18_method_14_code 116 = .ok (.putfield 59, 3) := by decide +kernel
set_option maxRecDepth 100000 in
theorem w_2143 : (Cond.fieldLink "NumberHouseModel$TextRows" (59 : Nat) "NumberHouseModel$TextRows" "kind" "I") ∈ q_tbl := q_of9 223 rfl (by decide +kernel)
theorem d_18_14_119 : decode prog_18_method_14_code 119 = .ok (.aload_n 0, 1) := by decide +kernel
theorem d_18_14_120 : decode prog_18_method_14_code 120 = .ok (.iconst 0, 1) := by decide +kernel
theorem d_18_14_121 : decode prog_18_method_14_code 121 = .ok (.invokevirtual 62, 3) := by decide +kernel
set_option maxRecDepth 100000 in
theorem w_2449 : (Cond.code ({ cls := "NumberHouseModel$TextRows", name := "digits", desc := "(Z)Z" } : MethodName) prog_18_method_12_code (3 : Nat) (some .boolean)) ∈ q_tbl := q_of11 49 rfl (by decide +kernel)
set_option maxRecDepth 100000 in
theorem w_2446 : (Cond.methodLink "NumberHouseModel$TextRows" (62 : Nat) ({ cls := "NumberHouseModel$TextRows", name := "digits", desc := "(Z)Z" } : MethodName)) ∈ q_tbl := q_of11 46 rfl (by decide +kernel)
set_option maxRecDepth 100000 in
theorem w_2448 : (Cond.instanceMethod ({ cls := "NumberHouseModel$TextRows", name := "digits", desc := "(Z)Z" } : MethodName)) ∈ q_tbl := q_of11 48 rfl (by decide +kernel)
theorem ws_70 : Cond.selects "NumberHouseModel$TextRows" (⟨"NumberHouseModel$TextRows", "digits", "(Z)Z"⟩ : MethodName) (⟨"NumberHouseModel$TextRows", "digits", "(Z)Z"⟩ : MethodName) ∈ q_tbl := q_ofs 70 (by decide +kernel) (by decide +kernel)
theorem LV_TR_62 : q_LV "NumberHouseModel$TextRows" 62 y_TR_digits prog_18_method_12_code 3 (some .boolean) 1 := ⟨w_2449, w_18, w_2446, w_2448, ws_70, ⟨by decide, by decide, by decide +kernel⟩⟩
theorem d_18_14_124 : decode prog_18_method_14_code 124 = .ok (.ifCond .ne 5, 3) := by decide +kernel
theorem d_18_14_129 : decode prog_18_method_14_code 129 = .ok (.aload_n 0, 1) := by decide +kernel
theorem d_18_14_130 : decode prog_18_method_14_code 130 = .ok (.bipush 101, 2) := by decide +kernel
theorem d_18_14_132 : decode prog_18_method_14_code 132 = .ok (.bipush 69, 2) := by decide +kernel
theorem d_18_14_134 : decode prog_18_method_14_code 134 = .ok (.invokevirtual 66, 3) := by decide +kernel
theorem d_18_14_137 : decode prog_18_method_14_code 137 = .ok (.ifCond .eq 22, 3) := by decide +kernel
theorem d_18_14_140 : decode prog_18_method_14_code 140 = .ok (.aload_n 0, 1) := by decide +kernel
theorem d_18_14_141 : decode prog_18_method_14_code 141 = .ok (.dup, 1) := by decide +kernel
theorem d_18_14_142 : decode prog_18_method_14_code 142 = .ok (.getfield 28, 3) := by decide +kernel
theorem d_18_14_145 : decode prog_18_method_14_code 145 = .ok (.iconst 1, 1) := by decide +kernel
theorem d_18_14_146 : decode prog_18_method_14_code 146 = .ok (.iadd, 1) := by decide +kernel
theorem d_18_14_147 : decode prog_18_method_14_code 147 = .ok (.putfield 28, 3) := by decide +kernel
theorem d_18_14_150 : decode prog_18_method_14_code 150 = .ok (.aload_n 0, 1) := by decide +kernel
theorem d_18_14_151 : decode prog_18_method_14_code 151 = .ok (.invokevirtual 70, 3) := by decide +kernel
set_option maxRecDepth 100000 in
theorem w_2463 : (Cond.code ({ cls := "NumberHouseModel$TextRows", name := "power", desc := "()Z" } : MethodName) prog_18_method_13_code (2 : Nat) (some .boolean)) ∈ q_tbl := q_of11 63 rfl (by decide +kernel)
set_option maxRecDepth 100000 in
theorem w_2460 : (Cond.methodLink "NumberHouseModel$TextRows" (70 : Nat) ({ cls := "NumberHouseModel$TextRows", name := "power", desc := "()Z" } : MethodName)) ∈ q_tbl := q_of11 60 rfl (by decide +kernel)
set_option maxRecDepth 100000 in
theorem w_2462 : (Cond.instanceMethod ({ cls := "NumberHouseModel$TextRows", name := "power", desc := "()Z" } : MethodName)) ∈ q_tbl := q_of11 62 rfl (by decide +kernel)
theorem ws_72 : Cond.selects "NumberHouseModel$TextRows" (⟨"NumberHouseModel$TextRows", "power", "()Z"⟩ : MethodName) (⟨"NumberHouseModel$TextRows", "power", "()Z"⟩ : MethodName) ∈ q_tbl := q_ofs 72 (by decide +kernel) (by decide +kernel)
theorem LV_TR_70 : q_LV "NumberHouseModel$TextRows" 70 y_TR_power prog_18_method_13_code 2 (some .boolean) 0 := ⟨w_2463, w_18, w_2460, w_2462, ws_72, ⟨by decide, by decide, by decide +kernel⟩⟩
theorem d_18_14_154 : decode prog_18_method_14_code 154 = .ok (.ifCond .ne 5, 3) := by decide +kernel
theorem d_18_14_157 : decode prog_18_method_14_code 157 = .ok (.iconst 0, 1) := by decide +kernel
theorem d_18_14_158 : decode prog_18_method_14_code 158 = .ok (.ireturn, 1) := by decide +kernel
theorem d_18_14_127 : decode prog_18_method_14_code 127 = .ok (.iconst 0, 1) := by decide +kernel
theorem d_18_14_128 : decode prog_18_method_14_code 128 = .ok (.ireturn, 1) := by decide +kernel
theorem d_18_14_11 : decode prog_18_method_14_code 11 = .ok (.if_icmp .ne 103, 3) := by decide +kernel
theorem d_18_14_14 : decode prog_18_method_14_code 14 = .ok (.aload_n 0, 1) := by decide +kernel
theorem d_18_14_15 : decode prog_18_method_14_code 15 = .ok (.getfield 28, 3) := by decide +kernel
theorem d_18_14_18 : decode prog_18_method_14_code 18 = .ok (.iconst 1, 1) := by decide +kernel
theorem d_18_14_19 : decode prog_18_method_14_code 19 = .ok (.iadd, 1) := by decide +kernel
theorem d_18_14_20 : decode prog_18_method_14_code 20 = .ok (.aload_n 0, 1) := by decide +kernel
theorem d_18_14_21 : decode prog_18_method_14_code 21 = .ok (.getfield 25, 3) := by decide +kernel
theorem d_18_14_24 : decode prog_18_method_14_code 24 = .ok (.if_icmp .ge 90, 3) := by decide +kernel
theorem d_18_14_27 : decode prog_18_method_14_code 27 = .ok (.aload_n 0, 1) := by decide +kernel
theorem d_18_14_28 : decode prog_18_method_14_code 28 = .ok (.getfield 7, 3) := by decide +kernel
theorem d_18_14_31 : decode prog_18_method_14_code 31 = .ok (.aload_n 0, 1) := by decide +kernel
theorem d_18_14_32 : decode prog_18_method_14_code 32 = .ok (.getfield 28, 3) := by decide +kernel
theorem d_18_14_35 : decode prog_18_method_14_code 35 = .ok (.iconst 1, 1) := by decide +kernel
theorem d_18_14_36 : decode prog_18_method_14_code 36 = .ok (.iadd, 1) := by decide +kernel
theorem d_18_14_37 : decode prog_18_method_14_code 37 = .ok (.iaload, 1) := by decide +kernel
theorem d_18_14_38 : decode prog_18_method_14_code 38 = .ok (.bipush 120, 2) := by decide +kernel
theorem d_18_14_59 : decode prog_18_method_14_code 59 = .ok (.aload_n 0, 1) := by decide +kernel
theorem d_18_14_60 : decode prog_18_method_14_code 60 = .ok (.iconst 1, 1) := by decide +kernel
theorem d_18_14_61 : decode prog_18_method_14_code 61 = .ok (.putfield 59, 3) := by decide +kernel
theorem d_18_14_64 : decode prog_18_method_14_code 64 = .ok (.aload_n 0, 1) := by decide +kernel
theorem d_18_14_65 : decode prog_18_method_14_code 65 = .ok (.dup, 1) := by decide +kernel
theorem d_18_14_66 : decode prog_18_method_14_code 66 = .ok (.getfield 28, 3) := by decide +kernel
theorem d_18_14_69 : decode prog_18_method_14_code 69 = .ok (.iconst 2, 1) := by decide +kernel
theorem d_18_14_70 : decode prog_18_method_14_code 70 = .ok (.iadd, 1) := by decide +kernel
theorem d_18_14_71 : decode prog_18_method_14_code 71 = .ok (.putfield 28, 3) := by decide +kernel
theorem d_18_14_74 : decode prog_18_method_14_code 74 = .ok (.aload_n 0, 1) := by decide +kernel
theorem d_18_14_75 : decode prog_18_method_14_code 75 = .ok (.iconst 1, 1) := by decide +kernel
theorem d_18_14_76 : decode prog_18_method_14_code 76 = .ok (.invokevirtual 62, 3) := by decide +kernel
theorem d_18_14_79 : decode prog_18_method_14_code 79 = .ok (.ifCond .eq 14, 3) := by decide +kernel
theorem d_18_14_93 : decode prog_18_method_14_code 93 = .ok (.iconst 0, 1) := by decide +kernel
theorem d_18_14_94 : decode prog_18_method_14_code 94 = .ok (.ireturn, 1) := by decide +kernel
theorem d_18_14_82 : decode prog_18_method_14_code 82 = .ok (.aload_n 0, 1) := by decide +kernel
theorem d_18_14_83 : decode prog_18_method_14_code 83 = .ok (.bipush 112, 2) := by decide +kernel
theorem d_18_14_85 : decode prog_18_method_14_code 85 = .ok (.bipush 80, 2) := by decide +kernel
theorem d_18_14_87 : decode prog_18_method_14_code 87 = .ok (.invokevirtual 66, 3) := by decide +kernel
theorem d_18_14_90 : decode prog_18_method_14_code 90 = .ok (.ifCond .ne 5, 3) := by decide +kernel
theorem d_18_14_95 : decode prog_18_method_14_code 95 = .ok (.aload_n 0, 1) := by decide +kernel
theorem d_18_14_96 : decode prog_18_method_14_code 96 = .ok (.dup, 1) := by decide +kernel
theorem d_18_14_97 : decode prog_18_method_14_code 97 = .ok (.getfield 28, 3) := by decide +kernel
theorem d_18_14_100 : decode prog_18_method_14_code 100 = .ok (.iconst 1, 1) := by decide +kernel
theorem d_18_14_101 : decode prog_18_method_14_code 101 = .ok (.iadd, 1) := by decide +kernel
theorem d_18_14_102 : decode prog_18_method_14_code 102 = .ok (.putfield 28, 3) := by decide +kernel
theorem d_18_14_105 : decode prog_18_method_14_code 105 = .ok (.aload_n 0, 1) := by decide +kernel
theorem d_18_14_106 : decode prog_18_method_14_code 106 = .ok (.invokevirtual 70, 3) := by decide +kernel
theorem d_18_14_109 : decode prog_18_method_14_code 109 = .ok (.ifCond .ne 50, 3) := by decide +kernel
theorem d_18_14_112 : decode prog_18_method_14_code 112 = .ok (.iconst 0, 1) := by decide +kernel
theorem d_18_14_113 : decode prog_18_method_14_code 113 = .ok (.ireturn, 1) := by decide +kernel
theorem d_18_14_40 : decode prog_18_method_14_code 40 = .ok (.if_icmp .eq 19, 3) := by decide +kernel
theorem d_18_14_43 : decode prog_18_method_14_code 43 = .ok (.aload_n 0, 1) := by decide +kernel
theorem d_18_14_44 : decode prog_18_method_14_code 44 = .ok (.getfield 7, 3) := by decide +kernel
theorem d_18_14_47 : decode prog_18_method_14_code 47 = .ok (.aload_n 0, 1) := by decide +kernel
theorem d_18_14_48 : decode prog_18_method_14_code 48 = .ok (.getfield 28, 3) := by decide +kernel
theorem d_18_14_51 : decode prog_18_method_14_code 51 = .ok (.iconst 1, 1) := by decide +kernel
theorem d_18_14_52 : decode prog_18_method_14_code 52 = .ok (.iadd, 1) := by decide +kernel
theorem d_18_14_53 : decode prog_18_method_14_code 53 = .ok (.iaload, 1) := by decide +kernel
theorem d_18_14_54 : decode prog_18_method_14_code 54 = .ok (.bipush 88, 2) := by decide +kernel
theorem d_18_14_56 : decode prog_18_method_14_code 56 = .ok (.if_icmp .ne 58, 3) := by decide +kernel
def y_TR_number : MethodName := ⟨"NumberHouseModel$TextRows", "number", "()Z"⟩
def F_TR_number_J159 (t0_0 : Int32) (t0_1 : Int32) (t0_2 : Int32) (t0_3 : Int32) (t0_4 : Int32) (t0_5 : Int32) (t0_6 : Int32) (t0_7 : Int64) (t0_8 : Int32) (t0_9 : Int32) (t0_10 : Int64) (t0_11 : Int64) (t0_12 : Int32) (t0_13 : Int32) (t1_0 : (Nat → Int32)) (t2_0 : (Nat → Int32)) (lx33 : Int32) (lx34 : Int32) (lx35 : Int32) (lx36 : Int32) (lx37 : Int32) (lx38 : Int32) (lx39 : Int32) (lx40 : Int64) (lx41 : Int32) (lx42 : Int32) (lx43 : Int64) (lx44 : Int64) (lx45 : Int32) (lx46 : Int32) (lx47 : (Nat → Int32)) : Int32 × Int32 × Int32 × Int32 × Int32 × Int32 × Int32 × Int32 × Int64 × Int32 × Int32 × Int64 × Int64 × Int32 × Int32 × (Nat → Int32) := if ((F_TR_isAt (100 : Int32) (68 : Int32) lx33 lx34 lx35 lx36 lx37 lx38 lx39 lx40 lx41 lx42 lx43 lx44 lx45 lx46 t1_0) : Int32) = (0 : Int32) then (if ((F_TR_isAt (102 : Int32) (70 : Int32) lx33 lx34 lx35 lx36 lx37 lx38 lx39 lx40 lx41 lx42 lx43 lx44 lx45 lx46 t1_0) : Int32) = (0 : Int32) then (((1 : Int32), lx33, lx34, lx35, lx36, lx37, lx38, lx39, lx40, lx41, lx42, lx43, lx44, lx45, lx46, lx47)) else (((1 : Int32), lx33, lx34, lx35, (lx36 + 1 : Int32), lx37, lx38, lx39, lx40, lx41, lx42, lx43, lx44, lx45, lx46, lx47))) else (((1 : Int32), lx33, lx34, lx35, (lx36 + 1 : Int32), lx37, lx38, lx39, lx40, lx41, lx42, lx43, lx44, lx45, lx46, lx47))
def F_TR_number_c151 (t0_0 : Int32) (t0_1 : Int32) (t0_2 : Int32) (t0_3 : Int32) (t0_4 : Int32) (t0_5 : Int32) (t0_6 : Int32) (t0_7 : Int64) (t0_8 : Int32) (t0_9 : Int32) (t0_10 : Int64) (t0_11 : Int64) (t0_12 : Int32) (t0_13 : Int32) (t1_0 : (Nat → Int32)) (t2_0 : (Nat → Int32)) (p174 : (Int32 × Int32 × Int32 × Int32 × Int32 × Int32 × Int32 × Int32 × Int64 × Int32 × Int32 × Int64 × Int64 × Int32 × Int32 × (Nat → Int32))) (f142 : (Nat → Int32)) (p261 : (Int32 × Int32 × Int32 × Int32 × Int32 × Int32 × Int32 × Int32 × Int64 × Int32 × Int32 × Int64 × Int64 × Int32 × Int32)) : Int32 × Int32 × Int32 × Int32 × Int32 × Int32 × Int32 × Int32 × Int64 × Int32 × Int32 × Int64 × Int64 × Int32 × Int32 × (Nat → Int32) := if (p261.1 : Int32) = (0 : Int32) then (((0 : Int32), (p261.2.1 : Int32), (p261.2.2.1 : Int32), (p261.2.2.2.1 : Int32), (p261.2.2.2.2.1 : Int32), (p261.2.2.2.2.2.1 : Int32), (p261.2.2.2.2.2.2.1 : Int32), (p261.2.2.2.2.2.2.2.1 : Int32), (p261.2.2.2.2.2.2.2.2.1 : Int64), (p261.2.2.2.2.2.2.2.2.2.1 : Int32), (p261.2.2.2.2.2.2.2.2.2.2.1 : Int32), (p261.2.2.2.2.2.2.2.2.2.2.2.1 : Int64), (p261.2.2.2.2.2.2.2.2.2.2.2.2.1 : Int64), (p261.2.2.2.2.2.2.2.2.2.2.2.2.2.1 : Int32), (p261.2.2.2.2.2.2.2.2.2.2.2.2.2.2 : Int32), f142)) else (F_TR_number_J159 t0_0 t0_1 t0_2 t0_3 t0_4 t0_5 t0_6 t0_7 t0_8 t0_9 t0_10 t0_11 t0_12 t0_13 t1_0 t2_0 (p261.2.1 : Int32) (p261.2.2.1 : Int32) (p261.2.2.2.1 : Int32) (p261.2.2.2.2.1 : Int32) (p261.2.2.2.2.2.1 : Int32) (p261.2.2.2.2.2.2.1 : Int32) (p261.2.2.2.2.2.2.2.1 : Int32) (p261.2.2.2.2.2.2.2.2.1 : Int64) (p261.2.2.2.2.2.2.2.2.2.1 : Int32) (p261.2.2.2.2.2.2.2.2.2.2.1 : Int32) (p261.2.2.2.2.2.2.2.2.2.2.2.1 : Int64) (p261.2.2.2.2.2.2.2.2.2.2.2.2.1 : Int64) (p261.2.2.2.2.2.2.2.2.2.2.2.2.2.1 : Int32) (p261.2.2.2.2.2.2.2.2.2.2.2.2.2.2 : Int32) f142)
def F_TR_number_c121 (t0_0 : Int32) (t0_1 : Int32) (t0_2 : Int32) (t0_3 : Int32) (t0_4 : Int32) (t0_5 : Int32) (t0_6 : Int32) (t0_7 : Int64) (t0_8 : Int32) (t0_9 : Int32) (t0_10 : Int64) (t0_11 : Int64) (t0_12 : Int32) (t0_13 : Int32) (t1_0 : (Nat → Int32)) (t2_0 : (Nat → Int32)) (p174 : (Int32 × Int32 × Int32 × Int32 × Int32 × Int32 × Int32 × Int32 × Int64 × Int32 × Int32 × Int64 × Int64 × Int32 × Int32 × (Nat → Int32))) : Int32 × Int32 × Int32 × Int32 × Int32 × Int32 × Int32 × Int32 × Int64 × Int32 × Int32 × Int64 × Int64 × Int32 × Int32 × (Nat → Int32) := if (p174.1 : Int32) = (0 : Int32) then (((0 : Int32), (p174.2.1 : Int32), (p174.2.2.1 : Int32), (p174.2.2.2.1 : Int32), (p174.2.2.2.2.1 : Int32), (p174.2.2.2.2.2.1 : Int32), (p174.2.2.2.2.2.2.1 : Int32), (p174.2.2.2.2.2.2.2.1 : Int32), (p174.2.2.2.2.2.2.2.2.1 : Int64), (p174.2.2.2.2.2.2.2.2.2.1 : Int32), (p174.2.2.2.2.2.2.2.2.2.2.1 : Int32), (p174.2.2.2.2.2.2.2.2.2.2.2.1 : Int64), (p174.2.2.2.2.2.2.2.2.2.2.2.2.1 : Int64), (p174.2.2.2.2.2.2.2.2.2.2.2.2.2.1 : Int32), (p174.2.2.2.2.2.2.2.2.2.2.2.2.2.2.1 : Int32), (p174.2.2.2.2.2.2.2.2.2.2.2.2.2.2.2 : (Nat → Int32)))) else (if ((F_TR_isAt (101 : Int32) (69 : Int32) (p174.2.1 : Int32) (p174.2.2.1 : Int32) (p174.2.2.2.1 : Int32) (p174.2.2.2.2.1 : Int32) (p174.2.2.2.2.2.1 : Int32) (p174.2.2.2.2.2.2.1 : Int32) (p174.2.2.2.2.2.2.2.1 : Int32) (p174.2.2.2.2.2.2.2.2.1 : Int64) (p174.2.2.2.2.2.2.2.2.2.1 : Int32) (p174.2.2.2.2.2.2.2.2.2.2.1 : Int32) (p174.2.2.2.2.2.2.2.2.2.2.2.1 : Int64) (p174.2.2.2.2.2.2.2.2.2.2.2.2.1 : Int64) (p174.2.2.2.2.2.2.2.2.2.2.2.2.2.1 : Int32) (p174.2.2.2.2.2.2.2.2.2.2.2.2.2.2.1 : Int32) t1_0) : Int32) = (0 : Int32) then (F_TR_number_J159 t0_0 t0_1 t0_2 t0_3 t0_4 t0_5 t0_6 t0_7 t0_8 t0_9 t0_10 t0_11 t0_12 t0_13 t1_0 t2_0 (p174.2.1 : Int32) (p174.2.2.1 : Int32) (p174.2.2.2.1 : Int32) (p174.2.2.2.2.1 : Int32) (p174.2.2.2.2.2.1 : Int32) (p174.2.2.2.2.2.2.1 : Int32) (p174.2.2.2.2.2.2.2.1 : Int32) (p174.2.2.2.2.2.2.2.2.1 : Int64) (p174.2.2.2.2.2.2.2.2.2.1 : Int32) (p174.2.2.2.2.2.2.2.2.2.2.1 : Int32) (p174.2.2.2.2.2.2.2.2.2.2.2.1 : Int64) (p174.2.2.2.2.2.2.2.2.2.2.2.2.1 : Int64) (p174.2.2.2.2.2.2.2.2.2.2.2.2.2.1 : Int32) (p174.2.2.2.2.2.2.2.2.2.2.2.2.2.2.1 : Int32) (p174.2.2.2.2.2.2.2.2.2.2.2.2.2.2.2 : (Nat → Int32))) else (F_TR_number_c151 t0_0 t0_1 t0_2 t0_3 t0_4 t0_5 t0_6 t0_7 t0_8 t0_9 t0_10 t0_11 t0_12 t0_13 t1_0 t2_0 p174 (p174.2.2.2.2.2.2.2.2.2.2.2.2.2.2.2 : (Nat → Int32)) ((F_TR_power (p174.2.1 : Int32) (p174.2.2.1 : Int32) (p174.2.2.2.1 : Int32) ((p174.2.2.2.2.1 : Int32) + 1 : Int32) (p174.2.2.2.2.2.1 : Int32) (p174.2.2.2.2.2.2.1 : Int32) (p174.2.2.2.2.2.2.2.1 : Int32) (p174.2.2.2.2.2.2.2.2.1 : Int64) (p174.2.2.2.2.2.2.2.2.2.1 : Int32) (p174.2.2.2.2.2.2.2.2.2.2.1 : Int32) (p174.2.2.2.2.2.2.2.2.2.2.2.1 : Int64) (p174.2.2.2.2.2.2.2.2.2.2.2.2.1 : Int64) (p174.2.2.2.2.2.2.2.2.2.2.2.2.2.1 : Int32) (p174.2.2.2.2.2.2.2.2.2.2.2.2.2.2.1 : Int32) t1_0) : (Int32 × Int32 × Int32 × Int32 × Int32 × Int32 × Int32 × Int32 × Int64 × Int32 × Int32 × Int64 × Int64 × Int32 × Int32))))
def F_TR_number_J114 (t0_0 : Int32) (t0_1 : Int32) (t0_2 : Int32) (t0_3 : Int32) (t0_4 : Int32) (t0_5 : Int32) (t0_6 : Int32) (t0_7 : Int64) (t0_8 : Int32) (t0_9 : Int32) (t0_10 : Int64) (t0_11 : Int64) (t0_12 : Int32) (t0_13 : Int32) (t1_0 : (Nat → Int32)) (t2_0 : (Nat → Int32)) : Int32 × Int32 × Int32 × Int32 × Int32 × Int32 × Int32 × Int32 × Int64 × Int32 × Int32 × Int64 × Int64 × Int32 × Int32 × (Nat → Int32) := F_TR_number_c121 t0_0 t0_1 t0_2 t0_3 t0_4 t0_5 t0_6 t0_7 t0_8 t0_9 t0_10 t0_11 t0_12 t0_13 t1_0 t2_0 ((F_TR_digits (0 : Int32) t0_0 t0_1 (0 : Int32) t0_3 t0_4 t0_5 t0_6 (0 : Int64) t0_8 t0_9 t0_10 t0_11 t0_12 t0_13 t1_0 t2_0) : (Int32 × Int32 × Int32 × Int32 × Int32 × Int32 × Int32 × Int32 × Int64 × Int32 × Int32 × Int64 × Int64 × Int32 × Int32 × (Nat → Int32)))
def F_TR_number_c106 (t0_0 : Int32) (t0_1 : Int32) (t0_2 : Int32) (t0_3 : Int32) (t0_4 : Int32) (t0_5 : Int32) (t0_6 : Int32) (t0_7 : Int64) (t0_8 : Int32) (t0_9 : Int32) (t0_10 : Int64) (t0_11 : Int64) (t0_12 : Int32) (t0_13 : Int32) (t1_0 : (Nat → Int32)) (t2_0 : (Nat → Int32)) (p367 : (Int32 × Int32 × Int32 × Int32 × Int32 × Int32 × Int32 × Int32 × Int64 × Int32 × Int32 × Int64 × Int64 × Int32 × Int32 × (Nat → Int32))) (f335 : (Nat → Int32)) (p454 : (Int32 × Int32 × Int32 × Int32 × Int32 × Int32 × Int32 × Int32 × Int64 × Int32 × Int32 × Int64 × Int64 × Int32 × Int32)) : Int32 × Int32 × Int32 × Int32 × Int32 × Int32 × Int32 × Int32 × Int64 × Int32 × Int32 × Int64 × Int64 × Int32 × Int32 × (Nat → Int32) := if (p454.1 : Int32) = (0 : Int32) then (((0 : Int32), (p454.2.1 : Int32), (p454.2.2.1 : Int32), (p454.2.2.2.1 : Int32), (p454.2.2.2.2.1 : Int32), (p454.2.2.2.2.2.1 : Int32), (p454.2.2.2.2.2.2.1 : Int32), (p454.2.2.2.2.2.2.2.1 : Int32), (p454.2.2.2.2.2.2.2.2.1 : Int64), (p454.2.2.2.2.2.2.2.2.2.1 : Int32), (p454.2.2.2.2.2.2.2.2.2.2.1 : Int32), (p454.2.2.2.2.2.2.2.2.2.2.2.1 : Int64), (p454.2.2.2.2.2.2.2.2.2.2.2.2.1 : Int64), (p454.2.2.2.2.2.2.2.2.2.2.2.2.2.1 : Int32), (p454.2.2.2.2.2.2.2.2.2.2.2.2.2.2 : Int32), f335)) else (F_TR_number_J159 t0_0 t0_1 t0_2 t0_3 t0_4 t0_5 t0_6 t0_7 t0_8 t0_9 t0_10 t0_11 t0_12 t0_13 t1_0 t2_0 (p454.2.1 : Int32) (p454.2.2.1 : Int32) (p454.2.2.2.1 : Int32) (p454.2.2.2.2.1 : Int32) (p454.2.2.2.2.2.1 : Int32) (p454.2.2.2.2.2.2.1 : Int32) (p454.2.2.2.2.2.2.2.1 : Int32) (p454.2.2.2.2.2.2.2.2.1 : Int64) (p454.2.2.2.2.2.2.2.2.2.1 : Int32) (p454.2.2.2.2.2.2.2.2.2.2.1 : Int32) (p454.2.2.2.2.2.2.2.2.2.2.2.1 : Int64) (p454.2.2.2.2.2.2.2.2.2.2.2.2.1 : Int64) (p454.2.2.2.2.2.2.2.2.2.2.2.2.2.1 : Int32) (p454.2.2.2.2.2.2.2.2.2.2.2.2.2.2 : Int32) f335)
def F_TR_number_c76 (t0_0 : Int32) (t0_1 : Int32) (t0_2 : Int32) (t0_3 : Int32) (t0_4 : Int32) (t0_5 : Int32) (t0_6 : Int32) (t0_7 : Int64) (t0_8 : Int32) (t0_9 : Int32) (t0_10 : Int64) (t0_11 : Int64) (t0_12 : Int32) (t0_13 : Int32) (t1_0 : (Nat → Int32)) (t2_0 : (Nat → Int32)) (p367 : (Int32 × Int32 × Int32 × Int32 × Int32 × Int32 × Int32 × Int32 × Int64 × Int32 × Int32 × Int64 × Int64 × Int32 × Int32 × (Nat → Int32))) : Int32 × Int32 × Int32 × Int32 × Int32 × Int32 × Int32 × Int32 × Int64 × Int32 × Int32 × Int64 × Int64 × Int32 × Int32 × (Nat → Int32) := if (p367.1 : Int32) = (0 : Int32) then (((0 : Int32), (p367.2.1 : Int32), (p367.2.2.1 : Int32), (p367.2.2.2.1 : Int32), (p367.2.2.2.2.1 : Int32), (p367.2.2.2.2.2.1 : Int32), (p367.2.2.2.2.2.2.1 : Int32), (p367.2.2.2.2.2.2.2.1 : Int32), (p367.2.2.2.2.2.2.2.2.1 : Int64), (p367.2.2.2.2.2.2.2.2.2.1 : Int32), (p367.2.2.2.2.2.2.2.2.2.2.1 : Int32), (p367.2.2.2.2.2.2.2.2.2.2.2.1 : Int64), (p367.2.2.2.2.2.2.2.2.2.2.2.2.1 : Int64), (p367.2.2.2.2.2.2.2.2.2.2.2.2.2.1 : Int32), (p367.2.2.2.2.2.2.2.2.2.2.2.2.2.2.1 : Int32), (p367.2.2.2.2.2.2.2.2.2.2.2.2.2.2.2 : (Nat → Int32)))) else (if ((F_TR_isAt (112 : Int32) (80 : Int32) (p367.2.1 : Int32) (p367.2.2.1 : Int32) (p367.2.2.2.1 : Int32) (p367.2.2.2.2.1 : Int32) (p367.2.2.2.2.2.1 : Int32) (p367.2.2.2.2.2.2.1 : Int32) (p367.2.2.2.2.2.2.2.1 : Int32) (p367.2.2.2.2.2.2.2.2.1 : Int64) (p367.2.2.2.2.2.2.2.2.2.1 : Int32) (p367.2.2.2.2.2.2.2.2.2.2.1 : Int32) (p367.2.2.2.2.2.2.2.2.2.2.2.1 : Int64) (p367.2.2.2.2.2.2.2.2.2.2.2.2.1 : Int64) (p367.2.2.2.2.2.2.2.2.2.2.2.2.2.1 : Int32) (p367.2.2.2.2.2.2.2.2.2.2.2.2.2.2.1 : Int32) t1_0) : Int32) = (0 : Int32) then (((0 : Int32), (p367.2.1 : Int32), (p367.2.2.1 : Int32), (p367.2.2.2.1 : Int32), (p367.2.2.2.2.1 : Int32), (p367.2.2.2.2.2.1 : Int32), (p367.2.2.2.2.2.2.1 : Int32), (p367.2.2.2.2.2.2.2.1 : Int32), (p367.2.2.2.2.2.2.2.2.1 : Int64), (p367.2.2.2.2.2.2.2.2.2.1 : Int32), (p367.2.2.2.2.2.2.2.2.2.2.1 : Int32), (p367.2.2.2.2.2.2.2.2.2.2.2.1 : Int64), (p367.2.2.2.2.2.2.2.2.2.2.2.2.1 : Int64), (p367.2.2.2.2.2.2.2.2.2.2.2.2.2.1 : Int32), (p367.2.2.2.2.2.2.2.2.2.2.2.2.2.2.1 : Int32), (p367.2.2.2.2.2.2.2.2.2.2.2.2.2.2.2 : (Nat → Int32)))) else (F_TR_number_c106 t0_0 t0_1 t0_2 t0_3 t0_4 t0_5 t0_6 t0_7 t0_8 t0_9 t0_10 t0_11 t0_12 t0_13 t1_0 t2_0 p367 (p367.2.2.2.2.2.2.2.2.2.2.2.2.2.2.2 : (Nat → Int32)) ((F_TR_power (p367.2.1 : Int32) (p367.2.2.1 : Int32) (p367.2.2.2.1 : Int32) ((p367.2.2.2.2.1 : Int32) + 1 : Int32) (p367.2.2.2.2.2.1 : Int32) (p367.2.2.2.2.2.2.1 : Int32) (p367.2.2.2.2.2.2.2.1 : Int32) (p367.2.2.2.2.2.2.2.2.1 : Int64) (p367.2.2.2.2.2.2.2.2.2.1 : Int32) (p367.2.2.2.2.2.2.2.2.2.2.1 : Int32) (p367.2.2.2.2.2.2.2.2.2.2.2.1 : Int64) (p367.2.2.2.2.2.2.2.2.2.2.2.2.1 : Int64) (p367.2.2.2.2.2.2.2.2.2.2.2.2.2.1 : Int32) (p367.2.2.2.2.2.2.2.2.2.2.2.2.2.2.1 : Int32) t1_0) : (Int32 × Int32 × Int32 × Int32 × Int32 × Int32 × Int32 × Int32 × Int64 × Int32 × Int32 × Int64 × Int64 × Int32 × Int32))))
def F_TR_number_J59 (t0_0 : Int32) (t0_1 : Int32) (t0_2 : Int32) (t0_3 : Int32) (t0_4 : Int32) (t0_5 : Int32) (t0_6 : Int32) (t0_7 : Int64) (t0_8 : Int32) (t0_9 : Int32) (t0_10 : Int64) (t0_11 : Int64) (t0_12 : Int32) (t0_13 : Int32) (t1_0 : (Nat → Int32)) (t2_0 : (Nat → Int32)) : Int32 × Int32 × Int32 × Int32 × Int32 × Int32 × Int32 × Int32 × Int64 × Int32 × Int32 × Int64 × Int64 × Int32 × Int32 × (Nat → Int32) := F_TR_number_c76 t0_0 t0_1 t0_2 t0_3 t0_4 t0_5 t0_6 t0_7 t0_8 t0_9 t0_10 t0_11 t0_12 t0_13 t1_0 t2_0 ((F_TR_digits (1 : Int32) t0_0 t0_1 (1 : Int32) (t0_3 + 2 : Int32) t0_4 t0_5 t0_6 (0 : Int64) t0_8 t0_9 t0_10 t0_11 t0_12 t0_13 t1_0 t2_0) : (Int32 × Int32 × Int32 × Int32 × Int32 × Int32 × Int32 × Int32 × Int64 × Int32 × Int32 × Int64 × Int64 × Int32 × Int32 × (Nat → Int32)))
def F_TR_number (t0_0 : Int32) (t0_1 : Int32) (t0_2 : Int32) (t0_3 : Int32) (t0_4 : Int32) (t0_5 : Int32) (t0_6 : Int32) (t0_7 : Int64) (t0_8 : Int32) (t0_9 : Int32) (t0_10 : Int64) (t0_11 : Int64) (t0_12 : Int32) (t0_13 : Int32) (t1_0 : (Nat → Int32)) (t2_0 : (Nat → Int32)) : Int32 × Int32 × Int32 × Int32 × Int32 × Int32 × Int32 × Int32 × Int64 × Int32 × Int32 × Int64 × Int64 × Int32 × Int32 × (Nat → Int32) := if ((F_TR_here t0_0 t0_1 t0_2 t0_3 t0_4 t0_5 t0_6 (0 : Int64) t0_8 t0_9 t0_10 t0_11 t0_12 t0_13 t1_0) : Int32) = (48 : Int32) then (if t0_1 ≤ (t0_3 + 1 : Int32) then (F_TR_number_J114 t0_0 t0_1 t0_2 t0_3 t0_4 t0_5 t0_6 t0_7 t0_8 t0_9 t0_10 t0_11 t0_12 t0_13 t1_0 t2_0) else (if (t1_0 (t0_3 + 1 : Int32).toNatClampNeg : Int32) = (120 : Int32) then (F_TR_number_J59 t0_0 t0_1 t0_2 t0_3 t0_4 t0_5 t0_6 t0_7 t0_8 t0_9 t0_10 t0_11 t0_12 t0_13 t1_0 t2_0) else (if (t1_0 (t0_3 + 1 : Int32).toNatClampNeg : Int32) = (88 : Int32) then (F_TR_number_J59 t0_0 t0_1 t0_2 t0_3 t0_4 t0_5 t0_6 t0_7 t0_8 t0_9 t0_10 t0_11 t0_12 t0_13 t1_0 t2_0) else (F_TR_number_J114 t0_0 t0_1 t0_2 t0_3 t0_4 t0_5 t0_6 t0_7 t0_8 t0_9 t0_10 t0_11 t0_12 t0_13 t1_0 t2_0)))) else (F_TR_number_J114 t0_0 t0_1 t0_2 t0_3 t0_4 t0_5 t0_6 t0_7 t0_8 t0_9 t0_10 t0_11 t0_12 t0_13 t1_0 t2_0)
def S_TR_number_J159 (t0_0 : Int32) (t0_1 : Int32) (t0_2 : Int32) (t0_3 : Int32) (t0_4 : Int32) (t0_5 : Int32) (t0_6 : Int32) (t0_7 : Int64) (t0_8 : Int32) (t0_9 : Int32) (t0_10 : Int64) (t0_11 : Int64) (t0_12 : Int32) (t0_13 : Int32) (t1_0 : (Nat → Int32)) (t2_0 : (Nat → Int32)) (lx33 : Int32) (lx34 : Int32) (lx35 : Int32) (lx36 : Int32) (lx37 : Int32) (lx38 : Int32) (lx39 : Int32) (lx40 : Int64) (lx41 : Int32) (lx42 : Int32) (lx43 : Int64) (lx44 : Int64) (lx45 : Int32) (lx46 : Int32) (lx47 : (Nat → Int32)) : Prop := (True ∧ S_TR_isAt (100 : Int32) (68 : Int32) lx33 lx34 lx35 lx36 lx37 lx38 lx39 lx40 lx41 lx42 lx43 lx44 lx45 lx46 t1_0) ∧ (if ((F_TR_isAt (100 : Int32) (68 : Int32) lx33 lx34 lx35 lx36 lx37 lx38 lx39 lx40 lx41 lx42 lx43 lx44 lx45 lx46 t1_0) : Int32) = (0 : Int32) then ((True ∧ S_TR_isAt (102 : Int32) (70 : Int32) lx33 lx34 lx35 lx36 lx37 lx38 lx39 lx40 lx41 lx42 lx43 lx44 lx45 lx46 t1_0) ∧ (if ((F_TR_isAt (102 : Int32) (70 : Int32) lx33 lx34 lx35 lx36 lx37 lx38 lx39 lx40 lx41 lx42 lx43 lx44 lx45 lx46 t1_0) : Int32) = (0 : Int32) then (True) else (True))) else (True))
def S_TR_number_c151 (t0_0 : Int32) (t0_1 : Int32) (t0_2 : Int32) (t0_3 : Int32) (t0_4 : Int32) (t0_5 : Int32) (t0_6 : Int32) (t0_7 : Int64) (t0_8 : Int32) (t0_9 : Int32) (t0_10 : Int64) (t0_11 : Int64) (t0_12 : Int32) (t0_13 : Int32) (t1_0 : (Nat → Int32)) (t2_0 : (Nat → Int32)) (p174 : (Int32 × Int32 × Int32 × Int32 × Int32 × Int32 × Int32 × Int32 × Int64 × Int32 × Int32 × Int64 × Int64 × Int32 × Int32 × (Nat → Int32))) (f142 : (Nat → Int32)) (p261 : (Int32 × Int32 × Int32 × Int32 × Int32 × Int32 × Int32 × Int32 × Int64 × Int32 × Int32 × Int64 × Int64 × Int32 × Int32)) : Prop := if (p261.1 : Int32) = (0 : Int32) then (True) else (S_TR_number_J159 t0_0 t0_1 t0_2 t0_3 t0_4 t0_5 t0_6 t0_7 t0_8 t0_9 t0_10 t0_11 t0_12 t0_13 t1_0 t2_0 (p261.2.1 : Int32) (p261.2.2.1 : Int32) (p261.2.2.2.1 : Int32) (p261.2.2.2.2.1 : Int32) (p261.2.2.2.2.2.1 : Int32) (p261.2.2.2.2.2.2.1 : Int32) (p261.2.2.2.2.2.2.2.1 : Int32) (p261.2.2.2.2.2.2.2.2.1 : Int64) (p261.2.2.2.2.2.2.2.2.2.1 : Int32) (p261.2.2.2.2.2.2.2.2.2.2.1 : Int32) (p261.2.2.2.2.2.2.2.2.2.2.2.1 : Int64) (p261.2.2.2.2.2.2.2.2.2.2.2.2.1 : Int64) (p261.2.2.2.2.2.2.2.2.2.2.2.2.2.1 : Int32) (p261.2.2.2.2.2.2.2.2.2.2.2.2.2.2 : Int32) f142)
def S_TR_number_c121 (t0_0 : Int32) (t0_1 : Int32) (t0_2 : Int32) (t0_3 : Int32) (t0_4 : Int32) (t0_5 : Int32) (t0_6 : Int32) (t0_7 : Int64) (t0_8 : Int32) (t0_9 : Int32) (t0_10 : Int64) (t0_11 : Int64) (t0_12 : Int32) (t0_13 : Int32) (t1_0 : (Nat → Int32)) (t2_0 : (Nat → Int32)) (p174 : (Int32 × Int32 × Int32 × Int32 × Int32 × Int32 × Int32 × Int32 × Int64 × Int32 × Int32 × Int64 × Int64 × Int32 × Int32 × (Nat → Int32))) : Prop := if (p174.1 : Int32) = (0 : Int32) then (True) else ((True ∧ S_TR_isAt (101 : Int32) (69 : Int32) (p174.2.1 : Int32) (p174.2.2.1 : Int32) (p174.2.2.2.1 : Int32) (p174.2.2.2.2.1 : Int32) (p174.2.2.2.2.2.1 : Int32) (p174.2.2.2.2.2.2.1 : Int32) (p174.2.2.2.2.2.2.2.1 : Int32) (p174.2.2.2.2.2.2.2.2.1 : Int64) (p174.2.2.2.2.2.2.2.2.2.1 : Int32) (p174.2.2.2.2.2.2.2.2.2.2.1 : Int32) (p174.2.2.2.2.2.2.2.2.2.2.2.1 : Int64) (p174.2.2.2.2.2.2.2.2.2.2.2.2.1 : Int64) (p174.2.2.2.2.2.2.2.2.2.2.2.2.2.1 : Int32) (p174.2.2.2.2.2.2.2.2.2.2.2.2.2.2.1 : Int32) t1_0) ∧ (if ((F_TR_isAt (101 : Int32) (69 : Int32) (p174.2.1 : Int32) (p174.2.2.1 : Int32) (p174.2.2.2.1 : Int32) (p174.2.2.2.2.1 : Int32) (p174.2.2.2.2.2.1 : Int32) (p174.2.2.2.2.2.2.1 : Int32) (p174.2.2.2.2.2.2.2.1 : Int32) (p174.2.2.2.2.2.2.2.2.1 : Int64) (p174.2.2.2.2.2.2.2.2.2.1 : Int32) (p174.2.2.2.2.2.2.2.2.2.2.1 : Int32) (p174.2.2.2.2.2.2.2.2.2.2.2.1 : Int64) (p174.2.2.2.2.2.2.2.2.2.2.2.2.1 : Int64) (p174.2.2.2.2.2.2.2.2.2.2.2.2.2.1 : Int32) (p174.2.2.2.2.2.2.2.2.2.2.2.2.2.2.1 : Int32) t1_0) : Int32) = (0 : Int32) then (S_TR_number_J159 t0_0 t0_1 t0_2 t0_3 t0_4 t0_5 t0_6 t0_7 t0_8 t0_9 t0_10 t0_11 t0_12 t0_13 t1_0 t2_0 (p174.2.1 : Int32) (p174.2.2.1 : Int32) (p174.2.2.2.1 : Int32) (p174.2.2.2.2.1 : Int32) (p174.2.2.2.2.2.1 : Int32) (p174.2.2.2.2.2.2.1 : Int32) (p174.2.2.2.2.2.2.2.1 : Int32) (p174.2.2.2.2.2.2.2.2.1 : Int64) (p174.2.2.2.2.2.2.2.2.2.1 : Int32) (p174.2.2.2.2.2.2.2.2.2.2.1 : Int32) (p174.2.2.2.2.2.2.2.2.2.2.2.1 : Int64) (p174.2.2.2.2.2.2.2.2.2.2.2.2.1 : Int64) (p174.2.2.2.2.2.2.2.2.2.2.2.2.2.1 : Int32) (p174.2.2.2.2.2.2.2.2.2.2.2.2.2.2.1 : Int32) (p174.2.2.2.2.2.2.2.2.2.2.2.2.2.2.2 : (Nat → Int32))) else ((True ∧ S_TR_power (p174.2.1 : Int32) (p174.2.2.1 : Int32) (p174.2.2.2.1 : Int32) ((p174.2.2.2.2.1 : Int32) + 1 : Int32) (p174.2.2.2.2.2.1 : Int32) (p174.2.2.2.2.2.2.1 : Int32) (p174.2.2.2.2.2.2.2.1 : Int32) (p174.2.2.2.2.2.2.2.2.1 : Int64) (p174.2.2.2.2.2.2.2.2.2.1 : Int32) (p174.2.2.2.2.2.2.2.2.2.2.1 : Int32) (p174.2.2.2.2.2.2.2.2.2.2.2.1 : Int64) (p174.2.2.2.2.2.2.2.2.2.2.2.2.1 : Int64) (p174.2.2.2.2.2.2.2.2.2.2.2.2.2.1 : Int32) (p174.2.2.2.2.2.2.2.2.2.2.2.2.2.2.1 : Int32) t1_0) ∧ (S_TR_number_c151 t0_0 t0_1 t0_2 t0_3 t0_4 t0_5 t0_6 t0_7 t0_8 t0_9 t0_10 t0_11 t0_12 t0_13 t1_0 t2_0 p174 (p174.2.2.2.2.2.2.2.2.2.2.2.2.2.2.2 : (Nat → Int32)) ((F_TR_power (p174.2.1 : Int32) (p174.2.2.1 : Int32) (p174.2.2.2.1 : Int32) ((p174.2.2.2.2.1 : Int32) + 1 : Int32) (p174.2.2.2.2.2.1 : Int32) (p174.2.2.2.2.2.2.1 : Int32) (p174.2.2.2.2.2.2.2.1 : Int32) (p174.2.2.2.2.2.2.2.2.1 : Int64) (p174.2.2.2.2.2.2.2.2.2.1 : Int32) (p174.2.2.2.2.2.2.2.2.2.2.1 : Int32) (p174.2.2.2.2.2.2.2.2.2.2.2.1 : Int64) (p174.2.2.2.2.2.2.2.2.2.2.2.2.1 : Int64) (p174.2.2.2.2.2.2.2.2.2.2.2.2.2.1 : Int32) (p174.2.2.2.2.2.2.2.2.2.2.2.2.2.2.1 : Int32) t1_0) : (Int32 × Int32 × Int32 × Int32 × Int32 × Int32 × Int32 × Int32 × Int64 × Int32 × Int32 × Int64 × Int64 × Int32 × Int32))))))
def S_TR_number_J114 (t0_0 : Int32) (t0_1 : Int32) (t0_2 : Int32) (t0_3 : Int32) (t0_4 : Int32) (t0_5 : Int32) (t0_6 : Int32) (t0_7 : Int64) (t0_8 : Int32) (t0_9 : Int32) (t0_10 : Int64) (t0_11 : Int64) (t0_12 : Int32) (t0_13 : Int32) (t1_0 : (Nat → Int32)) (t2_0 : (Nat → Int32)) : Prop := (True ∧ S_TR_digits (0 : Int32) t0_0 t0_1 (0 : Int32) t0_3 t0_4 t0_5 t0_6 (0 : Int64) t0_8 t0_9 t0_10 t0_11 t0_12 t0_13 t1_0 t2_0) ∧ (S_TR_number_c121 t0_0 t0_1 t0_2 t0_3 t0_4 t0_5 t0_6 t0_7 t0_8 t0_9 t0_10 t0_11 t0_12 t0_13 t1_0 t2_0 ((F_TR_digits (0 : Int32) t0_0 t0_1 (0 : Int32) t0_3 t0_4 t0_5 t0_6 (0 : Int64) t0_8 t0_9 t0_10 t0_11 t0_12 t0_13 t1_0 t2_0) : (Int32 × Int32 × Int32 × Int32 × Int32 × Int32 × Int32 × Int32 × Int64 × Int32 × Int32 × Int64 × Int64 × Int32 × Int32 × (Nat → Int32))))
def S_TR_number_c106 (t0_0 : Int32) (t0_1 : Int32) (t0_2 : Int32) (t0_3 : Int32) (t0_4 : Int32) (t0_5 : Int32) (t0_6 : Int32) (t0_7 : Int64) (t0_8 : Int32) (t0_9 : Int32) (t0_10 : Int64) (t0_11 : Int64) (t0_12 : Int32) (t0_13 : Int32) (t1_0 : (Nat → Int32)) (t2_0 : (Nat → Int32)) (p367 : (Int32 × Int32 × Int32 × Int32 × Int32 × Int32 × Int32 × Int32 × Int64 × Int32 × Int32 × Int64 × Int64 × Int32 × Int32 × (Nat → Int32))) (f335 : (Nat → Int32)) (p454 : (Int32 × Int32 × Int32 × Int32 × Int32 × Int32 × Int32 × Int32 × Int64 × Int32 × Int32 × Int64 × Int64 × Int32 × Int32)) : Prop := if (p454.1 : Int32) = (0 : Int32) then (True) else (S_TR_number_J159 t0_0 t0_1 t0_2 t0_3 t0_4 t0_5 t0_6 t0_7 t0_8 t0_9 t0_10 t0_11 t0_12 t0_13 t1_0 t2_0 (p454.2.1 : Int32) (p454.2.2.1 : Int32) (p454.2.2.2.1 : Int32) (p454.2.2.2.2.1 : Int32) (p454.2.2.2.2.2.1 : Int32) (p454.2.2.2.2.2.2.1 : Int32) (p454.2.2.2.2.2.2.2.1 : Int32) (p454.2.2.2.2.2.2.2.2.1 : Int64) (p454.2.2.2.2.2.2.2.2.2.1 : Int32) (p454.2.2.2.2.2.2.2.2.2.2.1 : Int32) (p454.2.2.2.2.2.2.2.2.2.2.2.1 : Int64) (p454.2.2.2.2.2.2.2.2.2.2.2.2.1 : Int64) (p454.2.2.2.2.2.2.2.2.2.2.2.2.2.1 : Int32) (p454.2.2.2.2.2.2.2.2.2.2.2.2.2.2 : Int32) f335)
def S_TR_number_c76 (t0_0 : Int32) (t0_1 : Int32) (t0_2 : Int32) (t0_3 : Int32) (t0_4 : Int32) (t0_5 : Int32) (t0_6 : Int32) (t0_7 : Int64) (t0_8 : Int32) (t0_9 : Int32) (t0_10 : Int64) (t0_11 : Int64) (t0_12 : Int32) (t0_13 : Int32) (t1_0 : (Nat → Int32)) (t2_0 : (Nat → Int32)) (p367 : (Int32 × Int32 × Int32 × Int32 × Int32 × Int32 × Int32 × Int32 × Int64 × Int32 × Int32 × Int64 × Int64 × Int32 × Int32 × (Nat → Int32))) : Prop := if (p367.1 : Int32) = (0 : Int32) then (True) else ((True ∧ S_TR_isAt (112 : Int32) (80 : Int32) (p367.2.1 : Int32) (p367.2.2.1 : Int32) (p367.2.2.2.1 : Int32) (p367.2.2.2.2.1 : Int32) (p367.2.2.2.2.2.1 : Int32) (p367.2.2.2.2.2.2.1 : Int32) (p367.2.2.2.2.2.2.2.1 : Int32) (p367.2.2.2.2.2.2.2.2.1 : Int64) (p367.2.2.2.2.2.2.2.2.2.1 : Int32) (p367.2.2.2.2.2.2.2.2.2.2.1 : Int32) (p367.2.2.2.2.2.2.2.2.2.2.2.1 : Int64) (p367.2.2.2.2.2.2.2.2.2.2.2.2.1 : Int64) (p367.2.2.2.2.2.2.2.2.2.2.2.2.2.1 : Int32) (p367.2.2.2.2.2.2.2.2.2.2.2.2.2.2.1 : Int32) t1_0) ∧ (if ((F_TR_isAt (112 : Int32) (80 : Int32) (p367.2.1 : Int32) (p367.2.2.1 : Int32) (p367.2.2.2.1 : Int32) (p367.2.2.2.2.1 : Int32) (p367.2.2.2.2.2.1 : Int32) (p367.2.2.2.2.2.2.1 : Int32) (p367.2.2.2.2.2.2.2.1 : Int32) (p367.2.2.2.2.2.2.2.2.1 : Int64) (p367.2.2.2.2.2.2.2.2.2.1 : Int32) (p367.2.2.2.2.2.2.2.2.2.2.1 : Int32) (p367.2.2.2.2.2.2.2.2.2.2.2.1 : Int64) (p367.2.2.2.2.2.2.2.2.2.2.2.2.1 : Int64) (p367.2.2.2.2.2.2.2.2.2.2.2.2.2.1 : Int32) (p367.2.2.2.2.2.2.2.2.2.2.2.2.2.2.1 : Int32) t1_0) : Int32) = (0 : Int32) then (True) else ((True ∧ S_TR_power (p367.2.1 : Int32) (p367.2.2.1 : Int32) (p367.2.2.2.1 : Int32) ((p367.2.2.2.2.1 : Int32) + 1 : Int32) (p367.2.2.2.2.2.1 : Int32) (p367.2.2.2.2.2.2.1 : Int32) (p367.2.2.2.2.2.2.2.1 : Int32) (p367.2.2.2.2.2.2.2.2.1 : Int64) (p367.2.2.2.2.2.2.2.2.2.1 : Int32) (p367.2.2.2.2.2.2.2.2.2.2.1 : Int32) (p367.2.2.2.2.2.2.2.2.2.2.2.1 : Int64) (p367.2.2.2.2.2.2.2.2.2.2.2.2.1 : Int64) (p367.2.2.2.2.2.2.2.2.2.2.2.2.2.1 : Int32) (p367.2.2.2.2.2.2.2.2.2.2.2.2.2.2.1 : Int32) t1_0) ∧ (S_TR_number_c106 t0_0 t0_1 t0_2 t0_3 t0_4 t0_5 t0_6 t0_7 t0_8 t0_9 t0_10 t0_11 t0_12 t0_13 t1_0 t2_0 p367 (p367.2.2.2.2.2.2.2.2.2.2.2.2.2.2.2 : (Nat → Int32)) ((F_TR_power (p367.2.1 : Int32) (p367.2.2.1 : Int32) (p367.2.2.2.1 : Int32) ((p367.2.2.2.2.1 : Int32) + 1 : Int32) (p367.2.2.2.2.2.1 : Int32) (p367.2.2.2.2.2.2.1 : Int32) (p367.2.2.2.2.2.2.2.1 : Int32) (p367.2.2.2.2.2.2.2.2.1 : Int64) (p367.2.2.2.2.2.2.2.2.2.1 : Int32) (p367.2.2.2.2.2.2.2.2.2.2.1 : Int32) (p367.2.2.2.2.2.2.2.2.2.2.2.1 : Int64) (p367.2.2.2.2.2.2.2.2.2.2.2.2.1 : Int64) (p367.2.2.2.2.2.2.2.2.2.2.2.2.2.1 : Int32) (p367.2.2.2.2.2.2.2.2.2.2.2.2.2.2.1 : Int32) t1_0) : (Int32 × Int32 × Int32 × Int32 × Int32 × Int32 × Int32 × Int32 × Int64 × Int32 × Int32 × Int64 × Int64 × Int32 × Int32))))))
def S_TR_number_J59 (t0_0 : Int32) (t0_1 : Int32) (t0_2 : Int32) (t0_3 : Int32) (t0_4 : Int32) (t0_5 : Int32) (t0_6 : Int32) (t0_7 : Int64) (t0_8 : Int32) (t0_9 : Int32) (t0_10 : Int64) (t0_11 : Int64) (t0_12 : Int32) (t0_13 : Int32) (t1_0 : (Nat → Int32)) (t2_0 : (Nat → Int32)) : Prop := (True ∧ S_TR_digits (1 : Int32) t0_0 t0_1 (1 : Int32) (t0_3 + 2 : Int32) t0_4 t0_5 t0_6 (0 : Int64) t0_8 t0_9 t0_10 t0_11 t0_12 t0_13 t1_0 t2_0) ∧ (S_TR_number_c76 t0_0 t0_1 t0_2 t0_3 t0_4 t0_5 t0_6 t0_7 t0_8 t0_9 t0_10 t0_11 t0_12 t0_13 t1_0 t2_0 ((F_TR_digits (1 : Int32) t0_0 t0_1 (1 : Int32) (t0_3 + 2 : Int32) t0_4 t0_5 t0_6 (0 : Int64) t0_8 t0_9 t0_10 t0_11 t0_12 t0_13 t1_0 t2_0) : (Int32 × Int32 × Int32 × Int32 × Int32 × Int32 × Int32 × Int32 × Int64 × Int32 × Int32 × Int64 × Int64 × Int32 × Int32 × (Nat → Int32))))
def S_TR_number (t0_0 : Int32) (t0_1 : Int32) (t0_2 : Int32) (t0_3 : Int32) (t0_4 : Int32) (t0_5 : Int32) (t0_6 : Int32) (t0_7 : Int64) (t0_8 : Int32) (t0_9 : Int32) (t0_10 : Int64) (t0_11 : Int64) (t0_12 : Int32) (t0_13 : Int32) (t1_0 : (Nat → Int32)) (t2_0 : (Nat → Int32)) : Prop := (True ∧ S_TR_here t0_0 t0_1 t0_2 t0_3 t0_4 t0_5 t0_6 (0 : Int64) t0_8 t0_9 t0_10 t0_11 t0_12 t0_13 t1_0) ∧ (if ((F_TR_here t0_0 t0_1 t0_2 t0_3 t0_4 t0_5 t0_6 (0 : Int64) t0_8 t0_9 t0_10 t0_11 t0_12 t0_13 t1_0) : Int32) = (48 : Int32) then (if t0_1 ≤ (t0_3 + 1 : Int32) then (S_TR_number_J114 t0_0 t0_1 t0_2 t0_3 t0_4 t0_5 t0_6 t0_7 t0_8 t0_9 t0_10 t0_11 t0_12 t0_13 t1_0 t2_0) else ((0 ≤ (t0_3 + 1 : Int32).toInt) ∧ (((t0_3 + 1 : Int32).toInt ≤ 4099) ∧ (if (t1_0 (t0_3 + 1 : Int32).toNatClampNeg : Int32) = (120 : Int32) then (S_TR_number_J59 t0_0 t0_1 t0_2 t0_3 t0_4 t0_5 t0_6 t0_7 t0_8 t0_9 t0_10 t0_11 t0_12 t0_13 t1_0 t2_0) else ((0 ≤ (t0_3 + 1 : Int32).toInt) ∧ (((t0_3 + 1 : Int32).toInt ≤ 4099) ∧ (if (t1_0 (t0_3 + 1 : Int32).toNatClampNeg : Int32) = (88 : Int32) then (S_TR_number_J59 t0_0 t0_1 t0_2 t0_3 t0_4 t0_5 t0_6 t0_7 t0_8 t0_9 t0_10 t0_11 t0_12 t0_13 t1_0 t2_0) else (S_TR_number_J114 t0_0 t0_1 t0_2 t0_3 t0_4 t0_5 t0_6 t0_7 t0_8 t0_9 t0_10 t0_11 t0_12 t0_13 t1_0 t2_0)))))))) else (S_TR_number_J114 t0_0 t0_1 t0_2 t0_3 t0_4 t0_5 t0_6 t0_7 t0_8 t0_9 t0_10 t0_11 t0_12 t0_13 t1_0 t2_0))
set_option maxRecDepth 100000 in
set_option maxHeartbeats 4000000 in
theorem X_TR_number (l : Launch) (D : va_G) (g : Nat → ClassId) (q : Nat → Nat) (ws : va_W) (hI : q_I (msh g q) q ws) (t0_0 : Int32) (t0_1 : Int32) (t0_2 : Int32) (t0_3 : Int32) (t0_4 : Int32) (t0_5 : Int32) (t0_6 : Int32) (t0_7 : Int64) (t0_8 : Int32) (t0_9 : Int32) (t0_10 : Int64) (t0_11 : Int64) (t0_12 : Int32) (t0_13 : Int32) (hT0 : ws[153]? = (some (q 153, .inr (16, [.int t0_0, .ref (q 154), .int t0_1, .int t0_2, .int t0_3, .int t0_4, .ref (q 155), .int t0_5, .int t0_6, .long t0_7, .ref (q 156), .int t0_8, .int t0_9, .long t0_10, .long t0_11, .int t0_12, .int t0_13])) : Option (Nat × va_E))) (t1_0 : (Nat → Int32)) (hT1 : ws[154]? = (some (q 154, .inl (g 0, (4100 : Int32).toNatClampNeg, .inl t1_0)) : Option (Nat × va_E))) (t2_0 : (Nat → Int32)) (hT2 : ws[155]? = (some (q 155, .inl (g 0, (4100 : Int32).toNatClampNeg, .inl t2_0)) : Option (Nat × va_E))) (hS : True ∧ S_TR_number t0_0 t0_1 t0_2 t0_3 t0_4 t0_5 t0_6 t0_7 t0_8 t0_9 t0_10 t0_11 t0_12 t0_13 t1_0 t2_0) : q_mI l y_TR_number prog_18_method_14_code 1 (.boolean) 4 0 0 D g [.ref (q 153)] ws (fun r u => q_I (msh g q) q u ∧ q_un ws u [153, 155] ∧ ∃ (u0_0 : Int32) (u0_1 : Int32) (u0_2 : Int32) (u0_3 : Int32) (u0_4 : Int32) (u0_5 : Int32) (u0_6 : Int32) (u0_7 : Int64) (u0_8 : Int32) (u0_9 : Int32) (u0_10 : Int64) (u0_11 : Int64) (u0_12 : Int32) (u0_13 : Int32) (u2_0 : (Nat → Int32)), u[153]? = (some (q 153, .inr (16, [.int u0_0, .ref (q 154), .int u0_1, .int u0_2, .int u0_3, .int u0_4, .ref (q 155), .int u0_5, .int u0_6, .long u0_7, .ref (q 156), .int u0_8, .int u0_9, .long u0_10, .long u0_11, .int u0_12, .int u0_13])) : Option (Nat × va_E)) ∧ u[155]? = (some (q 155, .inl (g 0, (4100 : Int32).toNatClampNeg, .inl u2_0)) : Option (Nat × va_E)) ∧ (0 ≤ r.toInt) ∧ (r.toInt ≤ 1) ∧ (0 ≤ u0_2.toInt) ∧ (u0_2.toInt ≤ 1) ∧ (u0_5.toInt ≤ 4100) ∧ (0 ≤ u0_6.toInt) ∧ (u0_6.toInt ≤ 4100) ∧ (t0_0.toInt ≤ u0_0.toInt) ∧ (u0_0.toInt ≤ t0_0.toInt) ∧ (t0_1.toInt ≤ u0_1.toInt) ∧ (u0_1.toInt ≤ t0_1.toInt) ∧ (t0_4.toInt ≤ u0_4.toInt) ∧ (u0_4.toInt ≤ t0_4.toInt) ∧ (t0_8.toInt ≤ u0_8.toInt) ∧ (u0_8.toInt ≤ t0_8.toInt) ∧ (t0_9.toInt ≤ u0_9.toInt) ∧ (u0_9.toInt ≤ t0_9.toInt) ∧ (t0_10.toInt ≤ u0_10.toInt) ∧ (u0_10.toInt ≤ t0_10.toInt) ∧ (t0_11.toInt ≤ u0_11.toInt) ∧ (u0_11.toInt ≤ t0_11.toInt) ∧ (t0_12.toInt ≤ u0_12.toInt) ∧ (u0_12.toInt ≤ t0_12.toInt) ∧ (t0_13.toInt ≤ u0_13.toInt) ∧ (u0_13.toInt ≤ t0_13.toInt) ∧ (r.toInt ≤ u0_5.toInt) ∧ (r, u0_0, u0_1, u0_2, u0_3, u0_4, u0_5, u0_6, u0_7, u0_8, u0_9, u0_10, u0_11, u0_12, u0_13, u2_0) = (F_TR_number t0_0 t0_1 t0_2 t0_3 t0_4 t0_5 t0_6 t0_7 t0_8 t0_9 t0_10 t0_11 t0_12 t0_13 t1_0 t2_0)) := by
  intro sz
  refine q_into (by decide) (Nat.le_of_ble_eq_true rfl) ?_
  intro p e s m below meth c ls hsz C0 V hl
  have hx := C0.1
  have hb := C0.2.1
  obtain ⟨btt0_1, hZ9⟩ := n_w153 hI hT0
  obtain ⟨btt0_4, btt0_13⟩ := hZ9
  replace btt0_1 : q_F (0 ≤ t0_1.toInt ∧ t0_1.toInt ≤ 4100) := btt0_1
  replace btt0_4 : q_F (0 ≤ t0_4.toInt ∧ t0_4.toInt ≤ 1) := btt0_4
  replace btt0_13 : q_F (0 ≤ t0_13.toInt ∧ t0_13.toInt ≤ 1) := btt0_13
  have hF : q_un ws ws [153, 155] := q_u0
  have hl : lv_has ls 1 [(0, .ref (q 153))] := hl
  refine lv_aload_n hx hb d_18_14_0 rfl (lv_at hl 0 rfl) ?_
  refine lv_lconst (v := 0) hx hb d_18_14_1 (by decide) ?_
  refine q_put (ci := 16) (j := 9) (v := .long 0) (ty := .long) C0 V i_TR o_TR n_TR rfl rfl hT0 (by decide) w_2149 rfl rfl rfl rfl (Nat.le_of_ble_eq_true rfl) d_18_14_2 (fun H locs w25 hu26 hT0 V => ?_)
  replace hT0 : w25[153]? = (some (q 153, .inr (16, [.int t0_0, .ref (q 154), .int t0_1, .int t0_2, .int t0_3, .int t0_4, .ref (q 155), .int t0_5, .int t0_6, .long 0, .ref (q 156), .int t0_8, .int t0_9, .long t0_10, .long t0_11, .int t0_12, .int t0_13])) : Option (Nat × va_E)) := hT0
  replace hI := n_p153 hI hu26 hT0 (by first | with_reducible exact q_fe btt0_1 | exact ⟨(by have t1 : 0 ≤ t0_1.toInt ∧ t0_1.toInt ≤ 4100 := btt0_1; omega), (by have t1 : 0 ≤ t0_1.toInt ∧ t0_1.toInt ≤ 4100 := btt0_1; omega)⟩) (by first | with_reducible exact q_fe btt0_4 | exact ⟨(by have t1 : 0 ≤ t0_4.toInt ∧ t0_4.toInt ≤ 1 := btt0_4; omega), (by have t1 : 0 ≤ t0_4.toInt ∧ t0_4.toInt ≤ 1 := btt0_4; omega)⟩) (by first | with_reducible exact q_fe btt0_13 | exact ⟨(by have t1 : 0 ≤ t0_13.toInt ∧ t0_13.toInt ≤ 1 := btt0_13; omega), (by have t1 : 0 ≤ t0_13.toInt ∧ t0_13.toInt ≤ 1 := btt0_13; omega)⟩)
  replace hT1 := (hu26 _ (by decide)).trans hT1
  replace hT2 := (hu26 _ (by decide)).trans hT2
  replace hF := q_us hF hu26 (by simp)
  refine lv_aload_n hx hb d_18_14_5 rfl (lv_at hl 0 rfl) ?_
  have ob27 : True ∧ S_TR_here t0_0 t0_1 t0_2 t0_3 t0_4 t0_5 t0_6 (0 : Int64) t0_8 t0_9 t0_10 t0_11 t0_12 t0_13 t1_0 := (by have h := hS; rw [S_TR_number.eq_1] at h; with_reducible exact h.2.1)
  refine q_goi V (q_runV (As := []) (rest := []) (d := 1) (mc := 0) (ms := 0) (ci := 16) C0 V rfl LV_TR_35 (X_TR_here l D g q w25   hI t0_0 t0_1 t0_2 t0_3 t0_4 t0_5 t0_6 0 t0_8 t0_9 t0_10 t0_11 t0_12 t0_13 hT0 t1_0 hT1 ob27 _) rfl rfl hT0 rfl hl.1 rfl (Nat.le_of_ble_eq_true rfl) ⟨by decide, by decide⟩ ⟨Nat.le_of_ble_eq_true rfl, Nat.le_of_ble_eq_true rfl⟩ d_18_14_6) (fun a30 u28 H locs hp29 V => ?_)
  obtain ⟨rfl, hE31⟩ := hp29
  have e32 : a30 = (F_TR_here t0_0 t0_1 t0_2 t0_3 t0_4 t0_5 t0_6 (0 : Int64) t0_8 t0_9 t0_10 t0_11 t0_12 t0_13 t1_0) := hE31
  refine lv_bipush (v := 48) hx hb d_18_14_9 (by decide) ?_
  refine q_join (X := Int32 × Int32 × Int32 × Int32 × Int32 × Int32 × Int32 × Int64 × Int32 × Int32 × Int64 × Int64 × Int32 × Int32 × (Nat → Int32)) (fun z H locs ls w76 => q_F (0 ≤ z.2.2.1.toInt) ∧ q_F (z.2.2.1.toInt ≤ 1) ∧ q_F (1 ≤ z.2.2.2.2.2.1.toInt) ∧ q_F (z.2.2.2.2.2.1.toInt ≤ 4100) ∧ q_F (0 ≤ z.2.2.2.2.2.2.1.toInt) ∧ q_F (z.2.2.2.2.2.2.1.toInt ≤ 4100) ∧ q_F (t0_0.toInt ≤ z.1.toInt) ∧ q_F (z.1.toInt ≤ t0_0.toInt) ∧ q_F (t0_1.toInt ≤ z.2.1.toInt) ∧ q_F (z.2.1.toInt ≤ t0_1.toInt) ∧ q_F (t0_4.toInt ≤ z.2.2.2.2.1.toInt) ∧ q_F (z.2.2.2.2.1.toInt ≤ t0_4.toInt) ∧ q_F (t0_8.toInt ≤ z.2.2.2.2.2.2.2.2.1.toInt) ∧ q_F (z.2.2.2.2.2.2.2.2.1.toInt ≤ t0_8.toInt) ∧ q_F (t0_9.toInt ≤ z.2.2.2.2.2.2.2.2.2.1.toInt) ∧ q_F (z.2.2.2.2.2.2.2.2.2.1.toInt ≤ t0_9.toInt) ∧ q_F (t0_10.toInt ≤ z.2.2.2.2.2.2.2.2.2.2.1.toInt) ∧ q_F (z.2.2.2.2.2.2.2.2.2.2.1.toInt ≤ t0_10.toInt) ∧ q_F (t0_11.toInt ≤ z.2.2.2.2.2.2.2.2.2.2.2.1.toInt) ∧ q_F (z.2.2.2.2.2.2.2.2.2.2.2.1.toInt ≤ t0_11.toInt) ∧ q_F (t0_12.toInt ≤ z.2.2.2.2.2.2.2.2.2.2.2.2.1.toInt) ∧ q_F (z.2.2.2.2.2.2.2.2.2.2.2.2.1.toInt ≤ t0_12.toInt) ∧ q_F (t0_13.toInt ≤ z.2.2.2.2.2.2.2.2.2.2.2.2.2.1.toInt) ∧ q_F (z.2.2.2.2.2.2.2.2.2.2.2.2.2.1.toInt ≤ t0_13.toInt) ∧ q_Wd D g (va_A ws sz) s w76 H locs ∧ lv_has ls 1 [(0, .ref (q 153))] ∧ q_I (msh g q) q w76 ∧ q_un ws w76 [153, 155] ∧ w76[153]? = (some (q 153, .inr (16, [.int z.1, .ref (q 154), .int z.2.1, .int z.2.2.1, .int z.2.2.2.1, .int z.2.2.2.2.1, .ref (q 155), .int z.2.2.2.2.2.1, .int z.2.2.2.2.2.2.1, .long z.2.2.2.2.2.2.2.1, .ref (q 156), .int z.2.2.2.2.2.2.2.2.1, .int z.2.2.2.2.2.2.2.2.2.1, .long z.2.2.2.2.2.2.2.2.2.2.1, .long z.2.2.2.2.2.2.2.2.2.2.2.1, .int z.2.2.2.2.2.2.2.2.2.2.2.2.1, .int z.2.2.2.2.2.2.2.2.2.2.2.2.2.1])) : Option (Nat × va_E)) ∧ w76[154]? = (some (q 154, .inl (g 0, (4100 : Int32).toNatClampNeg, .inl t1_0)) : Option (Nat × va_E)) ∧ w76[155]? = (some (q 155, .inl (g 0, (4100 : Int32).toNatClampNeg, .inl z.2.2.2.2.2.2.2.2.2.2.2.2.2.2)) : Option (Nat × va_E)) ∧ F_TR_number_J159 t0_0 t0_1 t0_2 t0_3 t0_4 t0_5 t0_6 t0_7 t0_8 t0_9 t0_10 t0_11 t0_12 t0_13 t1_0 t2_0 z.1 z.2.1 z.2.2.1 z.2.2.2.1 z.2.2.2.2.1 z.2.2.2.2.2.1 z.2.2.2.2.2.2.1 z.2.2.2.2.2.2.2.1 z.2.2.2.2.2.2.2.2.1 z.2.2.2.2.2.2.2.2.2.1 z.2.2.2.2.2.2.2.2.2.2.1 z.2.2.2.2.2.2.2.2.2.2.2.1 z.2.2.2.2.2.2.2.2.2.2.2.2.1 z.2.2.2.2.2.2.2.2.2.2.2.2.2.1 z.2.2.2.2.2.2.2.2.2.2.2.2.2.2 = (F_TR_number t0_0 t0_1 t0_2 t0_3 t0_4 t0_5 t0_6 t0_7 t0_8 t0_9 t0_10 t0_11 t0_12 t0_13 t1_0 t2_0) ∧ True ∧ S_TR_number_J159 t0_0 t0_1 t0_2 t0_3 t0_4 t0_5 t0_6 t0_7 t0_8 t0_9 t0_10 t0_11 t0_12 t0_13 t1_0 t2_0 z.1 z.2.1 z.2.2.1 z.2.2.2.1 z.2.2.2.2.1 z.2.2.2.2.2.1 z.2.2.2.2.2.2.1 z.2.2.2.2.2.2.2.1 z.2.2.2.2.2.2.2.2.1 z.2.2.2.2.2.2.2.2.2.1 z.2.2.2.2.2.2.2.2.2.2.1 z.2.2.2.2.2.2.2.2.2.2.2.1 z.2.2.2.2.2.2.2.2.2.2.2.2.1 z.2.2.2.2.2.2.2.2.2.2.2.2.2.1 z.2.2.2.2.2.2.2.2.2.2.2.2.2.2) (fun z => []) 159 0 0 ?_ ?_
  ·
    rintro ⟨lx33, lx34, lx35, lx36, lx37, lx38, lx39, lx40, lx41, lx42, lx43, lx44, lx45, lx46, lx47⟩ H locs ls w76 ⟨i52, i53, i54, i55, i56, i57, i58, i59, i60, i61, i62, i63, i64, i65, i66, i67, i68, i69, i70, i71, i72, i73, i74, i75, V, hl, hI, hF, hO48, hA49, hA50, hR77, hS78⟩
    replace i52 : q_F (0 ≤ lx35.toInt) := i52
    replace i53 : q_F (lx35.toInt ≤ 1) := i53
    replace i54 : q_F (1 ≤ lx38.toInt) := i54
    replace i55 : q_F (lx38.toInt ≤ 4100) := i55
    replace i56 : q_F (0 ≤ lx39.toInt) := i56
    replace i57 : q_F (lx39.toInt ≤ 4100) := i57
    replace i58 : q_F (t0_0.toInt ≤ lx33.toInt) := i58
    replace i59 : q_F (lx33.toInt ≤ t0_0.toInt) := i59
    replace i60 : q_F (t0_1.toInt ≤ lx34.toInt) := i60
    replace i61 : q_F (lx34.toInt ≤ t0_1.toInt) := i61
    replace i62 : q_F (t0_4.toInt ≤ lx37.toInt) := i62
    replace i63 : q_F (lx37.toInt ≤ t0_4.toInt) := i63
    replace i64 : q_F (t0_8.toInt ≤ lx41.toInt) := i64
    replace i65 : q_F (lx41.toInt ≤ t0_8.toInt) := i65
    replace i66 : q_F (t0_9.toInt ≤ lx42.toInt) := i66
    replace i67 : q_F (lx42.toInt ≤ t0_9.toInt) := i67
    replace i68 : q_F (t0_10.toInt ≤ lx43.toInt) := i68
    replace i69 : q_F (lx43.toInt ≤ t0_10.toInt) := i69
    replace i70 : q_F (t0_11.toInt ≤ lx44.toInt) := i70
    replace i71 : q_F (lx44.toInt ≤ t0_11.toInt) := i71
    replace i72 : q_F (t0_12.toInt ≤ lx45.toInt) := i72
    replace i73 : q_F (lx45.toInt ≤ t0_12.toInt) := i73
    replace i74 : q_F (t0_13.toInt ≤ lx46.toInt) := i74
    replace i75 : q_F (lx46.toInt ≤ t0_13.toInt) := i75
    replace hl : lv_has ls 1 [(0, .ref (q 153))] := hl
    replace hO48 : w76[153]? = (some (q 153, .inr (16, [.int lx33, .ref (q 154), .int lx34, .int lx35, .int lx36, .int lx37, .ref (q 155), .int lx38, .int lx39, .long lx40, .ref (q 156), .int lx41, .int lx42, .long lx43, .long lx44, .int lx45, .int lx46])) : Option (Nat × va_E)) := hO48
    replace hA49 : w76[154]? = (some (q 154, .inl (g 0, (4100 : Int32).toNatClampNeg, .inl t1_0)) : Option (Nat × va_E)) := hA49
    replace hA50 : w76[155]? = (some (q 155, .inl (g 0, (4100 : Int32).toNatClampNeg, .inl lx47)) : Option (Nat × va_E)) := hA50
    refine lv_aload_n hx hb d_18_14_159 rfl (lv_at hl 0 rfl) ?_
    refine lv_bipush (v := 100) hx hb d_18_14_160 (by decide) ?_
    refine lv_bipush (v := 68) hx hb d_18_14_162 (by decide) ?_
    have ob82 : True ∧ S_TR_isAt (100 : Int32) (68 : Int32) lx33 lx34 lx35 lx36 lx37 lx38 lx39 lx40 lx41 lx42 lx43 lx44 lx45 lx46 t1_0 := (by have h := hS78; rw [S_TR_number_J159.eq_1] at h; with_reducible exact h.2.1)
    refine q_goi V (q_runV (As := [.int 100, .int 68]) (rest := []) (d := 2) (mc := 0) (ms := 0) (ci := 16) C0 V rfl LV_TR_66 (X_TR_isAt l D g q w76  100 68 hI lx33 lx34 lx35 lx36 lx37 lx38 lx39 lx40 lx41 lx42 lx43 lx44 lx45 lx46 hO48 t1_0 hA49 ob82 _) rfl rfl hO48 rfl hl.1 rfl (Nat.le_of_ble_eq_true rfl) ⟨by decide, by decide⟩ ⟨Nat.le_of_ble_eq_true rfl, Nat.le_of_ble_eq_true rfl⟩ d_18_14_164) (fun a85 u83 H locs hp84 V => ?_)
    obtain ⟨rfl, b86, b87, hE88⟩ := hp84
    have e89 : a85 = (F_TR_isAt (100 : Int32) (68 : Int32) lx33 lx34 lx35 lx36 lx37 lx38 lx39 lx40 lx41 lx42 lx43 lx44 lx45 lx46 t1_0) := hE88
    clear b86
    clear b87
    refine lv_if_ne (tgt := 181) hx hb d_18_14_167 (by decide) (fun c90 => ?_) (fun c90 => ?_)
    ·
      refine lv_aload_n hx hb d_18_14_181 rfl (lv_at hl 0 rfl) ?_
      refine lv_dup hx hb d_18_14_182 rfl ?_
      refine q_get (ci := 16) (j := 4) (v := .int lx36) C0 V i_TR rfl rfl hO48 (by decide) w_2144 rfl d_18_14_183 ?_
      refine lv_iconst (v := 1) hx hb d_18_14_186 (by decide) ?_
      refine lv_iadd hx hb d_18_14_187 ?_
      obtain ⟨a92, e93⟩ := q_nm (lx36 + 1 : Int32)
      refine q_ti (v := a92) e93 ?_
      refine q_put (ci := 16) (j := 4) (v := .int a92) (ty := .int) C0 V i_TR o_TR n_TR rfl rfl hO48 (by decide) w_2144 rfl rfl rfl rfl (Nat.le_of_ble_eq_true rfl) d_18_14_188 (fun H locs w94 hu95 hO48 V => ?_)
      replace hO48 : w94[153]? = (some (q 153, .inr (16, [.int lx33, .ref (q 154), .int lx34, .int lx35, .int a92, .int lx37, .ref (q 155), .int lx38, .int lx39, .long lx40, .ref (q 156), .int lx41, .int lx42, .long lx43, .long lx44, .int lx45, .int lx46])) : Option (Nat × va_E)) := hO48
      replace hI := n_p153 hI hu95 hO48 ⟨(by have t1 : 0 ≤ t0_1.toInt ∧ t0_1.toInt ≤ 4100 := btt0_1; have t2 : t0_1.toInt ≤ lx34.toInt := i60; omega), (by have t1 : 0 ≤ t0_1.toInt ∧ t0_1.toInt ≤ 4100 := btt0_1; have t2 : lx34.toInt ≤ t0_1.toInt := i61; omega)⟩ ⟨(by have t1 : 0 ≤ t0_4.toInt ∧ t0_4.toInt ≤ 1 := btt0_4; have t2 : t0_4.toInt ≤ lx37.toInt := i62; omega), (by have t1 : 0 ≤ t0_4.toInt ∧ t0_4.toInt ≤ 1 := btt0_4; have t2 : lx37.toInt ≤ t0_4.toInt := i63; omega)⟩ ⟨(by have t1 : 0 ≤ t0_13.toInt ∧ t0_13.toInt ≤ 1 := btt0_13; have t2 : t0_13.toInt ≤ lx46.toInt := i74; omega), (by have t1 : 0 ≤ t0_13.toInt ∧ t0_13.toInt ≤ 1 := btt0_13; have t2 : lx46.toInt ≤ t0_13.toInt := i75; omega)⟩
      replace hA50 := (hu95 _ (by decide)).trans hA50
      replace hF := q_us hF hu95 (by simp)
      refine lv_iconst (v := 1) hx hb d_18_14_191 (by decide) ?_
      exact q_retz C0 V (by decide) (⟨hI, hF, lx33, lx34, lx35, a92, lx37, lx38, lx39, lx40, lx41, lx42, lx43, lx44, lx45, lx46, lx47, hO48, hA50, (show 0 ≤ (1 : Int32).toInt from (by have z16 : (1 : Int32).toInt = 1 := rfl; omega)), (show (1 : Int32).toInt ≤ 1 from (by have z16 : (1 : Int32).toInt = 1 := rfl; omega)), (show 0 ≤ lx35.toInt from (by have z16 : (1 : Int32).toInt = 1 := rfl; have t1 : 0 ≤ lx35.toInt := i52; omega)), (show lx35.toInt ≤ 1 from (by have z16 : (1 : Int32).toInt = 1 := rfl; have t1 : lx35.toInt ≤ 1 := i53; omega)), (show lx38.toInt ≤ 4100 from (by have z16 : (1 : Int32).toInt = 1 := rfl; have t1 : lx38.toInt ≤ 4100 := i55; omega)), (show 0 ≤ lx39.toInt from (by have z16 : (1 : Int32).toInt = 1 := rfl; have t1 : 0 ≤ lx39.toInt := i56; omega)), (show lx39.toInt ≤ 4100 from (by have z16 : (1 : Int32).toInt = 1 := rfl; have t1 : lx39.toInt ≤ 4100 := i57; omega)), (show t0_0.toInt ≤ lx33.toInt from (by have z16 : (1 : Int32).toInt = 1 := rfl; have t1 : t0_0.toInt ≤ lx33.toInt := i58; omega)), (show lx33.toInt ≤ t0_0.toInt from (by have z16 : (1 : Int32).toInt = 1 := rfl; have t1 : lx33.toInt ≤ t0_0.toInt := i59; omega)), (show t0_1.toInt ≤ lx34.toInt from (by have z16 : (1 : Int32).toInt = 1 := rfl; have t1 : t0_1.toInt ≤ lx34.toInt := i60; omega)), (show lx34.toInt ≤ t0_1.toInt from (by have z16 : (1 : Int32).toInt = 1 := rfl; have t1 : lx34.toInt ≤ t0_1.toInt := i61; omega)), (show t0_4.toInt ≤ lx37.toInt from (by have z16 : (1 : Int32).toInt = 1 := rfl; have t1 : t0_4.toInt ≤ lx37.toInt := i62; omega)), (show lx37.toInt ≤ t0_4.toInt from (by have z16 : (1 : Int32).toInt = 1 := rfl; have t1 : lx37.toInt ≤ t0_4.toInt := i63; omega)), (show t0_8.toInt ≤ lx41.toInt from (by have z16 : (1 : Int32).toInt = 1 := rfl; have t1 : t0_8.toInt ≤ lx41.toInt := i64; omega)), (show lx41.toInt ≤ t0_8.toInt from (by have z16 : (1 : Int32).toInt = 1 := rfl; have t1 : lx41.toInt ≤ t0_8.toInt := i65; omega)), (show t0_9.toInt ≤ lx42.toInt from (by have z16 : (1 : Int32).toInt = 1 := rfl; have t1 : t0_9.toInt ≤ lx42.toInt := i66; omega)), (show lx42.toInt ≤ t0_9.toInt from (by have z16 : (1 : Int32).toInt = 1 := rfl; have t1 : lx42.toInt ≤ t0_9.toInt := i67; omega)), (show t0_10.toInt ≤ lx43.toInt from (by have z16 : (1 : Int32).toInt = 1 := rfl; have t1 : t0_10.toInt ≤ lx43.toInt := i68; omega)), (show lx43.toInt ≤ t0_10.toInt from (by have z16 : (1 : Int32).toInt = 1 := rfl; have t1 : lx43.toInt ≤ t0_10.toInt := i69; omega)), (show t0_11.toInt ≤ lx44.toInt from (by have z16 : (1 : Int32).toInt = 1 := rfl; have t1 : t0_11.toInt ≤ lx44.toInt := i70; omega)), (show lx44.toInt ≤ t0_11.toInt from (by have z16 : (1 : Int32).toInt = 1 := rfl; have t1 : lx44.toInt ≤ t0_11.toInt := i71; omega)), (show t0_12.toInt ≤ lx45.toInt from (by have z16 : (1 : Int32).toInt = 1 := rfl; have t1 : t0_12.toInt ≤ lx45.toInt := i72; omega)), (show lx45.toInt ≤ t0_12.toInt from (by have z16 : (1 : Int32).toInt = 1 := rfl; have t1 : lx45.toInt ≤ t0_12.toInt := i73; omega)), (show t0_13.toInt ≤ lx46.toInt from (by have z16 : (1 : Int32).toInt = 1 := rfl; have t1 : t0_13.toInt ≤ lx46.toInt := i74; omega)), (show lx46.toInt ≤ t0_13.toInt from (by have z16 : (1 : Int32).toInt = 1 := rfl; have t1 : lx46.toInt ≤ t0_13.toInt := i75; omega)), (show (1 : Int32).toInt ≤ lx38.toInt from (by have z16 : (1 : Int32).toInt = 1 := rfl; have t1 : 1 ≤ lx38.toInt := i54; omega)), (show ((1 : Int32), lx33, lx34, lx35, a92, lx37, lx38, lx39, lx40, lx41, lx42, lx43, lx44, lx45, lx46, lx47) = (F_TR_number t0_0 t0_1 t0_2 t0_3 t0_4 t0_5 t0_6 t0_7 t0_8 t0_9 t0_10 t0_11 t0_12 t0_13 t1_0 t2_0) from Eq.trans (by have c90x := c90; rw [e89] at c90x; rw [← e93, F_TR_number_J159.eq_1, if_neg c90x]) hR77)⟩) d_18_14_192
    ·
      refine lv_aload_n hx hb d_18_14_170 rfl (lv_at hl 0 rfl) ?_
      refine lv_bipush (v := 102) hx hb d_18_14_171 (by decide) ?_
      refine lv_bipush (v := 70) hx hb d_18_14_173 (by decide) ?_
      have ob97 : True ∧ S_TR_isAt (102 : Int32) (70 : Int32) lx33 lx34 lx35 lx36 lx37 lx38 lx39 lx40 lx41 lx42 lx43 lx44 lx45 lx46 t1_0 := (by have h := hS78; rw [S_TR_number_J159.eq_1] at h; replace h := q_s2 h; have c90x := c90; rw [e89] at c90x; rw [if_pos c90x] at h; with_reducible exact h.2.1)
      refine q_goi V (q_runV (As := [.int 102, .int 70]) (rest := []) (d := 2) (mc := 0) (ms := 0) (ci := 16) C0 V rfl LV_TR_66 (X_TR_isAt l D g q w76  102 70 hI lx33 lx34 lx35 lx36 lx37 lx38 lx39 lx40 lx41 lx42 lx43 lx44 lx45 lx46 hO48 t1_0 hA49 ob97 _) rfl rfl hO48 rfl hl.1 rfl (Nat.le_of_ble_eq_true rfl) ⟨by decide, by decide⟩ ⟨Nat.le_of_ble_eq_true rfl, Nat.le_of_ble_eq_true rfl⟩ d_18_14_175) (fun a100 u98 H locs hp99 V => ?_)
      obtain ⟨rfl, b101, b102, hE103⟩ := hp99
      have e104 : a100 = (F_TR_isAt (102 : Int32) (70 : Int32) lx33 lx34 lx35 lx36 lx37 lx38 lx39 lx40 lx41 lx42 lx43 lx44 lx45 lx46 t1_0) := hE103
      clear b101
      clear b102
      refine lv_if_eq (tgt := 191) hx hb d_18_14_178 (by decide) (fun c105 => ?_) (fun c105 => ?_)
      ·
        refine lv_iconst (v := 1) hx hb d_18_14_191 (by decide) ?_
        exact q_retz C0 V (by decide) (⟨hI, hF, lx33, lx34, lx35, lx36, lx37, lx38, lx39, lx40, lx41, lx42, lx43, lx44, lx45, lx46, lx47, hO48, hA50, (show 0 ≤ (1 : Int32).toInt from (by have z16 : (1 : Int32).toInt = 1 := rfl; omega)), (show (1 : Int32).toInt ≤ 1 from (by have z16 : (1 : Int32).toInt = 1 := rfl; omega)), (show 0 ≤ lx35.toInt from (by have z16 : (1 : Int32).toInt = 1 := rfl; have t1 : 0 ≤ lx35.toInt := i52; omega)), (show lx35.toInt ≤ 1 from (by have z16 : (1 : Int32).toInt = 1 := rfl; have t1 : lx35.toInt ≤ 1 := i53; omega)), (show lx38.toInt ≤ 4100 from (by have z16 : (1 : Int32).toInt = 1 := rfl; have t1 : lx38.toInt ≤ 4100 := i55; omega)), (show 0 ≤ lx39.toInt from (by have z16 : (1 : Int32).toInt = 1 := rfl; have t1 : 0 ≤ lx39.toInt := i56; omega)), (show lx39.toInt ≤ 4100 from (by have z16 : (1 : Int32).toInt = 1 := rfl; have t1 : lx39.toInt ≤ 4100 := i57; omega)), (show t0_0.toInt ≤ lx33.toInt from (by have z16 : (1 : Int32).toInt = 1 := rfl; have t1 : t0_0.toInt ≤ lx33.toInt := i58; omega)), (show lx33.toInt ≤ t0_0.toInt from (by have z16 : (1 : Int32).toInt = 1 := rfl; have t1 : lx33.toInt ≤ t0_0.toInt := i59; omega)), (show t0_1.toInt ≤ lx34.toInt from (by have z16 : (1 : Int32).toInt = 1 := rfl; have t1 : t0_1.toInt ≤ lx34.toInt := i60; omega)), (show lx34.toInt ≤ t0_1.toInt from (by have z16 : (1 : Int32).toInt = 1 := rfl; have t1 : lx34.toInt ≤ t0_1.toInt := i61; omega)), (show t0_4.toInt ≤ lx37.toInt from (by have z16 : (1 : Int32).toInt = 1 := rfl; have t1 : t0_4.toInt ≤ lx37.toInt := i62; omega)), (show lx37.toInt ≤ t0_4.toInt from (by have z16 : (1 : Int32).toInt = 1 := rfl; have t1 : lx37.toInt ≤ t0_4.toInt := i63; omega)), (show t0_8.toInt ≤ lx41.toInt from (by have z16 : (1 : Int32).toInt = 1 := rfl; have t1 : t0_8.toInt ≤ lx41.toInt := i64; omega)), (show lx41.toInt ≤ t0_8.toInt from (by have z16 : (1 : Int32).toInt = 1 := rfl; have t1 : lx41.toInt ≤ t0_8.toInt := i65; omega)), (show t0_9.toInt ≤ lx42.toInt from (by have z16 : (1 : Int32).toInt = 1 := rfl; have t1 : t0_9.toInt ≤ lx42.toInt := i66; omega)), (show lx42.toInt ≤ t0_9.toInt from (by have z16 : (1 : Int32).toInt = 1 := rfl; have t1 : lx42.toInt ≤ t0_9.toInt := i67; omega)), (show t0_10.toInt ≤ lx43.toInt from (by have z16 : (1 : Int32).toInt = 1 := rfl; have t1 : t0_10.toInt ≤ lx43.toInt := i68; omega)), (show lx43.toInt ≤ t0_10.toInt from (by have z16 : (1 : Int32).toInt = 1 := rfl; have t1 : lx43.toInt ≤ t0_10.toInt := i69; omega)), (show t0_11.toInt ≤ lx44.toInt from (by have z16 : (1 : Int32).toInt = 1 := rfl; have t1 : t0_11.toInt ≤ lx44.toInt := i70; omega)), (show lx44.toInt ≤ t0_11.toInt from (by have z16 : (1 : Int32).toInt = 1 := rfl; have t1 : lx44.toInt ≤ t0_11.toInt := i71; omega)), (show t0_12.toInt ≤ lx45.toInt from (by have z16 : (1 : Int32).toInt = 1 := rfl; have t1 : t0_12.toInt ≤ lx45.toInt := i72; omega)), (show lx45.toInt ≤ t0_12.toInt from (by have z16 : (1 : Int32).toInt = 1 := rfl; have t1 : lx45.toInt ≤ t0_12.toInt := i73; omega)), (show t0_13.toInt ≤ lx46.toInt from (by have z16 : (1 : Int32).toInt = 1 := rfl; have t1 : t0_13.toInt ≤ lx46.toInt := i74; omega)), (show lx46.toInt ≤ t0_13.toInt from (by have z16 : (1 : Int32).toInt = 1 := rfl; have t1 : lx46.toInt ≤ t0_13.toInt := i75; omega)), (show (1 : Int32).toInt ≤ lx38.toInt from (by have z16 : (1 : Int32).toInt = 1 := rfl; have t1 : 1 ≤ lx38.toInt := i54; omega)), (show ((1 : Int32), lx33, lx34, lx35, lx36, lx37, lx38, lx39, lx40, lx41, lx42, lx43, lx44, lx45, lx46, lx47) = (F_TR_number t0_0 t0_1 t0_2 t0_3 t0_4 t0_5 t0_6 t0_7 t0_8 t0_9 t0_10 t0_11 t0_12 t0_13 t1_0 t2_0) from Eq.trans (by have c90x := c90; rw [e89] at c90x; have c105x := c105; rw [e104] at c105x; rw [F_TR_number_J159.eq_1, if_pos c90x, if_pos c105x]) hR77)⟩) d_18_14_192
      ·
        refine lv_aload_n hx hb d_18_14_181 rfl (lv_at hl 0 rfl) ?_
        refine lv_dup hx hb d_18_14_182 rfl ?_
        refine q_get (ci := 16) (j := 4) (v := .int lx36) C0 V i_TR rfl rfl hO48 (by decide) w_2144 rfl d_18_14_183 ?_
        refine lv_iconst (v := 1) hx hb d_18_14_186 (by decide) ?_
        refine lv_iadd hx hb d_18_14_187 ?_
        obtain ⟨a108, e109⟩ := q_nm (lx36 + 1 : Int32)
        refine q_ti (v := a108) e109 ?_
        refine q_put (ci := 16) (j := 4) (v := .int a108) (ty := .int) C0 V i_TR o_TR n_TR rfl rfl hO48 (by decide) w_2144 rfl rfl rfl rfl (Nat.le_of_ble_eq_true rfl) d_18_14_188 (fun H locs w110 hu111 hO48 V => ?_)
        replace hO48 : w110[153]? = (some (q 153, .inr (16, [.int lx33, .ref (q 154), .int lx34, .int lx35, .int a108, .int lx37, .ref (q 155), .int lx38, .int lx39, .long lx40, .ref (q 156), .int lx41, .int lx42, .long lx43, .long lx44, .int lx45, .int lx46])) : Option (Nat × va_E)) := hO48
        replace hI := n_p153 hI hu111 hO48 ⟨(by have t1 : 0 ≤ t0_1.toInt ∧ t0_1.toInt ≤ 4100 := btt0_1; have t2 : t0_1.toInt ≤ lx34.toInt := i60; omega), (by have t1 : 0 ≤ t0_1.toInt ∧ t0_1.toInt ≤ 4100 := btt0_1; have t2 : lx34.toInt ≤ t0_1.toInt := i61; omega)⟩ ⟨(by have t1 : 0 ≤ t0_4.toInt ∧ t0_4.toInt ≤ 1 := btt0_4; have t2 : t0_4.toInt ≤ lx37.toInt := i62; omega), (by have t1 : 0 ≤ t0_4.toInt ∧ t0_4.toInt ≤ 1 := btt0_4; have t2 : lx37.toInt ≤ t0_4.toInt := i63; omega)⟩ ⟨(by have t1 : 0 ≤ t0_13.toInt ∧ t0_13.toInt ≤ 1 := btt0_13; have t2 : t0_13.toInt ≤ lx46.toInt := i74; omega), (by have t1 : 0 ≤ t0_13.toInt ∧ t0_13.toInt ≤ 1 := btt0_13; have t2 : lx46.toInt ≤ t0_13.toInt := i75; omega)⟩
        replace hA50 := (hu111 _ (by decide)).trans hA50
        replace hF := q_us hF hu111 (by simp)
        refine lv_iconst (v := 1) hx hb d_18_14_191 (by decide) ?_
        exact q_retz C0 V (by decide) (⟨hI, hF, lx33, lx34, lx35, a108, lx37, lx38, lx39, lx40, lx41, lx42, lx43, lx44, lx45, lx46, lx47, hO48, hA50, (show 0 ≤ (1 : Int32).toInt from (by have z16 : (1 : Int32).toInt = 1 := rfl; omega)), (show (1 : Int32).toInt ≤ 1 from (by have z16 : (1 : Int32).toInt = 1 := rfl; omega)), (show 0 ≤ lx35.toInt from (by have z16 : (1 : Int32).toInt = 1 := rfl; have t1 : 0 ≤ lx35.toInt := i52; omega)), (show lx35.toInt ≤ 1 from (by have z16 : (1 : Int32).toInt = 1 := rfl; have t1 : lx35.toInt ≤ 1 := i53; omega)), (show lx38.toInt ≤ 4100 from (by have z16 : (1 : Int32).toInt = 1 := rfl; have t1 : lx38.toInt ≤ 4100 := i55; omega)), (show 0 ≤ lx39.toInt from (by have z16 : (1 : Int32).toInt = 1 := rfl; have t1 : 0 ≤ lx39.toInt := i56; omega)), (show lx39.toInt ≤ 4100 from (by have z16 : (1 : Int32).toInt = 1 := rfl; have t1 : lx39.toInt ≤ 4100 := i57; omega)), (show t0_0.toInt ≤ lx33.toInt from (by have z16 : (1 : Int32).toInt = 1 := rfl; have t1 : t0_0.toInt ≤ lx33.toInt := i58; omega)), (show lx33.toInt ≤ t0_0.toInt from (by have z16 : (1 : Int32).toInt = 1 := rfl; have t1 : lx33.toInt ≤ t0_0.toInt := i59; omega)), (show t0_1.toInt ≤ lx34.toInt from (by have z16 : (1 : Int32).toInt = 1 := rfl; have t1 : t0_1.toInt ≤ lx34.toInt := i60; omega)), (show lx34.toInt ≤ t0_1.toInt from (by have z16 : (1 : Int32).toInt = 1 := rfl; have t1 : lx34.toInt ≤ t0_1.toInt := i61; omega)), (show t0_4.toInt ≤ lx37.toInt from (by have z16 : (1 : Int32).toInt = 1 := rfl; have t1 : t0_4.toInt ≤ lx37.toInt := i62; omega)), (show lx37.toInt ≤ t0_4.toInt from (by have z16 : (1 : Int32).toInt = 1 := rfl; have t1 : lx37.toInt ≤ t0_4.toInt := i63; omega)), (show t0_8.toInt ≤ lx41.toInt from (by have z16 : (1 : Int32).toInt = 1 := rfl; have t1 : t0_8.toInt ≤ lx41.toInt := i64; omega)), (show lx41.toInt ≤ t0_8.toInt from (by have z16 : (1 : Int32).toInt = 1 := rfl; have t1 : lx41.toInt ≤ t0_8.toInt := i65; omega)), (show t0_9.toInt ≤ lx42.toInt from (by have z16 : (1 : Int32).toInt = 1 := rfl; have t1 : t0_9.toInt ≤ lx42.toInt := i66; omega)), (show lx42.toInt ≤ t0_9.toInt from (by have z16 : (1 : Int32).toInt = 1 := rfl; have t1 : lx42.toInt ≤ t0_9.toInt := i67; omega)), (show t0_10.toInt ≤ lx43.toInt from (by have z16 : (1 : Int32).toInt = 1 := rfl; have t1 : t0_10.toInt ≤ lx43.toInt := i68; omega)), (show lx43.toInt ≤ t0_10.toInt from (by have z16 : (1 : Int32).toInt = 1 := rfl; have t1 : lx43.toInt ≤ t0_10.toInt := i69; omega)), (show t0_11.toInt ≤ lx44.toInt from (by have z16 : (1 : Int32).toInt = 1 := rfl; have t1 : t0_11.toInt ≤ lx44.toInt := i70; omega)), (show lx44.toInt ≤ t0_11.toInt from (by have z16 : (1 : Int32).toInt = 1 := rfl; have t1 : lx44.toInt ≤ t0_11.toInt := i71; omega)), (show t0_12.toInt ≤ lx45.toInt from (by have z16 : (1 : Int32).toInt = 1 := rfl; have t1 : t0_12.toInt ≤ lx45.toInt := i72; omega)), (show lx45.toInt ≤ t0_12.toInt from (by have z16 : (1 : Int32).toInt = 1 := rfl; have t1 : lx45.toInt ≤ t0_12.toInt := i73; omega)), (show t0_13.toInt ≤ lx46.toInt from (by have z16 : (1 : Int32).toInt = 1 := rfl; have t1 : t0_13.toInt ≤ lx46.toInt := i74; omega)), (show lx46.toInt ≤ t0_13.toInt from (by have z16 : (1 : Int32).toInt = 1 := rfl; have t1 : lx46.toInt ≤ t0_13.toInt := i75; omega)), (show (1 : Int32).toInt ≤ lx38.toInt from (by have z16 : (1 : Int32).toInt = 1 := rfl; have t1 : 1 ≤ lx38.toInt := i54; omega)), (show ((1 : Int32), lx33, lx34, lx35, a108, lx37, lx38, lx39, lx40, lx41, lx42, lx43, lx44, lx45, lx46, lx47) = (F_TR_number t0_0 t0_1 t0_2 t0_3 t0_4 t0_5 t0_6 t0_7 t0_8 t0_9 t0_10 t0_11 t0_12 t0_13 t1_0 t2_0) from Eq.trans (by have c90x := c90; rw [e89] at c90x; have c105x := c105; rw [e104] at c105x; rw [← e109, F_TR_number_J159.eq_1, if_pos c90x, if_neg c105x]) hR77)⟩) d_18_14_192
  ·
    intro J51
    refine q_join (X := Unit) (fun z H locs ls _ => q_Wd D g (va_A ws sz) s w25 H locs ∧ lv_has ls 1 [(0, .ref (q 153))] ∧ F_TR_number_J114 t0_0 t0_1 t0_2 t0_3 t0_4 t0_5 t0_6 t0_7 t0_8 t0_9 t0_10 t0_11 t0_12 t0_13 t1_0 t2_0 = (F_TR_number t0_0 t0_1 t0_2 t0_3 t0_4 t0_5 t0_6 t0_7 t0_8 t0_9 t0_10 t0_11 t0_12 t0_13 t1_0 t2_0) ∧ True ∧ S_TR_number_J114 t0_0 t0_1 t0_2 t0_3 t0_4 t0_5 t0_6 t0_7 t0_8 t0_9 t0_10 t0_11 t0_12 t0_13 t1_0 t2_0) (fun z => []) 114 0 0 ?_ ?_
    ·
      rintro _ H locs ls _ ⟨V, hl, hR116, hS117⟩
      replace hl : lv_has ls 1 [(0, .ref (q 153))] := hl
      refine lv_aload_n hx hb d_18_14_114 rfl (lv_at hl 0 rfl) ?_
      refine lv_iconst (v := 0) hx hb d_18_14_115 (by decide) ?_
      refine q_put (ci := 16) (j := 3) (v := .int 0) (ty := .int) C0 V i_TR o_TR n_TR rfl rfl hT0 (by decide) w_2143 rfl rfl rfl rfl (Nat.le_of_ble_eq_true rfl) d_18_14_116 (fun H locs w121 hu122 hT0 V => ?_)
      replace hT0 : w121[153]? = (some (q 153, .inr (16, [.int t0_0, .ref (q 154), .int t0_1, .int 0, .int t0_3, .int t0_4, .ref (q 155), .int t0_5, .int t0_6, .long 0, .ref (q 156), .int t0_8, .int t0_9, .long t0_10, .long t0_11, .int t0_12, .int t0_13])) : Option (Nat × va_E)) := hT0
      replace hI := n_p153 hI hu122 hT0 (by first | with_reducible exact q_fe btt0_1 | exact ⟨(by have t1 : 0 ≤ t0_1.toInt ∧ t0_1.toInt ≤ 4100 := btt0_1; omega), (by have t1 : 0 ≤ t0_1.toInt ∧ t0_1.toInt ≤ 4100 := btt0_1; omega)⟩) (by first | with_reducible exact q_fe btt0_4 | exact ⟨(by have t1 : 0 ≤ t0_4.toInt ∧ t0_4.toInt ≤ 1 := btt0_4; omega), (by have t1 : 0 ≤ t0_4.toInt ∧ t0_4.toInt ≤ 1 := btt0_4; omega)⟩) (by first | with_reducible exact q_fe btt0_13 | exact ⟨(by have t1 : 0 ≤ t0_13.toInt ∧ t0_13.toInt ≤ 1 := btt0_13; omega), (by have t1 : 0 ≤ t0_13.toInt ∧ t0_13.toInt ≤ 1 := btt0_13; omega)⟩)
      replace hT1 := (hu122 _ (by decide)).trans hT1
      replace hT2 := (hu122 _ (by decide)).trans hT2
      replace hF := q_us hF hu122 (by simp)
      refine lv_aload_n hx hb d_18_14_119 rfl (lv_at hl 0 rfl) ?_
      refine lv_iconst (v := 0) hx hb d_18_14_120 (by decide) ?_
      have ob123 : True ∧ S_TR_digits (0 : Int32) t0_0 t0_1 (0 : Int32) t0_3 t0_4 t0_5 t0_6 (0 : Int64) t0_8 t0_9 t0_10 t0_11 t0_12 t0_13 t1_0 t2_0 := (by have h := hS117; rw [S_TR_number_J114.eq_1] at h; with_reducible exact h.2.1)
      refine q_goi V (q_runV (As := [.int 0]) (rest := []) (d := 3) (mc := 0) (ms := 0) (ci := 16) C0 V rfl LV_TR_62 (X_TR_digits l D g q w121  0 hI t0_0 t0_1 0 t0_3 t0_4 t0_5 t0_6 0 t0_8 t0_9 t0_10 t0_11 t0_12 t0_13 hT0 t1_0 hT1 t2_0 hT2 ⟨(by have y0 : (0 : Int32).toInt = 0 := rfl; have y1 : (0 : Int32).toInt = 0 := rfl; have y2 : (0 : Int64).toInt = 0 := rfl; omega), (by have y0 : (0 : Int32).toInt = 0 := rfl; have y1 : (0 : Int32).toInt = 0 := rfl; have y2 : (0 : Int64).toInt = 0 := rfl; omega)⟩ ob123 _) rfl rfl hT0 rfl hl.1 rfl (Nat.le_of_ble_eq_true rfl) ⟨by decide, by decide⟩ ⟨Nat.le_of_ble_eq_true rfl, Nat.le_of_ble_eq_true rfl⟩ d_18_14_121) (fun a126 u124 H locs hp125 V => ?_)
      obtain ⟨hI, hZ9⟩ := hp125
      obtain ⟨hu173, hZ9⟩ := hZ9
      obtain ⟨y128, hZ9⟩ := hZ9
      obtain ⟨y129, hZ9⟩ := hZ9
      obtain ⟨y130, hZ9⟩ := hZ9
      obtain ⟨y131, hZ9⟩ := hZ9
      obtain ⟨y132, hZ9⟩ := hZ9
      obtain ⟨y133, hZ9⟩ := hZ9
      obtain ⟨y134, hZ9⟩ := hZ9
      obtain ⟨y135, hZ9⟩ := hZ9
      obtain ⟨y136, hZ9⟩ := hZ9
      obtain ⟨y137, hZ9⟩ := hZ9
      obtain ⟨y138, hZ9⟩ := hZ9
      obtain ⟨y139, hZ9⟩ := hZ9
      obtain ⟨y140, hZ9⟩ := hZ9
      obtain ⟨y141, hZ9⟩ := hZ9
      obtain ⟨f142, hZ9⟩ := hZ9
      obtain ⟨hO127, hZ9⟩ := hZ9
      obtain ⟨hA143, hZ9⟩ := hZ9
      obtain ⟨b144, hZ9⟩ := hZ9
      obtain ⟨b145, hZ9⟩ := hZ9
      obtain ⟨b146, hZ9⟩ := hZ9
      obtain ⟨b147, hZ9⟩ := hZ9
      obtain ⟨b148, hZ9⟩ := hZ9
      obtain ⟨b149, hZ9⟩ := hZ9
      obtain ⟨b150, hZ9⟩ := hZ9
      obtain ⟨b151, hZ9⟩ := hZ9
      obtain ⟨b152, hZ9⟩ := hZ9
      obtain ⟨b153, hZ9⟩ := hZ9
      obtain ⟨b154, hZ9⟩ := hZ9
      obtain ⟨b155, hZ9⟩ := hZ9
      replace hZ9 := hZ9.2.2
      obtain ⟨b158, hZ9⟩ := hZ9
      obtain ⟨b159, hZ9⟩ := hZ9
      obtain ⟨b160, hZ9⟩ := hZ9
      obtain ⟨b161, hZ9⟩ := hZ9
      obtain ⟨b162, hZ9⟩ := hZ9
      obtain ⟨b163, hZ9⟩ := hZ9
      obtain ⟨b164, hZ9⟩ := hZ9
      obtain ⟨b165, hZ9⟩ := hZ9
      obtain ⟨b166, hZ9⟩ := hZ9
      obtain ⟨b167, hZ9⟩ := hZ9
      obtain ⟨b168, hZ9⟩ := hZ9
      obtain ⟨b169, hZ9⟩ := hZ9
      obtain ⟨b170, hZ9⟩ := hZ9
      obtain ⟨b171, hE172⟩ := hZ9
      replace hO127 : u124[153]? = (some (q 153, .inr (16, [.int y128, .ref (q 154), .int y129, .int y130, .int y131, .int y132, .ref (q 155), .int y133, .int y134, .long y135, .ref (q 156), .int y136, .int y137, .long y138, .long y139, .int y140, .int y141])) : Option (Nat × va_E)) := hO127
      replace hA143 : u124[155]? = (some (q 155, .inl (g 0, (4100 : Int32).toNatClampNeg, .inl f142)) : Option (Nat × va_E)) := hA143
      obtain ⟨p174, e175⟩ : ∃ z, z = (F_TR_digits (0 : Int32) t0_0 t0_1 (0 : Int32) t0_3 t0_4 t0_5 t0_6 (0 : Int64) t0_8 t0_9 t0_10 t0_11 t0_12 t0_13 t1_0 t2_0) := ⟨_, rfl⟩
      have e176 : a126 = p174.1 := congrArg (fun z => z.1) (hE172.trans e175.symm)
      have e177 : y128 = p174.2.1 := congrArg (fun z => z.2.1) (hE172.trans e175.symm)
      have e178 : y129 = p174.2.2.1 := congrArg (fun z => z.2.2.1) (hE172.trans e175.symm)
      have e179 : y130 = p174.2.2.2.1 := congrArg (fun z => z.2.2.2.1) (hE172.trans e175.symm)
      have e180 : y131 = p174.2.2.2.2.1 := congrArg (fun z => z.2.2.2.2.1) (hE172.trans e175.symm)
      have e181 : y132 = p174.2.2.2.2.2.1 := congrArg (fun z => z.2.2.2.2.2.1) (hE172.trans e175.symm)
      have e182 : y133 = p174.2.2.2.2.2.2.1 := congrArg (fun z => z.2.2.2.2.2.2.1) (hE172.trans e175.symm)
      have e183 : y134 = p174.2.2.2.2.2.2.2.1 := congrArg (fun z => z.2.2.2.2.2.2.2.1) (hE172.trans e175.symm)
      have e184 : y135 = p174.2.2.2.2.2.2.2.2.1 := congrArg (fun z => z.2.2.2.2.2.2.2.2.1) (hE172.trans e175.symm)
      have e185 : y136 = p174.2.2.2.2.2.2.2.2.2.1 := congrArg (fun z => z.2.2.2.2.2.2.2.2.2.1) (hE172.trans e175.symm)
      have e186 : y137 = p174.2.2.2.2.2.2.2.2.2.2.1 := congrArg (fun z => z.2.2.2.2.2.2.2.2.2.2.1) (hE172.trans e175.symm)
      have e187 : y138 = p174.2.2.2.2.2.2.2.2.2.2.2.1 := congrArg (fun z => z.2.2.2.2.2.2.2.2.2.2.2.1) (hE172.trans e175.symm)
      have e188 : y139 = p174.2.2.2.2.2.2.2.2.2.2.2.2.1 := congrArg (fun z => z.2.2.2.2.2.2.2.2.2.2.2.2.1) (hE172.trans e175.symm)
      have e189 : y140 = p174.2.2.2.2.2.2.2.2.2.2.2.2.2.1 := congrArg (fun z => z.2.2.2.2.2.2.2.2.2.2.2.2.2.1) (hE172.trans e175.symm)
      have e190 : y141 = p174.2.2.2.2.2.2.2.2.2.2.2.2.2.2.1 := congrArg (fun z => z.2.2.2.2.2.2.2.2.2.2.2.2.2.2.1) (hE172.trans e175.symm)
      have e191 : f142 = p174.2.2.2.2.2.2.2.2.2.2.2.2.2.2.2 := congrArg (fun z => z.2.2.2.2.2.2.2.2.2.2.2.2.2.2.2) (hE172.trans e175.symm)
      replace b144 : q_F (0 ≤ a126.toInt) := b144
      replace b145 : q_F (a126.toInt ≤ 1) := b145
      replace b146 : q_F (0 ≤ y134.toInt) := b146
      replace b147 : q_F (y134.toInt ≤ 4100) := b147
      replace b148 : q_F (t0_0.toInt ≤ y128.toInt) := b148
      replace b149 : q_F (y128.toInt ≤ t0_0.toInt) := b149
      replace b150 : q_F (t0_1.toInt ≤ y129.toInt) := b150
      replace b151 : q_F (y129.toInt ≤ t0_1.toInt) := b151
      replace b152 : q_F (0 ≤ y130.toInt) := b152
      replace b153 : q_F (y130.toInt ≤ 0) := b153
      replace b154 : q_F (t0_4.toInt ≤ y132.toInt) := b154
      replace b155 : q_F (y132.toInt ≤ t0_4.toInt) := b155
      replace b158 : q_F (t0_8.toInt ≤ y136.toInt) := b158
      replace b159 : q_F (y136.toInt ≤ t0_8.toInt) := b159
      replace b160 : q_F (t0_9.toInt ≤ y137.toInt) := b160
      replace b161 : q_F (y137.toInt ≤ t0_9.toInt) := b161
      replace b162 : q_F (t0_10.toInt ≤ y138.toInt) := b162
      replace b163 : q_F (y138.toInt ≤ t0_10.toInt) := b163
      replace b164 : q_F (t0_11.toInt ≤ y139.toInt) := b164
      replace b165 : q_F (y139.toInt ≤ t0_11.toInt) := b165
      replace b166 : q_F (t0_12.toInt ≤ y140.toInt) := b166
      replace b167 : q_F (y140.toInt ≤ t0_12.toInt) := b167
      replace b168 : q_F (t0_13.toInt ≤ y141.toInt) := b168
      replace b169 : q_F (y141.toInt ≤ t0_13.toInt) := b169
      replace b170 : q_F (y133.toInt ≤ a126.toInt + 4099) := b170
      replace b171 : q_F (a126.toInt ≤ y133.toInt) := b171
      replace hT1 := (hu173 _ (by decide)).trans hT1
      replace hF := q_uc hF hu173 (by simp)
      have hR192 := (show F_TR_number_c121 t0_0 t0_1 t0_2 t0_3 t0_4 t0_5 t0_6 t0_7 t0_8 t0_9 t0_10 t0_11 t0_12 t0_13 t1_0 t2_0 p174 = (F_TR_number t0_0 t0_1 t0_2 t0_3 t0_4 t0_5 t0_6 t0_7 t0_8 t0_9 t0_10 t0_11 t0_12 t0_13 t1_0 t2_0) from Eq.trans (by rw [e175, F_TR_number_J114.eq_1]) hR116)
      have hS193 := (show True ∧ S_TR_number_c121 t0_0 t0_1 t0_2 t0_3 t0_4 t0_5 t0_6 t0_7 t0_8 t0_9 t0_10 t0_11 t0_12 t0_13 t1_0 t2_0 p174 from (by rw [e175]; have h := hS117; rw [S_TR_number_J114.eq_1] at h; replace h := q_s2 h; with_reducible exact h))
      refine lv_if_ne (tgt := 129) hx hb d_18_14_124 (by decide) (fun c197 => ?_) (fun c197 => ?_)
      ·
        have b198 : q_F (a126.toInt ≠ 0) := (q_neI c197)
        refine lv_aload_n hx hb d_18_14_129 rfl (lv_at hl 0 rfl) ?_
        refine lv_bipush (v := 101) hx hb d_18_14_130 (by decide) ?_
        refine lv_bipush (v := 69) hx hb d_18_14_132 (by decide) ?_
        have ob199 : True ∧ S_TR_isAt (101 : Int32) (69 : Int32) y128 y129 y130 y131 y132 y133 y134 y135 y136 y137 y138 y139 y140 y141 t1_0 := (by rw [e190, e189, e188, e187, e186, e185, e184, e183, e182, e181, e180, e179, e178, e177]; have h := hS193; rw [S_TR_number_c121.eq_1] at h; have c197x := c197; rw [e176] at c197x; rw [if_neg c197x] at h; with_reducible exact h.2.1)
        refine q_goi V (q_runV (As := [.int 101, .int 69]) (rest := []) (d := 2) (mc := 0) (ms := 0) (ci := 16) C0 V rfl LV_TR_66 (X_TR_isAt l D g q u124  101 69 hI y128 y129 y130 y131 y132 y133 y134 y135 y136 y137 y138 y139 y140 y141 hO127 t1_0 hT1 ob199 _) rfl rfl hO127 rfl hl.1 rfl (Nat.le_of_ble_eq_true rfl) ⟨by decide, by decide⟩ ⟨Nat.le_of_ble_eq_true rfl, Nat.le_of_ble_eq_true rfl⟩ d_18_14_134) (fun a202 u200 H locs hp201 V => ?_)
        obtain ⟨rfl, b203, b204, hE205⟩ := hp201
        have e206 : a202 = (F_TR_isAt (101 : Int32) (69 : Int32) y128 y129 y130 y131 y132 y133 y134 y135 y136 y137 y138 y139 y140 y141 t1_0) := hE205
        clear b203
        clear b204
        refine lv_if_eq (tgt := 159) hx hb d_18_14_137 (by decide) (fun c207 => ?_) (fun c207 => ?_)
        ·
          exact J51 ((y128 : Int32), (y129 : Int32), (y130 : Int32), (y131 : Int32), (y132 : Int32), (y133 : Int32), (y134 : Int32), (y135 : Int64), (y136 : Int32), (y137 : Int32), (y138 : Int64), (y139 : Int64), (y140 : Int32), (y141 : Int32), (f142 : (Nat → Int32))) _ _ _ _ ⟨(show q_F (0 ≤ y130.toInt) from (show 0 ≤ y130.toInt from by have t1 : 0 ≤ y130.toInt := b152; omega)), (show q_F (y130.toInt ≤ 1) from (show y130.toInt ≤ 1 from by have t1 : y130.toInt ≤ 0 := b153; omega)), (show q_F (1 ≤ y133.toInt) from (show 1 ≤ y133.toInt from by have t1 : 0 ≤ a126.toInt := b144; have t2 : a126.toInt ≤ y133.toInt := b171; have t3 : a126.toInt ≠ 0 := b198; omega)), (show q_F (y133.toInt ≤ 4100) from (show y133.toInt ≤ 4100 from by have t1 : a126.toInt ≤ 1 := b145; have t2 : y133.toInt ≤ a126.toInt + 4099 := b170; omega)), (show q_F (0 ≤ y134.toInt) from (show 0 ≤ y134.toInt from by have t1 : 0 ≤ y134.toInt := b146; omega)), (show q_F (y134.toInt ≤ 4100) from (show y134.toInt ≤ 4100 from by have t1 : y134.toInt ≤ 4100 := b147; omega)), (show q_F (t0_0.toInt ≤ y128.toInt) from (show t0_0.toInt ≤ y128.toInt from by have t1 : t0_0.toInt ≤ y128.toInt := b148; omega)), (show q_F (y128.toInt ≤ t0_0.toInt) from (show y128.toInt ≤ t0_0.toInt from by have t1 : y128.toInt ≤ t0_0.toInt := b149; omega)), (show q_F (t0_1.toInt ≤ y129.toInt) from (show t0_1.toInt ≤ y129.toInt from by have t1 : t0_1.toInt ≤ y129.toInt := b150; omega)), (show q_F (y129.toInt ≤ t0_1.toInt) from (show y129.toInt ≤ t0_1.toInt from by have t1 : y129.toInt ≤ t0_1.toInt := b151; omega)), (show q_F (t0_4.toInt ≤ y132.toInt) from (show t0_4.toInt ≤ y132.toInt from by have t1 : t0_4.toInt ≤ y132.toInt := b154; omega)), (show q_F (y132.toInt ≤ t0_4.toInt) from (show y132.toInt ≤ t0_4.toInt from by have t1 : y132.toInt ≤ t0_4.toInt := b155; omega)), (show q_F (t0_8.toInt ≤ y136.toInt) from (show t0_8.toInt ≤ y136.toInt from by have t1 : t0_8.toInt ≤ y136.toInt := b158; omega)), (show q_F (y136.toInt ≤ t0_8.toInt) from (show y136.toInt ≤ t0_8.toInt from by have t1 : y136.toInt ≤ t0_8.toInt := b159; omega)), (show q_F (t0_9.toInt ≤ y137.toInt) from (show t0_9.toInt ≤ y137.toInt from by have t1 : t0_9.toInt ≤ y137.toInt := b160; omega)), (show q_F (y137.toInt ≤ t0_9.toInt) from (show y137.toInt ≤ t0_9.toInt from by have t1 : y137.toInt ≤ t0_9.toInt := b161; omega)), (show q_F (t0_10.toInt ≤ y138.toInt) from (show t0_10.toInt ≤ y138.toInt from by have t1 : t0_10.toInt ≤ y138.toInt := b162; omega)), (show q_F (y138.toInt ≤ t0_10.toInt) from (show y138.toInt ≤ t0_10.toInt from by have t1 : y138.toInt ≤ t0_10.toInt := b163; omega)), (show q_F (t0_11.toInt ≤ y139.toInt) from (show t0_11.toInt ≤ y139.toInt from by have t1 : t0_11.toInt ≤ y139.toInt := b164; omega)), (show q_F (y139.toInt ≤ t0_11.toInt) from (show y139.toInt ≤ t0_11.toInt from by have t1 : y139.toInt ≤ t0_11.toInt := b165; omega)), (show q_F (t0_12.toInt ≤ y140.toInt) from (show t0_12.toInt ≤ y140.toInt from by have t1 : t0_12.toInt ≤ y140.toInt := b166; omega)), (show q_F (y140.toInt ≤ t0_12.toInt) from (show y140.toInt ≤ t0_12.toInt from by have t1 : y140.toInt ≤ t0_12.toInt := b167; omega)), (show q_F (t0_13.toInt ≤ y141.toInt) from (show t0_13.toInt ≤ y141.toInt from by have t1 : t0_13.toInt ≤ y141.toInt := b168; omega)), (show q_F (y141.toInt ≤ t0_13.toInt) from (show y141.toInt ≤ t0_13.toInt from by have t1 : y141.toInt ≤ t0_13.toInt := b169; omega)), V, q_lw hl (q_lw1 0 rfl q_lw0), hI, hF, hO127, hT1, hA143, (show F_TR_number_J159 t0_0 t0_1 t0_2 t0_3 t0_4 t0_5 t0_6 t0_7 t0_8 t0_9 t0_10 t0_11 t0_12 t0_13 t1_0 t2_0 y128 y129 y130 y131 y132 y133 y134 y135 y136 y137 y138 y139 y140 y141 f142 = (F_TR_number t0_0 t0_1 t0_2 t0_3 t0_4 t0_5 t0_6 t0_7 t0_8 t0_9 t0_10 t0_11 t0_12 t0_13 t1_0 t2_0) from Eq.trans (by have c197x := c197; rw [e176] at c197x; have c207x := c207; rw [e206, e190, e189, e188, e187, e186, e185, e184, e183, e182, e181, e180, e179, e178, e177] at c207x; rw [e191, e190, e189, e188, e187, e186, e185, e184, e183, e182, e181, e180, e179, e178, e177, F_TR_number_c121.eq_1, if_neg c197x, if_pos c207x]) hR192), (show True ∧ S_TR_number_J159 t0_0 t0_1 t0_2 t0_3 t0_4 t0_5 t0_6 t0_7 t0_8 t0_9 t0_10 t0_11 t0_12 t0_13 t1_0 t2_0 y128 y129 y130 y131 y132 y133 y134 y135 y136 y137 y138 y139 y140 y141 f142 from (by rw [e191, e190, e189, e188, e187, e186, e185, e184, e183, e182, e181, e180, e179, e178, e177]; have h := hS193; rw [S_TR_number_c121.eq_1] at h; have c197x := c197; rw [e176] at c197x; rw [if_neg c197x] at h; replace h := q_s2 h; have c207x := c207; rw [e206, e190, e189, e188, e187, e186, e185, e184, e183, e182, e181, e180, e179, e178, e177] at c207x; rw [if_pos c207x] at h; with_reducible exact h))⟩
        ·
          refine lv_aload_n hx hb d_18_14_140 rfl (lv_at hl 0 rfl) ?_
          refine lv_dup hx hb d_18_14_141 rfl ?_
          refine q_get (ci := 16) (j := 4) (v := .int y131) C0 V i_TR rfl rfl hO127 (by decide) w_2144 rfl d_18_14_142 ?_
          refine lv_iconst (v := 1) hx hb d_18_14_145 (by decide) ?_
          refine lv_iadd hx hb d_18_14_146 ?_
          obtain ⟨a210, e211⟩ := q_nm (y131 + 1 : Int32)
          refine q_ti (v := a210) e211 ?_
          refine q_put (ci := 16) (j := 4) (v := .int a210) (ty := .int) C0 V i_TR o_TR n_TR rfl rfl hO127 (by decide) w_2144 rfl rfl rfl rfl (Nat.le_of_ble_eq_true rfl) d_18_14_147 (fun H locs w212 hu213 hO127 V => ?_)
          replace hO127 : w212[153]? = (some (q 153, .inr (16, [.int y128, .ref (q 154), .int y129, .int y130, .int a210, .int y132, .ref (q 155), .int y133, .int y134, .long y135, .ref (q 156), .int y136, .int y137, .long y138, .long y139, .int y140, .int y141])) : Option (Nat × va_E)) := hO127
          replace hI := n_p153 hI hu213 hO127 ⟨(by have t1 : 0 ≤ t0_1.toInt ∧ t0_1.toInt ≤ 4100 := btt0_1; have t2 : t0_1.toInt ≤ y129.toInt := b150; omega), (by have t1 : 0 ≤ t0_1.toInt ∧ t0_1.toInt ≤ 4100 := btt0_1; have t2 : y129.toInt ≤ t0_1.toInt := b151; omega)⟩ ⟨(by have t1 : 0 ≤ t0_4.toInt ∧ t0_4.toInt ≤ 1 := btt0_4; have t2 : t0_4.toInt ≤ y132.toInt := b154; omega), (by have t1 : 0 ≤ t0_4.toInt ∧ t0_4.toInt ≤ 1 := btt0_4; have t2 : y132.toInt ≤ t0_4.toInt := b155; omega)⟩ ⟨(by have t1 : 0 ≤ t0_13.toInt ∧ t0_13.toInt ≤ 1 := btt0_13; have t2 : t0_13.toInt ≤ y141.toInt := b168; omega), (by have t1 : 0 ≤ t0_13.toInt ∧ t0_13.toInt ≤ 1 := btt0_13; have t2 : y141.toInt ≤ t0_13.toInt := b169; omega)⟩
          replace hT1 := (hu213 _ (by decide)).trans hT1
          replace hA143 := (hu213 _ (by decide)).trans hA143
          replace hF := q_us hF hu213 (by simp)
          refine lv_aload_n hx hb d_18_14_150 rfl (lv_at hl 0 rfl) ?_
          have ob214 : True ∧ S_TR_power y128 y129 y130 a210 y132 y133 y134 y135 y136 y137 y138 y139 y140 y141 t1_0 := (by rw [← e211, e190, e189, e188, e187, e186, e185, e184, e183, e182, e181, e180, e179, e178, e177]; have h := hS193; rw [S_TR_number_c121.eq_1] at h; have c197x := c197; rw [e176] at c197x; rw [if_neg c197x] at h; replace h := q_s2 h; have c207x := c207; rw [e206, e190, e189, e188, e187, e186, e185, e184, e183, e182, e181, e180, e179, e178, e177] at c207x; rw [if_neg c207x] at h; with_reducible exact h.2.1)
          refine q_goi V (q_runV (As := []) (rest := []) (d := 2) (mc := 0) (ms := 0) (ci := 16) C0 V rfl LV_TR_70 (X_TR_power l D g q w212   hI y128 y129 y130 a210 y132 y133 y134 y135 y136 y137 y138 y139 y140 y141 hO127 t1_0 hT1 ob214 _) rfl rfl hO127 rfl hl.1 rfl (Nat.le_of_ble_eq_true rfl) ⟨by decide, by decide⟩ ⟨Nat.le_of_ble_eq_true rfl, Nat.le_of_ble_eq_true rfl⟩ d_18_14_151) (fun a217 u215 H locs hp216 V => ?_)
          obtain ⟨hI, hZ9⟩ := hp216
          obtain ⟨hu260, hZ9⟩ := hZ9
          obtain ⟨y219, hZ9⟩ := hZ9
          obtain ⟨y220, hZ9⟩ := hZ9
          obtain ⟨y221, hZ9⟩ := hZ9
          obtain ⟨y222, hZ9⟩ := hZ9
          obtain ⟨y223, hZ9⟩ := hZ9
          obtain ⟨y224, hZ9⟩ := hZ9
          obtain ⟨y225, hZ9⟩ := hZ9
          obtain ⟨y226, hZ9⟩ := hZ9
          obtain ⟨y227, hZ9⟩ := hZ9
          obtain ⟨y228, hZ9⟩ := hZ9
          obtain ⟨y229, hZ9⟩ := hZ9
          obtain ⟨y230, hZ9⟩ := hZ9
          obtain ⟨y231, hZ9⟩ := hZ9
          obtain ⟨y232, hZ9⟩ := hZ9
          obtain ⟨hO218, hZ9⟩ := hZ9
          replace hZ9 := hZ9.2.2
          obtain ⟨b235, hZ9⟩ := hZ9
          obtain ⟨b236, hZ9⟩ := hZ9
          obtain ⟨b237, hZ9⟩ := hZ9
          obtain ⟨b238, hZ9⟩ := hZ9
          obtain ⟨b239, hZ9⟩ := hZ9
          obtain ⟨b240, hZ9⟩ := hZ9
          obtain ⟨b241, hZ9⟩ := hZ9
          obtain ⟨b242, hZ9⟩ := hZ9
          obtain ⟨b243, hZ9⟩ := hZ9
          obtain ⟨b244, hZ9⟩ := hZ9
          obtain ⟨b245, hZ9⟩ := hZ9
          obtain ⟨b246, hZ9⟩ := hZ9
          obtain ⟨b247, hZ9⟩ := hZ9
          obtain ⟨b248, hZ9⟩ := hZ9
          obtain ⟨b249, hZ9⟩ := hZ9
          obtain ⟨b250, hZ9⟩ := hZ9
          obtain ⟨b251, hZ9⟩ := hZ9
          obtain ⟨b252, hZ9⟩ := hZ9
          obtain ⟨b253, hZ9⟩ := hZ9
          obtain ⟨b254, hZ9⟩ := hZ9
          obtain ⟨b255, hZ9⟩ := hZ9
          obtain ⟨b256, hZ9⟩ := hZ9
          obtain ⟨b257, hZ9⟩ := hZ9
          obtain ⟨b258, hE259⟩ := hZ9
          replace hO218 : u215[153]? = (some (q 153, .inr (16, [.int y219, .ref (q 154), .int y220, .int y221, .int y222, .int y223, .ref (q 155), .int y224, .int y225, .long y226, .ref (q 156), .int y227, .int y228, .long y229, .long y230, .int y231, .int y232])) : Option (Nat × va_E)) := hO218
          obtain ⟨p261, e262⟩ : ∃ z, z = (F_TR_power y128 y129 y130 a210 y132 y133 y134 y135 y136 y137 y138 y139 y140 y141 t1_0) := ⟨_, rfl⟩
          have e263 : a217 = p261.1 := congrArg (fun z => z.1) (hE259.trans e262.symm)
          have e264 : y219 = p261.2.1 := congrArg (fun z => z.2.1) (hE259.trans e262.symm)
          have e265 : y220 = p261.2.2.1 := congrArg (fun z => z.2.2.1) (hE259.trans e262.symm)
          have e266 : y221 = p261.2.2.2.1 := congrArg (fun z => z.2.2.2.1) (hE259.trans e262.symm)
          have e267 : y222 = p261.2.2.2.2.1 := congrArg (fun z => z.2.2.2.2.1) (hE259.trans e262.symm)
          have e268 : y223 = p261.2.2.2.2.2.1 := congrArg (fun z => z.2.2.2.2.2.1) (hE259.trans e262.symm)
          have e269 : y224 = p261.2.2.2.2.2.2.1 := congrArg (fun z => z.2.2.2.2.2.2.1) (hE259.trans e262.symm)
          have e270 : y225 = p261.2.2.2.2.2.2.2.1 := congrArg (fun z => z.2.2.2.2.2.2.2.1) (hE259.trans e262.symm)
          have e271 : y226 = p261.2.2.2.2.2.2.2.2.1 := congrArg (fun z => z.2.2.2.2.2.2.2.2.1) (hE259.trans e262.symm)
          have e272 : y227 = p261.2.2.2.2.2.2.2.2.2.1 := congrArg (fun z => z.2.2.2.2.2.2.2.2.2.1) (hE259.trans e262.symm)
          have e273 : y228 = p261.2.2.2.2.2.2.2.2.2.2.1 := congrArg (fun z => z.2.2.2.2.2.2.2.2.2.2.1) (hE259.trans e262.symm)
          have e274 : y229 = p261.2.2.2.2.2.2.2.2.2.2.2.1 := congrArg (fun z => z.2.2.2.2.2.2.2.2.2.2.2.1) (hE259.trans e262.symm)
          have e275 : y230 = p261.2.2.2.2.2.2.2.2.2.2.2.2.1 := congrArg (fun z => z.2.2.2.2.2.2.2.2.2.2.2.2.1) (hE259.trans e262.symm)
          have e276 : y231 = p261.2.2.2.2.2.2.2.2.2.2.2.2.2.1 := congrArg (fun z => z.2.2.2.2.2.2.2.2.2.2.2.2.2.1) (hE259.trans e262.symm)
          have e277 : y232 = p261.2.2.2.2.2.2.2.2.2.2.2.2.2.2 := congrArg (fun z => z.2.2.2.2.2.2.2.2.2.2.2.2.2.2) (hE259.trans e262.symm)
          replace b235 : q_F (y128.toInt ≤ y219.toInt) := b235
          replace b236 : q_F (y219.toInt ≤ y128.toInt) := b236
          replace b237 : q_F (y129.toInt ≤ y220.toInt) := b237
          replace b238 : q_F (y220.toInt ≤ y129.toInt) := b238
          replace b239 : q_F (y130.toInt ≤ y221.toInt) := b239
          replace b240 : q_F (y221.toInt ≤ y130.toInt) := b240
          replace b241 : q_F (y132.toInt ≤ y223.toInt) := b241
          replace b242 : q_F (y223.toInt ≤ y132.toInt) := b242
          replace b243 : q_F (y133.toInt ≤ y224.toInt) := b243
          replace b244 : q_F (y224.toInt ≤ y133.toInt) := b244
          replace b245 : q_F (y134.toInt ≤ y225.toInt) := b245
          replace b246 : q_F (y225.toInt ≤ y134.toInt) := b246
          replace b247 : q_F (y136.toInt ≤ y227.toInt) := b247
          replace b248 : q_F (y227.toInt ≤ y136.toInt) := b248
          replace b249 : q_F (y137.toInt ≤ y228.toInt) := b249
          replace b250 : q_F (y228.toInt ≤ y137.toInt) := b250
          replace b251 : q_F (y138.toInt ≤ y229.toInt) := b251
          replace b252 : q_F (y229.toInt ≤ y138.toInt) := b252
          replace b253 : q_F (y139.toInt ≤ y230.toInt) := b253
          replace b254 : q_F (y230.toInt ≤ y139.toInt) := b254
          replace b255 : q_F (y140.toInt ≤ y231.toInt) := b255
          replace b256 : q_F (y231.toInt ≤ y140.toInt) := b256
          replace b257 : q_F (y141.toInt ≤ y232.toInt) := b257
          replace b258 : q_F (y232.toInt ≤ y141.toInt) := b258
          replace hT1 := (hu260 _ (by decide)).trans hT1
          replace hA143 := (hu260 _ (by decide)).trans hA143
          replace hF := q_uc hF hu260 (by simp)
          have hR278 := (show F_TR_number_c151 t0_0 t0_1 t0_2 t0_3 t0_4 t0_5 t0_6 t0_7 t0_8 t0_9 t0_10 t0_11 t0_12 t0_13 t1_0 t2_0 p174 f142 p261 = (F_TR_number t0_0 t0_1 t0_2 t0_3 t0_4 t0_5 t0_6 t0_7 t0_8 t0_9 t0_10 t0_11 t0_12 t0_13 t1_0 t2_0) from Eq.trans (by have c197x := c197; rw [e176] at c197x; have c207x := c207; rw [e206, e190, e189, e188, e187, e186, e185, e184, e183, e182, e181, e180, e179, e178, e177] at c207x; rw [e262, ← e211, e191, e190, e189, e188, e187, e186, e185, e184, e183, e182, e181, e180, e179, e178, e177, F_TR_number_c121.eq_1, if_neg c197x, if_neg c207x]) hR192)
          have hS279 := (show True ∧ S_TR_number_c151 t0_0 t0_1 t0_2 t0_3 t0_4 t0_5 t0_6 t0_7 t0_8 t0_9 t0_10 t0_11 t0_12 t0_13 t1_0 t2_0 p174 f142 p261 from (by rw [e262, ← e211, e191, e190, e189, e188, e187, e186, e185, e184, e183, e182, e181, e180, e179, e178, e177]; have h := hS193; rw [S_TR_number_c121.eq_1] at h; have c197x := c197; rw [e176] at c197x; rw [if_neg c197x] at h; replace h := q_s2 h; have c207x := c207; rw [e206, e190, e189, e188, e187, e186, e185, e184, e183, e182, e181, e180, e179, e178, e177] at c207x; rw [if_neg c207x] at h; replace h := q_s2 h; with_reducible exact h))
          refine lv_if_ne (tgt := 159) hx hb d_18_14_154 (by decide) (fun c283 => ?_) (fun c283 => ?_)
          ·
            exact J51 ((y219 : Int32), (y220 : Int32), (y221 : Int32), (y222 : Int32), (y223 : Int32), (y224 : Int32), (y225 : Int32), (y226 : Int64), (y227 : Int32), (y228 : Int32), (y229 : Int64), (y230 : Int64), (y231 : Int32), (y232 : Int32), (f142 : (Nat → Int32))) _ _ _ _ ⟨(show q_F (0 ≤ y221.toInt) from (show 0 ≤ y221.toInt from by have t1 : 0 ≤ y130.toInt := b152; have t2 : y130.toInt ≤ y221.toInt := b239; omega)), (show q_F (y221.toInt ≤ 1) from (show y221.toInt ≤ 1 from by have t1 : y130.toInt ≤ 0 := b153; have t2 : y221.toInt ≤ y130.toInt := b240; omega)), (show q_F (1 ≤ y224.toInt) from (show 1 ≤ y224.toInt from by have t1 : 0 ≤ a126.toInt := b144; have t2 : a126.toInt ≤ y133.toInt := b171; have t3 : a126.toInt ≠ 0 := b198; have t4 : y133.toInt ≤ y224.toInt := b243; omega)), (show q_F (y224.toInt ≤ 4100) from (show y224.toInt ≤ 4100 from by have t1 : a126.toInt ≤ 1 := b145; have t2 : y133.toInt ≤ a126.toInt + 4099 := b170; have t3 : y224.toInt ≤ y133.toInt := b244; omega)), (show q_F (0 ≤ y225.toInt) from (show 0 ≤ y225.toInt from by have t1 : 0 ≤ y134.toInt := b146; have t2 : y134.toInt ≤ y225.toInt := b245; omega)), (show q_F (y225.toInt ≤ 4100) from (show y225.toInt ≤ 4100 from by have t1 : y134.toInt ≤ 4100 := b147; have t2 : y225.toInt ≤ y134.toInt := b246; omega)), (show q_F (t0_0.toInt ≤ y219.toInt) from (show t0_0.toInt ≤ y219.toInt from by have t1 : t0_0.toInt ≤ y128.toInt := b148; have t2 : y128.toInt ≤ y219.toInt := b235; omega)), (show q_F (y219.toInt ≤ t0_0.toInt) from (show y219.toInt ≤ t0_0.toInt from by have t1 : y128.toInt ≤ t0_0.toInt := b149; have t2 : y219.toInt ≤ y128.toInt := b236; omega)), (show q_F (t0_1.toInt ≤ y220.toInt) from (show t0_1.toInt ≤ y220.toInt from by have t1 : t0_1.toInt ≤ y129.toInt := b150; have t2 : y129.toInt ≤ y220.toInt := b237; omega)), (show q_F (y220.toInt ≤ t0_1.toInt) from (show y220.toInt ≤ t0_1.toInt from by have t1 : y129.toInt ≤ t0_1.toInt := b151; have t2 : y220.toInt ≤ y129.toInt := b238; omega)), (show q_F (t0_4.toInt ≤ y223.toInt) from (show t0_4.toInt ≤ y223.toInt from by have t1 : t0_4.toInt ≤ y132.toInt := b154; have t2 : y132.toInt ≤ y223.toInt := b241; omega)), (show q_F (y223.toInt ≤ t0_4.toInt) from (show y223.toInt ≤ t0_4.toInt from by have t1 : y132.toInt ≤ t0_4.toInt := b155; have t2 : y223.toInt ≤ y132.toInt := b242; omega)), (show q_F (t0_8.toInt ≤ y227.toInt) from (show t0_8.toInt ≤ y227.toInt from by have t1 : t0_8.toInt ≤ y136.toInt := b158; have t2 : y136.toInt ≤ y227.toInt := b247; omega)), (show q_F (y227.toInt ≤ t0_8.toInt) from (show y227.toInt ≤ t0_8.toInt from by have t1 : y136.toInt ≤ t0_8.toInt := b159; have t2 : y227.toInt ≤ y136.toInt := b248; omega)), (show q_F (t0_9.toInt ≤ y228.toInt) from (show t0_9.toInt ≤ y228.toInt from by have t1 : t0_9.toInt ≤ y137.toInt := b160; have t2 : y137.toInt ≤ y228.toInt := b249; omega)), (show q_F (y228.toInt ≤ t0_9.toInt) from (show y228.toInt ≤ t0_9.toInt from by have t1 : y137.toInt ≤ t0_9.toInt := b161; have t2 : y228.toInt ≤ y137.toInt := b250; omega)), (show q_F (t0_10.toInt ≤ y229.toInt) from (show t0_10.toInt ≤ y229.toInt from by have t1 : t0_10.toInt ≤ y138.toInt := b162; have t2 : y138.toInt ≤ y229.toInt := b251; omega)), (show q_F (y229.toInt ≤ t0_10.toInt) from (show y229.toInt ≤ t0_10.toInt from by have t1 : y138.toInt ≤ t0_10.toInt := b163; have t2 : y229.toInt ≤ y138.toInt := b252; omega)), (show q_F (t0_11.toInt ≤ y230.toInt) from (show t0_11.toInt ≤ y230.toInt from by have t1 : t0_11.toInt ≤ y139.toInt := b164; have t2 : y139.toInt ≤ y230.toInt := b253; omega)), (show q_F (y230.toInt ≤ t0_11.toInt) from (show y230.toInt ≤ t0_11.toInt from by have t1 : y139.toInt ≤ t0_11.toInt := b165; have t2 : y230.toInt ≤ y139.toInt := b254; omega)), (show q_F (t0_12.toInt ≤ y231.toInt) from (show t0_12.toInt ≤ y231.toInt from by have t1 : t0_12.toInt ≤ y140.toInt := b166; have t2 : y140.toInt ≤ y231.toInt := b255; omega)), (show q_F (y231.toInt ≤ t0_12.toInt) from (show y231.toInt ≤ t0_12.toInt from by have t1 : y140.toInt ≤ t0_12.toInt := b167; have t2 : y231.toInt ≤ y140.toInt := b256; omega)), (show q_F (t0_13.toInt ≤ y232.toInt) from (show t0_13.toInt ≤ y232.toInt from by have t1 : t0_13.toInt ≤ y141.toInt := b168; have t2 : y141.toInt ≤ y232.toInt := b257; omega)), (show q_F (y232.toInt ≤ t0_13.toInt) from (show y232.toInt ≤ t0_13.toInt from by have t1 : y141.toInt ≤ t0_13.toInt := b169; have t2 : y232.toInt ≤ y141.toInt := b258; omega)), V, q_lw hl (q_lw1 0 rfl q_lw0), hI, hF, hO218, hT1, hA143, (show F_TR_number_J159 t0_0 t0_1 t0_2 t0_3 t0_4 t0_5 t0_6 t0_7 t0_8 t0_9 t0_10 t0_11 t0_12 t0_13 t1_0 t2_0 y219 y220 y221 y222 y223 y224 y225 y226 y227 y228 y229 y230 y231 y232 f142 = (F_TR_number t0_0 t0_1 t0_2 t0_3 t0_4 t0_5 t0_6 t0_7 t0_8 t0_9 t0_10 t0_11 t0_12 t0_13 t1_0 t2_0) from Eq.trans (by have c283x := c283; rw [e263] at c283x; rw [e277, e276, e275, e274, e273, e272, e271, e270, e269, e268, e267, e266, e265, e264, F_TR_number_c151.eq_1, if_neg c283x]) hR278), (show True ∧ S_TR_number_J159 t0_0 t0_1 t0_2 t0_3 t0_4 t0_5 t0_6 t0_7 t0_8 t0_9 t0_10 t0_11 t0_12 t0_13 t1_0 t2_0 y219 y220 y221 y222 y223 y224 y225 y226 y227 y228 y229 y230 y231 y232 f142 from (by rw [e277, e276, e275, e274, e273, e272, e271, e270, e269, e268, e267, e266, e265, e264]; have h := hS279; rw [S_TR_number_c151.eq_1] at h; have c283x := c283; rw [e263] at c283x; rw [if_neg c283x] at h; with_reducible exact h))⟩
          ·
            refine lv_iconst (v := 0) hx hb d_18_14_157 (by decide) ?_
            exact q_retz C0 V (by decide) (⟨hI, hF, y219, y220, y221, y222, y223, y224, y225, y226, y227, y228, y229, y230, y231, y232, f142, hO218, hA143, (show 0 ≤ (0 : Int32).toInt from (by have z16 : (0 : Int32).toInt = 0 := rfl; omega)), (show (0 : Int32).toInt ≤ 1 from (by have z16 : (0 : Int32).toInt = 0 := rfl; omega)), (show 0 ≤ y221.toInt from (by have z16 : (0 : Int32).toInt = 0 := rfl; have t1 : 0 ≤ y130.toInt := b152; have t2 : y130.toInt ≤ y221.toInt := b239; omega)), (show y221.toInt ≤ 1 from (by have z16 : (0 : Int32).toInt = 0 := rfl; have t1 : y130.toInt ≤ 0 := b153; have t2 : y221.toInt ≤ y130.toInt := b240; omega)), (show y224.toInt ≤ 4100 from (by have z16 : (0 : Int32).toInt = 0 := rfl; have t1 : a126.toInt ≤ 1 := b145; have t2 : y133.toInt ≤ a126.toInt + 4099 := b170; have t3 : y224.toInt ≤ y133.toInt := b244; omega)), (show 0 ≤ y225.toInt from (by have z16 : (0 : Int32).toInt = 0 := rfl; have t1 : 0 ≤ y134.toInt := b146; have t2 : y134.toInt ≤ y225.toInt := b245; omega)), (show y225.toInt ≤ 4100 from (by have z16 : (0 : Int32).toInt = 0 := rfl; have t1 : y134.toInt ≤ 4100 := b147; have t2 : y225.toInt ≤ y134.toInt := b246; omega)), (show t0_0.toInt ≤ y219.toInt from (by have z16 : (0 : Int32).toInt = 0 := rfl; have t1 : t0_0.toInt ≤ y128.toInt := b148; have t2 : y128.toInt ≤ y219.toInt := b235; omega)), (show y219.toInt ≤ t0_0.toInt from (by have z16 : (0 : Int32).toInt = 0 := rfl; have t1 : y128.toInt ≤ t0_0.toInt := b149; have t2 : y219.toInt ≤ y128.toInt := b236; omega)), (show t0_1.toInt ≤ y220.toInt from (by have z16 : (0 : Int32).toInt = 0 := rfl; have t1 : t0_1.toInt ≤ y129.toInt := b150; have t2 : y129.toInt ≤ y220.toInt := b237; omega)), (show y220.toInt ≤ t0_1.toInt from (by have z16 : (0 : Int32).toInt = 0 := rfl; have t1 : y129.toInt ≤ t0_1.toInt := b151; have t2 : y220.toInt ≤ y129.toInt := b238; omega)), (show t0_4.toInt ≤ y223.toInt from (by have z16 : (0 : Int32).toInt = 0 := rfl; have t1 : t0_4.toInt ≤ y132.toInt := b154; have t2 : y132.toInt ≤ y223.toInt := b241; omega)), (show y223.toInt ≤ t0_4.toInt from (by have z16 : (0 : Int32).toInt = 0 := rfl; have t1 : y132.toInt ≤ t0_4.toInt := b155; have t2 : y223.toInt ≤ y132.toInt := b242; omega)), (show t0_8.toInt ≤ y227.toInt from (by have z16 : (0 : Int32).toInt = 0 := rfl; have t1 : t0_8.toInt ≤ y136.toInt := b158; have t2 : y136.toInt ≤ y227.toInt := b247; omega)), (show y227.toInt ≤ t0_8.toInt from (by have z16 : (0 : Int32).toInt = 0 := rfl; have t1 : y136.toInt ≤ t0_8.toInt := b159; have t2 : y227.toInt ≤ y136.toInt := b248; omega)), (show t0_9.toInt ≤ y228.toInt from (by have z16 : (0 : Int32).toInt = 0 := rfl; have t1 : t0_9.toInt ≤ y137.toInt := b160; have t2 : y137.toInt ≤ y228.toInt := b249; omega)), (show y228.toInt ≤ t0_9.toInt from (by have z16 : (0 : Int32).toInt = 0 := rfl; have t1 : y137.toInt ≤ t0_9.toInt := b161; have t2 : y228.toInt ≤ y137.toInt := b250; omega)), (show t0_10.toInt ≤ y229.toInt from (by have z16 : (0 : Int32).toInt = 0 := rfl; have t1 : t0_10.toInt ≤ y138.toInt := b162; have t2 : y138.toInt ≤ y229.toInt := b251; omega)), (show y229.toInt ≤ t0_10.toInt from (by have z16 : (0 : Int32).toInt = 0 := rfl; have t1 : y138.toInt ≤ t0_10.toInt := b163; have t2 : y229.toInt ≤ y138.toInt := b252; omega)), (show t0_11.toInt ≤ y230.toInt from (by have z16 : (0 : Int32).toInt = 0 := rfl; have t1 : t0_11.toInt ≤ y139.toInt := b164; have t2 : y139.toInt ≤ y230.toInt := b253; omega)), (show y230.toInt ≤ t0_11.toInt from (by have z16 : (0 : Int32).toInt = 0 := rfl; have t1 : y139.toInt ≤ t0_11.toInt := b165; have t2 : y230.toInt ≤ y139.toInt := b254; omega)), (show t0_12.toInt ≤ y231.toInt from (by have z16 : (0 : Int32).toInt = 0 := rfl; have t1 : t0_12.toInt ≤ y140.toInt := b166; have t2 : y140.toInt ≤ y231.toInt := b255; omega)), (show y231.toInt ≤ t0_12.toInt from (by have z16 : (0 : Int32).toInt = 0 := rfl; have t1 : y140.toInt ≤ t0_12.toInt := b167; have t2 : y231.toInt ≤ y140.toInt := b256; omega)), (show t0_13.toInt ≤ y232.toInt from (by have z16 : (0 : Int32).toInt = 0 := rfl; have t1 : t0_13.toInt ≤ y141.toInt := b168; have t2 : y141.toInt ≤ y232.toInt := b257; omega)), (show y232.toInt ≤ t0_13.toInt from (by have z16 : (0 : Int32).toInt = 0 := rfl; have t1 : y141.toInt ≤ t0_13.toInt := b169; have t2 : y232.toInt ≤ y141.toInt := b258; omega)), (show (0 : Int32).toInt ≤ y224.toInt from (by have z16 : (0 : Int32).toInt = 0 := rfl; have t1 : 0 ≤ a126.toInt := b144; have t2 : a126.toInt ≤ y133.toInt := b171; have t3 : y133.toInt ≤ y224.toInt := b243; omega)), (show ((0 : Int32), y219, y220, y221, y222, y223, y224, y225, y226, y227, y228, y229, y230, y231, y232, f142) = (F_TR_number t0_0 t0_1 t0_2 t0_3 t0_4 t0_5 t0_6 t0_7 t0_8 t0_9 t0_10 t0_11 t0_12 t0_13 t1_0 t2_0) from Eq.trans (by have c283x := c283; rw [e263] at c283x; rw [e277, e276, e275, e274, e273, e272, e271, e270, e269, e268, e267, e266, e265, e264, F_TR_number_c151.eq_1, if_pos c283x]) hR278)⟩) d_18_14_158
      ·
        refine lv_iconst (v := 0) hx hb d_18_14_127 (by decide) ?_
        exact q_retz C0 V (by decide) (⟨hI, hF, y128, y129, y130, y131, y132, y133, y134, y135, y136, y137, y138, y139, y140, y141, f142, hO127, hA143, (show 0 ≤ (0 : Int32).toInt from (by have z16 : (0 : Int32).toInt = 0 := rfl; omega)), (show (0 : Int32).toInt ≤ 1 from (by have z16 : (0 : Int32).toInt = 0 := rfl; omega)), (show 0 ≤ y130.toInt from (by have z16 : (0 : Int32).toInt = 0 := rfl; have t1 : 0 ≤ y130.toInt := b152; omega)), (show y130.toInt ≤ 1 from (by have z16 : (0 : Int32).toInt = 0 := rfl; have t1 : y130.toInt ≤ 0 := b153; omega)), (show y133.toInt ≤ 4100 from (by have z16 : (0 : Int32).toInt = 0 := rfl; have t1 : a126.toInt ≤ 1 := b145; have t2 : y133.toInt ≤ a126.toInt + 4099 := b170; omega)), (show 0 ≤ y134.toInt from (by have z16 : (0 : Int32).toInt = 0 := rfl; have t1 : 0 ≤ y134.toInt := b146; omega)), (show y134.toInt ≤ 4100 from (by have z16 : (0 : Int32).toInt = 0 := rfl; have t1 : y134.toInt ≤ 4100 := b147; omega)), (show t0_0.toInt ≤ y128.toInt from (by have z16 : (0 : Int32).toInt = 0 := rfl; have t1 : t0_0.toInt ≤ y128.toInt := b148; omega)), (show y128.toInt ≤ t0_0.toInt from (by have z16 : (0 : Int32).toInt = 0 := rfl; have t1 : y128.toInt ≤ t0_0.toInt := b149; omega)), (show t0_1.toInt ≤ y129.toInt from (by have z16 : (0 : Int32).toInt = 0 := rfl; have t1 : t0_1.toInt ≤ y129.toInt := b150; omega)), (show y129.toInt ≤ t0_1.toInt from (by have z16 : (0 : Int32).toInt = 0 := rfl; have t1 : y129.toInt ≤ t0_1.toInt := b151; omega)), (show t0_4.toInt ≤ y132.toInt from (by have z16 : (0 : Int32).toInt = 0 := rfl; have t1 : t0_4.toInt ≤ y132.toInt := b154; omega)), (show y132.toInt ≤ t0_4.toInt from (by have z16 : (0 : Int32).toInt = 0 := rfl; have t1 : y132.toInt ≤ t0_4.toInt := b155; omega)), (show t0_8.toInt ≤ y136.toInt from (by have z16 : (0 : Int32).toInt = 0 := rfl; have t1 : t0_8.toInt ≤ y136.toInt := b158; omega)), (show y136.toInt ≤ t0_8.toInt from (by have z16 : (0 : Int32).toInt = 0 := rfl; have t1 : y136.toInt ≤ t0_8.toInt := b159; omega)), (show t0_9.toInt ≤ y137.toInt from (by have z16 : (0 : Int32).toInt = 0 := rfl; have t1 : t0_9.toInt ≤ y137.toInt := b160; omega)), (show y137.toInt ≤ t0_9.toInt from (by have z16 : (0 : Int32).toInt = 0 := rfl; have t1 : y137.toInt ≤ t0_9.toInt := b161; omega)), (show t0_10.toInt ≤ y138.toInt from (by have z16 : (0 : Int32).toInt = 0 := rfl; have t1 : t0_10.toInt ≤ y138.toInt := b162; omega)), (show y138.toInt ≤ t0_10.toInt from (by have z16 : (0 : Int32).toInt = 0 := rfl; have t1 : y138.toInt ≤ t0_10.toInt := b163; omega)), (show t0_11.toInt ≤ y139.toInt from (by have z16 : (0 : Int32).toInt = 0 := rfl; have t1 : t0_11.toInt ≤ y139.toInt := b164; omega)), (show y139.toInt ≤ t0_11.toInt from (by have z16 : (0 : Int32).toInt = 0 := rfl; have t1 : y139.toInt ≤ t0_11.toInt := b165; omega)), (show t0_12.toInt ≤ y140.toInt from (by have z16 : (0 : Int32).toInt = 0 := rfl; have t1 : t0_12.toInt ≤ y140.toInt := b166; omega)), (show y140.toInt ≤ t0_12.toInt from (by have z16 : (0 : Int32).toInt = 0 := rfl; have t1 : y140.toInt ≤ t0_12.toInt := b167; omega)), (show t0_13.toInt ≤ y141.toInt from (by have z16 : (0 : Int32).toInt = 0 := rfl; have t1 : t0_13.toInt ≤ y141.toInt := b168; omega)), (show y141.toInt ≤ t0_13.toInt from (by have z16 : (0 : Int32).toInt = 0 := rfl; have t1 : y141.toInt ≤ t0_13.toInt := b169; omega)), (show (0 : Int32).toInt ≤ y133.toInt from (by have z16 : (0 : Int32).toInt = 0 := rfl; have t1 : 0 ≤ a126.toInt := b144; have t2 : a126.toInt ≤ y133.toInt := b171; omega)), (show ((0 : Int32), y128, y129, y130, y131, y132, y133, y134, y135, y136, y137, y138, y139, y140, y141, f142) = (F_TR_number t0_0 t0_1 t0_2 t0_3 t0_4 t0_5 t0_6 t0_7 t0_8 t0_9 t0_10 t0_11 t0_12 t0_13 t1_0 t2_0) from Eq.trans (by have c197x := c197; rw [e176] at c197x; rw [e191, e190, e189, e188, e187, e186, e185, e184, e183, e182, e181, e180, e179, e178, e177, F_TR_number_c121.eq_1, if_pos c197x]) hR192)⟩) d_18_14_128
    ·
      intro J115
      refine lv_icmp_ne (tgt := 114) hx hb d_18_14_11 (by decide) (fun c287 => ?_) (fun c287 => ?_)
      ·
        exact J115 (()) _ _ _ w25 ⟨V, q_lw hl (q_lw1 0 rfl q_lw0), (show F_TR_number_J114 t0_0 t0_1 t0_2 t0_3 t0_4 t0_5 t0_6 t0_7 t0_8 t0_9 t0_10 t0_11 t0_12 t0_13 t1_0 t2_0 = (F_TR_number t0_0 t0_1 t0_2 t0_3 t0_4 t0_5 t0_6 t0_7 t0_8 t0_9 t0_10 t0_11 t0_12 t0_13 t1_0 t2_0) from (by have c287x := c287; rw [e32] at c287x; rw [F_TR_number.eq_1, if_neg c287x])), (show True ∧ S_TR_number_J114 t0_0 t0_1 t0_2 t0_3 t0_4 t0_5 t0_6 t0_7 t0_8 t0_9 t0_10 t0_11 t0_12 t0_13 t1_0 t2_0 from (by have h := hS; rw [S_TR_number.eq_1] at h; replace h := q_s2 h; have c287x := c287; rw [e32] at c287x; rw [if_neg c287x] at h; with_reducible exact h))⟩
      ·
        refine lv_aload_n hx hb d_18_14_14 rfl (lv_at hl 0 rfl) ?_
        refine q_get (ci := 16) (j := 4) (v := .int t0_3) C0 V i_TR rfl rfl hT0 (by decide) w_2144 rfl d_18_14_15 ?_
        refine lv_iconst (v := 1) hx hb d_18_14_18 (by decide) ?_
        refine lv_iadd hx hb d_18_14_19 ?_
        obtain ⟨a290, e291⟩ := q_nm (t0_3 + 1 : Int32)
        refine q_ti (v := a290) e291 ?_
        refine lv_aload_n hx hb d_18_14_20 rfl (lv_at hl 0 rfl) ?_
        refine q_get (ci := 16) (j := 2) (v := .int t0_1) C0 V i_TR rfl rfl hT0 (by decide) w_2141 rfl d_18_14_21 ?_
        refine lv_icmp_ge (tgt := 114) hx hb d_18_14_24 (by decide) (fun c292 => ?_) (fun c292 => ?_)
        ·
          exact J115 (()) _ _ _ w25 ⟨V, q_lw hl (q_lw1 0 rfl q_lw0), (show F_TR_number_J114 t0_0 t0_1 t0_2 t0_3 t0_4 t0_5 t0_6 t0_7 t0_8 t0_9 t0_10 t0_11 t0_12 t0_13 t1_0 t2_0 = (F_TR_number t0_0 t0_1 t0_2 t0_3 t0_4 t0_5 t0_6 t0_7 t0_8 t0_9 t0_10 t0_11 t0_12 t0_13 t1_0 t2_0) from (by have c287x := c287; rw [e32] at c287x; have c292x := c292; rw [← e291] at c292x; rw [F_TR_number.eq_1, if_pos c287x, if_pos c292x])), (show True ∧ S_TR_number_J114 t0_0 t0_1 t0_2 t0_3 t0_4 t0_5 t0_6 t0_7 t0_8 t0_9 t0_10 t0_11 t0_12 t0_13 t1_0 t2_0 from (by have h := hS; rw [S_TR_number.eq_1] at h; replace h := q_s2 h; have c287x := c287; rw [e32] at c287x; rw [if_pos c287x] at h; have c292x := c292; rw [← e291] at c292x; rw [if_pos c292x] at h; with_reducible exact h))⟩
        ·
          refine lv_aload_n hx hb d_18_14_27 rfl (lv_at hl 0 rfl) ?_
          refine q_get (ci := 16) (j := 1) (v := .ref (q 154)) C0 V i_TR rfl rfl hT0 (by decide) w_2139 rfl d_18_14_28 ?_
          refine lv_aload_n hx hb d_18_14_31 rfl (lv_at hl 0 rfl) ?_
          refine q_get (ci := 16) (j := 4) (v := .int t0_3) C0 V i_TR rfl rfl hT0 (by decide) w_2144 rfl d_18_14_32 ?_
          refine lv_iconst (v := 1) hx hb d_18_14_35 (by decide) ?_
          refine lv_iadd hx hb d_18_14_36 ?_
          obtain ⟨a295, e296⟩ := q_nm (t0_3 + 1 : Int32)
          refine q_ti (v := a295) e296 ?_
          have ob297 : q_F (0 ≤ a295.toInt) := (by rw [← e296]; have h := hS; rw [S_TR_number.eq_1] at h; replace h := q_s2 h; have c287x := c287; rw [e32] at c287x; rw [if_pos c287x] at h; have c292x := c292; rw [← e291] at c292x; rw [if_neg c292x] at h; exact h.2.1)
          have ob298 : q_F (a295.toInt ≤ 4099) := (by rw [← e296]; have h := hS; rw [S_TR_number.eq_1] at h; replace h := q_s2 h; have c287x := c287; rw [e32] at c287x; rw [if_pos c287x] at h; have c292x := c292; rw [← e291] at c292x; rw [if_neg c292x] at h; replace h := q_s2 h; exact h.2.1)
          refine q_iald C0 V hT1 (q_ix (x := a295.toInt) rfl (by first | with_reducible exact q_fe ob297 | (have t1 : 0 ≤ a295.toInt := ob297; omega)) (by have t1 : 0 ≤ a295.toInt := ob297; have t2 : a295.toInt ≤ 4099 := ob298; have e9 : (((4100 : Int32).toNatClampNeg : Nat) : Int) = 4100 := (by decide); omega)) d_18_14_37 ?_
          obtain ⟨a299, e300⟩ := q_nm (t1_0 a295.toNatClampNeg : Int32)
          refine q_ti (v := a299) e300 ?_
          refine lv_bipush (v := 120) hx hb d_18_14_38 (by decide) ?_
          refine q_join (X := Unit) (fun z H locs ls _ => q_Wd D g (va_A ws sz) s w25 H locs ∧ lv_has ls 1 [(0, .ref (q 153))] ∧ F_TR_number_J59 t0_0 t0_1 t0_2 t0_3 t0_4 t0_5 t0_6 t0_7 t0_8 t0_9 t0_10 t0_11 t0_12 t0_13 t1_0 t2_0 = (F_TR_number t0_0 t0_1 t0_2 t0_3 t0_4 t0_5 t0_6 t0_7 t0_8 t0_9 t0_10 t0_11 t0_12 t0_13 t1_0 t2_0) ∧ True ∧ S_TR_number_J59 t0_0 t0_1 t0_2 t0_3 t0_4 t0_5 t0_6 t0_7 t0_8 t0_9 t0_10 t0_11 t0_12 t0_13 t1_0 t2_0) (fun z => []) 59 0 0 ?_ ?_
          ·
            rintro _ H locs ls _ ⟨V, hl, hR305, hS306⟩
            replace hl : lv_has ls 1 [(0, .ref (q 153))] := hl
            refine lv_aload_n hx hb d_18_14_59 rfl (lv_at hl 0 rfl) ?_
            refine lv_iconst (v := 1) hx hb d_18_14_60 (by decide) ?_
            refine q_put (ci := 16) (j := 3) (v := .int 1) (ty := .int) C0 V i_TR o_TR n_TR rfl rfl hT0 (by decide) w_2143 rfl rfl rfl rfl (Nat.le_of_ble_eq_true rfl) d_18_14_61 (fun H locs w310 hu311 hT0 V => ?_)
            replace hT0 : w310[153]? = (some (q 153, .inr (16, [.int t0_0, .ref (q 154), .int t0_1, .int 1, .int t0_3, .int t0_4, .ref (q 155), .int t0_5, .int t0_6, .long 0, .ref (q 156), .int t0_8, .int t0_9, .long t0_10, .long t0_11, .int t0_12, .int t0_13])) : Option (Nat × va_E)) := hT0
            replace hI := n_p153 hI hu311 hT0 (by first | with_reducible exact q_fe btt0_1 | exact ⟨(by have t1 : 0 ≤ t0_1.toInt ∧ t0_1.toInt ≤ 4100 := btt0_1; omega), (by have t1 : 0 ≤ t0_1.toInt ∧ t0_1.toInt ≤ 4100 := btt0_1; omega)⟩) (by first | with_reducible exact q_fe btt0_4 | exact ⟨(by have t1 : 0 ≤ t0_4.toInt ∧ t0_4.toInt ≤ 1 := btt0_4; omega), (by have t1 : 0 ≤ t0_4.toInt ∧ t0_4.toInt ≤ 1 := btt0_4; omega)⟩) (by first | with_reducible exact q_fe btt0_13 | exact ⟨(by have t1 : 0 ≤ t0_13.toInt ∧ t0_13.toInt ≤ 1 := btt0_13; omega), (by have t1 : 0 ≤ t0_13.toInt ∧ t0_13.toInt ≤ 1 := btt0_13; omega)⟩)
            replace hT1 := (hu311 _ (by decide)).trans hT1
            replace hT2 := (hu311 _ (by decide)).trans hT2
            replace hF := q_us hF hu311 (by simp)
            refine lv_aload_n hx hb d_18_14_64 rfl (lv_at hl 0 rfl) ?_
            refine lv_dup hx hb d_18_14_65 rfl ?_
            refine q_get (ci := 16) (j := 4) (v := .int t0_3) C0 V i_TR rfl rfl hT0 (by decide) w_2144 rfl d_18_14_66 ?_
            refine lv_iconst (v := 2) hx hb d_18_14_69 (by decide) ?_
            refine lv_iadd hx hb d_18_14_70 ?_
            obtain ⟨a312, e313⟩ := q_nm (t0_3 + 2 : Int32)
            refine q_ti (v := a312) e313 ?_
            refine q_put (ci := 16) (j := 4) (v := .int a312) (ty := .int) C0 V i_TR o_TR n_TR rfl rfl hT0 (by decide) w_2144 rfl rfl rfl rfl (Nat.le_of_ble_eq_true rfl) d_18_14_71 (fun H locs w314 hu315 hT0 V => ?_)
            replace hT0 : w314[153]? = (some (q 153, .inr (16, [.int t0_0, .ref (q 154), .int t0_1, .int 1, .int a312, .int t0_4, .ref (q 155), .int t0_5, .int t0_6, .long 0, .ref (q 156), .int t0_8, .int t0_9, .long t0_10, .long t0_11, .int t0_12, .int t0_13])) : Option (Nat × va_E)) := hT0
            replace hI := n_p153 hI hu315 hT0 (by first | with_reducible exact q_fe btt0_1 | exact ⟨(by have t1 : 0 ≤ t0_1.toInt ∧ t0_1.toInt ≤ 4100 := btt0_1; omega), (by have t1 : 0 ≤ t0_1.toInt ∧ t0_1.toInt ≤ 4100 := btt0_1; omega)⟩) (by first | with_reducible exact q_fe btt0_4 | exact ⟨(by have t1 : 0 ≤ t0_4.toInt ∧ t0_4.toInt ≤ 1 := btt0_4; omega), (by have t1 : 0 ≤ t0_4.toInt ∧ t0_4.toInt ≤ 1 := btt0_4; omega)⟩) (by first | with_reducible exact q_fe btt0_13 | exact ⟨(by have t1 : 0 ≤ t0_13.toInt ∧ t0_13.toInt ≤ 1 := btt0_13; omega), (by have t1 : 0 ≤ t0_13.toInt ∧ t0_13.toInt ≤ 1 := btt0_13; omega)⟩)
            replace hT1 := (hu315 _ (by decide)).trans hT1
            replace hT2 := (hu315 _ (by decide)).trans hT2
            replace hF := q_us hF hu315 (by simp)
            refine lv_aload_n hx hb d_18_14_74 rfl (lv_at hl 0 rfl) ?_
            refine lv_iconst (v := 1) hx hb d_18_14_75 (by decide) ?_
            have ob316 : True ∧ S_TR_digits (1 : Int32) t0_0 t0_1 (1 : Int32) a312 t0_4 t0_5 t0_6 (0 : Int64) t0_8 t0_9 t0_10 t0_11 t0_12 t0_13 t1_0 t2_0 := (by rw [← e313]; have h := hS306; rw [S_TR_number_J59.eq_1] at h; with_reducible exact h.2.1)
            refine q_goi V (q_runV (As := [.int 1]) (rest := []) (d := 3) (mc := 0) (ms := 0) (ci := 16) C0 V rfl LV_TR_62 (X_TR_digits l D g q w314  1 hI t0_0 t0_1 1 a312 t0_4 t0_5 t0_6 0 t0_8 t0_9 t0_10 t0_11 t0_12 t0_13 hT0 t1_0 hT1 t2_0 hT2 ⟨(by have y0 : (1 : Int32).toInt = 1 := rfl; have y1 : (1 : Int32).toInt = 1 := rfl; have y2 : (0 : Int64).toInt = 0 := rfl; omega), (by have y0 : (1 : Int32).toInt = 1 := rfl; have y1 : (1 : Int32).toInt = 1 := rfl; have y2 : (0 : Int64).toInt = 0 := rfl; omega)⟩ ob316 _) rfl rfl hT0 rfl hl.1 rfl (Nat.le_of_ble_eq_true rfl) ⟨by decide, by decide⟩ ⟨Nat.le_of_ble_eq_true rfl, Nat.le_of_ble_eq_true rfl⟩ d_18_14_76) (fun a319 u317 H locs hp318 V => ?_)
            obtain ⟨hI, hZ9⟩ := hp318
            obtain ⟨hu366, hZ9⟩ := hZ9
            obtain ⟨y321, hZ9⟩ := hZ9
            obtain ⟨y322, hZ9⟩ := hZ9
            obtain ⟨y323, hZ9⟩ := hZ9
            obtain ⟨y324, hZ9⟩ := hZ9
            obtain ⟨y325, hZ9⟩ := hZ9
            obtain ⟨y326, hZ9⟩ := hZ9
            obtain ⟨y327, hZ9⟩ := hZ9
            obtain ⟨y328, hZ9⟩ := hZ9
            obtain ⟨y329, hZ9⟩ := hZ9
            obtain ⟨y330, hZ9⟩ := hZ9
            obtain ⟨y331, hZ9⟩ := hZ9
            obtain ⟨y332, hZ9⟩ := hZ9
            obtain ⟨y333, hZ9⟩ := hZ9
            obtain ⟨y334, hZ9⟩ := hZ9
            obtain ⟨f335, hZ9⟩ := hZ9
            obtain ⟨hO320, hZ9⟩ := hZ9
            obtain ⟨hA336, hZ9⟩ := hZ9
            obtain ⟨b337, hZ9⟩ := hZ9
            obtain ⟨b338, hZ9⟩ := hZ9
            obtain ⟨b339, hZ9⟩ := hZ9
            obtain ⟨b340, hZ9⟩ := hZ9
            obtain ⟨b341, hZ9⟩ := hZ9
            obtain ⟨b342, hZ9⟩ := hZ9
            obtain ⟨b343, hZ9⟩ := hZ9
            obtain ⟨b344, hZ9⟩ := hZ9
            obtain ⟨b345, hZ9⟩ := hZ9
            obtain ⟨b346, hZ9⟩ := hZ9
            obtain ⟨b347, hZ9⟩ := hZ9
            obtain ⟨b348, hZ9⟩ := hZ9
            replace hZ9 := hZ9.2.2
            obtain ⟨b351, hZ9⟩ := hZ9
            obtain ⟨b352, hZ9⟩ := hZ9
            obtain ⟨b353, hZ9⟩ := hZ9
            obtain ⟨b354, hZ9⟩ := hZ9
            obtain ⟨b355, hZ9⟩ := hZ9
            obtain ⟨b356, hZ9⟩ := hZ9
            obtain ⟨b357, hZ9⟩ := hZ9
            obtain ⟨b358, hZ9⟩ := hZ9
            obtain ⟨b359, hZ9⟩ := hZ9
            obtain ⟨b360, hZ9⟩ := hZ9
            obtain ⟨b361, hZ9⟩ := hZ9
            obtain ⟨b362, hZ9⟩ := hZ9
            obtain ⟨b363, hZ9⟩ := hZ9
            obtain ⟨b364, hE365⟩ := hZ9
            replace hO320 : u317[153]? = (some (q 153, .inr (16, [.int y321, .ref (q 154), .int y322, .int y323, .int y324, .int y325, .ref (q 155), .int y326, .int y327, .long y328, .ref (q 156), .int y329, .int y330, .long y331, .long y332, .int y333, .int y334])) : Option (Nat × va_E)) := hO320
            replace hA336 : u317[155]? = (some (q 155, .inl (g 0, (4100 : Int32).toNatClampNeg, .inl f335)) : Option (Nat × va_E)) := hA336
            obtain ⟨p367, e368⟩ : ∃ z, z = (F_TR_digits (1 : Int32) t0_0 t0_1 (1 : Int32) a312 t0_4 t0_5 t0_6 (0 : Int64) t0_8 t0_9 t0_10 t0_11 t0_12 t0_13 t1_0 t2_0) := ⟨_, rfl⟩
            have e369 : a319 = p367.1 := congrArg (fun z => z.1) (hE365.trans e368.symm)
            have e370 : y321 = p367.2.1 := congrArg (fun z => z.2.1) (hE365.trans e368.symm)
            have e371 : y322 = p367.2.2.1 := congrArg (fun z => z.2.2.1) (hE365.trans e368.symm)
            have e372 : y323 = p367.2.2.2.1 := congrArg (fun z => z.2.2.2.1) (hE365.trans e368.symm)
            have e373 : y324 = p367.2.2.2.2.1 := congrArg (fun z => z.2.2.2.2.1) (hE365.trans e368.symm)
            have e374 : y325 = p367.2.2.2.2.2.1 := congrArg (fun z => z.2.2.2.2.2.1) (hE365.trans e368.symm)
            have e375 : y326 = p367.2.2.2.2.2.2.1 := congrArg (fun z => z.2.2.2.2.2.2.1) (hE365.trans e368.symm)
            have e376 : y327 = p367.2.2.2.2.2.2.2.1 := congrArg (fun z => z.2.2.2.2.2.2.2.1) (hE365.trans e368.symm)
            have e377 : y328 = p367.2.2.2.2.2.2.2.2.1 := congrArg (fun z => z.2.2.2.2.2.2.2.2.1) (hE365.trans e368.symm)
            have e378 : y329 = p367.2.2.2.2.2.2.2.2.2.1 := congrArg (fun z => z.2.2.2.2.2.2.2.2.2.1) (hE365.trans e368.symm)
            have e379 : y330 = p367.2.2.2.2.2.2.2.2.2.2.1 := congrArg (fun z => z.2.2.2.2.2.2.2.2.2.2.1) (hE365.trans e368.symm)
            have e380 : y331 = p367.2.2.2.2.2.2.2.2.2.2.2.1 := congrArg (fun z => z.2.2.2.2.2.2.2.2.2.2.2.1) (hE365.trans e368.symm)
            have e381 : y332 = p367.2.2.2.2.2.2.2.2.2.2.2.2.1 := congrArg (fun z => z.2.2.2.2.2.2.2.2.2.2.2.2.1) (hE365.trans e368.symm)
            have e382 : y333 = p367.2.2.2.2.2.2.2.2.2.2.2.2.2.1 := congrArg (fun z => z.2.2.2.2.2.2.2.2.2.2.2.2.2.1) (hE365.trans e368.symm)
            have e383 : y334 = p367.2.2.2.2.2.2.2.2.2.2.2.2.2.2.1 := congrArg (fun z => z.2.2.2.2.2.2.2.2.2.2.2.2.2.2.1) (hE365.trans e368.symm)
            have e384 : f335 = p367.2.2.2.2.2.2.2.2.2.2.2.2.2.2.2 := congrArg (fun z => z.2.2.2.2.2.2.2.2.2.2.2.2.2.2.2) (hE365.trans e368.symm)
            replace b337 : q_F (0 ≤ a319.toInt) := b337
            replace b338 : q_F (a319.toInt ≤ 1) := b338
            replace b339 : q_F (0 ≤ y327.toInt) := b339
            replace b340 : q_F (y327.toInt ≤ 4100) := b340
            replace b341 : q_F (t0_0.toInt ≤ y321.toInt) := b341
            replace b342 : q_F (y321.toInt ≤ t0_0.toInt) := b342
            replace b343 : q_F (t0_1.toInt ≤ y322.toInt) := b343
            replace b344 : q_F (y322.toInt ≤ t0_1.toInt) := b344
            replace b345 : q_F (1 ≤ y323.toInt) := b345
            replace b346 : q_F (y323.toInt ≤ 1) := b346
            replace b347 : q_F (t0_4.toInt ≤ y325.toInt) := b347
            replace b348 : q_F (y325.toInt ≤ t0_4.toInt) := b348
            replace b351 : q_F (t0_8.toInt ≤ y329.toInt) := b351
            replace b352 : q_F (y329.toInt ≤ t0_8.toInt) := b352
            replace b353 : q_F (t0_9.toInt ≤ y330.toInt) := b353
            replace b354 : q_F (y330.toInt ≤ t0_9.toInt) := b354
            replace b355 : q_F (t0_10.toInt ≤ y331.toInt) := b355
            replace b356 : q_F (y331.toInt ≤ t0_10.toInt) := b356
            replace b357 : q_F (t0_11.toInt ≤ y332.toInt) := b357
            replace b358 : q_F (y332.toInt ≤ t0_11.toInt) := b358
            replace b359 : q_F (t0_12.toInt ≤ y333.toInt) := b359
            replace b360 : q_F (y333.toInt ≤ t0_12.toInt) := b360
            replace b361 : q_F (t0_13.toInt ≤ y334.toInt) := b361
            replace b362 : q_F (y334.toInt ≤ t0_13.toInt) := b362
            replace b363 : q_F (y326.toInt ≤ a319.toInt + 4099) := b363
            replace b364 : q_F (a319.toInt ≤ y326.toInt) := b364
            replace hT1 := (hu366 _ (by decide)).trans hT1
            replace hF := q_uc hF hu366 (by simp)
            have hR385 := (show F_TR_number_c76 t0_0 t0_1 t0_2 t0_3 t0_4 t0_5 t0_6 t0_7 t0_8 t0_9 t0_10 t0_11 t0_12 t0_13 t1_0 t2_0 p367 = (F_TR_number t0_0 t0_1 t0_2 t0_3 t0_4 t0_5 t0_6 t0_7 t0_8 t0_9 t0_10 t0_11 t0_12 t0_13 t1_0 t2_0) from Eq.trans (by rw [e368, ← e313, F_TR_number_J59.eq_1]) hR305)
            have hS386 := (show True ∧ S_TR_number_c76 t0_0 t0_1 t0_2 t0_3 t0_4 t0_5 t0_6 t0_7 t0_8 t0_9 t0_10 t0_11 t0_12 t0_13 t1_0 t2_0 p367 from (by rw [e368, ← e313]; have h := hS306; rw [S_TR_number_J59.eq_1] at h; replace h := q_s2 h; with_reducible exact h))
            refine lv_if_eq (tgt := 93) hx hb d_18_14_79 (by decide) (fun c390 => ?_) (fun c390 => ?_)
            ·
              refine lv_iconst (v := 0) hx hb d_18_14_93 (by decide) ?_
              exact q_retz C0 V (by decide) (⟨hI, hF, y321, y322, y323, y324, y325, y326, y327, y328, y329, y330, y331, y332, y333, y334, f335, hO320, hA336, (show 0 ≤ (0 : Int32).toInt from (by have z16 : (0 : Int32).toInt = 0 := rfl; omega)), (show (0 : Int32).toInt ≤ 1 from (by have z16 : (0 : Int32).toInt = 0 := rfl; omega)), (show 0 ≤ y323.toInt from (by have z16 : (0 : Int32).toInt = 0 := rfl; have t1 : 1 ≤ y323.toInt := b345; omega)), (show y323.toInt ≤ 1 from (by have z16 : (0 : Int32).toInt = 0 := rfl; have t1 : y323.toInt ≤ 1 := b346; omega)), (show y326.toInt ≤ 4100 from (by have z16 : (0 : Int32).toInt = 0 := rfl; have t1 : a319.toInt ≤ 1 := b338; have t2 : y326.toInt ≤ a319.toInt + 4099 := b363; omega)), (show 0 ≤ y327.toInt from (by have z16 : (0 : Int32).toInt = 0 := rfl; have t1 : 0 ≤ y327.toInt := b339; omega)), (show y327.toInt ≤ 4100 from (by have z16 : (0 : Int32).toInt = 0 := rfl; have t1 : y327.toInt ≤ 4100 := b340; omega)), (show t0_0.toInt ≤ y321.toInt from (by have z16 : (0 : Int32).toInt = 0 := rfl; have t1 : t0_0.toInt ≤ y321.toInt := b341; omega)), (show y321.toInt ≤ t0_0.toInt from (by have z16 : (0 : Int32).toInt = 0 := rfl; have t1 : y321.toInt ≤ t0_0.toInt := b342; omega)), (show t0_1.toInt ≤ y322.toInt from (by have z16 : (0 : Int32).toInt = 0 := rfl; have t1 : t0_1.toInt ≤ y322.toInt := b343; omega)), (show y322.toInt ≤ t0_1.toInt from (by have z16 : (0 : Int32).toInt = 0 := rfl; have t1 : y322.toInt ≤ t0_1.toInt := b344; omega)), (show t0_4.toInt ≤ y325.toInt from (by have z16 : (0 : Int32).toInt = 0 := rfl; have t1 : t0_4.toInt ≤ y325.toInt := b347; omega)), (show y325.toInt ≤ t0_4.toInt from (by have z16 : (0 : Int32).toInt = 0 := rfl; have t1 : y325.toInt ≤ t0_4.toInt := b348; omega)), (show t0_8.toInt ≤ y329.toInt from (by have z16 : (0 : Int32).toInt = 0 := rfl; have t1 : t0_8.toInt ≤ y329.toInt := b351; omega)), (show y329.toInt ≤ t0_8.toInt from (by have z16 : (0 : Int32).toInt = 0 := rfl; have t1 : y329.toInt ≤ t0_8.toInt := b352; omega)), (show t0_9.toInt ≤ y330.toInt from (by have z16 : (0 : Int32).toInt = 0 := rfl; have t1 : t0_9.toInt ≤ y330.toInt := b353; omega)), (show y330.toInt ≤ t0_9.toInt from (by have z16 : (0 : Int32).toInt = 0 := rfl; have t1 : y330.toInt ≤ t0_9.toInt := b354; omega)), (show t0_10.toInt ≤ y331.toInt from (by have z16 : (0 : Int32).toInt = 0 := rfl; have t1 : t0_10.toInt ≤ y331.toInt := b355; omega)), (show y331.toInt ≤ t0_10.toInt from (by have z16 : (0 : Int32).toInt = 0 := rfl; have t1 : y331.toInt ≤ t0_10.toInt := b356; omega)), (show t0_11.toInt ≤ y332.toInt from (by have z16 : (0 : Int32).toInt = 0 := rfl; have t1 : t0_11.toInt ≤ y332.toInt := b357; omega)), (show y332.toInt ≤ t0_11.toInt from (by have z16 : (0 : Int32).toInt = 0 := rfl; have t1 : y332.toInt ≤ t0_11.toInt := b358; omega)), (show t0_12.toInt ≤ y333.toInt from (by have z16 : (0 : Int32).toInt = 0 := rfl; have t1 : t0_12.toInt ≤ y333.toInt := b359; omega)), (show y333.toInt ≤ t0_12.toInt from (by have z16 : (0 : Int32).toInt = 0 := rfl; have t1 : y333.toInt ≤ t0_12.toInt := b360; omega)), (show t0_13.toInt ≤ y334.toInt from (by have z16 : (0 : Int32).toInt = 0 := rfl; have t1 : t0_13.toInt ≤ y334.toInt := b361; omega)), (show y334.toInt ≤ t0_13.toInt from (by have z16 : (0 : Int32).toInt = 0 := rfl; have t1 : y334.toInt ≤ t0_13.toInt := b362; omega)), (show (0 : Int32).toInt ≤ y326.toInt from (by have z16 : (0 : Int32).toInt = 0 := rfl; have t1 : 0 ≤ a319.toInt := b337; have t2 : a319.toInt ≤ y326.toInt := b364; omega)), (show ((0 : Int32), y321, y322, y323, y324, y325, y326, y327, y328, y329, y330, y331, y332, y333, y334, f335) = (F_TR_number t0_0 t0_1 t0_2 t0_3 t0_4 t0_5 t0_6 t0_7 t0_8 t0_9 t0_10 t0_11 t0_12 t0_13 t1_0 t2_0) from Eq.trans (by have c390x := c390; rw [e369] at c390x; rw [e384, e383, e382, e381, e380, e379, e378, e377, e376, e375, e374, e373, e372, e371, e370, F_TR_number_c76.eq_1, if_pos c390x]) hR385)⟩) d_18_14_94
            ·
              have b392 : q_F (a319.toInt ≠ 0) := (q_neI c390)
              refine lv_aload_n hx hb d_18_14_82 rfl (lv_at hl 0 rfl) ?_
              refine lv_bipush (v := 112) hx hb d_18_14_83 (by decide) ?_
              refine lv_bipush (v := 80) hx hb d_18_14_85 (by decide) ?_
              have ob393 : True ∧ S_TR_isAt (112 : Int32) (80 : Int32) y321 y322 y323 y324 y325 y326 y327 y328 y329 y330 y331 y332 y333 y334 t1_0 := (by rw [e383, e382, e381, e380, e379, e378, e377, e376, e375, e374, e373, e372, e371, e370]; have h := hS386; rw [S_TR_number_c76.eq_1] at h; have c390x := c390; rw [e369] at c390x; rw [if_neg c390x] at h; with_reducible exact h.2.1)
              refine q_goi V (q_runV (As := [.int 112, .int 80]) (rest := []) (d := 2) (mc := 0) (ms := 0) (ci := 16) C0 V rfl LV_TR_66 (X_TR_isAt l D g q u317  112 80 hI y321 y322 y323 y324 y325 y326 y327 y328 y329 y330 y331 y332 y333 y334 hO320 t1_0 hT1 ob393 _) rfl rfl hO320 rfl hl.1 rfl (Nat.le_of_ble_eq_true rfl) ⟨by decide, by decide⟩ ⟨Nat.le_of_ble_eq_true rfl, Nat.le_of_ble_eq_true rfl⟩ d_18_14_87) (fun a396 u394 H locs hp395 V => ?_)
              obtain ⟨rfl, b397, b398, hE399⟩ := hp395
              have e400 : a396 = (F_TR_isAt (112 : Int32) (80 : Int32) y321 y322 y323 y324 y325 y326 y327 y328 y329 y330 y331 y332 y333 y334 t1_0) := hE399
              clear b397
              clear b398
              refine lv_if_ne (tgt := 95) hx hb d_18_14_90 (by decide) (fun c401 => ?_) (fun c401 => ?_)
              ·
                refine lv_aload_n hx hb d_18_14_95 rfl (lv_at hl 0 rfl) ?_
                refine lv_dup hx hb d_18_14_96 rfl ?_
                refine q_get (ci := 16) (j := 4) (v := .int y324) C0 V i_TR rfl rfl hO320 (by decide) w_2144 rfl d_18_14_97 ?_
                refine lv_iconst (v := 1) hx hb d_18_14_100 (by decide) ?_
                refine lv_iadd hx hb d_18_14_101 ?_
                obtain ⟨a403, e404⟩ := q_nm (y324 + 1 : Int32)
                refine q_ti (v := a403) e404 ?_
                refine q_put (ci := 16) (j := 4) (v := .int a403) (ty := .int) C0 V i_TR o_TR n_TR rfl rfl hO320 (by decide) w_2144 rfl rfl rfl rfl (Nat.le_of_ble_eq_true rfl) d_18_14_102 (fun H locs w405 hu406 hO320 V => ?_)
                replace hO320 : w405[153]? = (some (q 153, .inr (16, [.int y321, .ref (q 154), .int y322, .int y323, .int a403, .int y325, .ref (q 155), .int y326, .int y327, .long y328, .ref (q 156), .int y329, .int y330, .long y331, .long y332, .int y333, .int y334])) : Option (Nat × va_E)) := hO320
                replace hI := n_p153 hI hu406 hO320 ⟨(by have t1 : 0 ≤ t0_1.toInt ∧ t0_1.toInt ≤ 4100 := btt0_1; have t2 : t0_1.toInt ≤ y322.toInt := b343; omega), (by have t1 : 0 ≤ t0_1.toInt ∧ t0_1.toInt ≤ 4100 := btt0_1; have t2 : y322.toInt ≤ t0_1.toInt := b344; omega)⟩ ⟨(by have t1 : 0 ≤ t0_4.toInt ∧ t0_4.toInt ≤ 1 := btt0_4; have t2 : t0_4.toInt ≤ y325.toInt := b347; omega), (by have t1 : 0 ≤ t0_4.toInt ∧ t0_4.toInt ≤ 1 := btt0_4; have t2 : y325.toInt ≤ t0_4.toInt := b348; omega)⟩ ⟨(by have t1 : 0 ≤ t0_13.toInt ∧ t0_13.toInt ≤ 1 := btt0_13; have t2 : t0_13.toInt ≤ y334.toInt := b361; omega), (by have t1 : 0 ≤ t0_13.toInt ∧ t0_13.toInt ≤ 1 := btt0_13; have t2 : y334.toInt ≤ t0_13.toInt := b362; omega)⟩
                replace hT1 := (hu406 _ (by decide)).trans hT1
                replace hA336 := (hu406 _ (by decide)).trans hA336
                replace hF := q_us hF hu406 (by simp)
                refine lv_aload_n hx hb d_18_14_105 rfl (lv_at hl 0 rfl) ?_
                have ob407 : True ∧ S_TR_power y321 y322 y323 a403 y325 y326 y327 y328 y329 y330 y331 y332 y333 y334 t1_0 := (by rw [← e404, e383, e382, e381, e380, e379, e378, e377, e376, e375, e374, e373, e372, e371, e370]; have h := hS386; rw [S_TR_number_c76.eq_1] at h; have c390x := c390; rw [e369] at c390x; rw [if_neg c390x] at h; replace h := q_s2 h; have c401x := c401; rw [e400, e383, e382, e381, e380, e379, e378, e377, e376, e375, e374, e373, e372, e371, e370] at c401x; rw [if_neg c401x] at h; with_reducible exact h.2.1)
                refine q_goi V (q_runV (As := []) (rest := []) (d := 2) (mc := 0) (ms := 0) (ci := 16) C0 V rfl LV_TR_70 (X_TR_power l D g q w405   hI y321 y322 y323 a403 y325 y326 y327 y328 y329 y330 y331 y332 y333 y334 hO320 t1_0 hT1 ob407 _) rfl rfl hO320 rfl hl.1 rfl (Nat.le_of_ble_eq_true rfl) ⟨by decide, by decide⟩ ⟨Nat.le_of_ble_eq_true rfl, Nat.le_of_ble_eq_true rfl⟩ d_18_14_106) (fun a410 u408 H locs hp409 V => ?_)
                obtain ⟨hI, hZ9⟩ := hp409
                obtain ⟨hu453, hZ9⟩ := hZ9
                obtain ⟨y412, hZ9⟩ := hZ9
                obtain ⟨y413, hZ9⟩ := hZ9
                obtain ⟨y414, hZ9⟩ := hZ9
                obtain ⟨y415, hZ9⟩ := hZ9
                obtain ⟨y416, hZ9⟩ := hZ9
                obtain ⟨y417, hZ9⟩ := hZ9
                obtain ⟨y418, hZ9⟩ := hZ9
                obtain ⟨y419, hZ9⟩ := hZ9
                obtain ⟨y420, hZ9⟩ := hZ9
                obtain ⟨y421, hZ9⟩ := hZ9
                obtain ⟨y422, hZ9⟩ := hZ9
                obtain ⟨y423, hZ9⟩ := hZ9
                obtain ⟨y424, hZ9⟩ := hZ9
                obtain ⟨y425, hZ9⟩ := hZ9
                obtain ⟨hO411, hZ9⟩ := hZ9
                replace hZ9 := hZ9.2.2
                obtain ⟨b428, hZ9⟩ := hZ9
                obtain ⟨b429, hZ9⟩ := hZ9
                obtain ⟨b430, hZ9⟩ := hZ9
                obtain ⟨b431, hZ9⟩ := hZ9
                obtain ⟨b432, hZ9⟩ := hZ9
                obtain ⟨b433, hZ9⟩ := hZ9
                obtain ⟨b434, hZ9⟩ := hZ9
                obtain ⟨b435, hZ9⟩ := hZ9
                obtain ⟨b436, hZ9⟩ := hZ9
                obtain ⟨b437, hZ9⟩ := hZ9
                obtain ⟨b438, hZ9⟩ := hZ9
                obtain ⟨b439, hZ9⟩ := hZ9
                obtain ⟨b440, hZ9⟩ := hZ9
                obtain ⟨b441, hZ9⟩ := hZ9
                obtain ⟨b442, hZ9⟩ := hZ9
                obtain ⟨b443, hZ9⟩ := hZ9
                obtain ⟨b444, hZ9⟩ := hZ9
                obtain ⟨b445, hZ9⟩ := hZ9
                obtain ⟨b446, hZ9⟩ := hZ9
                obtain ⟨b447, hZ9⟩ := hZ9
                obtain ⟨b448, hZ9⟩ := hZ9
                obtain ⟨b449, hZ9⟩ := hZ9
                obtain ⟨b450, hZ9⟩ := hZ9
                obtain ⟨b451, hE452⟩ := hZ9
                replace hO411 : u408[153]? = (some (q 153, .inr (16, [.int y412, .ref (q 154), .int y413, .int y414, .int y415, .int y416, .ref (q 155), .int y417, .int y418, .long y419, .ref (q 156), .int y420, .int y421, .long y422, .long y423, .int y424, .int y425])) : Option (Nat × va_E)) := hO411
                obtain ⟨p454, e455⟩ : ∃ z, z = (F_TR_power y321 y322 y323 a403 y325 y326 y327 y328 y329 y330 y331 y332 y333 y334 t1_0) := ⟨_, rfl⟩
                have e456 : a410 = p454.1 := congrArg (fun z => z.1) (hE452.trans e455.symm)
                have e457 : y412 = p454.2.1 := congrArg (fun z => z.2.1) (hE452.trans e455.symm)
                have e458 : y413 = p454.2.2.1 := congrArg (fun z => z.2.2.1) (hE452.trans e455.symm)
                have e459 : y414 = p454.2.2.2.1 := congrArg (fun z => z.2.2.2.1) (hE452.trans e455.symm)
                have e460 : y415 = p454.2.2.2.2.1 := congrArg (fun z => z.2.2.2.2.1) (hE452.trans e455.symm)
                have e461 : y416 = p454.2.2.2.2.2.1 := congrArg (fun z => z.2.2.2.2.2.1) (hE452.trans e455.symm)
                have e462 : y417 = p454.2.2.2.2.2.2.1 := congrArg (fun z => z.2.2.2.2.2.2.1) (hE452.trans e455.symm)
                have e463 : y418 = p454.2.2.2.2.2.2.2.1 := congrArg (fun z => z.2.2.2.2.2.2.2.1) (hE452.trans e455.symm)
                have e464 : y419 = p454.2.2.2.2.2.2.2.2.1 := congrArg (fun z => z.2.2.2.2.2.2.2.2.1) (hE452.trans e455.symm)
                have e465 : y420 = p454.2.2.2.2.2.2.2.2.2.1 := congrArg (fun z => z.2.2.2.2.2.2.2.2.2.1) (hE452.trans e455.symm)
                have e466 : y421 = p454.2.2.2.2.2.2.2.2.2.2.1 := congrArg (fun z => z.2.2.2.2.2.2.2.2.2.2.1) (hE452.trans e455.symm)
                have e467 : y422 = p454.2.2.2.2.2.2.2.2.2.2.2.1 := congrArg (fun z => z.2.2.2.2.2.2.2.2.2.2.2.1) (hE452.trans e455.symm)
                have e468 : y423 = p454.2.2.2.2.2.2.2.2.2.2.2.2.1 := congrArg (fun z => z.2.2.2.2.2.2.2.2.2.2.2.2.1) (hE452.trans e455.symm)
                have e469 : y424 = p454.2.2.2.2.2.2.2.2.2.2.2.2.2.1 := congrArg (fun z => z.2.2.2.2.2.2.2.2.2.2.2.2.2.1) (hE452.trans e455.symm)
                have e470 : y425 = p454.2.2.2.2.2.2.2.2.2.2.2.2.2.2 := congrArg (fun z => z.2.2.2.2.2.2.2.2.2.2.2.2.2.2) (hE452.trans e455.symm)
                replace b428 : q_F (y321.toInt ≤ y412.toInt) := b428
                replace b429 : q_F (y412.toInt ≤ y321.toInt) := b429
                replace b430 : q_F (y322.toInt ≤ y413.toInt) := b430
                replace b431 : q_F (y413.toInt ≤ y322.toInt) := b431
                replace b432 : q_F (y323.toInt ≤ y414.toInt) := b432
                replace b433 : q_F (y414.toInt ≤ y323.toInt) := b433
                replace b434 : q_F (y325.toInt ≤ y416.toInt) := b434
                replace b435 : q_F (y416.toInt ≤ y325.toInt) := b435
                replace b436 : q_F (y326.toInt ≤ y417.toInt) := b436
                replace b437 : q_F (y417.toInt ≤ y326.toInt) := b437
                replace b438 : q_F (y327.toInt ≤ y418.toInt) := b438
                replace b439 : q_F (y418.toInt ≤ y327.toInt) := b439
                replace b440 : q_F (y329.toInt ≤ y420.toInt) := b440
                replace b441 : q_F (y420.toInt ≤ y329.toInt) := b441
                replace b442 : q_F (y330.toInt ≤ y421.toInt) := b442
                replace b443 : q_F (y421.toInt ≤ y330.toInt) := b443
                replace b444 : q_F (y331.toInt ≤ y422.toInt) := b444
                replace b445 : q_F (y422.toInt ≤ y331.toInt) := b445
                replace b446 : q_F (y332.toInt ≤ y423.toInt) := b446
                replace b447 : q_F (y423.toInt ≤ y332.toInt) := b447
                replace b448 : q_F (y333.toInt ≤ y424.toInt) := b448
                replace b449 : q_F (y424.toInt ≤ y333.toInt) := b449
                replace b450 : q_F (y334.toInt ≤ y425.toInt) := b450
                replace b451 : q_F (y425.toInt ≤ y334.toInt) := b451
                replace hT1 := (hu453 _ (by decide)).trans hT1
                replace hA336 := (hu453 _ (by decide)).trans hA336
                replace hF := q_uc hF hu453 (by simp)
                have hR471 := (show F_TR_number_c106 t0_0 t0_1 t0_2 t0_3 t0_4 t0_5 t0_6 t0_7 t0_8 t0_9 t0_10 t0_11 t0_12 t0_13 t1_0 t2_0 p367 f335 p454 = (F_TR_number t0_0 t0_1 t0_2 t0_3 t0_4 t0_5 t0_6 t0_7 t0_8 t0_9 t0_10 t0_11 t0_12 t0_13 t1_0 t2_0) from Eq.trans (by have c390x := c390; rw [e369] at c390x; have c401x := c401; rw [e400, e383, e382, e381, e380, e379, e378, e377, e376, e375, e374, e373, e372, e371, e370] at c401x; rw [e455, ← e404, e384, e383, e382, e381, e380, e379, e378, e377, e376, e375, e374, e373, e372, e371, e370, F_TR_number_c76.eq_1, if_neg c390x, if_neg c401x]) hR385)
                have hS472 := (show True ∧ S_TR_number_c106 t0_0 t0_1 t0_2 t0_3 t0_4 t0_5 t0_6 t0_7 t0_8 t0_9 t0_10 t0_11 t0_12 t0_13 t1_0 t2_0 p367 f335 p454 from (by rw [e455, ← e404, e384, e383, e382, e381, e380, e379, e378, e377, e376, e375, e374, e373, e372, e371, e370]; have h := hS386; rw [S_TR_number_c76.eq_1] at h; have c390x := c390; rw [e369] at c390x; rw [if_neg c390x] at h; replace h := q_s2 h; have c401x := c401; rw [e400, e383, e382, e381, e380, e379, e378, e377, e376, e375, e374, e373, e372, e371, e370] at c401x; rw [if_neg c401x] at h; replace h := q_s2 h; with_reducible exact h))
                refine lv_if_ne (tgt := 159) hx hb d_18_14_109 (by decide) (fun c476 => ?_) (fun c476 => ?_)
                ·
                  exact J51 ((y412 : Int32), (y413 : Int32), (y414 : Int32), (y415 : Int32), (y416 : Int32), (y417 : Int32), (y418 : Int32), (y419 : Int64), (y420 : Int32), (y421 : Int32), (y422 : Int64), (y423 : Int64), (y424 : Int32), (y425 : Int32), (f335 : (Nat → Int32))) _ _ _ _ ⟨(show q_F (0 ≤ y414.toInt) from (show 0 ≤ y414.toInt from by have t1 : 1 ≤ y323.toInt := b345; have t2 : y323.toInt ≤ y414.toInt := b432; omega)), (show q_F (y414.toInt ≤ 1) from (show y414.toInt ≤ 1 from by have t1 : y323.toInt ≤ 1 := b346; have t2 : y414.toInt ≤ y323.toInt := b433; omega)), (show q_F (1 ≤ y417.toInt) from (show 1 ≤ y417.toInt from by have t1 : 0 ≤ a319.toInt := b337; have t2 : a319.toInt ≤ y326.toInt := b364; have t3 : a319.toInt ≠ 0 := b392; have t4 : y326.toInt ≤ y417.toInt := b436; omega)), (show q_F (y417.toInt ≤ 4100) from (show y417.toInt ≤ 4100 from by have t1 : a319.toInt ≤ 1 := b338; have t2 : y326.toInt ≤ a319.toInt + 4099 := b363; have t3 : y417.toInt ≤ y326.toInt := b437; omega)), (show q_F (0 ≤ y418.toInt) from (show 0 ≤ y418.toInt from by have t1 : 0 ≤ y327.toInt := b339; have t2 : y327.toInt ≤ y418.toInt := b438; omega)), (show q_F (y418.toInt ≤ 4100) from (show y418.toInt ≤ 4100 from by have t1 : y327.toInt ≤ 4100 := b340; have t2 : y418.toInt ≤ y327.toInt := b439; omega)), (show q_F (t0_0.toInt ≤ y412.toInt) from (show t0_0.toInt ≤ y412.toInt from by have t1 : t0_0.toInt ≤ y321.toInt := b341; have t2 : y321.toInt ≤ y412.toInt := b428; omega)), (show q_F (y412.toInt ≤ t0_0.toInt) from (show y412.toInt ≤ t0_0.toInt from by have t1 : y321.toInt ≤ t0_0.toInt := b342; have t2 : y412.toInt ≤ y321.toInt := b429; omega)), (show q_F (t0_1.toInt ≤ y413.toInt) from (show t0_1.toInt ≤ y413.toInt from by have t1 : t0_1.toInt ≤ y322.toInt := b343; have t2 : y322.toInt ≤ y413.toInt := b430; omega)), (show q_F (y413.toInt ≤ t0_1.toInt) from (show y413.toInt ≤ t0_1.toInt from by have t1 : y322.toInt ≤ t0_1.toInt := b344; have t2 : y413.toInt ≤ y322.toInt := b431; omega)), (show q_F (t0_4.toInt ≤ y416.toInt) from (show t0_4.toInt ≤ y416.toInt from by have t1 : t0_4.toInt ≤ y325.toInt := b347; have t2 : y325.toInt ≤ y416.toInt := b434; omega)), (show q_F (y416.toInt ≤ t0_4.toInt) from (show y416.toInt ≤ t0_4.toInt from by have t1 : y325.toInt ≤ t0_4.toInt := b348; have t2 : y416.toInt ≤ y325.toInt := b435; omega)), (show q_F (t0_8.toInt ≤ y420.toInt) from (show t0_8.toInt ≤ y420.toInt from by have t1 : t0_8.toInt ≤ y329.toInt := b351; have t2 : y329.toInt ≤ y420.toInt := b440; omega)), (show q_F (y420.toInt ≤ t0_8.toInt) from (show y420.toInt ≤ t0_8.toInt from by have t1 : y329.toInt ≤ t0_8.toInt := b352; have t2 : y420.toInt ≤ y329.toInt := b441; omega)), (show q_F (t0_9.toInt ≤ y421.toInt) from (show t0_9.toInt ≤ y421.toInt from by have t1 : t0_9.toInt ≤ y330.toInt := b353; have t2 : y330.toInt ≤ y421.toInt := b442; omega)), (show q_F (y421.toInt ≤ t0_9.toInt) from (show y421.toInt ≤ t0_9.toInt from by have t1 : y330.toInt ≤ t0_9.toInt := b354; have t2 : y421.toInt ≤ y330.toInt := b443; omega)), (show q_F (t0_10.toInt ≤ y422.toInt) from (show t0_10.toInt ≤ y422.toInt from by have t1 : t0_10.toInt ≤ y331.toInt := b355; have t2 : y331.toInt ≤ y422.toInt := b444; omega)), (show q_F (y422.toInt ≤ t0_10.toInt) from (show y422.toInt ≤ t0_10.toInt from by have t1 : y331.toInt ≤ t0_10.toInt := b356; have t2 : y422.toInt ≤ y331.toInt := b445; omega)), (show q_F (t0_11.toInt ≤ y423.toInt) from (show t0_11.toInt ≤ y423.toInt from by have t1 : t0_11.toInt ≤ y332.toInt := b357; have t2 : y332.toInt ≤ y423.toInt := b446; omega)), (show q_F (y423.toInt ≤ t0_11.toInt) from (show y423.toInt ≤ t0_11.toInt from by have t1 : y332.toInt ≤ t0_11.toInt := b358; have t2 : y423.toInt ≤ y332.toInt := b447; omega)), (show q_F (t0_12.toInt ≤ y424.toInt) from (show t0_12.toInt ≤ y424.toInt from by have t1 : t0_12.toInt ≤ y333.toInt := b359; have t2 : y333.toInt ≤ y424.toInt := b448; omega)), (show q_F (y424.toInt ≤ t0_12.toInt) from (show y424.toInt ≤ t0_12.toInt from by have t1 : y333.toInt ≤ t0_12.toInt := b360; have t2 : y424.toInt ≤ y333.toInt := b449; omega)), (show q_F (t0_13.toInt ≤ y425.toInt) from (show t0_13.toInt ≤ y425.toInt from by have t1 : t0_13.toInt ≤ y334.toInt := b361; have t2 : y334.toInt ≤ y425.toInt := b450; omega)), (show q_F (y425.toInt ≤ t0_13.toInt) from (show y425.toInt ≤ t0_13.toInt from by have t1 : y334.toInt ≤ t0_13.toInt := b362; have t2 : y425.toInt ≤ y334.toInt := b451; omega)), V, q_lw hl (q_lw1 0 rfl q_lw0), hI, hF, hO411, hT1, hA336, (show F_TR_number_J159 t0_0 t0_1 t0_2 t0_3 t0_4 t0_5 t0_6 t0_7 t0_8 t0_9 t0_10 t0_11 t0_12 t0_13 t1_0 t2_0 y412 y413 y414 y415 y416 y417 y418 y419 y420 y421 y422 y423 y424 y425 f335 = (F_TR_number t0_0 t0_1 t0_2 t0_3 t0_4 t0_5 t0_6 t0_7 t0_8 t0_9 t0_10 t0_11 t0_12 t0_13 t1_0 t2_0) from Eq.trans (by have c476x := c476; rw [e456] at c476x; rw [e470, e469, e468, e467, e466, e465, e464, e463, e462, e461, e460, e459, e458, e457, F_TR_number_c106.eq_1, if_neg c476x]) hR471), (show True ∧ S_TR_number_J159 t0_0 t0_1 t0_2 t0_3 t0_4 t0_5 t0_6 t0_7 t0_8 t0_9 t0_10 t0_11 t0_12 t0_13 t1_0 t2_0 y412 y413 y414 y415 y416 y417 y418 y419 y420 y421 y422 y423 y424 y425 f335 from (by rw [e470, e469, e468, e467, e466, e465, e464, e463, e462, e461, e460, e459, e458, e457]; have h := hS472; rw [S_TR_number_c106.eq_1] at h; have c476x := c476; rw [e456] at c476x; rw [if_neg c476x] at h; with_reducible exact h))⟩
                ·
                  refine lv_iconst (v := 0) hx hb d_18_14_112 (by decide) ?_
                  exact q_retz C0 V (by decide) (⟨hI, hF, y412, y413, y414, y415, y416, y417, y418, y419, y420, y421, y422, y423, y424, y425, f335, hO411, hA336, (show 0 ≤ (0 : Int32).toInt from (by have z16 : (0 : Int32).toInt = 0 := rfl; omega)), (show (0 : Int32).toInt ≤ 1 from (by have z16 : (0 : Int32).toInt = 0 := rfl; omega)), (show 0 ≤ y414.toInt from (by have z16 : (0 : Int32).toInt = 0 := rfl; have t1 : 1 ≤ y323.toInt := b345; have t2 : y323.toInt ≤ y414.toInt := b432; omega)), (show y414.toInt ≤ 1 from (by have z16 : (0 : Int32).toInt = 0 := rfl; have t1 : y323.toInt ≤ 1 := b346; have t2 : y414.toInt ≤ y323.toInt := b433; omega)), (show y417.toInt ≤ 4100 from (by have z16 : (0 : Int32).toInt = 0 := rfl; have t1 : a319.toInt ≤ 1 := b338; have t2 : y326.toInt ≤ a319.toInt + 4099 := b363; have t3 : y417.toInt ≤ y326.toInt := b437; omega)), (show 0 ≤ y418.toInt from (by have z16 : (0 : Int32).toInt = 0 := rfl; have t1 : 0 ≤ y327.toInt := b339; have t2 : y327.toInt ≤ y418.toInt := b438; omega)), (show y418.toInt ≤ 4100 from (by have z16 : (0 : Int32).toInt = 0 := rfl; have t1 : y327.toInt ≤ 4100 := b340; have t2 : y418.toInt ≤ y327.toInt := b439; omega)), (show t0_0.toInt ≤ y412.toInt from (by have z16 : (0 : Int32).toInt = 0 := rfl; have t1 : t0_0.toInt ≤ y321.toInt := b341; have t2 : y321.toInt ≤ y412.toInt := b428; omega)), (show y412.toInt ≤ t0_0.toInt from (by have z16 : (0 : Int32).toInt = 0 := rfl; have t1 : y321.toInt ≤ t0_0.toInt := b342; have t2 : y412.toInt ≤ y321.toInt := b429; omega)), (show t0_1.toInt ≤ y413.toInt from (by have z16 : (0 : Int32).toInt = 0 := rfl; have t1 : t0_1.toInt ≤ y322.toInt := b343; have t2 : y322.toInt ≤ y413.toInt := b430; omega)), (show y413.toInt ≤ t0_1.toInt from (by have z16 : (0 : Int32).toInt = 0 := rfl; have t1 : y322.toInt ≤ t0_1.toInt := b344; have t2 : y413.toInt ≤ y322.toInt := b431; omega)), (show t0_4.toInt ≤ y416.toInt from (by have z16 : (0 : Int32).toInt = 0 := rfl; have t1 : t0_4.toInt ≤ y325.toInt := b347; have t2 : y325.toInt ≤ y416.toInt := b434; omega)), (show y416.toInt ≤ t0_4.toInt from (by have z16 : (0 : Int32).toInt = 0 := rfl; have t1 : y325.toInt ≤ t0_4.toInt := b348; have t2 : y416.toInt ≤ y325.toInt := b435; omega)), (show t0_8.toInt ≤ y420.toInt from (by have z16 : (0 : Int32).toInt = 0 := rfl; have t1 : t0_8.toInt ≤ y329.toInt := b351; have t2 : y329.toInt ≤ y420.toInt := b440; omega)), (show y420.toInt ≤ t0_8.toInt from (by have z16 : (0 : Int32).toInt = 0 := rfl; have t1 : y329.toInt ≤ t0_8.toInt := b352; have t2 : y420.toInt ≤ y329.toInt := b441; omega)), (show t0_9.toInt ≤ y421.toInt from (by have z16 : (0 : Int32).toInt = 0 := rfl; have t1 : t0_9.toInt ≤ y330.toInt := b353; have t2 : y330.toInt ≤ y421.toInt := b442; omega)), (show y421.toInt ≤ t0_9.toInt from (by have z16 : (0 : Int32).toInt = 0 := rfl; have t1 : y330.toInt ≤ t0_9.toInt := b354; have t2 : y421.toInt ≤ y330.toInt := b443; omega)), (show t0_10.toInt ≤ y422.toInt from (by have z16 : (0 : Int32).toInt = 0 := rfl; have t1 : t0_10.toInt ≤ y331.toInt := b355; have t2 : y331.toInt ≤ y422.toInt := b444; omega)), (show y422.toInt ≤ t0_10.toInt from (by have z16 : (0 : Int32).toInt = 0 := rfl; have t1 : y331.toInt ≤ t0_10.toInt := b356; have t2 : y422.toInt ≤ y331.toInt := b445; omega)), (show t0_11.toInt ≤ y423.toInt from (by have z16 : (0 : Int32).toInt = 0 := rfl; have t1 : t0_11.toInt ≤ y332.toInt := b357; have t2 : y332.toInt ≤ y423.toInt := b446; omega)), (show y423.toInt ≤ t0_11.toInt from (by have z16 : (0 : Int32).toInt = 0 := rfl; have t1 : y332.toInt ≤ t0_11.toInt := b358; have t2 : y423.toInt ≤ y332.toInt := b447; omega)), (show t0_12.toInt ≤ y424.toInt from (by have z16 : (0 : Int32).toInt = 0 := rfl; have t1 : t0_12.toInt ≤ y333.toInt := b359; have t2 : y333.toInt ≤ y424.toInt := b448; omega)), (show y424.toInt ≤ t0_12.toInt from (by have z16 : (0 : Int32).toInt = 0 := rfl; have t1 : y333.toInt ≤ t0_12.toInt := b360; have t2 : y424.toInt ≤ y333.toInt := b449; omega)), (show t0_13.toInt ≤ y425.toInt from (by have z16 : (0 : Int32).toInt = 0 := rfl; have t1 : t0_13.toInt ≤ y334.toInt := b361; have t2 : y334.toInt ≤ y425.toInt := b450; omega)), (show y425.toInt ≤ t0_13.toInt from (by have z16 : (0 : Int32).toInt = 0 := rfl; have t1 : y334.toInt ≤ t0_13.toInt := b362; have t2 : y425.toInt ≤ y334.toInt := b451; omega)), (show (0 : Int32).toInt ≤ y417.toInt from (by have z16 : (0 : Int32).toInt = 0 := rfl; have t1 : 0 ≤ a319.toInt := b337; have t2 : a319.toInt ≤ y326.toInt := b364; have t3 : y326.toInt ≤ y417.toInt := b436; omega)), (show ((0 : Int32), y412, y413, y414, y415, y416, y417, y418, y419, y420, y421, y422, y423, y424, y425, f335) = (F_TR_number t0_0 t0_1 t0_2 t0_3 t0_4 t0_5 t0_6 t0_7 t0_8 t0_9 t0_10 t0_11 t0_12 t0_13 t1_0 t2_0) from Eq.trans (by have c476x := c476; rw [e456] at c476x; rw [e470, e469, e468, e467, e466, e465, e464, e463, e462, e461, e460, e459, e458, e457, F_TR_number_c106.eq_1, if_pos c476x]) hR471)⟩) d_18_14_113
              ·
                refine lv_iconst (v := 0) hx hb d_18_14_93 (by decide) ?_
                exact q_retz C0 V (by decide) (⟨hI, hF, y321, y322, y323, y324, y325, y326, y327, y328, y329, y330, y331, y332, y333, y334, f335, hO320, hA336, (show 0 ≤ (0 : Int32).toInt from (by have z16 : (0 : Int32).toInt = 0 := rfl; omega)), (show (0 : Int32).toInt ≤ 1 from (by have z16 : (0 : Int32).toInt = 0 := rfl; omega)), (show 0 ≤ y323.toInt from (by have z16 : (0 : Int32).toInt = 0 := rfl; have t1 : 1 ≤ y323.toInt := b345; omega)), (show y323.toInt ≤ 1 from (by have z16 : (0 : Int32).toInt = 0 := rfl; have t1 : y323.toInt ≤ 1 := b346; omega)), (show y326.toInt ≤ 4100 from (by have z16 : (0 : Int32).toInt = 0 := rfl; have t1 : a319.toInt ≤ 1 := b338; have t2 : y326.toInt ≤ a319.toInt + 4099 := b363; omega)), (show 0 ≤ y327.toInt from (by have z16 : (0 : Int32).toInt = 0 := rfl; have t1 : 0 ≤ y327.toInt := b339; omega)), (show y327.toInt ≤ 4100 from (by have z16 : (0 : Int32).toInt = 0 := rfl; have t1 : y327.toInt ≤ 4100 := b340; omega)), (show t0_0.toInt ≤ y321.toInt from (by have z16 : (0 : Int32).toInt = 0 := rfl; have t1 : t0_0.toInt ≤ y321.toInt := b341; omega)), (show y321.toInt ≤ t0_0.toInt from (by have z16 : (0 : Int32).toInt = 0 := rfl; have t1 : y321.toInt ≤ t0_0.toInt := b342; omega)), (show t0_1.toInt ≤ y322.toInt from (by have z16 : (0 : Int32).toInt = 0 := rfl; have t1 : t0_1.toInt ≤ y322.toInt := b343; omega)), (show y322.toInt ≤ t0_1.toInt from (by have z16 : (0 : Int32).toInt = 0 := rfl; have t1 : y322.toInt ≤ t0_1.toInt := b344; omega)), (show t0_4.toInt ≤ y325.toInt from (by have z16 : (0 : Int32).toInt = 0 := rfl; have t1 : t0_4.toInt ≤ y325.toInt := b347; omega)), (show y325.toInt ≤ t0_4.toInt from (by have z16 : (0 : Int32).toInt = 0 := rfl; have t1 : y325.toInt ≤ t0_4.toInt := b348; omega)), (show t0_8.toInt ≤ y329.toInt from (by have z16 : (0 : Int32).toInt = 0 := rfl; have t1 : t0_8.toInt ≤ y329.toInt := b351; omega)), (show y329.toInt ≤ t0_8.toInt from (by have z16 : (0 : Int32).toInt = 0 := rfl; have t1 : y329.toInt ≤ t0_8.toInt := b352; omega)), (show t0_9.toInt ≤ y330.toInt from (by have z16 : (0 : Int32).toInt = 0 := rfl; have t1 : t0_9.toInt ≤ y330.toInt := b353; omega)), (show y330.toInt ≤ t0_9.toInt from (by have z16 : (0 : Int32).toInt = 0 := rfl; have t1 : y330.toInt ≤ t0_9.toInt := b354; omega)), (show t0_10.toInt ≤ y331.toInt from (by have z16 : (0 : Int32).toInt = 0 := rfl; have t1 : t0_10.toInt ≤ y331.toInt := b355; omega)), (show y331.toInt ≤ t0_10.toInt from (by have z16 : (0 : Int32).toInt = 0 := rfl; have t1 : y331.toInt ≤ t0_10.toInt := b356; omega)), (show t0_11.toInt ≤ y332.toInt from (by have z16 : (0 : Int32).toInt = 0 := rfl; have t1 : t0_11.toInt ≤ y332.toInt := b357; omega)), (show y332.toInt ≤ t0_11.toInt from (by have z16 : (0 : Int32).toInt = 0 := rfl; have t1 : y332.toInt ≤ t0_11.toInt := b358; omega)), (show t0_12.toInt ≤ y333.toInt from (by have z16 : (0 : Int32).toInt = 0 := rfl; have t1 : t0_12.toInt ≤ y333.toInt := b359; omega)), (show y333.toInt ≤ t0_12.toInt from (by have z16 : (0 : Int32).toInt = 0 := rfl; have t1 : y333.toInt ≤ t0_12.toInt := b360; omega)), (show t0_13.toInt ≤ y334.toInt from (by have z16 : (0 : Int32).toInt = 0 := rfl; have t1 : t0_13.toInt ≤ y334.toInt := b361; omega)), (show y334.toInt ≤ t0_13.toInt from (by have z16 : (0 : Int32).toInt = 0 := rfl; have t1 : y334.toInt ≤ t0_13.toInt := b362; omega)), (show (0 : Int32).toInt ≤ y326.toInt from (by have z16 : (0 : Int32).toInt = 0 := rfl; have t1 : 0 ≤ a319.toInt := b337; have t2 : a319.toInt ≤ y326.toInt := b364; omega)), (show ((0 : Int32), y321, y322, y323, y324, y325, y326, y327, y328, y329, y330, y331, y332, y333, y334, f335) = (F_TR_number t0_0 t0_1 t0_2 t0_3 t0_4 t0_5 t0_6 t0_7 t0_8 t0_9 t0_10 t0_11 t0_12 t0_13 t1_0 t2_0) from Eq.trans (by have c390x := c390; rw [e369] at c390x; have c401x := c401; rw [e400, e383, e382, e381, e380, e379, e378, e377, e376, e375, e374, e373, e372, e371, e370] at c401x; rw [e384, e383, e382, e381, e380, e379, e378, e377, e376, e375, e374, e373, e372, e371, e370, F_TR_number_c76.eq_1, if_neg c390x, if_pos c401x]) hR385)⟩) d_18_14_94
          ·
            intro J304
            refine lv_icmp_eq (tgt := 59) hx hb d_18_14_40 (by decide) (fun c480 => ?_) (fun c480 => ?_)
            ·
              exact J304 (()) _ _ _ w25 ⟨V, q_lw hl (q_lw1 0 rfl q_lw0), (show F_TR_number_J59 t0_0 t0_1 t0_2 t0_3 t0_4 t0_5 t0_6 t0_7 t0_8 t0_9 t0_10 t0_11 t0_12 t0_13 t1_0 t2_0 = (F_TR_number t0_0 t0_1 t0_2 t0_3 t0_4 t0_5 t0_6 t0_7 t0_8 t0_9 t0_10 t0_11 t0_12 t0_13 t1_0 t2_0) from (by have c287x := c287; rw [e32] at c287x; have c292x := c292; rw [← e291] at c292x; have c480x := c480; rw [← e300, ← e296] at c480x; rw [F_TR_number.eq_1, if_pos c287x, if_neg c292x, if_pos c480x])), (show True ∧ S_TR_number_J59 t0_0 t0_1 t0_2 t0_3 t0_4 t0_5 t0_6 t0_7 t0_8 t0_9 t0_10 t0_11 t0_12 t0_13 t1_0 t2_0 from (by have h := hS; rw [S_TR_number.eq_1] at h; replace h := q_s2 h; have c287x := c287; rw [e32] at c287x; rw [if_pos c287x] at h; have c292x := c292; rw [← e291] at c292x; rw [if_neg c292x] at h; replace h := q_s2 h; replace h := q_s2 h; have c480x := c480; rw [← e300, ← e296] at c480x; rw [if_pos c480x] at h; with_reducible exact h))⟩
            ·
              refine lv_aload_n hx hb d_18_14_43 rfl (lv_at hl 0 rfl) ?_
              refine q_get (ci := 16) (j := 1) (v := .ref (q 154)) C0 V i_TR rfl rfl hT0 (by decide) w_2139 rfl d_18_14_44 ?_
              refine lv_aload_n hx hb d_18_14_47 rfl (lv_at hl 0 rfl) ?_
              refine q_get (ci := 16) (j := 4) (v := .int t0_3) C0 V i_TR rfl rfl hT0 (by decide) w_2144 rfl d_18_14_48 ?_
              refine lv_iconst (v := 1) hx hb d_18_14_51 (by decide) ?_
              refine lv_iadd hx hb d_18_14_52 ?_
              obtain ⟨a483, e484⟩ := q_nm (t0_3 + 1 : Int32)
              refine q_ti (v := a483) e484 ?_
              have ob485 : q_F (0 ≤ a483.toInt) := (by rw [← e484]; have h := hS; rw [S_TR_number.eq_1] at h; replace h := q_s2 h; have c287x := c287; rw [e32] at c287x; rw [if_pos c287x] at h; have c292x := c292; rw [← e291] at c292x; rw [if_neg c292x] at h; replace h := q_s2 h; replace h := q_s2 h; have c480x := c480; rw [← e300, ← e296] at c480x; rw [if_neg c480x] at h; exact h.2.1)
              have ob486 : q_F (a483.toInt ≤ 4099) := (by rw [← e484]; have h := hS; rw [S_TR_number.eq_1] at h; replace h := q_s2 h; have c287x := c287; rw [e32] at c287x; rw [if_pos c287x] at h; have c292x := c292; rw [← e291] at c292x; rw [if_neg c292x] at h; replace h := q_s2 h; replace h := q_s2 h; have c480x := c480; rw [← e300, ← e296] at c480x; rw [if_neg c480x] at h; replace h := q_s2 h; exact h.2.1)
              refine q_iald C0 V hT1 (q_ix (x := a483.toInt) rfl (by first | with_reducible exact q_fe ob485 | (have t1 : 0 ≤ a483.toInt := ob485; omega)) (by have t1 : 0 ≤ a483.toInt := ob485; have t2 : a483.toInt ≤ 4099 := ob486; have e9 : (((4100 : Int32).toNatClampNeg : Nat) : Int) = 4100 := (by decide); omega)) d_18_14_53 ?_
              obtain ⟨a487, e488⟩ := q_nm (t1_0 a483.toNatClampNeg : Int32)
              refine q_ti (v := a487) e488 ?_
              refine lv_bipush (v := 88) hx hb d_18_14_54 (by decide) ?_
              refine lv_icmp_ne (tgt := 114) hx hb d_18_14_56 (by decide) (fun c489 => ?_) (fun c489 => ?_)
              ·
                exact J115 (()) _ _ _ w25 ⟨V, q_lw hl (q_lw1 0 rfl q_lw0), (show F_TR_number_J114 t0_0 t0_1 t0_2 t0_3 t0_4 t0_5 t0_6 t0_7 t0_8 t0_9 t0_10 t0_11 t0_12 t0_13 t1_0 t2_0 = (F_TR_number t0_0 t0_1 t0_2 t0_3 t0_4 t0_5 t0_6 t0_7 t0_8 t0_9 t0_10 t0_11 t0_12 t0_13 t1_0 t2_0) from (by have c287x := c287; rw [e32] at c287x; have c292x := c292; rw [← e291] at c292x; have c480x := c480; rw [← e300, ← e296] at c480x; have c489x := c489; rw [← e488, ← e484] at c489x; rw [F_TR_number.eq_1, if_pos c287x, if_neg c292x, if_neg c480x, if_neg c489x])), (show True ∧ S_TR_number_J114 t0_0 t0_1 t0_2 t0_3 t0_4 t0_5 t0_6 t0_7 t0_8 t0_9 t0_10 t0_11 t0_12 t0_13 t1_0 t2_0 from (by have h := hS; rw [S_TR_number.eq_1] at h; replace h := q_s2 h; have c287x := c287; rw [e32] at c287x; rw [if_pos c287x] at h; have c292x := c292; rw [← e291] at c292x; rw [if_neg c292x] at h; replace h := q_s2 h; replace h := q_s2 h; have c480x := c480; rw [← e300, ← e296] at c480x; rw [if_neg c480x] at h; replace h := q_s2 h; replace h := q_s2 h; have c489x := c489; rw [← e488, ← e484] at c489x; rw [if_neg c489x] at h; with_reducible exact h))⟩
              ·
                exact J304 (()) _ _ _ w25 ⟨V, q_lw hl (q_lw1 0 rfl q_lw0), (show F_TR_number_J59 t0_0 t0_1 t0_2 t0_3 t0_4 t0_5 t0_6 t0_7 t0_8 t0_9 t0_10 t0_11 t0_12 t0_13 t1_0 t2_0 = (F_TR_number t0_0 t0_1 t0_2 t0_3 t0_4 t0_5 t0_6 t0_7 t0_8 t0_9 t0_10 t0_11 t0_12 t0_13 t1_0 t2_0) from (by have c287x := c287; rw [e32] at c287x; have c292x := c292; rw [← e291] at c292x; have c480x := c480; rw [← e300, ← e296] at c480x; have c489x := c489; rw [← e488, ← e484] at c489x; rw [F_TR_number.eq_1, if_pos c287x, if_neg c292x, if_neg c480x, if_pos c489x])), (show True ∧ S_TR_number_J59 t0_0 t0_1 t0_2 t0_3 t0_4 t0_5 t0_6 t0_7 t0_8 t0_9 t0_10 t0_11 t0_12 t0_13 t1_0 t2_0 from (by have h := hS; rw [S_TR_number.eq_1] at h; replace h := q_s2 h; have c287x := c287; rw [e32] at c287x; rw [if_pos c287x] at h; have c292x := c292; rw [← e291] at c292x; rw [if_neg c292x] at h; replace h := q_s2 h; replace h := q_s2 h; have c480x := c480; rw [← e300, ← e296] at c480x; rw [if_neg c480x] at h; replace h := q_s2 h; replace h := q_s2 h; have c489x := c489; rw [← e488, ← e484] at c489x; rw [if_pos c489x] at h; with_reducible exact h))⟩

