/-! NumberHouse, exactly -/
/-- which fault a call told -/
def qE (c : Int32) : String := if c = 1 then "java/lang/IllegalArgumentException" else if c = 2 then "java/lang/ArithmeticException" else "java/lang/IllegalStateException"
theorem qE1 : "java/lang/IllegalArgumentException" = qE 1 := rfl
theorem qE2 : "java/lang/ArithmeticException" = qE 2 := rfl
theorem qE3 : "java/lang/IllegalStateException" = qE 3 := rfl
theorem d_1_32_0 : decode prog_1_method_32_code 0 = .ok (.iload_n 0, 1) := by decide +kernel
theorem d_1_32_1 : decode prog_1_method_32_code 1 = .ok (.ifCond .lt 13, 3) := by decide +kernel
theorem d_1_32_14 : decode prog_1_method_32_code 14 = .ok (.iconst 0, 1) := by decide +kernel
theorem d_1_32_15 : decode prog_1_method_32_code 15 = .ok (.ireturn, 1) := by decide +kernel
theorem d_1_32_4 : decode prog_1_method_32_code 4 = .ok (.iload_n 0, 1) := by decide +kernel
theorem d_1_32_5 : decode prog_1_method_32_code 5 = .ok (.bipush 10, 2) := by decide +kernel
theorem d_1_32_7 : decode prog_1_method_32_code 7 = .ok (.if_icmp .ge 7, 3) := by decide +kernel
theorem d_1_32_10 : decode prog_1_method_32_code 10 = .ok (.iconst 1, 1) := by decide +kernel
theorem d_1_32_11 : decode prog_1_method_32_code 11 = .ok (.goto 4, 3) := by decide +kernel
def y_NH_isRegister : MethodName := ⟨"NumberHouse", "isRegister", "(I)Z"⟩
def F_NH_isRegister (x1 : Int32) : Int32 := if x1 < (0 : Int32) then ((0 : Int32)) else (if (10 : Int32) ≤ x1 then ((0 : Int32)) else ((1 : Int32)))
set_option maxRecDepth 100000 in
set_option maxHeartbeats 4000000 in
theorem X_NH_isRegister (l : Launch) (D : va_G) (g : Nat → ClassId) (q : Nat → Nat) (ws : va_W) (x1 : Int32) (hI : q_I (nsh g q) q ws) : q_mI l y_NH_isRegister prog_1_method_32_code 1 (.boolean) 1 0 0 D g [.int x1] ws (fun r u => ws = u ∧ (0 ≤ r.toInt) ∧ (r.toInt ≤ 1) ∧ r = (F_NH_isRegister x1)) := by
  intro sz
  refine q_into (by decide) (Nat.le_of_ble_eq_true rfl) ?_
  intro p e s m below meth c ls hsz C0 V hl
  have hx := C0.1
  have hb := C0.2.1
  have hl : lv_has ls 1 [(0, .int x1)] := hl
  refine lv_iload_n hx hb d_1_32_0 rfl (lv_at hl 0 rfl) ?_
  refine lv_if_lt (tgt := 14) hx hb d_1_32_1 (by decide) (fun c1 => ?_) (fun c1 => ?_)
  ·
    refine lv_iconst (v := 0) hx hb d_1_32_14 (by decide) ?_
    exact q_retz C0 V (by decide) (⟨rfl, (show 0 ≤ (0 : Int32).toInt from (by have z1 : (0 : Int32).toInt = 0 := rfl; omega)), (show (0 : Int32).toInt ≤ 1 from (by have z1 : (0 : Int32).toInt = 0 := rfl; omega)), (show (0 : Int32) = (F_NH_isRegister x1) from (by rw [F_NH_isRegister.eq_1, if_pos c1]))⟩) d_1_32_15
  ·
    refine lv_iload_n hx hb d_1_32_4 rfl (lv_at hl 0 rfl) ?_
    refine lv_bipush (v := 10) hx hb d_1_32_5 (by decide) ?_
    refine lv_icmp_ge (tgt := 14) hx hb d_1_32_7 (by decide) (fun c4 => ?_) (fun c4 => ?_)
    ·
      refine lv_iconst (v := 0) hx hb d_1_32_14 (by decide) ?_
      exact q_retz C0 V (by decide) (⟨rfl, (show 0 ≤ (0 : Int32).toInt from (by have z1 : (0 : Int32).toInt = 0 := rfl; omega)), (show (0 : Int32).toInt ≤ 1 from (by have z1 : (0 : Int32).toInt = 0 := rfl; omega)), (show (0 : Int32) = (F_NH_isRegister x1) from (by rw [F_NH_isRegister.eq_1, if_neg c1, if_pos c4]))⟩) d_1_32_15
    ·
      refine lv_iconst (v := 1) hx hb d_1_32_10 (by decide) ?_
      refine lv_goto (tgt := 15) hx hb d_1_32_11 (by decide) ?_
      exact q_retz C0 V (by decide) (⟨rfl, (show 0 ≤ (1 : Int32).toInt from (by have z1 : (1 : Int32).toInt = 1 := rfl; omega)), (show (1 : Int32).toInt ≤ 1 from (by have z1 : (1 : Int32).toInt = 1 := rfl; omega)), (show (1 : Int32) = (F_NH_isRegister x1) from (by rw [F_NH_isRegister.eq_1, if_neg c1, if_neg c4]))⟩) d_1_32_15
theorem d_1_33_0 : decode prog_1_method_33_code 0 = .ok (.iload_n 0, 1) := by decide +kernel
theorem d_1_33_1 : decode prog_1_method_33_code 1 = .ok (.ifCond .lt 13, 3) := by decide +kernel
theorem d_1_33_14 : decode prog_1_method_33_code 14 = .ok (.iconst 0, 1) := by decide +kernel
theorem d_1_33_15 : decode prog_1_method_33_code 15 = .ok (.ireturn, 1) := by decide +kernel
theorem d_1_33_4 : decode prog_1_method_33_code 4 = .ok (.iload_n 0, 1) := by decide +kernel
theorem d_1_33_5 : decode prog_1_method_33_code 5 = .ok (.bipush 7, 2) := by decide +kernel
theorem d_1_33_7 : decode prog_1_method_33_code 7 = .ok (.if_icmp .gt 7, 3) := by decide +kernel
theorem d_1_33_10 : decode prog_1_method_33_code 10 = .ok (.iconst 1, 1) := by decide +kernel
theorem d_1_33_11 : decode prog_1_method_33_code 11 = .ok (.goto 4, 3) := by decide +kernel
def y_NH_isMode : MethodName := ⟨"NumberHouse", "isMode", "(I)Z"⟩
def F_NH_isMode (x1 : Int32) : Int32 := if x1 < (0 : Int32) then ((0 : Int32)) else (if (7 : Int32) < x1 then ((0 : Int32)) else ((1 : Int32)))
set_option maxRecDepth 100000 in
set_option maxHeartbeats 4000000 in
theorem X_NH_isMode (l : Launch) (D : va_G) (g : Nat → ClassId) (q : Nat → Nat) (ws : va_W) (x1 : Int32) (hI : q_I (nsh g q) q ws) : q_mI l y_NH_isMode prog_1_method_33_code 1 (.boolean) 1 0 0 D g [.int x1] ws (fun r u => ws = u ∧ (0 ≤ r.toInt) ∧ (r.toInt ≤ 1) ∧ r = (F_NH_isMode x1)) := by
  intro sz
  refine q_into (by decide) (Nat.le_of_ble_eq_true rfl) ?_
  intro p e s m below meth c ls hsz C0 V hl
  have hx := C0.1
  have hb := C0.2.1
  have hl : lv_has ls 1 [(0, .int x1)] := hl
  refine lv_iload_n hx hb d_1_33_0 rfl (lv_at hl 0 rfl) ?_
  refine lv_if_lt (tgt := 14) hx hb d_1_33_1 (by decide) (fun c1 => ?_) (fun c1 => ?_)
  ·
    refine lv_iconst (v := 0) hx hb d_1_33_14 (by decide) ?_
    exact q_retz C0 V (by decide) (⟨rfl, (show 0 ≤ (0 : Int32).toInt from (by have z1 : (0 : Int32).toInt = 0 := rfl; omega)), (show (0 : Int32).toInt ≤ 1 from (by have z1 : (0 : Int32).toInt = 0 := rfl; omega)), (show (0 : Int32) = (F_NH_isMode x1) from (by rw [F_NH_isMode.eq_1, if_pos c1]))⟩) d_1_33_15
  ·
    refine lv_iload_n hx hb d_1_33_4 rfl (lv_at hl 0 rfl) ?_
    refine lv_bipush (v := 7) hx hb d_1_33_5 (by decide) ?_
    refine lv_icmp_gt (tgt := 14) hx hb d_1_33_7 (by decide) (fun c4 => ?_) (fun c4 => ?_)
    ·
      refine lv_iconst (v := 0) hx hb d_1_33_14 (by decide) ?_
      exact q_retz C0 V (by decide) (⟨rfl, (show 0 ≤ (0 : Int32).toInt from (by have z1 : (0 : Int32).toInt = 0 := rfl; omega)), (show (0 : Int32).toInt ≤ 1 from (by have z1 : (0 : Int32).toInt = 0 := rfl; omega)), (show (0 : Int32) = (F_NH_isMode x1) from (by rw [F_NH_isMode.eq_1, if_neg c1, if_pos c4]))⟩) d_1_33_15
    ·
      refine lv_iconst (v := 1) hx hb d_1_33_10 (by decide) ?_
      refine lv_goto (tgt := 15) hx hb d_1_33_11 (by decide) ?_
      exact q_retz C0 V (by decide) (⟨rfl, (show 0 ≤ (1 : Int32).toInt from (by have z1 : (1 : Int32).toInt = 1 := rfl; omega)), (show (1 : Int32).toInt ≤ 1 from (by have z1 : (1 : Int32).toInt = 1 := rfl; omega)), (show (1 : Int32) = (F_NH_isMode x1) from (by rw [F_NH_isMode.eq_1, if_neg c1, if_neg c4]))⟩) d_1_33_15
theorem d_1_34_0 : decode prog_1_method_34_code 0 = .ok (.iload_n 0, 1) := by decide +kernel
theorem d_1_34_1 : decode prog_1_method_34_code 1 = .ok (.sipush (-10000), 3) := by decide +kernel
theorem d_1_34_4 : decode prog_1_method_34_code 4 = .ok (.if_icmp .lt 14, 3) := by decide +kernel
theorem d_1_34_18 : decode prog_1_method_34_code 18 = .ok (.iconst 0, 1) := by decide +kernel
theorem d_1_34_19 : decode prog_1_method_34_code 19 = .ok (.ireturn, 1) := by decide +kernel
theorem d_1_34_7 : decode prog_1_method_34_code 7 = .ok (.iload_n 0, 1) := by decide +kernel
theorem d_1_34_8 : decode prog_1_method_34_code 8 = .ok (.sipush 10000, 3) := by decide +kernel
theorem d_1_34_11 : decode prog_1_method_34_code 11 = .ok (.if_icmp .gt 7, 3) := by decide +kernel
theorem d_1_34_14 : decode prog_1_method_34_code 14 = .ok (.iconst 1, 1) := by decide +kernel
theorem d_1_34_15 : decode prog_1_method_34_code 15 = .ok (.goto 4, 3) := by decide +kernel
def y_NH_isScale : MethodName := ⟨"NumberHouse", "isScale", "(I)Z"⟩
def F_NH_isScale (x1 : Int32) : Int32 := if x1 < (-10000 : Int32) then ((0 : Int32)) else (if (10000 : Int32) < x1 then ((0 : Int32)) else ((1 : Int32)))
set_option maxRecDepth 100000 in
set_option maxHeartbeats 4000000 in
theorem X_NH_isScale (l : Launch) (D : va_G) (g : Nat → ClassId) (q : Nat → Nat) (ws : va_W) (x1 : Int32) (hI : q_I (nsh g q) q ws) : q_mI l y_NH_isScale prog_1_method_34_code 1 (.boolean) 1 0 0 D g [.int x1] ws (fun r u => ws = u ∧ (0 ≤ r.toInt) ∧ (r.toInt ≤ 1) ∧ r = (F_NH_isScale x1)) := by
  intro sz
  refine q_into (by decide) (Nat.le_of_ble_eq_true rfl) ?_
  intro p e s m below meth c ls hsz C0 V hl
  have hx := C0.1
  have hb := C0.2.1
  have hl : lv_has ls 1 [(0, .int x1)] := hl
  refine lv_iload_n hx hb d_1_34_0 rfl (lv_at hl 0 rfl) ?_
  refine lv_sipush (v := (-10000)) hx hb d_1_34_1 (by decide) ?_
  refine lv_icmp_lt (tgt := 18) hx hb d_1_34_4 (by decide) (fun c1 => ?_) (fun c1 => ?_)
  ·
    refine lv_iconst (v := 0) hx hb d_1_34_18 (by decide) ?_
    exact q_retz C0 V (by decide) (⟨rfl, (show 0 ≤ (0 : Int32).toInt from (by have z1 : (0 : Int32).toInt = 0 := rfl; omega)), (show (0 : Int32).toInt ≤ 1 from (by have z1 : (0 : Int32).toInt = 0 := rfl; omega)), (show (0 : Int32) = (F_NH_isScale x1) from (by rw [F_NH_isScale.eq_1, if_pos c1]))⟩) d_1_34_19
  ·
    refine lv_iload_n hx hb d_1_34_7 rfl (lv_at hl 0 rfl) ?_
    refine lv_sipush (v := 10000) hx hb d_1_34_8 (by decide) ?_
    refine lv_icmp_gt (tgt := 18) hx hb d_1_34_11 (by decide) (fun c4 => ?_) (fun c4 => ?_)
    ·
      refine lv_iconst (v := 0) hx hb d_1_34_18 (by decide) ?_
      exact q_retz C0 V (by decide) (⟨rfl, (show 0 ≤ (0 : Int32).toInt from (by have z1 : (0 : Int32).toInt = 0 := rfl; omega)), (show (0 : Int32).toInt ≤ 1 from (by have z1 : (0 : Int32).toInt = 0 := rfl; omega)), (show (0 : Int32) = (F_NH_isScale x1) from (by rw [F_NH_isScale.eq_1, if_neg c1, if_pos c4]))⟩) d_1_34_19
    ·
      refine lv_iconst (v := 1) hx hb d_1_34_14 (by decide) ?_
      refine lv_goto (tgt := 19) hx hb d_1_34_15 (by decide) ?_
      exact q_retz C0 V (by decide) (⟨rfl, (show 0 ≤ (1 : Int32).toInt from (by have z1 : (1 : Int32).toInt = 1 := rfl; omega)), (show (1 : Int32).toInt ≤ 1 from (by have z1 : (1 : Int32).toInt = 1 := rfl; omega)), (show (1 : Int32) = (F_NH_isScale x1) from (by rw [F_NH_isScale.eq_1, if_neg c1, if_neg c4]))⟩) d_1_34_19
def F_NH_need (x1 : Int32) : Int32 := if x1 = (0 : Int32) then ((1 : Int32)) else ((0 : Int32))
set_option maxRecDepth 100000 in
set_option maxHeartbeats 4000000 in
theorem X_NH_need (l : Launch) (D : va_G) (g : Nat → ClassId) (q : Nat → Nat) (ws : va_W) (x1 : Int32) (hlt : l.stackTraces = false) (hI : q_I (nsh g q) q ws) (hzx1 : 0 ≤ x1.toInt ∧ x1.toInt ≤ 1) : ∀ sz, q_Mx l y_NH_need prog_1_method_36_code 1 none 7 1 6 D g [.int x1] ws sz (va_Qv (fun u => ws = u ∧ (0 : Int32) = (F_NH_need x1)) (q_B D g (va_A ws sz)) (va_A ws sz)) (fun E u => ∃ c : Int32, E = qE c ∧ c ≠ 0 ∧ ws = u ∧ c = (F_NH_need x1)) := by
  intro sz
  refine q_intoX (by decide) (Nat.le_of_ble_eq_true rfl) ?_
  intro p e s m below meth c ls hsz C0 V hno hl
  have hx := C0.1
  have hb := C0.2.1
  clear hzx1
  have hl : lv_has ls 1 [(0, .int x1)] := hl
  refine lv_iload_n hx hb d_1_36_0 rfl (lv_at hl 0 rfl) ?_
  refine lv_if_ne (tgt := 15) hx hb d_1_36_1 (by decide) (fun c1 => ?_) (fun c1 => ?_)
  ·
    refine W.widen (k := 1) (n := 6) (Nat.le_of_ble_eq_true rfl) (Nat.le_of_ble_eq_true rfl) ?_
    exact q_retX (q_retv C0 V (⟨rfl, (show (0 : Int32) = (F_NH_need x1) from (by rw [F_NH_need.eq_1, if_neg c1]))⟩) d_1_36_15)
  ·
    exact q_throwW (names := ["java/lang/RuntimeException", "java/lang/Exception"]) C0 V hlt hno rfl hl.1 (by decide) (by decide) w_494 w_23 wo_535 w_495 t_NH_431 d_1_36_4 d_1_36_7 d_1_36_8 d_1_36_11 d_1_36_14 (by decide) (by decide) (by decide) (by decide) ⟨(1 : Int32), qE1, (by decide), rfl, (show (1 : Int32) = (F_NH_need x1) from (by rw [F_NH_need.eq_1, if_pos c1]))⟩
def F_NH_canHave (x1 : Int32) : Int32 := if x1 = (0 : Int32) then ((2 : Int32)) else ((0 : Int32))
set_option maxRecDepth 100000 in
set_option maxHeartbeats 4000000 in
theorem X_NH_canHave (l : Launch) (D : va_G) (g : Nat → ClassId) (q : Nat → Nat) (ws : va_W) (x1 : Int32) (hlt : l.stackTraces = false) (hI : q_I (nsh g q) q ws) (hzx1 : 0 ≤ x1.toInt ∧ x1.toInt ≤ 1) : ∀ sz, q_Mx l y_NH_canHave prog_1_method_37_code 1 none 7 1 6 D g [.int x1] ws sz (va_Qv (fun u => ws = u ∧ (0 : Int32) = (F_NH_canHave x1)) (q_B D g (va_A ws sz)) (va_A ws sz)) (fun E u => ∃ c : Int32, E = qE c ∧ c ≠ 0 ∧ ws = u ∧ c = (F_NH_canHave x1)) := by
  intro sz
  refine q_intoX (by decide) (Nat.le_of_ble_eq_true rfl) ?_
  intro p e s m below meth c ls hsz C0 V hno hl
  have hx := C0.1
  have hb := C0.2.1
  clear hzx1
  have hl : lv_has ls 1 [(0, .int x1)] := hl
  refine lv_iload_n hx hb d_1_37_0 rfl (lv_at hl 0 rfl) ?_
  refine lv_if_ne (tgt := 15) hx hb d_1_37_1 (by decide) (fun c1 => ?_) (fun c1 => ?_)
  ·
    refine W.widen (k := 1) (n := 6) (Nat.le_of_ble_eq_true rfl) (Nat.le_of_ble_eq_true rfl) ?_
    exact q_retX (q_retv C0 V (⟨rfl, (show (0 : Int32) = (F_NH_canHave x1) from (by rw [F_NH_canHave.eq_1, if_neg c1]))⟩) d_1_37_15)
  ·
    exact q_throwW (names := ["java/lang/RuntimeException", "java/lang/Exception"]) C0 V hlt hno rfl hl.1 (by decide) (by decide) w_1067 w_34 wo_1076 w_1068 t_NH_436 d_1_37_4 d_1_37_7 d_1_37_8 d_1_37_11 d_1_37_14 (by decide) (by decide) (by decide) (by decide) ⟨(2 : Int32), qE2, (by decide), rfl, (show (2 : Int32) = (F_NH_canHave x1) from (by rw [F_NH_canHave.eq_1, if_pos c1]))⟩
theorem d_1_35_0 : decode prog_1_method_35_code 0 = .ok (.iload_n 0, 1) := by decide +kernel
theorem d_1_35_1 : decode prog_1_method_35_code 1 = .ok (.ifCond .lt 19, 3) := by decide +kernel
theorem d_1_35_20 : decode prog_1_method_35_code 20 = .ok (.iconst 0, 1) := by decide +kernel
theorem d_1_35_21 : decode prog_1_method_35_code 21 = .ok (.invokestatic 104, 3) := by decide +kernel
set_option maxRecDepth 100000 in
theorem w_493 : (Cond.code ({ cls := "NumberHouse", name := "need", desc := "(Z)V" } : MethodName) prog_1_method_36_code (1 : Nat) (none : Option ClassFile.FieldType)) ∈ q_tbl := q_of3 13 rfl (by decide +kernel)
set_option maxRecDepth 100000 in
theorem w_1 : (Cond.initialized "NumberHouse") ∈ q_tbl := q_of1 1 rfl (by decide +kernel)
set_option maxRecDepth 100000 in
theorem w_491 : (Cond.methodLink "NumberHouse" (104 : Nat) ({ cls := "NumberHouse", name := "need", desc := "(Z)V" } : MethodName)) ∈ q_tbl := q_of3 11 rfl (by decide +kernel)
set_option maxRecDepth 100000 in
theorem w_492 : (Cond.static ({ cls := "NumberHouse", name := "need", desc := "(Z)V" } : MethodName)) ∈ q_tbl := q_of3 12 rfl (by decide +kernel)
theorem LS_NH_104 : q_LS "NumberHouse" 104 y_NH_need prog_1_method_36_code 1 none 1 := ⟨w_493, w_1, w_491, w_492, ⟨by decide, by decide, by decide +kernel⟩⟩
theorem d_1_35_24 : decode prog_1_method_35_code 24 = .ok (.return_, 1) := by decide +kernel
theorem d_1_35_4 : decode prog_1_method_35_code 4 = .ok (.iload_n 0, 1) := by decide +kernel
theorem d_1_35_5 : decode prog_1_method_35_code 5 = .ok (.iconst 3, 1) := by decide +kernel
theorem d_1_35_6 : decode prog_1_method_35_code 6 = .ok (.if_icmp .gt 14, 3) := by decide +kernel
theorem d_1_35_9 : decode prog_1_method_35_code 9 = .ok (.iload_n 1, 1) := by decide +kernel
theorem d_1_35_10 : decode prog_1_method_35_code 10 = .ok (.invokestatic 212, 3) := by decide +kernel
set_option maxRecDepth 100000 in
theorem w_580 : (Cond.code ({ cls := "NumberHouse", name := "isRegister", desc := "(I)Z" } : MethodName) prog_1_method_32_code (1 : Nat) (some .boolean)) ∈ q_tbl := q_of3 100 rfl (by decide +kernel)
set_option maxRecDepth 100000 in
theorem w_578 : (Cond.methodLink "NumberHouse" (212 : Nat) ({ cls := "NumberHouse", name := "isRegister", desc := "(I)Z" } : MethodName)) ∈ q_tbl := q_of3 98 rfl (by decide +kernel)
set_option maxRecDepth 100000 in
theorem w_579 : (Cond.static ({ cls := "NumberHouse", name := "isRegister", desc := "(I)Z" } : MethodName)) ∈ q_tbl := q_of3 99 rfl (by decide +kernel)
theorem LS_NH_212 : q_LS "NumberHouse" 212 y_NH_isRegister prog_1_method_32_code 1 (some .boolean) 1 := ⟨w_580, w_1, w_578, w_579, ⟨by decide, by decide, by decide +kernel⟩⟩
theorem d_1_35_13 : decode prog_1_method_35_code 13 = .ok (.ifCond .eq 7, 3) := by decide +kernel
theorem d_1_35_16 : decode prog_1_method_35_code 16 = .ok (.iconst 1, 1) := by decide +kernel
theorem d_1_35_17 : decode prog_1_method_35_code 17 = .ok (.goto 4, 3) := by decide +kernel
def y_NH_needRegister : MethodName := ⟨"NumberHouse", "needRegister", "(II)V"⟩
def F_NH_needRegister (x1 : Int32) (x2 : Int32) : Int32 := if x1 < (0 : Int32) then (if (F_NH_need (0 : Int32)) = (0 : Int32) then ((0 : Int32)) else ((F_NH_need (0 : Int32)))) else (if (3 : Int32) < x1 then (if (F_NH_need (0 : Int32)) = (0 : Int32) then ((0 : Int32)) else ((F_NH_need (0 : Int32)))) else (if ((F_NH_isRegister x2) : Int32) = (0 : Int32) then (if (F_NH_need (0 : Int32)) = (0 : Int32) then ((0 : Int32)) else ((F_NH_need (0 : Int32)))) else (if (F_NH_need (1 : Int32)) = (0 : Int32) then ((0 : Int32)) else ((F_NH_need (1 : Int32))))))
set_option maxRecDepth 100000 in
set_option maxHeartbeats 4000000 in
theorem X_NH_needRegister (l : Launch) (D : va_G) (g : Nat → ClassId) (q : Nat → Nat) (ws : va_W) (x1 : Int32) (x2 : Int32) (hlt : l.stackTraces = false) (hI : q_I (nsh g q) q ws) : ∀ sz, q_Mx l y_NH_needRegister prog_1_method_35_code 2 none 8 1 6 D g [.int x1, .int x2] ws sz (va_Qv (fun u => ws = u ∧ (0 : Int32) = (F_NH_needRegister x1 x2)) (q_B D g (va_A ws sz)) (va_A ws sz)) (fun E u => ∃ c : Int32, E = qE c ∧ c ≠ 0 ∧ ws = u ∧ c = (F_NH_needRegister x1 x2)) := by
  intro sz
  refine q_intoX (by decide) (Nat.le_of_ble_eq_true rfl) ?_
  intro p e s m below meth c ls hsz C0 V hno hl
  have hx := C0.1
  have hb := C0.2.1
  have hl : lv_has ls 2 [(0, .int x1), (1, .int x2)] := hl
  refine lv_iload_n hx hb d_1_35_0 rfl (lv_at hl 0 rfl) ?_
  refine lv_if_lt (tgt := 20) hx hb d_1_35_1 (by decide) (fun c1 => ?_) (fun c1 => ?_)
  ·
    refine lv_iconst (v := 0) hx hb d_1_35_20 (by decide) ?_
    refine q_goxv V (q_runSX (As := [.int 0]) (rest := []) (d := 7) (mc := 1) (ms := 6) C0 V rfl LS_NH_104 (X_NH_need l D g q ws  0 hlt hI  ⟨(by have y0 : (0 : Int32).toInt = 0 := rfl; omega), (by have y0 : (0 : Int32).toInt = 0 := rfl; omega)⟩ _) rfl hl.1 rfl (Nat.le_of_ble_eq_true rfl) ⟨by decide, by decide⟩ ⟨Nat.le_of_ble_eq_true rfl, Nat.le_of_ble_eq_true rfl⟩ d_1_35_21) (fun qx Ex ce u3 H locs hp4 V hce hcv hcl => ?_) (fun u3 H locs hp4 V => ?_)
    ·
      obtain ⟨cx6, he7, hc8, rfl, hE5⟩ := hp4
      have c9 : ¬ (F_NH_need (0 : Int32)) = (0 : Int32) := fun z => hc8 (((hE5) : cx6 = _).trans z)
      exact q_outT hno C0 V (⟨(F_NH_need (0 : Int32)), (he7.trans (congrArg qE ((hE5) : cx6 = _))), c9, rfl, (show (F_NH_need (0 : Int32)) = (F_NH_needRegister x1 x2) from (by rw [F_NH_needRegister.eq_1, if_pos c1, if_neg c9]))⟩) hce hcv hcl (Nat.le_of_ble_eq_true rfl) (Nat.le_of_ble_eq_true rfl)
    ·
      obtain ⟨rfl, hE10⟩ := hp4
      have c9 : (F_NH_need (0 : Int32)) = (0 : Int32) := ((hE10) : (0 : Int32) = _).symm
      exact q_retX (q_retv C0 V (⟨rfl, (show (0 : Int32) = (F_NH_needRegister x1 x2) from (by rw [F_NH_needRegister.eq_1, if_pos c1, if_pos c9]))⟩) d_1_35_24)
  ·
    refine lv_iload_n hx hb d_1_35_4 rfl (lv_at hl 0 rfl) ?_
    refine lv_iconst (v := 3) hx hb d_1_35_5 (by decide) ?_
    refine lv_icmp_gt (tgt := 20) hx hb d_1_35_6 (by decide) (fun c13 => ?_) (fun c13 => ?_)
    ·
      refine lv_iconst (v := 0) hx hb d_1_35_20 (by decide) ?_
      refine q_goxv V (q_runSX (As := [.int 0]) (rest := []) (d := 7) (mc := 1) (ms := 6) C0 V rfl LS_NH_104 (X_NH_need l D g q ws  0 hlt hI  ⟨(by have y0 : (0 : Int32).toInt = 0 := rfl; omega), (by have y0 : (0 : Int32).toInt = 0 := rfl; omega)⟩ _) rfl hl.1 rfl (Nat.le_of_ble_eq_true rfl) ⟨by decide, by decide⟩ ⟨Nat.le_of_ble_eq_true rfl, Nat.le_of_ble_eq_true rfl⟩ d_1_35_21) (fun qx Ex ce u15 H locs hp16 V hce hcv hcl => ?_) (fun u15 H locs hp16 V => ?_)
      ·
        obtain ⟨cx18, he19, hc20, rfl, hE17⟩ := hp16
        have c21 : ¬ (F_NH_need (0 : Int32)) = (0 : Int32) := fun z => hc20 (((hE17) : cx18 = _).trans z)
        exact q_outT hno C0 V (⟨(F_NH_need (0 : Int32)), (he19.trans (congrArg qE ((hE17) : cx18 = _))), c21, rfl, (show (F_NH_need (0 : Int32)) = (F_NH_needRegister x1 x2) from (by rw [F_NH_needRegister.eq_1, if_neg c1, if_pos c13, if_neg c21]))⟩) hce hcv hcl (Nat.le_of_ble_eq_true rfl) (Nat.le_of_ble_eq_true rfl)
      ·
        obtain ⟨rfl, hE22⟩ := hp16
        have c21 : (F_NH_need (0 : Int32)) = (0 : Int32) := ((hE22) : (0 : Int32) = _).symm
        exact q_retX (q_retv C0 V (⟨rfl, (show (0 : Int32) = (F_NH_needRegister x1 x2) from (by rw [F_NH_needRegister.eq_1, if_neg c1, if_pos c13, if_pos c21]))⟩) d_1_35_24)
    ·
      refine lv_iload_n hx hb d_1_35_9 rfl (lv_at hl 1 rfl) ?_
      refine q_goi V (q_runS (As := [.int x2]) (rest := []) (d := 1) (mc := 0) (ms := 0) C0 V rfl LS_NH_212 (X_NH_isRegister l D g q ws  x2 hI   _) rfl hl.1 rfl (Nat.le_of_ble_eq_true rfl) ⟨by decide, by decide⟩ ⟨Nat.le_of_ble_eq_true rfl, Nat.le_of_ble_eq_true rfl⟩ d_1_35_10) (fun a27 u25 H locs hp26 V => ?_)
      obtain ⟨rfl, b28, b29, hE30⟩ := hp26
      have e31 : a27 = (F_NH_isRegister x2) := hE30
      clear b28
      clear b29
      refine lv_if_eq (tgt := 20) hx hb d_1_35_13 (by decide) (fun c32 => ?_) (fun c32 => ?_)
      ·
        refine lv_iconst (v := 0) hx hb d_1_35_20 (by decide) ?_
        refine q_goxv V (q_runSX (As := [.int 0]) (rest := []) (d := 7) (mc := 1) (ms := 6) C0 V rfl LS_NH_104 (X_NH_need l D g q ws  0 hlt hI  ⟨(by have y0 : (0 : Int32).toInt = 0 := rfl; omega), (by have y0 : (0 : Int32).toInt = 0 := rfl; omega)⟩ _) rfl hl.1 rfl (Nat.le_of_ble_eq_true rfl) ⟨by decide, by decide⟩ ⟨Nat.le_of_ble_eq_true rfl, Nat.le_of_ble_eq_true rfl⟩ d_1_35_21) (fun qx Ex ce u34 H locs hp35 V hce hcv hcl => ?_) (fun u34 H locs hp35 V => ?_)
        ·
          obtain ⟨cx37, he38, hc39, rfl, hE36⟩ := hp35
          have c40 : ¬ (F_NH_need (0 : Int32)) = (0 : Int32) := fun z => hc39 (((hE36) : cx37 = _).trans z)
          exact q_outT hno C0 V (⟨(F_NH_need (0 : Int32)), (he38.trans (congrArg qE ((hE36) : cx37 = _))), c40, rfl, (show (F_NH_need (0 : Int32)) = (F_NH_needRegister x1 x2) from (by have c32x := c32; rw [e31] at c32x; rw [F_NH_needRegister.eq_1, if_neg c1, if_neg c13, if_pos c32x, if_neg c40]))⟩) hce hcv hcl (Nat.le_of_ble_eq_true rfl) (Nat.le_of_ble_eq_true rfl)
        ·
          obtain ⟨rfl, hE41⟩ := hp35
          have c40 : (F_NH_need (0 : Int32)) = (0 : Int32) := ((hE41) : (0 : Int32) = _).symm
          exact q_retX (q_retv C0 V (⟨rfl, (show (0 : Int32) = (F_NH_needRegister x1 x2) from (by have c32x := c32; rw [e31] at c32x; rw [F_NH_needRegister.eq_1, if_neg c1, if_neg c13, if_pos c32x, if_pos c40]))⟩) d_1_35_24)
      ·
        refine lv_iconst (v := 1) hx hb d_1_35_16 (by decide) ?_
        refine lv_goto (tgt := 21) hx hb d_1_35_17 (by decide) ?_
        refine q_goxv V (q_runSX (As := [.int 1]) (rest := []) (d := 7) (mc := 1) (ms := 6) C0 V rfl LS_NH_104 (X_NH_need l D g q ws  1 hlt hI  ⟨(by have y0 : (1 : Int32).toInt = 1 := rfl; omega), (by have y0 : (1 : Int32).toInt = 1 := rfl; omega)⟩ _) rfl hl.1 rfl (Nat.le_of_ble_eq_true rfl) ⟨by decide, by decide⟩ ⟨Nat.le_of_ble_eq_true rfl, Nat.le_of_ble_eq_true rfl⟩ d_1_35_21) (fun qx Ex ce u44 H locs hp45 V hce hcv hcl => ?_) (fun u44 H locs hp45 V => ?_)
        ·
          obtain ⟨cx47, he48, hc49, rfl, hE46⟩ := hp45
          have c50 : ¬ (F_NH_need (1 : Int32)) = (0 : Int32) := fun z => hc49 (((hE46) : cx47 = _).trans z)
          exact q_outT hno C0 V (⟨(F_NH_need (1 : Int32)), (he48.trans (congrArg qE ((hE46) : cx47 = _))), c50, rfl, (show (F_NH_need (1 : Int32)) = (F_NH_needRegister x1 x2) from (by have c32x := c32; rw [e31] at c32x; rw [F_NH_needRegister.eq_1, if_neg c1, if_neg c13, if_neg c32x, if_neg c50]))⟩) hce hcv hcl (Nat.le_of_ble_eq_true rfl) (Nat.le_of_ble_eq_true rfl)
        ·
          obtain ⟨rfl, hE51⟩ := hp45
          have c50 : (F_NH_need (1 : Int32)) = (0 : Int32) := ((hE51) : (0 : Int32) = _).symm
          exact q_retX (q_retv C0 V (⟨rfl, (show (0 : Int32) = (F_NH_needRegister x1 x2) from (by have c32x := c32; rw [e31] at c32x; rw [F_NH_needRegister.eq_1, if_neg c1, if_neg c13, if_neg c32x, if_pos c50]))⟩) d_1_35_24)
theorem d_1_28_0 : decode prog_1_method_28_code 0 = .ok (.aload_n 0, 1) := by decide +kernel
theorem d_1_28_1 : decode prog_1_method_28_code 1 = .ok (.getfield 43, 3) := by decide +kernel
theorem d_1_28_4 : decode prog_1_method_28_code 4 = .ok (.getfield 141, 3) := by decide +kernel
set_option maxRecDepth 100000 in
theorem w_112 : (Cond.fieldLink "NumberHouse" (141 : Nat) "NumberHouse$Mill" "number" "LNumberHouse$Big;") ∈ q_tbl := q_of1 112 rfl (by decide +kernel)
theorem d_1_28_7 : decode prog_1_method_28_code 7 = .ok (.invokevirtual 424, 3) := by decide +kernel
set_option maxRecDepth 100000 in
theorem w_1320 : (Cond.methodLink "NumberHouse" (424 : Nat) ({ cls := "NumberHouse$Big", name := "bitLength", desc := "()I" } : MethodName)) ∈ q_tbl := q_of6 120 rfl (by decide +kernel)
theorem LV_NH_424 : q_LV "NumberHouse" 424 y_Big_bitLength prog_2_method_12_code 1 (some .int) 0 := ⟨w_610, w_4, w_1320, w_608, w_609, ⟨by decide, by decide, by decide +kernel⟩⟩
theorem d_1_28_10 : decode prog_1_method_28_code 10 = .ok (.sipush 2048, 3) := by decide +kernel
theorem d_1_28_13 : decode prog_1_method_28_code 13 = .ok (.if_icmp .gt 7, 3) := by decide +kernel
theorem d_1_28_20 : decode prog_1_method_28_code 20 = .ok (.iconst 0, 1) := by decide +kernel
theorem d_1_28_21 : decode prog_1_method_28_code 21 = .ok (.invokestatic 138, 3) := by decide +kernel
set_option maxRecDepth 100000 in
theorem w_1066 : (Cond.code ({ cls := "NumberHouse", name := "canHave", desc := "(Z)V" } : MethodName) prog_1_method_37_code (1 : Nat) (none : Option ClassFile.FieldType)) ∈ q_tbl := q_of5 106 rfl (by decide +kernel)
set_option maxRecDepth 100000 in
theorem w_1064 : (Cond.methodLink "NumberHouse" (138 : Nat) ({ cls := "NumberHouse", name := "canHave", desc := "(Z)V" } : MethodName)) ∈ q_tbl := q_of5 104 rfl (by decide +kernel)
set_option maxRecDepth 100000 in
theorem w_1065 : (Cond.static ({ cls := "NumberHouse", name := "canHave", desc := "(Z)V" } : MethodName)) ∈ q_tbl := q_of5 105 rfl (by decide +kernel)
theorem LS_NH_138 : q_LS "NumberHouse" 138 y_NH_canHave prog_1_method_37_code 1 none 1 := ⟨w_1066, w_1, w_1064, w_1065, ⟨by decide, by decide, by decide +kernel⟩⟩
theorem d_1_28_24 : decode prog_1_method_28_code 24 = .ok (.aload_n 0, 1) := by decide +kernel
theorem d_1_28_25 : decode prog_1_method_28_code 25 = .ok (.getfield 23, 3) := by decide +kernel
theorem d_1_28_28 : decode prog_1_method_28_code 28 = .ok (.iload_n 1, 1) := by decide +kernel
theorem d_1_28_29 : decode prog_1_method_28_code 29 = .ok (.aaload, 1) := by decide +kernel
theorem d_1_28_30 : decode prog_1_method_28_code 30 = .ok (.aload_n 0, 1) := by decide +kernel
theorem d_1_28_31 : decode prog_1_method_28_code 31 = .ok (.getfield 43, 3) := by decide +kernel
theorem d_1_28_34 : decode prog_1_method_28_code 34 = .ok (.getfield 141, 3) := by decide +kernel
theorem d_1_28_37 : decode prog_1_method_28_code 37 = .ok (.invokevirtual 145, 3) := by decide +kernel
set_option maxRecDepth 100000 in
theorem w_1083 : (Cond.methodLink "NumberHouse" (145 : Nat) ({ cls := "NumberHouse$Big", name := "copy", desc := "(LNumberHouse$Big;)V" } : MethodName)) ∈ q_tbl := q_of5 123 rfl (by decide +kernel)
theorem LV_NH_145 : q_LV "NumberHouse" 145 y_Big_copy prog_2_method_4_code 2 none 1 := ⟨w_790, w_4, w_1083, w_788, w_789, ⟨by decide, by decide, by decide +kernel⟩⟩
theorem d_1_28_40 : decode prog_1_method_28_code 40 = .ok (.return_, 1) := by decide +kernel
theorem d_1_28_16 : decode prog_1_method_28_code 16 = .ok (.iconst 1, 1) := by decide +kernel
theorem d_1_28_17 : decode prog_1_method_28_code 17 = .ok (.goto 4, 3) := by decide +kernel
def y_NH_keepWhole : MethodName := ⟨"NumberHouse", "keepWhole", "(I)V"⟩
def F_NH_keepWhole_c37 (x2 : Int32) (t0_0 : Int32) (t0_1 : Int32) (t1_0 : (Nat → Int32)) (t2_0 : Int32) (t2_1 : Int32) (t3_0 : (Nat → Int32)) (p57 : (Int32 × Int32 × (Nat → Int32))) : Int32 × Int32 × Int32 × (Nat → Int32) := ((0 : Int32), (p57.1 : Int32), (p57.2.1 : Int32), (p57.2.2 : (Nat → Int32)))
def F_NH_keepWhole_c37_2 (x2 : Int32) (t0_0 : Int32) (t0_1 : Int32) (t1_0 : (Nat → Int32)) (t2_0 : Int32) (t2_1 : Int32) (t3_0 : (Nat → Int32)) (p96 : (Int32 × Int32 × (Nat → Int32))) : Int32 × Int32 × Int32 × (Nat → Int32) := ((0 : Int32), (p96.1 : Int32), (p96.2.1 : Int32), (p96.2.2 : (Nat → Int32)))
def F_NH_keepWhole (x2 : Int32) (t0_0 : Int32) (t0_1 : Int32) (t1_0 : (Nat → Int32)) (t2_0 : Int32) (t2_1 : Int32) (t3_0 : (Nat → Int32)) : Int32 × Int32 × Int32 × (Nat → Int32) := if (2048 : Int32) < ((F_Big_bitLength (220 : Int32) t0_0 t0_1 t1_0) : Int32) then (if (F_NH_canHave (0 : Int32)) = (0 : Int32) then (F_NH_keepWhole_c37 x2 t0_0 t0_1 t1_0 t2_0 t2_1 t3_0 ((F_Big_copy (68 : Int32) (220 : Int32) t2_0 t2_1 t3_0 t0_0 t0_1 t1_0) : (Int32 × Int32 × (Nat → Int32)))) else (((F_NH_canHave (0 : Int32)), t2_0, t2_1, t3_0))) else (if (F_NH_canHave (1 : Int32)) = (0 : Int32) then (F_NH_keepWhole_c37_2 x2 t0_0 t0_1 t1_0 t2_0 t2_1 t3_0 ((F_Big_copy (68 : Int32) (220 : Int32) t2_0 t2_1 t3_0 t0_0 t0_1 t1_0) : (Int32 × Int32 × (Nat → Int32)))) else (((F_NH_canHave (1 : Int32)), t2_0, t2_1, t3_0)))
def S_NH_keepWhole_c37 (x2 : Int32) (t0_0 : Int32) (t0_1 : Int32) (t1_0 : (Nat → Int32)) (t2_0 : Int32) (t2_1 : Int32) (t3_0 : (Nat → Int32)) (p57 : (Int32 × Int32 × (Nat → Int32))) : Prop := True
def S_NH_keepWhole_c37_2 (x2 : Int32) (t0_0 : Int32) (t0_1 : Int32) (t1_0 : (Nat → Int32)) (t2_0 : Int32) (t2_1 : Int32) (t3_0 : (Nat → Int32)) (p96 : (Int32 × Int32 × (Nat → Int32))) : Prop := True
def S_NH_keepWhole (x2 : Int32) (t0_0 : Int32) (t0_1 : Int32) (t1_0 : (Nat → Int32)) (t2_0 : Int32) (t2_1 : Int32) (t3_0 : (Nat → Int32)) : Prop := if (2048 : Int32) < ((F_Big_bitLength (220 : Int32) t0_0 t0_1 t1_0) : Int32) then (if (F_NH_canHave (0 : Int32)) = (0 : Int32) then ((0 ≤ x2.toInt) ∧ ((x2.toInt ≤ 9) ∧ (S_NH_keepWhole_c37 x2 t0_0 t0_1 t1_0 t2_0 t2_1 t3_0 ((F_Big_copy (68 : Int32) (220 : Int32) t2_0 t2_1 t3_0 t0_0 t0_1 t1_0) : (Int32 × Int32 × (Nat → Int32)))))) else (True)) else (if (F_NH_canHave (1 : Int32)) = (0 : Int32) then ((0 ≤ x2.toInt) ∧ ((x2.toInt ≤ 9) ∧ (S_NH_keepWhole_c37_2 x2 t0_0 t0_1 t1_0 t2_0 t2_1 t3_0 ((F_Big_copy (68 : Int32) (220 : Int32) t2_0 t2_1 t3_0 t0_0 t0_1 t1_0) : (Int32 × Int32 × (Nat → Int32)))))) else (True))
set_option maxRecDepth 100000 in
set_option maxHeartbeats 4000000 in
theorem X_NH_keepWhole (l : Launch) (D : va_G) (g : Nat → ClassId) (q : Nat → Nat) (ws : va_W) (x2 : Int32) (k2 : Nat) (hBk2 : q_isBig (nsh g q) g q k2 68) (yk2 : 66 ≤ k2) (gk2x2 : x2.toNatClampNeg < 10 → k2 = 66 + 5 * x2.toNatClampNeg) (hlt : l.stackTraces = false) (hI : q_I (nsh g q) q ws) (t0_0 : Int32) (t0_1 : Int32) (hT0 : ws[10]? = (some (q 10, .inr (2, [.ref (q 11), .int t0_0, .int t0_1])) : Option (Nat × va_E))) (t1_0 : (Nat → Int32)) (hT1 : ws[11]? = (some (q 11, .inl (g 0, (220 : Int32).toNatClampNeg, .inl t1_0)) : Option (Nat × va_E))) (t2_0 : Int32) (t2_1 : Int32) (hT2 : ws[k2]? = (some (q k2, .inr (2, [.ref (q (k2 + 1)), .int t2_0, .int t2_1])) : Option (Nat × va_E))) (t3_0 : (Nat → Int32)) (hT3 : ws[k2 + 1]? = (some (q (k2 + 1), .inl (g 0, (68 : Int32).toNatClampNeg, .inl t3_0)) : Option (Nat × va_E))) (hS : True ∧ S_NH_keepWhole x2 t0_0 t0_1 t1_0 t2_0 t2_1 t3_0) : ∀ sz, q_Mx l y_NH_keepWhole prog_1_method_28_code 2 none 8 1 6 D g [.ref (q 0), .int x2] ws sz (va_Qv (fun u => q_I (nsh g q) q u ∧ q_un ws u [k2, k2 + 1] ∧ ∃ (u2_0 : Int32) (u2_1 : Int32) (u3_0 : (Nat → Int32)), u[k2]? = (some (q k2, .inr (2, [.ref (q (k2 + 1)), .int u2_0, .int u2_1])) : Option (Nat × va_E)) ∧ u[k2 + 1]? = (some (q (k2 + 1), .inl (g 0, (68 : Int32).toNatClampNeg, .inl u3_0)) : Option (Nat × va_E)) ∧ (0 ≤ u2_0.toInt) ∧ (u2_0.toInt ≤ 68) ∧ (x2.toInt ≤ u2_0.toInt + 9) ∧ (u2_0.toInt ≤ x2.toInt + 68) ∧ (u2_0.toInt ≤ t0_0.toInt) ∧ (x2.toInt ≤ u2_1.toInt + 9) ∧ (u2_1.toInt ≤ x2.toInt + 1) ∧ (t0_1.toInt ≤ u2_1.toInt) ∧ (u2_1.toInt ≤ t0_1.toInt) ∧ ((0 : Int32), u2_0, u2_1, u3_0) = (F_NH_keepWhole x2 t0_0 t0_1 t1_0 t2_0 t2_1 t3_0)) (q_B D g (va_A ws sz)) (va_A ws sz)) (fun E u => ∃ c : Int32, E = qE c ∧ c ≠ 0 ∧ q_I (nsh g q) q u ∧ q_un ws u [k2, k2 + 1] ∧ ∃ (u2_0 : Int32) (u2_1 : Int32) (u3_0 : (Nat → Int32)), u[k2]? = (some (q k2, .inr (2, [.ref (q (k2 + 1)), .int u2_0, .int u2_1])) : Option (Nat × va_E)) ∧ u[k2 + 1]? = (some (q (k2 + 1), .inl (g 0, (68 : Int32).toNatClampNeg, .inl u3_0)) : Option (Nat × va_E)) ∧ (c, u2_0, u2_1, u3_0) = (F_NH_keepWhole x2 t0_0 t0_1 t1_0 t2_0 t2_1 t3_0)) := by
  intro sz
  refine q_intoX (by decide) (Nat.le_of_ble_eq_true rfl) ?_
  intro p e s m below meth c ls hsz C0 V hno hl
  have hx := C0.1
  have hb := C0.2.1
  have btt0_1 := (q_bigW hI (n_b10 g q) hT0).2
  replace btt0_1 : q_F (0 ≤ t0_1.toInt ∧ t0_1.toInt ≤ 1) := btt0_1
  have btt2_1 := (q_bigW hI hBk2 hT2).2
  clear btt2_1
  have hF : q_un ws ws [k2, k2 + 1] := q_u0
  have hl : lv_has ls 2 [(0, .ref (q 0)), (1, .int x2)] := hl
  refine lv_aload_n hx hb d_1_28_0 rfl (lv_at hl 0 rfl) ?_
  have hO17 := n_o0 hI
  refine q_get (ci := 0) (j := 6) (v := .ref (q 9)) C0 V i_NH rfl rfl hO17 (by decide) w_430 rfl d_1_28_1 ?_
  have hO18 := n_o9 hI
  refine q_get (ci := 4) (j := 0) (v := .ref (q 10)) C0 V i_Mil rfl rfl hO18 (by decide) w_112 rfl d_1_28_4 ?_
  refine q_goi V (q_runV (As := []) (rest := []) (d := 3) (mc := 0) (ms := 0) (ci := 2) C0 V rfl LV_NH_424 (X_Big_bitLength l D g q ws 10 220 (n_b10 g q) (by decide)  hI t0_0 t0_1 hT0 t1_0 hT1  _) rfl rfl hT0 rfl hl.1 rfl (Nat.le_of_ble_eq_true rfl) ⟨by decide, by decide⟩ ⟨Nat.le_of_ble_eq_true rfl, Nat.le_of_ble_eq_true rfl⟩ d_1_28_7) (fun a21 u19 H locs hp20 V => ?_)
  obtain ⟨rfl, b22, b23, b24, hE25⟩ := hp20
  have e26 : a21 = (F_Big_bitLength (220 : Int32) t0_0 t0_1 t1_0) := hE25
  clear b22
  clear b23
  clear b24
  refine lv_sipush (v := 2048) hx hb d_1_28_10 (by decide) ?_
  refine lv_icmp_gt (tgt := 20) hx hb d_1_28_13 (by decide) (fun c27 => ?_) (fun c27 => ?_)
  ·
    refine lv_iconst (v := 0) hx hb d_1_28_20 (by decide) ?_
    refine q_goxv V (q_runSX (As := [.int 0]) (rest := []) (d := 7) (mc := 1) (ms := 6) C0 V rfl LS_NH_138 (X_NH_canHave l D g q ws  0 hlt hI  ⟨(by have y0 : (0 : Int32).toInt = 0 := rfl; omega), (by have y0 : (0 : Int32).toInt = 0 := rfl; omega)⟩ _) rfl hl.1 rfl (Nat.le_of_ble_eq_true rfl) ⟨by decide, by decide⟩ ⟨Nat.le_of_ble_eq_true rfl, Nat.le_of_ble_eq_true rfl⟩ d_1_28_21) (fun qx Ex ce u29 H locs hp30 V hce hcv hcl => ?_) (fun u29 H locs hp30 V => ?_)
    ·
      obtain ⟨cx32, he33, hc34, rfl, hE31⟩ := hp30
      have c35 : ¬ (F_NH_canHave (0 : Int32)) = (0 : Int32) := fun z => hc34 (((hE31) : cx32 = _).trans z)
      exact q_outT hno C0 V (⟨(F_NH_canHave (0 : Int32)), (he33.trans (congrArg qE ((hE31) : cx32 = _))), c35, hI, hF, t2_0, t2_1, t3_0, hT2, hT3, (show ((F_NH_canHave (0 : Int32)), t2_0, t2_1, t3_0) = (F_NH_keepWhole x2 t0_0 t0_1 t1_0 t2_0 t2_1 t3_0) from (by have c27x := c27; rw [e26] at c27x; rw [F_NH_keepWhole.eq_1, if_pos c27x, if_neg c35]))⟩) hce hcv hcl (Nat.le_of_ble_eq_true rfl) (Nat.le_of_ble_eq_true rfl)
    ·
      obtain ⟨rfl, hE36⟩ := hp30
      have c35 : (F_NH_canHave (0 : Int32)) = (0 : Int32) := ((hE36) : (0 : Int32) = _).symm
      refine lv_aload_n hx hb d_1_28_24 rfl (lv_at hl 0 rfl) ?_
      refine q_get (ci := 0) (j := 2) (v := .ref (q 5)) C0 V i_NH rfl rfl hO17 (by decide) w_426 rfl d_1_28_25 ?_
      refine lv_iload_n hx hb d_1_28_28 rfl (lv_at hl 1 rfl) ?_
      have hX38 := n_fx hI (n_s5 g q)
      have ob39 : q_F (0 ≤ x2.toInt) := (by have h := hS; rw [S_NH_keepWhole.eq_1] at h; have c27x := c27; rw [e26] at c27x; rw [if_pos c27x] at h; rw [if_pos c35] at h; exact h.2.1)
      have ob40 : q_F (x2.toInt ≤ 9) := (by have h := hS; rw [S_NH_keepWhole.eq_1] at h; have c27x := c27; rw [e26] at c27x; rw [if_pos c27x] at h; rw [if_pos c35] at h; replace h := q_s2 h; exact h.2.1)
      have hj41 : x2.toNatClampNeg < 10 := by have z := q_clI (i := x2) (x := x2.toInt) rfl (by first | with_reducible exact q_fe ob39 | (have t1 : 0 ≤ x2.toInt := ob39; omega)); have t1 : 0 ≤ x2.toInt := ob39; have t2 : x2.toInt ≤ 9 := ob40; omega
      have hq42 := gk2x2 hj41
      refine q_aald (t := 4) (q := q k2) C0 V hX38 rfl (q_ix (x := x2.toInt) rfl (by first | with_reducible exact q_fe ob39 | (have t1 : 0 ≤ x2.toInt := ob39; omega)) (by have t1 : 0 ≤ x2.toInt := ob39; have t2 : x2.toInt ≤ 9 := ob40; omega)) (by rw [hq42]; exact n_fwv hj41) d_1_28_29 ?_
      refine lv_aload_n hx hb d_1_28_30 rfl (lv_at hl 0 rfl) ?_
      refine q_get (ci := 0) (j := 6) (v := .ref (q 9)) C0 V i_NH rfl rfl hO17 (by decide) w_430 rfl d_1_28_31 ?_
      refine q_get (ci := 4) (j := 0) (v := .ref (q 10)) C0 V i_Mil rfl rfl hO18 (by decide) w_112 rfl d_1_28_34 ?_
      refine q_gov V (q_runV (As := [.ref (q 10)]) (rest := []) (d := 2) (mc := 0) (ms := 0) (ci := 2) C0 V rfl LV_NH_145 (X_Big_copy l D g q ws k2 68 hBk2 (Or.inr yk2) 10 220 (n_b10 g q) (by decide)  (by have z0 := yk2; omega) hI t2_0 t2_1 hT2 t3_0 hT3 t0_0 t0_1 hT0 t1_0 hT1  _) rfl rfl hT2 rfl hl.1 rfl (Nat.le_of_ble_eq_true rfl) ⟨by decide, by decide⟩ ⟨Nat.le_of_ble_eq_true rfl, Nat.le_of_ble_eq_true rfl⟩ d_1_28_37) (fun u43 H locs hp44 V => ?_)
      obtain ⟨hI, hZ9⟩ := hp44
      obtain ⟨hu56, hZ9⟩ := hZ9
      obtain ⟨y46, hZ9⟩ := hZ9
      obtain ⟨y47, hZ9⟩ := hZ9
      obtain ⟨f48, hZ9⟩ := hZ9
      obtain ⟨hO45, hZ9⟩ := hZ9
      obtain ⟨hA49, hZ9⟩ := hZ9
      obtain ⟨b50, hZ9⟩ := hZ9
      obtain ⟨b51, hZ9⟩ := hZ9
      obtain ⟨b52, hZ9⟩ := hZ9
      obtain ⟨b53, hZ9⟩ := hZ9
      obtain ⟨b54, hE55⟩ := hZ9
      replace hO45 : u43[k2]? = (some (q k2, .inr (2, [.ref (q (k2 + 1)), .int y46, .int y47])) : Option (Nat × va_E)) := hO45
      replace hA49 : u43[k2 + 1]? = (some (q (k2 + 1), .inl (g 0, (68 : Int32).toNatClampNeg, .inl f48)) : Option (Nat × va_E)) := hA49
      obtain ⟨p57, e58⟩ : ∃ z, z = (F_Big_copy (68 : Int32) (220 : Int32) t2_0 t2_1 t3_0 t0_0 t0_1 t1_0) := ⟨_, rfl⟩
      have e59 : y46 = p57.1 := congrArg (fun z => z.1) (hE55.trans e58.symm)
      have e60 : y47 = p57.2.1 := congrArg (fun z => z.2.1) (hE55.trans e58.symm)
      have e61 : f48 = p57.2.2 := congrArg (fun z => z.2.2) (hE55.trans e58.symm)
      replace b50 : q_F (0 ≤ y46.toInt) := b50
      replace b51 : q_F (y46.toInt ≤ t0_0.toInt) := b51
      replace b52 : q_F (y46.toInt ≤ 68) := b52
      replace b53 : q_F (t0_1.toInt ≤ y47.toInt) := b53
      replace b54 : q_F (y47.toInt ≤ t0_1.toInt) := b54
      replace hF := q_uc hF hu56 (by first | exact (q_sk (q_mi 0 rfl) (q_sk (q_mi 1 rfl) q_s0)) | simp)
      have hR62 := (show F_NH_keepWhole_c37 x2 t0_0 t0_1 t1_0 t2_0 t2_1 t3_0 p57 = (F_NH_keepWhole x2 t0_0 t0_1 t1_0 t2_0 t2_1 t3_0) from (by have c27x := c27; rw [e26] at c27x; rw [e58, F_NH_keepWhole.eq_1, if_pos c27x, if_pos c35]))
      have hS63 := (show True ∧ S_NH_keepWhole_c37 x2 t0_0 t0_1 t1_0 t2_0 t2_1 t3_0 p57 from (by rw [e58]; have h := hS; rw [S_NH_keepWhole.eq_1] at h; have c27x := c27; rw [e26] at c27x; rw [if_pos c27x] at h; rw [if_pos c35] at h; replace h := q_s2 h; replace h := q_s2 h; with_reducible exact h))
      exact q_retX (q_retv C0 V (⟨hI, hF, y46, y47, f48, hO45, hA49, (show 0 ≤ y46.toInt from (by first | with_reducible exact q_fe b50 | (have t1 : 0 ≤ y46.toInt := b50; omega))), (show y46.toInt ≤ 68 from (by first | with_reducible exact q_fe b52 | (have t1 : y46.toInt ≤ 68 := b52; omega))), (show x2.toInt ≤ y46.toInt + 9 from (by have t1 : x2.toInt ≤ 9 := ob40; have t2 : 0 ≤ y46.toInt := b50; omega)), (show y46.toInt ≤ x2.toInt + 68 from (by have t1 : 0 ≤ x2.toInt := ob39; have t2 : y46.toInt ≤ 68 := b52; omega)), (show y46.toInt ≤ t0_0.toInt from (by first | with_reducible exact q_fe b51 | (have t1 : y46.toInt ≤ t0_0.toInt := b51; omega))), (show x2.toInt ≤ y47.toInt + 9 from (by have t1 : 0 ≤ t0_1.toInt ∧ t0_1.toInt ≤ 1 := btt0_1; have t2 : x2.toInt ≤ 9 := ob40; have t3 : t0_1.toInt ≤ y47.toInt := b53; omega)), (show y47.toInt ≤ x2.toInt + 1 from (by have t1 : 0 ≤ t0_1.toInt ∧ t0_1.toInt ≤ 1 := btt0_1; have t2 : 0 ≤ x2.toInt := ob39; have t3 : y47.toInt ≤ t0_1.toInt := b54; omega)), (show t0_1.toInt ≤ y47.toInt from (by first | with_reducible exact q_fe b53 | (have t1 : t0_1.toInt ≤ y47.toInt := b53; omega))), (show y47.toInt ≤ t0_1.toInt from (by first | with_reducible exact q_fe b54 | (have t1 : y47.toInt ≤ t0_1.toInt := b54; omega))), (show ((0 : Int32), y46, y47, f48) = (F_NH_keepWhole x2 t0_0 t0_1 t1_0 t2_0 t2_1 t3_0) from Eq.trans (by rw [e61, e60, e59, F_NH_keepWhole_c37.eq_1]) hR62)⟩) d_1_28_40)
  ·
    refine lv_iconst (v := 1) hx hb d_1_28_16 (by decide) ?_
    refine lv_goto (tgt := 21) hx hb d_1_28_17 (by decide) ?_
    refine q_goxv V (q_runSX (As := [.int 1]) (rest := []) (d := 7) (mc := 1) (ms := 6) C0 V rfl LS_NH_138 (X_NH_canHave l D g q ws  1 hlt hI  ⟨(by have y0 : (1 : Int32).toInt = 1 := rfl; omega), (by have y0 : (1 : Int32).toInt = 1 := rfl; omega)⟩ _) rfl hl.1 rfl (Nat.le_of_ble_eq_true rfl) ⟨by decide, by decide⟩ ⟨Nat.le_of_ble_eq_true rfl, Nat.le_of_ble_eq_true rfl⟩ d_1_28_21) (fun qx Ex ce u68 H locs hp69 V hce hcv hcl => ?_) (fun u68 H locs hp69 V => ?_)
    ·
      obtain ⟨cx71, he72, hc73, rfl, hE70⟩ := hp69
      have c74 : ¬ (F_NH_canHave (1 : Int32)) = (0 : Int32) := fun z => hc73 (((hE70) : cx71 = _).trans z)
      exact q_outT hno C0 V (⟨(F_NH_canHave (1 : Int32)), (he72.trans (congrArg qE ((hE70) : cx71 = _))), c74, hI, hF, t2_0, t2_1, t3_0, hT2, hT3, (show ((F_NH_canHave (1 : Int32)), t2_0, t2_1, t3_0) = (F_NH_keepWhole x2 t0_0 t0_1 t1_0 t2_0 t2_1 t3_0) from (by have c27x := c27; rw [e26] at c27x; rw [F_NH_keepWhole.eq_1, if_neg c27x, if_neg c74]))⟩) hce hcv hcl (Nat.le_of_ble_eq_true rfl) (Nat.le_of_ble_eq_true rfl)
    ·
      obtain ⟨rfl, hE75⟩ := hp69
      have c74 : (F_NH_canHave (1 : Int32)) = (0 : Int32) := ((hE75) : (0 : Int32) = _).symm
      refine lv_aload_n hx hb d_1_28_24 rfl (lv_at hl 0 rfl) ?_
      refine q_get (ci := 0) (j := 2) (v := .ref (q 5)) C0 V i_NH rfl rfl hO17 (by decide) w_426 rfl d_1_28_25 ?_
      refine lv_iload_n hx hb d_1_28_28 rfl (lv_at hl 1 rfl) ?_
      have hX77 := n_fx hI (n_s5 g q)
      have ob78 : q_F (0 ≤ x2.toInt) := (by have h := hS; rw [S_NH_keepWhole.eq_1] at h; have c27x := c27; rw [e26] at c27x; rw [if_neg c27x] at h; rw [if_pos c74] at h; exact h.2.1)
      have ob79 : q_F (x2.toInt ≤ 9) := (by have h := hS; rw [S_NH_keepWhole.eq_1] at h; have c27x := c27; rw [e26] at c27x; rw [if_neg c27x] at h; rw [if_pos c74] at h; replace h := q_s2 h; exact h.2.1)
      have hj80 : x2.toNatClampNeg < 10 := by have z := q_clI (i := x2) (x := x2.toInt) rfl (by first | with_reducible exact q_fe ob78 | (have t1 : 0 ≤ x2.toInt := ob78; omega)); have t1 : 0 ≤ x2.toInt := ob78; have t2 : x2.toInt ≤ 9 := ob79; omega
      have hq81 := gk2x2 hj80
      refine q_aald (t := 4) (q := q k2) C0 V hX77 rfl (q_ix (x := x2.toInt) rfl (by first | with_reducible exact q_fe ob78 | (have t1 : 0 ≤ x2.toInt := ob78; omega)) (by have t1 : 0 ≤ x2.toInt := ob78; have t2 : x2.toInt ≤ 9 := ob79; omega)) (by rw [hq81]; exact n_fwv hj80) d_1_28_29 ?_
      refine lv_aload_n hx hb d_1_28_30 rfl (lv_at hl 0 rfl) ?_
      refine q_get (ci := 0) (j := 6) (v := .ref (q 9)) C0 V i_NH rfl rfl hO17 (by decide) w_430 rfl d_1_28_31 ?_
      refine q_get (ci := 4) (j := 0) (v := .ref (q 10)) C0 V i_Mil rfl rfl hO18 (by decide) w_112 rfl d_1_28_34 ?_
      refine q_gov V (q_runV (As := [.ref (q 10)]) (rest := []) (d := 2) (mc := 0) (ms := 0) (ci := 2) C0 V rfl LV_NH_145 (X_Big_copy l D g q ws k2 68 hBk2 (Or.inr yk2) 10 220 (n_b10 g q) (by decide)  (by have z0 := yk2; omega) hI t2_0 t2_1 hT2 t3_0 hT3 t0_0 t0_1 hT0 t1_0 hT1  _) rfl rfl hT2 rfl hl.1 rfl (Nat.le_of_ble_eq_true rfl) ⟨by decide, by decide⟩ ⟨Nat.le_of_ble_eq_true rfl, Nat.le_of_ble_eq_true rfl⟩ d_1_28_37) (fun u82 H locs hp83 V => ?_)
      obtain ⟨hI, hZ9⟩ := hp83
      obtain ⟨hu95, hZ9⟩ := hZ9
      obtain ⟨y85, hZ9⟩ := hZ9
      obtain ⟨y86, hZ9⟩ := hZ9
      obtain ⟨f87, hZ9⟩ := hZ9
      obtain ⟨hO84, hZ9⟩ := hZ9
      obtain ⟨hA88, hZ9⟩ := hZ9
      obtain ⟨b89, hZ9⟩ := hZ9
      obtain ⟨b90, hZ9⟩ := hZ9
      obtain ⟨b91, hZ9⟩ := hZ9
      obtain ⟨b92, hZ9⟩ := hZ9
      obtain ⟨b93, hE94⟩ := hZ9
      replace hO84 : u82[k2]? = (some (q k2, .inr (2, [.ref (q (k2 + 1)), .int y85, .int y86])) : Option (Nat × va_E)) := hO84
      replace hA88 : u82[k2 + 1]? = (some (q (k2 + 1), .inl (g 0, (68 : Int32).toNatClampNeg, .inl f87)) : Option (Nat × va_E)) := hA88
      obtain ⟨p96, e97⟩ : ∃ z, z = (F_Big_copy (68 : Int32) (220 : Int32) t2_0 t2_1 t3_0 t0_0 t0_1 t1_0) := ⟨_, rfl⟩
      have e98 : y85 = p96.1 := congrArg (fun z => z.1) (hE94.trans e97.symm)
      have e99 : y86 = p96.2.1 := congrArg (fun z => z.2.1) (hE94.trans e97.symm)
      have e100 : f87 = p96.2.2 := congrArg (fun z => z.2.2) (hE94.trans e97.symm)
      replace b89 : q_F (0 ≤ y85.toInt) := b89
      replace b90 : q_F (y85.toInt ≤ t0_0.toInt) := b90
      replace b91 : q_F (y85.toInt ≤ 68) := b91
      replace b92 : q_F (t0_1.toInt ≤ y86.toInt) := b92
      replace b93 : q_F (y86.toInt ≤ t0_1.toInt) := b93
      replace hF := q_uc hF hu95 (by first | exact (q_sk (q_mi 0 rfl) (q_sk (q_mi 1 rfl) q_s0)) | simp)
      have hR101 := (show F_NH_keepWhole_c37_2 x2 t0_0 t0_1 t1_0 t2_0 t2_1 t3_0 p96 = (F_NH_keepWhole x2 t0_0 t0_1 t1_0 t2_0 t2_1 t3_0) from (by have c27x := c27; rw [e26] at c27x; rw [e97, F_NH_keepWhole.eq_1, if_neg c27x, if_pos c74]))
      have hS102 := (show True ∧ S_NH_keepWhole_c37_2 x2 t0_0 t0_1 t1_0 t2_0 t2_1 t3_0 p96 from (by rw [e97]; have h := hS; rw [S_NH_keepWhole.eq_1] at h; have c27x := c27; rw [e26] at c27x; rw [if_neg c27x] at h; rw [if_pos c74] at h; replace h := q_s2 h; replace h := q_s2 h; with_reducible exact h))
      exact q_retX (q_retv C0 V (⟨hI, hF, y85, y86, f87, hO84, hA88, (show 0 ≤ y85.toInt from (by first | with_reducible exact q_fe b89 | (have t1 : 0 ≤ y85.toInt := b89; omega))), (show y85.toInt ≤ 68 from (by first | with_reducible exact q_fe b91 | (have t1 : y85.toInt ≤ 68 := b91; omega))), (show x2.toInt ≤ y85.toInt + 9 from (by have t1 : x2.toInt ≤ 9 := ob79; have t2 : 0 ≤ y85.toInt := b89; omega)), (show y85.toInt ≤ x2.toInt + 68 from (by have t1 : 0 ≤ x2.toInt := ob78; have t2 : y85.toInt ≤ 68 := b91; omega)), (show y85.toInt ≤ t0_0.toInt from (by first | with_reducible exact q_fe b90 | (have t1 : y85.toInt ≤ t0_0.toInt := b90; omega))), (show x2.toInt ≤ y86.toInt + 9 from (by have t1 : 0 ≤ t0_1.toInt ∧ t0_1.toInt ≤ 1 := btt0_1; have t2 : x2.toInt ≤ 9 := ob79; have t3 : t0_1.toInt ≤ y86.toInt := b92; omega)), (show y86.toInt ≤ x2.toInt + 1 from (by have t1 : 0 ≤ t0_1.toInt ∧ t0_1.toInt ≤ 1 := btt0_1; have t2 : 0 ≤ x2.toInt := ob78; have t3 : y86.toInt ≤ t0_1.toInt := b93; omega)), (show t0_1.toInt ≤ y86.toInt from (by first | with_reducible exact q_fe b92 | (have t1 : t0_1.toInt ≤ y86.toInt := b92; omega))), (show y86.toInt ≤ t0_1.toInt from (by first | with_reducible exact q_fe b93 | (have t1 : y86.toInt ≤ t0_1.toInt := b93; omega))), (show ((0 : Int32), y85, y86, f87) = (F_NH_keepWhole x2 t0_0 t0_1 t1_0 t2_0 t2_1 t3_0) from Eq.trans (by rw [e100, e99, e98, F_NH_keepWhole_c37_2.eq_1]) hR101)⟩) d_1_28_40)
theorem d_1_29_0 : decode prog_1_method_29_code 0 = .ok (.aload_n 0, 1) := by decide +kernel
theorem d_1_29_1 : decode prog_1_method_29_code 1 = .ok (.getfield 52, 3) := by decide +kernel
theorem d_1_29_4 : decode prog_1_method_29_code 4 = .ok (.aload_n 0, 1) := by decide +kernel
theorem d_1_29_5 : decode prog_1_method_29_code 5 = .ok (.getfield 43, 3) := by decide +kernel
theorem d_1_29_8 : decode prog_1_method_29_code 8 = .ok (.getfield 141, 3) := by decide +kernel
theorem d_1_29_11 : decode prog_1_method_29_code 11 = .ok (.aload_n 0, 1) := by decide +kernel
theorem d_1_29_12 : decode prog_1_method_29_code 12 = .ok (.getfield 52, 3) := by decide +kernel
theorem d_1_29_15 : decode prog_1_method_29_code 15 = .ok (.getfield 292, 3) := by decide +kernel
set_option maxRecDepth 100000 in
theorem w_213 : (Cond.fieldLink "NumberHouse" (292 : Nat) "NumberHouse$DecimalWork" "scale" "J") ∈ q_tbl := q_of1 213 rfl (by decide +kernel)
theorem d_1_29_18 : decode prog_1_method_29_code 18 = .ok (.aload_n 0, 1) := by decide +kernel
theorem d_1_29_19 : decode prog_1_method_29_code 19 = .ok (.getfield 29, 3) := by decide +kernel
theorem d_1_29_22 : decode prog_1_method_29_code 22 = .ok (.iload_n 1, 1) := by decide +kernel
theorem d_1_29_23 : decode prog_1_method_29_code 23 = .ok (.aaload, 1) := by decide +kernel
theorem d_1_29_24 : decode prog_1_method_29_code 24 = .ok (.invokevirtual 153, 3) := by decide +kernel
set_option maxRecDepth 100000 in
theorem w_1087 : (Cond.code ({ cls := "NumberHouse$DecimalWork", name := "settle", desc := "(LNumberHouse$Big;JLNumberHouse$Dec;)Z" } : MethodName) prog_4_method_2_code (6 : Nat) (some .boolean)) ∈ q_tbl := q_of5 127 rfl (by decide +kernel)
set_option maxRecDepth 100000 in
theorem w_1084 : (Cond.methodLink "NumberHouse" (153 : Nat) ({ cls := "NumberHouse$DecimalWork", name := "settle", desc := "(LNumberHouse$Big;JLNumberHouse$Dec;)Z" } : MethodName)) ∈ q_tbl := q_of5 124 rfl (by decide +kernel)
set_option maxRecDepth 100000 in
theorem w_1085 : (Cond.instanceMethod ({ cls := "NumberHouse$DecimalWork", name := "settle", desc := "(LNumberHouse$Big;JLNumberHouse$Dec;)Z" } : MethodName)) ∈ q_tbl := q_of5 125 rfl (by decide +kernel)
set_option maxRecDepth 100000 in
theorem w_1086 : (Cond.selects "NumberHouse$DecimalWork" ({ cls := "NumberHouse$DecimalWork", name := "settle", desc := "(LNumberHouse$Big;JLNumberHouse$Dec;)Z" } : MethodName) ({ cls := "NumberHouse$DecimalWork", name := "settle", desc := "(LNumberHouse$Big;JLNumberHouse$Dec;)Z" } : MethodName)) ∈ q_tbl := q_of5 126 rfl (by decide +kernel)
theorem LV_NH_153 : q_LV "NumberHouse" 153 y_DW_settle prog_4_method_2_code 6 (some .boolean) 3 := ⟨w_1087, w_5, w_1084, w_1085, w_1086, ⟨by decide, by decide, by decide +kernel⟩⟩
theorem d_1_29_27 : decode prog_1_method_29_code 27 = .ok (.invokestatic 138, 3) := by decide +kernel
theorem d_1_29_30 : decode prog_1_method_29_code 30 = .ok (.return_, 1) := by decide +kernel
def y_NH_keepDecimal : MethodName := ⟨"NumberHouse", "keepDecimal", "(I)V"⟩
def F_NH_keepDecimal_c24 (x2 : Int32) (t0_0 : Int64) (t0_1 : Int32) (t1_0 : Int32) (t1_1 : Int32) (t2_0 : (Nat → Int32)) (t3_0 : Int32) (t3_1 : Int32) (t4_0 : (Nat → Int32)) (t5_0 : Int32) (t5_1 : Int32) (t6_0 : Int32) (t6_1 : Int32) (t7_0 : (Nat → Int32)) (p74 : (Int32 × Int32 × Int32 × (Nat → Int32) × Int32 × Int32 × Int32 × Int32 × (Nat → Int32))) : Int32 × Int32 × Int32 × (Nat → Int32) × Int32 × Int32 × Int32 × Int32 × (Nat → Int32) := if (F_NH_canHave (p74.1 : Int32)) = (0 : Int32) then (((0 : Int32), (p74.2.1 : Int32), (p74.2.2.1 : Int32), (p74.2.2.2.1 : (Nat → Int32)), (p74.2.2.2.2.1 : Int32), (p74.2.2.2.2.2.1 : Int32), (p74.2.2.2.2.2.2.1 : Int32), (p74.2.2.2.2.2.2.2.1 : Int32), (p74.2.2.2.2.2.2.2.2 : (Nat → Int32)))) else (((F_NH_canHave (p74.1 : Int32)), (p74.2.1 : Int32), (p74.2.2.1 : Int32), (p74.2.2.2.1 : (Nat → Int32)), (p74.2.2.2.2.1 : Int32), (p74.2.2.2.2.2.1 : Int32), (p74.2.2.2.2.2.2.1 : Int32), (p74.2.2.2.2.2.2.2.1 : Int32), (p74.2.2.2.2.2.2.2.2 : (Nat → Int32))))
def F_NH_keepDecimal (x2 : Int32) (t0_0 : Int64) (t0_1 : Int32) (t1_0 : Int32) (t1_1 : Int32) (t2_0 : (Nat → Int32)) (t3_0 : Int32) (t3_1 : Int32) (t4_0 : (Nat → Int32)) (t5_0 : Int32) (t5_1 : Int32) (t6_0 : Int32) (t6_1 : Int32) (t7_0 : (Nat → Int32)) : Int32 × Int32 × Int32 × (Nat → Int32) × Int32 × Int32 × Int32 × Int32 × (Nat → Int32) := F_NH_keepDecimal_c24 x2 t0_0 t0_1 t1_0 t1_1 t2_0 t3_0 t3_1 t4_0 t5_0 t5_1 t6_0 t6_1 t7_0 ((F_DW_settle (220 : Int32) t0_0 (108 : Int32) t3_0 t3_1 t4_0 t1_0 t1_1 t2_0 t5_0 t5_1 t6_0 t6_1 t7_0) : (Int32 × Int32 × Int32 × (Nat → Int32) × Int32 × Int32 × Int32 × Int32 × (Nat → Int32)))
def S_NH_keepDecimal_c24 (x2 : Int32) (t0_0 : Int64) (t0_1 : Int32) (t1_0 : Int32) (t1_1 : Int32) (t2_0 : (Nat → Int32)) (t3_0 : Int32) (t3_1 : Int32) (t4_0 : (Nat → Int32)) (t5_0 : Int32) (t5_1 : Int32) (t6_0 : Int32) (t6_1 : Int32) (t7_0 : (Nat → Int32)) (p74 : (Int32 × Int32 × Int32 × (Nat → Int32) × Int32 × Int32 × Int32 × Int32 × (Nat → Int32))) : Prop := if (F_NH_canHave (p74.1 : Int32)) = (0 : Int32) then (True) else (True)
def S_NH_keepDecimal (x2 : Int32) (t0_0 : Int64) (t0_1 : Int32) (t1_0 : Int32) (t1_1 : Int32) (t2_0 : (Nat → Int32)) (t3_0 : Int32) (t3_1 : Int32) (t4_0 : (Nat → Int32)) (t5_0 : Int32) (t5_1 : Int32) (t6_0 : Int32) (t6_1 : Int32) (t7_0 : (Nat → Int32)) : Prop := (0 ≤ x2.toInt) ∧ ((x2.toInt ≤ 9) ∧ ((True ∧ S_DW_settle (220 : Int32) t0_0 (108 : Int32) t3_0 t3_1 t4_0 t1_0 t1_1 t2_0 t5_0 t5_1 t6_0 t6_1 t7_0) ∧ (S_NH_keepDecimal_c24 x2 t0_0 t0_1 t1_0 t1_1 t2_0 t3_0 t3_1 t4_0 t5_0 t5_1 t6_0 t6_1 t7_0 ((F_DW_settle (220 : Int32) t0_0 (108 : Int32) t3_0 t3_1 t4_0 t1_0 t1_1 t2_0 t5_0 t5_1 t6_0 t6_1 t7_0) : (Int32 × Int32 × Int32 × (Nat → Int32) × Int32 × Int32 × Int32 × Int32 × (Nat → Int32))))))
set_option maxRecDepth 100000 in
set_option maxHeartbeats 4000000 in
theorem X_NH_keepDecimal (l : Launch) (D : va_G) (g : Nat → ClassId) (q : Nat → Nat) (ws : va_W) (x2 : Int32) (d2 : Nat) (hBd2 : q_isDec (nsh g q) g q d2 108) (yd2 : 66 ≤ d2) (gd2x2 : x2.toNatClampNeg < 10 → d2 = 68 + 5 * x2.toNatClampNeg) (hlt : l.stackTraces = false) (hI : q_I (nsh g q) q ws) (t0_0 : Int64) (t0_1 : Int32) (hT0 : ws[30]? = (some (q 30, .inr (5, [.ref (q 31), .long t0_0, .ref (q 9), .int t0_1])) : Option (Nat × va_E))) (t1_0 : Int32) (t1_1 : Int32) (hT1 : ws[10]? = (some (q 10, .inr (2, [.ref (q 11), .int t1_0, .int t1_1])) : Option (Nat × va_E))) (t2_0 : (Nat → Int32)) (hT2 : ws[11]? = (some (q 11, .inl (g 0, (220 : Int32).toNatClampNeg, .inl t2_0)) : Option (Nat × va_E))) (t3_0 : Int32) (t3_1 : Int32) (hT3 : ws[20]? = (some (q 20, .inr (2, [.ref (q 21), .int t3_0, .int t3_1])) : Option (Nat × va_E))) (t4_0 : (Nat → Int32)) (hT4 : ws[21]? = (some (q 21, .inl (g 0, (220 : Int32).toNatClampNeg, .inl t4_0)) : Option (Nat × va_E))) (t5_0 : Int32) (t5_1 : Int32) (hT5 : ws[d2]? = (some (q d2, .inr (3, [.ref (q (d2 + 1)), .int t5_0, .int t5_1])) : Option (Nat × va_E))) (t6_0 : Int32) (t6_1 : Int32) (hT6 : ws[d2 + 1]? = (some (q (d2 + 1), .inr (2, [.ref (q (d2 + 2)), .int t6_0, .int t6_1])) : Option (Nat × va_E))) (t7_0 : (Nat → Int32)) (hT7 : ws[d2 + 2]? = (some (q (d2 + 2), .inl (g 0, (108 : Int32).toNatClampNeg, .inl t7_0)) : Option (Nat × va_E))) (hS : True ∧ S_NH_keepDecimal x2 t0_0 t0_1 t1_0 t1_1 t2_0 t3_0 t3_1 t4_0 t5_0 t5_1 t6_0 t6_1 t7_0) : ∀ sz, q_Mx l y_NH_keepDecimal prog_1_method_29_code 2 none 8 1 6 D g [.ref (q 0), .int x2] ws sz (va_Qv (fun u => q_I (nsh g q) q u ∧ q_un ws u [20, 21, d2, d2 + 1, d2 + 2] ∧ ∃ (u3_0 : Int32) (u3_1 : Int32) (u4_0 : (Nat → Int32)) (u5_0 : Int32) (u5_1 : Int32) (u6_0 : Int32) (u6_1 : Int32) (u7_0 : (Nat → Int32)), u[20]? = (some (q 20, .inr (2, [.ref (q 21), .int u3_0, .int u3_1])) : Option (Nat × va_E)) ∧ u[21]? = (some (q 21, .inl (g 0, (220 : Int32).toNatClampNeg, .inl u4_0)) : Option (Nat × va_E)) ∧ u[d2]? = (some (q d2, .inr (3, [.ref (q (d2 + 1)), .int u5_0, .int u5_1])) : Option (Nat × va_E)) ∧ u[d2 + 1]? = (some (q (d2 + 1), .inr (2, [.ref (q (d2 + 2)), .int u6_0, .int u6_1])) : Option (Nat × va_E)) ∧ u[d2 + 2]? = (some (q (d2 + 2), .inl (g 0, (108 : Int32).toNatClampNeg, .inl u7_0)) : Option (Nat × va_E)) ∧ (0 ≤ u3_0.toInt) ∧ (u3_0.toInt ≤ 220) ∧ (0 ≤ u3_1.toInt) ∧ (u3_1.toInt ≤ 1) ∧ (0 ≤ u5_0.toInt + 10000) ∧ (u5_0.toInt ≤ 10000) ∧ (1 ≤ u5_1.toInt) ∧ (u5_1.toInt ≤ 1000) ∧ (0 ≤ u6_0.toInt) ∧ (u6_0.toInt ≤ 108) ∧ (0 ≤ u6_1.toInt) ∧ (u6_1.toInt ≤ 1) ∧ (x2.toInt ≤ u3_0.toInt + 9) ∧ (u3_0.toInt ≤ x2.toInt + 220) ∧ (x2.toInt ≤ u3_1.toInt + 9) ∧ (u3_1.toInt ≤ x2.toInt + 1) ∧ (x2.toInt ≤ u5_0.toInt + 10009) ∧ (u5_0.toInt ≤ x2.toInt + 10000) ∧ (x2.toInt ≤ u5_1.toInt + 8) ∧ (u5_1.toInt ≤ x2.toInt + 1000) ∧ (x2.toInt ≤ u6_0.toInt + 9) ∧ (u6_0.toInt ≤ x2.toInt + 108) ∧ (x2.toInt ≤ u6_1.toInt + 9) ∧ (u6_1.toInt ≤ x2.toInt + 1) ∧ ((0 : Int32), u3_0, u3_1, u4_0, u5_0, u5_1, u6_0, u6_1, u7_0) = (F_NH_keepDecimal x2 t0_0 t0_1 t1_0 t1_1 t2_0 t3_0 t3_1 t4_0 t5_0 t5_1 t6_0 t6_1 t7_0)) (q_B D g (va_A ws sz)) (va_A ws sz)) (fun E u => ∃ c : Int32, E = qE c ∧ c ≠ 0 ∧ q_I (nsh g q) q u ∧ q_un ws u [20, 21, d2, d2 + 1, d2 + 2] ∧ ∃ (u3_0 : Int32) (u3_1 : Int32) (u4_0 : (Nat → Int32)) (u5_0 : Int32) (u5_1 : Int32) (u6_0 : Int32) (u6_1 : Int32) (u7_0 : (Nat → Int32)), u[20]? = (some (q 20, .inr (2, [.ref (q 21), .int u3_0, .int u3_1])) : Option (Nat × va_E)) ∧ u[21]? = (some (q 21, .inl (g 0, (220 : Int32).toNatClampNeg, .inl u4_0)) : Option (Nat × va_E)) ∧ u[d2]? = (some (q d2, .inr (3, [.ref (q (d2 + 1)), .int u5_0, .int u5_1])) : Option (Nat × va_E)) ∧ u[d2 + 1]? = (some (q (d2 + 1), .inr (2, [.ref (q (d2 + 2)), .int u6_0, .int u6_1])) : Option (Nat × va_E)) ∧ u[d2 + 2]? = (some (q (d2 + 2), .inl (g 0, (108 : Int32).toNatClampNeg, .inl u7_0)) : Option (Nat × va_E)) ∧ (c, u3_0, u3_1, u4_0, u5_0, u5_1, u6_0, u6_1, u7_0) = (F_NH_keepDecimal x2 t0_0 t0_1 t1_0 t1_1 t2_0 t3_0 t3_1 t4_0 t5_0 t5_1 t6_0 t6_1 t7_0)) := by
  intro sz
  refine q_intoX (by decide) (Nat.le_of_ble_eq_true rfl) ?_
  intro p e s m below meth c ls hsz C0 V hno hl
  have hx := C0.1
  have hb := C0.2.1
  have btt0_1 := n_w30 hI hT0
  clear btt0_1
  have btt1_1 := (q_bigW hI (n_b10 g q) hT1).2
  clear btt1_1
  have btt3_1 := (q_bigW hI (n_b20 g q) hT3).2
  clear btt3_1
  have btt5_1 := (n_deW hI hBd2 hT5).2
  clear btt5_1
  have btt6_1 := (q_bigW hI hBd2.2 hT6).2
  clear btt6_1
  have hF : q_un ws ws [20, 21, d2, d2 + 1, d2 + 2] := q_u0
  have hl : lv_has ls 2 [(0, .ref (q 0)), (1, .int x2)] := hl
  refine lv_aload_n hx hb d_1_29_0 rfl (lv_at hl 0 rfl) ?_
  have hO34 := n_o0 hI
  refine q_get (ci := 0) (j := 7) (v := .ref (q 30)) C0 V i_NH rfl rfl hO34 (by decide) w_431 rfl d_1_29_1 ?_
  refine lv_aload_n hx hb d_1_29_4 rfl (lv_at hl 0 rfl) ?_
  refine q_get (ci := 0) (j := 6) (v := .ref (q 9)) C0 V i_NH rfl rfl hO34 (by decide) w_430 rfl d_1_29_5 ?_
  have hO35 := n_o9 hI
  refine q_get (ci := 4) (j := 0) (v := .ref (q 10)) C0 V i_Mil rfl rfl hO35 (by decide) w_112 rfl d_1_29_8 ?_
  refine lv_aload_n hx hb d_1_29_11 rfl (lv_at hl 0 rfl) ?_
  refine q_get (ci := 0) (j := 7) (v := .ref (q 30)) C0 V i_NH rfl rfl hO34 (by decide) w_431 rfl d_1_29_12 ?_
  refine q_get (ci := 5) (j := 1) (v := .long t0_0) C0 V i_DW rfl rfl hT0 (by decide) w_213 rfl d_1_29_15 ?_
  refine lv_aload_n hx hb d_1_29_18 rfl (lv_at hl 0 rfl) ?_
  refine q_get (ci := 0) (j := 3) (v := .ref (q 6)) C0 V i_NH rfl rfl hO34 (by decide) w_427 rfl d_1_29_19 ?_
  refine lv_iload_n hx hb d_1_29_22 rfl (lv_at hl 1 rfl) ?_
  have hX36 := n_fx hI (n_s6 g q)
  have ob37 : q_F (0 ≤ x2.toInt) := (by have h := hS; rw [S_NH_keepDecimal.eq_1] at h; exact h.2.1)
  have ob38 : q_F (x2.toInt ≤ 9) := (by have h := hS; rw [S_NH_keepDecimal.eq_1] at h; replace h := q_s2 h; exact h.2.1)
  have hj39 : x2.toNatClampNeg < 10 := by have z := q_clI (i := x2) (x := x2.toInt) rfl (by first | with_reducible exact q_fe ob37 | (have t1 : 0 ≤ x2.toInt := ob37; omega)); have t1 : 0 ≤ x2.toInt := ob37; have t2 : x2.toInt ≤ 9 := ob38; omega
  have hq40 := gd2x2 hj39
  refine q_aald (t := 5) (q := q d2) C0 V hX36 rfl (q_ix (x := x2.toInt) rfl (by first | with_reducible exact q_fe ob37 | (have t1 : 0 ≤ x2.toInt := ob37; omega)) (by have t1 : 0 ≤ x2.toInt := ob37; have t2 : x2.toInt ≤ 9 := ob38; omega)) (by rw [hq40]; exact n_fdv hj39) d_1_29_23 ?_
  have ob41 : True ∧ S_DW_settle (220 : Int32) t0_0 (108 : Int32) t3_0 t3_1 t4_0 t1_0 t1_1 t2_0 t5_0 t5_1 t6_0 t6_1 t7_0 := (by have h := hS; rw [S_NH_keepDecimal.eq_1] at h; replace h := q_s2 h; replace h := q_s2 h; with_reducible exact h.2.1)
  refine q_goi V (q_runV (As := [.ref (q 10), .long t0_0, .ref (q d2)]) (rest := []) (d := 5) (mc := 0) (ms := 0) (ci := 5) C0 V rfl LV_NH_153 (X_DW_settle l D g q ws 10 220 (n_b10 g q) (by decide) d2 108 hBd2 (Or.inr yd2) t0_0 (by decide) (by decide) (by decide) (by decide) (by decide) (by have z0 := yd2; omega) (by have z0 := yd2; omega) (by have z0 := yd2; omega) (by have z0 := yd2; omega) (by have z0 := yd2; omega) (by have z0 := yd2; omega) (by have z0 := yd2; omega) (by have z0 := yd2; omega) (by have z0 := yd2; omega) (by have z0 := yd2; omega) (by have z0 := yd2; omega) (by have z0 := yd2; omega) hI t3_0 t3_1 hT3 t4_0 hT4 t1_0 t1_1 hT1 t2_0 hT2 t5_0 t5_1 hT5 t6_0 t6_1 hT6 t7_0 hT7 ob41 _) rfl rfl hT0 rfl hl.1 rfl (Nat.le_of_ble_eq_true rfl) ⟨by decide, by decide⟩ ⟨Nat.le_of_ble_eq_true rfl, Nat.le_of_ble_eq_true rfl⟩ d_1_29_24) (fun a44 u42 H locs hp43 V => ?_)
  obtain ⟨hI, hZ9⟩ := hp43
  obtain ⟨hu73, hZ9⟩ := hZ9
  obtain ⟨y46, hZ9⟩ := hZ9
  obtain ⟨y47, hZ9⟩ := hZ9
  obtain ⟨f48, hZ9⟩ := hZ9
  obtain ⟨y51, hZ9⟩ := hZ9
  obtain ⟨y52, hZ9⟩ := hZ9
  obtain ⟨y54, hZ9⟩ := hZ9
  obtain ⟨y55, hZ9⟩ := hZ9
  obtain ⟨f56, hZ9⟩ := hZ9
  obtain ⟨hO45, hZ9⟩ := hZ9
  obtain ⟨hA49, hZ9⟩ := hZ9
  obtain ⟨hO50, hZ9⟩ := hZ9
  obtain ⟨hO53, hZ9⟩ := hZ9
  obtain ⟨hA57, hZ9⟩ := hZ9
  obtain ⟨b58, hZ9⟩ := hZ9
  obtain ⟨b59, hZ9⟩ := hZ9
  obtain ⟨b60, hZ9⟩ := hZ9
  obtain ⟨b61, hZ9⟩ := hZ9
  obtain ⟨b62, hZ9⟩ := hZ9
  obtain ⟨b63, hZ9⟩ := hZ9
  obtain ⟨b64, hZ9⟩ := hZ9
  obtain ⟨b65, hZ9⟩ := hZ9
  obtain ⟨b66, hZ9⟩ := hZ9
  obtain ⟨b67, hZ9⟩ := hZ9
  obtain ⟨b68, hZ9⟩ := hZ9
  obtain ⟨b69, hZ9⟩ := hZ9
  obtain ⟨b70, hZ9⟩ := hZ9
  obtain ⟨b71, hE72⟩ := hZ9
  replace hO45 : u42[20]? = (some (q 20, .inr (2, [.ref (q 21), .int y46, .int y47])) : Option (Nat × va_E)) := hO45
  replace hA49 : u42[21]? = (some (q 21, .inl (g 0, (220 : Int32).toNatClampNeg, .inl f48)) : Option (Nat × va_E)) := hA49
  replace hO50 : u42[d2]? = (some (q d2, .inr (3, [.ref (q (d2 + 1)), .int y51, .int y52])) : Option (Nat × va_E)) := hO50
  replace hO53 : u42[d2 + 1]? = (some (q (d2 + 1), .inr (2, [.ref (q (d2 + 2)), .int y54, .int y55])) : Option (Nat × va_E)) := hO53
  replace hA57 : u42[d2 + 2]? = (some (q (d2 + 2), .inl (g 0, (108 : Int32).toNatClampNeg, .inl f56)) : Option (Nat × va_E)) := hA57
  obtain ⟨p74, e75⟩ : ∃ z, z = (F_DW_settle (220 : Int32) t0_0 (108 : Int32) t3_0 t3_1 t4_0 t1_0 t1_1 t2_0 t5_0 t5_1 t6_0 t6_1 t7_0) := ⟨_, rfl⟩
  have e76 : a44 = p74.1 := congrArg (fun z => z.1) (hE72.trans e75.symm)
  have e77 : y46 = p74.2.1 := congrArg (fun z => z.2.1) (hE72.trans e75.symm)
  have e78 : y47 = p74.2.2.1 := congrArg (fun z => z.2.2.1) (hE72.trans e75.symm)
  have e79 : f48 = p74.2.2.2.1 := congrArg (fun z => z.2.2.2.1) (hE72.trans e75.symm)
  have e80 : y51 = p74.2.2.2.2.1 := congrArg (fun z => z.2.2.2.2.1) (hE72.trans e75.symm)
  have e81 : y52 = p74.2.2.2.2.2.1 := congrArg (fun z => z.2.2.2.2.2.1) (hE72.trans e75.symm)
  have e82 : y54 = p74.2.2.2.2.2.2.1 := congrArg (fun z => z.2.2.2.2.2.2.1) (hE72.trans e75.symm)
  have e83 : y55 = p74.2.2.2.2.2.2.2.1 := congrArg (fun z => z.2.2.2.2.2.2.2.1) (hE72.trans e75.symm)
  have e84 : f56 = p74.2.2.2.2.2.2.2.2 := congrArg (fun z => z.2.2.2.2.2.2.2.2) (hE72.trans e75.symm)
  replace b58 : q_F (0 ≤ a44.toInt) := b58
  replace b59 : q_F (a44.toInt ≤ 1) := b59
  replace b60 : q_F (0 ≤ y46.toInt) := b60
  replace b61 : q_F (y46.toInt ≤ 220) := b61
  replace b62 : q_F (0 ≤ y47.toInt) := b62
  replace b63 : q_F (y47.toInt ≤ 1) := b63
  replace b64 : q_F (0 ≤ y51.toInt + 10000) := b64
  replace b65 : q_F (y51.toInt ≤ 10000) := b65
  replace b66 : q_F (1 ≤ y52.toInt) := b66
  replace b67 : q_F (y52.toInt ≤ 1000) := b67
  replace b68 : q_F (0 ≤ y54.toInt) := b68
  replace b69 : q_F (0 ≤ y55.toInt) := b69
  replace b70 : q_F (y55.toInt ≤ 1) := b70
  replace b71 : q_F (y54.toInt ≤ 108) := b71
  replace hF := q_uc hF hu73 (by first | exact (q_sk (q_mi 0 rfl) (q_sk (q_mi 1 rfl) (q_sk (q_mi 2 rfl) (q_sk (q_mi 3 rfl) (q_sk (q_mi 4 rfl) q_s0))))) | simp)
  have hR85 := (show F_NH_keepDecimal_c24 x2 t0_0 t0_1 t1_0 t1_1 t2_0 t3_0 t3_1 t4_0 t5_0 t5_1 t6_0 t6_1 t7_0 p74 = (F_NH_keepDecimal x2 t0_0 t0_1 t1_0 t1_1 t2_0 t3_0 t3_1 t4_0 t5_0 t5_1 t6_0 t6_1 t7_0) from (by rw [e75, F_NH_keepDecimal.eq_1]))
  have hS86 := (show True ∧ S_NH_keepDecimal_c24 x2 t0_0 t0_1 t1_0 t1_1 t2_0 t3_0 t3_1 t4_0 t5_0 t5_1 t6_0 t6_1 t7_0 p74 from (by rw [e75]; have h := hS; rw [S_NH_keepDecimal.eq_1] at h; replace h := q_s2 h; replace h := q_s2 h; replace h := q_s2 h; with_reducible exact h))
  refine q_goxv V (q_runSX (As := [.int a44]) (rest := []) (d := 7) (mc := 1) (ms := 6) C0 V rfl LS_NH_138 (X_NH_canHave l D g q u42  a44 hlt hI  ⟨(by first | with_reducible exact q_fe b58 | (have t1 : 0 ≤ a44.toInt := b58; omega)), (by first | with_reducible exact q_fe b59 | (have t1 : a44.toInt ≤ 1 := b59; omega))⟩ _) rfl hl.1 rfl (Nat.le_of_ble_eq_true rfl) ⟨by decide, by decide⟩ ⟨Nat.le_of_ble_eq_true rfl, Nat.le_of_ble_eq_true rfl⟩ d_1_29_27) (fun qx Ex ce u90 H locs hp91 V hce hcv hcl => ?_) (fun u90 H locs hp91 V => ?_)
  ·
    obtain ⟨cx93, he94, hc95, rfl, hE92⟩ := hp91
    have c96 : ¬ (F_NH_canHave a44) = (0 : Int32) := fun z => hc95 (((hE92) : cx93 = _).trans z)
    exact q_outT hno C0 V (⟨(F_NH_canHave a44), (he94.trans (congrArg qE ((hE92) : cx93 = _))), c96, hI, hF, y46, y47, f48, y51, y52, y54, y55, f56, hO45, hA49, hO50, hO53, hA57, (show ((F_NH_canHave a44), y46, y47, f48, y51, y52, y54, y55, f56) = (F_NH_keepDecimal x2 t0_0 t0_1 t1_0 t1_1 t2_0 t3_0 t3_1 t4_0 t5_0 t5_1 t6_0 t6_1 t7_0) from Eq.trans (by have c96x := c96; rw [e76] at c96x; rw [e84, e83, e82, e81, e80, e79, e78, e77, e76, F_NH_keepDecimal_c24.eq_1, if_neg c96x]) hR85)⟩) hce hcv hcl (Nat.le_of_ble_eq_true rfl) (Nat.le_of_ble_eq_true rfl)
  ·
    obtain ⟨rfl, hE97⟩ := hp91
    have c96 : (F_NH_canHave a44) = (0 : Int32) := ((hE97) : (0 : Int32) = _).symm
    exact q_retX (q_retv C0 V (⟨hI, hF, y46, y47, f48, y51, y52, y54, y55, f56, hO45, hA49, hO50, hO53, hA57, (show 0 ≤ y46.toInt from (by first | with_reducible exact q_fe b60 | (have t1 : 0 ≤ y46.toInt := b60; omega))), (show y46.toInt ≤ 220 from (by first | with_reducible exact q_fe b61 | (have t1 : y46.toInt ≤ 220 := b61; omega))), (show 0 ≤ y47.toInt from (by first | with_reducible exact q_fe b62 | (have t1 : 0 ≤ y47.toInt := b62; omega))), (show y47.toInt ≤ 1 from (by first | with_reducible exact q_fe b63 | (have t1 : y47.toInt ≤ 1 := b63; omega))), (show 0 ≤ y51.toInt + 10000 from (by first | with_reducible exact q_fe b64 | (have t1 : 0 ≤ y51.toInt + 10000 := b64; omega))), (show y51.toInt ≤ 10000 from (by first | with_reducible exact q_fe b65 | (have t1 : y51.toInt ≤ 10000 := b65; omega))), (show 1 ≤ y52.toInt from (by first | with_reducible exact q_fe b66 | (have t1 : 1 ≤ y52.toInt := b66; omega))), (show y52.toInt ≤ 1000 from (by first | with_reducible exact q_fe b67 | (have t1 : y52.toInt ≤ 1000 := b67; omega))), (show 0 ≤ y54.toInt from (by first | with_reducible exact q_fe b68 | (have t1 : 0 ≤ y54.toInt := b68; omega))), (show y54.toInt ≤ 108 from (by first | with_reducible exact q_fe b71 | (have t1 : y54.toInt ≤ 108 := b71; omega))), (show 0 ≤ y55.toInt from (by first | with_reducible exact q_fe b69 | (have t1 : 0 ≤ y55.toInt := b69; omega))), (show y55.toInt ≤ 1 from (by first | with_reducible exact q_fe b70 | (have t1 : y55.toInt ≤ 1 := b70; omega))), (show x2.toInt ≤ y46.toInt + 9 from (by have t1 : x2.toInt ≤ 9 := ob38; have t2 : 0 ≤ y46.toInt := b60; omega)), (show y46.toInt ≤ x2.toInt + 220 from (by have t1 : 0 ≤ x2.toInt := ob37; have t2 : y46.toInt ≤ 220 := b61; omega)), (show x2.toInt ≤ y47.toInt + 9 from (by have t1 : x2.toInt ≤ 9 := ob38; have t2 : 0 ≤ y47.toInt := b62; omega)), (show y47.toInt ≤ x2.toInt + 1 from (by have t1 : 0 ≤ x2.toInt := ob37; have t2 : y47.toInt ≤ 1 := b63; omega)), (show x2.toInt ≤ y51.toInt + 10009 from (by have t1 : x2.toInt ≤ 9 := ob38; have t2 : 0 ≤ y51.toInt + 10000 := b64; omega)), (show y51.toInt ≤ x2.toInt + 10000 from (by have t1 : 0 ≤ x2.toInt := ob37; have t2 : y51.toInt ≤ 10000 := b65; omega)), (show x2.toInt ≤ y52.toInt + 8 from (by have t1 : x2.toInt ≤ 9 := ob38; have t2 : 1 ≤ y52.toInt := b66; omega)), (show y52.toInt ≤ x2.toInt + 1000 from (by have t1 : 0 ≤ x2.toInt := ob37; have t2 : y52.toInt ≤ 1000 := b67; omega)), (show x2.toInt ≤ y54.toInt + 9 from (by have t1 : x2.toInt ≤ 9 := ob38; have t2 : 0 ≤ y54.toInt := b68; omega)), (show y54.toInt ≤ x2.toInt + 108 from (by have t1 : 0 ≤ x2.toInt := ob37; have t2 : y54.toInt ≤ 108 := b71; omega)), (show x2.toInt ≤ y55.toInt + 9 from (by have t1 : x2.toInt ≤ 9 := ob38; have t2 : 0 ≤ y55.toInt := b69; omega)), (show y55.toInt ≤ x2.toInt + 1 from (by have t1 : 0 ≤ x2.toInt := ob37; have t2 : y55.toInt ≤ 1 := b70; omega)), (show ((0 : Int32), y46, y47, f48, y51, y52, y54, y55, f56) = (F_NH_keepDecimal x2 t0_0 t0_1 t1_0 t1_1 t2_0 t3_0 t3_1 t4_0 t5_0 t5_1 t6_0 t6_1 t7_0) from Eq.trans (by have c96x := c96; rw [e76] at c96x; rw [e84, e83, e82, e81, e80, e79, e78, e77, F_NH_keepDecimal_c24.eq_1, if_pos c96x]) hR85)⟩) d_1_29_30)
theorem d_1_31_0 : decode prog_1_method_31_code 0 = .ok (.iload_n 1, 1) := by decide +kernel
theorem d_1_31_1 : decode prog_1_method_31_code 1 = .ok (.iconst 2, 1) := by decide +kernel
theorem d_1_31_2 : decode prog_1_method_31_code 2 = .ok (.if_icmp .ne 10, 3) := by decide +kernel
theorem d_1_31_12 : decode prog_1_method_31_code 12 = .ok (.aload_n 0, 1) := by decide +kernel
theorem d_1_31_13 : decode prog_1_method_31_code 13 = .ok (.getfield 37, 3) := by decide +kernel
theorem d_1_31_16 : decode prog_1_method_31_code 16 = .ok (.areturn, 1) := by decide +kernel
theorem d_1_31_5 : decode prog_1_method_31_code 5 = .ok (.aload_n 0, 1) := by decide +kernel
theorem d_1_31_6 : decode prog_1_method_31_code 6 = .ok (.getfield 33, 3) := by decide +kernel
theorem d_1_31_9 : decode prog_1_method_31_code 9 = .ok (.goto 7, 3) := by decide +kernel
def y_NH_floatRow : MethodName := ⟨"NumberHouse", "floatRow", "(I)[J"⟩
def F_NH_floatRow (x2 : Int32) : Nat := if x2 = (2 : Int32) then ((7 : Nat)) else ((8 : Nat))
set_option maxRecDepth 100000 in
set_option maxHeartbeats 4000000 in
theorem X_NH_floatRow (l : Launch) (D : va_G) (g : Nat → ClassId) (q : Nat → Nat) (ws : va_W) (x2 : Int32) (hI : q_I (nsh g q) q ws) : q_mR l y_NH_floatRow prog_1_method_31_code 2 (.array .long) 1 0 0 D g [.ref (q 0), .int x2] ws (fun r u => ws = u ∧ r = q (F_NH_floatRow x2)) := by
  intro sz
  refine q_into (by decide) (Nat.le_of_ble_eq_true rfl) ?_
  intro p e s m below meth c ls hsz C0 V hl
  have hx := C0.1
  have hb := C0.2.1
  have hl : lv_has ls 2 [(0, .ref (q 0)), (1, .int x2)] := hl
  refine lv_iload_n hx hb d_1_31_0 rfl (lv_at hl 1 rfl) ?_
  refine lv_iconst (v := 2) hx hb d_1_31_1 (by decide) ?_
  refine lv_icmp_ne (tgt := 12) hx hb d_1_31_2 (by decide) (fun c1 => ?_) (fun c1 => ?_)
  ·
    refine lv_aload_n hx hb d_1_31_12 rfl (lv_at hl 0 rfl) ?_
    have hO3 := n_o0 hI
    refine q_get (ci := 0) (j := 5) (v := .ref (q 8)) C0 V i_NH rfl rfl hO3 (by decide) w_429 rfl d_1_31_13 ?_
    exact q_retr (post := fun r u => ws = u ∧ r = q (F_NH_floatRow x2)) C0 V (Or.inr ⟨_, rfl⟩) (⟨rfl, (congrArg q (show (8 : Nat) = (F_NH_floatRow x2) from (by rw [F_NH_floatRow.eq_1, if_neg c1])))⟩) d_1_31_16
  ·
    refine lv_aload_n hx hb d_1_31_5 rfl (lv_at hl 0 rfl) ?_
    have hO5 := n_o0 hI
    refine q_get (ci := 0) (j := 4) (v := .ref (q 7)) C0 V i_NH rfl rfl hO5 (by decide) w_428 rfl d_1_31_6 ?_
    refine lv_goto (tgt := 16) hx hb d_1_31_9 (by decide) ?_
    exact q_retr (post := fun r u => ws = u ∧ r = q (F_NH_floatRow x2)) C0 V (Or.inr ⟨_, rfl⟩) (⟨rfl, (congrArg q (show (7 : Nat) = (F_NH_floatRow x2) from (by rw [F_NH_floatRow.eq_1, if_pos c1])))⟩) d_1_31_16
theorem d_1_30_0 : decode prog_1_method_30_code 0 = .ok (.iload_n 1, 1) := by decide +kernel
theorem d_1_30_1 : decode prog_1_method_30_code 1 = .ok (.iconst 2, 1) := by decide +kernel
theorem d_1_30_2 : decode prog_1_method_30_code 2 = .ok (.if_icmp .ne 10, 3) := by decide +kernel
theorem d_1_30_12 : decode prog_1_method_30_code 12 = .ok (.aload_n 0, 1) := by decide +kernel
theorem d_1_30_13 : decode prog_1_method_30_code 13 = .ok (.getfield 65, 3) := by decide +kernel
theorem d_1_30_16 : decode prog_1_method_30_code 16 = .ok (.areturn, 1) := by decide +kernel
theorem d_1_30_5 : decode prog_1_method_30_code 5 = .ok (.aload_n 0, 1) := by decide +kernel
theorem d_1_30_6 : decode prog_1_method_30_code 6 = .ok (.getfield 61, 3) := by decide +kernel
theorem d_1_30_9 : decode prog_1_method_30_code 9 = .ok (.goto 7, 3) := by decide +kernel
def y_NH_floatsOf : MethodName := ⟨"NumberHouse", "floatsOf", "(I)LNumberHouse$Floats;"⟩
def F_NH_floatsOf (x2 : Int32) : Nat := if x2 = (2 : Int32) then ((34 : Nat)) else ((35 : Nat))
set_option maxRecDepth 100000 in
set_option maxHeartbeats 4000000 in
theorem X_NH_floatsOf (l : Launch) (D : va_G) (g : Nat → ClassId) (q : Nat → Nat) (ws : va_W) (x2 : Int32) (hI : q_I (nsh g q) q ws) : q_mR l y_NH_floatsOf prog_1_method_30_code 2 (.object "NumberHouse$Floats") 1 0 0 D g [.ref (q 0), .int x2] ws (fun r u => ws = u ∧ r = q (F_NH_floatsOf x2)) := by
  intro sz
  refine q_into (by decide) (Nat.le_of_ble_eq_true rfl) ?_
  intro p e s m below meth c ls hsz C0 V hl
  have hx := C0.1
  have hb := C0.2.1
  have hl : lv_has ls 2 [(0, .ref (q 0)), (1, .int x2)] := hl
  refine lv_iload_n hx hb d_1_30_0 rfl (lv_at hl 1 rfl) ?_
  refine lv_iconst (v := 2) hx hb d_1_30_1 (by decide) ?_
  refine lv_icmp_ne (tgt := 12) hx hb d_1_30_2 (by decide) (fun c1 => ?_) (fun c1 => ?_)
  ·
    refine lv_aload_n hx hb d_1_30_12 rfl (lv_at hl 0 rfl) ?_
    have hO3 := n_o0 hI
    refine q_get (ci := 0) (j := 9) (v := .ref (q 35)) C0 V i_NH rfl rfl hO3 (by decide) w_433 rfl d_1_30_13 ?_
    exact q_retr (post := fun r u => ws = u ∧ r = q (F_NH_floatsOf x2)) C0 V (Or.inl ⟨_, rfl⟩) (⟨rfl, (congrArg q (show (35 : Nat) = (F_NH_floatsOf x2) from (by rw [F_NH_floatsOf.eq_1, if_neg c1])))⟩) d_1_30_16
  ·
    refine lv_aload_n hx hb d_1_30_5 rfl (lv_at hl 0 rfl) ?_
    have hO5 := n_o0 hI
    refine q_get (ci := 0) (j := 8) (v := .ref (q 34)) C0 V i_NH rfl rfl hO5 (by decide) w_432 rfl d_1_30_6 ?_
    refine lv_goto (tgt := 16) hx hb d_1_30_9 (by decide) ?_
    exact q_retr (post := fun r u => ws = u ∧ r = q (F_NH_floatsOf x2)) C0 V (Or.inl ⟨_, rfl⟩) (⟨rfl, (congrArg q (show (34 : Nat) = (F_NH_floatsOf x2) from (by rw [F_NH_floatsOf.eq_1, if_pos c1])))⟩) d_1_30_16
theorem d_1_5_0 : decode prog_1_method_5_code 0 = .ok (.iload_n 1, 1) := by decide +kernel
theorem d_1_5_1 : decode prog_1_method_5_code 1 = .ok (.iload_n 2, 1) := by decide +kernel
theorem d_1_5_2 : decode prog_1_method_5_code 2 = .ok (.invokestatic 118, 3) := by decide +kernel
set_option maxRecDepth 100000 in
theorem w_577 : (Cond.code ({ cls := "NumberHouse", name := "needRegister", desc := "(II)V" } : MethodName) prog_1_method_35_code (2 : Nat) (none : Option ClassFile.FieldType)) ∈ q_tbl := q_of3 97 rfl (by decide +kernel)
set_option maxRecDepth 100000 in
theorem w_575 : (Cond.methodLink "NumberHouse" (118 : Nat) ({ cls := "NumberHouse", name := "needRegister", desc := "(II)V" } : MethodName)) ∈ q_tbl := q_of3 95 rfl (by decide +kernel)
set_option maxRecDepth 100000 in
theorem w_576 : (Cond.static ({ cls := "NumberHouse", name := "needRegister", desc := "(II)V" } : MethodName)) ∈ q_tbl := q_of3 96 rfl (by decide +kernel)
theorem LS_NH_118 : q_LS "NumberHouse" 118 y_NH_needRegister prog_1_method_35_code 2 none 2 := ⟨w_577, w_1, w_575, w_576, ⟨by decide, by decide, by decide +kernel⟩⟩
theorem d_1_5_5 : decode prog_1_method_5_code 5 = .ok (.iload_n 1, 1) := by decide +kernel
theorem d_1_5_6 : decode prog_1_method_5_code 6 = .ok (.iconst 3, 1) := by decide +kernel
theorem d_1_5_24 : decode prog_1_method_5_code 24 = .ok (.invokestatic 104, 3) := by decide +kernel
theorem d_1_5_27 : decode prog_1_method_5_code 27 = .ok (.iload_n 1, 1) := by decide +kernel
theorem d_1_5_28 : decode prog_1_method_5_code 28 = .ok (.ifCond .ne 16, 3) := by decide +kernel
theorem d_1_5_44 : decode prog_1_method_5_code 44 = .ok (.iload_n 1, 1) := by decide +kernel
theorem d_1_5_45 : decode prog_1_method_5_code 45 = .ok (.iconst 1, 1) := by decide +kernel
theorem d_1_5_46 : decode prog_1_method_5_code 46 = .ok (.if_icmp .ne 39, 3) := by decide +kernel
theorem d_1_5_85 : decode prog_1_method_5_code 85 = .ok (.aload_n 0, 1) := by decide +kernel
theorem d_1_5_86 : decode prog_1_method_5_code 86 = .ok (.iload_n 1, 1) := by decide +kernel
theorem d_1_5_87 : decode prog_1_method_5_code 87 = .ok (.invokevirtual 157, 3) := by decide +kernel
set_option maxRecDepth 100000 in
theorem w_1095 : (Cond.code ({ cls := "NumberHouse", name := "floatRow", desc := "(I)[J" } : MethodName) prog_1_method_31_code (2 : Nat) (some (.array .long))) ∈ q_tbl := q_of5 135 rfl (by decide +kernel)
set_option maxRecDepth 100000 in
theorem w_1092 : (Cond.methodLink "NumberHouse" (157 : Nat) ({ cls := "NumberHouse", name := "floatRow", desc := "(I)[J" } : MethodName)) ∈ q_tbl := q_of5 132 rfl (by decide +kernel)
set_option maxRecDepth 100000 in
theorem w_1094 : (Cond.instanceMethod ({ cls := "NumberHouse", name := "floatRow", desc := "(I)[J" } : MethodName)) ∈ q_tbl := q_of5 134 rfl (by decide +kernel)
theorem ws_19 : Cond.selects "NumberHouse" (⟨"NumberHouse", "floatRow", "(I)[J"⟩ : MethodName) (⟨"NumberHouse", "floatRow", "(I)[J"⟩ : MethodName) ∈ q_tbl := q_ofs 19 (by decide +kernel) (by decide +kernel)
theorem LV_NH_157 : q_LV "NumberHouse" 157 y_NH_floatRow prog_1_method_31_code 2 (some (.array .long)) 1 := ⟨w_1095, w_1, w_1092, w_1094, ws_19, ⟨by decide, by decide, by decide +kernel⟩⟩
theorem d_1_5_90 : decode prog_1_method_5_code 90 = .ok (.iload_n 2, 1) := by decide +kernel
theorem d_1_5_91 : decode prog_1_method_5_code 91 = .ok (.lload_n 3, 1) := by decide +kernel
theorem d_1_5_92 : decode prog_1_method_5_code 92 = .ok (.lastore, 1) := by decide +kernel
theorem d_1_5_93 : decode prog_1_method_5_code 93 = .ok (.return_, 1) := by decide +kernel
theorem d_1_5_49 : decode prog_1_method_5_code 49 = .ok (.aload_n 0, 1) := by decide +kernel
theorem d_1_5_50 : decode prog_1_method_5_code 50 = .ok (.getfield 43, 3) := by decide +kernel
theorem d_1_5_53 : decode prog_1_method_5_code 53 = .ok (.getfield 141, 3) := by decide +kernel
theorem d_1_5_56 : decode prog_1_method_5_code 56 = .ok (.lload_n 3, 1) := by decide +kernel
theorem d_1_5_57 : decode prog_1_method_5_code 57 = .ok (.invokevirtual 164, 3) := by decide +kernel
set_option maxRecDepth 100000 in
theorem w_1103 : (Cond.methodLink "NumberHouse" (164 : Nat) ({ cls := "NumberHouse$Big", name := "setLong", desc := "(J)V" } : MethodName)) ∈ q_tbl := q_of5 143 rfl (by decide +kernel)
theorem LV_NH_164 : q_LV "NumberHouse" 164 y_Big_setLong prog_2_method_3_code 6 none 1 := ⟨w_193, w_4, w_1103, w_191, w_192, ⟨by decide, by decide, by decide +kernel⟩⟩
theorem d_1_5_60 : decode prog_1_method_5_code 60 = .ok (.aload_n 0, 1) := by decide +kernel
theorem d_1_5_61 : decode prog_1_method_5_code 61 = .ok (.getfield 52, 3) := by decide +kernel
theorem d_1_5_64 : decode prog_1_method_5_code 64 = .ok (.aload_n 0, 1) := by decide +kernel
theorem d_1_5_65 : decode prog_1_method_5_code 65 = .ok (.getfield 43, 3) := by decide +kernel
theorem d_1_5_68 : decode prog_1_method_5_code 68 = .ok (.getfield 141, 3) := by decide +kernel
theorem d_1_5_71 : decode prog_1_method_5_code 71 = .ok (.lconst 0, 1) := by decide +kernel
theorem d_1_5_72 : decode prog_1_method_5_code 72 = .ok (.aload_n 0, 1) := by decide +kernel
theorem d_1_5_73 : decode prog_1_method_5_code 73 = .ok (.getfield 29, 3) := by decide +kernel
theorem d_1_5_76 : decode prog_1_method_5_code 76 = .ok (.iload_n 2, 1) := by decide +kernel
theorem d_1_5_77 : decode prog_1_method_5_code 77 = .ok (.aaload, 1) := by decide +kernel
theorem d_1_5_78 : decode prog_1_method_5_code 78 = .ok (.invokevirtual 153, 3) := by decide +kernel
theorem d_1_5_81 : decode prog_1_method_5_code 81 = .ok (.pop, 1) := by decide +kernel
theorem d_1_5_82 : decode prog_1_method_5_code 82 = .ok (.goto 11, 3) := by decide +kernel
theorem d_1_5_31 : decode prog_1_method_5_code 31 = .ok (.aload_n 0, 1) := by decide +kernel
theorem d_1_5_32 : decode prog_1_method_5_code 32 = .ok (.getfield 23, 3) := by decide +kernel
theorem d_1_5_35 : decode prog_1_method_5_code 35 = .ok (.iload_n 2, 1) := by decide +kernel
theorem d_1_5_36 : decode prog_1_method_5_code 36 = .ok (.aaload, 1) := by decide +kernel
theorem d_1_5_37 : decode prog_1_method_5_code 37 = .ok (.lload_n 3, 1) := by decide +kernel
theorem d_1_5_38 : decode prog_1_method_5_code 38 = .ok (.invokevirtual 164, 3) := by decide +kernel
theorem d_1_5_41 : decode prog_1_method_5_code 41 = .ok (.goto 52, 3) := by decide +kernel
theorem d_1_5_19 : decode prog_1_method_5_code 19 = .ok (.iconst 1, 1) := by decide +kernel
theorem d_1_5_20 : decode prog_1_method_5_code 20 = .ok (.goto 4, 3) := by decide +kernel
theorem d_1_5_7 : decode prog_1_method_5_code 7 = .ok (.if_icmp .ne 12, 3) := by decide +kernel
theorem d_1_5_10 : decode prog_1_method_5_code 10 = .ok (.lload_n 3, 1) := by decide +kernel
theorem d_1_5_11 : decode prog_1_method_5_code 11 = .ok (.bipush 32, 2) := by decide +kernel
theorem d_1_5_13 : decode prog_1_method_5_code 13 = .ok (.lushr, 1) := by decide +kernel
theorem d_1_5_14 : decode prog_1_method_5_code 14 = .ok (.lconst 0, 1) := by decide +kernel
theorem d_1_5_15 : decode prog_1_method_5_code 15 = .ok (.lcmp, 1) := by decide +kernel
theorem d_1_5_16 : decode prog_1_method_5_code 16 = .ok (.ifCond .ne 7, 3) := by decide +kernel
theorem d_1_5_23 : decode prog_1_method_5_code 23 = .ok (.iconst 0, 1) := by decide +kernel
def y_NH_put : MethodName := ⟨"NumberHouse", "put", "(IIJ)V"⟩
def F_NH_put_c78 (x2 : Int32) (x3 : Int32) (x4 : Int64) (t0_0 : Int64) (t0_1 : Int32) (t1_0 : Int32) (t1_1 : Int32) (t2_0 : (Nat → Int32)) (t3_0 : Int32) (t3_1 : Int32) (t4_0 : (Nat → Int32)) (t5_0 : (Nat → Int64)) (t6_0 : (Nat → Int64)) (t7_0 : Int32) (t7_1 : Int32) (t8_0 : (Nat → Int32)) (t9_0 : Int32) (t9_1 : Int32) (t10_0 : Int32) (t10_1 : Int32) (t11_0 : (Nat → Int32)) (lx55 : Int32) (p128 : (Int32 × Int32 × (Nat → Int32))) (y117 : Int32) (y118 : Int32) (f119 : (Nat → Int32)) (p176 : (Int32 × Int32 × Int32 × (Nat → Int32) × Int32 × Int32 × Int32 × Int32 × (Nat → Int32))) : Int32 × Int32 × Int32 × (Nat → Int32) × Int32 × Int32 × (Nat → Int32) × (Nat → Int64) × (Nat → Int64) × Int32 × Int32 × (Nat → Int32) × Int32 × Int32 × Int32 × Int32 × (Nat → Int32) := ((0 : Int32), y117, y118, f119, (p176.2.1 : Int32), (p176.2.2.1 : Int32), (p176.2.2.2.1 : (Nat → Int32)), t5_0, t6_0, t7_0, t7_1, t8_0, (p176.2.2.2.2.1 : Int32), (p176.2.2.2.2.2.1 : Int32), (p176.2.2.2.2.2.2.1 : Int32), (p176.2.2.2.2.2.2.2.1 : Int32), (p176.2.2.2.2.2.2.2.2 : (Nat → Int32)))
def F_NH_put_c57 (x2 : Int32) (x3 : Int32) (x4 : Int64) (t0_0 : Int64) (t0_1 : Int32) (t1_0 : Int32) (t1_1 : Int32) (t2_0 : (Nat → Int32)) (t3_0 : Int32) (t3_1 : Int32) (t4_0 : (Nat → Int32)) (t5_0 : (Nat → Int64)) (t6_0 : (Nat → Int64)) (t7_0 : Int32) (t7_1 : Int32) (t8_0 : (Nat → Int32)) (t9_0 : Int32) (t9_1 : Int32) (t10_0 : Int32) (t10_1 : Int32) (t11_0 : (Nat → Int32)) (lx55 : Int32) (p128 : (Int32 × Int32 × (Nat → Int32))) : Int32 × Int32 × Int32 × (Nat → Int32) × Int32 × Int32 × (Nat → Int32) × (Nat → Int64) × (Nat → Int64) × Int32 × Int32 × (Nat → Int32) × Int32 × Int32 × Int32 × Int32 × (Nat → Int32) := F_NH_put_c78 x2 x3 x4 t0_0 t0_1 t1_0 t1_1 t2_0 t3_0 t3_1 t4_0 t5_0 t6_0 t7_0 t7_1 t8_0 t9_0 t9_1 t10_0 t10_1 t11_0 lx55 p128 (p128.1 : Int32) (p128.2.1 : Int32) (p128.2.2 : (Nat → Int32)) ((F_DW_settle (220 : Int32) (0 : Int64) (108 : Int32) t3_0 t3_1 t4_0 (p128.1 : Int32) (p128.2.1 : Int32) (p128.2.2 : (Nat → Int32)) t9_0 t9_1 t10_0 t10_1 t11_0) : (Int32 × Int32 × Int32 × (Nat → Int32) × Int32 × Int32 × Int32 × Int32 × (Nat → Int32)))
def F_NH_put_c38 (x2 : Int32) (x3 : Int32) (x4 : Int64) (t0_0 : Int64) (t0_1 : Int32) (t1_0 : Int32) (t1_1 : Int32) (t2_0 : (Nat → Int32)) (t3_0 : Int32) (t3_1 : Int32) (t4_0 : (Nat → Int32)) (t5_0 : (Nat → Int64)) (t6_0 : (Nat → Int64)) (t7_0 : Int32) (t7_1 : Int32) (t8_0 : (Nat → Int32)) (t9_0 : Int32) (t9_1 : Int32) (t10_0 : Int32) (t10_1 : Int32) (t11_0 : (Nat → Int32)) (lx55 : Int32) (p213 : (Int32 × Int32 × (Nat → Int32))) : Int32 × Int32 × Int32 × (Nat → Int32) × Int32 × Int32 × (Nat → Int32) × (Nat → Int64) × (Nat → Int64) × Int32 × Int32 × (Nat → Int32) × Int32 × Int32 × Int32 × Int32 × (Nat → Int32) := ((0 : Int32), t1_0, t1_1, t2_0, t3_0, t3_1, t4_0, t5_0, t6_0, (p213.1 : Int32), (p213.2.1 : Int32), (p213.2.2 : (Nat → Int32)), t9_0, t9_1, t10_0, t10_1, t11_0)
def F_NH_put_J24 (x2 : Int32) (x3 : Int32) (x4 : Int64) (t0_0 : Int64) (t0_1 : Int32) (t1_0 : Int32) (t1_1 : Int32) (t2_0 : (Nat → Int32)) (t3_0 : Int32) (t3_1 : Int32) (t4_0 : (Nat → Int32)) (t5_0 : (Nat → Int64)) (t6_0 : (Nat → Int64)) (t7_0 : Int32) (t7_1 : Int32) (t8_0 : (Nat → Int32)) (t9_0 : Int32) (t9_1 : Int32) (t10_0 : Int32) (t10_1 : Int32) (t11_0 : (Nat → Int32)) (lx55 : Int32) : Int32 × Int32 × Int32 × (Nat → Int32) × Int32 × Int32 × (Nat → Int32) × (Nat → Int64) × (Nat → Int64) × Int32 × Int32 × (Nat → Int32) × Int32 × Int32 × Int32 × Int32 × (Nat → Int32) := if (F_NH_need lx55) = (0 : Int32) then (if x2 = (0 : Int32) then (F_NH_put_c38 x2 x3 x4 t0_0 t0_1 t1_0 t1_1 t2_0 t3_0 t3_1 t4_0 t5_0 t6_0 t7_0 t7_1 t8_0 t9_0 t9_1 t10_0 t10_1 t11_0 lx55 ((F_Big_setLong (68 : Int32) x4 t7_0 t7_1 t8_0) : (Int32 × Int32 × (Nat → Int32)))) else (if x2 = (1 : Int32) then (F_NH_put_c57 x2 x3 x4 t0_0 t0_1 t1_0 t1_1 t2_0 t3_0 t3_1 t4_0 t5_0 t6_0 t7_0 t7_1 t8_0 t9_0 t9_1 t10_0 t10_1 t11_0 lx55 ((F_Big_setLong (220 : Int32) x4 t1_0 t1_1 t2_0) : (Int32 × Int32 × (Nat → Int32)))) else (if x2 = (2 : Int32) then (((0 : Int32), t1_0, t1_1, t2_0, t3_0, t3_1, t4_0, (vp_updL t5_0 x3.toNatClampNeg x4 : (Nat → Int64)), t6_0, t7_0, t7_1, t8_0, t9_0, t9_1, t10_0, t10_1, t11_0)) else (((0 : Int32), t1_0, t1_1, t2_0, t3_0, t3_1, t4_0, t5_0, (vp_updL t6_0 x3.toNatClampNeg x4 : (Nat → Int64)), t7_0, t7_1, t8_0, t9_0, t9_1, t10_0, t10_1, t11_0))))) else (((F_NH_need lx55), t1_0, t1_1, t2_0, t3_0, t3_1, t4_0, t5_0, t6_0, t7_0, t7_1, t8_0, t9_0, t9_1, t10_0, t10_1, t11_0))
def F_NH_put_J19 (x2 : Int32) (x3 : Int32) (x4 : Int64) (t0_0 : Int64) (t0_1 : Int32) (t1_0 : Int32) (t1_1 : Int32) (t2_0 : (Nat → Int32)) (t3_0 : Int32) (t3_1 : Int32) (t4_0 : (Nat → Int32)) (t5_0 : (Nat → Int64)) (t6_0 : (Nat → Int64)) (t7_0 : Int32) (t7_1 : Int32) (t8_0 : (Nat → Int32)) (t9_0 : Int32) (t9_1 : Int32) (t10_0 : Int32) (t10_1 : Int32) (t11_0 : (Nat → Int32)) : Int32 × Int32 × Int32 × (Nat → Int32) × Int32 × Int32 × (Nat → Int32) × (Nat → Int64) × (Nat → Int64) × Int32 × Int32 × (Nat → Int32) × Int32 × Int32 × Int32 × Int32 × (Nat → Int32) := F_NH_put_J24 x2 x3 x4 t0_0 t0_1 t1_0 t1_1 t2_0 t3_0 t3_1 t4_0 t5_0 t6_0 t7_0 t7_1 t8_0 t9_0 t9_1 t10_0 t10_1 t11_0 1
def F_NH_put (x2 : Int32) (x3 : Int32) (x4 : Int64) (t0_0 : Int64) (t0_1 : Int32) (t1_0 : Int32) (t1_1 : Int32) (t2_0 : (Nat → Int32)) (t3_0 : Int32) (t3_1 : Int32) (t4_0 : (Nat → Int32)) (t5_0 : (Nat → Int64)) (t6_0 : (Nat → Int64)) (t7_0 : Int32) (t7_1 : Int32) (t8_0 : (Nat → Int32)) (t9_0 : Int32) (t9_1 : Int32) (t10_0 : Int32) (t10_1 : Int32) (t11_0 : (Nat → Int32)) : Int32 × Int32 × Int32 × (Nat → Int32) × Int32 × Int32 × (Nat → Int32) × (Nat → Int64) × (Nat → Int64) × Int32 × Int32 × (Nat → Int32) × Int32 × Int32 × Int32 × Int32 × (Nat → Int32) := if (F_NH_needRegister x2 x3) = (0 : Int32) then (if x2 = (3 : Int32) then (if (lg_cmp ((x4.toUInt64 >>> ((32 : Int32).toInt64.toUInt64 &&& Int64.toUInt64 63)).toInt64 : Int64) 0 : Int32) = (0 : Int32) then (F_NH_put_J19 x2 x3 x4 t0_0 t0_1 t1_0 t1_1 t2_0 t3_0 t3_1 t4_0 t5_0 t6_0 t7_0 t7_1 t8_0 t9_0 t9_1 t10_0 t10_1 t11_0) else (F_NH_put_J24 x2 x3 x4 t0_0 t0_1 t1_0 t1_1 t2_0 t3_0 t3_1 t4_0 t5_0 t6_0 t7_0 t7_1 t8_0 t9_0 t9_1 t10_0 t10_1 t11_0 0)) else (F_NH_put_J19 x2 x3 x4 t0_0 t0_1 t1_0 t1_1 t2_0 t3_0 t3_1 t4_0 t5_0 t6_0 t7_0 t7_1 t8_0 t9_0 t9_1 t10_0 t10_1 t11_0)) else (((F_NH_needRegister x2 x3), t1_0, t1_1, t2_0, t3_0, t3_1, t4_0, t5_0, t6_0, t7_0, t7_1, t8_0, t9_0, t9_1, t10_0, t10_1, t11_0))
def S_NH_put_c78 (x2 : Int32) (x3 : Int32) (x4 : Int64) (t0_0 : Int64) (t0_1 : Int32) (t1_0 : Int32) (t1_1 : Int32) (t2_0 : (Nat → Int32)) (t3_0 : Int32) (t3_1 : Int32) (t4_0 : (Nat → Int32)) (t5_0 : (Nat → Int64)) (t6_0 : (Nat → Int64)) (t7_0 : Int32) (t7_1 : Int32) (t8_0 : (Nat → Int32)) (t9_0 : Int32) (t9_1 : Int32) (t10_0 : Int32) (t10_1 : Int32) (t11_0 : (Nat → Int32)) (lx55 : Int32) (p128 : (Int32 × Int32 × (Nat → Int32))) (y117 : Int32) (y118 : Int32) (f119 : (Nat → Int32)) (p176 : (Int32 × Int32 × Int32 × (Nat → Int32) × Int32 × Int32 × Int32 × Int32 × (Nat → Int32))) : Prop := True
def S_NH_put_c57 (x2 : Int32) (x3 : Int32) (x4 : Int64) (t0_0 : Int64) (t0_1 : Int32) (t1_0 : Int32) (t1_1 : Int32) (t2_0 : (Nat → Int32)) (t3_0 : Int32) (t3_1 : Int32) (t4_0 : (Nat → Int32)) (t5_0 : (Nat → Int64)) (t6_0 : (Nat → Int64)) (t7_0 : Int32) (t7_1 : Int32) (t8_0 : (Nat → Int32)) (t9_0 : Int32) (t9_1 : Int32) (t10_0 : Int32) (t10_1 : Int32) (t11_0 : (Nat → Int32)) (lx55 : Int32) (p128 : (Int32 × Int32 × (Nat → Int32))) : Prop := (0 ≤ x3.toInt) ∧ ((x3.toInt ≤ 9) ∧ ((True ∧ S_DW_settle (220 : Int32) (0 : Int64) (108 : Int32) t3_0 t3_1 t4_0 (p128.1 : Int32) (p128.2.1 : Int32) (p128.2.2 : (Nat → Int32)) t9_0 t9_1 t10_0 t10_1 t11_0) ∧ (S_NH_put_c78 x2 x3 x4 t0_0 t0_1 t1_0 t1_1 t2_0 t3_0 t3_1 t4_0 t5_0 t6_0 t7_0 t7_1 t8_0 t9_0 t9_1 t10_0 t10_1 t11_0 lx55 p128 (p128.1 : Int32) (p128.2.1 : Int32) (p128.2.2 : (Nat → Int32)) ((F_DW_settle (220 : Int32) (0 : Int64) (108 : Int32) t3_0 t3_1 t4_0 (p128.1 : Int32) (p128.2.1 : Int32) (p128.2.2 : (Nat → Int32)) t9_0 t9_1 t10_0 t10_1 t11_0) : (Int32 × Int32 × Int32 × (Nat → Int32) × Int32 × Int32 × Int32 × Int32 × (Nat → Int32))))))
def S_NH_put_c38 (x2 : Int32) (x3 : Int32) (x4 : Int64) (t0_0 : Int64) (t0_1 : Int32) (t1_0 : Int32) (t1_1 : Int32) (t2_0 : (Nat → Int32)) (t3_0 : Int32) (t3_1 : Int32) (t4_0 : (Nat → Int32)) (t5_0 : (Nat → Int64)) (t6_0 : (Nat → Int64)) (t7_0 : Int32) (t7_1 : Int32) (t8_0 : (Nat → Int32)) (t9_0 : Int32) (t9_1 : Int32) (t10_0 : Int32) (t10_1 : Int32) (t11_0 : (Nat → Int32)) (lx55 : Int32) (p213 : (Int32 × Int32 × (Nat → Int32))) : Prop := True
def S_NH_put_J24 (x2 : Int32) (x3 : Int32) (x4 : Int64) (t0_0 : Int64) (t0_1 : Int32) (t1_0 : Int32) (t1_1 : Int32) (t2_0 : (Nat → Int32)) (t3_0 : Int32) (t3_1 : Int32) (t4_0 : (Nat → Int32)) (t5_0 : (Nat → Int64)) (t6_0 : (Nat → Int64)) (t7_0 : Int32) (t7_1 : Int32) (t8_0 : (Nat → Int32)) (t9_0 : Int32) (t9_1 : Int32) (t10_0 : Int32) (t10_1 : Int32) (t11_0 : (Nat → Int32)) (lx55 : Int32) : Prop := if (F_NH_need lx55) = (0 : Int32) then (if x2 = (0 : Int32) then ((0 ≤ x3.toInt) ∧ ((x3.toInt ≤ 9) ∧ (S_NH_put_c38 x2 x3 x4 t0_0 t0_1 t1_0 t1_1 t2_0 t3_0 t3_1 t4_0 t5_0 t6_0 t7_0 t7_1 t8_0 t9_0 t9_1 t10_0 t10_1 t11_0 lx55 ((F_Big_setLong (68 : Int32) x4 t7_0 t7_1 t8_0) : (Int32 × Int32 × (Nat → Int32)))))) else (if x2 = (1 : Int32) then (S_NH_put_c57 x2 x3 x4 t0_0 t0_1 t1_0 t1_1 t2_0 t3_0 t3_1 t4_0 t5_0 t6_0 t7_0 t7_1 t8_0 t9_0 t9_1 t10_0 t10_1 t11_0 lx55 ((F_Big_setLong (220 : Int32) x4 t1_0 t1_1 t2_0) : (Int32 × Int32 × (Nat → Int32)))) else (if x2 = (2 : Int32) then ((0 ≤ x3.toInt) ∧ ((x3.toInt ≤ 9) ∧ (True))) else ((0 ≤ x3.toInt) ∧ ((x3.toInt ≤ 9) ∧ (True)))))) else (True)
def S_NH_put_J19 (x2 : Int32) (x3 : Int32) (x4 : Int64) (t0_0 : Int64) (t0_1 : Int32) (t1_0 : Int32) (t1_1 : Int32) (t2_0 : (Nat → Int32)) (t3_0 : Int32) (t3_1 : Int32) (t4_0 : (Nat → Int32)) (t5_0 : (Nat → Int64)) (t6_0 : (Nat → Int64)) (t7_0 : Int32) (t7_1 : Int32) (t8_0 : (Nat → Int32)) (t9_0 : Int32) (t9_1 : Int32) (t10_0 : Int32) (t10_1 : Int32) (t11_0 : (Nat → Int32)) : Prop := S_NH_put_J24 x2 x3 x4 t0_0 t0_1 t1_0 t1_1 t2_0 t3_0 t3_1 t4_0 t5_0 t6_0 t7_0 t7_1 t8_0 t9_0 t9_1 t10_0 t10_1 t11_0 1
def S_NH_put (x2 : Int32) (x3 : Int32) (x4 : Int64) (t0_0 : Int64) (t0_1 : Int32) (t1_0 : Int32) (t1_1 : Int32) (t2_0 : (Nat → Int32)) (t3_0 : Int32) (t3_1 : Int32) (t4_0 : (Nat → Int32)) (t5_0 : (Nat → Int64)) (t6_0 : (Nat → Int64)) (t7_0 : Int32) (t7_1 : Int32) (t8_0 : (Nat → Int32)) (t9_0 : Int32) (t9_1 : Int32) (t10_0 : Int32) (t10_1 : Int32) (t11_0 : (Nat → Int32)) : Prop := if (F_NH_needRegister x2 x3) = (0 : Int32) then (if x2 = (3 : Int32) then (if (lg_cmp ((x4.toUInt64 >>> ((32 : Int32).toInt64.toUInt64 &&& Int64.toUInt64 63)).toInt64 : Int64) 0 : Int32) = (0 : Int32) then (S_NH_put_J19 x2 x3 x4 t0_0 t0_1 t1_0 t1_1 t2_0 t3_0 t3_1 t4_0 t5_0 t6_0 t7_0 t7_1 t8_0 t9_0 t9_1 t10_0 t10_1 t11_0) else (S_NH_put_J24 x2 x3 x4 t0_0 t0_1 t1_0 t1_1 t2_0 t3_0 t3_1 t4_0 t5_0 t6_0 t7_0 t7_1 t8_0 t9_0 t9_1 t10_0 t10_1 t11_0 0)) else (S_NH_put_J19 x2 x3 x4 t0_0 t0_1 t1_0 t1_1 t2_0 t3_0 t3_1 t4_0 t5_0 t6_0 t7_0 t7_1 t8_0 t9_0 t9_1 t10_0 t10_1 t11_0)) else (True)
set_option maxRecDepth 100000 in
set_option maxHeartbeats 4000000 in
theorem X_NH_put (l : Launch) (D : va_G) (g : Nat → ClassId) (q : Nat → Nat) (ws : va_W) (x2 : Int32) (x3 : Int32) (x4 : Int64) (k3 : Nat) (hBk3 : q_isBig (nsh g q) g q k3 68) (yk3 : 66 ≤ k3) (gk3x3 : x3.toNatClampNeg < 10 → k3 = 66 + 5 * x3.toNatClampNeg) (d3 : Nat) (hBd3 : q_isDec (nsh g q) g q d3 108) (yd3 : 66 ≤ d3) (gd3x3 : x3.toNatClampNeg < 10 → d3 = 68 + 5 * x3.toNatClampNeg) (ne_k3_d3 : k3 ≠ d3) (ne_k3_d3p1 : k3 ≠ d3 + 1) (ne_k3_d3p2 : k3 ≠ d3 + 2) (ne_d3_k3p1 : d3 ≠ k3 + 1) (hlt : l.stackTraces = false) (hI : q_I (nsh g q) q ws) (t0_0 : Int64) (t0_1 : Int32) (hT0 : ws[30]? = (some (q 30, .inr (5, [.ref (q 31), .long t0_0, .ref (q 9), .int t0_1])) : Option (Nat × va_E))) (t1_0 : Int32) (t1_1 : Int32) (hT1 : ws[10]? = (some (q 10, .inr (2, [.ref (q 11), .int t1_0, .int t1_1])) : Option (Nat × va_E))) (t2_0 : (Nat → Int32)) (hT2 : ws[11]? = (some (q 11, .inl (g 0, (220 : Int32).toNatClampNeg, .inl t2_0)) : Option (Nat × va_E))) (t3_0 : Int32) (t3_1 : Int32) (hT3 : ws[20]? = (some (q 20, .inr (2, [.ref (q 21), .int t3_0, .int t3_1])) : Option (Nat × va_E))) (t4_0 : (Nat → Int32)) (hT4 : ws[21]? = (some (q 21, .inl (g 0, (220 : Int32).toNatClampNeg, .inl t4_0)) : Option (Nat × va_E))) (t5_0 : (Nat → Int64)) (hT5 : ws[7]? = (some (q 7, .inl (g 1, 10, .inr (.inl t5_0))) : Option (Nat × va_E))) (t6_0 : (Nat → Int64)) (hT6 : ws[8]? = (some (q 8, .inl (g 1, 10, .inr (.inl t6_0))) : Option (Nat × va_E))) (t7_0 : Int32) (t7_1 : Int32) (hT7 : ws[k3]? = (some (q k3, .inr (2, [.ref (q (k3 + 1)), .int t7_0, .int t7_1])) : Option (Nat × va_E))) (t8_0 : (Nat → Int32)) (hT8 : ws[k3 + 1]? = (some (q (k3 + 1), .inl (g 0, (68 : Int32).toNatClampNeg, .inl t8_0)) : Option (Nat × va_E))) (t9_0 : Int32) (t9_1 : Int32) (hT9 : ws[d3]? = (some (q d3, .inr (3, [.ref (q (d3 + 1)), .int t9_0, .int t9_1])) : Option (Nat × va_E))) (t10_0 : Int32) (t10_1 : Int32) (hT10 : ws[d3 + 1]? = (some (q (d3 + 1), .inr (2, [.ref (q (d3 + 2)), .int t10_0, .int t10_1])) : Option (Nat × va_E))) (t11_0 : (Nat → Int32)) (hT11 : ws[d3 + 2]? = (some (q (d3 + 2), .inl (g 0, (108 : Int32).toNatClampNeg, .inl t11_0)) : Option (Nat × va_E))) (hS : True ∧ S_NH_put x2 x3 x4 t0_0 t0_1 t1_0 t1_1 t2_0 t3_0 t3_1 t4_0 t5_0 t6_0 t7_0 t7_1 t8_0 t9_0 t9_1 t10_0 t10_1 t11_0) : ∀ sz, q_Mx l y_NH_put prog_1_method_5_code 5 none 9 2 12 D g [.ref (q 0), .int x2, .int x3, .long x4] ws sz (va_Qv (fun u => q_I (nsh g q) q u ∧ q_un ws u [7, 8, 10, 11, 20, 21, d3, d3 + 1, d3 + 2, k3, k3 + 1] ∧ ∃ (u1_0 : Int32) (u1_1 : Int32) (u2_0 : (Nat → Int32)) (u3_0 : Int32) (u3_1 : Int32) (u4_0 : (Nat → Int32)) (u5_0 : (Nat → Int64)) (u6_0 : (Nat → Int64)) (u7_0 : Int32) (u7_1 : Int32) (u8_0 : (Nat → Int32)) (u9_0 : Int32) (u9_1 : Int32) (u10_0 : Int32) (u10_1 : Int32) (u11_0 : (Nat → Int32)), u[10]? = (some (q 10, .inr (2, [.ref (q 11), .int u1_0, .int u1_1])) : Option (Nat × va_E)) ∧ u[11]? = (some (q 11, .inl (g 0, (220 : Int32).toNatClampNeg, .inl u2_0)) : Option (Nat × va_E)) ∧ u[20]? = (some (q 20, .inr (2, [.ref (q 21), .int u3_0, .int u3_1])) : Option (Nat × va_E)) ∧ u[21]? = (some (q 21, .inl (g 0, (220 : Int32).toNatClampNeg, .inl u4_0)) : Option (Nat × va_E)) ∧ u[7]? = (some (q 7, .inl (g 1, 10, .inr (.inl u5_0))) : Option (Nat × va_E)) ∧ u[8]? = (some (q 8, .inl (g 1, 10, .inr (.inl u6_0))) : Option (Nat × va_E)) ∧ u[k3]? = (some (q k3, .inr (2, [.ref (q (k3 + 1)), .int u7_0, .int u7_1])) : Option (Nat × va_E)) ∧ u[k3 + 1]? = (some (q (k3 + 1), .inl (g 0, (68 : Int32).toNatClampNeg, .inl u8_0)) : Option (Nat × va_E)) ∧ u[d3]? = (some (q d3, .inr (3, [.ref (q (d3 + 1)), .int u9_0, .int u9_1])) : Option (Nat × va_E)) ∧ u[d3 + 1]? = (some (q (d3 + 1), .inr (2, [.ref (q (d3 + 2)), .int u10_0, .int u10_1])) : Option (Nat × va_E)) ∧ u[d3 + 2]? = (some (q (d3 + 2), .inl (g 0, (108 : Int32).toNatClampNeg, .inl u11_0)) : Option (Nat × va_E)) ∧ (0 ≤ u1_0.toInt) ∧ (u1_0.toInt ≤ 220) ∧ (0 ≤ u1_1.toInt) ∧ (u1_1.toInt ≤ 1) ∧ (0 ≤ u3_0.toInt) ∧ (u3_0.toInt ≤ 220) ∧ (0 ≤ u3_1.toInt) ∧ (u3_1.toInt ≤ 1) ∧ (0 ≤ u7_0.toInt) ∧ (u7_0.toInt ≤ 68) ∧ (0 ≤ u7_1.toInt) ∧ (u7_1.toInt ≤ 1) ∧ (0 ≤ u9_0.toInt + 10000) ∧ (u9_0.toInt ≤ 10000) ∧ (1 ≤ u9_1.toInt) ∧ (u9_1.toInt ≤ 1000) ∧ (0 ≤ u10_0.toInt) ∧ (u10_0.toInt ≤ 108) ∧ (0 ≤ u10_1.toInt) ∧ (u10_1.toInt ≤ 1) ∧ (x3.toInt ≤ u1_0.toInt + 9) ∧ (u1_0.toInt ≤ x3.toInt + 220) ∧ (u1_0.toInt ≤ t1_0.toInt + 3) ∧ (x3.toInt ≤ u1_1.toInt + 9) ∧ (u1_1.toInt ≤ x3.toInt + 1) ∧ (x3.toInt ≤ u3_0.toInt + 9) ∧ (u3_0.toInt ≤ x3.toInt + 220) ∧ (x3.toInt ≤ u3_1.toInt + 9) ∧ (u3_1.toInt ≤ x3.toInt + 1) ∧ (x3.toInt ≤ u7_0.toInt + 9) ∧ (u7_0.toInt ≤ x3.toInt + 68) ∧ (u7_0.toInt ≤ t7_0.toInt + 3) ∧ (x3.toInt ≤ u7_1.toInt + 9) ∧ (u7_1.toInt ≤ x3.toInt + 1) ∧ (x3.toInt ≤ u9_0.toInt + 10009) ∧ (u9_0.toInt ≤ x3.toInt + 10000) ∧ (x3.toInt ≤ u9_1.toInt + 8) ∧ (u9_1.toInt ≤ x3.toInt + 1000) ∧ (x3.toInt ≤ u10_0.toInt + 9) ∧ (u10_0.toInt ≤ x3.toInt + 108) ∧ (x3.toInt ≤ u10_1.toInt + 9) ∧ (u10_1.toInt ≤ x3.toInt + 1) ∧ ((0 : Int32), u1_0, u1_1, u2_0, u3_0, u3_1, u4_0, u5_0, u6_0, u7_0, u7_1, u8_0, u9_0, u9_1, u10_0, u10_1, u11_0) = (F_NH_put x2 x3 x4 t0_0 t0_1 t1_0 t1_1 t2_0 t3_0 t3_1 t4_0 t5_0 t6_0 t7_0 t7_1 t8_0 t9_0 t9_1 t10_0 t10_1 t11_0)) (q_B D g (va_A ws sz)) (va_A ws sz)) (fun E u => ∃ c : Int32, E = qE c ∧ c ≠ 0 ∧ q_I (nsh g q) q u ∧ q_un ws u [7, 8, 10, 11, 20, 21, d3, d3 + 1, d3 + 2, k3, k3 + 1] ∧ ∃ (u1_0 : Int32) (u1_1 : Int32) (u2_0 : (Nat → Int32)) (u3_0 : Int32) (u3_1 : Int32) (u4_0 : (Nat → Int32)) (u5_0 : (Nat → Int64)) (u6_0 : (Nat → Int64)) (u7_0 : Int32) (u7_1 : Int32) (u8_0 : (Nat → Int32)) (u9_0 : Int32) (u9_1 : Int32) (u10_0 : Int32) (u10_1 : Int32) (u11_0 : (Nat → Int32)), u[10]? = (some (q 10, .inr (2, [.ref (q 11), .int u1_0, .int u1_1])) : Option (Nat × va_E)) ∧ u[11]? = (some (q 11, .inl (g 0, (220 : Int32).toNatClampNeg, .inl u2_0)) : Option (Nat × va_E)) ∧ u[20]? = (some (q 20, .inr (2, [.ref (q 21), .int u3_0, .int u3_1])) : Option (Nat × va_E)) ∧ u[21]? = (some (q 21, .inl (g 0, (220 : Int32).toNatClampNeg, .inl u4_0)) : Option (Nat × va_E)) ∧ u[7]? = (some (q 7, .inl (g 1, 10, .inr (.inl u5_0))) : Option (Nat × va_E)) ∧ u[8]? = (some (q 8, .inl (g 1, 10, .inr (.inl u6_0))) : Option (Nat × va_E)) ∧ u[k3]? = (some (q k3, .inr (2, [.ref (q (k3 + 1)), .int u7_0, .int u7_1])) : Option (Nat × va_E)) ∧ u[k3 + 1]? = (some (q (k3 + 1), .inl (g 0, (68 : Int32).toNatClampNeg, .inl u8_0)) : Option (Nat × va_E)) ∧ u[d3]? = (some (q d3, .inr (3, [.ref (q (d3 + 1)), .int u9_0, .int u9_1])) : Option (Nat × va_E)) ∧ u[d3 + 1]? = (some (q (d3 + 1), .inr (2, [.ref (q (d3 + 2)), .int u10_0, .int u10_1])) : Option (Nat × va_E)) ∧ u[d3 + 2]? = (some (q (d3 + 2), .inl (g 0, (108 : Int32).toNatClampNeg, .inl u11_0)) : Option (Nat × va_E)) ∧ (c, u1_0, u1_1, u2_0, u3_0, u3_1, u4_0, u5_0, u6_0, u7_0, u7_1, u8_0, u9_0, u9_1, u10_0, u10_1, u11_0) = (F_NH_put x2 x3 x4 t0_0 t0_1 t1_0 t1_1 t2_0 t3_0 t3_1 t4_0 t5_0 t6_0 t7_0 t7_1 t8_0 t9_0 t9_1 t10_0 t10_1 t11_0)) := by
  intro sz
  refine q_intoX (by decide) (Nat.le_of_ble_eq_true rfl) ?_
  intro p e s m below meth c ls hsz C0 V hno hl
  have hx := C0.1
  have hb := C0.2.1
  have btt0_1 := n_w30 hI hT0
  clear btt0_1
  obtain ⟨btt1_0, btt1_1⟩ := q_bigW hI (n_b10 g q) hT1
  replace btt1_0 : q_F (0 ≤ t1_0.toInt ∧ t1_0.toInt ≤ 220) := btt1_0
  replace btt1_1 : q_F (0 ≤ t1_1.toInt ∧ t1_1.toInt ≤ 1) := btt1_1
  obtain ⟨btt3_0, btt3_1⟩ := q_bigW hI (n_b20 g q) hT3
  replace btt3_0 : q_F (0 ≤ t3_0.toInt ∧ t3_0.toInt ≤ 220) := btt3_0
  replace btt3_1 : q_F (0 ≤ t3_1.toInt ∧ t3_1.toInt ≤ 1) := btt3_1
  obtain ⟨btt7_0, btt7_1⟩ := q_bigW hI hBk3 hT7
  replace btt7_0 : q_F (0 ≤ t7_0.toInt ∧ t7_0.toInt ≤ 68) := btt7_0
  replace btt7_1 : q_F (0 ≤ t7_1.toInt ∧ t7_1.toInt ≤ 1) := btt7_1
  obtain ⟨btt9_0, btt9_1⟩ := n_deW hI hBd3 hT9
  replace btt9_0 : q_F (-10000 ≤ t9_0.toInt ∧ t9_0.toInt ≤ 10000) := btt9_0
  replace btt9_1 : q_F (1 ≤ t9_1.toInt ∧ t9_1.toInt ≤ 1000) := btt9_1
  obtain ⟨btt10_0, btt10_1⟩ := q_bigW hI hBd3.2 hT10
  replace btt10_0 : q_F (0 ≤ t10_0.toInt ∧ t10_0.toInt ≤ 108) := btt10_0
  replace btt10_1 : q_F (0 ≤ t10_1.toInt ∧ t10_1.toInt ≤ 1) := btt10_1
  have hF : q_un ws ws [7, 8, 10, 11, 20, 21, d3, d3 + 1, d3 + 2, k3, k3 + 1] := q_u0
  have hl : lv_has ls 5 [(0, .ref (q 0)), (1, .int x2), (2, .int x3), (3, .long x4)] := hl
  refine lv_iload_n hx hb d_1_5_0 rfl (lv_at hl 1 rfl) ?_
  refine lv_iload_n hx hb d_1_5_1 rfl (lv_at hl 2 rfl) ?_
  refine q_goxv V (q_runSX (As := [.int x2, .int x3]) (rest := []) (d := 8) (mc := 1) (ms := 6) C0 V rfl LS_NH_118 (X_NH_needRegister l D g q ws  x2 x3 hlt hI   _) rfl hl.1 rfl (Nat.le_of_ble_eq_true rfl) ⟨by decide, by decide⟩ ⟨Nat.le_of_ble_eq_true rfl, Nat.le_of_ble_eq_true rfl⟩ d_1_5_2) (fun qx Ex ce u46 H locs hp47 V hce hcv hcl => ?_) (fun u46 H locs hp47 V => ?_)
  ·
    obtain ⟨cx49, he50, hc51, rfl, hE48⟩ := hp47
    have c52 : ¬ (F_NH_needRegister x2 x3) = (0 : Int32) := fun z => hc51 (((hE48) : cx49 = _).trans z)
    exact q_outT hno C0 V (⟨(F_NH_needRegister x2 x3), (he50.trans (congrArg qE ((hE48) : cx49 = _))), c52, hI, hF, t1_0, t1_1, t2_0, t3_0, t3_1, t4_0, t5_0, t6_0, t7_0, t7_1, t8_0, t9_0, t9_1, t10_0, t10_1, t11_0, hT1, hT2, hT3, hT4, hT5, hT6, hT7, hT8, hT9, hT10, hT11, (show ((F_NH_needRegister x2 x3), t1_0, t1_1, t2_0, t3_0, t3_1, t4_0, t5_0, t6_0, t7_0, t7_1, t8_0, t9_0, t9_1, t10_0, t10_1, t11_0) = (F_NH_put x2 x3 x4 t0_0 t0_1 t1_0 t1_1 t2_0 t3_0 t3_1 t4_0 t5_0 t6_0 t7_0 t7_1 t8_0 t9_0 t9_1 t10_0 t10_1 t11_0) from (by rw [F_NH_put.eq_1, if_neg c52]))⟩) hce hcv hcl (Nat.le_of_ble_eq_true rfl) (Nat.le_of_ble_eq_true rfl)
  ·
    obtain ⟨rfl, hE53⟩ := hp47
    have c52 : (F_NH_needRegister x2 x3) = (0 : Int32) := ((hE53) : (0 : Int32) = _).symm
    refine lv_iload_n hx hb d_1_5_5 rfl (lv_at hl 1 rfl) ?_
    refine lv_iconst (v := 3) hx hb d_1_5_6 (by decide) ?_
    refine q_join (X := Int32) (fun z H locs ls _ => q_F (0 ≤ z.toInt) ∧ q_F (z.toInt ≤ 1) ∧ q_Wd D g (va_A ws sz) s ws H locs ∧ lv_has ls 5 [(0, .ref (q 0)), (1, .int x2), (2, .int x3), (3, .long x4)] ∧ F_NH_put_J24 x2 x3 x4 t0_0 t0_1 t1_0 t1_1 t2_0 t3_0 t3_1 t4_0 t5_0 t6_0 t7_0 t7_1 t8_0 t9_0 t9_1 t10_0 t10_1 t11_0 z = (F_NH_put x2 x3 x4 t0_0 t0_1 t1_0 t1_1 t2_0 t3_0 t3_1 t4_0 t5_0 t6_0 t7_0 t7_1 t8_0 t9_0 t9_1 t10_0 t10_1 t11_0) ∧ True ∧ S_NH_put_J24 x2 x3 x4 t0_0 t0_1 t1_0 t1_1 t2_0 t3_0 t3_1 t4_0 t5_0 t6_0 t7_0 t7_1 t8_0 t9_0 t9_1 t10_0 t10_1 t11_0 z) (fun z => [.int z]) 24 1 6 ?_ ?_
    ·
      rintro lx55 H locs ls _ hZ9
      obtain ⟨i69, hZ9⟩ := hZ9
      obtain ⟨i70, hZ9⟩ := hZ9
      obtain ⟨V, hZ9⟩ := hZ9
      obtain ⟨hl, hZ9⟩ := hZ9
      obtain ⟨hR71, hS72⟩ := hZ9
      replace i69 : q_F (0 ≤ lx55.toInt) := i69
      replace i70 : q_F (lx55.toInt ≤ 1) := i70
      replace hl : lv_has ls 5 [(0, .ref (q 0)), (1, .int x2), (2, .int x3), (3, .long x4)] := hl
      refine q_goxv V (q_runSX (As := [.int lx55]) (rest := []) (d := 7) (mc := 1) (ms := 6) C0 V rfl LS_NH_104 (X_NH_need l D g q ws  lx55 hlt hI  ⟨(by first | with_reducible exact q_fe i69 | (have t1 : 0 ≤ lx55.toInt := i69; omega)), (by first | with_reducible exact q_fe i70 | (have t1 : lx55.toInt ≤ 1 := i70; omega))⟩ _) rfl hl.1 rfl (Nat.le_of_ble_eq_true rfl) ⟨by decide, by decide⟩ ⟨Nat.le_of_ble_eq_true rfl, Nat.le_of_ble_eq_true rfl⟩ d_1_5_24) (fun qx Ex ce u76 H locs hp77 V hce hcv hcl => ?_) (fun u76 H locs hp77 V => ?_)
      ·
        obtain ⟨cx79, he80, hc81, rfl, hE78⟩ := hp77
        have c82 : ¬ (F_NH_need lx55) = (0 : Int32) := fun z => hc81 (((hE78) : cx79 = _).trans z)
        exact q_outT hno C0 V (⟨(F_NH_need lx55), (he80.trans (congrArg qE ((hE78) : cx79 = _))), c82, hI, hF, t1_0, t1_1, t2_0, t3_0, t3_1, t4_0, t5_0, t6_0, t7_0, t7_1, t8_0, t9_0, t9_1, t10_0, t10_1, t11_0, hT1, hT2, hT3, hT4, hT5, hT6, hT7, hT8, hT9, hT10, hT11, (show ((F_NH_need lx55), t1_0, t1_1, t2_0, t3_0, t3_1, t4_0, t5_0, t6_0, t7_0, t7_1, t8_0, t9_0, t9_1, t10_0, t10_1, t11_0) = (F_NH_put x2 x3 x4 t0_0 t0_1 t1_0 t1_1 t2_0 t3_0 t3_1 t4_0 t5_0 t6_0 t7_0 t7_1 t8_0 t9_0 t9_1 t10_0 t10_1 t11_0) from Eq.trans (by rw [F_NH_put_J24.eq_1, if_neg c82]) hR71)⟩) hce hcv hcl (Nat.le_of_ble_eq_true rfl) (Nat.le_of_ble_eq_true rfl)
      ·
        obtain ⟨rfl, hE83⟩ := hp77
        have c82 : (F_NH_need lx55) = (0 : Int32) := ((hE83) : (0 : Int32) = _).symm
        refine lv_iload_n hx hb d_1_5_27 rfl (lv_at hl 1 rfl) ?_
        refine lv_if_ne (tgt := 44) hx hb d_1_5_28 (by decide) (fun c85 => ?_) (fun c85 => ?_)
        ·
          refine lv_iload_n hx hb d_1_5_44 rfl (lv_at hl 1 rfl) ?_
          refine lv_iconst (v := 1) hx hb d_1_5_45 (by decide) ?_
          refine lv_icmp_ne (tgt := 85) hx hb d_1_5_46 (by decide) (fun c87 => ?_) (fun c87 => ?_)
          ·
            refine lv_aload_n hx hb d_1_5_85 rfl (lv_at hl 0 rfl) ?_
            refine lv_iload_n hx hb d_1_5_86 rfl (lv_at hl 1 rfl) ?_
            have hO89 := n_o0 hI
            refine q_gor (post := fun r u => ws = u ∧ r = q (F_NH_floatRow x2)) V (q_runV (As := [.int x2]) (rest := []) (d := 1) (mc := 0) (ms := 0) (ci := 0) C0 V rfl LV_NH_157 (X_NH_floatRow l D g q ws  x2 hI   _) rfl rfl hO89 rfl hl.1 rfl (Nat.le_of_ble_eq_true rfl) ⟨by decide, by decide⟩ ⟨Nat.le_of_ble_eq_true rfl, Nat.le_of_ble_eq_true rfl⟩ d_1_5_87) (fun a92 u90 H locs hp91 V => ?_)
            obtain ⟨rfl, hr93⟩ := hp91
            by_cases c94 : x2 = (2 : Int32)
            ·
              have hr95 : a92 = q 7 := hr93.trans (congrArg q (by unfold F_NH_floatRow; rw [if_pos c94]))
              subst hr95
              refine lv_iload_n hx hb d_1_5_90 rfl (lv_at hl 2 rfl) ?_
              refine lv_lload_n hx hb d_1_5_91 rfl (lv_at hl 3 rfl) ?_
              have ob97 : q_F (0 ≤ x3.toInt) := (by have h := hS72; rw [S_NH_put_J24.eq_1] at h; rw [if_pos c82] at h; rw [if_neg c85] at h; rw [if_neg c87] at h; rw [if_pos c94] at h; exact h.2.1)
              have ob98 : q_F (x3.toInt ≤ 9) := (by have h := hS72; rw [S_NH_put_J24.eq_1] at h; rw [if_pos c82] at h; rw [if_neg c85] at h; rw [if_neg c87] at h; rw [if_pos c94] at h; replace h := q_s2 h; exact h.2.1)
              refine q_last C0 V hT5 (q_ix (x := x3.toInt) rfl (by first | with_reducible exact q_fe ob97 | (have t1 : 0 ≤ x3.toInt := ob97; omega)) (by have t1 : 0 ≤ x3.toInt := ob97; have t2 : x3.toInt ≤ 9 := ob98; omega)) d_1_5_92 (fun H locs w99 hu100 hT5 V => ?_)
              replace hI := n_al' hI (n_s7 g q) hu100 hT5
              replace hT1 := (hu100 _ (by decide)).trans hT1
              replace hT2 := (hu100 _ (by decide)).trans hT2
              replace hT3 := (hu100 _ (by decide)).trans hT3
              replace hT4 := (hu100 _ (by decide)).trans hT4
              replace hT6 := (hu100 _ (by decide)).trans hT6
              replace hT7 := (hu100 _ (by have z0 := yk3; omega)).trans hT7
              replace hT8 := (hu100 _ (by have z0 := yk3; omega)).trans hT8
              replace hT9 := (hu100 _ (by have z0 := yd3; omega)).trans hT9
              replace hT10 := (hu100 _ (by have z0 := yd3; omega)).trans hT10
              replace hT11 := (hu100 _ (by have z0 := yd3; omega)).trans hT11
              replace hF := q_us hF hu100 (by simp)
              obtain ⟨f101, e102⟩ := q_nm (vp_updL t5_0 x3.toNatClampNeg x4 : (Nat → Int64))
              rw [e102] at hT5
              exact q_retX (q_retv C0 V (⟨hI, hF, t1_0, t1_1, t2_0, t3_0, t3_1, t4_0, f101, t6_0, t7_0, t7_1, t8_0, t9_0, t9_1, t10_0, t10_1, t11_0, hT1, hT2, hT3, hT4, hT5, hT6, hT7, hT8, hT9, hT10, hT11, (show 0 ≤ t1_0.toInt from (by first | with_reducible exact (q_fe btt1_0).2 | with_reducible exact (q_fe btt1_0).1 | (have t1 : 0 ≤ t1_0.toInt ∧ t1_0.toInt ≤ 220 := btt1_0; omega))), (show t1_0.toInt ≤ 220 from (by first | with_reducible exact (q_fe btt1_0).2 | with_reducible exact (q_fe btt1_0).1 | (have t1 : 0 ≤ t1_0.toInt ∧ t1_0.toInt ≤ 220 := btt1_0; omega))), (show 0 ≤ t1_1.toInt from (by first | with_reducible exact (q_fe btt1_1).2 | with_reducible exact (q_fe btt1_1).1 | (have t1 : 0 ≤ t1_1.toInt ∧ t1_1.toInt ≤ 1 := btt1_1; omega))), (show t1_1.toInt ≤ 1 from (by first | with_reducible exact (q_fe btt1_1).2 | with_reducible exact (q_fe btt1_1).1 | (have t1 : 0 ≤ t1_1.toInt ∧ t1_1.toInt ≤ 1 := btt1_1; omega))), (show 0 ≤ t3_0.toInt from (by first | with_reducible exact (q_fe btt3_0).2 | with_reducible exact (q_fe btt3_0).1 | (have t1 : 0 ≤ t3_0.toInt ∧ t3_0.toInt ≤ 220 := btt3_0; omega))), (show t3_0.toInt ≤ 220 from (by first | with_reducible exact (q_fe btt3_0).2 | with_reducible exact (q_fe btt3_0).1 | (have t1 : 0 ≤ t3_0.toInt ∧ t3_0.toInt ≤ 220 := btt3_0; omega))), (show 0 ≤ t3_1.toInt from (by first | with_reducible exact (q_fe btt3_1).2 | with_reducible exact (q_fe btt3_1).1 | (have t1 : 0 ≤ t3_1.toInt ∧ t3_1.toInt ≤ 1 := btt3_1; omega))), (show t3_1.toInt ≤ 1 from (by first | with_reducible exact (q_fe btt3_1).2 | with_reducible exact (q_fe btt3_1).1 | (have t1 : 0 ≤ t3_1.toInt ∧ t3_1.toInt ≤ 1 := btt3_1; omega))), (show 0 ≤ t7_0.toInt from (by first | with_reducible exact (q_fe btt7_0).2 | with_reducible exact (q_fe btt7_0).1 | (have t1 : 0 ≤ t7_0.toInt ∧ t7_0.toInt ≤ 68 := btt7_0; omega))), (show t7_0.toInt ≤ 68 from (by first | with_reducible exact (q_fe btt7_0).2 | with_reducible exact (q_fe btt7_0).1 | (have t1 : 0 ≤ t7_0.toInt ∧ t7_0.toInt ≤ 68 := btt7_0; omega))), (show 0 ≤ t7_1.toInt from (by first | with_reducible exact (q_fe btt7_1).2 | with_reducible exact (q_fe btt7_1).1 | (have t1 : 0 ≤ t7_1.toInt ∧ t7_1.toInt ≤ 1 := btt7_1; omega))), (show t7_1.toInt ≤ 1 from (by first | with_reducible exact (q_fe btt7_1).2 | with_reducible exact (q_fe btt7_1).1 | (have t1 : 0 ≤ t7_1.toInt ∧ t7_1.toInt ≤ 1 := btt7_1; omega))), (show 0 ≤ t9_0.toInt + 10000 from (by first | with_reducible exact (q_fe btt9_0).2 | with_reducible exact (q_fe btt9_0).1 | (have t1 : -10000 ≤ t9_0.toInt ∧ t9_0.toInt ≤ 10000 := btt9_0; omega))), (show t9_0.toInt ≤ 10000 from (by first | with_reducible exact (q_fe btt9_0).2 | with_reducible exact (q_fe btt9_0).1 | (have t1 : -10000 ≤ t9_0.toInt ∧ t9_0.toInt ≤ 10000 := btt9_0; omega))), (show 1 ≤ t9_1.toInt from (by first | with_reducible exact (q_fe btt9_1).2 | with_reducible exact (q_fe btt9_1).1 | (have t1 : 1 ≤ t9_1.toInt ∧ t9_1.toInt ≤ 1000 := btt9_1; omega))), (show t9_1.toInt ≤ 1000 from (by first | with_reducible exact (q_fe btt9_1).2 | with_reducible exact (q_fe btt9_1).1 | (have t1 : 1 ≤ t9_1.toInt ∧ t9_1.toInt ≤ 1000 := btt9_1; omega))), (show 0 ≤ t10_0.toInt from (by first | with_reducible exact (q_fe btt10_0).2 | with_reducible exact (q_fe btt10_0).1 | (have t1 : 0 ≤ t10_0.toInt ∧ t10_0.toInt ≤ 108 := btt10_0; omega))), (show t10_0.toInt ≤ 108 from (by first | with_reducible exact (q_fe btt10_0).2 | with_reducible exact (q_fe btt10_0).1 | (have t1 : 0 ≤ t10_0.toInt ∧ t10_0.toInt ≤ 108 := btt10_0; omega))), (show 0 ≤ t10_1.toInt from (by first | with_reducible exact (q_fe btt10_1).2 | with_reducible exact (q_fe btt10_1).1 | (have t1 : 0 ≤ t10_1.toInt ∧ t10_1.toInt ≤ 1 := btt10_1; omega))), (show t10_1.toInt ≤ 1 from (by first | with_reducible exact (q_fe btt10_1).2 | with_reducible exact (q_fe btt10_1).1 | (have t1 : 0 ≤ t10_1.toInt ∧ t10_1.toInt ≤ 1 := btt10_1; omega))), (show x3.toInt ≤ t1_0.toInt + 9 from (by have t1 : 0 ≤ t1_0.toInt ∧ t1_0.toInt ≤ 220 := btt1_0; have t2 : x3.toInt ≤ 9 := ob98; omega)), (show t1_0.toInt ≤ x3.toInt + 220 from (by have t1 : 0 ≤ t1_0.toInt ∧ t1_0.toInt ≤ 220 := btt1_0; have t2 : 0 ≤ x3.toInt := ob97; omega)), (show t1_0.toInt ≤ t1_0.toInt + 3 from (by omega)), (show x3.toInt ≤ t1_1.toInt + 9 from (by have t1 : 0 ≤ t1_1.toInt ∧ t1_1.toInt ≤ 1 := btt1_1; have t2 : x3.toInt ≤ 9 := ob98; omega)), (show t1_1.toInt ≤ x3.toInt + 1 from (by have t1 : 0 ≤ t1_1.toInt ∧ t1_1.toInt ≤ 1 := btt1_1; have t2 : 0 ≤ x3.toInt := ob97; omega)), (show x3.toInt ≤ t3_0.toInt + 9 from (by have t1 : 0 ≤ t3_0.toInt ∧ t3_0.toInt ≤ 220 := btt3_0; have t2 : x3.toInt ≤ 9 := ob98; omega)), (show t3_0.toInt ≤ x3.toInt + 220 from (by have t1 : 0 ≤ t3_0.toInt ∧ t3_0.toInt ≤ 220 := btt3_0; have t2 : 0 ≤ x3.toInt := ob97; omega)), (show x3.toInt ≤ t3_1.toInt + 9 from (by have t1 : 0 ≤ t3_1.toInt ∧ t3_1.toInt ≤ 1 := btt3_1; have t2 : x3.toInt ≤ 9 := ob98; omega)), (show t3_1.toInt ≤ x3.toInt + 1 from (by have t1 : 0 ≤ t3_1.toInt ∧ t3_1.toInt ≤ 1 := btt3_1; have t2 : 0 ≤ x3.toInt := ob97; omega)), (show x3.toInt ≤ t7_0.toInt + 9 from (by have t1 : 0 ≤ t7_0.toInt ∧ t7_0.toInt ≤ 68 := btt7_0; have t2 : x3.toInt ≤ 9 := ob98; omega)), (show t7_0.toInt ≤ x3.toInt + 68 from (by have t1 : 0 ≤ t7_0.toInt ∧ t7_0.toInt ≤ 68 := btt7_0; have t2 : 0 ≤ x3.toInt := ob97; omega)), (show t7_0.toInt ≤ t7_0.toInt + 3 from (by omega)), (show x3.toInt ≤ t7_1.toInt + 9 from (by have t1 : 0 ≤ t7_1.toInt ∧ t7_1.toInt ≤ 1 := btt7_1; have t2 : x3.toInt ≤ 9 := ob98; omega)), (show t7_1.toInt ≤ x3.toInt + 1 from (by have t1 : 0 ≤ t7_1.toInt ∧ t7_1.toInt ≤ 1 := btt7_1; have t2 : 0 ≤ x3.toInt := ob97; omega)), (show x3.toInt ≤ t9_0.toInt + 10009 from (by have t1 : -10000 ≤ t9_0.toInt ∧ t9_0.toInt ≤ 10000 := btt9_0; have t2 : x3.toInt ≤ 9 := ob98; omega)), (show t9_0.toInt ≤ x3.toInt + 10000 from (by have t1 : -10000 ≤ t9_0.toInt ∧ t9_0.toInt ≤ 10000 := btt9_0; have t2 : 0 ≤ x3.toInt := ob97; omega)), (show x3.toInt ≤ t9_1.toInt + 8 from (by have t1 : 1 ≤ t9_1.toInt ∧ t9_1.toInt ≤ 1000 := btt9_1; have t2 : x3.toInt ≤ 9 := ob98; omega)), (show t9_1.toInt ≤ x3.toInt + 1000 from (by have t1 : 1 ≤ t9_1.toInt ∧ t9_1.toInt ≤ 1000 := btt9_1; have t2 : 0 ≤ x3.toInt := ob97; omega)), (show x3.toInt ≤ t10_0.toInt + 9 from (by have t1 : 0 ≤ t10_0.toInt ∧ t10_0.toInt ≤ 108 := btt10_0; have t2 : x3.toInt ≤ 9 := ob98; omega)), (show t10_0.toInt ≤ x3.toInt + 108 from (by have t1 : 0 ≤ t10_0.toInt ∧ t10_0.toInt ≤ 108 := btt10_0; have t2 : 0 ≤ x3.toInt := ob97; omega)), (show x3.toInt ≤ t10_1.toInt + 9 from (by have t1 : 0 ≤ t10_1.toInt ∧ t10_1.toInt ≤ 1 := btt10_1; have t2 : x3.toInt ≤ 9 := ob98; omega)), (show t10_1.toInt ≤ x3.toInt + 1 from (by have t1 : 0 ≤ t10_1.toInt ∧ t10_1.toInt ≤ 1 := btt10_1; have t2 : 0 ≤ x3.toInt := ob97; omega)), (show ((0 : Int32), t1_0, t1_1, t2_0, t3_0, t3_1, t4_0, f101, t6_0, t7_0, t7_1, t8_0, t9_0, t9_1, t10_0, t10_1, t11_0) = (F_NH_put x2 x3 x4 t0_0 t0_1 t1_0 t1_1 t2_0 t3_0 t3_1 t4_0 t5_0 t6_0 t7_0 t7_1 t8_0 t9_0 t9_1 t10_0 t10_1 t11_0) from Eq.trans (by rw [← e102, F_NH_put_J24.eq_1, if_pos c82, if_neg c85, if_neg c87, if_pos c94]) hR71)⟩) d_1_5_93)
            ·
              have hr103 : a92 = q 8 := hr93.trans (congrArg q (by unfold F_NH_floatRow; rw [if_neg c94]))
              subst hr103
              refine lv_iload_n hx hb d_1_5_90 rfl (lv_at hl 2 rfl) ?_
              refine lv_lload_n hx hb d_1_5_91 rfl (lv_at hl 3 rfl) ?_
              have ob105 : q_F (0 ≤ x3.toInt) := (by have h := hS72; rw [S_NH_put_J24.eq_1] at h; rw [if_pos c82] at h; rw [if_neg c85] at h; rw [if_neg c87] at h; rw [if_neg c94] at h; exact h.2.1)
              have ob106 : q_F (x3.toInt ≤ 9) := (by have h := hS72; rw [S_NH_put_J24.eq_1] at h; rw [if_pos c82] at h; rw [if_neg c85] at h; rw [if_neg c87] at h; rw [if_neg c94] at h; replace h := q_s2 h; exact h.2.1)
              refine q_last C0 V hT6 (q_ix (x := x3.toInt) rfl (by first | with_reducible exact q_fe ob105 | (have t1 : 0 ≤ x3.toInt := ob105; omega)) (by have t1 : 0 ≤ x3.toInt := ob105; have t2 : x3.toInt ≤ 9 := ob106; omega)) d_1_5_92 (fun H locs w107 hu108 hT6 V => ?_)
              replace hI := n_al' hI (n_s8 g q) hu108 hT6
              replace hT1 := (hu108 _ (by decide)).trans hT1
              replace hT2 := (hu108 _ (by decide)).trans hT2
              replace hT3 := (hu108 _ (by decide)).trans hT3
              replace hT4 := (hu108 _ (by decide)).trans hT4
              replace hT5 := (hu108 _ (by decide)).trans hT5
              replace hT7 := (hu108 _ (by have z0 := yk3; omega)).trans hT7
              replace hT8 := (hu108 _ (by have z0 := yk3; omega)).trans hT8
              replace hT9 := (hu108 _ (by have z0 := yd3; omega)).trans hT9
              replace hT10 := (hu108 _ (by have z0 := yd3; omega)).trans hT10
              replace hT11 := (hu108 _ (by have z0 := yd3; omega)).trans hT11
              replace hF := q_us hF hu108 (by simp)
              obtain ⟨f109, e110⟩ := q_nm (vp_updL t6_0 x3.toNatClampNeg x4 : (Nat → Int64))
              rw [e110] at hT6
              exact q_retX (q_retv C0 V (⟨hI, hF, t1_0, t1_1, t2_0, t3_0, t3_1, t4_0, t5_0, f109, t7_0, t7_1, t8_0, t9_0, t9_1, t10_0, t10_1, t11_0, hT1, hT2, hT3, hT4, hT5, hT6, hT7, hT8, hT9, hT10, hT11, (show 0 ≤ t1_0.toInt from (by first | with_reducible exact (q_fe btt1_0).2 | with_reducible exact (q_fe btt1_0).1 | (have t1 : 0 ≤ t1_0.toInt ∧ t1_0.toInt ≤ 220 := btt1_0; omega))), (show t1_0.toInt ≤ 220 from (by first | with_reducible exact (q_fe btt1_0).2 | with_reducible exact (q_fe btt1_0).1 | (have t1 : 0 ≤ t1_0.toInt ∧ t1_0.toInt ≤ 220 := btt1_0; omega))), (show 0 ≤ t1_1.toInt from (by first | with_reducible exact (q_fe btt1_1).2 | with_reducible exact (q_fe btt1_1).1 | (have t1 : 0 ≤ t1_1.toInt ∧ t1_1.toInt ≤ 1 := btt1_1; omega))), (show t1_1.toInt ≤ 1 from (by first | with_reducible exact (q_fe btt1_1).2 | with_reducible exact (q_fe btt1_1).1 | (have t1 : 0 ≤ t1_1.toInt ∧ t1_1.toInt ≤ 1 := btt1_1; omega))), (show 0 ≤ t3_0.toInt from (by first | with_reducible exact (q_fe btt3_0).2 | with_reducible exact (q_fe btt3_0).1 | (have t1 : 0 ≤ t3_0.toInt ∧ t3_0.toInt ≤ 220 := btt3_0; omega))), (show t3_0.toInt ≤ 220 from (by first | with_reducible exact (q_fe btt3_0).2 | with_reducible exact (q_fe btt3_0).1 | (have t1 : 0 ≤ t3_0.toInt ∧ t3_0.toInt ≤ 220 := btt3_0; omega))), (show 0 ≤ t3_1.toInt from (by first | with_reducible exact (q_fe btt3_1).2 | with_reducible exact (q_fe btt3_1).1 | (have t1 : 0 ≤ t3_1.toInt ∧ t3_1.toInt ≤ 1 := btt3_1; omega))), (show t3_1.toInt ≤ 1 from (by first | with_reducible exact (q_fe btt3_1).2 | with_reducible exact (q_fe btt3_1).1 | (have t1 : 0 ≤ t3_1.toInt ∧ t3_1.toInt ≤ 1 := btt3_1; omega))), (show 0 ≤ t7_0.toInt from (by first | with_reducible exact (q_fe btt7_0).2 | with_reducible exact (q_fe btt7_0).1 | (have t1 : 0 ≤ t7_0.toInt ∧ t7_0.toInt ≤ 68 := btt7_0; omega))), (show t7_0.toInt ≤ 68 from (by first | with_reducible exact (q_fe btt7_0).2 | with_reducible exact (q_fe btt7_0).1 | (have t1 : 0 ≤ t7_0.toInt ∧ t7_0.toInt ≤ 68 := btt7_0; omega))), (show 0 ≤ t7_1.toInt from (by first | with_reducible exact (q_fe btt7_1).2 | with_reducible exact (q_fe btt7_1).1 | (have t1 : 0 ≤ t7_1.toInt ∧ t7_1.toInt ≤ 1 := btt7_1; omega))), (show t7_1.toInt ≤ 1 from (by first | with_reducible exact (q_fe btt7_1).2 | with_reducible exact (q_fe btt7_1).1 | (have t1 : 0 ≤ t7_1.toInt ∧ t7_1.toInt ≤ 1 := btt7_1; omega))), (show 0 ≤ t9_0.toInt + 10000 from (by first | with_reducible exact (q_fe btt9_0).2 | with_reducible exact (q_fe btt9_0).1 | (have t1 : -10000 ≤ t9_0.toInt ∧ t9_0.toInt ≤ 10000 := btt9_0; omega))), (show t9_0.toInt ≤ 10000 from (by first | with_reducible exact (q_fe btt9_0).2 | with_reducible exact (q_fe btt9_0).1 | (have t1 : -10000 ≤ t9_0.toInt ∧ t9_0.toInt ≤ 10000 := btt9_0; omega))), (show 1 ≤ t9_1.toInt from (by first | with_reducible exact (q_fe btt9_1).2 | with_reducible exact (q_fe btt9_1).1 | (have t1 : 1 ≤ t9_1.toInt ∧ t9_1.toInt ≤ 1000 := btt9_1; omega))), (show t9_1.toInt ≤ 1000 from (by first | with_reducible exact (q_fe btt9_1).2 | with_reducible exact (q_fe btt9_1).1 | (have t1 : 1 ≤ t9_1.toInt ∧ t9_1.toInt ≤ 1000 := btt9_1; omega))), (show 0 ≤ t10_0.toInt from (by first | with_reducible exact (q_fe btt10_0).2 | with_reducible exact (q_fe btt10_0).1 | (have t1 : 0 ≤ t10_0.toInt ∧ t10_0.toInt ≤ 108 := btt10_0; omega))), (show t10_0.toInt ≤ 108 from (by first | with_reducible exact (q_fe btt10_0).2 | with_reducible exact (q_fe btt10_0).1 | (have t1 : 0 ≤ t10_0.toInt ∧ t10_0.toInt ≤ 108 := btt10_0; omega))), (show 0 ≤ t10_1.toInt from (by first | with_reducible exact (q_fe btt10_1).2 | with_reducible exact (q_fe btt10_1).1 | (have t1 : 0 ≤ t10_1.toInt ∧ t10_1.toInt ≤ 1 := btt10_1; omega))), (show t10_1.toInt ≤ 1 from (by first | with_reducible exact (q_fe btt10_1).2 | with_reducible exact (q_fe btt10_1).1 | (have t1 : 0 ≤ t10_1.toInt ∧ t10_1.toInt ≤ 1 := btt10_1; omega))), (show x3.toInt ≤ t1_0.toInt + 9 from (by have t1 : 0 ≤ t1_0.toInt ∧ t1_0.toInt ≤ 220 := btt1_0; have t2 : x3.toInt ≤ 9 := ob106; omega)), (show t1_0.toInt ≤ x3.toInt + 220 from (by have t1 : 0 ≤ t1_0.toInt ∧ t1_0.toInt ≤ 220 := btt1_0; have t2 : 0 ≤ x3.toInt := ob105; omega)), (show t1_0.toInt ≤ t1_0.toInt + 3 from (by omega)), (show x3.toInt ≤ t1_1.toInt + 9 from (by have t1 : 0 ≤ t1_1.toInt ∧ t1_1.toInt ≤ 1 := btt1_1; have t2 : x3.toInt ≤ 9 := ob106; omega)), (show t1_1.toInt ≤ x3.toInt + 1 from (by have t1 : 0 ≤ t1_1.toInt ∧ t1_1.toInt ≤ 1 := btt1_1; have t2 : 0 ≤ x3.toInt := ob105; omega)), (show x3.toInt ≤ t3_0.toInt + 9 from (by have t1 : 0 ≤ t3_0.toInt ∧ t3_0.toInt ≤ 220 := btt3_0; have t2 : x3.toInt ≤ 9 := ob106; omega)), (show t3_0.toInt ≤ x3.toInt + 220 from (by have t1 : 0 ≤ t3_0.toInt ∧ t3_0.toInt ≤ 220 := btt3_0; have t2 : 0 ≤ x3.toInt := ob105; omega)), (show x3.toInt ≤ t3_1.toInt + 9 from (by have t1 : 0 ≤ t3_1.toInt ∧ t3_1.toInt ≤ 1 := btt3_1; have t2 : x3.toInt ≤ 9 := ob106; omega)), (show t3_1.toInt ≤ x3.toInt + 1 from (by have t1 : 0 ≤ t3_1.toInt ∧ t3_1.toInt ≤ 1 := btt3_1; have t2 : 0 ≤ x3.toInt := ob105; omega)), (show x3.toInt ≤ t7_0.toInt + 9 from (by have t1 : 0 ≤ t7_0.toInt ∧ t7_0.toInt ≤ 68 := btt7_0; have t2 : x3.toInt ≤ 9 := ob106; omega)), (show t7_0.toInt ≤ x3.toInt + 68 from (by have t1 : 0 ≤ t7_0.toInt ∧ t7_0.toInt ≤ 68 := btt7_0; have t2 : 0 ≤ x3.toInt := ob105; omega)), (show t7_0.toInt ≤ t7_0.toInt + 3 from (by omega)), (show x3.toInt ≤ t7_1.toInt + 9 from (by have t1 : 0 ≤ t7_1.toInt ∧ t7_1.toInt ≤ 1 := btt7_1; have t2 : x3.toInt ≤ 9 := ob106; omega)), (show t7_1.toInt ≤ x3.toInt + 1 from (by have t1 : 0 ≤ t7_1.toInt ∧ t7_1.toInt ≤ 1 := btt7_1; have t2 : 0 ≤ x3.toInt := ob105; omega)), (show x3.toInt ≤ t9_0.toInt + 10009 from (by have t1 : -10000 ≤ t9_0.toInt ∧ t9_0.toInt ≤ 10000 := btt9_0; have t2 : x3.toInt ≤ 9 := ob106; omega)), (show t9_0.toInt ≤ x3.toInt + 10000 from (by have t1 : -10000 ≤ t9_0.toInt ∧ t9_0.toInt ≤ 10000 := btt9_0; have t2 : 0 ≤ x3.toInt := ob105; omega)), (show x3.toInt ≤ t9_1.toInt + 8 from (by have t1 : 1 ≤ t9_1.toInt ∧ t9_1.toInt ≤ 1000 := btt9_1; have t2 : x3.toInt ≤ 9 := ob106; omega)), (show t9_1.toInt ≤ x3.toInt + 1000 from (by have t1 : 1 ≤ t9_1.toInt ∧ t9_1.toInt ≤ 1000 := btt9_1; have t2 : 0 ≤ x3.toInt := ob105; omega)), (show x3.toInt ≤ t10_0.toInt + 9 from (by have t1 : 0 ≤ t10_0.toInt ∧ t10_0.toInt ≤ 108 := btt10_0; have t2 : x3.toInt ≤ 9 := ob106; omega)), (show t10_0.toInt ≤ x3.toInt + 108 from (by have t1 : 0 ≤ t10_0.toInt ∧ t10_0.toInt ≤ 108 := btt10_0; have t2 : 0 ≤ x3.toInt := ob105; omega)), (show x3.toInt ≤ t10_1.toInt + 9 from (by have t1 : 0 ≤ t10_1.toInt ∧ t10_1.toInt ≤ 1 := btt10_1; have t2 : x3.toInt ≤ 9 := ob106; omega)), (show t10_1.toInt ≤ x3.toInt + 1 from (by have t1 : 0 ≤ t10_1.toInt ∧ t10_1.toInt ≤ 1 := btt10_1; have t2 : 0 ≤ x3.toInt := ob105; omega)), (show ((0 : Int32), t1_0, t1_1, t2_0, t3_0, t3_1, t4_0, t5_0, f109, t7_0, t7_1, t8_0, t9_0, t9_1, t10_0, t10_1, t11_0) = (F_NH_put x2 x3 x4 t0_0 t0_1 t1_0 t1_1 t2_0 t3_0 t3_1 t4_0 t5_0 t6_0 t7_0 t7_1 t8_0 t9_0 t9_1 t10_0 t10_1 t11_0) from Eq.trans (by rw [← e110, F_NH_put_J24.eq_1, if_pos c82, if_neg c85, if_neg c87, if_neg c94]) hR71)⟩) d_1_5_93)
          ·
            refine lv_aload_n hx hb d_1_5_49 rfl (lv_at hl 0 rfl) ?_
            have hO112 := n_o0 hI
            refine q_get (ci := 0) (j := 6) (v := .ref (q 9)) C0 V i_NH rfl rfl hO112 (by decide) w_430 rfl d_1_5_50 ?_
            have hO113 := n_o9 hI
            refine q_get (ci := 4) (j := 0) (v := .ref (q 10)) C0 V i_Mil rfl rfl hO113 (by decide) w_112 rfl d_1_5_53 ?_
            refine lv_lload_n hx hb d_1_5_56 rfl (lv_at hl 3 rfl) ?_
            refine q_gov V (q_runV (As := [.long x4]) (rest := []) (d := 2) (mc := 0) (ms := 0) (ci := 2) C0 V rfl LV_NH_164 (X_Big_setLong l D g q ws 10 220 (n_b10 g q) (by decide) x4 hI t1_0 t1_1 hT1 t2_0 hT2  _) rfl rfl hT1 rfl hl.1 rfl (Nat.le_of_ble_eq_true rfl) ⟨by decide, by decide⟩ ⟨Nat.le_of_ble_eq_true rfl, Nat.le_of_ble_eq_true rfl⟩ d_1_5_57) (fun u114 H locs hp115 V => ?_)
            obtain ⟨hI, hZ9⟩ := hp115
            obtain ⟨hu127, hZ9⟩ := hZ9
            obtain ⟨y117, hZ9⟩ := hZ9
            obtain ⟨y118, hZ9⟩ := hZ9
            obtain ⟨f119, hZ9⟩ := hZ9
            obtain ⟨hO116, hZ9⟩ := hZ9
            obtain ⟨hA120, hZ9⟩ := hZ9
            obtain ⟨b121, hZ9⟩ := hZ9
            obtain ⟨b122, hZ9⟩ := hZ9
            obtain ⟨b123, hZ9⟩ := hZ9
            obtain ⟨b124, hZ9⟩ := hZ9
            obtain ⟨-, hE126⟩ := hZ9
            replace hO116 : u114[10]? = (some (q 10, .inr (2, [.ref (q 11), .int y117, .int y118])) : Option (Nat × va_E)) := hO116
            replace hA120 : u114[11]? = (some (q 11, .inl (g 0, (220 : Int32).toNatClampNeg, .inl f119)) : Option (Nat × va_E)) := hA120
            obtain ⟨p128, e129⟩ : ∃ z, z = (F_Big_setLong (220 : Int32) x4 t1_0 t1_1 t2_0) := ⟨_, rfl⟩
            have e130 : y117 = p128.1 := congrArg (fun z => z.1) (hE126.trans e129.symm)
            have e131 : y118 = p128.2.1 := congrArg (fun z => z.2.1) (hE126.trans e129.symm)
            have e132 : f119 = p128.2.2 := congrArg (fun z => z.2.2) (hE126.trans e129.symm)
            replace b121 : q_F (0 ≤ y117.toInt) := b121
            replace b122 : q_F (y117.toInt ≤ 3) := b122
            replace b123 : q_F (0 ≤ y118.toInt) := b123
            replace b124 : q_F (y118.toInt ≤ 1) := b124
            replace hT0 := (hu127 _ (by decide)).trans hT0
            replace hT3 := (hu127 _ (by decide)).trans hT3
            replace hT4 := (hu127 _ (by decide)).trans hT4
            replace hT5 := (hu127 _ (by decide)).trans hT5
            replace hT6 := (hu127 _ (by decide)).trans hT6
            replace hT7 := (hu127 _ (by first | exact (q_nc (q_yk yk3 rfl) (q_nc (q_yk yk3 rfl) List.not_mem_nil)) | (have z0 := yk3; simp only [List.mem_cons, List.not_mem_nil, or_false, not_or]; omega))).trans hT7
            replace hT8 := (hu127 _ (by first | exact (q_nc (q_yk1 yk3 rfl) (q_nc (q_yk1 yk3 rfl) List.not_mem_nil)) | (have z0 := yk3; simp only [List.mem_cons, List.not_mem_nil, or_false, not_or]; omega))).trans hT8
            replace hT9 := (hu127 _ (by first | exact (q_nc (q_yk yd3 rfl) (q_nc (q_yk yd3 rfl) List.not_mem_nil)) | (have z0 := yd3; simp only [List.mem_cons, List.not_mem_nil, or_false, not_or]; omega))).trans hT9
            replace hT10 := (hu127 _ (by first | exact (q_nc (q_yk1 yd3 rfl) (q_nc (q_yk1 yd3 rfl) List.not_mem_nil)) | (have z0 := yd3; simp only [List.mem_cons, List.not_mem_nil, or_false, not_or]; omega))).trans hT10
            replace hT11 := (hu127 _ (by first | exact (q_nc (q_yk2 yd3 rfl) (q_nc (q_yk2 yd3 rfl) List.not_mem_nil)) | (have z0 := yd3; simp only [List.mem_cons, List.not_mem_nil, or_false, not_or]; omega))).trans hT11
            replace hO112 := (hu127 _ (by decide)).trans hO112
            replace hO113 := (hu127 _ (by decide)).trans hO113
            replace hF := q_uc hF hu127 (by first | exact (q_sk (q_mi 2 rfl) (q_sk (q_mi 3 rfl) q_s0)) | simp)
            have hR133 := (show F_NH_put_c57 x2 x3 x4 t0_0 t0_1 t1_0 t1_1 t2_0 t3_0 t3_1 t4_0 t5_0 t6_0 t7_0 t7_1 t8_0 t9_0 t9_1 t10_0 t10_1 t11_0 lx55 p128 = (F_NH_put x2 x3 x4 t0_0 t0_1 t1_0 t1_1 t2_0 t3_0 t3_1 t4_0 t5_0 t6_0 t7_0 t7_1 t8_0 t9_0 t9_1 t10_0 t10_1 t11_0) from Eq.trans (by rw [e129, F_NH_put_J24.eq_1, if_pos c82, if_neg c85, if_pos c87]) hR71)
            have hS134 := (show True ∧ S_NH_put_c57 x2 x3 x4 t0_0 t0_1 t1_0 t1_1 t2_0 t3_0 t3_1 t4_0 t5_0 t6_0 t7_0 t7_1 t8_0 t9_0 t9_1 t10_0 t10_1 t11_0 lx55 p128 from (by rw [e129]; have h := hS72; rw [S_NH_put_J24.eq_1] at h; rw [if_pos c82] at h; rw [if_neg c85] at h; rw [if_pos c87] at h; with_reducible exact h))
            refine lv_aload_n hx hb d_1_5_60 rfl (lv_at hl 0 rfl) ?_
            refine q_get (ci := 0) (j := 7) (v := .ref (q 30)) C0 V i_NH rfl rfl hO112 (by decide) w_431 rfl d_1_5_61 ?_
            refine lv_aload_n hx hb d_1_5_64 rfl (lv_at hl 0 rfl) ?_
            refine q_get (ci := 0) (j := 6) (v := .ref (q 9)) C0 V i_NH rfl rfl hO112 (by decide) w_430 rfl d_1_5_65 ?_
            refine q_get (ci := 4) (j := 0) (v := .ref (q 10)) C0 V i_Mil rfl rfl hO113 (by decide) w_112 rfl d_1_5_68 ?_
            refine lv_lconst (v := 0) hx hb d_1_5_71 (by decide) ?_
            refine lv_aload_n hx hb d_1_5_72 rfl (lv_at hl 0 rfl) ?_
            refine q_get (ci := 0) (j := 3) (v := .ref (q 6)) C0 V i_NH rfl rfl hO112 (by decide) w_427 rfl d_1_5_73 ?_
            refine lv_iload_n hx hb d_1_5_76 rfl (lv_at hl 2 rfl) ?_
            have hX138 := n_fx hI (n_s6 g q)
            have ob139 : q_F (0 ≤ x3.toInt) := (by have h := hS134; rw [S_NH_put_c57.eq_1] at h; exact h.2.1)
            have ob140 : q_F (x3.toInt ≤ 9) := (by have h := hS134; rw [S_NH_put_c57.eq_1] at h; replace h := q_s2 h; exact h.2.1)
            have hj141 : x3.toNatClampNeg < 10 := by have z := q_clI (i := x3) (x := x3.toInt) rfl (by first | with_reducible exact q_fe ob139 | (have t1 : 0 ≤ x3.toInt := ob139; omega)); have t1 : 0 ≤ x3.toInt := ob139; have t2 : x3.toInt ≤ 9 := ob140; omega
            have hq142 := gd3x3 hj141
            refine q_aald (t := 5) (q := q d3) C0 V hX138 rfl (q_ix (x := x3.toInt) rfl (by first | with_reducible exact q_fe ob139 | (have t1 : 0 ≤ x3.toInt := ob139; omega)) (by have t1 : 0 ≤ x3.toInt := ob139; have t2 : x3.toInt ≤ 9 := ob140; omega)) (by rw [hq142]; exact n_fdv hj141) d_1_5_77 ?_
            have ob143 : True ∧ S_DW_settle (220 : Int32) (0 : Int64) (108 : Int32) t3_0 t3_1 t4_0 y117 y118 f119 t9_0 t9_1 t10_0 t10_1 t11_0 := (by rw [e132, e131, e130]; have h := hS134; rw [S_NH_put_c57.eq_1] at h; replace h := q_s2 h; replace h := q_s2 h; with_reducible exact h.2.1)
            refine q_goi V (q_runV (As := [.ref (q 10), .long 0, .ref (q d3)]) (rest := []) (d := 5) (mc := 0) (ms := 0) (ci := 5) C0 V rfl LV_NH_153 (X_DW_settle l D g q u114 10 220 (n_b10 g q) (by decide) d3 108 hBd3 (Or.inr yd3) 0 (by decide) (by decide) (by decide) (by decide) (by decide) (by have z0 := yd3; omega) (by have z0 := yd3; omega) (by have z0 := yd3; omega) (by have z0 := yd3; omega) (by have z0 := yd3; omega) (by have z0 := yd3; omega) (by have z0 := yd3; omega) (by have z0 := yd3; omega) (by have z0 := yd3; omega) (by have z0 := yd3; omega) (by have z0 := yd3; omega) (by have z0 := yd3; omega) hI t3_0 t3_1 hT3 t4_0 hT4 y117 y118 hO116 f119 hA120 t9_0 t9_1 hT9 t10_0 t10_1 hT10 t11_0 hT11 ob143 _) rfl rfl hT0 rfl hl.1 rfl (Nat.le_of_ble_eq_true rfl) ⟨by decide, by decide⟩ ⟨Nat.le_of_ble_eq_true rfl, Nat.le_of_ble_eq_true rfl⟩ d_1_5_78) (fun a146 u144 H locs hp145 V => ?_)
            obtain ⟨hI, hZ9⟩ := hp145
            obtain ⟨hu175, hZ9⟩ := hZ9
            obtain ⟨y148, hZ9⟩ := hZ9
            obtain ⟨y149, hZ9⟩ := hZ9
            obtain ⟨f150, hZ9⟩ := hZ9
            obtain ⟨y153, hZ9⟩ := hZ9
            obtain ⟨y154, hZ9⟩ := hZ9
            obtain ⟨y156, hZ9⟩ := hZ9
            obtain ⟨y157, hZ9⟩ := hZ9
            obtain ⟨f158, hZ9⟩ := hZ9
            obtain ⟨hO147, hZ9⟩ := hZ9
            obtain ⟨hA151, hZ9⟩ := hZ9
            obtain ⟨hO152, hZ9⟩ := hZ9
            obtain ⟨hO155, hZ9⟩ := hZ9
            obtain ⟨hA159, hZ9⟩ := hZ9
            replace hZ9 := hZ9.2.2
            obtain ⟨b162, hZ9⟩ := hZ9
            obtain ⟨b163, hZ9⟩ := hZ9
            obtain ⟨b164, hZ9⟩ := hZ9
            obtain ⟨b165, hZ9⟩ := hZ9
            obtain ⟨b166, hZ9⟩ := hZ9
            obtain ⟨b167, hZ9⟩ := hZ9
            obtain ⟨b168, hZ9⟩ := hZ9
            obtain ⟨b169, hZ9⟩ := hZ9
            obtain ⟨b170, hZ9⟩ := hZ9
            obtain ⟨b171, hZ9⟩ := hZ9
            obtain ⟨b172, hZ9⟩ := hZ9
            obtain ⟨b173, hE174⟩ := hZ9
            replace hO147 : u144[20]? = (some (q 20, .inr (2, [.ref (q 21), .int y148, .int y149])) : Option (Nat × va_E)) := hO147
            replace hA151 : u144[21]? = (some (q 21, .inl (g 0, (220 : Int32).toNatClampNeg, .inl f150)) : Option (Nat × va_E)) := hA151
            replace hO152 : u144[d3]? = (some (q d3, .inr (3, [.ref (q (d3 + 1)), .int y153, .int y154])) : Option (Nat × va_E)) := hO152
            replace hO155 : u144[d3 + 1]? = (some (q (d3 + 1), .inr (2, [.ref (q (d3 + 2)), .int y156, .int y157])) : Option (Nat × va_E)) := hO155
            replace hA159 : u144[d3 + 2]? = (some (q (d3 + 2), .inl (g 0, (108 : Int32).toNatClampNeg, .inl f158)) : Option (Nat × va_E)) := hA159
            obtain ⟨p176, e177⟩ : ∃ z, z = (F_DW_settle (220 : Int32) (0 : Int64) (108 : Int32) t3_0 t3_1 t4_0 y117 y118 f119 t9_0 t9_1 t10_0 t10_1 t11_0) := ⟨_, rfl⟩
            have e178 : a146 = p176.1 := congrArg (fun z => z.1) (hE174.trans e177.symm)
            have e179 : y148 = p176.2.1 := congrArg (fun z => z.2.1) (hE174.trans e177.symm)
            have e180 : y149 = p176.2.2.1 := congrArg (fun z => z.2.2.1) (hE174.trans e177.symm)
            have e181 : f150 = p176.2.2.2.1 := congrArg (fun z => z.2.2.2.1) (hE174.trans e177.symm)
            have e182 : y153 = p176.2.2.2.2.1 := congrArg (fun z => z.2.2.2.2.1) (hE174.trans e177.symm)
            have e183 : y154 = p176.2.2.2.2.2.1 := congrArg (fun z => z.2.2.2.2.2.1) (hE174.trans e177.symm)
            have e184 : y156 = p176.2.2.2.2.2.2.1 := congrArg (fun z => z.2.2.2.2.2.2.1) (hE174.trans e177.symm)
            have e185 : y157 = p176.2.2.2.2.2.2.2.1 := congrArg (fun z => z.2.2.2.2.2.2.2.1) (hE174.trans e177.symm)
            have e186 : f158 = p176.2.2.2.2.2.2.2.2 := congrArg (fun z => z.2.2.2.2.2.2.2.2) (hE174.trans e177.symm)
            replace b162 : q_F (0 ≤ y148.toInt) := b162
            replace b163 : q_F (y148.toInt ≤ 220) := b163
            replace b164 : q_F (0 ≤ y149.toInt) := b164
            replace b165 : q_F (y149.toInt ≤ 1) := b165
            replace b166 : q_F (0 ≤ y153.toInt + 10000) := b166
            replace b167 : q_F (y153.toInt ≤ 10000) := b167
            replace b168 : q_F (1 ≤ y154.toInt) := b168
            replace b169 : q_F (y154.toInt ≤ 1000) := b169
            replace b170 : q_F (0 ≤ y156.toInt) := b170
            replace b171 : q_F (0 ≤ y157.toInt) := b171
            replace b172 : q_F (y157.toInt ≤ 1) := b172
            replace b173 : q_F (y156.toInt ≤ 108) := b173
            replace hO116 := (hu175 _ (by first | exact (q_nc (Nat.ne_of_beq_eq_false rfl) (q_nc (Nat.ne_of_beq_eq_false rfl) (q_nc (q_nk yd3 rfl) (q_nc (q_nk1 yd3 rfl) (q_nc (q_nk2 yd3 rfl) List.not_mem_nil))))) | (have z0 := yd3; simp only [List.mem_cons, List.not_mem_nil, or_false, not_or]; omega))).trans hO116
            replace hA120 := (hu175 _ (by first | exact (q_nc (Nat.ne_of_beq_eq_false rfl) (q_nc (Nat.ne_of_beq_eq_false rfl) (q_nc (q_nk yd3 rfl) (q_nc (q_nk1 yd3 rfl) (q_nc (q_nk2 yd3 rfl) List.not_mem_nil))))) | (have z0 := yd3; simp only [List.mem_cons, List.not_mem_nil, or_false, not_or]; omega))).trans hA120
            replace hT5 := (hu175 _ (by first | exact (q_nc (Nat.ne_of_beq_eq_false rfl) (q_nc (Nat.ne_of_beq_eq_false rfl) (q_nc (q_nk yd3 rfl) (q_nc (q_nk1 yd3 rfl) (q_nc (q_nk2 yd3 rfl) List.not_mem_nil))))) | (have z0 := yd3; simp only [List.mem_cons, List.not_mem_nil, or_false, not_or]; omega))).trans hT5
            replace hT6 := (hu175 _ (by first | exact (q_nc (Nat.ne_of_beq_eq_false rfl) (q_nc (Nat.ne_of_beq_eq_false rfl) (q_nc (q_nk yd3 rfl) (q_nc (q_nk1 yd3 rfl) (q_nc (q_nk2 yd3 rfl) List.not_mem_nil))))) | (have z0 := yd3; simp only [List.mem_cons, List.not_mem_nil, or_false, not_or]; omega))).trans hT6
            replace hT7 := (hu175 _ (q_nc (by have z0 := yk3; omega) (q_nc (by have z0 := yk3; omega) (q_nc (by have z := ne_k3_d3; omega) (q_nc (by have z := ne_k3_d3p1; omega) (q_nc (by have z := ne_k3_d3p2; omega) List.not_mem_nil)))))).trans hT7
            replace hT8 := (hu175 _ (q_nc (by have z0 := yk3; omega) (q_nc (by have z0 := yk3; omega) (q_nc (by have z := ne_d3_k3p1; omega) (q_nc (by have z := ne_k3_d3; omega) (q_nc (by have z := ne_k3_d3p1; omega) List.not_mem_nil)))))).trans hT8
            replace hF := q_uc hF hu175 (by first | exact (q_sk (q_mi 4 rfl) (q_sk (q_mi 5 rfl) (q_sk (q_mi 6 rfl) (q_sk (q_mi 7 rfl) (q_sk (q_mi 8 rfl) q_s0))))) | simp)
            have hR187 := (show F_NH_put_c78 x2 x3 x4 t0_0 t0_1 t1_0 t1_1 t2_0 t3_0 t3_1 t4_0 t5_0 t6_0 t7_0 t7_1 t8_0 t9_0 t9_1 t10_0 t10_1 t11_0 lx55 p128 y117 y118 f119 p176 = (F_NH_put x2 x3 x4 t0_0 t0_1 t1_0 t1_1 t2_0 t3_0 t3_1 t4_0 t5_0 t6_0 t7_0 t7_1 t8_0 t9_0 t9_1 t10_0 t10_1 t11_0) from Eq.trans (by rw [e177, e132, e131, e130, F_NH_put_c57.eq_1]) hR133)
            have hS188 := (show True ∧ S_NH_put_c78 x2 x3 x4 t0_0 t0_1 t1_0 t1_1 t2_0 t3_0 t3_1 t4_0 t5_0 t6_0 t7_0 t7_1 t8_0 t9_0 t9_1 t10_0 t10_1 t11_0 lx55 p128 y117 y118 f119 p176 from (by rw [e177, e132, e131, e130]; have h := hS134; rw [S_NH_put_c57.eq_1] at h; replace h := q_s2 h; replace h := q_s2 h; replace h := q_s2 h; with_reducible exact h))
            refine lv_pop hx hb d_1_5_81 rfl ?_
            refine lv_goto (tgt := 93) hx hb d_1_5_82 (by decide) ?_
            exact q_retX (q_retv C0 V (⟨hI, hF, y117, y118, f119, y148, y149, f150, t5_0, t6_0, t7_0, t7_1, t8_0, y153, y154, y156, y157, f158, hO116, hA120, hO147, hA151, hT5, hT6, hT7, hT8, hO152, hO155, hA159, (show 0 ≤ y117.toInt from (by first | with_reducible exact q_fe b121 | (have t1 : 0 ≤ y117.toInt := b121; omega))), (show y117.toInt ≤ 220 from (by first | with_reducible exact q_fe b122 | (have t1 : y117.toInt ≤ 3 := b122; omega))), (show 0 ≤ y118.toInt from (by first | with_reducible exact q_fe b123 | (have t1 : 0 ≤ y118.toInt := b123; omega))), (show y118.toInt ≤ 1 from (by first | with_reducible exact q_fe b124 | (have t1 : y118.toInt ≤ 1 := b124; omega))), (show 0 ≤ y148.toInt from (by first | with_reducible exact q_fe b162 | (have t1 : 0 ≤ y148.toInt := b162; omega))), (show y148.toInt ≤ 220 from (by first | with_reducible exact q_fe b163 | (have t1 : y148.toInt ≤ 220 := b163; omega))), (show 0 ≤ y149.toInt from (by first | with_reducible exact q_fe b164 | (have t1 : 0 ≤ y149.toInt := b164; omega))), (show y149.toInt ≤ 1 from (by first | with_reducible exact q_fe b165 | (have t1 : y149.toInt ≤ 1 := b165; omega))), (show 0 ≤ t7_0.toInt from (by first | with_reducible exact (q_fe btt7_0).2 | with_reducible exact (q_fe btt7_0).1 | (have t1 : 0 ≤ t7_0.toInt ∧ t7_0.toInt ≤ 68 := btt7_0; omega))), (show t7_0.toInt ≤ 68 from (by first | with_reducible exact (q_fe btt7_0).2 | with_reducible exact (q_fe btt7_0).1 | (have t1 : 0 ≤ t7_0.toInt ∧ t7_0.toInt ≤ 68 := btt7_0; omega))), (show 0 ≤ t7_1.toInt from (by first | with_reducible exact (q_fe btt7_1).2 | with_reducible exact (q_fe btt7_1).1 | (have t1 : 0 ≤ t7_1.toInt ∧ t7_1.toInt ≤ 1 := btt7_1; omega))), (show t7_1.toInt ≤ 1 from (by first | with_reducible exact (q_fe btt7_1).2 | with_reducible exact (q_fe btt7_1).1 | (have t1 : 0 ≤ t7_1.toInt ∧ t7_1.toInt ≤ 1 := btt7_1; omega))), (show 0 ≤ y153.toInt + 10000 from (by first | with_reducible exact q_fe b166 | (have t1 : 0 ≤ y153.toInt + 10000 := b166; omega))), (show y153.toInt ≤ 10000 from (by first | with_reducible exact q_fe b167 | (have t1 : y153.toInt ≤ 10000 := b167; omega))), (show 1 ≤ y154.toInt from (by first | with_reducible exact q_fe b168 | (have t1 : 1 ≤ y154.toInt := b168; omega))), (show y154.toInt ≤ 1000 from (by first | with_reducible exact q_fe b169 | (have t1 : y154.toInt ≤ 1000 := b169; omega))), (show 0 ≤ y156.toInt from (by first | with_reducible exact q_fe b170 | (have t1 : 0 ≤ y156.toInt := b170; omega))), (show y156.toInt ≤ 108 from (by first | with_reducible exact q_fe b173 | (have t1 : y156.toInt ≤ 108 := b173; omega))), (show 0 ≤ y157.toInt from (by first | with_reducible exact q_fe b171 | (have t1 : 0 ≤ y157.toInt := b171; omega))), (show y157.toInt ≤ 1 from (by first | with_reducible exact q_fe b172 | (have t1 : y157.toInt ≤ 1 := b172; omega))), (show x3.toInt ≤ y117.toInt + 9 from (by have t1 : 0 ≤ y117.toInt := b121; have t2 : x3.toInt ≤ 9 := ob140; omega)), (show y117.toInt ≤ x3.toInt + 220 from (by have t1 : y117.toInt ≤ 3 := b122; have t2 : 0 ≤ x3.toInt := ob139; omega)), (show y117.toInt ≤ t1_0.toInt + 3 from (by have t1 : 0 ≤ t1_0.toInt ∧ t1_0.toInt ≤ 220 := btt1_0; have t2 : y117.toInt ≤ 3 := b122; omega)), (show x3.toInt ≤ y118.toInt + 9 from (by have t1 : 0 ≤ y118.toInt := b123; have t2 : x3.toInt ≤ 9 := ob140; omega)), (show y118.toInt ≤ x3.toInt + 1 from (by have t1 : y118.toInt ≤ 1 := b124; have t2 : 0 ≤ x3.toInt := ob139; omega)), (show x3.toInt ≤ y148.toInt + 9 from (by have t1 : x3.toInt ≤ 9 := ob140; have t2 : 0 ≤ y148.toInt := b162; omega)), (show y148.toInt ≤ x3.toInt + 220 from (by have t1 : 0 ≤ x3.toInt := ob139; have t2 : y148.toInt ≤ 220 := b163; omega)), (show x3.toInt ≤ y149.toInt + 9 from (by have t1 : x3.toInt ≤ 9 := ob140; have t2 : 0 ≤ y149.toInt := b164; omega)), (show y149.toInt ≤ x3.toInt + 1 from (by have t1 : 0 ≤ x3.toInt := ob139; have t2 : y149.toInt ≤ 1 := b165; omega)), (show x3.toInt ≤ t7_0.toInt + 9 from (by have t1 : 0 ≤ t7_0.toInt ∧ t7_0.toInt ≤ 68 := btt7_0; have t2 : x3.toInt ≤ 9 := ob140; omega)), (show t7_0.toInt ≤ x3.toInt + 68 from (by have t1 : 0 ≤ t7_0.toInt ∧ t7_0.toInt ≤ 68 := btt7_0; have t2 : 0 ≤ x3.toInt := ob139; omega)), (show t7_0.toInt ≤ t7_0.toInt + 3 from (by omega)), (show x3.toInt ≤ t7_1.toInt + 9 from (by have t1 : 0 ≤ t7_1.toInt ∧ t7_1.toInt ≤ 1 := btt7_1; have t2 : x3.toInt ≤ 9 := ob140; omega)), (show t7_1.toInt ≤ x3.toInt + 1 from (by have t1 : 0 ≤ t7_1.toInt ∧ t7_1.toInt ≤ 1 := btt7_1; have t2 : 0 ≤ x3.toInt := ob139; omega)), (show x3.toInt ≤ y153.toInt + 10009 from (by have t1 : x3.toInt ≤ 9 := ob140; have t2 : 0 ≤ y153.toInt + 10000 := b166; omega)), (show y153.toInt ≤ x3.toInt + 10000 from (by have t1 : 0 ≤ x3.toInt := ob139; have t2 : y153.toInt ≤ 10000 := b167; omega)), (show x3.toInt ≤ y154.toInt + 8 from (by have t1 : x3.toInt ≤ 9 := ob140; have t2 : 1 ≤ y154.toInt := b168; omega)), (show y154.toInt ≤ x3.toInt + 1000 from (by have t1 : 0 ≤ x3.toInt := ob139; have t2 : y154.toInt ≤ 1000 := b169; omega)), (show x3.toInt ≤ y156.toInt + 9 from (by have t1 : x3.toInt ≤ 9 := ob140; have t2 : 0 ≤ y156.toInt := b170; omega)), (show y156.toInt ≤ x3.toInt + 108 from (by have t1 : 0 ≤ x3.toInt := ob139; have t2 : y156.toInt ≤ 108 := b173; omega)), (show x3.toInt ≤ y157.toInt + 9 from (by have t1 : x3.toInt ≤ 9 := ob140; have t2 : 0 ≤ y157.toInt := b171; omega)), (show y157.toInt ≤ x3.toInt + 1 from (by have t1 : 0 ≤ x3.toInt := ob139; have t2 : y157.toInt ≤ 1 := b172; omega)), (show ((0 : Int32), y117, y118, f119, y148, y149, f150, t5_0, t6_0, t7_0, t7_1, t8_0, y153, y154, y156, y157, f158) = (F_NH_put x2 x3 x4 t0_0 t0_1 t1_0 t1_1 t2_0 t3_0 t3_1 t4_0 t5_0 t6_0 t7_0 t7_1 t8_0 t9_0 t9_1 t10_0 t10_1 t11_0) from Eq.trans (by rw [e186, e185, e184, e183, e182, e181, e180, e179, F_NH_put_c78.eq_1]) hR187)⟩) d_1_5_93)
        ·
          refine lv_aload_n hx hb d_1_5_31 rfl (lv_at hl 0 rfl) ?_
          have hO193 := n_o0 hI
          refine q_get (ci := 0) (j := 2) (v := .ref (q 5)) C0 V i_NH rfl rfl hO193 (by decide) w_426 rfl d_1_5_32 ?_
          refine lv_iload_n hx hb d_1_5_35 rfl (lv_at hl 2 rfl) ?_
          have hX194 := n_fx hI (n_s5 g q)
          have ob195 : q_F (0 ≤ x3.toInt) := (by have h := hS72; rw [S_NH_put_J24.eq_1] at h; rw [if_pos c82] at h; rw [if_pos c85] at h; exact h.2.1)
          have ob196 : q_F (x3.toInt ≤ 9) := (by have h := hS72; rw [S_NH_put_J24.eq_1] at h; rw [if_pos c82] at h; rw [if_pos c85] at h; replace h := q_s2 h; exact h.2.1)
          have hj197 : x3.toNatClampNeg < 10 := by have z := q_clI (i := x3) (x := x3.toInt) rfl (by first | with_reducible exact q_fe ob195 | (have t1 : 0 ≤ x3.toInt := ob195; omega)); have t1 : 0 ≤ x3.toInt := ob195; have t2 : x3.toInt ≤ 9 := ob196; omega
          have hq198 := gk3x3 hj197
          refine q_aald (t := 4) (q := q k3) C0 V hX194 rfl (q_ix (x := x3.toInt) rfl (by first | with_reducible exact q_fe ob195 | (have t1 : 0 ≤ x3.toInt := ob195; omega)) (by have t1 : 0 ≤ x3.toInt := ob195; have t2 : x3.toInt ≤ 9 := ob196; omega)) (by rw [hq198]; exact n_fwv hj197) d_1_5_36 ?_
          refine lv_lload_n hx hb d_1_5_37 rfl (lv_at hl 3 rfl) ?_
          refine q_gov V (q_runV (As := [.long x4]) (rest := []) (d := 2) (mc := 0) (ms := 0) (ci := 2) C0 V rfl LV_NH_164 (X_Big_setLong l D g q ws k3 68 hBk3 (Or.inr yk3) x4 hI t7_0 t7_1 hT7 t8_0 hT8  _) rfl rfl hT7 rfl hl.1 rfl (Nat.le_of_ble_eq_true rfl) ⟨by decide, by decide⟩ ⟨Nat.le_of_ble_eq_true rfl, Nat.le_of_ble_eq_true rfl⟩ d_1_5_38) (fun u199 H locs hp200 V => ?_)
          obtain ⟨hI, hZ9⟩ := hp200
          obtain ⟨hu212, hZ9⟩ := hZ9
          obtain ⟨y202, hZ9⟩ := hZ9
          obtain ⟨y203, hZ9⟩ := hZ9
          obtain ⟨f204, hZ9⟩ := hZ9
          obtain ⟨hO201, hZ9⟩ := hZ9
          obtain ⟨hA205, hZ9⟩ := hZ9
          obtain ⟨b206, hZ9⟩ := hZ9
          obtain ⟨b207, hZ9⟩ := hZ9
          obtain ⟨b208, hZ9⟩ := hZ9
          obtain ⟨b209, hZ9⟩ := hZ9
          obtain ⟨-, hE211⟩ := hZ9
          replace hO201 : u199[k3]? = (some (q k3, .inr (2, [.ref (q (k3 + 1)), .int y202, .int y203])) : Option (Nat × va_E)) := hO201
          replace hA205 : u199[k3 + 1]? = (some (q (k3 + 1), .inl (g 0, (68 : Int32).toNatClampNeg, .inl f204)) : Option (Nat × va_E)) := hA205
          obtain ⟨p213, e214⟩ : ∃ z, z = (F_Big_setLong (68 : Int32) x4 t7_0 t7_1 t8_0) := ⟨_, rfl⟩
          have e215 : y202 = p213.1 := congrArg (fun z => z.1) (hE211.trans e214.symm)
          have e216 : y203 = p213.2.1 := congrArg (fun z => z.2.1) (hE211.trans e214.symm)
          have e217 : f204 = p213.2.2 := congrArg (fun z => z.2.2) (hE211.trans e214.symm)
          replace b206 : q_F (0 ≤ y202.toInt) := b206
          replace b207 : q_F (y202.toInt ≤ 3) := b207
          replace b208 : q_F (0 ≤ y203.toInt) := b208
          replace b209 : q_F (y203.toInt ≤ 1) := b209
          replace hT1 := (hu212 _ (by first | exact (q_nc (q_nk yk3 rfl) (q_nc (q_nk1 yk3 rfl) List.not_mem_nil)) | (have z0 := yk3; simp only [List.mem_cons, List.not_mem_nil, or_false, not_or]; omega))).trans hT1
          replace hT2 := (hu212 _ (by first | exact (q_nc (q_nk yk3 rfl) (q_nc (q_nk1 yk3 rfl) List.not_mem_nil)) | (have z0 := yk3; simp only [List.mem_cons, List.not_mem_nil, or_false, not_or]; omega))).trans hT2
          replace hT3 := (hu212 _ (by first | exact (q_nc (q_nk yk3 rfl) (q_nc (q_nk1 yk3 rfl) List.not_mem_nil)) | (have z0 := yk3; simp only [List.mem_cons, List.not_mem_nil, or_false, not_or]; omega))).trans hT3
          replace hT4 := (hu212 _ (by first | exact (q_nc (q_nk yk3 rfl) (q_nc (q_nk1 yk3 rfl) List.not_mem_nil)) | (have z0 := yk3; simp only [List.mem_cons, List.not_mem_nil, or_false, not_or]; omega))).trans hT4
          replace hT5 := (hu212 _ (by first | exact (q_nc (q_nk yk3 rfl) (q_nc (q_nk1 yk3 rfl) List.not_mem_nil)) | (have z0 := yk3; simp only [List.mem_cons, List.not_mem_nil, or_false, not_or]; omega))).trans hT5
          replace hT6 := (hu212 _ (by first | exact (q_nc (q_nk yk3 rfl) (q_nc (q_nk1 yk3 rfl) List.not_mem_nil)) | (have z0 := yk3; simp only [List.mem_cons, List.not_mem_nil, or_false, not_or]; omega))).trans hT6
          replace hT9 := (hu212 _ (q_nc (by have z := ne_k3_d3; omega) (q_nc (by have z := ne_d3_k3p1; omega) List.not_mem_nil))).trans hT9
          replace hT10 := (hu212 _ (q_nc (by have z := ne_k3_d3p1; omega) (q_nc (by have z := ne_k3_d3; omega) List.not_mem_nil))).trans hT10
          replace hT11 := (hu212 _ (q_nc (by have z := ne_k3_d3p2; omega) (q_nc (by have z := ne_k3_d3p1; omega) List.not_mem_nil))).trans hT11
          replace hF := q_uc hF hu212 (by first | exact (q_sk (q_mi 9 rfl) (q_sk (q_mi 10 rfl) q_s0)) | simp)
          have hR218 := (show F_NH_put_c38 x2 x3 x4 t0_0 t0_1 t1_0 t1_1 t2_0 t3_0 t3_1 t4_0 t5_0 t6_0 t7_0 t7_1 t8_0 t9_0 t9_1 t10_0 t10_1 t11_0 lx55 p213 = (F_NH_put x2 x3 x4 t0_0 t0_1 t1_0 t1_1 t2_0 t3_0 t3_1 t4_0 t5_0 t6_0 t7_0 t7_1 t8_0 t9_0 t9_1 t10_0 t10_1 t11_0) from Eq.trans (by rw [e214, F_NH_put_J24.eq_1, if_pos c82, if_pos c85]) hR71)
          have hS219 := (show True ∧ S_NH_put_c38 x2 x3 x4 t0_0 t0_1 t1_0 t1_1 t2_0 t3_0 t3_1 t4_0 t5_0 t6_0 t7_0 t7_1 t8_0 t9_0 t9_1 t10_0 t10_1 t11_0 lx55 p213 from (by rw [e214]; have h := hS72; rw [S_NH_put_J24.eq_1] at h; rw [if_pos c82] at h; rw [if_pos c85] at h; replace h := q_s2 h; replace h := q_s2 h; with_reducible exact h))
          refine lv_goto (tgt := 93) hx hb d_1_5_41 (by decide) ?_
          exact q_retX (q_retv C0 V (⟨hI, hF, t1_0, t1_1, t2_0, t3_0, t3_1, t4_0, t5_0, t6_0, y202, y203, f204, t9_0, t9_1, t10_0, t10_1, t11_0, hT1, hT2, hT3, hT4, hT5, hT6, hO201, hA205, hT9, hT10, hT11, (show 0 ≤ t1_0.toInt from (by first | with_reducible exact (q_fe btt1_0).2 | with_reducible exact (q_fe btt1_0).1 | (have t1 : 0 ≤ t1_0.toInt ∧ t1_0.toInt ≤ 220 := btt1_0; omega))), (show t1_0.toInt ≤ 220 from (by first | with_reducible exact (q_fe btt1_0).2 | with_reducible exact (q_fe btt1_0).1 | (have t1 : 0 ≤ t1_0.toInt ∧ t1_0.toInt ≤ 220 := btt1_0; omega))), (show 0 ≤ t1_1.toInt from (by first | with_reducible exact (q_fe btt1_1).2 | with_reducible exact (q_fe btt1_1).1 | (have t1 : 0 ≤ t1_1.toInt ∧ t1_1.toInt ≤ 1 := btt1_1; omega))), (show t1_1.toInt ≤ 1 from (by first | with_reducible exact (q_fe btt1_1).2 | with_reducible exact (q_fe btt1_1).1 | (have t1 : 0 ≤ t1_1.toInt ∧ t1_1.toInt ≤ 1 := btt1_1; omega))), (show 0 ≤ t3_0.toInt from (by first | with_reducible exact (q_fe btt3_0).2 | with_reducible exact (q_fe btt3_0).1 | (have t1 : 0 ≤ t3_0.toInt ∧ t3_0.toInt ≤ 220 := btt3_0; omega))), (show t3_0.toInt ≤ 220 from (by first | with_reducible exact (q_fe btt3_0).2 | with_reducible exact (q_fe btt3_0).1 | (have t1 : 0 ≤ t3_0.toInt ∧ t3_0.toInt ≤ 220 := btt3_0; omega))), (show 0 ≤ t3_1.toInt from (by first | with_reducible exact (q_fe btt3_1).2 | with_reducible exact (q_fe btt3_1).1 | (have t1 : 0 ≤ t3_1.toInt ∧ t3_1.toInt ≤ 1 := btt3_1; omega))), (show t3_1.toInt ≤ 1 from (by first | with_reducible exact (q_fe btt3_1).2 | with_reducible exact (q_fe btt3_1).1 | (have t1 : 0 ≤ t3_1.toInt ∧ t3_1.toInt ≤ 1 := btt3_1; omega))), (show 0 ≤ y202.toInt from (by first | with_reducible exact q_fe b206 | (have t1 : 0 ≤ y202.toInt := b206; omega))), (show y202.toInt ≤ 68 from (by first | with_reducible exact q_fe b207 | (have t1 : y202.toInt ≤ 3 := b207; omega))), (show 0 ≤ y203.toInt from (by first | with_reducible exact q_fe b208 | (have t1 : 0 ≤ y203.toInt := b208; omega))), (show y203.toInt ≤ 1 from (by first | with_reducible exact q_fe b209 | (have t1 : y203.toInt ≤ 1 := b209; omega))), (show 0 ≤ t9_0.toInt + 10000 from (by first | with_reducible exact (q_fe btt9_0).2 | with_reducible exact (q_fe btt9_0).1 | (have t1 : -10000 ≤ t9_0.toInt ∧ t9_0.toInt ≤ 10000 := btt9_0; omega))), (show t9_0.toInt ≤ 10000 from (by first | with_reducible exact (q_fe btt9_0).2 | with_reducible exact (q_fe btt9_0).1 | (have t1 : -10000 ≤ t9_0.toInt ∧ t9_0.toInt ≤ 10000 := btt9_0; omega))), (show 1 ≤ t9_1.toInt from (by first | with_reducible exact (q_fe btt9_1).2 | with_reducible exact (q_fe btt9_1).1 | (have t1 : 1 ≤ t9_1.toInt ∧ t9_1.toInt ≤ 1000 := btt9_1; omega))), (show t9_1.toInt ≤ 1000 from (by first | with_reducible exact (q_fe btt9_1).2 | with_reducible exact (q_fe btt9_1).1 | (have t1 : 1 ≤ t9_1.toInt ∧ t9_1.toInt ≤ 1000 := btt9_1; omega))), (show 0 ≤ t10_0.toInt from (by first | with_reducible exact (q_fe btt10_0).2 | with_reducible exact (q_fe btt10_0).1 | (have t1 : 0 ≤ t10_0.toInt ∧ t10_0.toInt ≤ 108 := btt10_0; omega))), (show t10_0.toInt ≤ 108 from (by first | with_reducible exact (q_fe btt10_0).2 | with_reducible exact (q_fe btt10_0).1 | (have t1 : 0 ≤ t10_0.toInt ∧ t10_0.toInt ≤ 108 := btt10_0; omega))), (show 0 ≤ t10_1.toInt from (by first | with_reducible exact (q_fe btt10_1).2 | with_reducible exact (q_fe btt10_1).1 | (have t1 : 0 ≤ t10_1.toInt ∧ t10_1.toInt ≤ 1 := btt10_1; omega))), (show t10_1.toInt ≤ 1 from (by first | with_reducible exact (q_fe btt10_1).2 | with_reducible exact (q_fe btt10_1).1 | (have t1 : 0 ≤ t10_1.toInt ∧ t10_1.toInt ≤ 1 := btt10_1; omega))), (show x3.toInt ≤ t1_0.toInt + 9 from (by have t1 : 0 ≤ t1_0.toInt ∧ t1_0.toInt ≤ 220 := btt1_0; have t2 : x3.toInt ≤ 9 := ob196; omega)), (show t1_0.toInt ≤ x3.toInt + 220 from (by have t1 : 0 ≤ t1_0.toInt ∧ t1_0.toInt ≤ 220 := btt1_0; have t2 : 0 ≤ x3.toInt := ob195; omega)), (show t1_0.toInt ≤ t1_0.toInt + 3 from (by omega)), (show x3.toInt ≤ t1_1.toInt + 9 from (by have t1 : 0 ≤ t1_1.toInt ∧ t1_1.toInt ≤ 1 := btt1_1; have t2 : x3.toInt ≤ 9 := ob196; omega)), (show t1_1.toInt ≤ x3.toInt + 1 from (by have t1 : 0 ≤ t1_1.toInt ∧ t1_1.toInt ≤ 1 := btt1_1; have t2 : 0 ≤ x3.toInt := ob195; omega)), (show x3.toInt ≤ t3_0.toInt + 9 from (by have t1 : 0 ≤ t3_0.toInt ∧ t3_0.toInt ≤ 220 := btt3_0; have t2 : x3.toInt ≤ 9 := ob196; omega)), (show t3_0.toInt ≤ x3.toInt + 220 from (by have t1 : 0 ≤ t3_0.toInt ∧ t3_0.toInt ≤ 220 := btt3_0; have t2 : 0 ≤ x3.toInt := ob195; omega)), (show x3.toInt ≤ t3_1.toInt + 9 from (by have t1 : 0 ≤ t3_1.toInt ∧ t3_1.toInt ≤ 1 := btt3_1; have t2 : x3.toInt ≤ 9 := ob196; omega)), (show t3_1.toInt ≤ x3.toInt + 1 from (by have t1 : 0 ≤ t3_1.toInt ∧ t3_1.toInt ≤ 1 := btt3_1; have t2 : 0 ≤ x3.toInt := ob195; omega)), (show x3.toInt ≤ y202.toInt + 9 from (by have t1 : x3.toInt ≤ 9 := ob196; have t2 : 0 ≤ y202.toInt := b206; omega)), (show y202.toInt ≤ x3.toInt + 68 from (by have t1 : 0 ≤ x3.toInt := ob195; have t2 : y202.toInt ≤ 3 := b207; omega)), (show y202.toInt ≤ t7_0.toInt + 3 from (by have t1 : 0 ≤ t7_0.toInt ∧ t7_0.toInt ≤ 68 := btt7_0; have t2 : y202.toInt ≤ 3 := b207; omega)), (show x3.toInt ≤ y203.toInt + 9 from (by have t1 : x3.toInt ≤ 9 := ob196; have t2 : 0 ≤ y203.toInt := b208; omega)), (show y203.toInt ≤ x3.toInt + 1 from (by have t1 : 0 ≤ x3.toInt := ob195; have t2 : y203.toInt ≤ 1 := b209; omega)), (show x3.toInt ≤ t9_0.toInt + 10009 from (by have t1 : -10000 ≤ t9_0.toInt ∧ t9_0.toInt ≤ 10000 := btt9_0; have t2 : x3.toInt ≤ 9 := ob196; omega)), (show t9_0.toInt ≤ x3.toInt + 10000 from (by have t1 : -10000 ≤ t9_0.toInt ∧ t9_0.toInt ≤ 10000 := btt9_0; have t2 : 0 ≤ x3.toInt := ob195; omega)), (show x3.toInt ≤ t9_1.toInt + 8 from (by have t1 : 1 ≤ t9_1.toInt ∧ t9_1.toInt ≤ 1000 := btt9_1; have t2 : x3.toInt ≤ 9 := ob196; omega)), (show t9_1.toInt ≤ x3.toInt + 1000 from (by have t1 : 1 ≤ t9_1.toInt ∧ t9_1.toInt ≤ 1000 := btt9_1; have t2 : 0 ≤ x3.toInt := ob195; omega)), (show x3.toInt ≤ t10_0.toInt + 9 from (by have t1 : 0 ≤ t10_0.toInt ∧ t10_0.toInt ≤ 108 := btt10_0; have t2 : x3.toInt ≤ 9 := ob196; omega)), (show t10_0.toInt ≤ x3.toInt + 108 from (by have t1 : 0 ≤ t10_0.toInt ∧ t10_0.toInt ≤ 108 := btt10_0; have t2 : 0 ≤ x3.toInt := ob195; omega)), (show x3.toInt ≤ t10_1.toInt + 9 from (by have t1 : 0 ≤ t10_1.toInt ∧ t10_1.toInt ≤ 1 := btt10_1; have t2 : x3.toInt ≤ 9 := ob196; omega)), (show t10_1.toInt ≤ x3.toInt + 1 from (by have t1 : 0 ≤ t10_1.toInt ∧ t10_1.toInt ≤ 1 := btt10_1; have t2 : 0 ≤ x3.toInt := ob195; omega)), (show ((0 : Int32), t1_0, t1_1, t2_0, t3_0, t3_1, t4_0, t5_0, t6_0, y202, y203, f204, t9_0, t9_1, t10_0, t10_1, t11_0) = (F_NH_put x2 x3 x4 t0_0 t0_1 t1_0 t1_1 t2_0 t3_0 t3_1 t4_0 t5_0 t6_0 t7_0 t7_1 t8_0 t9_0 t9_1 t10_0 t10_1 t11_0) from Eq.trans (by rw [e217, e216, e215, F_NH_put_c38.eq_1]) hR218)⟩) d_1_5_93)
    ·
      intro J68
      refine q_join (X := Unit) (fun z H locs ls _ => q_Wd D g (va_A ws sz) s ws H locs ∧ lv_has ls 5 [(0, .ref (q 0)), (1, .int x2), (2, .int x3), (3, .long x4)] ∧ F_NH_put_J19 x2 x3 x4 t0_0 t0_1 t1_0 t1_1 t2_0 t3_0 t3_1 t4_0 t5_0 t6_0 t7_0 t7_1 t8_0 t9_0 t9_1 t10_0 t10_1 t11_0 = (F_NH_put x2 x3 x4 t0_0 t0_1 t1_0 t1_1 t2_0 t3_0 t3_1 t4_0 t5_0 t6_0 t7_0 t7_1 t8_0 t9_0 t9_1 t10_0 t10_1 t11_0) ∧ True ∧ S_NH_put_J19 x2 x3 x4 t0_0 t0_1 t1_0 t1_1 t2_0 t3_0 t3_1 t4_0 t5_0 t6_0 t7_0 t7_1 t8_0 t9_0 t9_1 t10_0 t10_1 t11_0) (fun z => []) 19 1 6 ?_ ?_
      ·
        rintro _ H locs ls _ ⟨V, hl, hR236, hS237⟩
        replace hl : lv_has ls 5 [(0, .ref (q 0)), (1, .int x2), (2, .int x3), (3, .long x4)] := hl
        refine lv_iconst (v := 1) hx hb d_1_5_19 (by decide) ?_
        refine lv_goto (tgt := 24) hx hb d_1_5_20 (by decide) ?_
        exact J68 ((1 : Int32)) _ _ _ ws ⟨(show q_F (0 ≤ 1) from (show 0 ≤ 1 from by omega)), (show q_F (1 ≤ 1) from (show 1 ≤ 1 from by omega)), V, q_lw hl (q_lw1 0 rfl (q_lw1 1 rfl (q_lw1 2 rfl (q_lw1 3 rfl q_lw0)))), (show F_NH_put_J24 x2 x3 x4 t0_0 t0_1 t1_0 t1_1 t2_0 t3_0 t3_1 t4_0 t5_0 t6_0 t7_0 t7_1 t8_0 t9_0 t9_1 t10_0 t10_1 t11_0 1 = (F_NH_put x2 x3 x4 t0_0 t0_1 t1_0 t1_1 t2_0 t3_0 t3_1 t4_0 t5_0 t6_0 t7_0 t7_1 t8_0 t9_0 t9_1 t10_0 t10_1 t11_0) from Eq.trans (by rw [F_NH_put_J19.eq_1]) hR236), (show True ∧ S_NH_put_J24 x2 x3 x4 t0_0 t0_1 t1_0 t1_1 t2_0 t3_0 t3_1 t4_0 t5_0 t6_0 t7_0 t7_1 t8_0 t9_0 t9_1 t10_0 t10_1 t11_0 1 from (by have h := hS237; rw [S_NH_put_J19.eq_1] at h; with_reducible exact h))⟩
      ·
        intro J235
        refine lv_icmp_ne (tgt := 19) hx hb d_1_5_7 (by decide) (fun c241 => ?_) (fun c241 => ?_)
        ·
          exact J235 (()) _ _ _ ws ⟨V, q_lw hl (q_lw1 0 rfl (q_lw1 1 rfl (q_lw1 2 rfl (q_lw1 3 rfl q_lw0)))), (show F_NH_put_J19 x2 x3 x4 t0_0 t0_1 t1_0 t1_1 t2_0 t3_0 t3_1 t4_0 t5_0 t6_0 t7_0 t7_1 t8_0 t9_0 t9_1 t10_0 t10_1 t11_0 = (F_NH_put x2 x3 x4 t0_0 t0_1 t1_0 t1_1 t2_0 t3_0 t3_1 t4_0 t5_0 t6_0 t7_0 t7_1 t8_0 t9_0 t9_1 t10_0 t10_1 t11_0) from (by rw [F_NH_put.eq_1, if_pos c52, if_neg c241])), (show True ∧ S_NH_put_J19 x2 x3 x4 t0_0 t0_1 t1_0 t1_1 t2_0 t3_0 t3_1 t4_0 t5_0 t6_0 t7_0 t7_1 t8_0 t9_0 t9_1 t10_0 t10_1 t11_0 from (by have h := hS; rw [S_NH_put.eq_1] at h; rw [if_pos c52] at h; rw [if_neg c241] at h; with_reducible exact h))⟩
        ·
          refine lv_lload_n hx hb d_1_5_10 rfl (lv_at hl 3 rfl) ?_
          refine lv_bipush (v := 32) hx hb d_1_5_11 (by decide) ?_
          refine lv_lushr hx hb d_1_5_13 rfl ?_
          obtain ⟨j244, e245⟩ := q_nm ((x4.toUInt64 >>> ((32 : Int32).toInt64.toUInt64 &&& Int64.toUInt64 63)).toInt64 : Int64)
          refine q_tl (v := j244) e245 ?_
          refine lv_lconst (v := 0) hx hb d_1_5_14 (by decide) ?_
          refine W.lcmp hx hb d_1_5_15 ?_
          obtain ⟨a247, e248⟩ := q_nm (lg_cmp j244 0 : Int32)
          refine q_ti (v := a247) e248 ?_
          refine lv_if_ne (tgt := 23) hx hb d_1_5_16 (by decide) (fun c250 => ?_) (fun c250 => ?_)
          ·
            refine lv_iconst (v := 0) hx hb d_1_5_23 (by decide) ?_
            exact J68 ((0 : Int32)) _ _ _ ws ⟨(show q_F (0 ≤ 0) from (show 0 ≤ 0 from by omega)), (show q_F (0 ≤ 1) from (show 0 ≤ 1 from by omega)), V, q_lw hl (q_lw1 0 rfl (q_lw1 1 rfl (q_lw1 2 rfl (q_lw1 3 rfl q_lw0)))), (show F_NH_put_J24 x2 x3 x4 t0_0 t0_1 t1_0 t1_1 t2_0 t3_0 t3_1 t4_0 t5_0 t6_0 t7_0 t7_1 t8_0 t9_0 t9_1 t10_0 t10_1 t11_0 0 = (F_NH_put x2 x3 x4 t0_0 t0_1 t1_0 t1_1 t2_0 t3_0 t3_1 t4_0 t5_0 t6_0 t7_0 t7_1 t8_0 t9_0 t9_1 t10_0 t10_1 t11_0) from (by have c250x := c250; rw [← e248, ← e245] at c250x; rw [F_NH_put.eq_1, if_pos c52, if_pos c241, if_neg c250x])), (show True ∧ S_NH_put_J24 x2 x3 x4 t0_0 t0_1 t1_0 t1_1 t2_0 t3_0 t3_1 t4_0 t5_0 t6_0 t7_0 t7_1 t8_0 t9_0 t9_1 t10_0 t10_1 t11_0 0 from (by have h := hS; rw [S_NH_put.eq_1] at h; rw [if_pos c52] at h; rw [if_pos c241] at h; have c250x := c250; rw [← e248, ← e245] at c250x; rw [if_neg c250x] at h; with_reducible exact h))⟩
          ·
            exact J235 (()) _ _ _ ws ⟨V, q_lw hl (q_lw1 0 rfl (q_lw1 1 rfl (q_lw1 2 rfl (q_lw1 3 rfl q_lw0)))), (show F_NH_put_J19 x2 x3 x4 t0_0 t0_1 t1_0 t1_1 t2_0 t3_0 t3_1 t4_0 t5_0 t6_0 t7_0 t7_1 t8_0 t9_0 t9_1 t10_0 t10_1 t11_0 = (F_NH_put x2 x3 x4 t0_0 t0_1 t1_0 t1_1 t2_0 t3_0 t3_1 t4_0 t5_0 t6_0 t7_0 t7_1 t8_0 t9_0 t9_1 t10_0 t10_1 t11_0) from (by have c250x := c250; rw [← e248, ← e245] at c250x; rw [F_NH_put.eq_1, if_pos c52, if_pos c241, if_pos c250x])), (show True ∧ S_NH_put_J19 x2 x3 x4 t0_0 t0_1 t1_0 t1_1 t2_0 t3_0 t3_1 t4_0 t5_0 t6_0 t7_0 t7_1 t8_0 t9_0 t9_1 t10_0 t10_1 t11_0 from (by have h := hS; rw [S_NH_put.eq_1] at h; rw [if_pos c52] at h; rw [if_pos c241] at h; have c250x := c250; rw [← e248, ← e245] at c250x; rw [if_pos c250x] at h; with_reducible exact h))⟩

/-! 'throw new E("text")' behind other acts -/
section QTG
variable {p : Program} {l : Launch} {e : Env} {R R' : Room} {s T : State} {m : MethodId} {args : Array Value} {below : List Frame} {meth : Method} {c : Code} {H : Heap} {locs : List Loc} {cells slots mc ms : Nat}
variable {D : va_G} {g : Nat → ClassId} {A : Nat → Prop} {ws : va_W} {y0 : MethodName} {b0 : ByteArray} {n0 : Nat} {r0 : Option FieldType} {pc : Nat} {ls : Array Slot} {rest : List Value}
variable {Qc : Array Value → State → Outcome → State → Prop} {px : String → va_W → Prop}
/-- standing anew where one stands -/
theorem q_restand (X : Stand p l e R s m args below meth c T locs cells slots) (hf : R'.frames ≤ R.frames) (hlo : R'.locals ≤ R.locals) (hc : cells + R'.cells ≤ R.cells) (hs : slots + R'.slots ≤ R.slots) :
    Stand p l e R' (T.setFrames (.invoking m args :: below)) m args below meth c T [] 0 0 := by
  have hcur : T.cur < T.threads.size := State.cur_lt_of_top X.here.top
  have hfr : (T.setFrames (.invoking m args :: below)).frames = .invoking m args :: below := State.frames_setFrames _ hcur
  have hm : T.vm.method? m = some meth := by rw [X.warmed.alike.method?]; exact X.method
  obtain ⟨t, ht, -⟩ := State.frames_cons hfr
  obtain ⟨g₀, hg₀⟩ := X.frames_eq
  obtain ⟨t1, ht1, -⟩ := State.frames_cons hg₀
  refine ⟨X.admits, X.cas, X.clock, hfr, ?_, ?_, hm, X.code, X.here, X.tail, State.WarmedH.refl (T.setFrames (.invoking m args :: below)), by rw [State.stackLimits_setFrames], by rw [State.stackBytes_setFrames], ?_⟩
  · obtain ⟨r1, r2, r3, r4⟩ := State.hasRoom_stack X.room
    have r5 := State.hasRoom_real X.room
    have h := X.room
    simp only [State.hasRoom, Bool.and_eq_true, decide_eq_true_eq] at h
    rw [State.localsInUse_invoking X.frames X.method X.code] at r3 r4 r5
    rw [X.frames, List.length_cons] at r1 r2
    have hU : (T.setFrames (.invoking m args :: below)).localsInUse = stackWeight below + vmFrameWords + (c.maxLocals + 11) := State.localsInUse_invoking hfr (meth := meth) (c := c) hm X.code
    have hz := X.heapSize
    have hu := X.used
    simp only [State.hasRoom, Bool.and_eq_true, decide_eq_true_eq, hfr, hU, List.length_cons, State.stackLimits_setFrames, State.stackBytes_setFrames, X.limits, X.bytes]
    refine ⟨⟨⟨⟨by omega, by omega, by omega, by omega, by omega, h.1.1.1.2.2.2.2.2⟩, ?_⟩, ?_⟩, X.book⟩
    · have := h.1.1.2
      show T.heap.size + R'.cells ≤ e.platform.maxCells
      omega
    · have := h.1.2
      show T.slotsUsed + R'.slots ≤ e.platform.maxSlots
      omega
  · have h := X.hears
    have hcode : ∀ m', (T.setFrames (.invoking m args :: below)).code? m' = s.code? m' := fun m' => by
      rw [State.code?_eq, State.code?_eq]
      show (T.vm.method? m').bind _ = _
      rw [X.warmed.alike.method?]
    have hme : (T.setFrames (.invoking m args :: below)).vm.method? m = s.vm.method? m := X.warmed.alike.method? ..
    cases below with
    | nil => simp only [State.hears, hme] at h ⊢; exact h
    | cons f r => cases f <;> simp only [State.hears, hme, hcode] at h ⊢ <;> exact h
  · have h := (State.sameButNew.refl (T.setFrames (.invoking m args :: below)) ht).setFrames T.frames (State.cur_lt_of_frames hfr)
    rw [State.setFrames_setFrames, State.setFrames_self ht1] at h
    exact h
theorem q_throwG {own cls text : String} {names : List String} {ik is ic : Nat} (C0 : q_At p s m args meth c y0 b0 n0 r0) (V : q_Wd D g A s ws H locs) (hl : l.stackTraces = false) (hno : c.exceptionTable.isEmpty = true) (ho : y0.cls = own) (hsz : ls.size = n0) (hfit : Bundle.fit cls = true) (hfn : ∀ n ∈ names, Bundle.fit n = true)
    (hk : Cond.classLink own ik cls ∈ q_tbl) (hini : Cond.initialized cls ∈ q_tbl) (hstr : Cond.stringRef own is text ∈ q_odd) (hins : Cond.instantiable cls 6 ∈ q_tbl)
    (hat : ∀ w ∈ Bundle.ownAtoms own ic cls names, w ∈ q_tbl ∨ (w ∈ q_odd ∧ w.onTables = true) ∨ w ∈ q_four)
    (d0 : decode b0 pc = .ok (.new ik, 3)) (d3 : decode b0 (pc + 3) = .ok (.dup, 1)) (d4 : decode b0 (pc + 4) = .ok (.ldc_w is, 3)) (d7 : decode b0 (pc + 7) = .ok (.invokespecial ic, 3)) (d10 : decode b0 (pc + 10) = .ok (.athrow, 1))
    (hR1 : names.length + 3 < R.frames) (hR2 : (rest.map fun v => v.category).sum + (13 * (names.length + 1) + 43) ≤ R.locals) (hR3 : cells + 1 ≤ R.cells) (hR4 : slots + 6 ≤ R.slots) (hmc : cells + 1 ≤ mc) (hms : slots + 6 ≤ ms) (hp : px cls ws) :
    W p l e R s m args below meth c H locs cells slots (q_MQX below Qc D g A px args s mc ms) (F0 m pc ls rest) := by
  intro T hT X
  have hA := q_fr V.2.1 V.2.2.1 V.2.2.2.2.2
  have Y := q_restand X (R' := { R with cells := 1, slots := 6 }) (Nat.le_refl _) (Nat.le_refl _) hR3 hR4
  have hW : s.WarmedH (T.setFrames (.invoking m args :: below)).vm := X.warmed
  have hh : (T.setFrames (.invoking m args :: below)).heap = H := hT
  obtain ⟨-, z1, z2, z3, z4, z5⟩ := q_pre (av := []) V (T.setFrames (.invoking m args :: below)) hh hW
  have C1 : q_At p (T.setFrames (.invoking m args :: below)) m args meth c y0 b0 n0 r0 := ⟨C0.1, C0.2.1, C0.2.2.1, C0.2.2.2.1, by rw [hW.alike.findClass]; exact C0.2.2.2.2.1, fun w hw => pay_in C0.2.2.2.2.2.1 (q_gi (fun _ h => h)) w hw args _ hW, C0.2.2.2.2.2.2.1, C0.2.2.2.2.2.2.2⟩
  have V1 : q_Wd D g (va_A ws H.size) (T.setFrames (.invoking m args :: below)) ws (T.setFrames (.invoking m args :: below)).heap [] := ⟨z2, (hh ▸ z4.self), va_S.rf, z3, z5, fun q h => Or.inr (by rw [← z1]; exact h)⟩
  obtain ⟨t, stp, o, hrun, hend, hq⟩ := q_throwW (R := { R with cells := 1, slots := 6 }) (Qc := fun _ _ _ _ => False) (px := px) C1 V1 hl hno ho hsz hfit hfn hk hini hstr hins hat d0 d3 d4 d7 d10 hR1 hR2 (Nat.le_refl 1) (Nat.le_refl 6) hp T rfl Y
  rcases hq with ⟨h, -⟩ | ⟨q, E, ce, u, L, rfl, hpx, hB, hF, hce, hcv, hcl, hW2, hsm, hL⟩
  · exact h.elim
  refine ⟨t, stp, .threw q, hrun, hend, Or.inr ⟨q, E, ce, u, locs ++ L, rfl, hpx, ⟨hB.1, hB.2.1, hB.2.2.weaken (fun _ z _ h => hA z.1 h)⟩, ?_, hce, hcv, ?_, ?_, ?_, ?_⟩⟩
  · obtain ⟨f1, f2⟩ := hF
    rw [hh] at f1 f2
    exact ⟨Nat.le_trans V.2.2.1.1 f1, fun z h1 h2 => (f2 z (Nat.lt_of_lt_of_le h1 V.2.2.1.1) (fun h3 => h2 (hA z h3))).trans (V.2.2.1.2.1 z h1 h2)⟩
  · rw [hW.alike.findClass] at hcl
    exact hcl
  · exact hW.trans hW2
  · have h1 := X.same.setFrames (.invoking m args :: below) X.cur
    have h2 := hsm.setVm s.vm
    exact (h1.trans h2).mono hmc hms
  · intro z hz
    rcases List.mem_append.mp hz with h | h
    · exact V.2.2.1.2.2 z h
    · exact hA _ (hL z h)
end QTG

