/-! NumberHouse, exactly -/
/-- which fault a call told -/
def qE (c : Int32) : String := if c = 1 then "java/lang/IllegalArgumentException" else if c = 2 then "java/lang/ArithmeticException" else "java/lang/IllegalStateException"
theorem qE1 : "java/lang/IllegalArgumentException" = qE 1 := rfl
theorem qE2 : "java/lang/ArithmeticException" = qE 2 := rfl
theorem qE3 : "java/lang/IllegalStateException" = qE 3 := rfl
theorem d_1_32_0 : decode prog_1_method_32_code 0 = .ok (.iload_n 0, 1) := by decide +kernel
theorem d_1_32_1 : decode prog_1_method_32_code 1 = .ok (.ifCond .lt 13, 3) := by decide +kernel
theorem d_1_32_14 : decode prog_1_method_32_code 14 = .ok (.iconst 0, 1) := by decide +kernel
theorem d_1_32_15 : decode prog_1_method_32_code 15 = .ok (.ireturn, 1) := by decide +kernel
theorem d_1_32_4 : decode prog_1_method_32_code 4 = .ok (.iload_n 0, 1) := by decide +kernel
theorem d_1_32_5 : decode prog_1_method_32_code 5 = .ok (.bipush 10, 2) := by decide +kernel
theorem d_1_32_7 : decode prog_1_method_32_code 7 = .ok (.if_icmp .ge 7, 3) := by decide +kernel
theorem d_1_32_10 : decode prog_1_method_32_code 10 = .ok (.iconst 1, 1) := by decide +kernel
theorem d_1_32_11 : decode prog_1_method_32_code 11 = .ok (.goto 4, 3) := by decide +kernel
def y_NH_isRegister : MethodName := ⟨"NumberHouse", "isRegister", "(I)Z"⟩
def F_NH_isRegister (x1 : Int32) : Int32 := if x1 < (0 : Int32) then ((0 : Int32)) else (if (10 : Int32) ≤ x1 then ((0 : Int32)) else ((1 : Int32)))
set_option maxRecDepth 100000 in
set_option maxHeartbeats 4000000 in
theorem X_NH_isRegister (l : Launch) (D : va_G) (g : Nat → ClassId) (q : Nat → Nat) (ws : va_W) (x1 : Int32) (hI : q_I (nsh g q) q ws) : q_mI l y_NH_isRegister prog_1_method_32_code 1 (.boolean) 1 0 0 D g [.int x1] ws (fun r u => ws = u ∧ (0 ≤ r.toInt) ∧ (r.toInt ≤ 1) ∧ r = (F_NH_isRegister x1)) := by
  intro sz
  refine q_into (by decide) (Nat.le_of_ble_eq_true rfl) ?_
  intro p e s m below meth c ls hsz C0 V hl
  have hx := C0.1
  have hb := C0.2.1
  have hl : lv_has ls 1 [(0, .int x1)] := hl
  refine lv_iload_n hx hb d_1_32_0 rfl (lv_at hl 0 rfl) ?_
  refine lv_if_lt (tgt := 14) hx hb d_1_32_1 (by decide) (fun c1 => ?_) (fun c1 => ?_)
  ·
    have b2 : q_F (x1.toInt < 0) := (q_ltI c1)
    refine lv_iconst (v := 0) hx hb d_1_32_14 (by decide) ?_
    exact q_retz C0 V (by decide) (⟨rfl, (show 0 ≤ (0 : Int32).toInt from (by have z1 : (0 : Int32).toInt = 0 := rfl; omega)), (show (0 : Int32).toInt ≤ 1 from (by have z1 : (0 : Int32).toInt = 0 := rfl; omega)), (show (0 : Int32) = (F_NH_isRegister x1) from (by rw [F_NH_isRegister.eq_1, if_pos c1]))⟩) d_1_32_15
  ·
    have b3 : q_F (0 ≤ x1.toInt) := (q_nltI c1)
    refine lv_iload_n hx hb d_1_32_4 rfl (lv_at hl 0 rfl) ?_
    refine lv_bipush (v := 10) hx hb d_1_32_5 (by decide) ?_
    refine lv_icmp_ge (tgt := 14) hx hb d_1_32_7 (by decide) (fun c4 => ?_) (fun c4 => ?_)
    ·
      have b5 : q_F (10 ≤ x1.toInt) := (q_leI c4)
      refine lv_iconst (v := 0) hx hb d_1_32_14 (by decide) ?_
      exact q_retz C0 V (by decide) (⟨rfl, (show 0 ≤ (0 : Int32).toInt from (by have z1 : (0 : Int32).toInt = 0 := rfl; omega)), (show (0 : Int32).toInt ≤ 1 from (by have z1 : (0 : Int32).toInt = 0 := rfl; omega)), (show (0 : Int32) = (F_NH_isRegister x1) from (by rw [F_NH_isRegister.eq_1, if_neg c1, if_pos c4]))⟩) d_1_32_15
    ·
      have b6 : q_F (x1.toInt < 10) := (q_nleI c4)
      refine lv_iconst (v := 1) hx hb d_1_32_10 (by decide) ?_
      refine lv_goto (tgt := 15) hx hb d_1_32_11 (by decide) ?_
      exact q_retz C0 V (by decide) (⟨rfl, (show 0 ≤ (1 : Int32).toInt from (by have z1 : (1 : Int32).toInt = 1 := rfl; omega)), (show (1 : Int32).toInt ≤ 1 from (by have z1 : (1 : Int32).toInt = 1 := rfl; omega)), (show (1 : Int32) = (F_NH_isRegister x1) from (by rw [F_NH_isRegister.eq_1, if_neg c1, if_neg c4]))⟩) d_1_32_15
theorem d_1_33_0 : decode prog_1_method_33_code 0 = .ok (.iload_n 0, 1) := by decide +kernel
theorem d_1_33_1 : decode prog_1_method_33_code 1 = .ok (.ifCond .lt 13, 3) := by decide +kernel
theorem d_1_33_14 : decode prog_1_method_33_code 14 = .ok (.iconst 0, 1) := by decide +kernel
theorem d_1_33_15 : decode prog_1_method_33_code 15 = .ok (.ireturn, 1) := by decide +kernel
theorem d_1_33_4 : decode prog_1_method_33_code 4 = .ok (.iload_n 0, 1) := by decide +kernel
theorem d_1_33_5 : decode prog_1_method_33_code 5 = .ok (.bipush 7, 2) := by decide +kernel
theorem d_1_33_7 : decode prog_1_method_33_code 7 = .ok (.if_icmp .gt 7, 3) := by decide +kernel
theorem d_1_33_10 : decode prog_1_method_33_code 10 = .ok (.iconst 1, 1) := by decide +kernel
theorem d_1_33_11 : decode prog_1_method_33_code 11 = .ok (.goto 4, 3) := by decide +kernel
def y_NH_isMode : MethodName := ⟨"NumberHouse", "isMode", "(I)Z"⟩
def F_NH_isMode (x1 : Int32) : Int32 := if x1 < (0 : Int32) then ((0 : Int32)) else (if (7 : Int32) < x1 then ((0 : Int32)) else ((1 : Int32)))
set_option maxRecDepth 100000 in
set_option maxHeartbeats 4000000 in
theorem X_NH_isMode (l : Launch) (D : va_G) (g : Nat → ClassId) (q : Nat → Nat) (ws : va_W) (x1 : Int32) (hI : q_I (nsh g q) q ws) : q_mI l y_NH_isMode prog_1_method_33_code 1 (.boolean) 1 0 0 D g [.int x1] ws (fun r u => ws = u ∧ (0 ≤ r.toInt) ∧ (r.toInt ≤ 1) ∧ r = (F_NH_isMode x1)) := by
  intro sz
  refine q_into (by decide) (Nat.le_of_ble_eq_true rfl) ?_
  intro p e s m below meth c ls hsz C0 V hl
  have hx := C0.1
  have hb := C0.2.1
  have hl : lv_has ls 1 [(0, .int x1)] := hl
  refine lv_iload_n hx hb d_1_33_0 rfl (lv_at hl 0 rfl) ?_
  refine lv_if_lt (tgt := 14) hx hb d_1_33_1 (by decide) (fun c1 => ?_) (fun c1 => ?_)
  ·
    have b2 : q_F (x1.toInt < 0) := (q_ltI c1)
    refine lv_iconst (v := 0) hx hb d_1_33_14 (by decide) ?_
    exact q_retz C0 V (by decide) (⟨rfl, (show 0 ≤ (0 : Int32).toInt from (by have z1 : (0 : Int32).toInt = 0 := rfl; omega)), (show (0 : Int32).toInt ≤ 1 from (by have z1 : (0 : Int32).toInt = 0 := rfl; omega)), (show (0 : Int32) = (F_NH_isMode x1) from (by rw [F_NH_isMode.eq_1, if_pos c1]))⟩) d_1_33_15
  ·
    have b3 : q_F (0 ≤ x1.toInt) := (q_nltI c1)
    refine lv_iload_n hx hb d_1_33_4 rfl (lv_at hl 0 rfl) ?_
    refine lv_bipush (v := 7) hx hb d_1_33_5 (by decide) ?_
    refine lv_icmp_gt (tgt := 14) hx hb d_1_33_7 (by decide) (fun c4 => ?_) (fun c4 => ?_)
    ·
      have b5 : q_F (7 < x1.toInt) := (q_ltI c4)
      refine lv_iconst (v := 0) hx hb d_1_33_14 (by decide) ?_
      exact q_retz C0 V (by decide) (⟨rfl, (show 0 ≤ (0 : Int32).toInt from (by have z1 : (0 : Int32).toInt = 0 := rfl; omega)), (show (0 : Int32).toInt ≤ 1 from (by have z1 : (0 : Int32).toInt = 0 := rfl; omega)), (show (0 : Int32) = (F_NH_isMode x1) from (by rw [F_NH_isMode.eq_1, if_neg c1, if_pos c4]))⟩) d_1_33_15
    ·
      have b6 : q_F (x1.toInt ≤ 7) := (q_nltI c4)
      refine lv_iconst (v := 1) hx hb d_1_33_10 (by decide) ?_
      refine lv_goto (tgt := 15) hx hb d_1_33_11 (by decide) ?_
      exact q_retz C0 V (by decide) (⟨rfl, (show 0 ≤ (1 : Int32).toInt from (by have z1 : (1 : Int32).toInt = 1 := rfl; omega)), (show (1 : Int32).toInt ≤ 1 from (by have z1 : (1 : Int32).toInt = 1 := rfl; omega)), (show (1 : Int32) = (F_NH_isMode x1) from (by rw [F_NH_isMode.eq_1, if_neg c1, if_neg c4]))⟩) d_1_33_15
theorem d_1_34_0 : decode prog_1_method_34_code 0 = .ok (.iload_n 0, 1) := by decide +kernel
theorem d_1_34_1 : decode prog_1_method_34_code 1 = .ok (.sipush (-10000), 3) := by decide +kernel
theorem d_1_34_4 : decode prog_1_method_34_code 4 = .ok (.if_icmp .lt 14, 3) := by decide +kernel
theorem d_1_34_18 : decode prog_1_method_34_code 18 = .ok (.iconst 0, 1) := by decide +kernel
theorem d_1_34_19 : decode prog_1_method_34_code 19 = .ok (.ireturn, 1) := by decide +kernel
theorem d_1_34_7 : decode prog_1_method_34_code 7 = .ok (.iload_n 0, 1) := by decide +kernel
theorem d_1_34_8 : decode prog_1_method_34_code 8 = .ok (.sipush 10000, 3) := by decide +kernel
theorem d_1_34_11 : decode prog_1_method_34_code 11 = .ok (.if_icmp .gt 7, 3) := by decide +kernel
theorem d_1_34_14 : decode prog_1_method_34_code 14 = .ok (.iconst 1, 1) := by decide +kernel
theorem d_1_34_15 : decode prog_1_method_34_code 15 = .ok (.goto 4, 3) := by decide +kernel
def y_NH_isScale : MethodName := ⟨"NumberHouse", "isScale", "(I)Z"⟩
def F_NH_isScale (x1 : Int32) : Int32 := if x1 < (-10000 : Int32) then ((0 : Int32)) else (if (10000 : Int32) < x1 then ((0 : Int32)) else ((1 : Int32)))
set_option maxRecDepth 100000 in
set_option maxHeartbeats 4000000 in
theorem X_NH_isScale (l : Launch) (D : va_G) (g : Nat → ClassId) (q : Nat → Nat) (ws : va_W) (x1 : Int32) (hI : q_I (nsh g q) q ws) : q_mI l y_NH_isScale prog_1_method_34_code 1 (.boolean) 1 0 0 D g [.int x1] ws (fun r u => ws = u ∧ (0 ≤ r.toInt) ∧ (r.toInt ≤ 1) ∧ r = (F_NH_isScale x1)) := by
  intro sz
  refine q_into (by decide) (Nat.le_of_ble_eq_true rfl) ?_
  intro p e s m below meth c ls hsz C0 V hl
  have hx := C0.1
  have hb := C0.2.1
  have hl : lv_has ls 1 [(0, .int x1)] := hl
  refine lv_iload_n hx hb d_1_34_0 rfl (lv_at hl 0 rfl) ?_
  refine lv_sipush (v := (-10000)) hx hb d_1_34_1 (by decide) ?_
  refine lv_icmp_lt (tgt := 18) hx hb d_1_34_4 (by decide) (fun c1 => ?_) (fun c1 => ?_)
  ·
    have b2 : q_F (x1.toInt < (-10000)) := (q_ltI c1)
    refine lv_iconst (v := 0) hx hb d_1_34_18 (by decide) ?_
    exact q_retz C0 V (by decide) (⟨rfl, (show 0 ≤ (0 : Int32).toInt from (by have z1 : (0 : Int32).toInt = 0 := rfl; omega)), (show (0 : Int32).toInt ≤ 1 from (by have z1 : (0 : Int32).toInt = 0 := rfl; omega)), (show (0 : Int32) = (F_NH_isScale x1) from (by rw [F_NH_isScale.eq_1, if_pos c1]))⟩) d_1_34_19
  ·
    have b3 : q_F ((-10000) ≤ x1.toInt) := (q_nltI c1)
    refine lv_iload_n hx hb d_1_34_7 rfl (lv_at hl 0 rfl) ?_
    refine lv_sipush (v := 10000) hx hb d_1_34_8 (by decide) ?_
    refine lv_icmp_gt (tgt := 18) hx hb d_1_34_11 (by decide) (fun c4 => ?_) (fun c4 => ?_)
    ·
      have b5 : q_F (10000 < x1.toInt) := (q_ltI c4)
      refine lv_iconst (v := 0) hx hb d_1_34_18 (by decide) ?_
      exact q_retz C0 V (by decide) (⟨rfl, (show 0 ≤ (0 : Int32).toInt from (by have z1 : (0 : Int32).toInt = 0 := rfl; omega)), (show (0 : Int32).toInt ≤ 1 from (by have z1 : (0 : Int32).toInt = 0 := rfl; omega)), (show (0 : Int32) = (F_NH_isScale x1) from (by rw [F_NH_isScale.eq_1, if_neg c1, if_pos c4]))⟩) d_1_34_19
    ·
      have b6 : q_F (x1.toInt ≤ 10000) := (q_nltI c4)
      refine lv_iconst (v := 1) hx hb d_1_34_14 (by decide) ?_
      refine lv_goto (tgt := 19) hx hb d_1_34_15 (by decide) ?_
      exact q_retz C0 V (by decide) (⟨rfl, (show 0 ≤ (1 : Int32).toInt from (by have z1 : (1 : Int32).toInt = 1 := rfl; omega)), (show (1 : Int32).toInt ≤ 1 from (by have z1 : (1 : Int32).toInt = 1 := rfl; omega)), (show (1 : Int32) = (F_NH_isScale x1) from (by rw [F_NH_isScale.eq_1, if_neg c1, if_neg c4]))⟩) d_1_34_19
def F_NH_need (x1 : Int32) : Int32 := if x1 = (0 : Int32) then ((1 : Int32)) else ((0 : Int32))
set_option maxRecDepth 100000 in
set_option maxHeartbeats 4000000 in
theorem X_NH_need (l : Launch) (D : va_G) (g : Nat → ClassId) (q : Nat → Nat) (ws : va_W) (x1 : Int32) (hlt : l.stackTraces = false) (hI : q_I (nsh g q) q ws) (hzx1 : 0 ≤ x1.toInt ∧ x1.toInt ≤ 1) : ∀ sz, q_Mx l y_NH_need prog_1_method_36_code 1 none 7 1 6 D g [.int x1] ws sz (va_Qv (fun u => ws = u ∧ (0 : Int32) = (F_NH_need x1)) (q_B D g (va_A ws sz)) (va_A ws sz)) (fun E u => ∃ c : Int32, E = qE c ∧ c ≠ 0 ∧ ws = u ∧ c = (F_NH_need x1)) := by
  intro sz
  refine q_intoX (by decide) (Nat.le_of_ble_eq_true rfl) ?_
  intro p e s m below meth c ls hsz C0 V hno hl
  have hx := C0.1
  have hb := C0.2.1
  replace hzx1 : q_F (0 ≤ x1.toInt ∧ x1.toInt ≤ 1) := hzx1
  have hl : lv_has ls 1 [(0, .int x1)] := hl
  refine lv_iload_n hx hb d_1_36_0 rfl (lv_at hl 0 rfl) ?_
  refine lv_if_ne (tgt := 15) hx hb d_1_36_1 (by decide) (fun c1 => ?_) (fun c1 => ?_)
  ·
    have b2 : q_F (x1.toInt ≠ 0) := (q_neI c1)
    refine W.widen (k := 1) (n := 6) (Nat.le_of_ble_eq_true rfl) (Nat.le_of_ble_eq_true rfl) ?_
    exact q_retX (q_retv C0 V (⟨rfl, (show (0 : Int32) = (F_NH_need x1) from (by rw [F_NH_need.eq_1, if_neg c1]))⟩) d_1_36_15)
  ·
    have b3 : q_F (x1.toInt = 0) := (q_eqI c1)
    exact q_throwW (names := ["java/lang/RuntimeException", "java/lang/Exception"]) C0 V hlt hno rfl hl.1 (by decide) (by decide) w_494 w_23 wo_535 w_495 t_NH_431 d_1_36_4 d_1_36_7 d_1_36_8 d_1_36_11 d_1_36_14 (by decide) (by decide) (by decide) (by decide) ⟨(1 : Int32), qE1, (by decide), rfl, (show (1 : Int32) = (F_NH_need x1) from (by rw [F_NH_need.eq_1, if_pos c1]))⟩
def F_NH_canHave (x1 : Int32) : Int32 := if x1 = (0 : Int32) then ((2 : Int32)) else ((0 : Int32))
set_option maxRecDepth 100000 in
set_option maxHeartbeats 4000000 in
theorem X_NH_canHave (l : Launch) (D : va_G) (g : Nat → ClassId) (q : Nat → Nat) (ws : va_W) (x1 : Int32) (hlt : l.stackTraces = false) (hI : q_I (nsh g q) q ws) (hzx1 : 0 ≤ x1.toInt ∧ x1.toInt ≤ 1) : ∀ sz, q_Mx l y_NH_canHave prog_1_method_37_code 1 none 7 1 6 D g [.int x1] ws sz (va_Qv (fun u => ws = u ∧ (0 : Int32) = (F_NH_canHave x1)) (q_B D g (va_A ws sz)) (va_A ws sz)) (fun E u => ∃ c : Int32, E = qE c ∧ c ≠ 0 ∧ ws = u ∧ c = (F_NH_canHave x1)) := by
  intro sz
  refine q_intoX (by decide) (Nat.le_of_ble_eq_true rfl) ?_
  intro p e s m below meth c ls hsz C0 V hno hl
  have hx := C0.1
  have hb := C0.2.1
  replace hzx1 : q_F (0 ≤ x1.toInt ∧ x1.toInt ≤ 1) := hzx1
  have hl : lv_has ls 1 [(0, .int x1)] := hl
  refine lv_iload_n hx hb d_1_37_0 rfl (lv_at hl 0 rfl) ?_
  refine lv_if_ne (tgt := 15) hx hb d_1_37_1 (by decide) (fun c1 => ?_) (fun c1 => ?_)
  ·
    have b2 : q_F (x1.toInt ≠ 0) := (q_neI c1)
    refine W.widen (k := 1) (n := 6) (Nat.le_of_ble_eq_true rfl) (Nat.le_of_ble_eq_true rfl) ?_
    exact q_retX (q_retv C0 V (⟨rfl, (show (0 : Int32) = (F_NH_canHave x1) from (by rw [F_NH_canHave.eq_1, if_neg c1]))⟩) d_1_37_15)
  ·
    have b3 : q_F (x1.toInt = 0) := (q_eqI c1)
    exact q_throwW (names := ["java/lang/RuntimeException", "java/lang/Exception"]) C0 V hlt hno rfl hl.1 (by decide) (by decide) w_1067 w_34 wo_1076 w_1068 t_NH_436 d_1_37_4 d_1_37_7 d_1_37_8 d_1_37_11 d_1_37_14 (by decide) (by decide) (by decide) (by decide) ⟨(2 : Int32), qE2, (by decide), rfl, (show (2 : Int32) = (F_NH_canHave x1) from (by rw [F_NH_canHave.eq_1, if_pos c1]))⟩
theorem d_1_35_0 : decode prog_1_method_35_code 0 = .ok (.iload_n 0, 1) := by decide +kernel
theorem d_1_35_1 : decode prog_1_method_35_code 1 = .ok (.ifCond .lt 19, 3) := by decide +kernel
theorem d_1_35_20 : decode prog_1_method_35_code 20 = .ok (.iconst 0, 1) := by decide +kernel
theorem d_1_35_21 : decode prog_1_method_35_code 21 = .ok (.invokestatic 104, 3) := by decide +kernel
theorem w_493 : (Cond.code ({ cls := "NumberHouse", name := "need", desc := "(Z)V" } : MethodName) prog_1_method_36_code (1 : Nat) (none : Option ClassFile.FieldType)) ∈ q_tbl := q_of 493 (by decide +kernel) (by decide +kernel)
theorem w_1 : (Cond.initialized "NumberHouse") ∈ q_tbl := q_of 1 (by decide +kernel) (by decide +kernel)
theorem w_491 : (Cond.methodLink "NumberHouse" (104 : Nat) ({ cls := "NumberHouse", name := "need", desc := "(Z)V" } : MethodName)) ∈ q_tbl := q_of 491 (by decide +kernel) (by decide +kernel)
theorem w_492 : (Cond.static ({ cls := "NumberHouse", name := "need", desc := "(Z)V" } : MethodName)) ∈ q_tbl := q_of 492 (by decide +kernel) (by decide +kernel)
theorem LS_NH_104 : q_LS "NumberHouse" 104 y_NH_need prog_1_method_36_code 1 none 1 := ⟨w_493, w_1, w_491, w_492, ⟨by decide, by decide, by decide +kernel⟩⟩
theorem d_1_35_24 : decode prog_1_method_35_code 24 = .ok (.return_, 1) := by decide +kernel
theorem d_1_35_4 : decode prog_1_method_35_code 4 = .ok (.iload_n 0, 1) := by decide +kernel
theorem d_1_35_5 : decode prog_1_method_35_code 5 = .ok (.iconst 3, 1) := by decide +kernel
theorem d_1_35_6 : decode prog_1_method_35_code 6 = .ok (.if_icmp .gt 14, 3) := by decide +kernel
theorem d_1_35_9 : decode prog_1_method_35_code 9 = .ok (.iload_n 1, 1) := by decide +kernel
theorem d_1_35_10 : decode prog_1_method_35_code 10 = .ok (.invokestatic 212, 3) := by decide +kernel
theorem w_580 : (Cond.code ({ cls := "NumberHouse", name := "isRegister", desc := "(I)Z" } : MethodName) prog_1_method_32_code (1 : Nat) (some .boolean)) ∈ q_tbl := q_of 580 (by decide +kernel) (by decide +kernel)
theorem w_578 : (Cond.methodLink "NumberHouse" (212 : Nat) ({ cls := "NumberHouse", name := "isRegister", desc := "(I)Z" } : MethodName)) ∈ q_tbl := q_of 578 (by decide +kernel) (by decide +kernel)
theorem w_579 : (Cond.static ({ cls := "NumberHouse", name := "isRegister", desc := "(I)Z" } : MethodName)) ∈ q_tbl := q_of 579 (by decide +kernel) (by decide +kernel)
theorem LS_NH_212 : q_LS "NumberHouse" 212 y_NH_isRegister prog_1_method_32_code 1 (some .boolean) 1 := ⟨w_580, w_1, w_578, w_579, ⟨by decide, by decide, by decide +kernel⟩⟩
theorem d_1_35_13 : decode prog_1_method_35_code 13 = .ok (.ifCond .eq 7, 3) := by decide +kernel
theorem d_1_35_16 : decode prog_1_method_35_code 16 = .ok (.iconst 1, 1) := by decide +kernel
theorem d_1_35_17 : decode prog_1_method_35_code 17 = .ok (.goto 4, 3) := by decide +kernel
def y_NH_needRegister : MethodName := ⟨"NumberHouse", "needRegister", "(II)V"⟩
def F_NH_needRegister (x1 : Int32) (x2 : Int32) : Int32 := if x1 < (0 : Int32) then (if (F_NH_need (0 : Int32)) = (0 : Int32) then ((0 : Int32)) else ((F_NH_need (0 : Int32)))) else (if (3 : Int32) < x1 then (if (F_NH_need (0 : Int32)) = (0 : Int32) then ((0 : Int32)) else ((F_NH_need (0 : Int32)))) else (if ((F_NH_isRegister x2) : Int32) = (0 : Int32) then (if (F_NH_need (0 : Int32)) = (0 : Int32) then ((0 : Int32)) else ((F_NH_need (0 : Int32)))) else (if (F_NH_need (1 : Int32)) = (0 : Int32) then ((0 : Int32)) else ((F_NH_need (1 : Int32))))))
set_option maxRecDepth 100000 in
set_option maxHeartbeats 4000000 in
theorem X_NH_needRegister (l : Launch) (D : va_G) (g : Nat → ClassId) (q : Nat → Nat) (ws : va_W) (x1 : Int32) (x2 : Int32) (hlt : l.stackTraces = false) (hI : q_I (nsh g q) q ws) : ∀ sz, q_Mx l y_NH_needRegister prog_1_method_35_code 2 none 8 1 6 D g [.int x1, .int x2] ws sz (va_Qv (fun u => ws = u ∧ (0 : Int32) = (F_NH_needRegister x1 x2)) (q_B D g (va_A ws sz)) (va_A ws sz)) (fun E u => ∃ c : Int32, E = qE c ∧ c ≠ 0 ∧ ws = u ∧ c = (F_NH_needRegister x1 x2)) := by
  intro sz
  refine q_intoX (by decide) (Nat.le_of_ble_eq_true rfl) ?_
  intro p e s m below meth c ls hsz C0 V hno hl
  have hx := C0.1
  have hb := C0.2.1
  have hl : lv_has ls 2 [(0, .int x1), (1, .int x2)] := hl
  refine lv_iload_n hx hb d_1_35_0 rfl (lv_at hl 0 rfl) ?_
  refine lv_if_lt (tgt := 20) hx hb d_1_35_1 (by decide) (fun c1 => ?_) (fun c1 => ?_)
  ·
    have b2 : q_F (x1.toInt < 0) := (q_ltI c1)
    refine lv_iconst (v := 0) hx hb d_1_35_20 (by decide) ?_
    refine q_goxv V (q_runSX (As := [.int 0]) (rest := []) (d := 7) (mc := 1) (ms := 6) C0 V rfl LS_NH_104 (X_NH_need l D g q ws  0 hlt hI  ⟨(by have y0 : (0 : Int32).toInt = 0 := rfl; omega), (by have y0 : (0 : Int32).toInt = 0 := rfl; omega)⟩ _) rfl hl.1 rfl (Nat.le_of_ble_eq_true rfl) ⟨by decide, by decide⟩ ⟨Nat.le_of_ble_eq_true rfl, Nat.le_of_ble_eq_true rfl⟩ d_1_35_21) (fun qx Ex ce u3 H locs hp4 V hce hcv hcl => ?_) (fun u3 H locs hp4 V => ?_)
    ·
      obtain ⟨cx6, he7, hc8, rfl, hE5⟩ := hp4
      have c9 : ¬ (F_NH_need (0 : Int32)) = (0 : Int32) := fun z => hc8 (((hE5) : cx6 = _).trans z)
      exact q_outT hno C0 V (⟨(F_NH_need (0 : Int32)), (he7.trans (congrArg qE ((hE5) : cx6 = _))), c9, rfl, (show (F_NH_need (0 : Int32)) = (F_NH_needRegister x1 x2) from (by rw [F_NH_needRegister.eq_1, if_pos c1, if_neg c9]))⟩) hce hcv hcl (Nat.le_of_ble_eq_true rfl) (Nat.le_of_ble_eq_true rfl)
    ·
      obtain ⟨rfl, hE10⟩ := hp4
      have c9 : (F_NH_need (0 : Int32)) = (0 : Int32) := ((hE10) : (0 : Int32) = _).symm
      exact q_retX (q_retv C0 V (⟨rfl, (show (0 : Int32) = (F_NH_needRegister x1 x2) from (by rw [F_NH_needRegister.eq_1, if_pos c1, if_pos c9]))⟩) d_1_35_24)
  ·
    have b12 : q_F (0 ≤ x1.toInt) := (q_nltI c1)
    refine lv_iload_n hx hb d_1_35_4 rfl (lv_at hl 0 rfl) ?_
    refine lv_iconst (v := 3) hx hb d_1_35_5 (by decide) ?_
    refine lv_icmp_gt (tgt := 20) hx hb d_1_35_6 (by decide) (fun c13 => ?_) (fun c13 => ?_)
    ·
      have b14 : q_F (3 < x1.toInt) := (q_ltI c13)
      refine lv_iconst (v := 0) hx hb d_1_35_20 (by decide) ?_
      refine q_goxv V (q_runSX (As := [.int 0]) (rest := []) (d := 7) (mc := 1) (ms := 6) C0 V rfl LS_NH_104 (X_NH_need l D g q ws  0 hlt hI  ⟨(by have y0 : (0 : Int32).toInt = 0 := rfl; omega), (by have y0 : (0 : Int32).toInt = 0 := rfl; omega)⟩ _) rfl hl.1 rfl (Nat.le_of_ble_eq_true rfl) ⟨by decide, by decide⟩ ⟨Nat.le_of_ble_eq_true rfl, Nat.le_of_ble_eq_true rfl⟩ d_1_35_21) (fun qx Ex ce u15 H locs hp16 V hce hcv hcl => ?_) (fun u15 H locs hp16 V => ?_)
      ·
        obtain ⟨cx18, he19, hc20, rfl, hE17⟩ := hp16
        have c21 : ¬ (F_NH_need (0 : Int32)) = (0 : Int32) := fun z => hc20 (((hE17) : cx18 = _).trans z)
        exact q_outT hno C0 V (⟨(F_NH_need (0 : Int32)), (he19.trans (congrArg qE ((hE17) : cx18 = _))), c21, rfl, (show (F_NH_need (0 : Int32)) = (F_NH_needRegister x1 x2) from (by rw [F_NH_needRegister.eq_1, if_neg c1, if_pos c13, if_neg c21]))⟩) hce hcv hcl (Nat.le_of_ble_eq_true rfl) (Nat.le_of_ble_eq_true rfl)
      ·
        obtain ⟨rfl, hE22⟩ := hp16
        have c21 : (F_NH_need (0 : Int32)) = (0 : Int32) := ((hE22) : (0 : Int32) = _).symm
        exact q_retX (q_retv C0 V (⟨rfl, (show (0 : Int32) = (F_NH_needRegister x1 x2) from (by rw [F_NH_needRegister.eq_1, if_neg c1, if_pos c13, if_pos c21]))⟩) d_1_35_24)
    ·
      have b24 : q_F (x1.toInt ≤ 3) := (q_nltI c13)
      refine lv_iload_n hx hb d_1_35_9 rfl (lv_at hl 1 rfl) ?_
      refine q_goi V (q_runS (As := [.int x2]) (rest := []) (d := 1) (mc := 0) (ms := 0) C0 V rfl LS_NH_212 (X_NH_isRegister l D g q ws  x2 hI   _) rfl hl.1 rfl (Nat.le_of_ble_eq_true rfl) ⟨by decide, by decide⟩ ⟨Nat.le_of_ble_eq_true rfl, Nat.le_of_ble_eq_true rfl⟩ d_1_35_10) (fun a27 u25 H locs hp26 V => ?_)
      obtain ⟨rfl, b28, b29, hE30⟩ := hp26
      have e31 : a27 = (F_NH_isRegister x2) := hE30
      replace b28 : q_F (0 ≤ a27.toInt) := b28
      replace b29 : q_F (a27.toInt ≤ 1) := b29
      refine lv_if_eq (tgt := 20) hx hb d_1_35_13 (by decide) (fun c32 => ?_) (fun c32 => ?_)
      ·
        have b33 : q_F (a27.toInt = 0) := (q_eqI c32)
        refine lv_iconst (v := 0) hx hb d_1_35_20 (by decide) ?_
        refine q_goxv V (q_runSX (As := [.int 0]) (rest := []) (d := 7) (mc := 1) (ms := 6) C0 V rfl LS_NH_104 (X_NH_need l D g q ws  0 hlt hI  ⟨(by have y0 : (0 : Int32).toInt = 0 := rfl; omega), (by have y0 : (0 : Int32).toInt = 0 := rfl; omega)⟩ _) rfl hl.1 rfl (Nat.le_of_ble_eq_true rfl) ⟨by decide, by decide⟩ ⟨Nat.le_of_ble_eq_true rfl, Nat.le_of_ble_eq_true rfl⟩ d_1_35_21) (fun qx Ex ce u34 H locs hp35 V hce hcv hcl => ?_) (fun u34 H locs hp35 V => ?_)
        ·
          obtain ⟨cx37, he38, hc39, rfl, hE36⟩ := hp35
          have c40 : ¬ (F_NH_need (0 : Int32)) = (0 : Int32) := fun z => hc39 (((hE36) : cx37 = _).trans z)
          exact q_outT hno C0 V (⟨(F_NH_need (0 : Int32)), (he38.trans (congrArg qE ((hE36) : cx37 = _))), c40, rfl, (show (F_NH_need (0 : Int32)) = (F_NH_needRegister x1 x2) from (by have c32x := c32; rw [e31] at c32x; rw [F_NH_needRegister.eq_1, if_neg c1, if_neg c13, if_pos c32x, if_neg c40]))⟩) hce hcv hcl (Nat.le_of_ble_eq_true rfl) (Nat.le_of_ble_eq_true rfl)
        ·
          obtain ⟨rfl, hE41⟩ := hp35
          have c40 : (F_NH_need (0 : Int32)) = (0 : Int32) := ((hE41) : (0 : Int32) = _).symm
          exact q_retX (q_retv C0 V (⟨rfl, (show (0 : Int32) = (F_NH_needRegister x1 x2) from (by have c32x := c32; rw [e31] at c32x; rw [F_NH_needRegister.eq_1, if_neg c1, if_neg c13, if_pos c32x, if_pos c40]))⟩) d_1_35_24)
      ·
        have b43 : q_F (a27.toInt ≠ 0) := (q_neI c32)
        refine lv_iconst (v := 1) hx hb d_1_35_16 (by decide) ?_
        refine lv_goto (tgt := 21) hx hb d_1_35_17 (by decide) ?_
        refine q_goxv V (q_runSX (As := [.int 1]) (rest := []) (d := 7) (mc := 1) (ms := 6) C0 V rfl LS_NH_104 (X_NH_need l D g q ws  1 hlt hI  ⟨(by have y0 : (1 : Int32).toInt = 1 := rfl; omega), (by have y0 : (1 : Int32).toInt = 1 := rfl; omega)⟩ _) rfl hl.1 rfl (Nat.le_of_ble_eq_true rfl) ⟨by decide, by decide⟩ ⟨Nat.le_of_ble_eq_true rfl, Nat.le_of_ble_eq_true rfl⟩ d_1_35_21) (fun qx Ex ce u44 H locs hp45 V hce hcv hcl => ?_) (fun u44 H locs hp45 V => ?_)
        ·
          obtain ⟨cx47, he48, hc49, rfl, hE46⟩ := hp45
          have c50 : ¬ (F_NH_need (1 : Int32)) = (0 : Int32) := fun z => hc49 (((hE46) : cx47 = _).trans z)
          exact q_outT hno C0 V (⟨(F_NH_need (1 : Int32)), (he48.trans (congrArg qE ((hE46) : cx47 = _))), c50, rfl, (show (F_NH_need (1 : Int32)) = (F_NH_needRegister x1 x2) from (by have c32x := c32; rw [e31] at c32x; rw [F_NH_needRegister.eq_1, if_neg c1, if_neg c13, if_neg c32x, if_neg c50]))⟩) hce hcv hcl (Nat.le_of_ble_eq_true rfl) (Nat.le_of_ble_eq_true rfl)
        ·
          obtain ⟨rfl, hE51⟩ := hp45
          have c50 : (F_NH_need (1 : Int32)) = (0 : Int32) := ((hE51) : (0 : Int32) = _).symm
          exact q_retX (q_retv C0 V (⟨rfl, (show (0 : Int32) = (F_NH_needRegister x1 x2) from (by have c32x := c32; rw [e31] at c32x; rw [F_NH_needRegister.eq_1, if_neg c1, if_neg c13, if_neg c32x, if_pos c50]))⟩) d_1_35_24)
