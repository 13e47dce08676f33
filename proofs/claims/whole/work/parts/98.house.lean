/-! NumberHouse: calls that divide nothing -/
def F_NH_isRegister (x1 : Int32) : Int32 := if x1 < (0 : Int32) then (0) else (if (10 : Int32) ≤ x1 then (0) else (1))
theorem d_1_32_0 : decode prog_1_method_32_code 0 = .ok (.iload_n 0, 1) := by decide +kernel
theorem d_1_32_1 : decode prog_1_method_32_code 1 = .ok (.ifCond .lt 13, 3) := by decide +kernel
theorem d_1_32_14 : decode prog_1_method_32_code 14 = .ok (.iconst 0, 1) := by decide +kernel
theorem d_1_32_15 : decode prog_1_method_32_code 15 = .ok (.ireturn, 1) := by decide +kernel
theorem d_1_32_4 : decode prog_1_method_32_code 4 = .ok (.iload_n 0, 1) := by decide +kernel
theorem d_1_32_5 : decode prog_1_method_32_code 5 = .ok (.bipush 10, 2) := by decide +kernel
theorem d_1_32_7 : decode prog_1_method_32_code 7 = .ok (.if_icmp .ge 7, 3) := by decide +kernel
theorem d_1_32_10 : decode prog_1_method_32_code 10 = .ok (.iconst 1, 1) := by decide +kernel
theorem d_1_32_11 : decode prog_1_method_32_code 11 = .ok (.goto 4, 3) := by decide +kernel
def y_NH_isRegister : MethodName := ⟨"NumberHouse", "isRegister", "(I)Z"⟩
set_option maxRecDepth 100000 in
set_option maxHeartbeats 4000000 in
theorem T_NH_isRegister (l : Launch) (D : va_G) (g : Nat → ClassId) (q : Nat → Nat) (ws : va_W) (x1 : Int32) (hI : q_I (nsh g q) q ws) : q_mI l y_NH_isRegister prog_1_method_32_code 1 (.boolean) 1 0 0 D g [.int x1] ws (fun r u => ws = u ∧ (0 ≤ r.toInt) ∧ (r.toInt ≤ 1) ∧ r = F_NH_isRegister x1) := by
  intro sz
  refine q_into (by decide) (Nat.le_of_ble_eq_true rfl) ?_
  intro p e s m below meth c ls hsz C0 V hl
  have hx := C0.1
  have hb := C0.2.1
  have hl : lv_has ls 1 [(0, .int x1)] := hl
  refine lv_iload_n hx hb d_1_32_0 rfl (lv_at hl 0 rfl) ?_
  refine lv_if_lt (tgt := 14) hx hb d_1_32_1 (by decide) (fun c1 => ?_) (fun c1 => ?_)
  ·
    have b2 : q_F (x1.toInt < 0) := (q_ltI c1)
    refine lv_iconst (v := 0) hx hb d_1_32_14 (by decide) ?_
    exact q_retz C0 V (by decide) (⟨rfl, (show 0 ≤ (0 : Int32).toInt from (by have z1 : (0 : Int32).toInt = 0 := rfl; omega)), (show (0 : Int32).toInt ≤ 1 from (by have z1 : (0 : Int32).toInt = 0 := rfl; omega)), (by unfold F_NH_isRegister; rw [if_pos c1])⟩) d_1_32_15
  ·
    have b3 : q_F (0 ≤ x1.toInt) := (q_nltI c1)
    refine lv_iload_n hx hb d_1_32_4 rfl (lv_at hl 0 rfl) ?_
    refine lv_bipush (v := 10) hx hb d_1_32_5 (by decide) ?_
    refine lv_icmp_ge (tgt := 14) hx hb d_1_32_7 (by decide) (fun c4 => ?_) (fun c4 => ?_)
    ·
      have b5 : q_F (10 ≤ x1.toInt) := (q_leI c4)
      refine lv_iconst (v := 0) hx hb d_1_32_14 (by decide) ?_
      exact q_retz C0 V (by decide) (⟨rfl, (show 0 ≤ (0 : Int32).toInt from (by have z1 : (0 : Int32).toInt = 0 := rfl; omega)), (show (0 : Int32).toInt ≤ 1 from (by have z1 : (0 : Int32).toInt = 0 := rfl; omega)), (by unfold F_NH_isRegister; rw [if_neg c1, if_pos c4])⟩) d_1_32_15
    ·
      have b6 : q_F (x1.toInt < 10) := (q_nleI c4)
      refine lv_iconst (v := 1) hx hb d_1_32_10 (by decide) ?_
      refine lv_goto (tgt := 15) hx hb d_1_32_11 (by decide) ?_
      exact q_retz C0 V (by decide) (⟨rfl, (show 0 ≤ (1 : Int32).toInt from (by have z1 : (1 : Int32).toInt = 1 := rfl; omega)), (show (1 : Int32).toInt ≤ 1 from (by have z1 : (1 : Int32).toInt = 1 := rfl; omega)), (by unfold F_NH_isRegister; rw [if_neg c1, if_neg c4])⟩) d_1_32_15
def F_NH_isMode (x1 : Int32) : Int32 := if x1 < (0 : Int32) then (0) else (if (7 : Int32) < x1 then (0) else (1))
theorem d_1_33_0 : decode prog_1_method_33_code 0 = .ok (.iload_n 0, 1) := by decide +kernel
theorem d_1_33_1 : decode prog_1_method_33_code 1 = .ok (.ifCond .lt 13, 3) := by decide +kernel
theorem d_1_33_14 : decode prog_1_method_33_code 14 = .ok (.iconst 0, 1) := by decide +kernel
theorem d_1_33_15 : decode prog_1_method_33_code 15 = .ok (.ireturn, 1) := by decide +kernel
theorem d_1_33_4 : decode prog_1_method_33_code 4 = .ok (.iload_n 0, 1) := by decide +kernel
theorem d_1_33_5 : decode prog_1_method_33_code 5 = .ok (.bipush 7, 2) := by decide +kernel
theorem d_1_33_7 : decode prog_1_method_33_code 7 = .ok (.if_icmp .gt 7, 3) := by decide +kernel
theorem d_1_33_10 : decode prog_1_method_33_code 10 = .ok (.iconst 1, 1) := by decide +kernel
theorem d_1_33_11 : decode prog_1_method_33_code 11 = .ok (.goto 4, 3) := by decide +kernel
def y_NH_isMode : MethodName := ⟨"NumberHouse", "isMode", "(I)Z"⟩
set_option maxRecDepth 100000 in
set_option maxHeartbeats 4000000 in
theorem T_NH_isMode (l : Launch) (D : va_G) (g : Nat → ClassId) (q : Nat → Nat) (ws : va_W) (x1 : Int32) (hI : q_I (nsh g q) q ws) : q_mI l y_NH_isMode prog_1_method_33_code 1 (.boolean) 1 0 0 D g [.int x1] ws (fun r u => ws = u ∧ (0 ≤ r.toInt) ∧ (r.toInt ≤ 1) ∧ r = F_NH_isMode x1) := by
  intro sz
  refine q_into (by decide) (Nat.le_of_ble_eq_true rfl) ?_
  intro p e s m below meth c ls hsz C0 V hl
  have hx := C0.1
  have hb := C0.2.1
  have hl : lv_has ls 1 [(0, .int x1)] := hl
  refine lv_iload_n hx hb d_1_33_0 rfl (lv_at hl 0 rfl) ?_
  refine lv_if_lt (tgt := 14) hx hb d_1_33_1 (by decide) (fun c1 => ?_) (fun c1 => ?_)
  ·
    have b2 : q_F (x1.toInt < 0) := (q_ltI c1)
    refine lv_iconst (v := 0) hx hb d_1_33_14 (by decide) ?_
    exact q_retz C0 V (by decide) (⟨rfl, (show 0 ≤ (0 : Int32).toInt from (by have z1 : (0 : Int32).toInt = 0 := rfl; omega)), (show (0 : Int32).toInt ≤ 1 from (by have z1 : (0 : Int32).toInt = 0 := rfl; omega)), (by unfold F_NH_isMode; rw [if_pos c1])⟩) d_1_33_15
  ·
    have b3 : q_F (0 ≤ x1.toInt) := (q_nltI c1)
    refine lv_iload_n hx hb d_1_33_4 rfl (lv_at hl 0 rfl) ?_
    refine lv_bipush (v := 7) hx hb d_1_33_5 (by decide) ?_
    refine lv_icmp_gt (tgt := 14) hx hb d_1_33_7 (by decide) (fun c4 => ?_) (fun c4 => ?_)
    ·
      have b5 : q_F (7 < x1.toInt) := (q_ltI c4)
      refine lv_iconst (v := 0) hx hb d_1_33_14 (by decide) ?_
      exact q_retz C0 V (by decide) (⟨rfl, (show 0 ≤ (0 : Int32).toInt from (by have z1 : (0 : Int32).toInt = 0 := rfl; omega)), (show (0 : Int32).toInt ≤ 1 from (by have z1 : (0 : Int32).toInt = 0 := rfl; omega)), (by unfold F_NH_isMode; rw [if_neg c1, if_pos c4])⟩) d_1_33_15
    ·
      have b6 : q_F (x1.toInt ≤ 7) := (q_nltI c4)
      refine lv_iconst (v := 1) hx hb d_1_33_10 (by decide) ?_
      refine lv_goto (tgt := 15) hx hb d_1_33_11 (by decide) ?_
      exact q_retz C0 V (by decide) (⟨rfl, (show 0 ≤ (1 : Int32).toInt from (by have z1 : (1 : Int32).toInt = 1 := rfl; omega)), (show (1 : Int32).toInt ≤ 1 from (by have z1 : (1 : Int32).toInt = 1 := rfl; omega)), (by unfold F_NH_isMode; rw [if_neg c1, if_neg c4])⟩) d_1_33_15
def F_NH_isScale (x1 : Int32) : Int32 := if x1 < (-10000 : Int32) then (0) else (if (10000 : Int32) < x1 then (0) else (1))
theorem d_1_34_0 : decode prog_1_method_34_code 0 = .ok (.iload_n 0, 1) := by decide +kernel
theorem d_1_34_1 : decode prog_1_method_34_code 1 = .ok (.sipush (-10000), 3) := by decide +kernel
theorem d_1_34_4 : decode prog_1_method_34_code 4 = .ok (.if_icmp .lt 14, 3) := by decide +kernel
theorem d_1_34_18 : decode prog_1_method_34_code 18 = .ok (.iconst 0, 1) := by decide +kernel
theorem d_1_34_19 : decode prog_1_method_34_code 19 = .ok (.ireturn, 1) := by decide +kernel
theorem d_1_34_7 : decode prog_1_method_34_code 7 = .ok (.iload_n 0, 1) := by decide +kernel
theorem d_1_34_8 : decode prog_1_method_34_code 8 = .ok (.sipush 10000, 3) := by decide +kernel
theorem d_1_34_11 : decode prog_1_method_34_code 11 = .ok (.if_icmp .gt 7, 3) := by decide +kernel
theorem d_1_34_14 : decode prog_1_method_34_code 14 = .ok (.iconst 1, 1) := by decide +kernel
theorem d_1_34_15 : decode prog_1_method_34_code 15 = .ok (.goto 4, 3) := by decide +kernel
def y_NH_isScale : MethodName := ⟨"NumberHouse", "isScale", "(I)Z"⟩
set_option maxRecDepth 100000 in
set_option maxHeartbeats 4000000 in
theorem T_NH_isScale (l : Launch) (D : va_G) (g : Nat → ClassId) (q : Nat → Nat) (ws : va_W) (x1 : Int32) (hI : q_I (nsh g q) q ws) : q_mI l y_NH_isScale prog_1_method_34_code 1 (.boolean) 1 0 0 D g [.int x1] ws (fun r u => ws = u ∧ (0 ≤ r.toInt) ∧ (r.toInt ≤ 1) ∧ r = F_NH_isScale x1) := by
  intro sz
  refine q_into (by decide) (Nat.le_of_ble_eq_true rfl) ?_
  intro p e s m below meth c ls hsz C0 V hl
  have hx := C0.1
  have hb := C0.2.1
  have hl : lv_has ls 1 [(0, .int x1)] := hl
  refine lv_iload_n hx hb d_1_34_0 rfl (lv_at hl 0 rfl) ?_
  refine lv_sipush (v := (-10000)) hx hb d_1_34_1 (by decide) ?_
  refine lv_icmp_lt (tgt := 18) hx hb d_1_34_4 (by decide) (fun c1 => ?_) (fun c1 => ?_)
  ·
    have b2 : q_F (x1.toInt < (-10000)) := (q_ltI c1)
    refine lv_iconst (v := 0) hx hb d_1_34_18 (by decide) ?_
    exact q_retz C0 V (by decide) (⟨rfl, (show 0 ≤ (0 : Int32).toInt from (by have z1 : (0 : Int32).toInt = 0 := rfl; omega)), (show (0 : Int32).toInt ≤ 1 from (by have z1 : (0 : Int32).toInt = 0 := rfl; omega)), (by unfold F_NH_isScale; rw [if_pos c1])⟩) d_1_34_19
  ·
    have b3 : q_F ((-10000) ≤ x1.toInt) := (q_nltI c1)
    refine lv_iload_n hx hb d_1_34_7 rfl (lv_at hl 0 rfl) ?_
    refine lv_sipush (v := 10000) hx hb d_1_34_8 (by decide) ?_
    refine lv_icmp_gt (tgt := 18) hx hb d_1_34_11 (by decide) (fun c4 => ?_) (fun c4 => ?_)
    ·
      have b5 : q_F (10000 < x1.toInt) := (q_ltI c4)
      refine lv_iconst (v := 0) hx hb d_1_34_18 (by decide) ?_
      exact q_retz C0 V (by decide) (⟨rfl, (show 0 ≤ (0 : Int32).toInt from (by have z1 : (0 : Int32).toInt = 0 := rfl; omega)), (show (0 : Int32).toInt ≤ 1 from (by have z1 : (0 : Int32).toInt = 0 := rfl; omega)), (by unfold F_NH_isScale; rw [if_neg c1, if_pos c4])⟩) d_1_34_19
    ·
      have b6 : q_F (x1.toInt ≤ 10000) := (q_nltI c4)
      refine lv_iconst (v := 1) hx hb d_1_34_14 (by decide) ?_
      refine lv_goto (tgt := 19) hx hb d_1_34_15 (by decide) ?_
      exact q_retz C0 V (by decide) (⟨rfl, (show 0 ≤ (1 : Int32).toInt from (by have z1 : (1 : Int32).toInt = 1 := rfl; omega)), (show (1 : Int32).toInt ≤ 1 from (by have z1 : (1 : Int32).toInt = 1 := rfl; omega)), (by unfold F_NH_isScale; rw [if_neg c1, if_neg c4])⟩) d_1_34_19
set_option maxRecDepth 100000 in
set_option maxHeartbeats 4000000 in
theorem T_NH_need (l : Launch) (D : va_G) (g : Nat → ClassId) (q : Nat → Nat) (ws : va_W) (x1 : Int32) (hlt : l.stackTraces = false) (hI : q_I (nsh g q) q ws) (hzx1 : 0 ≤ x1.toInt ∧ x1.toInt ≤ 1) : ∀ sz, q_Mx l y_NH_need prog_1_method_36_code 1 none 7 1 6 D g [.int x1] ws sz (va_Qv (fun u => ws = u ∧ (1 ≤ x1.toInt)) (q_B D g (va_A ws sz)) (va_A ws sz)) (fun E u => (E = "java/lang/IllegalArgumentException") ∧ q_I (nsh g q) q u) := by
  intro sz
  refine q_intoX (by decide) (Nat.le_of_ble_eq_true rfl) ?_
  intro p e s m below meth c ls hsz C0 V hno hl
  have hx := C0.1
  have hb := C0.2.1
  replace hzx1 : q_F (0 ≤ x1.toInt ∧ x1.toInt ≤ 1) := hzx1
  have hl : lv_has ls 1 [(0, .int x1)] := hl
  refine lv_iload_n hx hb d_1_36_0 rfl (lv_at hl 0 rfl) ?_
  refine lv_if_ne (tgt := 15) hx hb d_1_36_1 (by decide) (fun c1 => ?_) (fun c1 => ?_)
  ·
    have b2 : q_F (x1.toInt ≠ 0) := (q_neI c1)
    refine W.widen (k := 1) (n := 6) (Nat.le_of_ble_eq_true rfl) (Nat.le_of_ble_eq_true rfl) ?_
    exact q_retX (q_retv C0 V (⟨rfl, (show 1 ≤ x1.toInt from (by have t1 : 0 ≤ x1.toInt ∧ x1.toInt ≤ 1 := hzx1; have t2 : x1.toInt ≠ 0 := b2; omega))⟩) d_1_36_15)
  ·
    have b3 : q_F (x1.toInt = 0) := (q_eqI c1)
    exact q_throwW (names := ["java/lang/RuntimeException", "java/lang/Exception"]) C0 V hlt hno rfl hl.1 (by decide) (by decide) w_494 w_23 wo_535 w_495 t_NH_431 d_1_36_4 d_1_36_7 d_1_36_8 d_1_36_11 d_1_36_14 (by decide) (by decide) (by decide) (by decide) ⟨rfl, hI⟩
set_option maxRecDepth 100000 in
set_option maxHeartbeats 4000000 in
theorem T_NH_canHave (l : Launch) (D : va_G) (g : Nat → ClassId) (q : Nat → Nat) (ws : va_W) (x1 : Int32) (hlt : l.stackTraces = false) (hI : q_I (nsh g q) q ws) (hzx1 : 0 ≤ x1.toInt ∧ x1.toInt ≤ 1) : ∀ sz, q_Mx l y_NH_canHave prog_1_method_37_code 1 none 7 1 6 D g [.int x1] ws sz (va_Qv (fun u => ws = u ∧ (1 ≤ x1.toInt)) (q_B D g (va_A ws sz)) (va_A ws sz)) (fun E u => (E = "java/lang/ArithmeticException") ∧ q_I (nsh g q) q u) := by
  intro sz
  refine q_intoX (by decide) (Nat.le_of_ble_eq_true rfl) ?_
  intro p e s m below meth c ls hsz C0 V hno hl
  have hx := C0.1
  have hb := C0.2.1
  replace hzx1 : q_F (0 ≤ x1.toInt ∧ x1.toInt ≤ 1) := hzx1
  have hl : lv_has ls 1 [(0, .int x1)] := hl
  refine lv_iload_n hx hb d_1_37_0 rfl (lv_at hl 0 rfl) ?_
  refine lv_if_ne (tgt := 15) hx hb d_1_37_1 (by decide) (fun c1 => ?_) (fun c1 => ?_)
  ·
    have b2 : q_F (x1.toInt ≠ 0) := (q_neI c1)
    refine W.widen (k := 1) (n := 6) (Nat.le_of_ble_eq_true rfl) (Nat.le_of_ble_eq_true rfl) ?_
    exact q_retX (q_retv C0 V (⟨rfl, (show 1 ≤ x1.toInt from (by have t1 : 0 ≤ x1.toInt ∧ x1.toInt ≤ 1 := hzx1; have t2 : x1.toInt ≠ 0 := b2; omega))⟩) d_1_37_15)
  ·
    have b3 : q_F (x1.toInt = 0) := (q_eqI c1)
    exact q_throwW (names := ["java/lang/RuntimeException", "java/lang/Exception"]) C0 V hlt hno rfl hl.1 (by decide) (by decide) w_1067 w_34 wo_1076 w_1068 t_NH_436 d_1_37_4 d_1_37_7 d_1_37_8 d_1_37_11 d_1_37_14 (by decide) (by decide) (by decide) (by decide) ⟨rfl, hI⟩
theorem d_1_3_0 : decode prog_1_method_3_code 0 = .ok (.aload_n 0, 1) := by decide +kernel
theorem d_1_3_1 : decode prog_1_method_3_code 1 = .ok (.getfield 14, 3) := by decide +kernel
theorem d_1_3_4 : decode prog_1_method_3_code 4 = .ok (.getfield 108, 3) := by decide +kernel
theorem w_56 : (Cond.fieldLink "NumberHouse" (108 : Nat) "NumberHouse$Sheet" "size" "I") ∈ q_tbl := q_of 56 (by decide +kernel) (by decide +kernel)
theorem d_1_3_7 : decode prog_1_method_3_code 7 = .ok (.istore_n 1, 1) := by decide +kernel
theorem d_1_3_8 : decode prog_1_method_3_code 8 = .ok (.aload_n 0, 1) := by decide +kernel
theorem d_1_3_9 : decode prog_1_method_3_code 9 = .ok (.getfield 14, 3) := by decide +kernel
theorem d_1_3_12 : decode prog_1_method_3_code 12 = .ok (.invokevirtual 115, 3) := by decide +kernel
theorem w_471 : (Cond.methodLink "NumberHouse" (115 : Nat) ({ cls := "NumberHouse$Sheet", name := "clear", desc := "()V" } : MethodName)) ∈ q_tbl := q_of 471 (by decide +kernel) (by decide +kernel)
theorem LV_NH_115 : q_LV "NumberHouse" 115 y_She_clear prog_11_method_2_code 1 none 0 := ⟨w_474, w_2, w_471, w_472, w_473, ⟨by decide, by decide, by decide +kernel⟩⟩
theorem d_1_3_15 : decode prog_1_method_3_code 15 = .ok (.iload_n 1, 1) := by decide +kernel
theorem d_1_3_16 : decode prog_1_method_3_code 16 = .ok (.ireturn, 1) := by decide +kernel
def y_NH_wipe : MethodName := ⟨"NumberHouse", "wipe", "()I"⟩
set_option maxRecDepth 100000 in
set_option maxHeartbeats 4000000 in
theorem T_NH_wipe (l : Launch) (D : va_G) (g : Nat → ClassId) (q : Nat → Nat) (ws : va_W) (hI : q_I (nsh g q) q ws) : q_mI l y_NH_wipe prog_1_method_3_code 2 (.int) 2 0 0 D g [.ref (q 0)] ws (fun r u => q_I (nsh g q) q u ∧ q_un ws u [1] ∧ (0 ≤ r.toInt) ∧ (r.toInt ≤ 4100)) := by
  intro sz
  refine q_into (by decide) (Nat.le_of_ble_eq_true rfl) ?_
  intro p e s m below meth c ls hsz C0 V hl
  have hx := C0.1
  have hb := C0.2.1
  have hF : q_un ws ws [1] := q_u0
  have hl : lv_has ls 2 [(0, .ref (q 0))] := hl
  refine lv_aload_n hx hb d_1_3_0 rfl (lv_at hl 0 rfl) ?_
  have hO1 := n_o0 hI
  refine q_get (ci := 0) (j := 0) (v := .ref (q 1)) C0 V i_NH rfl rfl hO1 (by decide) w_424 rfl d_1_3_1 ?_
  obtain ⟨y3, hO2, b4⟩ := n_shO hI (n_h1 g q)
  replace b4 : q_F (0 ≤ y3.toInt ∧ y3.toInt ≤ 4100) := b4
  refine q_get (ci := 1) (j := 2) (v := .int y3) C0 V i_She rfl rfl hO2 (by decide) w_56 rfl d_1_3_4 ?_
  refine lv_istore_n (lv' := [(1, .int y3), (0, .ref (q 0))]) hx hb d_1_3_7 rfl hl (by decide) rfl (fun ls hl => ?_)
  refine lv_aload_n hx hb d_1_3_8 rfl (lv_at hl 1 rfl) ?_
  refine q_get (ci := 0) (j := 0) (v := .ref (q 1)) C0 V i_NH rfl rfl hO1 (by decide) w_424 rfl d_1_3_9 ?_
  refine q_gov V (q_runV (As := []) (rest := []) (d := 1) (mc := 0) (ms := 0) (ci := 1) C0 V rfl LV_NH_115 (T_She_clear l D g q ws 1 4100 513 4100 (n_h1 g q)  hI y3 hO2  _) rfl rfl hO2 rfl hl.1 rfl (Nat.le_of_ble_eq_true rfl) ⟨by decide, by decide⟩ ⟨Nat.le_of_ble_eq_true rfl, Nat.le_of_ble_eq_true rfl⟩ d_1_3_12) (fun u5 H locs hp6 V => ?_)
  obtain ⟨hI, hu12, y8, hO7, b9, b10⟩ := hp6
  replace hO7 : u5[1]? = (some (q 1, .inr (1, [.ref (q 2), .int 4100, .int y8])) : Option (Nat × va_E)) := hO7
  replace b9 : q_F (0 ≤ y8.toInt) := b9
  replace b10 : q_F (y8.toInt ≤ 0) := b10
  replace hO1 := (hu12 _ (by decide)).trans hO1
  replace hF := q_uc hF hu12 (by simp)
  refine lv_iload_n hx hb d_1_3_15 rfl (lv_at hl 0 rfl) ?_
  exact q_reti C0 V (⟨hI, hF, (show 0 ≤ y3.toInt from (by have t1 : 0 ≤ y3.toInt ∧ y3.toInt ≤ 4100 := b4; omega)), (show y3.toInt ≤ 4100 from (by have t1 : 0 ≤ y3.toInt ∧ y3.toInt ≤ 4100 := b4; omega))⟩) d_1_3_16
theorem d_1_2_0 : decode prog_1_method_2_code 0 = .ok (.iload_n 1, 1) := by decide +kernel
theorem d_1_2_1 : decode prog_1_method_2_code 1 = .ok (.iconst 1, 1) := by decide +kernel
theorem d_1_2_15 : decode prog_1_method_2_code 15 = .ok (.iconst 0, 1) := by decide +kernel
theorem d_1_2_16 : decode prog_1_method_2_code 16 = .ok (.invokestatic 104, 3) := by decide +kernel
theorem w_493 : (Cond.code ({ cls := "NumberHouse", name := "need", desc := "(Z)V" } : MethodName) prog_1_method_36_code (1 : Nat) (none : Option ClassFile.FieldType)) ∈ q_tbl := q_of 493 (by decide +kernel) (by decide +kernel)
theorem w_1 : (Cond.initialized "NumberHouse") ∈ q_tbl := q_of 1 (by decide +kernel) (by decide +kernel)
theorem w_491 : (Cond.methodLink "NumberHouse" (104 : Nat) ({ cls := "NumberHouse", name := "need", desc := "(Z)V" } : MethodName)) ∈ q_tbl := q_of 491 (by decide +kernel) (by decide +kernel)
theorem w_492 : (Cond.static ({ cls := "NumberHouse", name := "need", desc := "(Z)V" } : MethodName)) ∈ q_tbl := q_of 492 (by decide +kernel) (by decide +kernel)
theorem LS_NH_104 : q_LS "NumberHouse" 104 y_NH_need prog_1_method_36_code 1 none 1 := ⟨w_493, w_1, w_491, w_492, ⟨by decide, by decide, by decide +kernel⟩⟩
theorem d_1_2_2 : decode prog_1_method_2_code 2 = .ok (.if_icmp .lt 13, 3) := by decide +kernel
theorem d_1_2_5 : decode prog_1_method_2_code 5 = .ok (.iload_n 1, 1) := by decide +kernel
theorem d_1_2_6 : decode prog_1_method_2_code 6 = .ok (.bipush 8, 2) := by decide +kernel
theorem d_1_2_8 : decode prog_1_method_2_code 8 = .ok (.if_icmp .gt 7, 3) := by decide +kernel
theorem d_1_2_11 : decode prog_1_method_2_code 11 = .ok (.iconst 1, 1) := by decide +kernel
theorem d_1_2_12 : decode prog_1_method_2_code 12 = .ok (.goto 4, 3) := by decide +kernel
theorem d_1_2_19 : decode prog_1_method_2_code 19 = .ok (.aload_n 0, 1) := by decide +kernel
theorem d_1_2_20 : decode prog_1_method_2_code 20 = .ok (.getfield 14, 3) := by decide +kernel
theorem d_1_2_23 : decode prog_1_method_2_code 23 = .ok (.getfield 108, 3) := by decide +kernel
theorem d_1_2_26 : decode prog_1_method_2_code 26 = .ok (.iload_n 1, 1) := by decide +kernel
theorem d_1_2_27 : decode prog_1_method_2_code 27 = .ok (.iadd, 1) := by decide +kernel
theorem d_1_2_28 : decode prog_1_method_2_code 28 = .ok (.sipush 4100, 3) := by decide +kernel
theorem d_1_2_31 : decode prog_1_method_2_code 31 = .ok (.if_icmp .le 5, 3) := by decide +kernel
theorem d_1_2_36 : decode prog_1_method_2_code 36 = .ok (.iconst 0, 1) := by decide +kernel
theorem d_1_2_37 : decode prog_1_method_2_code 37 = .ok (.istore 4, 2) := by decide +kernel
theorem d_1_2_39 : decode prog_1_method_2_code 39 = .ok (.iload 4, 2) := by decide +kernel
theorem d_1_2_41 : decode prog_1_method_2_code 41 = .ok (.iload_n 1, 1) := by decide +kernel
theorem d_1_2_42 : decode prog_1_method_2_code 42 = .ok (.if_icmp .ge 28, 3) := by decide +kernel
theorem d_1_2_70 : decode prog_1_method_2_code 70 = .ok (.aload_n 0, 1) := by decide +kernel
theorem d_1_2_71 : decode prog_1_method_2_code 71 = .ok (.getfield 14, 3) := by decide +kernel
theorem d_1_2_74 : decode prog_1_method_2_code 74 = .ok (.getfield 108, 3) := by decide +kernel
theorem d_1_2_77 : decode prog_1_method_2_code 77 = .ok (.ireturn, 1) := by decide +kernel
theorem d_1_2_45 : decode prog_1_method_2_code 45 = .ok (.aload_n 0, 1) := by decide +kernel
theorem d_1_2_46 : decode prog_1_method_2_code 46 = .ok (.getfield 14, 3) := by decide +kernel
theorem d_1_2_49 : decode prog_1_method_2_code 49 = .ok (.lload_n 2, 1) := by decide +kernel
theorem d_1_2_50 : decode prog_1_method_2_code 50 = .ok (.bipush 8, 2) := by decide +kernel
theorem d_1_2_52 : decode prog_1_method_2_code 52 = .ok (.iload 4, 2) := by decide +kernel
theorem d_1_2_54 : decode prog_1_method_2_code 54 = .ok (.imul, 1) := by decide +kernel
theorem d_1_2_55 : decode prog_1_method_2_code 55 = .ok (.lushr, 1) := by decide +kernel
theorem d_1_2_56 : decode prog_1_method_2_code 56 = .ok (.l2i, 1) := by decide +kernel
theorem d_1_2_57 : decode prog_1_method_2_code 57 = .ok (.sipush 255, 3) := by decide +kernel
theorem d_1_2_60 : decode prog_1_method_2_code 60 = .ok (.iand, 1) := by decide +kernel
theorem d_1_2_61 : decode prog_1_method_2_code 61 = .ok (.invokevirtual 112, 3) := by decide +kernel
theorem w_561 : (Cond.methodLink "NumberHouse" (112 : Nat) ({ cls := "NumberHouse$Sheet", name := "add", desc := "(I)V" } : MethodName)) ∈ q_tbl := q_of 561 (by decide +kernel) (by decide +kernel)
theorem LV_NH_112 : q_LV "NumberHouse" 112 y_She_add prog_11_method_3_code 3 none 1 := ⟨w_564, w_2, w_561, w_562, w_563, ⟨by decide, by decide, by decide +kernel⟩⟩
theorem d_1_2_64 : decode prog_1_method_2_code 64 = .ok (.iinc 4 1, 3) := by decide +kernel
theorem d_1_2_67 : decode prog_1_method_2_code 67 = .ok (.goto (-28), 3) := by decide +kernel
theorem d_1_2_34 : decode prog_1_method_2_code 34 = .ok (.iconst (-1), 1) := by decide +kernel
theorem d_1_2_35 : decode prog_1_method_2_code 35 = .ok (.ireturn, 1) := by decide +kernel
def y_NH_feed : MethodName := ⟨"NumberHouse", "feed", "(IJ)I"⟩
set_option maxRecDepth 100000 in
set_option maxHeartbeats 4000000 in
theorem T_NH_feed (l : Launch) (D : va_G) (g : Nat → ClassId) (q : Nat → Nat) (ws : va_W) (x2 : Int32) (x3 : Int64) (hlt : l.stackTraces = false) (hI : q_I (nsh g q) q ws) (t0_0 : Int32) (hT0 : ws[1]? = (some (q 1, .inr (1, [.ref (q 2), .int 4100, .int t0_0])) : Option (Nat × va_E))) : ∀ sz, q_Mx l y_NH_feed prog_1_method_2_code 5 (some .int) 8 1 6 D g [.ref (q 0), .int x2, .long x3] ws sz (va_Qi (fun r u => q_I (nsh g q) q u ∧ q_un ws u [1, 2] ∧ ∃ (u0_0 : Int32), u[1]? = (some (q 1, .inr (1, [.ref (q 2), .int 4100, .int u0_0])) : Option (Nat × va_E)) ∧ (0 ≤ r.toInt + 1) ∧ (1 ≤ u0_0.toInt) ∧ (u0_0.toInt ≤ 4100) ∧ (x2.toInt ≤ r.toInt + 9) ∧ (x2.toInt ≤ u0_0.toInt) ∧ (u0_0.toInt ≤ x2.toInt + 4099) ∧ (t0_0.toInt ≤ u0_0.toInt) ∧ (u0_0.toInt ≤ t0_0.toInt + 8) ∧ (r.toInt ≤ u0_0.toInt)) (q_B D g (va_A ws sz)) (va_A ws sz)) (fun E u => (E = "java/lang/IllegalArgumentException") ∧ q_I (nsh g q) q u) := by
  intro sz
  refine q_intoX (by decide) (Nat.le_of_ble_eq_true rfl) ?_
  intro p e s m below meth c ls hsz C0 V hno hl
  have hx := C0.1
  have hb := C0.2.1
  obtain ⟨yy0_0, hh0, btt0_0⟩ := n_shO hI (n_h1 g q)
  obtain ⟨rfl⟩ : t0_0 = yy0_0 := by have z := Option.some.inj (hT0.symm.trans hh0); simpa using z
  replace btt0_0 : q_F (0 ≤ t0_0.toInt ∧ t0_0.toInt ≤ 4100) := btt0_0
  have hF : q_un ws ws [1, 2] := q_u0
  have hl : lv_has ls 5 [(0, .ref (q 0)), (1, .int x2), (2, .long x3)] := hl
  refine lv_iload_n hx hb d_1_2_0 rfl (lv_at hl 1 rfl) ?_
  refine lv_iconst (v := 1) hx hb d_1_2_1 (by decide) ?_
  refine q_join (X := Unit) (fun z H locs ls _ => q_Wd D g (va_A ws sz) s ws H locs ∧ lv_has ls 5 [(0, .ref (q 0)), (1, .int x2), (2, .long x3)]) (fun z => []) 15 0 0 ?_ ?_
  ·
    rintro _ H locs ls _ ⟨V, hl⟩
    replace hl : lv_has ls 5 [(0, .ref (q 0)), (1, .int x2), (2, .long x3)] := hl
    refine lv_iconst (v := 0) hx hb d_1_2_15 (by decide) ?_
    refine q_goxv V (q_runSX (As := [.int 0]) (rest := []) (d := 7) (mc := 1) (ms := 6) C0 V rfl LS_NH_104 (T_NH_need l D g q ws  0 hlt hI  ⟨(by have y0 : (0 : Int32).toInt = 0 := rfl; omega), (by have y0 : (0 : Int32).toInt = 0 := rfl; omega)⟩ _) rfl hl.1 rfl (Nat.le_of_ble_eq_true rfl) ⟨by decide, by decide⟩ ⟨Nat.le_of_ble_eq_true rfl, Nat.le_of_ble_eq_true rfl⟩ d_1_2_16) (fun qx Ex ce u6 H locs hp7 V hce hcv hcl => ?_) (fun u6 H locs hp7 V => ?_)
    ·
      obtain ⟨he9, hI8⟩ := hp7
      subst he9
      exact q_outT hno C0 V ⟨rfl, hI8⟩ hce hcv hcl (Nat.le_of_ble_eq_true rfl) (Nat.le_of_ble_eq_true rfl)
    ·
      obtain ⟨rfl, b10⟩ := hp7
      exact absurd b10 (by decide)
  ·
    intro J5
    refine lv_icmp_lt (tgt := 15) hx hb d_1_2_2 (by decide) (fun c12 => ?_) (fun c12 => ?_)
    ·
      have b13 : q_F (x2.toInt < 1) := (q_ltI c12)
      exact J5 (()) _ _ _ ws ⟨V, q_lw hl (q_lw1 0 rfl (q_lw1 1 rfl (q_lw1 2 rfl q_lw0)))⟩
    ·
      have b14 : q_F (1 ≤ x2.toInt) := (q_nltI c12)
      refine lv_iload_n hx hb d_1_2_5 rfl (lv_at hl 1 rfl) ?_
      refine lv_bipush (v := 8) hx hb d_1_2_6 (by decide) ?_
      refine lv_icmp_gt (tgt := 15) hx hb d_1_2_8 (by decide) (fun c15 => ?_) (fun c15 => ?_)
      ·
        have b16 : q_F (8 < x2.toInt) := (q_ltI c15)
        exact J5 (()) _ _ _ ws ⟨V, q_lw hl (q_lw1 0 rfl (q_lw1 1 rfl (q_lw1 2 rfl q_lw0)))⟩
      ·
        have b17 : q_F (x2.toInt ≤ 8) := (q_nltI c15)
        refine lv_iconst (v := 1) hx hb d_1_2_11 (by decide) ?_
        refine lv_goto (tgt := 16) hx hb d_1_2_12 (by decide) ?_
        refine q_goxv V (q_runSX (As := [.int 1]) (rest := []) (d := 7) (mc := 1) (ms := 6) C0 V rfl LS_NH_104 (T_NH_need l D g q ws  1 hlt hI  ⟨(by have y0 : (1 : Int32).toInt = 1 := rfl; omega), (by have y0 : (1 : Int32).toInt = 1 := rfl; omega)⟩ _) rfl hl.1 rfl (Nat.le_of_ble_eq_true rfl) ⟨by decide, by decide⟩ ⟨Nat.le_of_ble_eq_true rfl, Nat.le_of_ble_eq_true rfl⟩ d_1_2_16) (fun qx Ex ce u18 H locs hp19 V hce hcv hcl => ?_) (fun u18 H locs hp19 V => ?_)
        ·
          obtain ⟨he21, hI20⟩ := hp19
          subst he21
          exact q_outT hno C0 V ⟨rfl, hI20⟩ hce hcv hcl (Nat.le_of_ble_eq_true rfl) (Nat.le_of_ble_eq_true rfl)
        ·
          obtain ⟨rfl, b22⟩ := hp19
          refine lv_aload_n hx hb d_1_2_19 rfl (lv_at hl 0 rfl) ?_
          have hO24 := n_o0 hI
          refine q_get (ci := 0) (j := 0) (v := .ref (q 1)) C0 V i_NH rfl rfl hO24 (by decide) w_424 rfl d_1_2_20 ?_
          refine q_get (ci := 1) (j := 2) (v := .int t0_0) C0 V i_She rfl rfl hT0 (by decide) w_56 rfl d_1_2_23 ?_
          refine lv_iload_n hx hb d_1_2_26 rfl (lv_at hl 1 rfl) ?_
          refine lv_iadd hx hb d_1_2_27 ?_
          obtain ⟨a25, e26⟩ := q_nm (t0_0 + x2 : Int32)
          refine q_ti (v := a25) e26 ?_
          have b27 : q_F (a25.toInt = t0_0.toInt + x2.toInt) := (by rw [← e26]; show (t0_0 + x2 : Int32).toInt = t0_0.toInt + x2.toInt; exact q_addI (x := t0_0.toInt) (y := x2.toInt) rfl rfl (by have t1 : 0 ≤ t0_0.toInt ∧ t0_0.toInt ≤ 4100 := btt0_0; have t2 : 1 ≤ x2.toInt := b14; have t3 : x2.toInt ≤ 8 := b17; omega) (by have t1 : 0 ≤ t0_0.toInt ∧ t0_0.toInt ≤ 4100 := btt0_0; have t2 : 1 ≤ x2.toInt := b14; have t3 : x2.toInt ≤ 8 := b17; omega))
          refine lv_sipush (v := 4100) hx hb d_1_2_28 (by decide) ?_
          refine lv_icmp_le (tgt := 36) hx hb d_1_2_31 (by decide) (fun c28 => ?_) (fun c28 => ?_)
          ·
            have b29 : q_F (a25.toInt ≤ 4100) := (q_leI c28)
            refine lv_iconst (v := 0) hx hb d_1_2_36 (by decide) ?_
            refine lv_istore (lv' := [(4, .int 0), (0, .ref (q 0)), (1, .int x2), (2, .long x3)]) hx hb d_1_2_37 hl (by decide) rfl (fun ls hl => ?_)
            refine q_loop (X := Int32 × Int32) (fun z H locs ls w39 => q_F (z.1.toInt ≤ 8) ∧ q_F (z.2.toInt ≤ 4100) ∧ q_F (t0_0.toInt ≤ z.1.toInt + z.2.toInt) ∧ q_F (z.2.toInt ≤ z.1.toInt + t0_0.toInt) ∧ q_F (z.1.toInt + t0_0.toInt ≤ z.2.toInt) ∧ q_Wd D g (va_A ws sz) s w39 H locs ∧ lv_has ls 5 [(4, .int z.1), (0, .ref (q 0)), (1, .int x2), (2, .long x3)] ∧ q_I (nsh g q) q w39 ∧ q_un ws w39 [1, 2] ∧ w39[1]? = (some (q 1, .inr (1, [.ref (q 2), .int 4100, .int z.2])) : Option (Nat × va_E))) (fun z => (8 - z.1.toInt).toNat) ?_ ((0 : Int32), (t0_0 : Int32)) _ _ _ ws ⟨(show q_F (0 ≤ 8) from (show 0 ≤ 8 from by omega)), (show q_F (t0_0.toInt ≤ 4100) from (show t0_0.toInt ≤ 4100 from by have t1 : 0 ≤ t0_0.toInt ∧ t0_0.toInt ≤ 4100 := btt0_0; omega)), (show q_F (t0_0.toInt ≤ 0 + t0_0.toInt) from (show t0_0.toInt ≤ 0 + t0_0.toInt from by omega)), (show q_F (t0_0.toInt ≤ 0 + t0_0.toInt) from (show t0_0.toInt ≤ 0 + t0_0.toInt from by omega)), (show q_F (0 + t0_0.toInt ≤ t0_0.toInt) from (show 0 + t0_0.toInt ≤ t0_0.toInt from by omega)), V, q_lw hl (q_lw1 0 rfl (q_lw1 1 rfl (q_lw1 2 rfl (q_lw1 3 rfl q_lw0)))), hI, hF, hT0⟩
            rintro ⟨lx31, lx32⟩ H locs ls w39 ⟨i33, i34, i35, i36, i37, V, hl, hI, hF, hO40⟩ ih38
            replace i33 : q_F (lx31.toInt ≤ 8) := i33
            replace i34 : q_F (lx32.toInt ≤ 4100) := i34
            replace i35 : q_F (t0_0.toInt ≤ lx31.toInt + lx32.toInt) := i35
            replace i36 : q_F (lx32.toInt ≤ lx31.toInt + t0_0.toInt) := i36
            replace i37 : q_F (lx31.toInt + t0_0.toInt ≤ lx32.toInt) := i37
            replace hl : lv_has ls 5 [(4, .int lx31), (0, .ref (q 0)), (1, .int x2), (2, .long x3)] := hl
            replace hO40 : w39[1]? = (some (q 1, .inr (1, [.ref (q 2), .int 4100, .int lx32])) : Option (Nat × va_E)) := hO40
            refine lv_iload hx hb d_1_2_39 (lv_at hl 0 rfl) ?_
            refine lv_iload_n hx hb d_1_2_41 rfl (lv_at hl 2 rfl) ?_
            refine lv_icmp_ge (tgt := 70) hx hb d_1_2_42 (by decide) (fun c41 => ?_) (fun c41 => ?_)
            ·
              have b42 : q_F (x2.toInt ≤ lx31.toInt) := (q_leI c41)
              refine lv_aload_n hx hb d_1_2_70 rfl (lv_at hl 1 rfl) ?_
              have hO43 := n_o0 hI
              refine q_get (ci := 0) (j := 0) (v := .ref (q 1)) C0 V i_NH rfl rfl hO43 (by decide) w_424 rfl d_1_2_71 ?_
              refine q_get (ci := 1) (j := 2) (v := .int lx32) C0 V i_She rfl rfl hO40 (by decide) w_56 rfl d_1_2_74 ?_
              exact q_retX (q_reti C0 V (⟨hI, hF, lx32, hO40, (show 0 ≤ lx32.toInt + 1 from (by have t1 : 0 ≤ t0_0.toInt ∧ t0_0.toInt ≤ 4100 := btt0_0; have t2 : t0_0.toInt ≤ lx31.toInt + lx32.toInt := i35; have t3 : lx31.toInt + t0_0.toInt ≤ lx32.toInt := i37; omega)), (show 1 ≤ lx32.toInt from (by have t1 : 0 ≤ t0_0.toInt ∧ t0_0.toInt ≤ 4100 := btt0_0; have t2 : 1 ≤ x2.toInt := b14; have t3 : lx31.toInt + t0_0.toInt ≤ lx32.toInt := i37; have t4 : x2.toInt ≤ lx31.toInt := b42; omega)), (show lx32.toInt ≤ 4100 from (by have t1 : lx32.toInt ≤ 4100 := i34; omega)), (show x2.toInt ≤ lx32.toInt + 9 from (by have t1 : 0 ≤ t0_0.toInt ∧ t0_0.toInt ≤ 4100 := btt0_0; have t2 : x2.toInt ≤ 8 := b17; have t3 : t0_0.toInt ≤ lx31.toInt + lx32.toInt := i35; have t4 : lx31.toInt + t0_0.toInt ≤ lx32.toInt := i37; omega)), (show x2.toInt ≤ lx32.toInt from (by have t1 : 0 ≤ t0_0.toInt ∧ t0_0.toInt ≤ 4100 := btt0_0; have t2 : lx31.toInt + t0_0.toInt ≤ lx32.toInt := i37; have t3 : x2.toInt ≤ lx31.toInt := b42; omega)), (show lx32.toInt ≤ x2.toInt + 4099 from (by have t1 : 1 ≤ x2.toInt := b14; have t2 : lx32.toInt ≤ 4100 := i34; omega)), (show t0_0.toInt ≤ lx32.toInt from (by have t1 : t0_0.toInt ≤ lx31.toInt + lx32.toInt := i35; have t2 : lx31.toInt + t0_0.toInt ≤ lx32.toInt := i37; omega)), (show lx32.toInt ≤ t0_0.toInt + 8 from (by have t1 : lx31.toInt ≤ 8 := i33; have t2 : lx32.toInt ≤ lx31.toInt + t0_0.toInt := i36; omega)), (show lx32.toInt ≤ lx32.toInt from (by omega))⟩) d_1_2_77)
            ·
              have b44 : q_F (lx31.toInt < x2.toInt) := (q_nleI c41)
              refine lv_aload_n hx hb d_1_2_45 rfl (lv_at hl 1 rfl) ?_
              have hO45 := n_o0 hI
              refine q_get (ci := 0) (j := 0) (v := .ref (q 1)) C0 V i_NH rfl rfl hO45 (by decide) w_424 rfl d_1_2_46 ?_
              refine lv_lload_n hx hb d_1_2_49 rfl (lv_at hl 3 rfl) ?_
              refine lv_bipush (v := 8) hx hb d_1_2_50 (by decide) ?_
              refine lv_iload hx hb d_1_2_52 (lv_at hl 0 rfl) ?_
              refine lv_imul hx hb d_1_2_54 ?_
              obtain ⟨a46, e47⟩ := q_nm (8 * lx31 : Int32)
              refine q_ti (v := a46) e47 ?_
              have b48 : q_F (a46.toInt = 8 * lx31.toInt) := (by rw [← e47]; show (8 * lx31 : Int32).toInt = 8 * lx31.toInt; exact q_mulI (x := 8) (y := lx31.toInt) (by decide) rfl (by have t1 : t0_0.toInt ≤ lx31.toInt + lx32.toInt := i35; have t2 : lx32.toInt ≤ lx31.toInt + t0_0.toInt := i36; have t3 : lx31.toInt ≤ 8 := i33; omega) (by have t1 : t0_0.toInt ≤ lx31.toInt + lx32.toInt := i35; have t2 : lx32.toInt ≤ lx31.toInt + t0_0.toInt := i36; have t3 : lx31.toInt ≤ 8 := i33; omega))
              refine lv_lushr hx hb d_1_2_55 rfl ?_
              obtain ⟨j49, e50⟩ := q_nm ((x3.toUInt64 >>> (a46.toInt64.toUInt64 &&& Int64.toUInt64 63)).toInt64 : Int64)
              refine q_tl (v := j49) e50 ?_
              refine lv_l2i hx hb d_1_2_56 rfl ?_
              obtain ⟨a51, e52⟩ := q_nm (j49.toInt32 : Int32)
              refine q_ti (v := a51) e52 ?_
              refine lv_sipush (v := 255) hx hb d_1_2_57 (by decide) ?_
              refine lv_iand hx hb d_1_2_60 ?_
              obtain ⟨a53, e54⟩ := q_nm (a51 &&& 255 : Int32)
              refine q_ti (v := a53) e54 ?_
              have b55 : q_F (0 ≤ a53.toInt ∧ a53.toInt ≤ 255) := (by rw [← e54]; show 0 ≤ (a51 &&& 255 : Int32).toInt ∧ (a51 &&& 255 : Int32).toInt ≤ 255; exact s_and (by decide))
              refine q_gov V (q_runV (As := [.int a53]) (rest := []) (d := 1) (mc := 0) (ms := 0) (ci := 1) C0 V rfl LV_NH_112 (T_She_add l D g q w39 1 4100 513 4100 (n_h1 g q) a53 hI lx32 hO40 (by have y0 : (4100 : Int32).toInt = 4100 := rfl; have y1 : (513 : Int32).toInt = 513 := rfl; have y2 : (4100 : Int32).toInt = 4100 := rfl; have t1 : a25.toInt = t0_0.toInt + x2.toInt := b27; have t2 : a25.toInt ≤ 4100 := b29; have t3 : lx32.toInt ≤ lx31.toInt + t0_0.toInt := i36; have t4 : lx31.toInt < x2.toInt := b44; omega) _) rfl rfl hO40 rfl hl.1 rfl (Nat.le_of_ble_eq_true rfl) ⟨by decide, by decide⟩ ⟨Nat.le_of_ble_eq_true rfl, Nat.le_of_ble_eq_true rfl⟩ d_1_2_61) (fun u56 H locs hp57 V => ?_)
              obtain ⟨hI, hu63, y59, hO58, b60, b61⟩ := hp57
              replace hO58 : u56[1]? = (some (q 1, .inr (1, [.ref (q 2), .int 4100, .int y59])) : Option (Nat × va_E)) := hO58
              replace b60 : q_F (lx32.toInt + 1 ≤ y59.toInt) := b60
              replace b61 : q_F (y59.toInt ≤ lx32.toInt + 1) := b61
              replace hO45 := (hu63 _ (by decide)).trans hO45
              replace hF := q_uc hF hu63 (by simp)
              obtain ⟨a64, e65⟩ := q_nm (lx31 + 1 : Int32)
              have b66 : q_F (a64.toInt = lx31.toInt + 1) := (by rw [← e65]; exact q_addI (y := 1) rfl (by decide) (by have t1 : t0_0.toInt ≤ lx31.toInt + lx32.toInt := i35; have t2 : lx32.toInt ≤ lx31.toInt + t0_0.toInt := i36; have t3 : lx31.toInt ≤ 8 := i33; omega) (by have t1 : t0_0.toInt ≤ lx31.toInt + lx32.toInt := i35; have t2 : lx32.toInt ≤ lx31.toInt + t0_0.toInt := i36; have t3 : lx31.toInt ≤ 8 := i33; omega))
              refine lv_iinc (v := a64) (lv' := [(4, .int a64), (0, .ref (q 0)), (1, .int x2), (2, .long x3)]) hx hb d_1_2_64 hl (k := 0) rfl (e65) (by decide) rfl (fun ls hl => ?_)
              refine lv_goto (tgt := 39) hx hb d_1_2_67 (by decide) ?_
              exact ih38 ((a64 : Int32), (y59 : Int32)) _ _ _ _ (show (8 - a64.toInt).toNat < (8 - lx31.toInt).toNat from by have t1 : a64.toInt = lx31.toInt + 1 := b66; have t2 : lx31.toInt ≤ 8 := i33; have t3 : x2.toInt ≤ 8 := b17; have t4 : lx31.toInt < x2.toInt := b44; omega) ⟨(show q_F (a64.toInt ≤ 8) from (show a64.toInt ≤ 8 from by have t1 : x2.toInt ≤ 8 := b17; have t2 : lx31.toInt < x2.toInt := b44; have t3 : a64.toInt = lx31.toInt + 1 := b66; omega)), (show q_F (y59.toInt ≤ 4100) from (show y59.toInt ≤ 4100 from by have t1 : a25.toInt = t0_0.toInt + x2.toInt := b27; have t2 : a25.toInt ≤ 4100 := b29; have t3 : lx32.toInt ≤ lx31.toInt + t0_0.toInt := i36; have t4 : lx31.toInt < x2.toInt := b44; have t5 : y59.toInt ≤ lx32.toInt + 1 := b61; omega)), (show q_F (t0_0.toInt ≤ a64.toInt + y59.toInt) from (show t0_0.toInt ≤ a64.toInt + y59.toInt from by have t1 : t0_0.toInt ≤ lx31.toInt + lx32.toInt := i35; have t2 : lx32.toInt + 1 ≤ y59.toInt := b60; have t3 : a64.toInt = lx31.toInt + 1 := b66; omega)), (show q_F (y59.toInt ≤ a64.toInt + t0_0.toInt) from (show y59.toInt ≤ a64.toInt + t0_0.toInt from by have t1 : lx32.toInt ≤ lx31.toInt + t0_0.toInt := i36; have t2 : y59.toInt ≤ lx32.toInt + 1 := b61; have t3 : a64.toInt = lx31.toInt + 1 := b66; omega)), (show q_F (a64.toInt + t0_0.toInt ≤ y59.toInt) from (show a64.toInt + t0_0.toInt ≤ y59.toInt from by have t1 : lx31.toInt + t0_0.toInt ≤ lx32.toInt := i37; have t2 : lx32.toInt + 1 ≤ y59.toInt := b60; have t3 : a64.toInt = lx31.toInt + 1 := b66; omega)), V, q_lw hl (q_lw1 0 rfl (q_lw1 1 rfl (q_lw1 2 rfl (q_lw1 3 rfl q_lw0)))), hI, hF, hO58⟩
          ·
            have b67 : q_F (4100 < a25.toInt) := (q_nleI c28)
            refine lv_iconst (v := (-1)) hx hb d_1_2_34 (by decide) ?_
            exact q_retX (q_reti C0 V (⟨hI, hF, t0_0, hT0, (show 0 ≤ (-1 : Int32).toInt + 1 from (by have z3 : (-1 : Int32).toInt = -1 := rfl; omega)), (show 1 ≤ t0_0.toInt from (by have z3 : (-1 : Int32).toInt = -1 := rfl; have t1 : x2.toInt ≤ 8 := b17; have t2 : a25.toInt = t0_0.toInt + x2.toInt := b27; have t3 : 4100 < a25.toInt := b67; omega)), (show t0_0.toInt ≤ 4100 from (by have z3 : (-1 : Int32).toInt = -1 := rfl; have t1 : 0 ≤ t0_0.toInt ∧ t0_0.toInt ≤ 4100 := btt0_0; omega)), (show x2.toInt ≤ (-1 : Int32).toInt + 9 from (by have z3 : (-1 : Int32).toInt = -1 := rfl; have t1 : x2.toInt ≤ 8 := b17; omega)), (show x2.toInt ≤ t0_0.toInt from (by have z3 : (-1 : Int32).toInt = -1 := rfl; have t1 : x2.toInt ≤ 8 := b17; have t2 : a25.toInt = t0_0.toInt + x2.toInt := b27; have t3 : 4100 < a25.toInt := b67; omega)), (show t0_0.toInt ≤ x2.toInt + 4099 from (by have z3 : (-1 : Int32).toInt = -1 := rfl; have t1 : 0 ≤ t0_0.toInt ∧ t0_0.toInt ≤ 4100 := btt0_0; have t2 : 1 ≤ x2.toInt := b14; omega)), (show t0_0.toInt ≤ t0_0.toInt from (by have z3 : (-1 : Int32).toInt = -1 := rfl; omega)), (show t0_0.toInt ≤ t0_0.toInt + 8 from (by have z3 : (-1 : Int32).toInt = -1 := rfl; omega)), (show (-1 : Int32).toInt ≤ t0_0.toInt from (by have z3 : (-1 : Int32).toInt = -1 := rfl; have t1 : 0 ≤ t0_0.toInt ∧ t0_0.toInt ≤ 4100 := btt0_0; omega))⟩) d_1_2_35)
theorem d_1_21_0 : decode prog_1_method_21_code 0 = .ok (.lconst 0, 1) := by decide +kernel
theorem d_1_21_1 : decode prog_1_method_21_code 1 = .ok (.lstore_n 2, 1) := by decide +kernel
theorem d_1_21_2 : decode prog_1_method_21_code 2 = .ok (.iconst 0, 1) := by decide +kernel
theorem d_1_21_3 : decode prog_1_method_21_code 3 = .ok (.istore 4, 2) := by decide +kernel
theorem d_1_21_5 : decode prog_1_method_21_code 5 = .ok (.iload 4, 2) := by decide +kernel
theorem d_1_21_7 : decode prog_1_method_21_code 7 = .ok (.bipush 8, 2) := by decide +kernel
theorem d_1_21_9 : decode prog_1_method_21_code 9 = .ok (.if_icmp .ge 32, 3) := by decide +kernel
theorem d_1_21_41 : decode prog_1_method_21_code 41 = .ok (.lload_n 2, 1) := by decide +kernel
theorem d_1_21_42 : decode prog_1_method_21_code 42 = .ok (.lreturn, 1) := by decide +kernel
theorem d_1_21_12 : decode prog_1_method_21_code 12 = .ok (.lload_n 2, 1) := by decide +kernel
theorem d_1_21_13 : decode prog_1_method_21_code 13 = .ok (.aload_n 0, 1) := by decide +kernel
theorem d_1_21_14 : decode prog_1_method_21_code 14 = .ok (.getfield 18, 3) := by decide +kernel
theorem d_1_21_17 : decode prog_1_method_21_code 17 = .ok (.iload_n 1, 1) := by decide +kernel
theorem d_1_21_18 : decode prog_1_method_21_code 18 = .ok (.i2l, 1) := by decide +kernel
theorem d_1_21_19 : decode prog_1_method_21_code 19 = .ok (.iload 4, 2) := by decide +kernel
theorem d_1_21_21 : decode prog_1_method_21_code 21 = .ok (.i2l, 1) := by decide +kernel
theorem d_1_21_22 : decode prog_1_method_21_code 22 = .ok (.ladd, 1) := by decide +kernel
theorem d_1_21_23 : decode prog_1_method_21_code 23 = .ok (.invokevirtual 366, 3) := by decide +kernel
theorem w_479 : (Cond.methodLink "NumberHouse" (366 : Nat) ({ cls := "NumberHouse$Sheet", name := "at", desc := "(J)I" } : MethodName)) ∈ q_tbl := q_of 479 (by decide +kernel) (by decide +kernel)
theorem LV_NH_366 : q_LV "NumberHouse" 366 y_She_at prog_11_method_8_code 3 (some .int) 1 := ⟨w_482, w_2, w_479, w_480, w_481, ⟨by decide, by decide, by decide +kernel⟩⟩
theorem d_1_21_26 : decode prog_1_method_21_code 26 = .ok (.i2l, 1) := by decide +kernel
theorem d_1_21_27 : decode prog_1_method_21_code 27 = .ok (.bipush 8, 2) := by decide +kernel
theorem d_1_21_29 : decode prog_1_method_21_code 29 = .ok (.iload 4, 2) := by decide +kernel
theorem d_1_21_31 : decode prog_1_method_21_code 31 = .ok (.imul, 1) := by decide +kernel
theorem d_1_21_32 : decode prog_1_method_21_code 32 = .ok (.lshl, 1) := by decide +kernel
theorem d_1_21_33 : decode prog_1_method_21_code 33 = .ok (.lor, 1) := by decide +kernel
theorem d_1_21_34 : decode prog_1_method_21_code 34 = .ok (.lstore_n 2, 1) := by decide +kernel
theorem d_1_21_35 : decode prog_1_method_21_code 35 = .ok (.iinc 4 1, 3) := by decide +kernel
theorem d_1_21_38 : decode prog_1_method_21_code 38 = .ok (.goto (-33), 3) := by decide +kernel
def y_NH_paperAt : MethodName := ⟨"NumberHouse", "paperAt", "(I)J"⟩
set_option maxRecDepth 100000 in
set_option maxHeartbeats 4000000 in
theorem T_NH_paperAt (l : Launch) (D : va_G) (g : Nat → ClassId) (q : Nat → Nat) (ws : va_W) (x2 : Int32) (hI : q_I (nsh g q) q ws) : q_mL l y_NH_paperAt prog_1_method_21_code 5 2 0 0 D g [.ref (q 0), .int x2] ws (fun r u => ws = u ∧ True) := by
  intro sz
  refine q_into (by decide) (Nat.le_of_ble_eq_true rfl) ?_
  intro p e s m below meth c ls hsz C0 V hl
  have hx := C0.1
  have hb := C0.2.1
  have hl : lv_has ls 5 [(0, .ref (q 0)), (1, .int x2)] := hl
  refine lv_lconst (v := 0) hx hb d_1_21_0 (by decide) ?_
  refine lv_lstore_n (lv' := [(2, .long 0), (0, .ref (q 0)), (1, .int x2)]) hx hb d_1_21_1 rfl hl (by decide) rfl (fun ls hl => ?_)
  refine lv_iconst (v := 0) hx hb d_1_21_2 (by decide) ?_
  refine lv_istore (lv' := [(4, .int 0), (2, .long 0), (0, .ref (q 0)), (1, .int x2)]) hx hb d_1_21_3 hl (by decide) rfl (fun ls hl => ?_)
  refine q_loop (X := Int32 × Int64) (fun z H locs ls _ => q_F (0 ≤ z.1.toInt) ∧ q_F (z.1.toInt ≤ 8) ∧ q_Wd D g (va_A ws sz) s ws H locs ∧ lv_has ls 5 [(4, .int z.1), (2, .long z.2), (0, .ref (q 0)), (1, .int x2)]) (fun z => (8 - z.1.toInt).toNat) ?_ ((0 : Int32), (0 : Int64)) _ _ _ ws ⟨(show q_F (0 ≤ 0) from (show 0 ≤ 0 from by omega)), (show q_F (0 ≤ 8) from (show 0 ≤ 8 from by omega)), V, q_lw hl (q_lw1 0 rfl (q_lw1 1 rfl (q_lw1 2 rfl (q_lw1 3 rfl q_lw0))))⟩
  rintro ⟨lx3, lx4⟩ H locs ls _ ⟨i5, i6, V, hl⟩ ih7
  replace i5 : q_F (0 ≤ lx3.toInt) := i5
  replace i6 : q_F (lx3.toInt ≤ 8) := i6
  replace hl : lv_has ls 5 [(4, .int lx3), (2, .long lx4), (0, .ref (q 0)), (1, .int x2)] := hl
  refine lv_iload hx hb d_1_21_5 (lv_at hl 0 rfl) ?_
  refine lv_bipush (v := 8) hx hb d_1_21_7 (by decide) ?_
  refine lv_icmp_ge (tgt := 41) hx hb d_1_21_9 (by decide) (fun c8 => ?_) (fun c8 => ?_)
  ·
    have b9 : q_F (8 ≤ lx3.toInt) := (q_leI c8)
    refine lv_lload_n hx hb d_1_21_41 rfl (lv_at hl 1 rfl) ?_
    exact q_retl C0 V (⟨rfl, trivial⟩) d_1_21_42
  ·
    have b10 : q_F (lx3.toInt < 8) := (q_nleI c8)
    refine lv_lload_n hx hb d_1_21_12 rfl (lv_at hl 1 rfl) ?_
    refine lv_aload_n hx hb d_1_21_13 rfl (lv_at hl 2 rfl) ?_
    have hO11 := n_o0 hI
    refine q_get (ci := 0) (j := 1) (v := .ref (q 3)) C0 V i_NH rfl rfl hO11 (by decide) w_425 rfl d_1_21_14 ?_
    refine lv_iload_n hx hb d_1_21_17 rfl (lv_at hl 3 rfl) ?_
    refine lv_i2l hx hb d_1_21_18 rfl ?_
    obtain ⟨j12, e13⟩ := q_nm (x2.toInt64 : Int64)
    refine q_tl (v := j12) e13 ?_
    have b14 : q_F (j12.toInt = x2.toInt) := (by rw [← e13]; show (x2.toInt64 : Int64).toInt = x2.toInt; exact q_i2l rfl)
    refine lv_iload hx hb d_1_21_19 (lv_at hl 0 rfl) ?_
    refine lv_i2l hx hb d_1_21_21 rfl ?_
    obtain ⟨j15, e16⟩ := q_nm (lx3.toInt64 : Int64)
    refine q_tl (v := j15) e16 ?_
    have b17 : q_F (j15.toInt = lx3.toInt) := (by rw [← e16]; show (lx3.toInt64 : Int64).toInt = lx3.toInt; exact q_i2l rfl)
    refine lv_ladd hx hb d_1_21_22 ?_
    obtain ⟨j18, e19⟩ := q_nm (j12 + j15 : Int64)
    refine q_tl (v := j18) e19 ?_
    have b20 : q_F (j18.toInt = j12.toInt + j15.toInt) := (by rw [← e19]; show (j12 + j15 : Int64).toInt = j12.toInt + j15.toInt; exact q_addL (x := j12.toInt) (y := j15.toInt) rfl rfl (by have t1 : j12.toInt = x2.toInt := b14; have t2 : j15.toInt = lx3.toInt := b17; have _ := q_lo32 (x := lx3); have _ := q_hi32 (x := lx3); have _ := q_lo32 (x := x2); have _ := q_hi32 (x := x2); omega) (by have t1 : j12.toInt = x2.toInt := b14; have t2 : j15.toInt = lx3.toInt := b17; have _ := q_lo32 (x := lx3); have _ := q_hi32 (x := lx3); have _ := q_lo32 (x := x2); have _ := q_hi32 (x := x2); omega))
    obtain ⟨y22, hO21, b23⟩ := n_shO hI (n_h3 g q)
    replace b23 : q_F (0 ≤ y22.toInt ∧ y22.toInt ≤ 1000000) := b23
    refine q_goi V (q_runV (As := [.long j18]) (rest := [.long lx4]) (d := 1) (mc := 0) (ms := 0) (ci := 1) C0 V rfl LV_NH_366 (T_She_at l D g q ws 3 11008 1376 1000000 (n_h3 g q) j18 hI   _) rfl rfl hO21 rfl hl.1 rfl (Nat.le_of_ble_eq_true rfl) ⟨by decide, by decide⟩ ⟨Nat.le_of_ble_eq_true rfl, Nat.le_of_ble_eq_true rfl⟩ d_1_21_23) (fun a26 u24 H locs hp25 V => ?_)
    obtain ⟨rfl, b27, b28, pu29⟩ := hp25
    replace b27 : q_F (0 ≤ a26.toInt) := b27
    replace b28 : q_F (a26.toInt ≤ 255) := b28
    refine lv_i2l hx hb d_1_21_26 rfl ?_
    obtain ⟨j31, e32⟩ := q_nm (a26.toInt64 : Int64)
    refine q_tl (v := j31) e32 ?_
    have b33 : q_F (j31.toInt = a26.toInt) := (by rw [← e32]; show (a26.toInt64 : Int64).toInt = a26.toInt; exact q_i2l rfl)
    refine lv_bipush (v := 8) hx hb d_1_21_27 (by decide) ?_
    refine lv_iload hx hb d_1_21_29 (lv_at hl 0 rfl) ?_
    refine lv_imul hx hb d_1_21_31 ?_
    obtain ⟨a34, e35⟩ := q_nm (8 * lx3 : Int32)
    refine q_ti (v := a34) e35 ?_
    have b36 : q_F (a34.toInt = 8 * lx3.toInt) := (by rw [← e35]; show (8 * lx3 : Int32).toInt = 8 * lx3.toInt; exact q_mulI (x := 8) (y := lx3.toInt) (by decide) rfl (by have t1 : 0 ≤ lx3.toInt := i5; have t2 : lx3.toInt ≤ 8 := i6; omega) (by have t1 : 0 ≤ lx3.toInt := i5; have t2 : lx3.toInt ≤ 8 := i6; omega))
    refine lv_lshl hx hb d_1_21_32 rfl ?_
    obtain ⟨j37, e38⟩ := q_nm (j31 <<< (a34.toInt64 &&& 63) : Int64)
    refine q_tl (v := j37) e38 ?_
    refine lv_lor hx hb d_1_21_33 ?_
    obtain ⟨j39, e40⟩ := q_nm (lx4 ||| j37 : Int64)
    refine q_tl (v := j39) e40 ?_
    refine lv_lstore_n (lv' := [(2, .long j39), (4, .int lx3), (0, .ref (q 0)), (1, .int x2)]) hx hb d_1_21_34 rfl hl (by decide) rfl (fun ls hl => ?_)
    obtain ⟨a41, e42⟩ := q_nm (lx3 + 1 : Int32)
    have b43 : q_F (a41.toInt = lx3.toInt + 1) := (by rw [← e42]; exact q_addI (y := 1) rfl (by decide) (by have t1 : 0 ≤ lx3.toInt := i5; have t2 : lx3.toInt ≤ 8 := i6; omega) (by have t1 : 0 ≤ lx3.toInt := i5; have t2 : lx3.toInt ≤ 8 := i6; omega))
    refine lv_iinc (v := a41) (lv' := [(4, .int a41), (2, .long j39), (0, .ref (q 0)), (1, .int x2)]) hx hb d_1_21_35 hl (k := 1) rfl (e42) (by decide) rfl (fun ls hl => ?_)
    refine lv_goto (tgt := 5) hx hb d_1_21_38 (by decide) ?_
    exact ih7 ((a41 : Int32), (j39 : Int64)) _ _ _ ws (show (8 - a41.toInt).toNat < (8 - lx3.toInt).toNat from by have t1 : a41.toInt = lx3.toInt + 1 := b43; have t2 : lx3.toInt ≤ 8 := i6; have t3 : lx3.toInt < 8 := b10; omega) ⟨(show q_F (0 ≤ a41.toInt) from (show 0 ≤ a41.toInt from by have t1 : 0 ≤ lx3.toInt := i5; have t2 : a41.toInt = lx3.toInt + 1 := b43; omega)), (show q_F (a41.toInt ≤ 8) from (show a41.toInt ≤ 8 from by have t1 : lx3.toInt < 8 := b10; have t2 : a41.toInt = lx3.toInt + 1 := b43; omega)), V, q_lw hl (q_lw1 0 rfl (q_lw1 1 rfl (q_lw1 2 rfl (q_lw1 3 rfl q_lw0))))⟩
theorem d_1_20_0 : decode prog_1_method_20_code 0 = .ok (.aload_n 0, 1) := by decide +kernel
theorem d_1_20_1 : decode prog_1_method_20_code 1 = .ok (.getfield 14, 3) := by decide +kernel
theorem d_1_20_4 : decode prog_1_method_20_code 4 = .ok (.getfield 108, 3) := by decide +kernel
theorem d_1_20_7 : decode prog_1_method_20_code 7 = .ok (.sipush 256, 3) := by decide +kernel
theorem d_1_20_10 : decode prog_1_method_20_code 10 = .ok (.if_icmp .le 14, 3) := by decide +kernel
theorem d_1_20_24 : decode prog_1_method_20_code 24 = .ok (.aload_n 0, 1) := by decide +kernel
theorem d_1_20_25 : decode prog_1_method_20_code 25 = .ok (.getfield 98, 3) := by decide +kernel
theorem d_1_20_28 : decode prog_1_method_20_code 28 = .ok (.aload_n 0, 1) := by decide +kernel
theorem d_1_20_29 : decode prog_1_method_20_code 29 = .ok (.getfield 18, 3) := by decide +kernel
theorem d_1_20_32 : decode prog_1_method_20_code 32 = .ok (.invokevirtual 362, 3) := by decide +kernel
theorem w_1734 : (Cond.code ({ cls := "NumberHouse$Printer", name := "run", desc := "(LNumberHouse$Sheet;)I" } : MethodName) prog_9_method_5_code (6 : Nat) (some .int)) ∈ q_tbl := q_of 1734 (by decide +kernel) (by decide +kernel)
theorem w_1731 : (Cond.methodLink "NumberHouse" (362 : Nat) ({ cls := "NumberHouse$Printer", name := "run", desc := "(LNumberHouse$Sheet;)I" } : MethodName)) ∈ q_tbl := q_of 1731 (by decide +kernel) (by decide +kernel)
theorem w_1732 : (Cond.instanceMethod ({ cls := "NumberHouse$Printer", name := "run", desc := "(LNumberHouse$Sheet;)I" } : MethodName)) ∈ q_tbl := q_of 1732 (by decide +kernel) (by decide +kernel)
theorem w_1733 : (Cond.selects "NumberHouse$Printer" ({ cls := "NumberHouse$Printer", name := "run", desc := "(LNumberHouse$Sheet;)I" } : MethodName) ({ cls := "NumberHouse$Printer", name := "run", desc := "(LNumberHouse$Sheet;)I" } : MethodName)) ∈ q_tbl := q_of 1733 (by decide +kernel) (by decide +kernel)
theorem LV_NH_362 : q_LV "NumberHouse" 362 y_Pri_run prog_9_method_5_code 6 (some .int) 1 := ⟨w_1734, w_12, w_1731, w_1732, w_1733, ⟨by decide, by decide, by decide +kernel⟩⟩
theorem d_1_20_35 : decode prog_1_method_20_code 35 = .ok (.istore_n 1, 1) := by decide +kernel
theorem d_1_20_36 : decode prog_1_method_20_code 36 = .ok (.iload_n 1, 1) := by decide +kernel
theorem d_1_20_37 : decode prog_1_method_20_code 37 = .ok (.ifCond .lt 10, 3) := by decide +kernel
theorem d_1_20_47 : decode prog_1_method_20_code 47 = .ok (.iload_n 1, 1) := by decide +kernel
theorem d_1_20_48 : decode prog_1_method_20_code 48 = .ok (.ireturn, 1) := by decide +kernel
theorem d_1_20_40 : decode prog_1_method_20_code 40 = .ok (.aload_n 0, 1) := by decide +kernel
theorem d_1_20_41 : decode prog_1_method_20_code 41 = .ok (.getfield 14, 3) := by decide +kernel
theorem d_1_20_44 : decode prog_1_method_20_code 44 = .ok (.invokevirtual 115, 3) := by decide +kernel
theorem d_1_20_13 : decode prog_1_method_20_code 13 = .ok (.new 350, 3) := by decide +kernel
theorem d_1_20_16 : decode prog_1_method_20_code 16 = .ok (.dup, 1) := by decide +kernel
theorem d_1_20_17 : decode prog_1_method_20_code 17 = .ok (.ldc_w 360, 3) := by decide +kernel
theorem d_1_20_20 : decode prog_1_method_20_code 20 = .ok (.invokespecial 354, 3) := by decide +kernel
theorem d_1_20_23 : decode prog_1_method_20_code 23 = .ok (.athrow, 1) := by decide +kernel
theorem t_NH_354 : ∀ w ∈ Bundle.ownAtoms "NumberHouse" 354 "java/lang/IllegalStateException" ["java/lang/RuntimeException", "java/lang/Exception"], w ∈ q_tbl ∨ (w ∈ q_odd ∧ w.onTables = true) ∨ w ∈ q_four := by decide +kernel
theorem w_1688 : (Cond.classLink "NumberHouse" (350 : Nat) "java/lang/IllegalStateException") ∈ q_tbl := q_of 1688 (by decide +kernel) (by decide +kernel)
theorem w_36 : (Cond.initialized "java/lang/IllegalStateException") ∈ q_tbl := q_of 36 (by decide +kernel) (by decide +kernel)
theorem wo_1730 : (Cond.stringRef "NumberHouse" (360 : Nat) "the tape has more than 256 bytes") ∈ q_odd := q_oo 1730 (by decide +kernel) (by decide +kernel)
theorem w_1689 : (Cond.instantiable "java/lang/IllegalStateException" (6 : Nat)) ∈ q_tbl := q_of 1689 (by decide +kernel) (by decide +kernel)
def y_NH_format : MethodName := ⟨"NumberHouse", "format", "()I"⟩
set_option maxRecDepth 100000 in
set_option maxHeartbeats 4000000 in
theorem T_NH_format (l : Launch) (D : va_G) (g : Nat → ClassId) (q : Nat → Nat) (ws : va_W) (hlt : l.stackTraces = false) (hI : q_I (nsh g q) q ws) (t0_0 : Int32) (hT0 : ws[1]? = (some (q 1, .inr (1, [.ref (q 2), .int 4100, .int t0_0])) : Option (Nat × va_E))) : ∀ sz, q_Mx l y_NH_format prog_1_method_20_code 2 (some .int) 10 1 6 D g [.ref (q 0)] ws sz (va_Qi (fun r u => q_I (nsh g q) q u ∧ q_un ws u [1, 3, 4, 36, 37, 40, 45, 46, 47] ∧ ∃ (u0_0 : Int32), u[1]? = (some (q 1, .inr (1, [.ref (q 2), .int 4100, .int u0_0])) : Option (Nat × va_E)) ∧ (0 ≤ r.toInt + 12255) ∧ (r.toInt ≤ 2147482648) ∧ (0 ≤ u0_0.toInt) ∧ (u0_0.toInt ≤ 256) ∧ (t0_0.toInt ≤ r.toInt + 12511) ∧ (t0_0.toInt ≤ u0_0.toInt + 256) ∧ (u0_0.toInt ≤ t0_0.toInt)) (q_B D g (va_A ws sz)) (va_A ws sz)) (fun E u => (E = "java/lang/IllegalStateException") ∧ q_I (nsh g q) q u) := by
  intro sz
  refine q_intoX (by decide) (Nat.le_of_ble_eq_true rfl) ?_
  intro p e s m below meth c ls hsz C0 V hno hl
  have hx := C0.1
  have hb := C0.2.1
  obtain ⟨yy0_0, hh0, btt0_0⟩ := n_shO hI (n_h1 g q)
  obtain ⟨rfl⟩ : t0_0 = yy0_0 := by have z := Option.some.inj (hT0.symm.trans hh0); simpa using z
  replace btt0_0 : q_F (0 ≤ t0_0.toInt ∧ t0_0.toInt ≤ 4100) := btt0_0
  have hF : q_un ws ws [1, 3, 4, 36, 37, 40, 45, 46, 47] := q_u0
  have hl : lv_has ls 2 [(0, .ref (q 0))] := hl
  refine lv_aload_n hx hb d_1_20_0 rfl (lv_at hl 0 rfl) ?_
  have hO4 := n_o0 hI
  refine q_get (ci := 0) (j := 0) (v := .ref (q 1)) C0 V i_NH rfl rfl hO4 (by decide) w_424 rfl d_1_20_1 ?_
  refine q_get (ci := 1) (j := 2) (v := .int t0_0) C0 V i_She rfl rfl hT0 (by decide) w_56 rfl d_1_20_4 ?_
  refine lv_sipush (v := 256) hx hb d_1_20_7 (by decide) ?_
  refine lv_icmp_le (tgt := 24) hx hb d_1_20_10 (by decide) (fun c5 => ?_) (fun c5 => ?_)
  ·
    have b6 : q_F (t0_0.toInt ≤ 256) := (q_leI c5)
    refine lv_aload_n hx hb d_1_20_24 rfl (lv_at hl 0 rfl) ?_
    refine q_get (ci := 0) (j := 13) (v := .ref (q 40)) C0 V i_NH rfl rfl hO4 (by decide) w_437 rfl d_1_20_25 ?_
    refine lv_aload_n hx hb d_1_20_28 rfl (lv_at hl 0 rfl) ?_
    refine q_get (ci := 0) (j := 1) (v := .ref (q 3)) C0 V i_NH rfl rfl hO4 (by decide) w_425 rfl d_1_20_29 ?_
    obtain ⟨y8, hO7, b9⟩ := n_shO hI (n_h3 g q)
    replace b9 : q_F (0 ≤ y8.toInt ∧ y8.toInt ≤ 1000000) := b9
    obtain ⟨y11, y13, y15, y16, hO10, b12, b14, b17⟩ := n_o40 hI
    replace b12 : q_F (0 ≤ y11.toInt ∧ y11.toInt ≤ 9) := b12
    replace b14 : q_F (-1 ≤ y13.toInt ∧ y13.toInt ≤ 1000000) := b14
    replace b17 : q_F (-1 ≤ y16.toInt ∧ y16.toInt ≤ 8) := b17
    obtain ⟨y19, hO18, b20⟩ := n_shO hI (n_h45 g q)
    replace b20 : q_F (0 ≤ y19.toInt ∧ y19.toInt ≤ 1000000) := b20
    obtain ⟨y22, y23, y24, y26, y28, y29, y30, hO21, b25, b27, b31⟩ := n_o47 hI
    replace b25 : q_F (-1 ≤ y24.toInt ∧ y24.toInt ≤ 9999) := b25
    replace b27 : q_F (-1 ≤ y26.toInt ∧ y26.toInt ≤ 9999) := b27
    replace b31 : q_F (0 ≤ y30.toInt ∧ y30.toInt ≤ 1) := b31
    refine q_goi V (q_runV (As := [.ref (q 3)]) (rest := []) (d := 9) (mc := 0) (ms := 0) (ci := 11) C0 V rfl LV_NH_362 (T_Pri_run l D g q ws   hI t0_0 hT0 y8 hO7 y11 y13 y15 y16 hO10 y19 hO18 y22 y23 y24 y26 y28 y29 y30 hO21 (by have t1 : t0_0.toInt ≤ 256 := b6; omega) _) rfl rfl hO10 rfl hl.1 rfl (Nat.le_of_ble_eq_true rfl) ⟨by decide, by decide⟩ ⟨Nat.le_of_ble_eq_true rfl, Nat.le_of_ble_eq_true rfl⟩ d_1_20_32) (fun a34 u32 H locs hp33 V => ?_)
    obtain ⟨hI, hu73, y36, y38, y39, y40, y41, y43, y45, y46, y47, y48, y49, y50, y51, hO35, hO37, hO42, hO44, b52, b53, b54, b55, b56, b57, b58, b59, b60, b61, b62, b63, b64, b65, b66, b67, b68, b69, b70, b71⟩ := hp33
    replace hO35 : u32[3]? = (some (q 3, .inr (1, [.ref (q 4), .int 11008, .int y36])) : Option (Nat × va_E)) := hO35
    replace hO37 : u32[40]? = (some (q 40, .inr (11, [.int y38, .ref (q 41), .ref (q 42), .ref (q 43), .ref (q 44), .ref (q 1), .ref (q 47), .ref (q 36), .ref (q 45), .int y39, .int y40, .int y41])) : Option (Nat × va_E)) := hO37
    replace hO42 : u32[45]? = (some (q 45, .inr (1, [.ref (q 46), .int 4104, .int y43])) : Option (Nat × va_E)) := hO42
    replace hO44 : u32[47]? = (some (q 47, .inr (10, [.int y45, .int y46, .int y47, .int y48, .int y49, .int y50, .ref (q 1), .int y51])) : Option (Nat × va_E)) := hO44
    replace b52 : q_F (a34.toInt ≤ 2147482648) := b52
    replace b53 : q_F (0 ≤ y36.toInt) := b53
    replace b54 : q_F (y36.toInt ≤ 1000000) := b54
    replace b55 : q_F (0 ≤ y39.toInt + 1) := b55
    replace b56 : q_F (y39.toInt ≤ 1000000) := b56
    replace b57 : q_F (0 ≤ y41.toInt + 1) := b57
    replace b58 : q_F (y41.toInt ≤ 8) := b58
    replace b59 : q_F (0 ≤ y43.toInt) := b59
    replace b60 : q_F (y43.toInt ≤ 1000000) := b60
    replace b61 : q_F (0 ≤ y47.toInt + 1) := b61
    replace b62 : q_F (y47.toInt ≤ 9999) := b62
    replace b63 : q_F (0 ≤ y48.toInt + 1) := b63
    replace b64 : q_F (y48.toInt ≤ 9999) := b64
    replace b65 : q_F (0 ≤ y51.toInt) := b65
    replace b66 : q_F (y51.toInt ≤ 1) := b66
    replace b67 : q_F (y11.toInt ≤ y38.toInt) := b67
    replace b68 : q_F (y38.toInt ≤ y11.toInt) := b68
    replace b69 : q_F (y36.toInt ≤ a34.toInt + 12255) := b69
    replace b70 : q_F (y39.toInt ≤ a34.toInt + 1000000) := b70
    replace b71 : q_F (y43.toInt ≤ a34.toInt + 1000000) := b71
    replace hT0 := (hu73 _ (by decide)).trans hT0
    replace hO4 := (hu73 _ (by decide)).trans hO4
    replace hF := q_uc hF hu73 (by simp)
    refine lv_istore_n (lv' := [(1, .int a34), (0, .ref (q 0))]) hx hb d_1_20_35 rfl hl (by decide) rfl (fun ls hl => ?_)
    refine lv_iload_n hx hb d_1_20_36 rfl (lv_at hl 0 rfl) ?_
    refine lv_if_lt (tgt := 47) hx hb d_1_20_37 (by decide) (fun c74 => ?_) (fun c74 => ?_)
    ·
      have b75 : q_F (a34.toInt < 0) := (q_ltI c74)
      refine lv_iload_n hx hb d_1_20_47 rfl (lv_at hl 0 rfl) ?_
      refine W.widen (k := 1) (n := 6) (Nat.le_of_ble_eq_true rfl) (Nat.le_of_ble_eq_true rfl) ?_
      exact q_retX (q_reti C0 V (⟨hI, hF, t0_0, hT0, (show 0 ≤ a34.toInt + 12255 from (by have t1 : 0 ≤ y36.toInt := b53; have t2 : y36.toInt ≤ a34.toInt + 12255 := b69; omega)), (show a34.toInt ≤ 2147482648 from (by have t1 : a34.toInt ≤ 2147482648 := b52; omega)), (show 0 ≤ t0_0.toInt from (by have t1 : 0 ≤ t0_0.toInt ∧ t0_0.toInt ≤ 4100 := btt0_0; omega)), (show t0_0.toInt ≤ 256 from (by have t1 : t0_0.toInt ≤ 256 := b6; omega)), (show t0_0.toInt ≤ a34.toInt + 12511 from (by have t1 : t0_0.toInt ≤ 256 := b6; have t2 : 0 ≤ y36.toInt := b53; have t3 : y36.toInt ≤ a34.toInt + 12255 := b69; omega)), (show t0_0.toInt ≤ t0_0.toInt + 256 from (by omega)), (show t0_0.toInt ≤ t0_0.toInt from (by omega))⟩) d_1_20_48)
    ·
      have b76 : q_F (0 ≤ a34.toInt) := (q_nltI c74)
      refine lv_aload_n hx hb d_1_20_40 rfl (lv_at hl 1 rfl) ?_
      refine q_get (ci := 0) (j := 0) (v := .ref (q 1)) C0 V i_NH rfl rfl hO4 (by decide) w_424 rfl d_1_20_41 ?_
      refine q_gov V (q_runV (As := []) (rest := []) (d := 1) (mc := 0) (ms := 0) (ci := 1) C0 V rfl LV_NH_115 (T_She_clear l D g q u32 1 4100 513 4100 (n_h1 g q)  hI t0_0 hT0  _) rfl rfl hT0 rfl hl.1 rfl (Nat.le_of_ble_eq_true rfl) ⟨by decide, by decide⟩ ⟨Nat.le_of_ble_eq_true rfl, Nat.le_of_ble_eq_true rfl⟩ d_1_20_44) (fun u77 H locs hp78 V => ?_)
      obtain ⟨hI, hu84, y80, hO79, b81, b82⟩ := hp78
      replace hO79 : u77[1]? = (some (q 1, .inr (1, [.ref (q 2), .int 4100, .int y80])) : Option (Nat × va_E)) := hO79
      replace b81 : q_F (0 ≤ y80.toInt) := b81
      replace b82 : q_F (y80.toInt ≤ 0) := b82
      replace hO4 := (hu84 _ (by decide)).trans hO4
      replace hO35 := (hu84 _ (by decide)).trans hO35
      replace hO37 := (hu84 _ (by decide)).trans hO37
      replace hO42 := (hu84 _ (by decide)).trans hO42
      replace hO44 := (hu84 _ (by decide)).trans hO44
      replace hF := q_uc hF hu84 (by simp)
      refine lv_iload_n hx hb d_1_20_47 rfl (lv_at hl 0 rfl) ?_
      refine W.widen (k := 1) (n := 6) (Nat.le_of_ble_eq_true rfl) (Nat.le_of_ble_eq_true rfl) ?_
      exact q_retX (q_reti C0 V (⟨hI, hF, y80, hO79, (show 0 ≤ a34.toInt + 12255 from (by have t1 : 0 ≤ a34.toInt := b76; omega)), (show a34.toInt ≤ 2147482648 from (by have t1 : a34.toInt ≤ 2147482648 := b52; omega)), (show 0 ≤ y80.toInt from (by have t1 : 0 ≤ y80.toInt := b81; omega)), (show y80.toInt ≤ 256 from (by have t1 : y80.toInt ≤ 0 := b82; omega)), (show t0_0.toInt ≤ a34.toInt + 12511 from (by have t1 : 0 ≤ t0_0.toInt ∧ t0_0.toInt ≤ 4100 := btt0_0; have t2 : 0 ≤ a34.toInt := b76; omega)), (show t0_0.toInt ≤ y80.toInt + 256 from (by have t1 : t0_0.toInt ≤ 256 := b6; have t2 : 0 ≤ y80.toInt := b81; omega)), (show y80.toInt ≤ t0_0.toInt from (by have t1 : 0 ≤ t0_0.toInt ∧ t0_0.toInt ≤ 4100 := btt0_0; have t2 : y80.toInt ≤ 0 := b82; omega))⟩) d_1_20_48)
  ·
    have b85 : q_F (256 < t0_0.toInt) := (q_nleI c5)
    exact q_throwW (names := ["java/lang/RuntimeException", "java/lang/Exception"]) C0 V hlt hno rfl hl.1 (by decide) (by decide) w_1688 w_36 wo_1730 w_1689 t_NH_354 d_1_20_13 d_1_20_16 d_1_20_17 d_1_20_20 d_1_20_23 (by decide) (by decide) (by decide) (by decide) ⟨rfl, hI⟩
