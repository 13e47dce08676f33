/-! the class on a fresh object: divide -/
theorem d_1_33_0 : decode prog_1_method_33_code 0 = .ok (.iload_n 0, 1) := by decide +kernel
theorem d_1_33_1 : decode prog_1_method_33_code 1 = .ok (.ifCond .lt 13, 3) := by decide +kernel
theorem d_1_33_14 : decode prog_1_method_33_code 14 = .ok (.iconst 0, 1) := by decide +kernel
theorem d_1_33_15 : decode prog_1_method_33_code 15 = .ok (.ireturn, 1) := by decide +kernel
theorem d_1_33_4 : decode prog_1_method_33_code 4 = .ok (.iload_n 0, 1) := by decide +kernel
theorem d_1_33_5 : decode prog_1_method_33_code 5 = .ok (.bipush 7, 2) := by decide +kernel
theorem d_1_33_7 : decode prog_1_method_33_code 7 = .ok (.if_icmp .gt 7, 3) := by decide +kernel
theorem d_1_33_10 : decode prog_1_method_33_code 10 = .ok (.iconst 1, 1) := by decide +kernel
theorem d_1_33_11 : decode prog_1_method_33_code 11 = .ok (.goto 4, 3) := by decide +kernel
def y_NH_isMode : MethodName := ⟨"NumberHouse", "isMode", "(I)Z"⟩
set_option maxRecDepth 100000 in
set_option maxHeartbeats 4000000 in
theorem c_NH_isMode (l : Launch) (D : va_G) (g : Nat → ClassId) (ws : va_W) (x1 : Int32) : q_mI l y_NH_isMode prog_1_method_33_code 1 (.boolean) 1 0 0 D g [.int x1] ws (fun r u => (x1 < 0 ∧ 0 = r ∧ ws = u) ∨ (¬ x1 < 0 ∧ 7 < x1 ∧ 0 = r ∧ ws = u) ∨ (¬ x1 < 0 ∧ ¬ 7 < x1 ∧ 1 = r ∧ ws = u)) := by
  intro sz
  refine q_into (by decide) (Nat.le_of_ble_eq_true rfl) ?_
  intro p e s m below meth c ls hsz C0 V hl
  have hx := C0.1
  have hb := C0.2.1
  have hl : lv_has ls 1 [(0, .int x1)] := hl
  refine lv_iload_n hx hb d_1_33_0 rfl (lv_at hl 0 rfl) ?_
  refine lv_if_lt (tgt := 14) hx hb d_1_33_1 (by decide) (fun c1 => ?_) (fun c1 => ?_)
  ·
    refine lv_iconst (v := 0) hx hb d_1_33_14 (by decide) ?_
    exact q_retz C0 V (rfl) (Or.inl ⟨c1, rfl, rfl⟩) d_1_33_15
  ·
    refine lv_iload_n hx hb d_1_33_4 rfl (lv_at hl 0 rfl) ?_
    refine lv_bipush (v := 7) hx hb d_1_33_5 (by decide) ?_
    refine lv_icmp_gt (tgt := 14) hx hb d_1_33_7 (by decide) (fun c2 => ?_) (fun c2 => ?_)
    ·
      refine lv_iconst (v := 0) hx hb d_1_33_14 (by decide) ?_
      exact q_retz C0 V (rfl) (Or.inr (Or.inl ⟨c1, c2, rfl, rfl⟩)) d_1_33_15
    ·
      refine lv_iconst (v := 1) hx hb d_1_33_10 (by decide) ?_
      refine lv_goto (tgt := 15) hx hb d_1_33_11 (by decide) ?_
      exact q_retz C0 V (rfl) (Or.inr (Or.inr (⟨c1, c2, rfl, rfl⟩))) d_1_33_15
theorem d_1_34_0 : decode prog_1_method_34_code 0 = .ok (.iload_n 0, 1) := by decide +kernel
theorem d_1_34_1 : decode prog_1_method_34_code 1 = .ok (.sipush (-10000), 3) := by decide +kernel
theorem d_1_34_4 : decode prog_1_method_34_code 4 = .ok (.if_icmp .lt 14, 3) := by decide +kernel
theorem d_1_34_18 : decode prog_1_method_34_code 18 = .ok (.iconst 0, 1) := by decide +kernel
theorem d_1_34_19 : decode prog_1_method_34_code 19 = .ok (.ireturn, 1) := by decide +kernel
theorem d_1_34_7 : decode prog_1_method_34_code 7 = .ok (.iload_n 0, 1) := by decide +kernel
theorem d_1_34_8 : decode prog_1_method_34_code 8 = .ok (.sipush 10000, 3) := by decide +kernel
theorem d_1_34_11 : decode prog_1_method_34_code 11 = .ok (.if_icmp .gt 7, 3) := by decide +kernel
theorem d_1_34_14 : decode prog_1_method_34_code 14 = .ok (.iconst 1, 1) := by decide +kernel
theorem d_1_34_15 : decode prog_1_method_34_code 15 = .ok (.goto 4, 3) := by decide +kernel
def y_NH_isScale : MethodName := ⟨"NumberHouse", "isScale", "(I)Z"⟩
set_option maxRecDepth 100000 in
set_option maxHeartbeats 4000000 in
theorem c_NH_isScale (l : Launch) (D : va_G) (g : Nat → ClassId) (ws : va_W) (x1 : Int32) : q_mI l y_NH_isScale prog_1_method_34_code 1 (.boolean) 1 0 0 D g [.int x1] ws (fun r u => (x1 < (-10000) ∧ 0 = r ∧ ws = u) ∨ (¬ x1 < (-10000) ∧ 10000 < x1 ∧ 0 = r ∧ ws = u) ∨ (¬ x1 < (-10000) ∧ ¬ 10000 < x1 ∧ 1 = r ∧ ws = u)) := by
  intro sz
  refine q_into (by decide) (Nat.le_of_ble_eq_true rfl) ?_
  intro p e s m below meth c ls hsz C0 V hl
  have hx := C0.1
  have hb := C0.2.1
  have hl : lv_has ls 1 [(0, .int x1)] := hl
  refine lv_iload_n hx hb d_1_34_0 rfl (lv_at hl 0 rfl) ?_
  refine lv_sipush (v := (-10000)) hx hb d_1_34_1 (by decide) ?_
  refine lv_icmp_lt (tgt := 18) hx hb d_1_34_4 (by decide) (fun c1 => ?_) (fun c1 => ?_)
  ·
    refine lv_iconst (v := 0) hx hb d_1_34_18 (by decide) ?_
    exact q_retz C0 V (rfl) (Or.inl ⟨c1, rfl, rfl⟩) d_1_34_19
  ·
    refine lv_iload_n hx hb d_1_34_7 rfl (lv_at hl 0 rfl) ?_
    refine lv_sipush (v := 10000) hx hb d_1_34_8 (by decide) ?_
    refine lv_icmp_gt (tgt := 18) hx hb d_1_34_11 (by decide) (fun c2 => ?_) (fun c2 => ?_)
    ·
      refine lv_iconst (v := 0) hx hb d_1_34_18 (by decide) ?_
      exact q_retz C0 V (rfl) (Or.inr (Or.inl ⟨c1, c2, rfl, rfl⟩)) d_1_34_19
    ·
      refine lv_iconst (v := 1) hx hb d_1_34_14 (by decide) ?_
      refine lv_goto (tgt := 19) hx hb d_1_34_15 (by decide) ?_
      exact q_retz C0 V (rfl) (Or.inr (Or.inr (⟨c1, c2, rfl, rfl⟩))) d_1_34_19
theorem d_1_13_0 : decode prog_1_method_13_code 0 = .ok (.iload_n 1, 1) := by decide +kernel
theorem d_1_13_1 : decode prog_1_method_13_code 1 = .ok (.invokestatic 212, 3) := by decide +kernel
theorem d_1_13_4 : decode prog_1_method_13_code 4 = .ok (.ifCond .eq 37, 3) := by decide +kernel
theorem d_1_13_41 : decode prog_1_method_13_code 41 = .ok (.iconst 0, 1) := by decide +kernel
theorem d_1_13_42 : decode prog_1_method_13_code 42 = .ok (.invokestatic 104, 3) := by decide +kernel
theorem d_1_13_7 : decode prog_1_method_13_code 7 = .ok (.iload_n 2, 1) := by decide +kernel
theorem d_1_13_8 : decode prog_1_method_13_code 8 = .ok (.invokestatic 212, 3) := by decide +kernel
theorem d_1_13_11 : decode prog_1_method_13_code 11 = .ok (.ifCond .eq 30, 3) := by decide +kernel
theorem d_1_13_14 : decode prog_1_method_13_code 14 = .ok (.iload_n 3, 1) := by decide +kernel
theorem d_1_13_15 : decode prog_1_method_13_code 15 = .ok (.invokestatic 212, 3) := by decide +kernel
theorem d_1_13_18 : decode prog_1_method_13_code 18 = .ok (.ifCond .eq 23, 3) := by decide +kernel
theorem d_1_13_21 : decode prog_1_method_13_code 21 = .ok (.iload 5, 2) := by decide +kernel
theorem d_1_13_23 : decode prog_1_method_13_code 23 = .ok (.invokestatic 296, 3) := by decide +kernel
theorem w_1430 : (Cond.code ({ cls := "NumberHouse", name := "isMode", desc := "(I)Z" } : MethodName) prog_1_method_33_code (1 : Nat) (some .boolean)) ∈ q_tbl := q_of 1430 (by decide +kernel) (by decide +kernel)
theorem w_1428 : (Cond.methodLink "NumberHouse" (296 : Nat) ({ cls := "NumberHouse", name := "isMode", desc := "(I)Z" } : MethodName)) ∈ q_tbl := q_of 1428 (by decide +kernel) (by decide +kernel)
theorem w_1429 : (Cond.static ({ cls := "NumberHouse", name := "isMode", desc := "(I)Z" } : MethodName)) ∈ q_tbl := q_of 1429 (by decide +kernel) (by decide +kernel)
theorem LS_NH_296 : q_LS "NumberHouse" 296 y_NH_isMode prog_1_method_33_code 1 (some .boolean) 1 := ⟨w_1430, w_1, w_1428, w_1429, ⟨by decide, by decide, by decide +kernel⟩⟩
theorem d_1_13_26 : decode prog_1_method_13_code 26 = .ok (.ifCond .eq 15, 3) := by decide +kernel
theorem d_1_13_29 : decode prog_1_method_13_code 29 = .ok (.iload 4, 2) := by decide +kernel
theorem d_1_13_31 : decode prog_1_method_13_code 31 = .ok (.invokestatic 299, 3) := by decide +kernel
theorem w_1433 : (Cond.code ({ cls := "NumberHouse", name := "isScale", desc := "(I)Z" } : MethodName) prog_1_method_34_code (1 : Nat) (some .boolean)) ∈ q_tbl := q_of 1433 (by decide +kernel) (by decide +kernel)
theorem w_1431 : (Cond.methodLink "NumberHouse" (299 : Nat) ({ cls := "NumberHouse", name := "isScale", desc := "(I)Z" } : MethodName)) ∈ q_tbl := q_of 1431 (by decide +kernel) (by decide +kernel)
theorem w_1432 : (Cond.static ({ cls := "NumberHouse", name := "isScale", desc := "(I)Z" } : MethodName)) ∈ q_tbl := q_of 1432 (by decide +kernel) (by decide +kernel)
theorem LS_NH_299 : q_LS "NumberHouse" 299 y_NH_isScale prog_1_method_34_code 1 (some .boolean) 1 := ⟨w_1433, w_1, w_1431, w_1432, ⟨by decide, by decide, by decide +kernel⟩⟩
theorem d_1_13_34 : decode prog_1_method_13_code 34 = .ok (.ifCond .eq 7, 3) := by decide +kernel
theorem d_1_13_37 : decode prog_1_method_13_code 37 = .ok (.iconst 1, 1) := by decide +kernel
theorem d_1_13_38 : decode prog_1_method_13_code 38 = .ok (.goto 4, 3) := by decide +kernel
theorem d_1_13_45 : decode prog_1_method_13_code 45 = .ok (.aload_n 0, 1) := by decide +kernel
theorem d_1_13_46 : decode prog_1_method_13_code 46 = .ok (.getfield 29, 3) := by decide +kernel
theorem d_1_13_49 : decode prog_1_method_13_code 49 = .ok (.iload_n 2, 1) := by decide +kernel
theorem d_1_13_50 : decode prog_1_method_13_code 50 = .ok (.aaload, 1) := by decide +kernel
theorem d_1_13_51 : decode prog_1_method_13_code 51 = .ok (.getfield 277, 3) := by decide +kernel
theorem d_1_13_54 : decode prog_1_method_13_code 54 = .ok (.getfield 220, 3) := by decide +kernel
theorem d_1_13_57 : decode prog_1_method_13_code 57 = .ok (.ifCond .le 7, 3) := by decide +kernel
theorem d_1_13_64 : decode prog_1_method_13_code 64 = .ok (.iconst 0, 1) := by decide +kernel
theorem d_1_13_65 : decode prog_1_method_13_code 65 = .ok (.invokestatic 138, 3) := by decide +kernel
def y_NH_divide : MethodName := ⟨"NumberHouse", "divide", "(IIIII)V"⟩
set_option maxRecDepth 100000 in
set_option maxHeartbeats 4000000 in
/-- divide on a fresh object -/
theorem c_NH_divide (l : Launch) (D : va_G) (g : Nat → ClassId) (ws : va_W) (hlt : l.stackTraces = false) ( qO0 qO1 qO2 qA3 qA4 qA5 qA6 qO7 qO8 qO9 qO10 qO11 qO12 qO13 qO14 : Nat) (x1 : Int32) (x2 : Int32) (x3 : Int32) (x4 : Int32) (x5 : Int32) (f7 : Nat → Option Nat) (hO0 : ws[0]? = (some (qO0, .inr (0, [.ref qO1, .ref qO2, .ref qA3, .ref qA4, .ref qA5, .ref qA6, .ref qO7, .ref qO8, .ref qO9, .ref qO10, .ref qO11, .ref qO12, .ref qO13, .ref qO14])) : Option (Nat × va_E))) (hA4 : ws[6]? = (some (qA4, .inl (g 5, 10, .inr (.inr (.inr (.inr f7))))) : Option (Nat × va_E))) (qW qWL qD qDN qDL : Nat → Nat) (hfD : ∀ i, i < 10 → f7 i = some (qD i)) (FD : ∀ i, i < 10 → ws[68 + 5 * i]? = (some (qD i, .inr (3, [.ref (qDN i), .int 0, .int 1])) : Option (Nat × va_E))) (FDN : ∀ i, i < 10 → ws[69 + 5 * i]? = (some (qDN i, .inr (2, [.ref (qDL i), .int 0, .int 0])) : Option (Nat × va_E))) (FDL : ∀ i, i < 10 → ws[70 + 5 * i]? = (some (qDL i, .inl (g 0, 108, .inl (fun _ => 0))) : Option (Nat × va_E))) : q_xV l y_NH_divide prog_1_method_13_code 6 8 2 12 D g [.ref qO0, .int x1, .int x2, .int x3, .int x4, .int x5] ws (fun u => (((0 ≤ x1.toInt ∧ x1.toInt ≤ 9) ∧ (0 ≤ x2.toInt ∧ x2.toInt ≤ 9) ∧ (0 ≤ x3.toInt ∧ x3.toInt ≤ 9) ∧ ((-10000) ≤ x4.toInt ∧ x4.toInt ≤ 10000) ∧ (0 ≤ x5.toInt ∧ x5.toInt ≤ 7)) ∧ ¬ (0 ≤ x1.toInt)) ∧ q_ge 116 ws u) (fun E u => (("java/lang/IllegalArgumentException" = E ∧ (¬ ((0 ≤ x1.toInt ∧ x1.toInt ≤ 9) ∧ (0 ≤ x2.toInt ∧ x2.toInt ≤ 9) ∧ (0 ≤ x3.toInt ∧ x3.toInt ≤ 9) ∧ ((-10000) ≤ x4.toInt ∧ x4.toInt ≤ 10000) ∧ (0 ≤ x5.toInt ∧ x5.toInt ≤ 7)))) ∨ ("java/lang/ArithmeticException" = E ∧ (((0 ≤ x1.toInt ∧ x1.toInt ≤ 9) ∧ (0 ≤ x2.toInt ∧ x2.toInt ≤ 9) ∧ (0 ≤ x3.toInt ∧ x3.toInt ≤ 9) ∧ ((-10000) ≤ x4.toInt ∧ x4.toInt ≤ 10000) ∧ (0 ≤ x5.toInt ∧ x5.toInt ≤ 7)) ∧ 0 ≤ x1.toInt))) ∧ q_ge 116 ws u) := by
  intro sz
  refine q_intoX (by decide) (Nat.le_of_ble_eq_true rfl) ?_
  intro p e s m below meth c ls hsz C0 V hno hl
  have hx := C0.1
  have hb := C0.2.1
  have hl : lv_has ls 6 [(0, .ref qO0), (1, .int x1), (2, .int x2), (3, .int x3), (4, .int x4), (5, .int x5)] := hl
  have hF : q_ge 116 ws ws := q_g0
  refine lv_iload_n hx hb d_1_13_0 rfl (lv_at hl 1 rfl) ?_
  refine q_goi V (q_runS (As := [.int x1]) (rest := []) (d := 1) (mc := 0) (ms := 0) C0 V rfl LS_NH_212 (c_NH_isRegister l D g ws x1 _) rfl hl.1 rfl (Nat.le_of_ble_eq_true rfl) ⟨by decide, by decide⟩ ⟨Nat.le_of_ble_eq_true rfl, Nat.le_of_ble_eq_true rfl⟩ d_1_13_1) (fun v3 u2 H locs hp1 V => ?_)
  rcases hp1 with ⟨c4, rfl, rfl⟩ | ⟨c6, c7, rfl, rfl⟩ | ⟨c9, c10, rfl, rfl⟩
  ·
    refine lv_if_eq (tgt := 41) hx hb d_1_13_4 (by decide) (fun c12 => ?_) (fun c12 => absurd (by decide) c12)
    refine lv_iconst (v := 0) hx hb d_1_13_41 (by decide) ?_
    refine q_goxv V (q_runSX (As := [.int 0]) (rest := []) (d := 7) (mc := 1) (ms := 6) C0 V rfl LS_NH_104 (c_NH_need l D g ws hlt 0 _) rfl hl.1 rfl (Nat.le_of_ble_eq_true rfl) ⟨by decide, by decide⟩ ⟨Nat.le_of_ble_eq_true rfl, Nat.le_of_ble_eq_true rfl⟩ d_1_13_42) (fun qx Ex ce u14 H locs hp13 V hce hcv hcl => ?_) (fun u14 H locs hp13 V => ?_)
    ·
      obtain ⟨c15, rfl, rfl⟩ := hp13
      exact q_outT hno C0 V (⟨Or.inl ⟨rfl, (show ¬ ((0 ≤ x1.toInt ∧ x1.toInt ≤ 9) ∧ (0 ≤ x2.toInt ∧ x2.toInt ≤ 9) ∧ (0 ≤ x3.toInt ∧ x3.toInt ≤ 9) ∧ ((-10000) ≤ x4.toInt ∧ x4.toInt ≤ 10000) ∧ (0 ≤ x5.toInt ∧ x5.toInt ≤ 7)) from by have t1 : x1.toInt < 0 := q_ltI c4; omega)⟩, hF⟩) hce hcv hcl (Nat.le_of_ble_eq_true rfl) (Nat.le_of_ble_eq_true rfl)
    ·
      obtain ⟨c17, rfl⟩ := hp13
      exact absurd c17 (by decide)
  ·
    refine lv_if_eq (tgt := 41) hx hb d_1_13_4 (by decide) (fun c19 => ?_) (fun c19 => absurd (by decide) c19)
    refine lv_iconst (v := 0) hx hb d_1_13_41 (by decide) ?_
    refine q_goxv V (q_runSX (As := [.int 0]) (rest := []) (d := 7) (mc := 1) (ms := 6) C0 V rfl LS_NH_104 (c_NH_need l D g ws hlt 0 _) rfl hl.1 rfl (Nat.le_of_ble_eq_true rfl) ⟨by decide, by decide⟩ ⟨Nat.le_of_ble_eq_true rfl, Nat.le_of_ble_eq_true rfl⟩ d_1_13_42) (fun qx Ex ce u21 H locs hp20 V hce hcv hcl => ?_) (fun u21 H locs hp20 V => ?_)
    ·
      obtain ⟨c22, rfl, rfl⟩ := hp20
      exact q_outT hno C0 V (⟨Or.inl ⟨rfl, (show ¬ ((0 ≤ x1.toInt ∧ x1.toInt ≤ 9) ∧ (0 ≤ x2.toInt ∧ x2.toInt ≤ 9) ∧ (0 ≤ x3.toInt ∧ x3.toInt ≤ 9) ∧ ((-10000) ≤ x4.toInt ∧ x4.toInt ≤ 10000) ∧ (0 ≤ x5.toInt ∧ x5.toInt ≤ 7)) from by have t1 : 0 ≤ x1.toInt := q_nltI c6; have t2 : 10 ≤ x1.toInt := q_leI c7; omega)⟩, hF⟩) hce hcv hcl (Nat.le_of_ble_eq_true rfl) (Nat.le_of_ble_eq_true rfl)
    ·
      obtain ⟨c24, rfl⟩ := hp20
      exact absurd c24 (by decide)
  ·
    refine lv_if_eq (tgt := 41) hx hb d_1_13_4 (by decide) (fun c26 => absurd c26 (by decide)) (fun c26 => ?_)
    refine lv_iload_n hx hb d_1_13_7 rfl (lv_at hl 2 rfl) ?_
    refine q_goi V (q_runS (As := [.int x2]) (rest := []) (d := 1) (mc := 0) (ms := 0) C0 V rfl LS_NH_212 (c_NH_isRegister l D g ws x2 _) rfl hl.1 rfl (Nat.le_of_ble_eq_true rfl) ⟨by decide, by decide⟩ ⟨Nat.le_of_ble_eq_true rfl, Nat.le_of_ble_eq_true rfl⟩ d_1_13_8) (fun v29 u28 H locs hp27 V => ?_)
    rcases hp27 with ⟨c30, rfl, rfl⟩ | ⟨c32, c33, rfl, rfl⟩ | ⟨c35, c36, rfl, rfl⟩
    ·
      refine lv_if_eq (tgt := 41) hx hb d_1_13_11 (by decide) (fun c38 => ?_) (fun c38 => absurd (by decide) c38)
      refine lv_iconst (v := 0) hx hb d_1_13_41 (by decide) ?_
      refine q_goxv V (q_runSX (As := [.int 0]) (rest := []) (d := 7) (mc := 1) (ms := 6) C0 V rfl LS_NH_104 (c_NH_need l D g ws hlt 0 _) rfl hl.1 rfl (Nat.le_of_ble_eq_true rfl) ⟨by decide, by decide⟩ ⟨Nat.le_of_ble_eq_true rfl, Nat.le_of_ble_eq_true rfl⟩ d_1_13_42) (fun qx Ex ce u40 H locs hp39 V hce hcv hcl => ?_) (fun u40 H locs hp39 V => ?_)
      ·
        obtain ⟨c41, rfl, rfl⟩ := hp39
        exact q_outT hno C0 V (⟨Or.inl ⟨rfl, (show ¬ ((0 ≤ x1.toInt ∧ x1.toInt ≤ 9) ∧ (0 ≤ x2.toInt ∧ x2.toInt ≤ 9) ∧ (0 ≤ x3.toInt ∧ x3.toInt ≤ 9) ∧ ((-10000) ≤ x4.toInt ∧ x4.toInt ≤ 10000) ∧ (0 ≤ x5.toInt ∧ x5.toInt ≤ 7)) from by have t1 : 0 ≤ x1.toInt := q_nltI c9; have t2 : x1.toInt < 10 := q_nleI c10; have t3 : x2.toInt < 0 := q_ltI c30; omega)⟩, hF⟩) hce hcv hcl (Nat.le_of_ble_eq_true rfl) (Nat.le_of_ble_eq_true rfl)
      ·
        obtain ⟨c43, rfl⟩ := hp39
        exact absurd c43 (by decide)
    ·
      refine lv_if_eq (tgt := 41) hx hb d_1_13_11 (by decide) (fun c45 => ?_) (fun c45 => absurd (by decide) c45)
      refine lv_iconst (v := 0) hx hb d_1_13_41 (by decide) ?_
      refine q_goxv V (q_runSX (As := [.int 0]) (rest := []) (d := 7) (mc := 1) (ms := 6) C0 V rfl LS_NH_104 (c_NH_need l D g ws hlt 0 _) rfl hl.1 rfl (Nat.le_of_ble_eq_true rfl) ⟨by decide, by decide⟩ ⟨Nat.le_of_ble_eq_true rfl, Nat.le_of_ble_eq_true rfl⟩ d_1_13_42) (fun qx Ex ce u47 H locs hp46 V hce hcv hcl => ?_) (fun u47 H locs hp46 V => ?_)
      ·
        obtain ⟨c48, rfl, rfl⟩ := hp46
        exact q_outT hno C0 V (⟨Or.inl ⟨rfl, (show ¬ ((0 ≤ x1.toInt ∧ x1.toInt ≤ 9) ∧ (0 ≤ x2.toInt ∧ x2.toInt ≤ 9) ∧ (0 ≤ x3.toInt ∧ x3.toInt ≤ 9) ∧ ((-10000) ≤ x4.toInt ∧ x4.toInt ≤ 10000) ∧ (0 ≤ x5.toInt ∧ x5.toInt ≤ 7)) from by have t1 : 0 ≤ x1.toInt := q_nltI c9; have t2 : x1.toInt < 10 := q_nleI c10; have t3 : 0 ≤ x2.toInt := q_nltI c32; have t4 : 10 ≤ x2.toInt := q_leI c33; omega)⟩, hF⟩) hce hcv hcl (Nat.le_of_ble_eq_true rfl) (Nat.le_of_ble_eq_true rfl)
      ·
        obtain ⟨c50, rfl⟩ := hp46
        exact absurd c50 (by decide)
    ·
      refine lv_if_eq (tgt := 41) hx hb d_1_13_11 (by decide) (fun c52 => absurd c52 (by decide)) (fun c52 => ?_)
      refine lv_iload_n hx hb d_1_13_14 rfl (lv_at hl 3 rfl) ?_
      refine q_goi V (q_runS (As := [.int x3]) (rest := []) (d := 1) (mc := 0) (ms := 0) C0 V rfl LS_NH_212 (c_NH_isRegister l D g ws x3 _) rfl hl.1 rfl (Nat.le_of_ble_eq_true rfl) ⟨by decide, by decide⟩ ⟨Nat.le_of_ble_eq_true rfl, Nat.le_of_ble_eq_true rfl⟩ d_1_13_15) (fun v55 u54 H locs hp53 V => ?_)
      rcases hp53 with ⟨c56, rfl, rfl⟩ | ⟨c58, c59, rfl, rfl⟩ | ⟨c61, c62, rfl, rfl⟩
      ·
        refine lv_if_eq (tgt := 41) hx hb d_1_13_18 (by decide) (fun c64 => ?_) (fun c64 => absurd (by decide) c64)
        refine lv_iconst (v := 0) hx hb d_1_13_41 (by decide) ?_
        refine q_goxv V (q_runSX (As := [.int 0]) (rest := []) (d := 7) (mc := 1) (ms := 6) C0 V rfl LS_NH_104 (c_NH_need l D g ws hlt 0 _) rfl hl.1 rfl (Nat.le_of_ble_eq_true rfl) ⟨by decide, by decide⟩ ⟨Nat.le_of_ble_eq_true rfl, Nat.le_of_ble_eq_true rfl⟩ d_1_13_42) (fun qx Ex ce u66 H locs hp65 V hce hcv hcl => ?_) (fun u66 H locs hp65 V => ?_)
        ·
          obtain ⟨c67, rfl, rfl⟩ := hp65
          exact q_outT hno C0 V (⟨Or.inl ⟨rfl, (show ¬ ((0 ≤ x1.toInt ∧ x1.toInt ≤ 9) ∧ (0 ≤ x2.toInt ∧ x2.toInt ≤ 9) ∧ (0 ≤ x3.toInt ∧ x3.toInt ≤ 9) ∧ ((-10000) ≤ x4.toInt ∧ x4.toInt ≤ 10000) ∧ (0 ≤ x5.toInt ∧ x5.toInt ≤ 7)) from by have t1 : 0 ≤ x1.toInt := q_nltI c9; have t2 : x1.toInt < 10 := q_nleI c10; have t3 : 0 ≤ x2.toInt := q_nltI c35; have t4 : x2.toInt < 10 := q_nleI c36; have t5 : x3.toInt < 0 := q_ltI c56; omega)⟩, hF⟩) hce hcv hcl (Nat.le_of_ble_eq_true rfl) (Nat.le_of_ble_eq_true rfl)
        ·
          obtain ⟨c69, rfl⟩ := hp65
          exact absurd c69 (by decide)
      ·
        refine lv_if_eq (tgt := 41) hx hb d_1_13_18 (by decide) (fun c71 => ?_) (fun c71 => absurd (by decide) c71)
        refine lv_iconst (v := 0) hx hb d_1_13_41 (by decide) ?_
        refine q_goxv V (q_runSX (As := [.int 0]) (rest := []) (d := 7) (mc := 1) (ms := 6) C0 V rfl LS_NH_104 (c_NH_need l D g ws hlt 0 _) rfl hl.1 rfl (Nat.le_of_ble_eq_true rfl) ⟨by decide, by decide⟩ ⟨Nat.le_of_ble_eq_true rfl, Nat.le_of_ble_eq_true rfl⟩ d_1_13_42) (fun qx Ex ce u73 H locs hp72 V hce hcv hcl => ?_) (fun u73 H locs hp72 V => ?_)
        ·
          obtain ⟨c74, rfl, rfl⟩ := hp72
          exact q_outT hno C0 V (⟨Or.inl ⟨rfl, (show ¬ ((0 ≤ x1.toInt ∧ x1.toInt ≤ 9) ∧ (0 ≤ x2.toInt ∧ x2.toInt ≤ 9) ∧ (0 ≤ x3.toInt ∧ x3.toInt ≤ 9) ∧ ((-10000) ≤ x4.toInt ∧ x4.toInt ≤ 10000) ∧ (0 ≤ x5.toInt ∧ x5.toInt ≤ 7)) from by have t1 : 0 ≤ x1.toInt := q_nltI c9; have t2 : x1.toInt < 10 := q_nleI c10; have t3 : 0 ≤ x2.toInt := q_nltI c35; have t4 : x2.toInt < 10 := q_nleI c36; have t5 : 0 ≤ x3.toInt := q_nltI c58; have t6 : 10 ≤ x3.toInt := q_leI c59; omega)⟩, hF⟩) hce hcv hcl (Nat.le_of_ble_eq_true rfl) (Nat.le_of_ble_eq_true rfl)
        ·
          obtain ⟨c76, rfl⟩ := hp72
          exact absurd c76 (by decide)
      ·
        refine lv_if_eq (tgt := 41) hx hb d_1_13_18 (by decide) (fun c78 => absurd c78 (by decide)) (fun c78 => ?_)
        refine lv_iload hx hb d_1_13_21 (lv_at hl 5 rfl) ?_
        refine q_goi V (q_runS (As := [.int x5]) (rest := []) (d := 1) (mc := 0) (ms := 0) C0 V rfl LS_NH_296 (c_NH_isMode l D g ws x5 _) rfl hl.1 rfl (Nat.le_of_ble_eq_true rfl) ⟨by decide, by decide⟩ ⟨Nat.le_of_ble_eq_true rfl, Nat.le_of_ble_eq_true rfl⟩ d_1_13_23) (fun v81 u80 H locs hp79 V => ?_)
        rcases hp79 with ⟨c82, rfl, rfl⟩ | ⟨c84, c85, rfl, rfl⟩ | ⟨c87, c88, rfl, rfl⟩
        ·
          refine lv_if_eq (tgt := 41) hx hb d_1_13_26 (by decide) (fun c90 => ?_) (fun c90 => absurd (by decide) c90)
          refine lv_iconst (v := 0) hx hb d_1_13_41 (by decide) ?_
          refine q_goxv V (q_runSX (As := [.int 0]) (rest := []) (d := 7) (mc := 1) (ms := 6) C0 V rfl LS_NH_104 (c_NH_need l D g ws hlt 0 _) rfl hl.1 rfl (Nat.le_of_ble_eq_true rfl) ⟨by decide, by decide⟩ ⟨Nat.le_of_ble_eq_true rfl, Nat.le_of_ble_eq_true rfl⟩ d_1_13_42) (fun qx Ex ce u92 H locs hp91 V hce hcv hcl => ?_) (fun u92 H locs hp91 V => ?_)
          ·
            obtain ⟨c93, rfl, rfl⟩ := hp91
            exact q_outT hno C0 V (⟨Or.inl ⟨rfl, (show ¬ ((0 ≤ x1.toInt ∧ x1.toInt ≤ 9) ∧ (0 ≤ x2.toInt ∧ x2.toInt ≤ 9) ∧ (0 ≤ x3.toInt ∧ x3.toInt ≤ 9) ∧ ((-10000) ≤ x4.toInt ∧ x4.toInt ≤ 10000) ∧ (0 ≤ x5.toInt ∧ x5.toInt ≤ 7)) from by have t1 : 0 ≤ x1.toInt := q_nltI c9; have t2 : x1.toInt < 10 := q_nleI c10; have t3 : 0 ≤ x2.toInt := q_nltI c35; have t4 : x2.toInt < 10 := q_nleI c36; have t5 : 0 ≤ x3.toInt := q_nltI c61; have t6 : x3.toInt < 10 := q_nleI c62; have t7 : x5.toInt < 0 := q_ltI c82; omega)⟩, hF⟩) hce hcv hcl (Nat.le_of_ble_eq_true rfl) (Nat.le_of_ble_eq_true rfl)
          ·
            obtain ⟨c95, rfl⟩ := hp91
            exact absurd c95 (by decide)
        ·
          refine lv_if_eq (tgt := 41) hx hb d_1_13_26 (by decide) (fun c97 => ?_) (fun c97 => absurd (by decide) c97)
          refine lv_iconst (v := 0) hx hb d_1_13_41 (by decide) ?_
          refine q_goxv V (q_runSX (As := [.int 0]) (rest := []) (d := 7) (mc := 1) (ms := 6) C0 V rfl LS_NH_104 (c_NH_need l D g ws hlt 0 _) rfl hl.1 rfl (Nat.le_of_ble_eq_true rfl) ⟨by decide, by decide⟩ ⟨Nat.le_of_ble_eq_true rfl, Nat.le_of_ble_eq_true rfl⟩ d_1_13_42) (fun qx Ex ce u99 H locs hp98 V hce hcv hcl => ?_) (fun u99 H locs hp98 V => ?_)
          ·
            obtain ⟨c100, rfl, rfl⟩ := hp98
            exact q_outT hno C0 V (⟨Or.inl ⟨rfl, (show ¬ ((0 ≤ x1.toInt ∧ x1.toInt ≤ 9) ∧ (0 ≤ x2.toInt ∧ x2.toInt ≤ 9) ∧ (0 ≤ x3.toInt ∧ x3.toInt ≤ 9) ∧ ((-10000) ≤ x4.toInt ∧ x4.toInt ≤ 10000) ∧ (0 ≤ x5.toInt ∧ x5.toInt ≤ 7)) from by have t1 : 0 ≤ x1.toInt := q_nltI c9; have t2 : x1.toInt < 10 := q_nleI c10; have t3 : 0 ≤ x2.toInt := q_nltI c35; have t4 : x2.toInt < 10 := q_nleI c36; have t5 : 0 ≤ x3.toInt := q_nltI c61; have t6 : x3.toInt < 10 := q_nleI c62; have t7 : 0 ≤ x5.toInt := q_nltI c84; have t8 : 7 < x5.toInt := q_ltI c85; omega)⟩, hF⟩) hce hcv hcl (Nat.le_of_ble_eq_true rfl) (Nat.le_of_ble_eq_true rfl)
          ·
            obtain ⟨c102, rfl⟩ := hp98
            exact absurd c102 (by decide)
        ·
          refine lv_if_eq (tgt := 41) hx hb d_1_13_26 (by decide) (fun c104 => absurd c104 (by decide)) (fun c104 => ?_)
          refine lv_iload hx hb d_1_13_29 (lv_at hl 4 rfl) ?_
          refine q_goi V (q_runS (As := [.int x4]) (rest := []) (d := 1) (mc := 0) (ms := 0) C0 V rfl LS_NH_299 (c_NH_isScale l D g ws x4 _) rfl hl.1 rfl (Nat.le_of_ble_eq_true rfl) ⟨by decide, by decide⟩ ⟨Nat.le_of_ble_eq_true rfl, Nat.le_of_ble_eq_true rfl⟩ d_1_13_31) (fun v107 u106 H locs hp105 V => ?_)
          rcases hp105 with ⟨c108, rfl, rfl⟩ | ⟨c110, c111, rfl, rfl⟩ | ⟨c113, c114, rfl, rfl⟩
          ·
            refine lv_if_eq (tgt := 41) hx hb d_1_13_34 (by decide) (fun c116 => ?_) (fun c116 => absurd (by decide) c116)
            refine lv_iconst (v := 0) hx hb d_1_13_41 (by decide) ?_
            refine q_goxv V (q_runSX (As := [.int 0]) (rest := []) (d := 7) (mc := 1) (ms := 6) C0 V rfl LS_NH_104 (c_NH_need l D g ws hlt 0 _) rfl hl.1 rfl (Nat.le_of_ble_eq_true rfl) ⟨by decide, by decide⟩ ⟨Nat.le_of_ble_eq_true rfl, Nat.le_of_ble_eq_true rfl⟩ d_1_13_42) (fun qx Ex ce u118 H locs hp117 V hce hcv hcl => ?_) (fun u118 H locs hp117 V => ?_)
            ·
              obtain ⟨c119, rfl, rfl⟩ := hp117
              exact q_outT hno C0 V (⟨Or.inl ⟨rfl, (show ¬ ((0 ≤ x1.toInt ∧ x1.toInt ≤ 9) ∧ (0 ≤ x2.toInt ∧ x2.toInt ≤ 9) ∧ (0 ≤ x3.toInt ∧ x3.toInt ≤ 9) ∧ ((-10000) ≤ x4.toInt ∧ x4.toInt ≤ 10000) ∧ (0 ≤ x5.toInt ∧ x5.toInt ≤ 7)) from by have t1 : 0 ≤ x1.toInt := q_nltI c9; have t2 : x1.toInt < 10 := q_nleI c10; have t3 : 0 ≤ x2.toInt := q_nltI c35; have t4 : x2.toInt < 10 := q_nleI c36; have t5 : 0 ≤ x3.toInt := q_nltI c61; have t6 : x3.toInt < 10 := q_nleI c62; have t7 : 0 ≤ x5.toInt := q_nltI c87; have t8 : x5.toInt ≤ 7 := q_nltI c88; have t9 : x4.toInt < (-10000) := q_ltI c108; omega)⟩, hF⟩) hce hcv hcl (Nat.le_of_ble_eq_true rfl) (Nat.le_of_ble_eq_true rfl)
            ·
              obtain ⟨c121, rfl⟩ := hp117
              exact absurd c121 (by decide)
          ·
            refine lv_if_eq (tgt := 41) hx hb d_1_13_34 (by decide) (fun c123 => ?_) (fun c123 => absurd (by decide) c123)
            refine lv_iconst (v := 0) hx hb d_1_13_41 (by decide) ?_
            refine q_goxv V (q_runSX (As := [.int 0]) (rest := []) (d := 7) (mc := 1) (ms := 6) C0 V rfl LS_NH_104 (c_NH_need l D g ws hlt 0 _) rfl hl.1 rfl (Nat.le_of_ble_eq_true rfl) ⟨by decide, by decide⟩ ⟨Nat.le_of_ble_eq_true rfl, Nat.le_of_ble_eq_true rfl⟩ d_1_13_42) (fun qx Ex ce u125 H locs hp124 V hce hcv hcl => ?_) (fun u125 H locs hp124 V => ?_)
            ·
              obtain ⟨c126, rfl, rfl⟩ := hp124
              exact q_outT hno C0 V (⟨Or.inl ⟨rfl, (show ¬ ((0 ≤ x1.toInt ∧ x1.toInt ≤ 9) ∧ (0 ≤ x2.toInt ∧ x2.toInt ≤ 9) ∧ (0 ≤ x3.toInt ∧ x3.toInt ≤ 9) ∧ ((-10000) ≤ x4.toInt ∧ x4.toInt ≤ 10000) ∧ (0 ≤ x5.toInt ∧ x5.toInt ≤ 7)) from by have t1 : 0 ≤ x1.toInt := q_nltI c9; have t2 : x1.toInt < 10 := q_nleI c10; have t3 : 0 ≤ x2.toInt := q_nltI c35; have t4 : x2.toInt < 10 := q_nleI c36; have t5 : 0 ≤ x3.toInt := q_nltI c61; have t6 : x3.toInt < 10 := q_nleI c62; have t7 : 0 ≤ x5.toInt := q_nltI c87; have t8 : x5.toInt ≤ 7 := q_nltI c88; have t9 : (-10000) ≤ x4.toInt := q_nltI c110; have t10 : 10000 < x4.toInt := q_ltI c111; omega)⟩, hF⟩) hce hcv hcl (Nat.le_of_ble_eq_true rfl) (Nat.le_of_ble_eq_true rfl)
            ·
              obtain ⟨c128, rfl⟩ := hp124
              exact absurd c128 (by decide)
          ·
            refine lv_if_eq (tgt := 41) hx hb d_1_13_34 (by decide) (fun c130 => absurd c130 (by decide)) (fun c130 => ?_)
            refine lv_iconst (v := 1) hx hb d_1_13_37 (by decide) ?_
            refine lv_goto (tgt := 42) hx hb d_1_13_38 (by decide) ?_
            refine q_goxv V (q_runSX (As := [.int 1]) (rest := []) (d := 7) (mc := 1) (ms := 6) C0 V rfl LS_NH_104 (c_NH_need l D g ws hlt 1 _) rfl hl.1 rfl (Nat.le_of_ble_eq_true rfl) ⟨by decide, by decide⟩ ⟨Nat.le_of_ble_eq_true rfl, Nat.le_of_ble_eq_true rfl⟩ d_1_13_42) (fun qx Ex ce u132 H locs hp131 V hce hcv hcl => ?_) (fun u132 H locs hp131 V => ?_)
            ·
              obtain ⟨c133, rfl, rfl⟩ := hp131
              exact absurd c133 (by decide)
            ·
              obtain ⟨c135, rfl⟩ := hp131
              refine lv_aload_n hx hb d_1_13_45 rfl (lv_at hl 0 rfl) ?_
              refine q_get (ci := 0) (j := 3) (v := .ref qA4) C0 V i_NH rfl rfl hO0 (by decide) w_427 rfl d_1_13_46 ?_
              refine lv_iload_n hx hb d_1_13_49 rfl (lv_at hl 2 rfl) ?_
              have r137 : x2.toNatClampNeg < 10 := (q_r10 (x := x2.toInt) rfl (by have t1 : 0 ≤ x2.toInt := q_nltI c35; have t2 : x2.toInt < 10 := q_nleI c36; omega) (by have t1 : 0 ≤ x2.toInt := q_nltI c35; have t2 : x2.toInt < 10 := q_nleI c36; omega))
              have hr138 : ws[68 + 5 * x2.toNatClampNeg]? = (some (qD x2.toNatClampNeg, .inr (3, [.ref (qDN x2.toNatClampNeg), .int 0, .int 1])) : Option (Nat × va_E)) := FD _ r137
              have hr139 : ws[69 + 5 * x2.toNatClampNeg]? = (some (qDN x2.toNatClampNeg, .inr (2, [.ref (qDL x2.toNatClampNeg), .int 0, .int 0])) : Option (Nat × va_E)) := FDN _ r137
              have hr140 : ws[70 + 5 * x2.toNatClampNeg]? = (some (qDL x2.toNatClampNeg, .inl (g 0, 108, .inl (fun _ => 0))) : Option (Nat × va_E)) := FDL _ r137
              have hh : x2.toNatClampNeg < 10 := (q_r10 (x := x2.toInt) rfl (by have t1 : 0 ≤ x2.toInt := q_nltI c35; have t2 : x2.toInt < 10 := q_nleI c36; omega) (by have t1 : 0 ≤ x2.toInt := q_nltI c35; have t2 : x2.toInt < 10 := q_nleI c36; omega))
              refine q_aald (t := 5) (q := qD x2.toNatClampNeg) C0 V hA4 rfl (q_ix (x := x2.toInt) rfl (by have t1 : 0 ≤ x2.toInt := q_nltI c35; have t2 : x2.toInt < 10 := q_nleI c36; omega) (by have t1 : 0 ≤ x2.toInt := q_nltI c35; have t2 : x2.toInt < 10 := q_nleI c36; omega)) (hfD _ hh) d_1_13_50 ?_
              refine q_get (ci := 3) (j := 0) (v := .ref (qDN x2.toNatClampNeg)) C0 V i_Dec rfl rfl hr138 (by decide) w_174 rfl d_1_13_51 ?_
              refine q_get (ci := 2) (j := 1) (v := .int 0) C0 V i_Big rfl rfl hr139 (by decide) w_91 rfl d_1_13_54 ?_
              refine lv_if_le (tgt := 64) hx hb d_1_13_57 (by decide) (fun c141 => ?_) (fun c141 => absurd (by decide) c141)
              refine lv_iconst (v := 0) hx hb d_1_13_64 (by decide) ?_
              refine q_goxv V (q_runSX (As := [.int 0]) (rest := []) (d := 7) (mc := 1) (ms := 6) C0 V rfl LS_NH_138 (c_NH_canHave l D g ws hlt 0 _) rfl hl.1 rfl (Nat.le_of_ble_eq_true rfl) ⟨by decide, by decide⟩ ⟨Nat.le_of_ble_eq_true rfl, Nat.le_of_ble_eq_true rfl⟩ d_1_13_65) (fun qx Ex ce u143 H locs hp142 V hce hcv hcl => ?_) (fun u143 H locs hp142 V => ?_)
              ·
                obtain ⟨c144, rfl, rfl⟩ := hp142
                exact q_outT hno C0 V (⟨Or.inr (⟨rfl, (show ((0 ≤ x1.toInt ∧ x1.toInt ≤ 9) ∧ (0 ≤ x2.toInt ∧ x2.toInt ≤ 9) ∧ (0 ≤ x3.toInt ∧ x3.toInt ≤ 9) ∧ ((-10000) ≤ x4.toInt ∧ x4.toInt ≤ 10000) ∧ (0 ≤ x5.toInt ∧ x5.toInt ≤ 7)) ∧ 0 ≤ x1.toInt from by have t1 : 0 ≤ x1.toInt := q_nltI c9; have t2 : x1.toInt < 10 := q_nleI c10; have t3 : 0 ≤ x2.toInt := q_nltI c35; have t4 : x2.toInt < 10 := q_nleI c36; have t5 : 0 ≤ x3.toInt := q_nltI c61; have t6 : x3.toInt < 10 := q_nleI c62; have t7 : 0 ≤ x5.toInt := q_nltI c87; have t8 : x5.toInt ≤ 7 := q_nltI c88; have t9 : (-10000) ≤ x4.toInt := q_nltI c113; have t10 : x4.toInt ≤ 10000 := q_nltI c114; omega)⟩), hF⟩) hce hcv hcl (Nat.le_of_ble_eq_true rfl) (Nat.le_of_ble_eq_true rfl)
              ·
                obtain ⟨c146, rfl⟩ := hp142
                exact absurd c146 (by decide)
