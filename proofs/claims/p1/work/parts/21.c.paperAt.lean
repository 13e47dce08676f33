/-! the class on a fresh object: paperAt -/
theorem d_11_8_0 : decode prog_11_method_8_code 0 = .ok (.lload_n 1, 1) := by decide +kernel
theorem d_11_8_1 : decode prog_11_method_8_code 1 = .ok (.lconst 0, 1) := by decide +kernel
theorem d_11_8_2 : decode prog_11_method_8_code 2 = .ok (.lcmp, 1) := by decide +kernel
theorem d_11_8_3 : decode prog_11_method_8_code 3 = .ok (.ifCond .lt 23, 3) := by decide +kernel
theorem d_11_8_26 : decode prog_11_method_8_code 26 = .ok (.iconst 0, 1) := by decide +kernel
theorem d_11_8_27 : decode prog_11_method_8_code 27 = .ok (.ireturn, 1) := by decide +kernel
theorem d_11_8_6 : decode prog_11_method_8_code 6 = .ok (.lload_n 1, 1) := by decide +kernel
theorem d_11_8_7 : decode prog_11_method_8_code 7 = .ok (.aload_n 0, 1) := by decide +kernel
theorem d_11_8_8 : decode prog_11_method_8_code 8 = .ok (.getfield 17, 3) := by decide +kernel
theorem d_11_8_11 : decode prog_11_method_8_code 11 = .ok (.i2l, 1) := by decide +kernel
theorem d_11_8_12 : decode prog_11_method_8_code 12 = .ok (.lcmp, 1) := by decide +kernel
theorem d_11_8_13 : decode prog_11_method_8_code 13 = .ok (.ifCond .ge 13, 3) := by decide +kernel
def y_She_at : MethodName := ⟨"NumberHouse$Sheet", "at", "(J)I"⟩
set_option maxRecDepth 100000 in
set_option maxHeartbeats 4000000 in
theorem c_She_at (l : Launch) (D : va_G) (g : Nat → ClassId) (ws : va_W) (kO0 qO0 qA1 : Nat) (x1 : Int64) (hO0 : ws[kO0]? = (some (qO0, .inr (1, [.ref qA1, .int 11008, .int 0])) : Option (Nat × va_E))) : q_mI l y_She_at prog_11_method_8_code 3 (.int) 1 0 0 D g [.ref qO0, .long x1] ws (fun r u => 0 = r ∧ ws = u) := by
  intro sz
  refine q_into (by decide) (Nat.le_of_ble_eq_true rfl) ?_
  intro p e s m below meth c ls hsz C0 V hl
  have hx := C0.1
  have hb := C0.2.1
  have hl : lv_has ls 3 [(0, .ref qO0), (1, .long x1)] := hl
  refine lv_lload_n hx hb d_11_8_0 rfl (lv_at hl 1 rfl) ?_
  refine lv_lconst (v := 0) hx hb d_11_8_1 (by decide) ?_
  refine W.lcmp hx hb d_11_8_2 ?_
  refine lv_if_lt (tgt := 26) hx hb d_11_8_3 (by decide) (fun c1 => ?_) (fun c1 => ?_)
  ·
    refine lv_iconst (v := 0) hx hb d_11_8_26 (by decide) ?_
    exact q_reti C0 V (⟨rfl, rfl⟩) d_11_8_27
  ·
    refine lv_lload_n hx hb d_11_8_6 rfl (lv_at hl 1 rfl) ?_
    refine lv_aload_n hx hb d_11_8_7 rfl (lv_at hl 0 rfl) ?_
    refine q_get (ci := 1) (j := 2) (v := .int 0) C0 V i_She rfl rfl hO0 (by decide) w_54 rfl d_11_8_8 ?_
    refine lv_i2l hx hb d_11_8_11 rfl ?_
    refine q_tl (v := 0) (by decide) ?_
    refine W.lcmp hx hb d_11_8_12 ?_
    refine lv_if_ge (tgt := 26) hx hb d_11_8_13 (by decide) (fun c2 => ?_) (fun c2 => absurd (Int32.not_lt.mp c1) c2)
    refine lv_iconst (v := 0) hx hb d_11_8_26 (by decide) ?_
    exact q_reti C0 V (⟨rfl, rfl⟩) d_11_8_27
theorem d_1_21_0 : decode prog_1_method_21_code 0 = .ok (.lconst 0, 1) := by decide +kernel
theorem d_1_21_1 : decode prog_1_method_21_code 1 = .ok (.lstore_n 2, 1) := by decide +kernel
theorem d_1_21_2 : decode prog_1_method_21_code 2 = .ok (.iconst 0, 1) := by decide +kernel
theorem d_1_21_3 : decode prog_1_method_21_code 3 = .ok (.istore 4, 2) := by decide +kernel
theorem d_1_21_5 : decode prog_1_method_21_code 5 = .ok (.iload 4, 2) := by decide +kernel
theorem d_1_21_7 : decode prog_1_method_21_code 7 = .ok (.bipush 8, 2) := by decide +kernel
theorem d_1_21_9 : decode prog_1_method_21_code 9 = .ok (.if_icmp .ge 32, 3) := by decide +kernel
theorem d_1_21_12 : decode prog_1_method_21_code 12 = .ok (.lload_n 2, 1) := by decide +kernel
theorem d_1_21_13 : decode prog_1_method_21_code 13 = .ok (.aload_n 0, 1) := by decide +kernel
theorem d_1_21_14 : decode prog_1_method_21_code 14 = .ok (.getfield 18, 3) := by decide +kernel
theorem d_1_21_17 : decode prog_1_method_21_code 17 = .ok (.iload_n 1, 1) := by decide +kernel
theorem d_1_21_18 : decode prog_1_method_21_code 18 = .ok (.i2l, 1) := by decide +kernel
theorem d_1_21_19 : decode prog_1_method_21_code 19 = .ok (.iload 4, 2) := by decide +kernel
theorem d_1_21_21 : decode prog_1_method_21_code 21 = .ok (.i2l, 1) := by decide +kernel
theorem d_1_21_22 : decode prog_1_method_21_code 22 = .ok (.ladd, 1) := by decide +kernel
theorem d_1_21_23 : decode prog_1_method_21_code 23 = .ok (.invokevirtual 366, 3) := by decide +kernel
theorem w_482 : (Cond.code ({ cls := "NumberHouse$Sheet", name := "at", desc := "(J)I" } : MethodName) prog_11_method_8_code (3 : Nat) (some .int)) ∈ q_tbl := q_of 482 (by decide +kernel) (by decide +kernel)
theorem w_479 : (Cond.methodLink "NumberHouse" (366 : Nat) ({ cls := "NumberHouse$Sheet", name := "at", desc := "(J)I" } : MethodName)) ∈ q_tbl := q_of 479 (by decide +kernel) (by decide +kernel)
theorem w_480 : (Cond.instanceMethod ({ cls := "NumberHouse$Sheet", name := "at", desc := "(J)I" } : MethodName)) ∈ q_tbl := q_of 480 (by decide +kernel) (by decide +kernel)
theorem w_481 : (Cond.selects "NumberHouse$Sheet" ({ cls := "NumberHouse$Sheet", name := "at", desc := "(J)I" } : MethodName) ({ cls := "NumberHouse$Sheet", name := "at", desc := "(J)I" } : MethodName)) ∈ q_tbl := q_of 481 (by decide +kernel) (by decide +kernel)
theorem LV_NH_366 : q_LV "NumberHouse" 366 y_She_at prog_11_method_8_code 3 (some .int) 1 := ⟨w_482, w_2, w_479, w_480, w_481, ⟨by decide, by decide, by decide +kernel⟩⟩
theorem d_1_21_26 : decode prog_1_method_21_code 26 = .ok (.i2l, 1) := by decide +kernel
theorem d_1_21_27 : decode prog_1_method_21_code 27 = .ok (.bipush 8, 2) := by decide +kernel
theorem d_1_21_29 : decode prog_1_method_21_code 29 = .ok (.iload 4, 2) := by decide +kernel
theorem d_1_21_31 : decode prog_1_method_21_code 31 = .ok (.imul, 1) := by decide +kernel
theorem d_1_21_32 : decode prog_1_method_21_code 32 = .ok (.lshl, 1) := by decide +kernel
theorem d_1_21_33 : decode prog_1_method_21_code 33 = .ok (.lor, 1) := by decide +kernel
theorem d_1_21_34 : decode prog_1_method_21_code 34 = .ok (.lstore_n 2, 1) := by decide +kernel
theorem d_1_21_35 : decode prog_1_method_21_code 35 = .ok (.iinc 4 1, 3) := by decide +kernel
theorem d_1_21_38 : decode prog_1_method_21_code 38 = .ok (.goto (-33), 3) := by decide +kernel
theorem d_1_21_41 : decode prog_1_method_21_code 41 = .ok (.lload_n 2, 1) := by decide +kernel
theorem d_1_21_42 : decode prog_1_method_21_code 42 = .ok (.lreturn, 1) := by decide +kernel
def y_NH_paperAt : MethodName := ⟨"NumberHouse", "paperAt", "(I)J"⟩
set_option maxRecDepth 100000 in
set_option maxHeartbeats 4000000 in
/-- paperAt on a fresh object -/
theorem c_NH_paperAt (l : Launch) (D : va_G) (g : Nat → ClassId) (ws : va_W) ( qO0 qO1 qO2 qA3 qA4 qA5 qA6 qO7 qO8 qO9 qO10 qO11 qO12 qO13 qO14 qA16 : Nat) (x1 : Int32) (hO0 : ws[0]? = (some (qO0, .inr (0, [.ref qO1, .ref qO2, .ref qA3, .ref qA4, .ref qA5, .ref qA6, .ref qO7, .ref qO8, .ref qO9, .ref qO10, .ref qO11, .ref qO12, .ref qO13, .ref qO14])) : Option (Nat × va_E))) (hO2 : ws[3]? = (some (qO2, .inr (1, [.ref qA16, .int 11008, .int 0])) : Option (Nat × va_E))) : q_mL l y_NH_paperAt prog_1_method_21_code 5 2 0 0 D g [.ref qO0, .int x1] ws (fun r u => (r.toInt = 0) ∧ q_ge 116 ws u) := by
  intro sz
  refine q_into (by decide) (Nat.le_of_ble_eq_true rfl) ?_
  intro p e s m below meth c ls hsz C0 V hl
  have hx := C0.1
  have hb := C0.2.1
  have hl : lv_has ls 5 [(0, .ref qO0), (1, .int x1)] := hl
  have hF : q_ge 116 ws ws := q_g0
  refine lv_lconst (v := 0) hx hb d_1_21_0 (by decide) ?_
  refine lv_lstore_n (lv' := [(2, .long 0), (0, .ref qO0), (1, .int x1)]) hx hb d_1_21_1 rfl hl (by decide) rfl (fun ls hl => ?_)
  refine lv_iconst (v := 0) hx hb d_1_21_2 (by decide) ?_
  refine lv_istore (lv' := [(4, .int 0), (2, .long 0), (0, .ref qO0), (1, .int x1)]) hx hb d_1_21_3 hl (by decide) rfl (fun ls hl => ?_)
  refine lv_iload hx hb d_1_21_5 (lv_at hl 0 rfl) ?_
  refine lv_bipush (v := 8) hx hb d_1_21_7 (by decide) ?_
  refine lv_icmp_ge (tgt := 41) hx hb d_1_21_9 (by decide) (fun c1 => absurd c1 (by decide)) (fun c1 => ?_)
  refine lv_lload_n hx hb d_1_21_12 rfl (lv_at hl 1 rfl) ?_
  refine lv_aload_n hx hb d_1_21_13 rfl (lv_at hl 2 rfl) ?_
  refine q_get (ci := 0) (j := 1) (v := .ref qO2) C0 V i_NH rfl rfl hO0 (by decide) w_425 rfl d_1_21_14 ?_
  refine lv_iload_n hx hb d_1_21_17 rfl (lv_at hl 3 rfl) ?_
  refine lv_i2l hx hb d_1_21_18 rfl ?_
  refine lv_iload hx hb d_1_21_19 (lv_at hl 0 rfl) ?_
  refine lv_i2l hx hb d_1_21_21 rfl ?_
  refine q_tl (v := 0) (by decide) ?_
  refine lv_ladd hx hb d_1_21_22 ?_
  refine q_tl (v := x1.toInt64) (by simp) ?_
  refine q_goi V (q_runV (As := [.long x1.toInt64]) (rest := [.long 0]) (d := 1) (mc := 0) (ms := 0) (ci := 1) C0 V rfl LV_NH_366 (c_She_at l D g ws 3 qO2 qA16 x1.toInt64 hO2 _) rfl rfl hO2 rfl hl.1 rfl (Nat.le_of_ble_eq_true rfl) ⟨by decide, by decide⟩ ⟨Nat.le_of_ble_eq_true rfl, Nat.le_of_ble_eq_true rfl⟩ d_1_21_23) (fun v4 u3 H locs hp2 V => ?_)
  obtain ⟨rfl, rfl⟩ := hp2
  refine lv_i2l hx hb d_1_21_26 rfl ?_
  refine q_tl (v := 0) (by decide) ?_
  refine lv_bipush (v := 8) hx hb d_1_21_27 (by decide) ?_
  refine lv_iload hx hb d_1_21_29 (lv_at hl 0 rfl) ?_
  refine lv_imul hx hb d_1_21_31 ?_
  refine q_ti (v := 0) (by decide) ?_
  refine lv_lshl hx hb d_1_21_32 rfl ?_
  refine q_tl (v := 0) (by decide) ?_
  refine lv_lor hx hb d_1_21_33 ?_
  refine q_tl (v := 0) (by decide) ?_
  refine lv_lstore_n (lv' := [(2, .long 0), (4, .int 0), (0, .ref qO0), (1, .int x1)]) hx hb d_1_21_34 rfl hl (by decide) rfl (fun ls hl => ?_)
  refine lv_iinc (v := 1) (lv' := [(4, .int 1), (2, .long 0), (0, .ref qO0), (1, .int x1)]) hx hb d_1_21_35 hl (k := 1) rfl (by decide) (by decide) rfl (fun ls hl => ?_)
  refine lv_goto (tgt := 5) hx hb d_1_21_38 (by decide) ?_
  refine lv_iload hx hb d_1_21_5 (lv_at hl 0 rfl) ?_
  refine lv_bipush (v := 8) hx hb d_1_21_7 (by decide) ?_
  refine lv_icmp_ge (tgt := 41) hx hb d_1_21_9 (by decide) (fun c6 => absurd c6 (by decide)) (fun c6 => ?_)
  refine lv_lload_n hx hb d_1_21_12 rfl (lv_at hl 1 rfl) ?_
  refine lv_aload_n hx hb d_1_21_13 rfl (lv_at hl 2 rfl) ?_
  refine q_get (ci := 0) (j := 1) (v := .ref qO2) C0 V i_NH rfl rfl hO0 (by decide) w_425 rfl d_1_21_14 ?_
  refine lv_iload_n hx hb d_1_21_17 rfl (lv_at hl 3 rfl) ?_
  refine lv_i2l hx hb d_1_21_18 rfl ?_
  refine lv_iload hx hb d_1_21_19 (lv_at hl 0 rfl) ?_
  refine lv_i2l hx hb d_1_21_21 rfl ?_
  refine q_tl (v := 1) (by decide) ?_
  refine lv_ladd hx hb d_1_21_22 ?_
  refine q_goi V (q_runV (As := [.long (x1.toInt64 + 1)]) (rest := [.long 0]) (d := 1) (mc := 0) (ms := 0) (ci := 1) C0 V rfl LV_NH_366 (c_She_at l D g ws 3 qO2 qA16 (x1.toInt64 + 1) hO2 _) rfl rfl hO2 rfl hl.1 rfl (Nat.le_of_ble_eq_true rfl) ⟨by decide, by decide⟩ ⟨Nat.le_of_ble_eq_true rfl, Nat.le_of_ble_eq_true rfl⟩ d_1_21_23) (fun v9 u8 H locs hp7 V => ?_)
  obtain ⟨rfl, rfl⟩ := hp7
  refine lv_i2l hx hb d_1_21_26 rfl ?_
  refine q_tl (v := 0) (by decide) ?_
  refine lv_bipush (v := 8) hx hb d_1_21_27 (by decide) ?_
  refine lv_iload hx hb d_1_21_29 (lv_at hl 0 rfl) ?_
  refine lv_imul hx hb d_1_21_31 ?_
  refine q_ti (v := 8) (by decide) ?_
  refine lv_lshl hx hb d_1_21_32 rfl ?_
  refine q_tl (v := 0) (by decide) ?_
  refine lv_lor hx hb d_1_21_33 ?_
  refine q_tl (v := 0) (by decide) ?_
  refine lv_lstore_n (lv' := [(2, .long 0), (4, .int 1), (0, .ref qO0), (1, .int x1)]) hx hb d_1_21_34 rfl hl (by decide) rfl (fun ls hl => ?_)
  refine lv_iinc (v := 2) (lv' := [(4, .int 2), (2, .long 0), (0, .ref qO0), (1, .int x1)]) hx hb d_1_21_35 hl (k := 1) rfl (by decide) (by decide) rfl (fun ls hl => ?_)
  refine lv_goto (tgt := 5) hx hb d_1_21_38 (by decide) ?_
  refine lv_iload hx hb d_1_21_5 (lv_at hl 0 rfl) ?_
  refine lv_bipush (v := 8) hx hb d_1_21_7 (by decide) ?_
  refine lv_icmp_ge (tgt := 41) hx hb d_1_21_9 (by decide) (fun c11 => absurd c11 (by decide)) (fun c11 => ?_)
  refine lv_lload_n hx hb d_1_21_12 rfl (lv_at hl 1 rfl) ?_
  refine lv_aload_n hx hb d_1_21_13 rfl (lv_at hl 2 rfl) ?_
  refine q_get (ci := 0) (j := 1) (v := .ref qO2) C0 V i_NH rfl rfl hO0 (by decide) w_425 rfl d_1_21_14 ?_
  refine lv_iload_n hx hb d_1_21_17 rfl (lv_at hl 3 rfl) ?_
  refine lv_i2l hx hb d_1_21_18 rfl ?_
  refine lv_iload hx hb d_1_21_19 (lv_at hl 0 rfl) ?_
  refine lv_i2l hx hb d_1_21_21 rfl ?_
  refine q_tl (v := 2) (by decide) ?_
  refine lv_ladd hx hb d_1_21_22 ?_
  refine q_goi V (q_runV (As := [.long (x1.toInt64 + 2)]) (rest := [.long 0]) (d := 1) (mc := 0) (ms := 0) (ci := 1) C0 V rfl LV_NH_366 (c_She_at l D g ws 3 qO2 qA16 (x1.toInt64 + 2) hO2 _) rfl rfl hO2 rfl hl.1 rfl (Nat.le_of_ble_eq_true rfl) ⟨by decide, by decide⟩ ⟨Nat.le_of_ble_eq_true rfl, Nat.le_of_ble_eq_true rfl⟩ d_1_21_23) (fun v14 u13 H locs hp12 V => ?_)
  obtain ⟨rfl, rfl⟩ := hp12
  refine lv_i2l hx hb d_1_21_26 rfl ?_
  refine q_tl (v := 0) (by decide) ?_
  refine lv_bipush (v := 8) hx hb d_1_21_27 (by decide) ?_
  refine lv_iload hx hb d_1_21_29 (lv_at hl 0 rfl) ?_
  refine lv_imul hx hb d_1_21_31 ?_
  refine q_ti (v := 16) (by decide) ?_
  refine lv_lshl hx hb d_1_21_32 rfl ?_
  refine q_tl (v := 0) (by decide) ?_
  refine lv_lor hx hb d_1_21_33 ?_
  refine q_tl (v := 0) (by decide) ?_
  refine lv_lstore_n (lv' := [(2, .long 0), (4, .int 2), (0, .ref qO0), (1, .int x1)]) hx hb d_1_21_34 rfl hl (by decide) rfl (fun ls hl => ?_)
  refine lv_iinc (v := 3) (lv' := [(4, .int 3), (2, .long 0), (0, .ref qO0), (1, .int x1)]) hx hb d_1_21_35 hl (k := 1) rfl (by decide) (by decide) rfl (fun ls hl => ?_)
  refine lv_goto (tgt := 5) hx hb d_1_21_38 (by decide) ?_
  refine lv_iload hx hb d_1_21_5 (lv_at hl 0 rfl) ?_
  refine lv_bipush (v := 8) hx hb d_1_21_7 (by decide) ?_
  refine lv_icmp_ge (tgt := 41) hx hb d_1_21_9 (by decide) (fun c16 => absurd c16 (by decide)) (fun c16 => ?_)
  refine lv_lload_n hx hb d_1_21_12 rfl (lv_at hl 1 rfl) ?_
  refine lv_aload_n hx hb d_1_21_13 rfl (lv_at hl 2 rfl) ?_
  refine q_get (ci := 0) (j := 1) (v := .ref qO2) C0 V i_NH rfl rfl hO0 (by decide) w_425 rfl d_1_21_14 ?_
  refine lv_iload_n hx hb d_1_21_17 rfl (lv_at hl 3 rfl) ?_
  refine lv_i2l hx hb d_1_21_18 rfl ?_
  refine lv_iload hx hb d_1_21_19 (lv_at hl 0 rfl) ?_
  refine lv_i2l hx hb d_1_21_21 rfl ?_
  refine q_tl (v := 3) (by decide) ?_
  refine lv_ladd hx hb d_1_21_22 ?_
  refine q_goi V (q_runV (As := [.long (x1.toInt64 + 3)]) (rest := [.long 0]) (d := 1) (mc := 0) (ms := 0) (ci := 1) C0 V rfl LV_NH_366 (c_She_at l D g ws 3 qO2 qA16 (x1.toInt64 + 3) hO2 _) rfl rfl hO2 rfl hl.1 rfl (Nat.le_of_ble_eq_true rfl) ⟨by decide, by decide⟩ ⟨Nat.le_of_ble_eq_true rfl, Nat.le_of_ble_eq_true rfl⟩ d_1_21_23) (fun v19 u18 H locs hp17 V => ?_)
  obtain ⟨rfl, rfl⟩ := hp17
  refine lv_i2l hx hb d_1_21_26 rfl ?_
  refine q_tl (v := 0) (by decide) ?_
  refine lv_bipush (v := 8) hx hb d_1_21_27 (by decide) ?_
  refine lv_iload hx hb d_1_21_29 (lv_at hl 0 rfl) ?_
  refine lv_imul hx hb d_1_21_31 ?_
  refine q_ti (v := 24) (by decide) ?_
  refine lv_lshl hx hb d_1_21_32 rfl ?_
  refine q_tl (v := 0) (by decide) ?_
  refine lv_lor hx hb d_1_21_33 ?_
  refine q_tl (v := 0) (by decide) ?_
  refine lv_lstore_n (lv' := [(2, .long 0), (4, .int 3), (0, .ref qO0), (1, .int x1)]) hx hb d_1_21_34 rfl hl (by decide) rfl (fun ls hl => ?_)
  refine lv_iinc (v := 4) (lv' := [(4, .int 4), (2, .long 0), (0, .ref qO0), (1, .int x1)]) hx hb d_1_21_35 hl (k := 1) rfl (by decide) (by decide) rfl (fun ls hl => ?_)
  refine lv_goto (tgt := 5) hx hb d_1_21_38 (by decide) ?_
  refine lv_iload hx hb d_1_21_5 (lv_at hl 0 rfl) ?_
  refine lv_bipush (v := 8) hx hb d_1_21_7 (by decide) ?_
  refine lv_icmp_ge (tgt := 41) hx hb d_1_21_9 (by decide) (fun c21 => absurd c21 (by decide)) (fun c21 => ?_)
  refine lv_lload_n hx hb d_1_21_12 rfl (lv_at hl 1 rfl) ?_
  refine lv_aload_n hx hb d_1_21_13 rfl (lv_at hl 2 rfl) ?_
  refine q_get (ci := 0) (j := 1) (v := .ref qO2) C0 V i_NH rfl rfl hO0 (by decide) w_425 rfl d_1_21_14 ?_
  refine lv_iload_n hx hb d_1_21_17 rfl (lv_at hl 3 rfl) ?_
  refine lv_i2l hx hb d_1_21_18 rfl ?_
  refine lv_iload hx hb d_1_21_19 (lv_at hl 0 rfl) ?_
  refine lv_i2l hx hb d_1_21_21 rfl ?_
  refine q_tl (v := 4) (by decide) ?_
  refine lv_ladd hx hb d_1_21_22 ?_
  refine q_goi V (q_runV (As := [.long (x1.toInt64 + 4)]) (rest := [.long 0]) (d := 1) (mc := 0) (ms := 0) (ci := 1) C0 V rfl LV_NH_366 (c_She_at l D g ws 3 qO2 qA16 (x1.toInt64 + 4) hO2 _) rfl rfl hO2 rfl hl.1 rfl (Nat.le_of_ble_eq_true rfl) ⟨by decide, by decide⟩ ⟨Nat.le_of_ble_eq_true rfl, Nat.le_of_ble_eq_true rfl⟩ d_1_21_23) (fun v24 u23 H locs hp22 V => ?_)
  obtain ⟨rfl, rfl⟩ := hp22
  refine lv_i2l hx hb d_1_21_26 rfl ?_
  refine q_tl (v := 0) (by decide) ?_
  refine lv_bipush (v := 8) hx hb d_1_21_27 (by decide) ?_
  refine lv_iload hx hb d_1_21_29 (lv_at hl 0 rfl) ?_
  refine lv_imul hx hb d_1_21_31 ?_
  refine q_ti (v := 32) (by decide) ?_
  refine lv_lshl hx hb d_1_21_32 rfl ?_
  refine q_tl (v := 0) (by decide) ?_
  refine lv_lor hx hb d_1_21_33 ?_
  refine q_tl (v := 0) (by decide) ?_
  refine lv_lstore_n (lv' := [(2, .long 0), (4, .int 4), (0, .ref qO0), (1, .int x1)]) hx hb d_1_21_34 rfl hl (by decide) rfl (fun ls hl => ?_)
  refine lv_iinc (v := 5) (lv' := [(4, .int 5), (2, .long 0), (0, .ref qO0), (1, .int x1)]) hx hb d_1_21_35 hl (k := 1) rfl (by decide) (by decide) rfl (fun ls hl => ?_)
  refine lv_goto (tgt := 5) hx hb d_1_21_38 (by decide) ?_
  refine lv_iload hx hb d_1_21_5 (lv_at hl 0 rfl) ?_
  refine lv_bipush (v := 8) hx hb d_1_21_7 (by decide) ?_
  refine lv_icmp_ge (tgt := 41) hx hb d_1_21_9 (by decide) (fun c26 => absurd c26 (by decide)) (fun c26 => ?_)
  refine lv_lload_n hx hb d_1_21_12 rfl (lv_at hl 1 rfl) ?_
  refine lv_aload_n hx hb d_1_21_13 rfl (lv_at hl 2 rfl) ?_
  refine q_get (ci := 0) (j := 1) (v := .ref qO2) C0 V i_NH rfl rfl hO0 (by decide) w_425 rfl d_1_21_14 ?_
  refine lv_iload_n hx hb d_1_21_17 rfl (lv_at hl 3 rfl) ?_
  refine lv_i2l hx hb d_1_21_18 rfl ?_
  refine lv_iload hx hb d_1_21_19 (lv_at hl 0 rfl) ?_
  refine lv_i2l hx hb d_1_21_21 rfl ?_
  refine q_tl (v := 5) (by decide) ?_
  refine lv_ladd hx hb d_1_21_22 ?_
  refine q_goi V (q_runV (As := [.long (x1.toInt64 + 5)]) (rest := [.long 0]) (d := 1) (mc := 0) (ms := 0) (ci := 1) C0 V rfl LV_NH_366 (c_She_at l D g ws 3 qO2 qA16 (x1.toInt64 + 5) hO2 _) rfl rfl hO2 rfl hl.1 rfl (Nat.le_of_ble_eq_true rfl) ⟨by decide, by decide⟩ ⟨Nat.le_of_ble_eq_true rfl, Nat.le_of_ble_eq_true rfl⟩ d_1_21_23) (fun v29 u28 H locs hp27 V => ?_)
  obtain ⟨rfl, rfl⟩ := hp27
  refine lv_i2l hx hb d_1_21_26 rfl ?_
  refine q_tl (v := 0) (by decide) ?_
  refine lv_bipush (v := 8) hx hb d_1_21_27 (by decide) ?_
  refine lv_iload hx hb d_1_21_29 (lv_at hl 0 rfl) ?_
  refine lv_imul hx hb d_1_21_31 ?_
  refine q_ti (v := 40) (by decide) ?_
  refine lv_lshl hx hb d_1_21_32 rfl ?_
  refine q_tl (v := 0) (by decide) ?_
  refine lv_lor hx hb d_1_21_33 ?_
  refine q_tl (v := 0) (by decide) ?_
  refine lv_lstore_n (lv' := [(2, .long 0), (4, .int 5), (0, .ref qO0), (1, .int x1)]) hx hb d_1_21_34 rfl hl (by decide) rfl (fun ls hl => ?_)
  refine lv_iinc (v := 6) (lv' := [(4, .int 6), (2, .long 0), (0, .ref qO0), (1, .int x1)]) hx hb d_1_21_35 hl (k := 1) rfl (by decide) (by decide) rfl (fun ls hl => ?_)
  refine lv_goto (tgt := 5) hx hb d_1_21_38 (by decide) ?_
  refine lv_iload hx hb d_1_21_5 (lv_at hl 0 rfl) ?_
  refine lv_bipush (v := 8) hx hb d_1_21_7 (by decide) ?_
  refine lv_icmp_ge (tgt := 41) hx hb d_1_21_9 (by decide) (fun c31 => absurd c31 (by decide)) (fun c31 => ?_)
  refine lv_lload_n hx hb d_1_21_12 rfl (lv_at hl 1 rfl) ?_
  refine lv_aload_n hx hb d_1_21_13 rfl (lv_at hl 2 rfl) ?_
  refine q_get (ci := 0) (j := 1) (v := .ref qO2) C0 V i_NH rfl rfl hO0 (by decide) w_425 rfl d_1_21_14 ?_
  refine lv_iload_n hx hb d_1_21_17 rfl (lv_at hl 3 rfl) ?_
  refine lv_i2l hx hb d_1_21_18 rfl ?_
  refine lv_iload hx hb d_1_21_19 (lv_at hl 0 rfl) ?_
  refine lv_i2l hx hb d_1_21_21 rfl ?_
  refine q_tl (v := 6) (by decide) ?_
  refine lv_ladd hx hb d_1_21_22 ?_
  refine q_goi V (q_runV (As := [.long (x1.toInt64 + 6)]) (rest := [.long 0]) (d := 1) (mc := 0) (ms := 0) (ci := 1) C0 V rfl LV_NH_366 (c_She_at l D g ws 3 qO2 qA16 (x1.toInt64 + 6) hO2 _) rfl rfl hO2 rfl hl.1 rfl (Nat.le_of_ble_eq_true rfl) ⟨by decide, by decide⟩ ⟨Nat.le_of_ble_eq_true rfl, Nat.le_of_ble_eq_true rfl⟩ d_1_21_23) (fun v34 u33 H locs hp32 V => ?_)
  obtain ⟨rfl, rfl⟩ := hp32
  refine lv_i2l hx hb d_1_21_26 rfl ?_
  refine q_tl (v := 0) (by decide) ?_
  refine lv_bipush (v := 8) hx hb d_1_21_27 (by decide) ?_
  refine lv_iload hx hb d_1_21_29 (lv_at hl 0 rfl) ?_
  refine lv_imul hx hb d_1_21_31 ?_
  refine q_ti (v := 48) (by decide) ?_
  refine lv_lshl hx hb d_1_21_32 rfl ?_
  refine q_tl (v := 0) (by decide) ?_
  refine lv_lor hx hb d_1_21_33 ?_
  refine q_tl (v := 0) (by decide) ?_
  refine lv_lstore_n (lv' := [(2, .long 0), (4, .int 6), (0, .ref qO0), (1, .int x1)]) hx hb d_1_21_34 rfl hl (by decide) rfl (fun ls hl => ?_)
  refine lv_iinc (v := 7) (lv' := [(4, .int 7), (2, .long 0), (0, .ref qO0), (1, .int x1)]) hx hb d_1_21_35 hl (k := 1) rfl (by decide) (by decide) rfl (fun ls hl => ?_)
  refine lv_goto (tgt := 5) hx hb d_1_21_38 (by decide) ?_
  refine lv_iload hx hb d_1_21_5 (lv_at hl 0 rfl) ?_
  refine lv_bipush (v := 8) hx hb d_1_21_7 (by decide) ?_
  refine lv_icmp_ge (tgt := 41) hx hb d_1_21_9 (by decide) (fun c36 => absurd c36 (by decide)) (fun c36 => ?_)
  refine lv_lload_n hx hb d_1_21_12 rfl (lv_at hl 1 rfl) ?_
  refine lv_aload_n hx hb d_1_21_13 rfl (lv_at hl 2 rfl) ?_
  refine q_get (ci := 0) (j := 1) (v := .ref qO2) C0 V i_NH rfl rfl hO0 (by decide) w_425 rfl d_1_21_14 ?_
  refine lv_iload_n hx hb d_1_21_17 rfl (lv_at hl 3 rfl) ?_
  refine lv_i2l hx hb d_1_21_18 rfl ?_
  refine lv_iload hx hb d_1_21_19 (lv_at hl 0 rfl) ?_
  refine lv_i2l hx hb d_1_21_21 rfl ?_
  refine q_tl (v := 7) (by decide) ?_
  refine lv_ladd hx hb d_1_21_22 ?_
  refine q_goi V (q_runV (As := [.long (x1.toInt64 + 7)]) (rest := [.long 0]) (d := 1) (mc := 0) (ms := 0) (ci := 1) C0 V rfl LV_NH_366 (c_She_at l D g ws 3 qO2 qA16 (x1.toInt64 + 7) hO2 _) rfl rfl hO2 rfl hl.1 rfl (Nat.le_of_ble_eq_true rfl) ⟨by decide, by decide⟩ ⟨Nat.le_of_ble_eq_true rfl, Nat.le_of_ble_eq_true rfl⟩ d_1_21_23) (fun v39 u38 H locs hp37 V => ?_)
  obtain ⟨rfl, rfl⟩ := hp37
  refine lv_i2l hx hb d_1_21_26 rfl ?_
  refine q_tl (v := 0) (by decide) ?_
  refine lv_bipush (v := 8) hx hb d_1_21_27 (by decide) ?_
  refine lv_iload hx hb d_1_21_29 (lv_at hl 0 rfl) ?_
  refine lv_imul hx hb d_1_21_31 ?_
  refine q_ti (v := 56) (by decide) ?_
  refine lv_lshl hx hb d_1_21_32 rfl ?_
  refine q_tl (v := 0) (by decide) ?_
  refine lv_lor hx hb d_1_21_33 ?_
  refine q_tl (v := 0) (by decide) ?_
  refine lv_lstore_n (lv' := [(2, .long 0), (4, .int 7), (0, .ref qO0), (1, .int x1)]) hx hb d_1_21_34 rfl hl (by decide) rfl (fun ls hl => ?_)
  refine lv_iinc (v := 8) (lv' := [(4, .int 8), (2, .long 0), (0, .ref qO0), (1, .int x1)]) hx hb d_1_21_35 hl (k := 1) rfl (by decide) (by decide) rfl (fun ls hl => ?_)
  refine lv_goto (tgt := 5) hx hb d_1_21_38 (by decide) ?_
  refine lv_iload hx hb d_1_21_5 (lv_at hl 0 rfl) ?_
  refine lv_bipush (v := 8) hx hb d_1_21_7 (by decide) ?_
  refine lv_icmp_ge (tgt := 41) hx hb d_1_21_9 (by decide) (fun c41 => ?_) (fun c41 => absurd (by decide) c41)
  refine lv_lload_n hx hb d_1_21_41 rfl (lv_at hl 1 rfl) ?_
  exact q_retl C0 V (⟨(show (0 : Int64).toInt = 0 from by have e0 : (0 : Int64).toInt = 0 := (by decide); omega), hF⟩) d_1_21_42
