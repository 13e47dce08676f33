/-! Big: the small methods -/
theorem d_2_2_0 : decode prog_2_method_2_code 0 = .ok (.aload_n 0, 1) := by decide +kernel
theorem d_2_2_1 : decode prog_2_method_2_code 1 = .ok (.iconst 0, 1) := by decide +kernel
theorem d_2_2_2 : decode prog_2_method_2_code 2 = .ok (.putfield 13, 3) := by decide +kernel
set_option maxRecDepth 100000 in
theorem w_85 : (Cond.fieldLink "NumberHouse$Big" (13 : Nat) "NumberHouse$Big" "size" "I") ∈ q_tbl := q_of1 85 rfl (by decide +kernel)
theorem d_2_2_5 : decode prog_2_method_2_code 5 = .ok (.aload_n 0, 1) := by decide +kernel
theorem d_2_2_6 : decode prog_2_method_2_code 6 = .ok (.iconst 0, 1) := by decide +kernel
theorem d_2_2_7 : decode prog_2_method_2_code 7 = .ok (.putfield 17, 3) := by decide +kernel
set_option maxRecDepth 100000 in
theorem w_94 : (Cond.fieldLink "NumberHouse$Big" (17 : Nat) "NumberHouse$Big" "negative" "Z") ∈ q_tbl := q_of1 94 rfl (by decide +kernel)
theorem d_2_2_10 : decode prog_2_method_2_code 10 = .ok (.return_, 1) := by decide +kernel
def y_Big_clear : MethodName := ⟨"NumberHouse$Big", "clear", "()V"⟩
set_option maxRecDepth 100000 in
set_option maxHeartbeats 4000000 in
/-- clear(): size 0, not negative -/
theorem c_Big_clear (l : Launch) (D : va_G) (g : Nat → ClassId) (ws : va_W) (kO0 qO0 qA1 : Nat) (y1 : Int32) (y2 : Int32) (hO0 : ws[kO0]? = (some (qO0, .inr (2, [.ref qA1, .int y1, .int y2])) : Option (Nat × va_E))) : q_mV l y_Big_clear prog_2_method_2_code 1 1 0 0 D g [.ref qO0] ws (fun u => q_un ws u [kO0] ∧ u[kO0]? = (some (qO0, .inr (2, [.ref qA1, .int 0, .int 0])) : Option (Nat × va_E))) := by
  intro sz
  refine q_into (by decide) (Nat.le_of_ble_eq_true rfl) ?_
  intro p e s m below meth c ls hsz C0 V hl
  have hx := C0.1
  have hb := C0.2.1
  have hl : lv_has ls 1 [(0, .ref qO0)] := hl
  have hF : q_un ws ws [kO0] := q_u0
  refine lv_aload_n hx hb d_2_2_0 rfl (lv_at hl 0 rfl) ?_
  refine lv_iconst (v := 0) hx hb d_2_2_1 (by decide) ?_
  refine q_put (ci := 2) (j := 1) (v := .int 0) (ty := .int) C0 V i_Big o_Big n_Big rfl rfl hO0 (by decide) w_85 rfl rfl rfl rfl (Nat.le_of_ble_eq_true rfl) d_2_2_2 (fun H locs w1 hu2 hO0 V => ?_)
  replace hO0 : w1[kO0]? = (some (qO0, .inr (2, [.ref qA1, .int 0, .int y2])) : Option (Nat × va_E)) := hO0
  replace hF := q_us hF hu2 (.head _)
  refine lv_aload_n hx hb d_2_2_5 rfl (lv_at hl 0 rfl) ?_
  refine lv_iconst (v := 0) hx hb d_2_2_6 (by decide) ?_
  refine q_put (ci := 2) (j := 2) (v := .int 0) (ty := .boolean) C0 V i_Big o_Big n_Big rfl rfl hO0 (by decide) w_94 rfl rfl rfl rfl (Nat.le_of_ble_eq_true rfl) d_2_2_7 (fun H locs w3 hu4 hO0 V => ?_)
  replace hO0 : w3[kO0]? = (some (qO0, .inr (2, [.ref qA1, .int 0, .int 0])) : Option (Nat × va_E)) := hO0
  replace hF := q_us hF hu4 (.head _)
  exact q_retv C0 V (⟨hF, hO0⟩) d_2_2_10
theorem d_2_8_0 : decode prog_2_method_8_code 0 = .ok (.aload_n 0, 1) := by decide +kernel
theorem d_2_8_1 : decode prog_2_method_8_code 1 = .ok (.getfield 13, 3) := by decide +kernel
theorem d_2_8_4 : decode prog_2_method_8_code 4 = .ok (.ifCond .ne 7, 3) := by decide +kernel
theorem d_2_8_11 : decode prog_2_method_8_code 11 = .ok (.aload_n 0, 1) := by decide +kernel
theorem d_2_8_12 : decode prog_2_method_8_code 12 = .ok (.getfield 17, 3) := by decide +kernel
theorem d_2_8_15 : decode prog_2_method_8_code 15 = .ok (.ifCond .eq 7, 3) := by decide +kernel
theorem d_2_8_22 : decode prog_2_method_8_code 22 = .ok (.iconst 1, 1) := by decide +kernel
theorem d_2_8_23 : decode prog_2_method_8_code 23 = .ok (.ireturn, 1) := by decide +kernel
theorem d_2_8_18 : decode prog_2_method_8_code 18 = .ok (.iconst (-1), 1) := by decide +kernel
theorem d_2_8_19 : decode prog_2_method_8_code 19 = .ok (.goto 4, 3) := by decide +kernel
theorem d_2_8_7 : decode prog_2_method_8_code 7 = .ok (.iconst 0, 1) := by decide +kernel
theorem d_2_8_8 : decode prog_2_method_8_code 8 = .ok (.goto 15, 3) := by decide +kernel
def y_Big_sign : MethodName := ⟨"NumberHouse$Big", "sign", "()I"⟩
set_option maxRecDepth 100000 in
set_option maxHeartbeats 4000000 in
/-- sign() -/
theorem c_Big_sign (l : Launch) (D : va_G) (g : Nat → ClassId) (ws : va_W) (kO0 qO0 qA1 : Nat) (y1 : Int32) (y2 : Int32) (hO0 : ws[kO0]? = (some (qO0, .inr (2, [.ref qA1, .int y1, .int y2])) : Option (Nat × va_E))) : q_mI l y_Big_sign prog_2_method_8_code 1 (.int) 1 0 0 D g [.ref qO0] ws (fun r u => (¬ y1 = 0 ∧ y2 = 0 ∧ 1 = r ∧ ws = u) ∨ (¬ y1 = 0 ∧ ¬ y2 = 0 ∧ (-1) = r ∧ ws = u) ∨ (y1 = 0 ∧ 0 = r ∧ ws = u)) := by
  intro sz
  refine q_into (by decide) (Nat.le_of_ble_eq_true rfl) ?_
  intro p e s m below meth c ls hsz C0 V hl
  have hx := C0.1
  have hb := C0.2.1
  have hl : lv_has ls 1 [(0, .ref qO0)] := hl
  refine lv_aload_n hx hb d_2_8_0 rfl (lv_at hl 0 rfl) ?_
  refine q_get (ci := 2) (j := 1) (v := .int y1) C0 V i_Big rfl rfl hO0 (by decide) w_85 rfl d_2_8_1 ?_
  refine lv_if_ne (tgt := 11) hx hb d_2_8_4 (by decide) (fun c1 => ?_) (fun c1 => ?_)
  ·
    refine lv_aload_n hx hb d_2_8_11 rfl (lv_at hl 0 rfl) ?_
    refine q_get (ci := 2) (j := 2) (v := .int y2) C0 V i_Big rfl rfl hO0 (by decide) w_94 rfl d_2_8_12 ?_
    refine lv_if_eq (tgt := 22) hx hb d_2_8_15 (by decide) (fun c2 => ?_) (fun c2 => ?_)
    ·
      refine lv_iconst (v := 1) hx hb d_2_8_22 (by decide) ?_
      exact q_reti C0 V (Or.inl ⟨c1, c2, rfl, rfl⟩) d_2_8_23
    ·
      refine lv_iconst (v := (-1)) hx hb d_2_8_18 (by decide) ?_
      refine lv_goto (tgt := 23) hx hb d_2_8_19 (by decide) ?_
      exact q_reti C0 V (Or.inr (Or.inl ⟨c1, c2, rfl, rfl⟩)) d_2_8_23
  ·
    refine lv_iconst (v := 0) hx hb d_2_8_7 (by decide) ?_
    refine lv_goto (tgt := 23) hx hb d_2_8_8 (by decide) ?_
    exact q_reti C0 V (Or.inr (Or.inr (⟨c1, rfl, rfl⟩))) d_2_8_23
set_option maxRecDepth 100000 in
set_option maxHeartbeats 4000000 in
/-- sign of a zero -/
theorem c_Big_sign_2 (l : Launch) (D : va_G) (g : Nat → ClassId) (ws : va_W) (kO0 qO0 qA1 : Nat) (hO0 : ws[kO0]? = (some (qO0, .inr (2, [.ref qA1, .int 0, .int 0])) : Option (Nat × va_E))) : q_mI l y_Big_sign prog_2_method_8_code 1 (.int) 1 0 0 D g [.ref qO0] ws (fun r u => 0 = r ∧ ws = u) := by
  intro sz
  refine q_into (by decide) (Nat.le_of_ble_eq_true rfl) ?_
  intro p e s m below meth c ls hsz C0 V hl
  have hx := C0.1
  have hb := C0.2.1
  have hl : lv_has ls 1 [(0, .ref qO0)] := hl
  refine lv_aload_n hx hb d_2_8_0 rfl (lv_at hl 0 rfl) ?_
  refine q_get (ci := 2) (j := 1) (v := .int 0) C0 V i_Big rfl rfl hO0 (by decide) w_85 rfl d_2_8_1 ?_
  refine lv_if_ne (tgt := 11) hx hb d_2_8_4 (by decide) (fun c1 => absurd (by decide) c1) (fun c1 => ?_)
  refine lv_iconst (v := 0) hx hb d_2_8_7 (by decide) ?_
  refine lv_goto (tgt := 23) hx hb d_2_8_8 (by decide) ?_
  exact q_reti C0 V (⟨rfl, rfl⟩) d_2_8_23
theorem d_2_7_0 : decode prog_2_method_7_code 0 = .ok (.aload_n 0, 1) := by decide +kernel
theorem d_2_7_1 : decode prog_2_method_7_code 1 = .ok (.getfield 13, 3) := by decide +kernel
theorem d_2_7_4 : decode prog_2_method_7_code 4 = .ok (.istore_n 1, 1) := by decide +kernel
theorem d_2_7_5 : decode prog_2_method_7_code 5 = .ok (.iload_n 1, 1) := by decide +kernel
theorem d_2_7_6 : decode prog_2_method_7_code 6 = .ok (.ifCond .le 20, 3) := by decide +kernel
theorem d_2_7_26 : decode prog_2_method_7_code 26 = .ok (.aload_n 0, 1) := by decide +kernel
theorem d_2_7_27 : decode prog_2_method_7_code 27 = .ok (.iload_n 1, 1) := by decide +kernel
theorem d_2_7_28 : decode prog_2_method_7_code 28 = .ok (.putfield 13, 3) := by decide +kernel
theorem d_2_7_31 : decode prog_2_method_7_code 31 = .ok (.aload_n 0, 1) := by decide +kernel
theorem d_2_7_32 : decode prog_2_method_7_code 32 = .ok (.aload_n 0, 1) := by decide +kernel
theorem d_2_7_33 : decode prog_2_method_7_code 33 = .ok (.getfield 17, 3) := by decide +kernel
theorem d_2_7_36 : decode prog_2_method_7_code 36 = .ok (.ifCond .eq 11, 3) := by decide +kernel
theorem d_2_7_47 : decode prog_2_method_7_code 47 = .ok (.iconst 0, 1) := by decide +kernel
theorem d_2_7_48 : decode prog_2_method_7_code 48 = .ok (.putfield 17, 3) := by decide +kernel
theorem d_2_7_51 : decode prog_2_method_7_code 51 = .ok (.return_, 1) := by decide +kernel
def y_Big_trim : MethodName := ⟨"NumberHouse$Big", "trim", "()V"⟩
set_option maxRecDepth 100000 in
set_option maxHeartbeats 4000000 in
/-- trim of a zero -/
theorem c_Big_trim (l : Launch) (D : va_G) (g : Nat → ClassId) (ws : va_W) (kO0 qO0 qA1 : Nat) (hO0 : ws[kO0]? = (some (qO0, .inr (2, [.ref qA1, .int 0, .int 0])) : Option (Nat × va_E))) : q_mV l y_Big_trim prog_2_method_7_code 2 1 0 0 D g [.ref qO0] ws (fun u => q_un ws u [kO0] ∧ u[kO0]? = (some (qO0, .inr (2, [.ref qA1, .int 0, .int 0])) : Option (Nat × va_E))) := by
  intro sz
  refine q_into (by decide) (Nat.le_of_ble_eq_true rfl) ?_
  intro p e s m below meth c ls hsz C0 V hl
  have hx := C0.1
  have hb := C0.2.1
  have hl : lv_has ls 2 [(0, .ref qO0)] := hl
  have hF : q_un ws ws [kO0] := q_u0
  refine lv_aload_n hx hb d_2_7_0 rfl (lv_at hl 0 rfl) ?_
  refine q_get (ci := 2) (j := 1) (v := .int 0) C0 V i_Big rfl rfl hO0 (by decide) w_85 rfl d_2_7_1 ?_
  refine lv_istore_n (lv' := [(1, .int 0), (0, .ref qO0)]) hx hb d_2_7_4 rfl hl (by decide) rfl (fun ls hl => ?_)
  refine lv_iload_n hx hb d_2_7_5 rfl (lv_at hl 0 rfl) ?_
  refine lv_if_le (tgt := 26) hx hb d_2_7_6 (by decide) (fun c1 => ?_) (fun c1 => absurd (by decide) c1)
  refine lv_aload_n hx hb d_2_7_26 rfl (lv_at hl 1 rfl) ?_
  refine lv_iload_n hx hb d_2_7_27 rfl (lv_at hl 0 rfl) ?_
  refine q_put (ci := 2) (j := 1) (v := .int 0) (ty := .int) C0 V i_Big o_Big n_Big rfl rfl hO0 (by decide) w_85 rfl rfl rfl rfl (Nat.le_of_ble_eq_true rfl) d_2_7_28 (fun H locs w2 hu3 hO0 V => ?_)
  replace hO0 : w2[kO0]? = (some (qO0, .inr (2, [.ref qA1, .int 0, .int 0])) : Option (Nat × va_E)) := hO0
  replace hF := q_us hF hu3 (.head _)
  refine lv_aload_n hx hb d_2_7_31 rfl (lv_at hl 1 rfl) ?_
  refine lv_aload_n hx hb d_2_7_32 rfl (lv_at hl 1 rfl) ?_
  refine q_get (ci := 2) (j := 2) (v := .int 0) C0 V i_Big rfl rfl hO0 (by decide) w_94 rfl d_2_7_33 ?_
  refine lv_if_eq (tgt := 47) hx hb d_2_7_36 (by decide) (fun c4 => ?_) (fun c4 => absurd (by decide) c4)
  refine lv_iconst (v := 0) hx hb d_2_7_47 (by decide) ?_
  refine q_put (ci := 2) (j := 2) (v := .int 0) (ty := .boolean) C0 V i_Big o_Big n_Big rfl rfl hO0 (by decide) w_94 rfl rfl rfl rfl (Nat.le_of_ble_eq_true rfl) d_2_7_48 (fun H locs w5 hu6 hO0 V => ?_)
  replace hO0 : w5[kO0]? = (some (qO0, .inr (2, [.ref qA1, .int 0, .int 0])) : Option (Nat × va_E)) := hO0
  replace hF := q_us hF hu6 (.head _)
  exact q_retv C0 V (⟨hF, hO0⟩) d_2_7_51
theorem d_2_9_0 : decode prog_2_method_9_code 0 = .ok (.aload_n 0, 1) := by decide +kernel
theorem d_2_9_1 : decode prog_2_method_9_code 1 = .ok (.getfield 13, 3) := by decide +kernel
theorem d_2_9_4 : decode prog_2_method_9_code 4 = .ok (.iconst 1, 1) := by decide +kernel
theorem d_2_9_5 : decode prog_2_method_9_code 5 = .ok (.if_icmp .ne 24, 3) := by decide +kernel
theorem d_2_9_29 : decode prog_2_method_9_code 29 = .ok (.iconst 0, 1) := by decide +kernel
theorem d_2_9_30 : decode prog_2_method_9_code 30 = .ok (.ireturn, 1) := by decide +kernel
def y_Big_isOne : MethodName := ⟨"NumberHouse$Big", "isOne", "()Z"⟩
set_option maxRecDepth 100000 in
set_option maxHeartbeats 4000000 in
/-- isOne of a zero -/
theorem c_Big_isOne (l : Launch) (D : va_G) (g : Nat → ClassId) (ws : va_W) (kO0 qO0 qA1 : Nat) (hO0 : ws[kO0]? = (some (qO0, .inr (2, [.ref qA1, .int 0, .int 0])) : Option (Nat × va_E))) : q_mI l y_Big_isOne prog_2_method_9_code 1 (.boolean) 1 0 0 D g [.ref qO0] ws (fun r u => 0 = r ∧ ws = u) := by
  intro sz
  refine q_into (by decide) (Nat.le_of_ble_eq_true rfl) ?_
  intro p e s m below meth c ls hsz C0 V hl
  have hx := C0.1
  have hb := C0.2.1
  have hl : lv_has ls 1 [(0, .ref qO0)] := hl
  refine lv_aload_n hx hb d_2_9_0 rfl (lv_at hl 0 rfl) ?_
  refine q_get (ci := 2) (j := 1) (v := .int 0) C0 V i_Big rfl rfl hO0 (by decide) w_85 rfl d_2_9_1 ?_
  refine lv_iconst (v := 1) hx hb d_2_9_4 (by decide) ?_
  refine lv_icmp_ne (tgt := 29) hx hb d_2_9_5 (by decide) (fun c1 => ?_) (fun c1 => absurd c1 (by decide))
  refine lv_iconst (v := 0) hx hb d_2_9_29 (by decide) ?_
  exact q_retz C0 V (rfl) (⟨rfl, rfl⟩) d_2_9_30
theorem d_2_12_0 : decode prog_2_method_12_code 0 = .ok (.aload_n 0, 1) := by decide +kernel
theorem d_2_12_1 : decode prog_2_method_12_code 1 = .ok (.getfield 13, 3) := by decide +kernel
theorem d_2_12_4 : decode prog_2_method_12_code 4 = .ok (.ifCond .ne 7, 3) := by decide +kernel
theorem d_2_12_7 : decode prog_2_method_12_code 7 = .ok (.iconst 0, 1) := by decide +kernel
theorem d_2_12_8 : decode prog_2_method_12_code 8 = .ok (.goto 27, 3) := by decide +kernel
theorem d_2_12_35 : decode prog_2_method_12_code 35 = .ok (.ireturn, 1) := by decide +kernel
def y_Big_bitLength : MethodName := ⟨"NumberHouse$Big", "bitLength", "()I"⟩
set_option maxRecDepth 100000 in
set_option maxHeartbeats 4000000 in
/-- bitLength of a zero -/
theorem c_Big_bitLength (l : Launch) (D : va_G) (g : Nat → ClassId) (ws : va_W) (kO0 qO0 qA1 : Nat) (hO0 : ws[kO0]? = (some (qO0, .inr (2, [.ref qA1, .int 0, .int 0])) : Option (Nat × va_E))) : q_mI l y_Big_bitLength prog_2_method_12_code 1 (.int) 1 0 0 D g [.ref qO0] ws (fun r u => 0 = r ∧ ws = u) := by
  intro sz
  refine q_into (by decide) (Nat.le_of_ble_eq_true rfl) ?_
  intro p e s m below meth c ls hsz C0 V hl
  have hx := C0.1
  have hb := C0.2.1
  have hl : lv_has ls 1 [(0, .ref qO0)] := hl
  refine lv_aload_n hx hb d_2_12_0 rfl (lv_at hl 0 rfl) ?_
  refine q_get (ci := 2) (j := 1) (v := .int 0) C0 V i_Big rfl rfl hO0 (by decide) w_85 rfl d_2_12_1 ?_
  refine lv_if_ne (tgt := 11) hx hb d_2_12_4 (by decide) (fun c1 => absurd (by decide) c1) (fun c1 => ?_)
  refine lv_iconst (v := 0) hx hb d_2_12_7 (by decide) ?_
  refine lv_goto (tgt := 35) hx hb d_2_12_8 (by decide) ?_
  exact q_reti C0 V (⟨rfl, rfl⟩) d_2_12_35
theorem d_2_14_0 : decode prog_2_method_14_code 0 = .ok (.aload_n 0, 1) := by decide +kernel
theorem d_2_14_1 : decode prog_2_method_14_code 1 = .ok (.invokevirtual 65, 3) := by decide +kernel
set_option maxRecDepth 100000 in
theorem w_610 : (Cond.code ({ cls := "NumberHouse$Big", name := "bitLength", desc := "()I" } : MethodName) prog_2_method_12_code (1 : Nat) (some .int)) ∈ q_tbl := q_of3 130 rfl (by decide +kernel)
set_option maxRecDepth 100000 in
theorem w_4 : (Cond.initialized "NumberHouse$Big") ∈ q_tbl := q_of1 4 rfl (by decide +kernel)
set_option maxRecDepth 100000 in
theorem w_1127 : (Cond.methodLink "NumberHouse$Big" (65 : Nat) ({ cls := "NumberHouse$Big", name := "bitLength", desc := "()I" } : MethodName)) ∈ q_tbl := q_of5 167 rfl (by decide +kernel)
set_option maxRecDepth 100000 in
theorem w_608 : (Cond.instanceMethod ({ cls := "NumberHouse$Big", name := "bitLength", desc := "()I" } : MethodName)) ∈ q_tbl := q_of3 128 rfl (by decide +kernel)
set_option maxRecDepth 100000 in
theorem w_609 : (Cond.selects "NumberHouse$Big" ({ cls := "NumberHouse$Big", name := "bitLength", desc := "()I" } : MethodName) ({ cls := "NumberHouse$Big", name := "bitLength", desc := "()I" } : MethodName)) ∈ q_tbl := q_of3 129 rfl (by decide +kernel)
theorem LV_Big_65 : q_LV "NumberHouse$Big" 65 y_Big_bitLength prog_2_method_12_code 1 (some .int) 0 := ⟨w_610, w_4, w_1127, w_608, w_609, ⟨by decide, by decide, by decide +kernel⟩⟩
theorem d_2_14_4 : decode prog_2_method_14_code 4 = .ok (.istore_n 1, 1) := by decide +kernel
theorem d_2_14_5 : decode prog_2_method_14_code 5 = .ok (.aload_n 0, 1) := by decide +kernel
theorem d_2_14_6 : decode prog_2_method_14_code 6 = .ok (.getfield 17, 3) := by decide +kernel
theorem d_2_14_9 : decode prog_2_method_14_code 9 = .ok (.ifCond .eq 19, 3) := by decide +kernel
theorem d_2_14_28 : decode prog_2_method_14_code 28 = .ok (.iload_n 1, 1) := by decide +kernel
theorem d_2_14_29 : decode prog_2_method_14_code 29 = .ok (.ireturn, 1) := by decide +kernel
def y_Big_lengthInBits : MethodName := ⟨"NumberHouse$Big", "lengthInBits", "()I"⟩
set_option maxRecDepth 100000 in
set_option maxHeartbeats 4000000 in
/-- lengthInBits of a zero -/
theorem c_Big_lengthInBits (l : Launch) (D : va_G) (g : Nat → ClassId) (ws : va_W) (kO0 qO0 qA1 : Nat) (hO0 : ws[kO0]? = (some (qO0, .inr (2, [.ref qA1, .int 0, .int 0])) : Option (Nat × va_E))) : q_mI l y_Big_lengthInBits prog_2_method_14_code 2 (.int) 2 0 0 D g [.ref qO0] ws (fun r u => 0 = r ∧ ws = u) := by
  intro sz
  refine q_into (by decide) (Nat.le_of_ble_eq_true rfl) ?_
  intro p e s m below meth c ls hsz C0 V hl
  have hx := C0.1
  have hb := C0.2.1
  have hl : lv_has ls 2 [(0, .ref qO0)] := hl
  refine lv_aload_n hx hb d_2_14_0 rfl (lv_at hl 0 rfl) ?_
  refine q_goi V (q_runV (As := []) (rest := []) (d := 1) (mc := 0) (ms := 0) (ci := 2) C0 V rfl LV_Big_65 (c_Big_bitLength l D g ws kO0 qO0 qA1 hO0 _) rfl rfl hO0 rfl hl.1 rfl (Nat.le_of_ble_eq_true rfl) ⟨by decide, by decide⟩ ⟨Nat.le_of_ble_eq_true rfl, Nat.le_of_ble_eq_true rfl⟩ d_2_14_1) (fun v3 u2 H locs hp1 V => ?_)
  obtain ⟨rfl, rfl⟩ := hp1
  refine lv_istore_n (lv' := [(1, .int 0), (0, .ref qO0)]) hx hb d_2_14_4 rfl hl (by decide) rfl (fun ls hl => ?_)
  refine lv_aload_n hx hb d_2_14_5 rfl (lv_at hl 1 rfl) ?_
  refine q_get (ci := 2) (j := 2) (v := .int 0) C0 V i_Big rfl rfl hO0 (by decide) w_94 rfl d_2_14_6 ?_
  refine lv_if_eq (tgt := 28) hx hb d_2_14_9 (by decide) (fun c5 => ?_) (fun c5 => absurd (by decide) c5)
  refine lv_iload_n hx hb d_2_14_28 rfl (lv_at hl 0 rfl) ?_
  exact q_reti C0 V (⟨rfl, rfl⟩) d_2_14_29
theorem d_2_15_0 : decode prog_2_method_15_code 0 = .ok (.iconst 0, 1) := by decide +kernel
theorem d_2_15_1 : decode prog_2_method_15_code 1 = .ok (.istore_n 1, 1) := by decide +kernel
theorem d_2_15_2 : decode prog_2_method_15_code 2 = .ok (.iload_n 1, 1) := by decide +kernel
theorem d_2_15_3 : decode prog_2_method_15_code 3 = .ok (.aload_n 0, 1) := by decide +kernel
theorem d_2_15_4 : decode prog_2_method_15_code 4 = .ok (.getfield 13, 3) := by decide +kernel
theorem d_2_15_7 : decode prog_2_method_15_code 7 = .ok (.if_icmp .ge 43, 3) := by decide +kernel
theorem d_2_15_50 : decode prog_2_method_15_code 50 = .ok (.iconst 0, 1) := by decide +kernel
theorem d_2_15_51 : decode prog_2_method_15_code 51 = .ok (.ireturn, 1) := by decide +kernel
def y_Big_lowestOne : MethodName := ⟨"NumberHouse$Big", "lowestOne", "()I"⟩
set_option maxRecDepth 100000 in
set_option maxHeartbeats 4000000 in
/-- lowestOne of a zero -/
theorem c_Big_lowestOne (l : Launch) (D : va_G) (g : Nat → ClassId) (ws : va_W) (kO0 qO0 qA1 : Nat) (hO0 : ws[kO0]? = (some (qO0, .inr (2, [.ref qA1, .int 0, .int 0])) : Option (Nat × va_E))) : q_mI l y_Big_lowestOne prog_2_method_15_code 2 (.int) 1 0 0 D g [.ref qO0] ws (fun r u => 0 = r ∧ ws = u) := by
  intro sz
  refine q_into (by decide) (Nat.le_of_ble_eq_true rfl) ?_
  intro p e s m below meth c ls hsz C0 V hl
  have hx := C0.1
  have hb := C0.2.1
  have hl : lv_has ls 2 [(0, .ref qO0)] := hl
  refine lv_iconst (v := 0) hx hb d_2_15_0 (by decide) ?_
  refine lv_istore_n (lv' := [(1, .int 0), (0, .ref qO0)]) hx hb d_2_15_1 rfl hl (by decide) rfl (fun ls hl => ?_)
  refine lv_iload_n hx hb d_2_15_2 rfl (lv_at hl 0 rfl) ?_
  refine lv_aload_n hx hb d_2_15_3 rfl (lv_at hl 1 rfl) ?_
  refine q_get (ci := 2) (j := 1) (v := .int 0) C0 V i_Big rfl rfl hO0 (by decide) w_85 rfl d_2_15_4 ?_
  refine lv_icmp_ge (tgt := 50) hx hb d_2_15_7 (by decide) (fun c1 => ?_) (fun c1 => absurd (by decide) c1)
  refine lv_iconst (v := 0) hx hb d_2_15_50 (by decide) ?_
  exact q_reti C0 V (⟨rfl, rfl⟩) d_2_15_51
theorem d_2_16_0 : decode prog_2_method_16_code 0 = .ok (.iconst 0, 1) := by decide +kernel
theorem d_2_16_1 : decode prog_2_method_16_code 1 = .ok (.istore_n 1, 1) := by decide +kernel
theorem d_2_16_2 : decode prog_2_method_16_code 2 = .ok (.iconst 0, 1) := by decide +kernel
theorem d_2_16_3 : decode prog_2_method_16_code 3 = .ok (.istore_n 2, 1) := by decide +kernel
theorem d_2_16_4 : decode prog_2_method_16_code 4 = .ok (.iload_n 2, 1) := by decide +kernel
theorem d_2_16_5 : decode prog_2_method_16_code 5 = .ok (.aload_n 0, 1) := by decide +kernel
theorem d_2_16_6 : decode prog_2_method_16_code 6 = .ok (.getfield 13, 3) := by decide +kernel
theorem d_2_16_9 : decode prog_2_method_16_code 9 = .ok (.if_icmp .ge 21, 3) := by decide +kernel
theorem d_2_16_30 : decode prog_2_method_16_code 30 = .ok (.aload_n 0, 1) := by decide +kernel
theorem d_2_16_31 : decode prog_2_method_16_code 31 = .ok (.getfield 17, 3) := by decide +kernel
theorem d_2_16_34 : decode prog_2_method_16_code 34 = .ok (.ifCond .eq 14, 3) := by decide +kernel
theorem d_2_16_48 : decode prog_2_method_16_code 48 = .ok (.iload_n 1, 1) := by decide +kernel
theorem d_2_16_49 : decode prog_2_method_16_code 49 = .ok (.ireturn, 1) := by decide +kernel
def y_Big_otherBits : MethodName := ⟨"NumberHouse$Big", "otherBits", "()I"⟩
set_option maxRecDepth 100000 in
set_option maxHeartbeats 4000000 in
/-- otherBits of a zero -/
theorem c_Big_otherBits (l : Launch) (D : va_G) (g : Nat → ClassId) (ws : va_W) (kO0 qO0 qA1 : Nat) (hO0 : ws[kO0]? = (some (qO0, .inr (2, [.ref qA1, .int 0, .int 0])) : Option (Nat × va_E))) : q_mI l y_Big_otherBits prog_2_method_16_code 3 (.int) 1 0 0 D g [.ref qO0] ws (fun r u => 0 = r ∧ ws = u) := by
  intro sz
  refine q_into (by decide) (Nat.le_of_ble_eq_true rfl) ?_
  intro p e s m below meth c ls hsz C0 V hl
  have hx := C0.1
  have hb := C0.2.1
  have hl : lv_has ls 3 [(0, .ref qO0)] := hl
  refine lv_iconst (v := 0) hx hb d_2_16_0 (by decide) ?_
  refine lv_istore_n (lv' := [(1, .int 0), (0, .ref qO0)]) hx hb d_2_16_1 rfl hl (by decide) rfl (fun ls hl => ?_)
  refine lv_iconst (v := 0) hx hb d_2_16_2 (by decide) ?_
  refine lv_istore_n (lv' := [(2, .int 0), (1, .int 0), (0, .ref qO0)]) hx hb d_2_16_3 rfl hl (by decide) rfl (fun ls hl => ?_)
  refine lv_iload_n hx hb d_2_16_4 rfl (lv_at hl 0 rfl) ?_
  refine lv_aload_n hx hb d_2_16_5 rfl (lv_at hl 2 rfl) ?_
  refine q_get (ci := 2) (j := 1) (v := .int 0) C0 V i_Big rfl rfl hO0 (by decide) w_85 rfl d_2_16_6 ?_
  refine lv_icmp_ge (tgt := 30) hx hb d_2_16_9 (by decide) (fun c1 => ?_) (fun c1 => absurd (by decide) c1)
  refine lv_aload_n hx hb d_2_16_30 rfl (lv_at hl 2 rfl) ?_
  refine q_get (ci := 2) (j := 2) (v := .int 0) C0 V i_Big rfl rfl hO0 (by decide) w_94 rfl d_2_16_31 ?_
  refine lv_if_eq (tgt := 48) hx hb d_2_16_34 (by decide) (fun c2 => ?_) (fun c2 => absurd (by decide) c2)
  refine lv_iload_n hx hb d_2_16_48 rfl (lv_at hl 1 rfl) ?_
  exact q_reti C0 V (⟨rfl, rfl⟩) d_2_16_49
theorem d_2_18_0 : decode prog_2_method_18_code 0 = .ok (.iconst 0, 1) := by decide +kernel
theorem d_2_18_1 : decode prog_2_method_18_code 1 = .ok (.istore_n 1, 1) := by decide +kernel
theorem d_2_18_2 : decode prog_2_method_18_code 2 = .ok (.iload_n 1, 1) := by decide +kernel
theorem d_2_18_3 : decode prog_2_method_18_code 3 = .ok (.aload_n 0, 1) := by decide +kernel
theorem d_2_18_4 : decode prog_2_method_18_code 4 = .ok (.getfield 13, 3) := by decide +kernel
theorem d_2_18_7 : decode prog_2_method_18_code 7 = .ok (.if_icmp .ge 18, 3) := by decide +kernel
theorem d_2_18_25 : decode prog_2_method_18_code 25 = .ok (.iload_n 1, 1) := by decide +kernel
theorem d_2_18_26 : decode prog_2_method_18_code 26 = .ok (.ireturn, 1) := by decide +kernel
def y_Big_lowestLimb : MethodName := ⟨"NumberHouse$Big", "lowestLimb", "()I"⟩
set_option maxRecDepth 100000 in
set_option maxHeartbeats 4000000 in
/-- lowestLimb of a zero -/
theorem c_Big_lowestLimb (l : Launch) (D : va_G) (g : Nat → ClassId) (ws : va_W) (kO0 qO0 qA1 : Nat) (hO0 : ws[kO0]? = (some (qO0, .inr (2, [.ref qA1, .int 0, .int 0])) : Option (Nat × va_E))) : q_mI l y_Big_lowestLimb prog_2_method_18_code 2 (.int) 1 0 0 D g [.ref qO0] ws (fun r u => 0 = r ∧ ws = u) := by
  intro sz
  refine q_into (by decide) (Nat.le_of_ble_eq_true rfl) ?_
  intro p e s m below meth c ls hsz C0 V hl
  have hx := C0.1
  have hb := C0.2.1
  have hl : lv_has ls 2 [(0, .ref qO0)] := hl
  refine lv_iconst (v := 0) hx hb d_2_18_0 (by decide) ?_
  refine lv_istore_n (lv' := [(1, .int 0), (0, .ref qO0)]) hx hb d_2_18_1 rfl hl (by decide) rfl (fun ls hl => ?_)
  refine lv_iload_n hx hb d_2_18_2 rfl (lv_at hl 0 rfl) ?_
  refine lv_aload_n hx hb d_2_18_3 rfl (lv_at hl 1 rfl) ?_
  refine q_get (ci := 2) (j := 1) (v := .int 0) C0 V i_Big rfl rfl hO0 (by decide) w_85 rfl d_2_18_4 ?_
  refine lv_icmp_ge (tgt := 25) hx hb d_2_18_7 (by decide) (fun c1 => ?_) (fun c1 => absurd (by decide) c1)
  refine lv_iload_n hx hb d_2_18_25 rfl (lv_at hl 0 rfl) ?_
  exact q_reti C0 V (⟨rfl, rfl⟩) d_2_18_26
theorem d_2_11_0 : decode prog_2_method_11_code 0 = .ok (.aload_n 0, 1) := by decide +kernel
theorem d_2_11_1 : decode prog_2_method_11_code 1 = .ok (.invokevirtual 53, 3) := by decide +kernel
set_option maxRecDepth 100000 in
theorem w_1126 : (Cond.code ({ cls := "NumberHouse$Big", name := "lengthInBits", desc := "()I" } : MethodName) prog_2_method_14_code (2 : Nat) (some .int)) ∈ q_tbl := q_of5 166 rfl (by decide +kernel)
set_option maxRecDepth 100000 in
theorem w_1682 : (Cond.methodLink "NumberHouse$Big" (53 : Nat) ({ cls := "NumberHouse$Big", name := "lengthInBits", desc := "()I" } : MethodName)) ∈ q_tbl := q_of8 2 rfl (by decide +kernel)
set_option maxRecDepth 100000 in
theorem w_1124 : (Cond.instanceMethod ({ cls := "NumberHouse$Big", name := "lengthInBits", desc := "()I" } : MethodName)) ∈ q_tbl := q_of5 164 rfl (by decide +kernel)
set_option maxRecDepth 100000 in
theorem w_1125 : (Cond.selects "NumberHouse$Big" ({ cls := "NumberHouse$Big", name := "lengthInBits", desc := "()I" } : MethodName) ({ cls := "NumberHouse$Big", name := "lengthInBits", desc := "()I" } : MethodName)) ∈ q_tbl := q_of5 165 rfl (by decide +kernel)
theorem LV_Big_53 : q_LV "NumberHouse$Big" 53 y_Big_lengthInBits prog_2_method_14_code 2 (some .int) 0 := ⟨w_1126, w_4, w_1682, w_1124, w_1125, ⟨by decide, by decide, by decide +kernel⟩⟩
theorem d_2_11_4 : decode prog_2_method_11_code 4 = .ok (.bipush 63, 2) := by decide +kernel
theorem d_2_11_6 : decode prog_2_method_11_code 6 = .ok (.if_icmp .gt 7, 3) := by decide +kernel
theorem d_2_11_9 : decode prog_2_method_11_code 9 = .ok (.iconst 1, 1) := by decide +kernel
theorem d_2_11_10 : decode prog_2_method_11_code 10 = .ok (.goto 4, 3) := by decide +kernel
theorem d_2_11_14 : decode prog_2_method_11_code 14 = .ok (.ireturn, 1) := by decide +kernel
def y_Big_fitsLong : MethodName := ⟨"NumberHouse$Big", "fitsLong", "()Z"⟩
set_option maxRecDepth 100000 in
set_option maxHeartbeats 4000000 in
/-- fitsLong of a zero -/
theorem c_Big_fitsLong (l : Launch) (D : va_G) (g : Nat → ClassId) (ws : va_W) (kO0 qO0 qA1 : Nat) (hO0 : ws[kO0]? = (some (qO0, .inr (2, [.ref qA1, .int 0, .int 0])) : Option (Nat × va_E))) : q_mI l y_Big_fitsLong prog_2_method_11_code 1 (.boolean) 3 0 0 D g [.ref qO0] ws (fun r u => 1 = r ∧ ws = u) := by
  intro sz
  refine q_into (by decide) (Nat.le_of_ble_eq_true rfl) ?_
  intro p e s m below meth c ls hsz C0 V hl
  have hx := C0.1
  have hb := C0.2.1
  have hl : lv_has ls 1 [(0, .ref qO0)] := hl
  refine lv_aload_n hx hb d_2_11_0 rfl (lv_at hl 0 rfl) ?_
  refine q_goi V (q_runV (As := []) (rest := []) (d := 2) (mc := 0) (ms := 0) (ci := 2) C0 V rfl LV_Big_53 (c_Big_lengthInBits l D g ws kO0 qO0 qA1 hO0 _) rfl rfl hO0 rfl hl.1 rfl (Nat.le_of_ble_eq_true rfl) ⟨by decide, by decide⟩ ⟨Nat.le_of_ble_eq_true rfl, Nat.le_of_ble_eq_true rfl⟩ d_2_11_1) (fun v3 u2 H locs hp1 V => ?_)
  obtain ⟨rfl, rfl⟩ := hp1
  refine lv_bipush (v := 63) hx hb d_2_11_4 (by decide) ?_
  refine lv_icmp_gt (tgt := 13) hx hb d_2_11_6 (by decide) (fun c5 => absurd c5 (by decide)) (fun c5 => ?_)
  refine lv_iconst (v := 1) hx hb d_2_11_9 (by decide) ?_
  refine lv_goto (tgt := 14) hx hb d_2_11_10 (by decide) ?_
  exact q_retz C0 V (rfl) (⟨rfl, rfl⟩) d_2_11_14
theorem d_2_5_0 : decode prog_2_method_5_code 0 = .ok (.iload_n 1, 1) := by decide +kernel
theorem d_2_5_1 : decode prog_2_method_5_code 1 = .ok (.ifCond .lt 20, 3) := by decide +kernel
theorem d_2_5_4 : decode prog_2_method_5_code 4 = .ok (.iload_n 1, 1) := by decide +kernel
theorem d_2_5_5 : decode prog_2_method_5_code 5 = .ok (.aload_n 0, 1) := by decide +kernel
theorem d_2_5_6 : decode prog_2_method_5_code 6 = .ok (.getfield 13, 3) := by decide +kernel
theorem d_2_5_9 : decode prog_2_method_5_code 9 = .ok (.if_icmp .ge 12, 3) := by decide +kernel
theorem d_2_5_21 : decode prog_2_method_5_code 21 = .ok (.iconst 0, 1) := by decide +kernel
theorem d_2_5_22 : decode prog_2_method_5_code 22 = .ok (.ireturn, 1) := by decide +kernel
def y_Big_limb : MethodName := ⟨"NumberHouse$Big", "limb", "(I)I"⟩
set_option maxRecDepth 100000 in
set_option maxHeartbeats 4000000 in
theorem c_Big_limb (l : Launch) (D : va_G) (g : Nat → ClassId) (ws : va_W) (kO0 qO0 qA1 : Nat) (hO0 : ws[kO0]? = (some (qO0, .inr (2, [.ref qA1, .int 0, .int 0])) : Option (Nat × va_E))) : q_mI l y_Big_limb prog_2_method_5_code 2 (.int) 1 0 0 D g [.ref qO0, .int 0] ws (fun r u => 0 = r ∧ ws = u) := by
  intro sz
  refine q_into (by decide) (Nat.le_of_ble_eq_true rfl) ?_
  intro p e s m below meth c ls hsz C0 V hl
  have hx := C0.1
  have hb := C0.2.1
  have hl : lv_has ls 2 [(0, .ref qO0), (1, .int 0)] := hl
  refine lv_iload_n hx hb d_2_5_0 rfl (lv_at hl 1 rfl) ?_
  refine lv_if_lt (tgt := 21) hx hb d_2_5_1 (by decide) (fun c1 => absurd c1 (by decide)) (fun c1 => ?_)
  refine lv_iload_n hx hb d_2_5_4 rfl (lv_at hl 1 rfl) ?_
  refine lv_aload_n hx hb d_2_5_5 rfl (lv_at hl 0 rfl) ?_
  refine q_get (ci := 2) (j := 1) (v := .int 0) C0 V i_Big rfl rfl hO0 (by decide) w_85 rfl d_2_5_6 ?_
  refine lv_icmp_ge (tgt := 21) hx hb d_2_5_9 (by decide) (fun c2 => ?_) (fun c2 => absurd (by decide) c2)
  refine lv_iconst (v := 0) hx hb d_2_5_21 (by decide) ?_
  exact q_reti C0 V (⟨rfl, rfl⟩) d_2_5_22
set_option maxRecDepth 100000 in
set_option maxHeartbeats 4000000 in
theorem c_Big_limb_2 (l : Launch) (D : va_G) (g : Nat → ClassId) (ws : va_W) (kO0 qO0 qA1 : Nat) (hO0 : ws[kO0]? = (some (qO0, .inr (2, [.ref qA1, .int 0, .int 0])) : Option (Nat × va_E))) : q_mI l y_Big_limb prog_2_method_5_code 2 (.int) 1 0 0 D g [.ref qO0, .int 1] ws (fun r u => 0 = r ∧ ws = u) := by
  intro sz
  refine q_into (by decide) (Nat.le_of_ble_eq_true rfl) ?_
  intro p e s m below meth c ls hsz C0 V hl
  have hx := C0.1
  have hb := C0.2.1
  have hl : lv_has ls 2 [(0, .ref qO0), (1, .int 1)] := hl
  refine lv_iload_n hx hb d_2_5_0 rfl (lv_at hl 1 rfl) ?_
  refine lv_if_lt (tgt := 21) hx hb d_2_5_1 (by decide) (fun c1 => absurd c1 (by decide)) (fun c1 => ?_)
  refine lv_iload_n hx hb d_2_5_4 rfl (lv_at hl 1 rfl) ?_
  refine lv_aload_n hx hb d_2_5_5 rfl (lv_at hl 0 rfl) ?_
  refine q_get (ci := 2) (j := 1) (v := .int 0) C0 V i_Big rfl rfl hO0 (by decide) w_85 rfl d_2_5_6 ?_
  refine lv_icmp_ge (tgt := 21) hx hb d_2_5_9 (by decide) (fun c2 => ?_) (fun c2 => absurd (by decide) c2)
  refine lv_iconst (v := 0) hx hb d_2_5_21 (by decide) ?_
  exact q_reti C0 V (⟨rfl, rfl⟩) d_2_5_22
set_option maxRecDepth 100000 in
set_option maxHeartbeats 4000000 in
theorem c_Big_limb_3 (l : Launch) (D : va_G) (g : Nat → ClassId) (ws : va_W) (kO0 qO0 qA1 : Nat) (hO0 : ws[kO0]? = (some (qO0, .inr (2, [.ref qA1, .int 0, .int 0])) : Option (Nat × va_E))) : q_mI l y_Big_limb prog_2_method_5_code 2 (.int) 1 0 0 D g [.ref qO0, .int 2] ws (fun r u => 0 = r ∧ ws = u) := by
  intro sz
  refine q_into (by decide) (Nat.le_of_ble_eq_true rfl) ?_
  intro p e s m below meth c ls hsz C0 V hl
  have hx := C0.1
  have hb := C0.2.1
  have hl : lv_has ls 2 [(0, .ref qO0), (1, .int 2)] := hl
  refine lv_iload_n hx hb d_2_5_0 rfl (lv_at hl 1 rfl) ?_
  refine lv_if_lt (tgt := 21) hx hb d_2_5_1 (by decide) (fun c1 => absurd c1 (by decide)) (fun c1 => ?_)
  refine lv_iload_n hx hb d_2_5_4 rfl (lv_at hl 1 rfl) ?_
  refine lv_aload_n hx hb d_2_5_5 rfl (lv_at hl 0 rfl) ?_
  refine q_get (ci := 2) (j := 1) (v := .int 0) C0 V i_Big rfl rfl hO0 (by decide) w_85 rfl d_2_5_6 ?_
  refine lv_icmp_ge (tgt := 21) hx hb d_2_5_9 (by decide) (fun c2 => ?_) (fun c2 => absurd (by decide) c2)
  refine lv_iconst (v := 0) hx hb d_2_5_21 (by decide) ?_
  exact q_reti C0 V (⟨rfl, rfl⟩) d_2_5_22
theorem d_2_10_0 : decode prog_2_method_10_code 0 = .ok (.aload_n 0, 1) := by decide +kernel
theorem d_2_10_1 : decode prog_2_method_10_code 1 = .ok (.iconst 0, 1) := by decide +kernel
theorem d_2_10_2 : decode prog_2_method_10_code 2 = .ok (.invokevirtual 49, 3) := by decide +kernel
set_option maxRecDepth 100000 in
theorem w_750 : (Cond.code ({ cls := "NumberHouse$Big", name := "limb", desc := "(I)I" } : MethodName) prog_2_method_5_code (2 : Nat) (some .int)) ∈ q_tbl := q_of4 30 rfl (by decide +kernel)
set_option maxRecDepth 100000 in
theorem w_747 : (Cond.methodLink "NumberHouse$Big" (49 : Nat) ({ cls := "NumberHouse$Big", name := "limb", desc := "(I)I" } : MethodName)) ∈ q_tbl := q_of4 27 rfl (by decide +kernel)
set_option maxRecDepth 100000 in
theorem w_748 : (Cond.instanceMethod ({ cls := "NumberHouse$Big", name := "limb", desc := "(I)I" } : MethodName)) ∈ q_tbl := q_of4 28 rfl (by decide +kernel)
set_option maxRecDepth 100000 in
theorem w_749 : (Cond.selects "NumberHouse$Big" ({ cls := "NumberHouse$Big", name := "limb", desc := "(I)I" } : MethodName) ({ cls := "NumberHouse$Big", name := "limb", desc := "(I)I" } : MethodName)) ∈ q_tbl := q_of4 29 rfl (by decide +kernel)
theorem LV_Big_49 : q_LV "NumberHouse$Big" 49 y_Big_limb prog_2_method_5_code 2 (some .int) 1 := ⟨w_750, w_4, w_747, w_748, w_749, ⟨by decide, by decide, by decide +kernel⟩⟩
theorem d_2_10_5 : decode prog_2_method_10_code 5 = .ok (.i2l, 1) := by decide +kernel
theorem d_2_10_6 : decode prog_2_method_10_code 6 = .ok (.aload_n 0, 1) := by decide +kernel
theorem d_2_10_7 : decode prog_2_method_10_code 7 = .ok (.iconst 1, 1) := by decide +kernel
theorem d_2_10_8 : decode prog_2_method_10_code 8 = .ok (.invokevirtual 49, 3) := by decide +kernel
theorem d_2_10_11 : decode prog_2_method_10_code 11 = .ok (.i2l, 1) := by decide +kernel
theorem d_2_10_12 : decode prog_2_method_10_code 12 = .ok (.bipush 31, 2) := by decide +kernel
theorem d_2_10_14 : decode prog_2_method_10_code 14 = .ok (.lshl, 1) := by decide +kernel
theorem d_2_10_15 : decode prog_2_method_10_code 15 = .ok (.lor, 1) := by decide +kernel
theorem d_2_10_16 : decode prog_2_method_10_code 16 = .ok (.aload_n 0, 1) := by decide +kernel
theorem d_2_10_17 : decode prog_2_method_10_code 17 = .ok (.iconst 2, 1) := by decide +kernel
theorem d_2_10_18 : decode prog_2_method_10_code 18 = .ok (.invokevirtual 49, 3) := by decide +kernel
theorem d_2_10_21 : decode prog_2_method_10_code 21 = .ok (.i2l, 1) := by decide +kernel
theorem d_2_10_22 : decode prog_2_method_10_code 22 = .ok (.bipush 62, 2) := by decide +kernel
theorem d_2_10_24 : decode prog_2_method_10_code 24 = .ok (.lshl, 1) := by decide +kernel
theorem d_2_10_25 : decode prog_2_method_10_code 25 = .ok (.lor, 1) := by decide +kernel
theorem d_2_10_26 : decode prog_2_method_10_code 26 = .ok (.lstore_n 1, 1) := by decide +kernel
theorem d_2_10_27 : decode prog_2_method_10_code 27 = .ok (.aload_n 0, 1) := by decide +kernel
theorem d_2_10_28 : decode prog_2_method_10_code 28 = .ok (.getfield 17, 3) := by decide +kernel
theorem d_2_10_31 : decode prog_2_method_10_code 31 = .ok (.ifCond .eq 8, 3) := by decide +kernel
theorem d_2_10_39 : decode prog_2_method_10_code 39 = .ok (.lload_n 1, 1) := by decide +kernel
theorem d_2_10_40 : decode prog_2_method_10_code 40 = .ok (.lreturn, 1) := by decide +kernel
def y_Big_toLong : MethodName := ⟨"NumberHouse$Big", "toLong", "()J"⟩
set_option maxRecDepth 100000 in
set_option maxHeartbeats 4000000 in
/-- toLong of a zero -/
theorem c_Big_toLong (l : Launch) (D : va_G) (g : Nat → ClassId) (ws : va_W) (kO0 qO0 qA1 : Nat) (hO0 : ws[kO0]? = (some (qO0, .inr (2, [.ref qA1, .int 0, .int 0])) : Option (Nat × va_E))) : q_mL l y_Big_toLong prog_2_method_10_code 3 2 0 0 D g [.ref qO0] ws (fun r u => 0 = r ∧ ws = u) := by
  intro sz
  refine q_into (by decide) (Nat.le_of_ble_eq_true rfl) ?_
  intro p e s m below meth c ls hsz C0 V hl
  have hx := C0.1
  have hb := C0.2.1
  have hl : lv_has ls 3 [(0, .ref qO0)] := hl
  refine lv_aload_n hx hb d_2_10_0 rfl (lv_at hl 0 rfl) ?_
  refine lv_iconst (v := 0) hx hb d_2_10_1 (by decide) ?_
  refine q_goi V (q_runV (As := [.int 0]) (rest := []) (d := 1) (mc := 0) (ms := 0) (ci := 2) C0 V rfl LV_Big_49 (c_Big_limb l D g ws kO0 qO0 qA1 hO0 _) rfl rfl hO0 rfl hl.1 rfl (Nat.le_of_ble_eq_true rfl) ⟨by decide, by decide⟩ ⟨Nat.le_of_ble_eq_true rfl, Nat.le_of_ble_eq_true rfl⟩ d_2_10_2) (fun v3 u2 H locs hp1 V => ?_)
  obtain ⟨rfl, rfl⟩ := hp1
  refine lv_i2l hx hb d_2_10_5 rfl ?_
  refine q_tl (v := 0) (by decide) ?_
  refine lv_aload_n hx hb d_2_10_6 rfl (lv_at hl 0 rfl) ?_
  refine lv_iconst (v := 1) hx hb d_2_10_7 (by decide) ?_
  refine q_goi V (q_runV (As := [.int 1]) (rest := [.long 0]) (d := 1) (mc := 0) (ms := 0) (ci := 2) C0 V rfl LV_Big_49 (c_Big_limb_2 l D g ws kO0 qO0 qA1 hO0 _) rfl rfl hO0 rfl hl.1 rfl (Nat.le_of_ble_eq_true rfl) ⟨by decide, by decide⟩ ⟨Nat.le_of_ble_eq_true rfl, Nat.le_of_ble_eq_true rfl⟩ d_2_10_8) (fun v7 u6 H locs hp5 V => ?_)
  obtain ⟨rfl, rfl⟩ := hp5
  refine lv_i2l hx hb d_2_10_11 rfl ?_
  refine q_tl (v := 0) (by decide) ?_
  refine lv_bipush (v := 31) hx hb d_2_10_12 (by decide) ?_
  refine lv_lshl hx hb d_2_10_14 rfl ?_
  refine q_tl (v := 0) (by decide) ?_
  refine lv_lor hx hb d_2_10_15 ?_
  refine q_tl (v := 0) (by decide) ?_
  refine lv_aload_n hx hb d_2_10_16 rfl (lv_at hl 0 rfl) ?_
  refine lv_iconst (v := 2) hx hb d_2_10_17 (by decide) ?_
  refine q_goi V (q_runV (As := [.int 2]) (rest := [.long 0]) (d := 1) (mc := 0) (ms := 0) (ci := 2) C0 V rfl LV_Big_49 (c_Big_limb_3 l D g ws kO0 qO0 qA1 hO0 _) rfl rfl hO0 rfl hl.1 rfl (Nat.le_of_ble_eq_true rfl) ⟨by decide, by decide⟩ ⟨Nat.le_of_ble_eq_true rfl, Nat.le_of_ble_eq_true rfl⟩ d_2_10_18) (fun v11 u10 H locs hp9 V => ?_)
  obtain ⟨rfl, rfl⟩ := hp9
  refine lv_i2l hx hb d_2_10_21 rfl ?_
  refine q_tl (v := 0) (by decide) ?_
  refine lv_bipush (v := 62) hx hb d_2_10_22 (by decide) ?_
  refine lv_lshl hx hb d_2_10_24 rfl ?_
  refine q_tl (v := 0) (by decide) ?_
  refine lv_lor hx hb d_2_10_25 ?_
  refine q_tl (v := 0) (by decide) ?_
  refine lv_lstore_n (lv' := [(1, .long 0), (0, .ref qO0)]) hx hb d_2_10_26 rfl hl (by decide) rfl (fun ls hl => ?_)
  refine lv_aload_n hx hb d_2_10_27 rfl (lv_at hl 1 rfl) ?_
  refine q_get (ci := 2) (j := 2) (v := .int 0) C0 V i_Big rfl rfl hO0 (by decide) w_94 rfl d_2_10_28 ?_
  refine lv_if_eq (tgt := 39) hx hb d_2_10_31 (by decide) (fun c13 => ?_) (fun c13 => absurd (by decide) c13)
  refine lv_lload_n hx hb d_2_10_39 rfl (lv_at hl 0 rfl) ?_
  exact q_retl C0 V (⟨rfl, rfl⟩) d_2_10_40
