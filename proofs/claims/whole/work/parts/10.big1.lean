/-! Big: the small methods -/
def y_Big_clear : MethodName := ⟨"NumberHouse$Big", "clear", "()V"⟩
theorem d_2_2_0 : decode prog_2_method_2_code 0 = .ok (.aload_n 0, 1) := by decide +kernel
theorem d_2_2_1 : decode prog_2_method_2_code 1 = .ok (.iconst 0, 1) := by decide +kernel
theorem d_2_2_2 : decode prog_2_method_2_code 2 = .ok (.putfield 13, 3) := by decide +kernel
theorem w_85 : (Cond.fieldLink "NumberHouse$Big" (13 : Nat) "NumberHouse$Big" "size" "I") ∈ q_tbl := q_of 85 (by decide +kernel) (by decide +kernel)
theorem d_2_2_5 : decode prog_2_method_2_code 5 = .ok (.aload_n 0, 1) := by decide +kernel
theorem d_2_2_6 : decode prog_2_method_2_code 6 = .ok (.iconst 0, 1) := by decide +kernel
theorem d_2_2_7 : decode prog_2_method_2_code 7 = .ok (.putfield 17, 3) := by decide +kernel
theorem w_94 : (Cond.fieldLink "NumberHouse$Big" (17 : Nat) "NumberHouse$Big" "negative" "Z") ∈ q_tbl := q_of 94 (by decide +kernel) (by decide +kernel)
theorem d_2_2_10 : decode prog_2_method_2_code 10 = .ok (.return_, 1) := by decide +kernel
set_option maxRecDepth 100000 in
set_option maxHeartbeats 4000000 in
/-- clear(): size 0, not negative -/
theorem c_Big_clear (l : Launch) (D : va_G) (g : Nat → ClassId) (ws : va_W) (kB kBL qB qBL : Nat) (n : Nat) (f : Nat → Int32) (z ng : Int32) (hB : ws[kB]? = some (qB, .inr (2, [.ref qBL, .int z, .int ng]))) (hBL : ws[kBL]? = some (qBL, .inl (g 0, n, .inl f)))  : q_mV l y_Big_clear prog_2_method_2_code 1 1 0 0 D g [.ref qB] ws (fun u => q_un ws u [kB] ∧ u[kB]? = some (qB, .inr (2, [.ref qBL, .int 0, .int 0]))) := by
  intro sz
  refine q_into (by decide) (Nat.le_of_ble_eq_true rfl) ?_
  intro p e s m below meth c ls hsz C0 V hl
  have hx := C0.1
  have hb := C0.2.1
  have hl : lv_has ls 1 [(0, .ref qB)] := hl
  have n_BL_B := q_df hBL hB
  have hF : q_un ws ws [kB] := q_u0
  refine lv_aload_n hx hb d_2_2_0 rfl (lv_at hl 0 rfl) ?_
  refine lv_iconst (v := 0) hx hb d_2_2_1 (by decide) ?_
  refine q_put (ci := 2) (j := 1) (v := .int 0) (ty := .int) C0 V i_Big o_Big n_Big rfl rfl hB (by decide) w_85 rfl rfl rfl rfl (Nat.le_of_ble_eq_true rfl) d_2_2_2 (fun H locs w1 hu2 hB V => ?_)
  have hB : w1[kB]? = some (qB, .inr (2, [.ref qBL, .int 0, .int ng])) := hB
  have hBL := (hu2 _ n_BL_B).trans hBL
  have hF := q_us hF hu2 (.head _)
  refine lv_aload_n hx hb d_2_2_5 rfl (lv_at hl 0 rfl) ?_
  refine lv_iconst (v := 0) hx hb d_2_2_6 (by decide) ?_
  refine q_put (ci := 2) (j := 2) (v := .int 0) (ty := .boolean) C0 V i_Big o_Big n_Big rfl rfl hB (by decide) w_94 rfl rfl rfl rfl (Nat.le_of_ble_eq_true rfl) d_2_2_7 (fun H locs w3 hu4 hB V => ?_)
  have hB : w3[kB]? = some (qB, .inr (2, [.ref qBL, .int 0, .int 0])) := hB
  have hBL := (hu4 _ n_BL_B).trans hBL
  have hF := q_us hF hu4 (.head _)
  exact q_retv C0 V (⟨hF, hB⟩) d_2_2_10
def y_Big_sign : MethodName := ⟨"NumberHouse$Big", "sign", "()I"⟩
theorem d_2_8_0 : decode prog_2_method_8_code 0 = .ok (.aload_n 0, 1) := by decide +kernel
theorem d_2_8_1 : decode prog_2_method_8_code 1 = .ok (.getfield 13, 3) := by decide +kernel
theorem d_2_8_4 : decode prog_2_method_8_code 4 = .ok (.ifCond .ne 7, 3) := by decide +kernel
theorem d_2_8_11 : decode prog_2_method_8_code 11 = .ok (.aload_n 0, 1) := by decide +kernel
theorem d_2_8_12 : decode prog_2_method_8_code 12 = .ok (.getfield 17, 3) := by decide +kernel
theorem d_2_8_15 : decode prog_2_method_8_code 15 = .ok (.ifCond .eq 7, 3) := by decide +kernel
theorem d_2_8_22 : decode prog_2_method_8_code 22 = .ok (.iconst 1, 1) := by decide +kernel
theorem d_2_8_23 : decode prog_2_method_8_code 23 = .ok (.ireturn, 1) := by decide +kernel
theorem d_2_8_18 : decode prog_2_method_8_code 18 = .ok (.iconst (-1), 1) := by decide +kernel
theorem d_2_8_19 : decode prog_2_method_8_code 19 = .ok (.goto 4, 3) := by decide +kernel
theorem d_2_8_7 : decode prog_2_method_8_code 7 = .ok (.iconst 0, 1) := by decide +kernel
theorem d_2_8_8 : decode prog_2_method_8_code 8 = .ok (.goto 15, 3) := by decide +kernel
set_option maxRecDepth 100000 in
set_option maxHeartbeats 4000000 in
/-- sign() -/
theorem c_Big_sign (l : Launch) (D : va_G) (g : Nat → ClassId) (ws : va_W) (kB kBL qB qBL : Nat) (n : Nat) (f : Nat → Int32) (z ng : Int32) (hB : ws[kB]? = some (qB, .inr (2, [.ref qBL, .int z, .int ng]))) (hBL : ws[kBL]? = some (qBL, .inl (g 0, n, .inl f)))  : q_mI l y_Big_sign prog_2_method_8_code 1 (.int) 1 0 0 D g [.ref qB] ws (fun r u => u = ws ∧ r = if z = 0 then 0 else if ng = 0 then 1 else (-1)) := by
  intro sz
  refine q_into (by decide) (Nat.le_of_ble_eq_true rfl) ?_
  intro p e s m below meth c ls hsz C0 V hl
  have hx := C0.1
  have hb := C0.2.1
  have hl : lv_has ls 1 [(0, .ref qB)] := hl
  refine lv_aload_n hx hb d_2_8_0 rfl (lv_at hl 0 rfl) ?_
  refine q_get (ci := 2) (j := 1) (v := .int z) C0 V i_Big rfl rfl hB (by decide) w_85 rfl d_2_8_1 ?_
  refine lv_if_ne (tgt := 11) hx hb d_2_8_4 (by decide) (fun c1 => ?_) (fun c1 => ?_)
  ·
    refine lv_aload_n hx hb d_2_8_11 rfl (lv_at hl 0 rfl) ?_
    refine q_get (ci := 2) (j := 2) (v := .int ng) C0 V i_Big rfl rfl hB (by decide) w_94 rfl d_2_8_12 ?_
    refine lv_if_eq (tgt := 22) hx hb d_2_8_15 (by decide) (fun c2 => ?_) (fun c2 => ?_)
    ·
      refine lv_iconst (v := 1) hx hb d_2_8_22 (by decide) ?_
      exact q_reti C0 V (⟨rfl, by simp [*]⟩) d_2_8_23
    ·
      refine lv_iconst (v := (-1)) hx hb d_2_8_18 (by decide) ?_
      refine lv_goto (tgt := 23) hx hb d_2_8_19 (by decide) ?_
      exact q_reti C0 V (⟨rfl, by simp [*]⟩) d_2_8_23
  ·
    refine lv_iconst (v := 0) hx hb d_2_8_7 (by decide) ?_
    refine lv_goto (tgt := 23) hx hb d_2_8_8 (by decide) ?_
    exact q_reti C0 V (⟨rfl, by simp [*]⟩) d_2_8_23
