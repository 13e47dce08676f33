/-! the class on a fresh object: wipe -/
theorem d_11_2_0 : decode prog_11_method_2_code 0 = .ok (.aload_n 0, 1) := by decide +kernel
theorem d_11_2_1 : decode prog_11_method_2_code 1 = .ok (.iconst 0, 1) := by decide +kernel
theorem d_11_2_2 : decode prog_11_method_2_code 2 = .ok (.putfield 17, 3) := by decide +kernel
theorem w_54 : (Cond.fieldLink "NumberHouse$Sheet" (17 : Nat) "NumberHouse$Sheet" "size" "I") ∈ q_tbl := q_of 54 (by decide +kernel) (by decide +kernel)
theorem d_11_2_5 : decode prog_11_method_2_code 5 = .ok (.return_, 1) := by decide +kernel
def y_She_clear : MethodName := ⟨"NumberHouse$Sheet", "clear", "()V"⟩
set_option maxRecDepth 100000 in
set_option maxHeartbeats 4000000 in
theorem c_She_clear (l : Launch) (D : va_G) (g : Nat → ClassId) (ws : va_W) (kO0 qO0 qA1 : Nat) (hO0 : ws[kO0]? = (some (qO0, .inr (1, [.ref qA1, .int 4100, .int 0])) : Option (Nat × va_E))) : q_mV l y_She_clear prog_11_method_2_code 1 1 0 0 D g [.ref qO0] ws (fun u => q_un ws u [kO0] ∧ u[kO0]? = (some (qO0, .inr (1, [.ref qA1, .int 4100, .int 0])) : Option (Nat × va_E))) := by
  intro sz
  refine q_into (by decide) (Nat.le_of_ble_eq_true rfl) ?_
  intro p e s m below meth c ls hsz C0 V hl
  have hx := C0.1
  have hb := C0.2.1
  have hl : lv_has ls 1 [(0, .ref qO0)] := hl
  have hF : q_un ws ws [kO0] := q_u0
  refine lv_aload_n hx hb d_11_2_0 rfl (lv_at hl 0 rfl) ?_
  refine lv_iconst (v := 0) hx hb d_11_2_1 (by decide) ?_
  refine q_put (ci := 1) (j := 2) (v := .int 0) (ty := .int) C0 V i_She o_She n_She rfl rfl hO0 (by decide) w_54 rfl rfl rfl rfl (Nat.le_of_ble_eq_true rfl) d_11_2_2 (fun H locs w1 hu2 hO0 V => ?_)
  replace hO0 : w1[kO0]? = (some (qO0, .inr (1, [.ref qA1, .int 4100, .int 0])) : Option (Nat × va_E)) := hO0
  replace hF := q_us hF hu2 (.head _)
  exact q_retv C0 V (⟨hF, hO0⟩) d_11_2_5
theorem d_1_3_0 : decode prog_1_method_3_code 0 = .ok (.aload_n 0, 1) := by decide +kernel
theorem d_1_3_1 : decode prog_1_method_3_code 1 = .ok (.getfield 14, 3) := by decide +kernel
theorem d_1_3_4 : decode prog_1_method_3_code 4 = .ok (.getfield 108, 3) := by decide +kernel
theorem w_56 : (Cond.fieldLink "NumberHouse" (108 : Nat) "NumberHouse$Sheet" "size" "I") ∈ q_tbl := q_of 56 (by decide +kernel) (by decide +kernel)
theorem d_1_3_7 : decode prog_1_method_3_code 7 = .ok (.istore_n 1, 1) := by decide +kernel
theorem d_1_3_8 : decode prog_1_method_3_code 8 = .ok (.aload_n 0, 1) := by decide +kernel
theorem d_1_3_9 : decode prog_1_method_3_code 9 = .ok (.getfield 14, 3) := by decide +kernel
theorem d_1_3_12 : decode prog_1_method_3_code 12 = .ok (.invokevirtual 115, 3) := by decide +kernel
theorem w_474 : (Cond.code ({ cls := "NumberHouse$Sheet", name := "clear", desc := "()V" } : MethodName) prog_11_method_2_code (1 : Nat) (none : Option ClassFile.FieldType)) ∈ q_tbl := q_of 474 (by decide +kernel) (by decide +kernel)
theorem w_471 : (Cond.methodLink "NumberHouse" (115 : Nat) ({ cls := "NumberHouse$Sheet", name := "clear", desc := "()V" } : MethodName)) ∈ q_tbl := q_of 471 (by decide +kernel) (by decide +kernel)
theorem w_472 : (Cond.instanceMethod ({ cls := "NumberHouse$Sheet", name := "clear", desc := "()V" } : MethodName)) ∈ q_tbl := q_of 472 (by decide +kernel) (by decide +kernel)
theorem w_473 : (Cond.selects "NumberHouse$Sheet" ({ cls := "NumberHouse$Sheet", name := "clear", desc := "()V" } : MethodName) ({ cls := "NumberHouse$Sheet", name := "clear", desc := "()V" } : MethodName)) ∈ q_tbl := q_of 473 (by decide +kernel) (by decide +kernel)
theorem LV_NH_115 : q_LV "NumberHouse" 115 y_She_clear prog_11_method_2_code 1 none 0 := ⟨w_474, w_2, w_471, w_472, w_473, ⟨by decide, by decide, by decide +kernel⟩⟩
theorem d_1_3_15 : decode prog_1_method_3_code 15 = .ok (.iload_n 1, 1) := by decide +kernel
theorem d_1_3_16 : decode prog_1_method_3_code 16 = .ok (.ireturn, 1) := by decide +kernel
def y_NH_wipe : MethodName := ⟨"NumberHouse", "wipe", "()I"⟩
set_option maxRecDepth 100000 in
set_option maxHeartbeats 4000000 in
/-- wipe on a fresh object -/
theorem c_NH_wipe (l : Launch) (D : va_G) (g : Nat → ClassId) (ws : va_W) ( qO0 qO1 qO2 qA3 qA4 qA5 qA6 qO7 qO8 qO9 qO10 qO11 qO12 qO13 qO14 qA15 : Nat) (hO0 : ws[0]? = (some (qO0, .inr (0, [.ref qO1, .ref qO2, .ref qA3, .ref qA4, .ref qA5, .ref qA6, .ref qO7, .ref qO8, .ref qO9, .ref qO10, .ref qO11, .ref qO12, .ref qO13, .ref qO14])) : Option (Nat × va_E))) (hO1 : ws[1]? = (some (qO1, .inr (1, [.ref qA15, .int 4100, .int 0])) : Option (Nat × va_E))) : q_mI l y_NH_wipe prog_1_method_3_code 2 (.int) 2 0 0 D g [.ref qO0] ws (fun r u => (r.toInt = 0) ∧ q_ge 116 ws u) := by
  intro sz
  refine q_into (by decide) (Nat.le_of_ble_eq_true rfl) ?_
  intro p e s m below meth c ls hsz C0 V hl
  have hx := C0.1
  have hb := C0.2.1
  have hl : lv_has ls 2 [(0, .ref qO0)] := hl
  have hF : q_ge 116 ws ws := q_g0
  refine lv_aload_n hx hb d_1_3_0 rfl (lv_at hl 0 rfl) ?_
  refine q_get (ci := 0) (j := 0) (v := .ref qO1) C0 V i_NH rfl rfl hO0 (by decide) w_424 rfl d_1_3_1 ?_
  refine q_get (ci := 1) (j := 2) (v := .int 0) C0 V i_She rfl rfl hO1 (by decide) w_56 rfl d_1_3_4 ?_
  refine lv_istore_n (lv' := [(1, .int 0), (0, .ref qO0)]) hx hb d_1_3_7 rfl hl (by decide) rfl (fun ls hl => ?_)
  refine lv_aload_n hx hb d_1_3_8 rfl (lv_at hl 1 rfl) ?_
  refine q_get (ci := 0) (j := 0) (v := .ref qO1) C0 V i_NH rfl rfl hO0 (by decide) w_424 rfl d_1_3_9 ?_
  refine q_gov V (q_runV (As := []) (rest := []) (d := 1) (mc := 0) (ms := 0) (ci := 1) C0 V rfl LV_NH_115 (c_She_clear l D g ws 1 qO1 qA15 hO1 _) rfl rfl hO1 rfl hl.1 rfl (Nat.le_of_ble_eq_true rfl) ⟨by decide, by decide⟩ ⟨Nat.le_of_ble_eq_true rfl, Nat.le_of_ble_eq_true rfl⟩ d_1_3_12) (fun u2 H locs hp1 V => ?_)
  obtain ⟨hg3, hO1⟩ := hp1
  replace hF := q_gc hF hg3 (q_al (Nat.le_of_ble_eq_true rfl) (fun _ h => absurd h List.not_mem_nil))
  refine lv_iload_n hx hb d_1_3_15 rfl (lv_at hl 0 rfl) ?_
  exact q_reti C0 V (⟨(show (0 : Int32).toInt = 0 from by have e0 : (0 : Int32).toInt = 0 := (by decide); omega), hF⟩) d_1_3_16
