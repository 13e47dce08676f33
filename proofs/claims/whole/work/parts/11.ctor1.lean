/-! constructors and the two that throw -/
theorem d_2_1_0 : decode prog_2_method_1_code 0 = .ok (.aload_n 0, 1) := by decide +kernel
theorem d_2_1_1 : decode prog_2_method_1_code 1 = .ok (.invokespecial 1, 3) := by decide +kernel
set_option maxRecDepth 100000 in
theorem w_83 : (Cond.methodLink "NumberHouse$Big" (1 : Nat) ({ cls := "java/lang/Object", name := "<init>", desc := "()V" } : MethodName)) ∈ q_tbl := q_of1 83 rfl (by decide +kernel)
set_option maxRecDepth 100000 in
theorem w_44 : (Cond.instanceMethod ({ cls := "java/lang/Object", name := "<init>", desc := "()V" } : MethodName)) ∈ q_tbl := q_of1 44 rfl (by decide +kernel)
set_option maxRecDepth 100000 in
theorem w_45 : (Cond.code ({ cls := "java/lang/Object", name := "<init>", desc := "()V" } : MethodName) object_method_1_code (1 : Nat) (none : Option ClassFile.FieldType)) ∈ q_tbl := q_of1 45 rfl (by decide +kernel)
theorem d_2_1_4 : decode prog_2_method_1_code 4 = .ok (.aload_n 0, 1) := by decide +kernel
theorem d_2_1_5 : decode prog_2_method_1_code 5 = .ok (.iload_n 1, 1) := by decide +kernel
theorem d_2_1_6 : decode prog_2_method_1_code 6 = .ok (.newarray .int, 2) := by decide +kernel
set_option maxRecDepth 100000 in
theorem w_107 : (Cond.arrayClass .int) ∈ q_tbl := q_of1 107 rfl (by decide +kernel)
theorem d_2_1_8 : decode prog_2_method_1_code 8 = .ok (.putfield 7, 3) := by decide +kernel
set_option maxRecDepth 100000 in
theorem w_84 : (Cond.fieldLink "NumberHouse$Big" (7 : Nat) "NumberHouse$Big" "limbs" "[I") ∈ q_tbl := q_of1 84 rfl (by decide +kernel)
theorem d_2_1_11 : decode prog_2_method_1_code 11 = .ok (.return_, 1) := by decide +kernel
def y_Big_init : MethodName := ⟨"NumberHouse$Big", "<init>", "(I)V"⟩
set_option maxRecDepth 100000 in
set_option maxHeartbeats 4000000 in
/-- new Big(68) -/
theorem c_Big_init (l : Launch) (D : va_G) (g : Nat → ClassId) (ws : va_W) (kO0 qO0 : Nat) (N : Nat) (hN : ws.length = N) (hO0 : ws[kO0]? = (some (qO0, .inr (2, [.null, .int 0, .int 0])) : Option (Nat × va_E))) : q_mV l y_Big_init prog_2_method_1_code 2 2 1 68 D g [.ref qO0, .int 68] ws (fun u => ∃ (q1 : Nat), q_un ws u [kO0, N] ∧ u[kO0]? = (some (qO0, .inr (2, [.ref q1, .int 0, .int 0])) : Option (Nat × va_E)) ∧ u[N]? = (some (q1, .inl (g 0, 68, .inl (fun _ => 0))) : Option (Nat × va_E)) ∧ u.length = N + 1) := by
  intro sz
  refine q_into (by decide) (Nat.le_of_ble_eq_true rfl) ?_
  intro p e s m below meth c ls hsz C0 V hl
  have hx := C0.1
  have hb := C0.2.1
  have hl : lv_has ls 2 [(0, .ref qO0), (1, .int 68)] := hl
  have lt_O0 := q_ltN hN hO0
  have hF : q_un ws ws [kO0, N] := q_u0
  refine lv_aload_n hx hb d_2_1_0 rfl (lv_at hl 0 rfl) ?_
  refine q_obj C0 hl.1 rfl w_83 w_44 w_45 ⟨by decide, by decide⟩ d_2_1_1 ?_
  refine lv_aload_n hx hb d_2_1_4 rfl (lv_at hl 0 rfl) ?_
  refine lv_iload_n hx hb d_2_1_5 rfl (lv_at hl 1 rfl) ?_
  refine q_newI (N' := 68) C0 V hN w_107 (by decide) (by decide) (by decide) (Nat.le_of_ble_eq_true rfl) (Nat.le_of_ble_eq_true rfl) d_2_1_6 (fun q1 H w2 hu3 hn4 hN V => ?_)
  have hn0 : w2[N]? = (some (q1, .inl (g 0, 68, .inl (fun _ => 0))) : Option (Nat × va_E)) := hn4
  replace hF := q_us hF hu3 (.tail _ (.head _))
  replace hN : w2.length = N + 1 := hN
  replace hO0 := (hu3 _ (q_p1 lt_O0)).trans (hO0)
  have ho7 := hO0
  refine q_putF (ci := 2) (j := 0) (v := .ref q1) (ty := .array .int) C0 V i_Big o_Big n_Big rfl rfl rfl rfl rfl hO0 (by decide) w_84 rfl rfl rfl (Nat.le_of_ble_eq_true rfl) d_2_1_8 (fun H locs w5 hu6 hO0 V => ?_)
  replace hO0 : w5[kO0]? = (some (qO0, .inr (2, [.ref q1, .int 0, .int 0])) : Option (Nat × va_E)) := hO0
  replace hN : w5.length = N + 1 := (q_len1 hu6 hO0 ho7).trans hN
  replace hF := q_us hF hu6 (.head _)
  replace hn0 := (hu6 _ (Ne.symm (q_p1 lt_O0))).trans (hn0)
  exact q_retv C0 V (⟨q1, hF, hO0, hn0, hN⟩) d_2_1_11
set_option maxRecDepth 100000 in
set_option maxHeartbeats 4000000 in
/-- new Big(108) -/
theorem c_Big_init_2 (l : Launch) (D : va_G) (g : Nat → ClassId) (ws : va_W) (kO0 qO0 : Nat) (N : Nat) (hN : ws.length = N) (hO0 : ws[kO0]? = (some (qO0, .inr (2, [.null, .int 0, .int 0])) : Option (Nat × va_E))) : q_mV l y_Big_init prog_2_method_1_code 2 2 1 108 D g [.ref qO0, .int 108] ws (fun u => ∃ (q1 : Nat), q_un ws u [kO0, N] ∧ u[kO0]? = (some (qO0, .inr (2, [.ref q1, .int 0, .int 0])) : Option (Nat × va_E)) ∧ u[N]? = (some (q1, .inl (g 0, 108, .inl (fun _ => 0))) : Option (Nat × va_E)) ∧ u.length = N + 1) := by
  intro sz
  refine q_into (by decide) (Nat.le_of_ble_eq_true rfl) ?_
  intro p e s m below meth c ls hsz C0 V hl
  have hx := C0.1
  have hb := C0.2.1
  have hl : lv_has ls 2 [(0, .ref qO0), (1, .int 108)] := hl
  have lt_O0 := q_ltN hN hO0
  have hF : q_un ws ws [kO0, N] := q_u0
  refine lv_aload_n hx hb d_2_1_0 rfl (lv_at hl 0 rfl) ?_
  refine q_obj C0 hl.1 rfl w_83 w_44 w_45 ⟨by decide, by decide⟩ d_2_1_1 ?_
  refine lv_aload_n hx hb d_2_1_4 rfl (lv_at hl 0 rfl) ?_
  refine lv_iload_n hx hb d_2_1_5 rfl (lv_at hl 1 rfl) ?_
  refine q_newI (N' := 108) C0 V hN w_107 (by decide) (by decide) (by decide) (Nat.le_of_ble_eq_true rfl) (Nat.le_of_ble_eq_true rfl) d_2_1_6 (fun q1 H w2 hu3 hn4 hN V => ?_)
  have hn0 : w2[N]? = (some (q1, .inl (g 0, 108, .inl (fun _ => 0))) : Option (Nat × va_E)) := hn4
  replace hF := q_us hF hu3 (.tail _ (.head _))
  replace hN : w2.length = N + 1 := hN
  replace hO0 := (hu3 _ (q_p1 lt_O0)).trans (hO0)
  have ho7 := hO0
  refine q_putF (ci := 2) (j := 0) (v := .ref q1) (ty := .array .int) C0 V i_Big o_Big n_Big rfl rfl rfl rfl rfl hO0 (by decide) w_84 rfl rfl rfl (Nat.le_of_ble_eq_true rfl) d_2_1_8 (fun H locs w5 hu6 hO0 V => ?_)
  replace hO0 : w5[kO0]? = (some (qO0, .inr (2, [.ref q1, .int 0, .int 0])) : Option (Nat × va_E)) := hO0
  replace hN : w5.length = N + 1 := (q_len1 hu6 hO0 ho7).trans hN
  replace hF := q_us hF hu6 (.head _)
  replace hn0 := (hu6 _ (Ne.symm (q_p1 lt_O0))).trans (hn0)
  exact q_retv C0 V (⟨q1, hF, hO0, hn0, hN⟩) d_2_1_11
set_option maxRecDepth 100000 in
set_option maxHeartbeats 4000000 in
/-- new Big(220) -/
theorem c_Big_init_3 (l : Launch) (D : va_G) (g : Nat → ClassId) (ws : va_W) (kO0 qO0 : Nat) (N : Nat) (hN : ws.length = N) (hO0 : ws[kO0]? = (some (qO0, .inr (2, [.null, .int 0, .int 0])) : Option (Nat × va_E))) : q_mV l y_Big_init prog_2_method_1_code 2 2 1 220 D g [.ref qO0, .int 220] ws (fun u => ∃ (q1 : Nat), q_un ws u [kO0, N] ∧ u[kO0]? = (some (qO0, .inr (2, [.ref q1, .int 0, .int 0])) : Option (Nat × va_E)) ∧ u[N]? = (some (q1, .inl (g 0, 220, .inl (fun _ => 0))) : Option (Nat × va_E)) ∧ u.length = N + 1) := by
  intro sz
  refine q_into (by decide) (Nat.le_of_ble_eq_true rfl) ?_
  intro p e s m below meth c ls hsz C0 V hl
  have hx := C0.1
  have hb := C0.2.1
  have hl : lv_has ls 2 [(0, .ref qO0), (1, .int 220)] := hl
  have lt_O0 := q_ltN hN hO0
  have hF : q_un ws ws [kO0, N] := q_u0
  refine lv_aload_n hx hb d_2_1_0 rfl (lv_at hl 0 rfl) ?_
  refine q_obj C0 hl.1 rfl w_83 w_44 w_45 ⟨by decide, by decide⟩ d_2_1_1 ?_
  refine lv_aload_n hx hb d_2_1_4 rfl (lv_at hl 0 rfl) ?_
  refine lv_iload_n hx hb d_2_1_5 rfl (lv_at hl 1 rfl) ?_
  refine q_newI (N' := 220) C0 V hN w_107 (by decide) (by decide) (by decide) (Nat.le_of_ble_eq_true rfl) (Nat.le_of_ble_eq_true rfl) d_2_1_6 (fun q1 H w2 hu3 hn4 hN V => ?_)
  have hn0 : w2[N]? = (some (q1, .inl (g 0, 220, .inl (fun _ => 0))) : Option (Nat × va_E)) := hn4
  replace hF := q_us hF hu3 (.tail _ (.head _))
  replace hN : w2.length = N + 1 := hN
  replace hO0 := (hu3 _ (q_p1 lt_O0)).trans (hO0)
  have ho7 := hO0
  refine q_putF (ci := 2) (j := 0) (v := .ref q1) (ty := .array .int) C0 V i_Big o_Big n_Big rfl rfl rfl rfl rfl hO0 (by decide) w_84 rfl rfl rfl (Nat.le_of_ble_eq_true rfl) d_2_1_8 (fun H locs w5 hu6 hO0 V => ?_)
  replace hO0 : w5[kO0]? = (some (qO0, .inr (2, [.ref q1, .int 0, .int 0])) : Option (Nat × va_E)) := hO0
  replace hN : w5.length = N + 1 := (q_len1 hu6 hO0 ho7).trans hN
  replace hF := q_us hF hu6 (.head _)
  replace hn0 := (hu6 _ (Ne.symm (q_p1 lt_O0))).trans (hn0)
  exact q_retv C0 V (⟨q1, hF, hO0, hn0, hN⟩) d_2_1_11
set_option maxRecDepth 100000 in
set_option maxHeartbeats 4000000 in
/-- new Big(3) -/
theorem c_Big_init_4 (l : Launch) (D : va_G) (g : Nat → ClassId) (ws : va_W) (kO0 qO0 : Nat) (N : Nat) (hN : ws.length = N) (hO0 : ws[kO0]? = (some (qO0, .inr (2, [.null, .int 0, .int 0])) : Option (Nat × va_E))) : q_mV l y_Big_init prog_2_method_1_code 2 2 1 3 D g [.ref qO0, .int 3] ws (fun u => ∃ (q1 : Nat), q_un ws u [kO0, N] ∧ u[kO0]? = (some (qO0, .inr (2, [.ref q1, .int 0, .int 0])) : Option (Nat × va_E)) ∧ u[N]? = (some (q1, .inl (g 0, 3, .inl (fun _ => 0))) : Option (Nat × va_E)) ∧ u.length = N + 1) := by
  intro sz
  refine q_into (by decide) (Nat.le_of_ble_eq_true rfl) ?_
  intro p e s m below meth c ls hsz C0 V hl
  have hx := C0.1
  have hb := C0.2.1
  have hl : lv_has ls 2 [(0, .ref qO0), (1, .int 3)] := hl
  have lt_O0 := q_ltN hN hO0
  have hF : q_un ws ws [kO0, N] := q_u0
  refine lv_aload_n hx hb d_2_1_0 rfl (lv_at hl 0 rfl) ?_
  refine q_obj C0 hl.1 rfl w_83 w_44 w_45 ⟨by decide, by decide⟩ d_2_1_1 ?_
  refine lv_aload_n hx hb d_2_1_4 rfl (lv_at hl 0 rfl) ?_
  refine lv_iload_n hx hb d_2_1_5 rfl (lv_at hl 1 rfl) ?_
  refine q_newI (N' := 3) C0 V hN w_107 (by decide) (by decide) (by decide) (Nat.le_of_ble_eq_true rfl) (Nat.le_of_ble_eq_true rfl) d_2_1_6 (fun q1 H w2 hu3 hn4 hN V => ?_)
  have hn0 : w2[N]? = (some (q1, .inl (g 0, 3, .inl (fun _ => 0))) : Option (Nat × va_E)) := hn4
  replace hF := q_us hF hu3 (.tail _ (.head _))
  replace hN : w2.length = N + 1 := hN
  replace hO0 := (hu3 _ (q_p1 lt_O0)).trans (hO0)
  have ho7 := hO0
  refine q_putF (ci := 2) (j := 0) (v := .ref q1) (ty := .array .int) C0 V i_Big o_Big n_Big rfl rfl rfl rfl rfl hO0 (by decide) w_84 rfl rfl rfl (Nat.le_of_ble_eq_true rfl) d_2_1_8 (fun H locs w5 hu6 hO0 V => ?_)
  replace hO0 : w5[kO0]? = (some (qO0, .inr (2, [.ref q1, .int 0, .int 0])) : Option (Nat × va_E)) := hO0
  replace hN : w5.length = N + 1 := (q_len1 hu6 hO0 ho7).trans hN
  replace hF := q_us hF hu6 (.head _)
  replace hn0 := (hu6 _ (Ne.symm (q_p1 lt_O0))).trans (hn0)
  exact q_retv C0 V (⟨q1, hF, hO0, hn0, hN⟩) d_2_1_11
theorem d_11_1_0 : decode prog_11_method_1_code 0 = .ok (.aload_n 0, 1) := by decide +kernel
theorem d_11_1_1 : decode prog_11_method_1_code 1 = .ok (.invokespecial 1, 3) := by decide +kernel
set_option maxRecDepth 100000 in
theorem w_51 : (Cond.methodLink "NumberHouse$Sheet" (1 : Nat) ({ cls := "java/lang/Object", name := "<init>", desc := "()V" } : MethodName)) ∈ q_tbl := q_of1 51 rfl (by decide +kernel)
theorem d_11_1_4 : decode prog_11_method_1_code 4 = .ok (.aload_n 0, 1) := by decide +kernel
theorem d_11_1_5 : decode prog_11_method_1_code 5 = .ok (.iload_n 1, 1) := by decide +kernel
theorem d_11_1_6 : decode prog_11_method_1_code 6 = .ok (.putfield 7, 3) := by decide +kernel
set_option maxRecDepth 100000 in
theorem w_53 : (Cond.fieldLink "NumberHouse$Sheet" (7 : Nat) "NumberHouse$Sheet" "room" "I") ∈ q_tbl := q_of1 53 rfl (by decide +kernel)
theorem d_11_1_9 : decode prog_11_method_1_code 9 = .ok (.aload_n 0, 1) := by decide +kernel
theorem d_11_1_10 : decode prog_11_method_1_code 10 = .ok (.iload_n 1, 1) := by decide +kernel
theorem d_11_1_11 : decode prog_11_method_1_code 11 = .ok (.bipush 7, 2) := by decide +kernel
theorem d_11_1_13 : decode prog_11_method_1_code 13 = .ok (.iadd, 1) := by decide +kernel
theorem d_11_1_14 : decode prog_11_method_1_code 14 = .ok (.bipush 8, 2) := by decide +kernel
theorem d_11_1_16 : decode prog_11_method_1_code 16 = .ok (.idiv, 1) := by decide +kernel
theorem d_11_1_17 : decode prog_11_method_1_code 17 = .ok (.newarray .long, 2) := by decide +kernel
set_option maxRecDepth 100000 in
theorem w_67 : (Cond.arrayClass .long) ∈ q_tbl := q_of1 67 rfl (by decide +kernel)
theorem d_11_1_19 : decode prog_11_method_1_code 19 = .ok (.putfield 13, 3) := by decide +kernel
set_option maxRecDepth 100000 in
theorem w_52 : (Cond.fieldLink "NumberHouse$Sheet" (13 : Nat) "NumberHouse$Sheet" "cells" "[J") ∈ q_tbl := q_of1 52 rfl (by decide +kernel)
theorem d_11_1_22 : decode prog_11_method_1_code 22 = .ok (.return_, 1) := by decide +kernel
def y_She_init : MethodName := ⟨"NumberHouse$Sheet", "<init>", "(I)V"⟩
set_option maxRecDepth 100000 in
set_option maxHeartbeats 4000000 in
/-- new Sheet(4100) -/
theorem c_She_init (l : Launch) (D : va_G) (g : Nat → ClassId) (ws : va_W) (kO0 qO0 : Nat) (N : Nat) (hN : ws.length = N) (hO0 : ws[kO0]? = (some (qO0, .inr (1, [.null, .int 0, .int 0])) : Option (Nat × va_E))) : q_mV l y_She_init prog_11_method_1_code 2 2 1 513 D g [.ref qO0, .int 4100] ws (fun u => ∃ (q4 : Nat), q_un ws u [kO0, N] ∧ u[kO0]? = (some (qO0, .inr (1, [.ref q4, .int 4100, .int 0])) : Option (Nat × va_E)) ∧ u[N]? = (some (q4, .inl (g 1, 513, .inr (.inl (fun _ => 0)))) : Option (Nat × va_E)) ∧ u.length = N + 1) := by
  intro sz
  refine q_into (by decide) (Nat.le_of_ble_eq_true rfl) ?_
  intro p e s m below meth c ls hsz C0 V hl
  have hx := C0.1
  have hb := C0.2.1
  have hl : lv_has ls 2 [(0, .ref qO0), (1, .int 4100)] := hl
  have lt_O0 := q_ltN hN hO0
  have hF : q_un ws ws [kO0, N] := q_u0
  refine lv_aload_n hx hb d_11_1_0 rfl (lv_at hl 0 rfl) ?_
  refine q_obj C0 hl.1 rfl w_51 w_44 w_45 ⟨by decide, by decide⟩ d_11_1_1 ?_
  refine lv_aload_n hx hb d_11_1_4 rfl (lv_at hl 0 rfl) ?_
  refine lv_iload_n hx hb d_11_1_5 rfl (lv_at hl 1 rfl) ?_
  have ho3 := hO0
  refine q_putF (ci := 1) (j := 1) (v := .int 4100) (ty := .int) C0 V i_She o_She n_She rfl rfl rfl rfl rfl hO0 (by decide) w_53 rfl rfl rfl (Nat.le_of_ble_eq_true rfl) d_11_1_6 (fun H locs w1 hu2 hO0 V => ?_)
  replace hO0 : w1[kO0]? = (some (qO0, .inr (1, [.null, .int 4100, .int 0])) : Option (Nat × va_E)) := hO0
  replace hN : w1.length = N := (q_len1 hu2 hO0 ho3).trans hN
  replace hF := q_us hF hu2 (.head _)
  refine lv_aload_n hx hb d_11_1_9 rfl (lv_at hl 0 rfl) ?_
  refine lv_iload_n hx hb d_11_1_10 rfl (lv_at hl 1 rfl) ?_
  refine lv_bipush (v := 7) hx hb d_11_1_11 (by decide) ?_
  refine lv_iadd hx hb d_11_1_13 ?_
  refine q_ti (v := 4107) (by decide) ?_
  refine lv_bipush (v := 8) hx hb d_11_1_14 (by decide) ?_
  refine lv_idiv hx hb d_11_1_16 (by decide) ?_
  refine q_ti (v := 513) (by decide) ?_
  refine q_newL (N' := 513) C0 V hN w_67 (by decide) (by decide) (by decide) (Nat.le_of_ble_eq_true rfl) (Nat.le_of_ble_eq_true rfl) d_11_1_17 (fun q4 H w5 hu6 hn7 hN V => ?_)
  have hn0 : w5[N]? = (some (q4, .inl (g 1, 513, .inr (.inl (fun _ => 0)))) : Option (Nat × va_E)) := hn7
  replace hF := q_us hF hu6 (.tail _ (.head _))
  replace hN : w5.length = N + 1 := hN
  replace hO0 := (hu6 _ (q_p1 lt_O0)).trans (hO0)
  have ho10 := hO0
  refine q_putF (ci := 1) (j := 0) (v := .ref q4) (ty := .array .long) C0 V i_She o_She n_She rfl rfl rfl rfl rfl hO0 (by decide) w_52 rfl rfl rfl (Nat.le_of_ble_eq_true rfl) d_11_1_19 (fun H locs w8 hu9 hO0 V => ?_)
  replace hO0 : w8[kO0]? = (some (qO0, .inr (1, [.ref q4, .int 4100, .int 0])) : Option (Nat × va_E)) := hO0
  replace hN : w8.length = N + 1 := (q_len1 hu9 hO0 ho10).trans hN
  replace hF := q_us hF hu9 (.head _)
  replace hn0 := (hu9 _ (Ne.symm (q_p1 lt_O0))).trans (hn0)
  exact q_retv C0 V (⟨q4, hF, hO0, hn0, hN⟩) d_11_1_22
set_option maxRecDepth 100000 in
set_option maxHeartbeats 4000000 in
/-- new Sheet(11008) -/
theorem c_She_init_2 (l : Launch) (D : va_G) (g : Nat → ClassId) (ws : va_W) (kO0 qO0 : Nat) (N : Nat) (hN : ws.length = N) (hO0 : ws[kO0]? = (some (qO0, .inr (1, [.null, .int 0, .int 0])) : Option (Nat × va_E))) : q_mV l y_She_init prog_11_method_1_code 2 2 1 1376 D g [.ref qO0, .int 11008] ws (fun u => ∃ (q4 : Nat), q_un ws u [kO0, N] ∧ u[kO0]? = (some (qO0, .inr (1, [.ref q4, .int 11008, .int 0])) : Option (Nat × va_E)) ∧ u[N]? = (some (q4, .inl (g 1, 1376, .inr (.inl (fun _ => 0)))) : Option (Nat × va_E)) ∧ u.length = N + 1) := by
  intro sz
  refine q_into (by decide) (Nat.le_of_ble_eq_true rfl) ?_
  intro p e s m below meth c ls hsz C0 V hl
  have hx := C0.1
  have hb := C0.2.1
  have hl : lv_has ls 2 [(0, .ref qO0), (1, .int 11008)] := hl
  have lt_O0 := q_ltN hN hO0
  have hF : q_un ws ws [kO0, N] := q_u0
  refine lv_aload_n hx hb d_11_1_0 rfl (lv_at hl 0 rfl) ?_
  refine q_obj C0 hl.1 rfl w_51 w_44 w_45 ⟨by decide, by decide⟩ d_11_1_1 ?_
  refine lv_aload_n hx hb d_11_1_4 rfl (lv_at hl 0 rfl) ?_
  refine lv_iload_n hx hb d_11_1_5 rfl (lv_at hl 1 rfl) ?_
  have ho3 := hO0
  refine q_putF (ci := 1) (j := 1) (v := .int 11008) (ty := .int) C0 V i_She o_She n_She rfl rfl rfl rfl rfl hO0 (by decide) w_53 rfl rfl rfl (Nat.le_of_ble_eq_true rfl) d_11_1_6 (fun H locs w1 hu2 hO0 V => ?_)
  replace hO0 : w1[kO0]? = (some (qO0, .inr (1, [.null, .int 11008, .int 0])) : Option (Nat × va_E)) := hO0
  replace hN : w1.length = N := (q_len1 hu2 hO0 ho3).trans hN
  replace hF := q_us hF hu2 (.head _)
  refine lv_aload_n hx hb d_11_1_9 rfl (lv_at hl 0 rfl) ?_
  refine lv_iload_n hx hb d_11_1_10 rfl (lv_at hl 1 rfl) ?_
  refine lv_bipush (v := 7) hx hb d_11_1_11 (by decide) ?_
  refine lv_iadd hx hb d_11_1_13 ?_
  refine q_ti (v := 11015) (by decide) ?_
  refine lv_bipush (v := 8) hx hb d_11_1_14 (by decide) ?_
  refine lv_idiv hx hb d_11_1_16 (by decide) ?_
  refine q_ti (v := 1376) (by decide) ?_
  refine q_newL (N' := 1376) C0 V hN w_67 (by decide) (by decide) (by decide) (Nat.le_of_ble_eq_true rfl) (Nat.le_of_ble_eq_true rfl) d_11_1_17 (fun q4 H w5 hu6 hn7 hN V => ?_)
  have hn0 : w5[N]? = (some (q4, .inl (g 1, 1376, .inr (.inl (fun _ => 0)))) : Option (Nat × va_E)) := hn7
  replace hF := q_us hF hu6 (.tail _ (.head _))
  replace hN : w5.length = N + 1 := hN
  replace hO0 := (hu6 _ (q_p1 lt_O0)).trans (hO0)
  have ho10 := hO0
  refine q_putF (ci := 1) (j := 0) (v := .ref q4) (ty := .array .long) C0 V i_She o_She n_She rfl rfl rfl rfl rfl hO0 (by decide) w_52 rfl rfl rfl (Nat.le_of_ble_eq_true rfl) d_11_1_19 (fun H locs w8 hu9 hO0 V => ?_)
  replace hO0 : w8[kO0]? = (some (qO0, .inr (1, [.ref q4, .int 11008, .int 0])) : Option (Nat × va_E)) := hO0
  replace hN : w8.length = N + 1 := (q_len1 hu9 hO0 ho10).trans hN
  replace hF := q_us hF hu9 (.head _)
  replace hn0 := (hu9 _ (Ne.symm (q_p1 lt_O0))).trans (hn0)
  exact q_retv C0 V (⟨q4, hF, hO0, hn0, hN⟩) d_11_1_22
set_option maxRecDepth 100000 in
set_option maxHeartbeats 4000000 in
/-- new Sheet(4104) -/
theorem c_She_init_3 (l : Launch) (D : va_G) (g : Nat → ClassId) (ws : va_W) (kO0 qO0 : Nat) (N : Nat) (hN : ws.length = N) (hO0 : ws[kO0]? = (some (qO0, .inr (1, [.null, .int 0, .int 0])) : Option (Nat × va_E))) : q_mV l y_She_init prog_11_method_1_code 2 2 1 513 D g [.ref qO0, .int 4104] ws (fun u => ∃ (q4 : Nat), q_un ws u [kO0, N] ∧ u[kO0]? = (some (qO0, .inr (1, [.ref q4, .int 4104, .int 0])) : Option (Nat × va_E)) ∧ u[N]? = (some (q4, .inl (g 1, 513, .inr (.inl (fun _ => 0)))) : Option (Nat × va_E)) ∧ u.length = N + 1) := by
  intro sz
  refine q_into (by decide) (Nat.le_of_ble_eq_true rfl) ?_
  intro p e s m below meth c ls hsz C0 V hl
  have hx := C0.1
  have hb := C0.2.1
  have hl : lv_has ls 2 [(0, .ref qO0), (1, .int 4104)] := hl
  have lt_O0 := q_ltN hN hO0
  have hF : q_un ws ws [kO0, N] := q_u0
  refine lv_aload_n hx hb d_11_1_0 rfl (lv_at hl 0 rfl) ?_
  refine q_obj C0 hl.1 rfl w_51 w_44 w_45 ⟨by decide, by decide⟩ d_11_1_1 ?_
  refine lv_aload_n hx hb d_11_1_4 rfl (lv_at hl 0 rfl) ?_
  refine lv_iload_n hx hb d_11_1_5 rfl (lv_at hl 1 rfl) ?_
  have ho3 := hO0
  refine q_putF (ci := 1) (j := 1) (v := .int 4104) (ty := .int) C0 V i_She o_She n_She rfl rfl rfl rfl rfl hO0 (by decide) w_53 rfl rfl rfl (Nat.le_of_ble_eq_true rfl) d_11_1_6 (fun H locs w1 hu2 hO0 V => ?_)
  replace hO0 : w1[kO0]? = (some (qO0, .inr (1, [.null, .int 4104, .int 0])) : Option (Nat × va_E)) := hO0
  replace hN : w1.length = N := (q_len1 hu2 hO0 ho3).trans hN
  replace hF := q_us hF hu2 (.head _)
  refine lv_aload_n hx hb d_11_1_9 rfl (lv_at hl 0 rfl) ?_
  refine lv_iload_n hx hb d_11_1_10 rfl (lv_at hl 1 rfl) ?_
  refine lv_bipush (v := 7) hx hb d_11_1_11 (by decide) ?_
  refine lv_iadd hx hb d_11_1_13 ?_
  refine q_ti (v := 4111) (by decide) ?_
  refine lv_bipush (v := 8) hx hb d_11_1_14 (by decide) ?_
  refine lv_idiv hx hb d_11_1_16 (by decide) ?_
  refine q_ti (v := 513) (by decide) ?_
  refine q_newL (N' := 513) C0 V hN w_67 (by decide) (by decide) (by decide) (Nat.le_of_ble_eq_true rfl) (Nat.le_of_ble_eq_true rfl) d_11_1_17 (fun q4 H w5 hu6 hn7 hN V => ?_)
  have hn0 : w5[N]? = (some (q4, .inl (g 1, 513, .inr (.inl (fun _ => 0)))) : Option (Nat × va_E)) := hn7
  replace hF := q_us hF hu6 (.tail _ (.head _))
  replace hN : w5.length = N + 1 := hN
  replace hO0 := (hu6 _ (q_p1 lt_O0)).trans (hO0)
  have ho10 := hO0
  refine q_putF (ci := 1) (j := 0) (v := .ref q4) (ty := .array .long) C0 V i_She o_She n_She rfl rfl rfl rfl rfl hO0 (by decide) w_52 rfl rfl rfl (Nat.le_of_ble_eq_true rfl) d_11_1_19 (fun H locs w8 hu9 hO0 V => ?_)
  replace hO0 : w8[kO0]? = (some (qO0, .inr (1, [.ref q4, .int 4104, .int 0])) : Option (Nat × va_E)) := hO0
  replace hN : w8.length = N + 1 := (q_len1 hu9 hO0 ho10).trans hN
  replace hF := q_us hF hu9 (.head _)
  replace hn0 := (hu9 _ (Ne.symm (q_p1 lt_O0))).trans (hn0)
  exact q_retv C0 V (⟨q4, hF, hO0, hn0, hN⟩) d_11_1_22
set_option maxRecDepth 100000 in
set_option maxHeartbeats 4000000 in
/-- new Sheet(64) -/
theorem c_She_init_4 (l : Launch) (D : va_G) (g : Nat → ClassId) (ws : va_W) (kO0 qO0 : Nat) (N : Nat) (hN : ws.length = N) (hO0 : ws[kO0]? = (some (qO0, .inr (1, [.null, .int 0, .int 0])) : Option (Nat × va_E))) : q_mV l y_She_init prog_11_method_1_code 2 2 1 8 D g [.ref qO0, .int 64] ws (fun u => ∃ (q4 : Nat), q_un ws u [kO0, N] ∧ u[kO0]? = (some (qO0, .inr (1, [.ref q4, .int 64, .int 0])) : Option (Nat × va_E)) ∧ u[N]? = (some (q4, .inl (g 1, 8, .inr (.inl (fun _ => 0)))) : Option (Nat × va_E)) ∧ u.length = N + 1) := by
  intro sz
  refine q_into (by decide) (Nat.le_of_ble_eq_true rfl) ?_
  intro p e s m below meth c ls hsz C0 V hl
  have hx := C0.1
  have hb := C0.2.1
  have hl : lv_has ls 2 [(0, .ref qO0), (1, .int 64)] := hl
  have lt_O0 := q_ltN hN hO0
  have hF : q_un ws ws [kO0, N] := q_u0
  refine lv_aload_n hx hb d_11_1_0 rfl (lv_at hl 0 rfl) ?_
  refine q_obj C0 hl.1 rfl w_51 w_44 w_45 ⟨by decide, by decide⟩ d_11_1_1 ?_
  refine lv_aload_n hx hb d_11_1_4 rfl (lv_at hl 0 rfl) ?_
  refine lv_iload_n hx hb d_11_1_5 rfl (lv_at hl 1 rfl) ?_
  have ho3 := hO0
  refine q_putF (ci := 1) (j := 1) (v := .int 64) (ty := .int) C0 V i_She o_She n_She rfl rfl rfl rfl rfl hO0 (by decide) w_53 rfl rfl rfl (Nat.le_of_ble_eq_true rfl) d_11_1_6 (fun H locs w1 hu2 hO0 V => ?_)
  replace hO0 : w1[kO0]? = (some (qO0, .inr (1, [.null, .int 64, .int 0])) : Option (Nat × va_E)) := hO0
  replace hN : w1.length = N := (q_len1 hu2 hO0 ho3).trans hN
  replace hF := q_us hF hu2 (.head _)
  refine lv_aload_n hx hb d_11_1_9 rfl (lv_at hl 0 rfl) ?_
  refine lv_iload_n hx hb d_11_1_10 rfl (lv_at hl 1 rfl) ?_
  refine lv_bipush (v := 7) hx hb d_11_1_11 (by decide) ?_
  refine lv_iadd hx hb d_11_1_13 ?_
  refine q_ti (v := 71) (by decide) ?_
  refine lv_bipush (v := 8) hx hb d_11_1_14 (by decide) ?_
  refine lv_idiv hx hb d_11_1_16 (by decide) ?_
  refine q_ti (v := 8) (by decide) ?_
  refine q_newL (N' := 8) C0 V hN w_67 (by decide) (by decide) (by decide) (Nat.le_of_ble_eq_true rfl) (Nat.le_of_ble_eq_true rfl) d_11_1_17 (fun q4 H w5 hu6 hn7 hN V => ?_)
  have hn0 : w5[N]? = (some (q4, .inl (g 1, 8, .inr (.inl (fun _ => 0)))) : Option (Nat × va_E)) := hn7
  replace hF := q_us hF hu6 (.tail _ (.head _))
  replace hN : w5.length = N + 1 := hN
  replace hO0 := (hu6 _ (q_p1 lt_O0)).trans (hO0)
  have ho10 := hO0
  refine q_putF (ci := 1) (j := 0) (v := .ref q4) (ty := .array .long) C0 V i_She o_She n_She rfl rfl rfl rfl rfl hO0 (by decide) w_52 rfl rfl rfl (Nat.le_of_ble_eq_true rfl) d_11_1_19 (fun H locs w8 hu9 hO0 V => ?_)
  replace hO0 : w8[kO0]? = (some (qO0, .inr (1, [.ref q4, .int 64, .int 0])) : Option (Nat × va_E)) := hO0
  replace hN : w8.length = N + 1 := (q_len1 hu9 hO0 ho10).trans hN
  replace hF := q_us hF hu9 (.head _)
  replace hn0 := (hu9 _ (Ne.symm (q_p1 lt_O0))).trans (hn0)
  exact q_retv C0 V (⟨q4, hF, hO0, hn0, hN⟩) d_11_1_22
theorem d_3_1_0 : decode prog_3_method_1_code 0 = .ok (.aload_n 0, 1) := by decide +kernel
theorem d_3_1_1 : decode prog_3_method_1_code 1 = .ok (.invokespecial 1, 3) := by decide +kernel
set_option maxRecDepth 100000 in
theorem w_167 : (Cond.methodLink "NumberHouse$Dec" (1 : Nat) ({ cls := "java/lang/Object", name := "<init>", desc := "()V" } : MethodName)) ∈ q_tbl := q_of1 167 rfl (by decide +kernel)
theorem d_3_1_4 : decode prog_3_method_1_code 4 = .ok (.aload_n 0, 1) := by decide +kernel
theorem d_3_1_5 : decode prog_3_method_1_code 5 = .ok (.iconst 1, 1) := by decide +kernel
theorem d_3_1_6 : decode prog_3_method_1_code 6 = .ok (.putfield 7, 3) := by decide +kernel
set_option maxRecDepth 100000 in
theorem w_179 : (Cond.fieldLink "NumberHouse$Dec" (7 : Nat) "NumberHouse$Dec" "figureCount" "I") ∈ q_tbl := q_of1 179 rfl (by decide +kernel)
theorem d_3_1_9 : decode prog_3_method_1_code 9 = .ok (.aload_n 0, 1) := by decide +kernel
theorem d_3_1_10 : decode prog_3_method_1_code 10 = .ok (.new 13, 3) := by decide +kernel
set_option maxRecDepth 100000 in
theorem w_168 : (Cond.classLink "NumberHouse$Dec" (13 : Nat) "NumberHouse$Big") ∈ q_tbl := q_of1 168 rfl (by decide +kernel)
set_option maxRecDepth 100000 in
theorem w_79 : (Cond.instantiable "NumberHouse$Big" (3 : Nat)) ∈ q_tbl := q_of1 79 rfl (by decide +kernel)
theorem d_3_1_13 : decode prog_3_method_1_code 13 = .ok (.dup, 1) := by decide +kernel
theorem d_3_1_14 : decode prog_3_method_1_code 14 = .ok (.iload_n 1, 1) := by decide +kernel
theorem d_3_1_15 : decode prog_3_method_1_code 15 = .ok (.invokespecial 15, 3) := by decide +kernel
set_option maxRecDepth 100000 in
theorem w_82 : (Cond.code ({ cls := "NumberHouse$Big", name := "<init>", desc := "(I)V" } : MethodName) prog_2_method_1_code (2 : Nat) (none : Option ClassFile.FieldType)) ∈ q_tbl := q_of1 82 rfl (by decide +kernel)
set_option maxRecDepth 100000 in
theorem w_169 : (Cond.methodLink "NumberHouse$Dec" (15 : Nat) ({ cls := "NumberHouse$Big", name := "<init>", desc := "(I)V" } : MethodName)) ∈ q_tbl := q_of1 169 rfl (by decide +kernel)
set_option maxRecDepth 100000 in
theorem w_81 : (Cond.instanceMethod ({ cls := "NumberHouse$Big", name := "<init>", desc := "(I)V" } : MethodName)) ∈ q_tbl := q_of1 81 rfl (by decide +kernel)
theorem LI_Dec_15 : q_LI "NumberHouse$Dec" 15 y_Big_init prog_2_method_1_code 2 1 := ⟨w_82, w_4, w_169, w_81, rfl, ⟨by decide, by decide, by decide +kernel⟩⟩
theorem d_3_1_18 : decode prog_3_method_1_code 18 = .ok (.putfield 18, 3) := by decide +kernel
set_option maxRecDepth 100000 in
theorem w_170 : (Cond.fieldLink "NumberHouse$Dec" (18 : Nat) "NumberHouse$Dec" "number" "LNumberHouse$Big;") ∈ q_tbl := q_of1 170 rfl (by decide +kernel)
theorem d_3_1_21 : decode prog_3_method_1_code 21 = .ok (.return_, 1) := by decide +kernel
def y_Dec_init : MethodName := ⟨"NumberHouse$Dec", "<init>", "(I)V"⟩
set_option maxRecDepth 100000 in
set_option maxHeartbeats 4000000 in
/-- new Dec(108) -/
theorem c_Dec_init (l : Launch) (D : va_G) (g : Nat → ClassId) (ws : va_W) (kO0 qO0 : Nat) (N : Nat) (hN : ws.length = N) (hO0 : ws[kO0]? = (some (qO0, .inr (3, [.null, .int 0, .int 0])) : Option (Nat × va_E))) : q_mV l y_Dec_init prog_3_method_1_code 2 3 2 111 D g [.ref qO0, .int 108] ws (fun u => ∃ (q4 : Nat) (q10 : Nat), q_un ws u [kO0, N, N + 1] ∧ u[kO0]? = (some (qO0, .inr (3, [.ref q4, .int 0, .int 1])) : Option (Nat × va_E)) ∧ u[N]? = (some (q4, .inr (2, [.ref q10, .int 0, .int 0])) : Option (Nat × va_E)) ∧ u[N + 1]? = (some (q10, .inl (g 0, 108, .inl (fun _ => 0))) : Option (Nat × va_E)) ∧ u.length = N + 2) := by
  intro sz
  refine q_into (by decide) (Nat.le_of_ble_eq_true rfl) ?_
  intro p e s m below meth c ls hsz C0 V hl
  have hx := C0.1
  have hb := C0.2.1
  have hl : lv_has ls 2 [(0, .ref qO0), (1, .int 108)] := hl
  have lt_O0 := q_ltN hN hO0
  have hF : q_un ws ws [kO0, N, N + 1] := q_u0
  refine lv_aload_n hx hb d_3_1_0 rfl (lv_at hl 0 rfl) ?_
  refine q_obj C0 hl.1 rfl w_167 w_44 w_45 ⟨by decide, by decide⟩ d_3_1_1 ?_
  refine lv_aload_n hx hb d_3_1_4 rfl (lv_at hl 0 rfl) ?_
  refine lv_iconst (v := 1) hx hb d_3_1_5 (by decide) ?_
  have ho3 := hO0
  refine q_put (ci := 3) (j := 2) (v := .int 1) (ty := .int) C0 V i_Dec o_Dec n_Dec rfl rfl hO0 (by decide) w_179 rfl rfl rfl rfl (Nat.le_of_ble_eq_true rfl) d_3_1_6 (fun H locs w1 hu2 hO0 V => ?_)
  replace hO0 : w1[kO0]? = (some (qO0, .inr (3, [.null, .int 0, .int 1])) : Option (Nat × va_E)) := hO0
  replace hN : w1.length = N := (q_len1 hu2 hO0 ho3).trans hN
  replace hF := q_us hF hu2 (.head _)
  refine lv_aload_n hx hb d_3_1_9 rfl (lv_at hl 0 rfl) ?_
  refine q_new (ci := 2) (fs := [.null, .int 0, .int 0]) C0 V hN i_Big o_Big rfl w_168 w_79 w_4 rfl (fun j hj => by rcases (show j = 0 ∨ j = 1 ∨ j = 2 by omega) with rfl | rfl | rfl <;> rfl) (Nat.le_of_ble_eq_true rfl) (Nat.le_of_ble_eq_true rfl) d_3_1_10 (fun q4 H w5 hu6 hn7 hN V => ?_)
  have hn0 : w5[N]? = (some (q4, .inr (2, [.null, .int 0, .int 0])) : Option (Nat × va_E)) := hn7
  replace hF := q_us hF hu6 (.tail _ (.head _))
  replace hN : w5.length = N + 1 := hN
  refine lv_dup hx hb d_3_1_13 rfl ?_
  refine lv_iload_n hx hb d_3_1_14 rfl (lv_at hl 1 rfl) ?_
  refine q_gov V (q_runI (As := [.int 108]) (rest := [.ref q4, .ref qO0]) (d := 2) (mc := 1) (ms := 108) C0 V rfl LI_Dec_15 (c_Big_init_2 l D g w5 N q4 (N + 1) hN hn0 _) rfl hl.1 rfl (Nat.le_of_ble_eq_true rfl) ⟨by decide, by decide⟩ ⟨Nat.le_of_ble_eq_true rfl, Nat.le_of_ble_eq_true rfl⟩ d_3_1_15) (fun u9 H locs hp8 V => ?_)
  obtain ⟨q10, hg11, hn0, hq12, hN⟩ := hp8
  replace hF := q_uc hF hg11 (q_sc (.tail _ (.head _)) (q_sc (.tail _ (.tail _ (.head _))) (fun _ h => absurd h List.not_mem_nil)))
  have hn1 : u9[N + 1]? = (some (q10, .inl (g 0, 108, .inl (fun _ => 0))) : Option (Nat × va_E)) := hq12
  replace hN : u9.length = N + 2 := hN
  replace hO0 := (hg11 _ (q_nc (q_p1 lt_O0) (q_nc (q_p0 lt_O0) List.not_mem_nil))).trans ((hu6 _ (q_p1 lt_O0)).trans (hO0))
  have ho15 := hO0
  refine q_putF (ci := 3) (j := 0) (v := .ref q4) (ty := .object "NumberHouse$Big") C0 V i_Dec o_Dec n_Dec rfl rfl rfl rfl rfl hO0 (by decide) w_170 rfl rfl rfl (Nat.le_of_ble_eq_true rfl) d_3_1_18 (fun H locs w13 hu14 hO0 V => ?_)
  replace hO0 : w13[kO0]? = (some (qO0, .inr (3, [.ref q4, .int 0, .int 1])) : Option (Nat × va_E)) := hO0
  replace hN : w13.length = N + 2 := (q_len1 hu14 hO0 ho15).trans hN
  replace hF := q_us hF hu14 (.head _)
  replace hn0 := (hu14 _ (Ne.symm (q_p1 lt_O0))).trans (hn0)
  replace hn1 := (hu14 _ (Ne.symm (q_p0 lt_O0))).trans (hn1)
  exact q_retv C0 V (⟨q4, q10, hF, hO0, hn0, hn1, hN⟩) d_3_1_21
set_option maxRecDepth 100000 in
set_option maxHeartbeats 4000000 in
/-- new Dec(3) -/
theorem c_Dec_init_2 (l : Launch) (D : va_G) (g : Nat → ClassId) (ws : va_W) (kO0 qO0 : Nat) (N : Nat) (hN : ws.length = N) (hO0 : ws[kO0]? = (some (qO0, .inr (3, [.null, .int 0, .int 0])) : Option (Nat × va_E))) : q_mV l y_Dec_init prog_3_method_1_code 2 3 2 6 D g [.ref qO0, .int 3] ws (fun u => ∃ (q4 : Nat) (q10 : Nat), q_un ws u [kO0, N, N + 1] ∧ u[kO0]? = (some (qO0, .inr (3, [.ref q4, .int 0, .int 1])) : Option (Nat × va_E)) ∧ u[N]? = (some (q4, .inr (2, [.ref q10, .int 0, .int 0])) : Option (Nat × va_E)) ∧ u[N + 1]? = (some (q10, .inl (g 0, 3, .inl (fun _ => 0))) : Option (Nat × va_E)) ∧ u.length = N + 2) := by
  intro sz
  refine q_into (by decide) (Nat.le_of_ble_eq_true rfl) ?_
  intro p e s m below meth c ls hsz C0 V hl
  have hx := C0.1
  have hb := C0.2.1
  have hl : lv_has ls 2 [(0, .ref qO0), (1, .int 3)] := hl
  have lt_O0 := q_ltN hN hO0
  have hF : q_un ws ws [kO0, N, N + 1] := q_u0
  refine lv_aload_n hx hb d_3_1_0 rfl (lv_at hl 0 rfl) ?_
  refine q_obj C0 hl.1 rfl w_167 w_44 w_45 ⟨by decide, by decide⟩ d_3_1_1 ?_
  refine lv_aload_n hx hb d_3_1_4 rfl (lv_at hl 0 rfl) ?_
  refine lv_iconst (v := 1) hx hb d_3_1_5 (by decide) ?_
  have ho3 := hO0
  refine q_put (ci := 3) (j := 2) (v := .int 1) (ty := .int) C0 V i_Dec o_Dec n_Dec rfl rfl hO0 (by decide) w_179 rfl rfl rfl rfl (Nat.le_of_ble_eq_true rfl) d_3_1_6 (fun H locs w1 hu2 hO0 V => ?_)
  replace hO0 : w1[kO0]? = (some (qO0, .inr (3, [.null, .int 0, .int 1])) : Option (Nat × va_E)) := hO0
  replace hN : w1.length = N := (q_len1 hu2 hO0 ho3).trans hN
  replace hF := q_us hF hu2 (.head _)
  refine lv_aload_n hx hb d_3_1_9 rfl (lv_at hl 0 rfl) ?_
  refine q_new (ci := 2) (fs := [.null, .int 0, .int 0]) C0 V hN i_Big o_Big rfl w_168 w_79 w_4 rfl (fun j hj => by rcases (show j = 0 ∨ j = 1 ∨ j = 2 by omega) with rfl | rfl | rfl <;> rfl) (Nat.le_of_ble_eq_true rfl) (Nat.le_of_ble_eq_true rfl) d_3_1_10 (fun q4 H w5 hu6 hn7 hN V => ?_)
  have hn0 : w5[N]? = (some (q4, .inr (2, [.null, .int 0, .int 0])) : Option (Nat × va_E)) := hn7
  replace hF := q_us hF hu6 (.tail _ (.head _))
  replace hN : w5.length = N + 1 := hN
  refine lv_dup hx hb d_3_1_13 rfl ?_
  refine lv_iload_n hx hb d_3_1_14 rfl (lv_at hl 1 rfl) ?_
  refine q_gov V (q_runI (As := [.int 3]) (rest := [.ref q4, .ref qO0]) (d := 2) (mc := 1) (ms := 3) C0 V rfl LI_Dec_15 (c_Big_init_4 l D g w5 N q4 (N + 1) hN hn0 _) rfl hl.1 rfl (Nat.le_of_ble_eq_true rfl) ⟨by decide, by decide⟩ ⟨Nat.le_of_ble_eq_true rfl, Nat.le_of_ble_eq_true rfl⟩ d_3_1_15) (fun u9 H locs hp8 V => ?_)
  obtain ⟨q10, hg11, hn0, hq12, hN⟩ := hp8
  replace hF := q_uc hF hg11 (q_sc (.tail _ (.head _)) (q_sc (.tail _ (.tail _ (.head _))) (fun _ h => absurd h List.not_mem_nil)))
  have hn1 : u9[N + 1]? = (some (q10, .inl (g 0, 3, .inl (fun _ => 0))) : Option (Nat × va_E)) := hq12
  replace hN : u9.length = N + 2 := hN
  replace hO0 := (hg11 _ (q_nc (q_p1 lt_O0) (q_nc (q_p0 lt_O0) List.not_mem_nil))).trans ((hu6 _ (q_p1 lt_O0)).trans (hO0))
  have ho15 := hO0
  refine q_putF (ci := 3) (j := 0) (v := .ref q4) (ty := .object "NumberHouse$Big") C0 V i_Dec o_Dec n_Dec rfl rfl rfl rfl rfl hO0 (by decide) w_170 rfl rfl rfl (Nat.le_of_ble_eq_true rfl) d_3_1_18 (fun H locs w13 hu14 hO0 V => ?_)
  replace hO0 : w13[kO0]? = (some (qO0, .inr (3, [.ref q4, .int 0, .int 1])) : Option (Nat × va_E)) := hO0
  replace hN : w13.length = N + 2 := (q_len1 hu14 hO0 ho15).trans hN
  replace hF := q_us hF hu14 (.head _)
  replace hn0 := (hu14 _ (Ne.symm (q_p1 lt_O0))).trans (hn0)
  replace hn1 := (hu14 _ (Ne.symm (q_p0 lt_O0))).trans (hn1)
  exact q_retv C0 V (⟨q4, q10, hF, hO0, hn0, hn1, hN⟩) d_3_1_21
theorem d_1_36_0 : decode prog_1_method_36_code 0 = .ok (.iload_n 0, 1) := by decide +kernel
theorem d_1_36_1 : decode prog_1_method_36_code 1 = .ok (.ifCond .ne 14, 3) := by decide +kernel
theorem d_1_36_15 : decode prog_1_method_36_code 15 = .ok (.return_, 1) := by decide +kernel
theorem d_1_36_4 : decode prog_1_method_36_code 4 = .ok (.new 427, 3) := by decide +kernel
theorem d_1_36_7 : decode prog_1_method_36_code 7 = .ok (.dup, 1) := by decide +kernel
theorem d_1_36_8 : decode prog_1_method_36_code 8 = .ok (.ldc_w 429, 3) := by decide +kernel
theorem d_1_36_11 : decode prog_1_method_36_code 11 = .ok (.invokespecial 431, 3) := by decide +kernel
theorem d_1_36_14 : decode prog_1_method_36_code 14 = .ok (.athrow, 1) := by decide +kernel
theorem t_NH_431 : ∀ w ∈ Bundle.ownAtoms "NumberHouse" 431 "java/lang/IllegalArgumentException" ["java/lang/RuntimeException", "java/lang/Exception"], w ∈ q_tbl ∨ (w ∈ q_odd ∧ w.onTables = true) ∨ w ∈ q_four := by decide +kernel
set_option maxRecDepth 100000 in
theorem w_494 : (Cond.classLink "NumberHouse" (427 : Nat) "java/lang/IllegalArgumentException") ∈ q_tbl := q_of3 14 rfl (by decide +kernel)
set_option maxRecDepth 100000 in
theorem w_23 : (Cond.initialized "java/lang/IllegalArgumentException") ∈ q_tbl := q_of1 23 rfl (by decide +kernel)
set_option maxRecDepth 100000 in
theorem wo_535 : (Cond.stringRef "NumberHouse" (429 : Nat) "there is no such thing") ∈ q_odd := q_oo3 55 rfl (by decide +kernel)
set_option maxRecDepth 100000 in
theorem w_495 : (Cond.instantiable "java/lang/IllegalArgumentException" (6 : Nat)) ∈ q_tbl := q_of3 15 rfl (by decide +kernel)
def y_NH_need : MethodName := ⟨"NumberHouse", "need", "(Z)V"⟩
set_option maxRecDepth 100000 in
set_option maxHeartbeats 4000000 in
/-- need -/
theorem c_NH_need (l : Launch) (D : va_G) (g : Nat → ClassId) (ws : va_W) (hlt : l.stackTraces = false) (x1 : Int32) : q_xV l y_NH_need prog_1_method_36_code 1 7 1 6 D g [.int x1] ws (fun u => ¬ x1 = 0 ∧ ws = u) (fun E u => x1 = 0 ∧ "java/lang/IllegalArgumentException" = E ∧ ws = u) := by
  intro sz
  refine q_intoX (by decide) (Nat.le_of_ble_eq_true rfl) ?_
  intro p e s m below meth c ls hsz C0 V hno hl
  have hx := C0.1
  have hb := C0.2.1
  have hl : lv_has ls 1 [(0, .int x1)] := hl
  refine lv_iload_n hx hb d_1_36_0 rfl (lv_at hl 0 rfl) ?_
  refine lv_if_ne (tgt := 15) hx hb d_1_36_1 (by decide) (fun c1 => ?_) (fun c1 => ?_)
  ·
    refine W.widen (k := 1) (n := 6) (Nat.le_of_ble_eq_true rfl) (Nat.le_of_ble_eq_true rfl) ?_
    exact q_retX (q_retv C0 V (⟨c1, rfl⟩) d_1_36_15)
  ·
    exact q_throwW (names := ["java/lang/RuntimeException", "java/lang/Exception"]) C0 V hlt hno rfl hl.1 (by decide) (by decide) w_494 w_23 wo_535 w_495 t_NH_431 d_1_36_4 d_1_36_7 d_1_36_8 d_1_36_11 d_1_36_14 (by decide) (by decide) (by decide) (by decide) (⟨c1, rfl, rfl⟩)
theorem d_1_37_0 : decode prog_1_method_37_code 0 = .ok (.iload_n 0, 1) := by decide +kernel
theorem d_1_37_1 : decode prog_1_method_37_code 1 = .ok (.ifCond .ne 14, 3) := by decide +kernel
theorem d_1_37_15 : decode prog_1_method_37_code 15 = .ok (.return_, 1) := by decide +kernel
theorem d_1_37_4 : decode prog_1_method_37_code 4 = .ok (.new 432, 3) := by decide +kernel
theorem d_1_37_7 : decode prog_1_method_37_code 7 = .ok (.dup, 1) := by decide +kernel
theorem d_1_37_8 : decode prog_1_method_37_code 8 = .ok (.ldc_w 434, 3) := by decide +kernel
theorem d_1_37_11 : decode prog_1_method_37_code 11 = .ok (.invokespecial 436, 3) := by decide +kernel
theorem d_1_37_14 : decode prog_1_method_37_code 14 = .ok (.athrow, 1) := by decide +kernel
theorem t_NH_436 : ∀ w ∈ Bundle.ownAtoms "NumberHouse" 436 "java/lang/ArithmeticException" ["java/lang/RuntimeException", "java/lang/Exception"], w ∈ q_tbl ∨ (w ∈ q_odd ∧ w.onTables = true) ∨ w ∈ q_four := by decide +kernel
set_option maxRecDepth 100000 in
theorem w_1067 : (Cond.classLink "NumberHouse" (432 : Nat) "java/lang/ArithmeticException") ∈ q_tbl := q_of5 107 rfl (by decide +kernel)
set_option maxRecDepth 100000 in
theorem w_34 : (Cond.initialized "java/lang/ArithmeticException") ∈ q_tbl := q_of1 34 rfl (by decide +kernel)
set_option maxRecDepth 100000 in
theorem wo_1076 : (Cond.stringRef "NumberHouse" (434 : Nat) "no register can have that") ∈ q_odd := q_oo5 116 rfl (by decide +kernel)
set_option maxRecDepth 100000 in
theorem w_1068 : (Cond.instantiable "java/lang/ArithmeticException" (6 : Nat)) ∈ q_tbl := q_of5 108 rfl (by decide +kernel)
def y_NH_canHave : MethodName := ⟨"NumberHouse", "canHave", "(Z)V"⟩
set_option maxRecDepth 100000 in
set_option maxHeartbeats 4000000 in
/-- canHave -/
theorem c_NH_canHave (l : Launch) (D : va_G) (g : Nat → ClassId) (ws : va_W) (hlt : l.stackTraces = false) (x1 : Int32) : q_xV l y_NH_canHave prog_1_method_37_code 1 7 1 6 D g [.int x1] ws (fun u => ¬ x1 = 0 ∧ ws = u) (fun E u => x1 = 0 ∧ "java/lang/ArithmeticException" = E ∧ ws = u) := by
  intro sz
  refine q_intoX (by decide) (Nat.le_of_ble_eq_true rfl) ?_
  intro p e s m below meth c ls hsz C0 V hno hl
  have hx := C0.1
  have hb := C0.2.1
  have hl : lv_has ls 1 [(0, .int x1)] := hl
  refine lv_iload_n hx hb d_1_37_0 rfl (lv_at hl 0 rfl) ?_
  refine lv_if_ne (tgt := 15) hx hb d_1_37_1 (by decide) (fun c1 => ?_) (fun c1 => ?_)
  ·
    refine W.widen (k := 1) (n := 6) (Nat.le_of_ble_eq_true rfl) (Nat.le_of_ble_eq_true rfl) ?_
    exact q_retX (q_retv C0 V (⟨c1, rfl⟩) d_1_37_15)
  ·
    exact q_throwW (names := ["java/lang/RuntimeException", "java/lang/Exception"]) C0 V hlt hno rfl hl.1 (by decide) (by decide) w_1067 w_34 wo_1076 w_1068 t_NH_436 d_1_37_4 d_1_37_7 d_1_37_8 d_1_37_11 d_1_37_14 (by decide) (by decide) (by decide) (by decide) (⟨c1, rfl, rfl⟩)
