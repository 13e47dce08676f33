/-! the class on a fresh object: feed, wipe, format, paperAt -/
theorem d_11_2_0 : decode prog_11_method_2_code 0 = .ok (.aload_n 0, 1) := by decide +kernel
theorem d_11_2_1 : decode prog_11_method_2_code 1 = .ok (.iconst 0, 1) := by decide +kernel
theorem d_11_2_2 : decode prog_11_method_2_code 2 = .ok (.putfield 17, 3) := by decide +kernel
theorem w_54 : (Cond.fieldLink "NumberHouse$Sheet" (17 : Nat) "NumberHouse$Sheet" "size" "I") ∈ q_tbl := q_of 54 (by decide +kernel) (by decide +kernel)
theorem d_11_2_5 : decode prog_11_method_2_code 5 = .ok (.return_, 1) := by decide +kernel
def y_She_clear : MethodName := ⟨"NumberHouse$Sheet", "clear", "()V"⟩
set_option maxRecDepth 100000 in
set_option maxHeartbeats 4000000 in
theorem c_She_clear (l : Launch) (D : va_G) (g : Nat → ClassId) (ws : va_W) (kO0 qO0 qA1 : Nat) (hO0 : ws[kO0]? = some (qO0, .inr (1, [.ref qA1, .int 4100, .int 0]))) : q_mV l y_She_clear prog_11_method_2_code 1 1 0 0 D g [.ref qO0] ws (fun u => q_un ws u [kO0] ∧ u[kO0]? = some (qO0, .inr (1, [.ref qA1, .int 4100, .int 0]))) := by
  intro sz
  refine q_into (by decide) (Nat.le_of_ble_eq_true rfl) ?_
  intro p e s m below meth c ls hsz C0 V hl
  have hx := C0.1
  have hb := C0.2.1
  have hl : lv_has ls 1 [(0, .ref qO0)] := hl
  have hF : q_un ws ws [kO0] := q_u0
  refine lv_aload_n hx hb d_11_2_0 rfl (lv_at hl 0 rfl) ?_
  refine lv_iconst (v := 0) hx hb d_11_2_1 (by decide) ?_
  refine q_put (ci := 1) (j := 2) (v := .int 0) (ty := .int) C0 V i_She o_She n_She rfl rfl hO0 (by decide) w_54 rfl rfl rfl rfl (Nat.le_of_ble_eq_true rfl) d_11_2_2 (fun H locs w1 hu2 hO0 V => ?_)
  replace hO0 : w1[kO0]? = some (qO0, .inr (1, [.ref qA1, .int 4100, .int 0])) := hO0
  replace hF := q_us hF hu2 (.head _)
  exact q_retv C0 V (⟨hF, hO0⟩) d_11_2_5
theorem d_1_3_0 : decode prog_1_method_3_code 0 = .ok (.aload_n 0, 1) := by decide +kernel
theorem d_1_3_1 : decode prog_1_method_3_code 1 = .ok (.getfield 14, 3) := by decide +kernel
theorem d_1_3_4 : decode prog_1_method_3_code 4 = .ok (.getfield 108, 3) := by decide +kernel
theorem w_56 : (Cond.fieldLink "NumberHouse" (108 : Nat) "NumberHouse$Sheet" "size" "I") ∈ q_tbl := q_of 56 (by decide +kernel) (by decide +kernel)
theorem d_1_3_7 : decode prog_1_method_3_code 7 = .ok (.istore_n 1, 1) := by decide +kernel
theorem d_1_3_8 : decode prog_1_method_3_code 8 = .ok (.aload_n 0, 1) := by decide +kernel
theorem d_1_3_9 : decode prog_1_method_3_code 9 = .ok (.getfield 14, 3) := by decide +kernel
theorem d_1_3_12 : decode prog_1_method_3_code 12 = .ok (.invokevirtual 115, 3) := by decide +kernel
theorem w_474 : (Cond.code ({ cls := "NumberHouse$Sheet", name := "clear", desc := "()V" } : MethodName) prog_11_method_2_code (1 : Nat) (none : Option ClassFile.FieldType)) ∈ q_tbl := q_of 474 (by decide +kernel) (by decide +kernel)
theorem w_471 : (Cond.methodLink "NumberHouse" (115 : Nat) ({ cls := "NumberHouse$Sheet", name := "clear", desc := "()V" } : MethodName)) ∈ q_tbl := q_of 471 (by decide +kernel) (by decide +kernel)
theorem w_472 : (Cond.instanceMethod ({ cls := "NumberHouse$Sheet", name := "clear", desc := "()V" } : MethodName)) ∈ q_tbl := q_of 472 (by decide +kernel) (by decide +kernel)
theorem w_473 : (Cond.selects "NumberHouse$Sheet" ({ cls := "NumberHouse$Sheet", name := "clear", desc := "()V" } : MethodName) ({ cls := "NumberHouse$Sheet", name := "clear", desc := "()V" } : MethodName)) ∈ q_tbl := q_of 473 (by decide +kernel) (by decide +kernel)
theorem LV_NH_115 : q_LV "NumberHouse" 115 y_She_clear prog_11_method_2_code 1 none 0 := ⟨w_474, w_2, w_471, w_472, w_473, ⟨by decide, by decide, by decide +kernel⟩⟩
theorem d_1_3_15 : decode prog_1_method_3_code 15 = .ok (.iload_n 1, 1) := by decide +kernel
theorem d_1_3_16 : decode prog_1_method_3_code 16 = .ok (.ireturn, 1) := by decide +kernel
def y_NH_wipe : MethodName := ⟨"NumberHouse", "wipe", "()I"⟩
set_option maxRecDepth 100000 in
set_option maxHeartbeats 4000000 in
/-- wipe() on a fresh object -/
theorem c_NH_wipe (l : Launch) (D : va_G) (g : Nat → ClassId) (ws : va_W) ( qO0 qO1 qO2 qA3 qA4 qA5 qA6 qO7 qO8 qO9 qO10 qO11 qO12 qO13 qO14 qA15 : Nat) (hO0 : ws[0]? = some (qO0, .inr (0, [.ref qO1, .ref qO2, .ref qA3, .ref qA4, .ref qA5, .ref qA6, .ref qO7, .ref qO8, .ref qO9, .ref qO10, .ref qO11, .ref qO12, .ref qO13, .ref qO14]))) (hO1 : ws[1]? = some (qO1, .inr (1, [.ref qA15, .int 4100, .int 0]))) : q_mI l y_NH_wipe prog_1_method_3_code 2 (.int) 2 0 0 D g [.ref qO0] ws (fun r u => 0 = r ∧ q_un ws u [1] ∧ u[1]? = some (qO1, .inr (1, [.ref qA15, .int 4100, .int 0]))) := by
  intro sz
  refine q_into (by decide) (Nat.le_of_ble_eq_true rfl) ?_
  intro p e s m below meth c ls hsz C0 V hl
  have hx := C0.1
  have hb := C0.2.1
  have hl : lv_has ls 2 [(0, .ref qO0)] := hl
  have hF : q_un ws ws [1] := q_u0
  refine lv_aload_n hx hb d_1_3_0 rfl (lv_at hl 0 rfl) ?_
  refine q_get (ci := 0) (j := 0) (v := .ref qO1) C0 V i_NH rfl rfl hO0 (by decide) w_424 rfl d_1_3_1 ?_
  refine q_get (ci := 1) (j := 2) (v := .int 0) C0 V i_She rfl rfl hO1 (by decide) w_56 rfl d_1_3_4 ?_
  refine lv_istore_n (lv' := [(1, .int 0), (0, .ref qO0)]) hx hb d_1_3_7 rfl hl (by decide) rfl (fun ls hl => ?_)
  refine lv_aload_n hx hb d_1_3_8 rfl (lv_at hl 1 rfl) ?_
  refine q_get (ci := 0) (j := 0) (v := .ref qO1) C0 V i_NH rfl rfl hO0 (by decide) w_424 rfl d_1_3_9 ?_
  refine q_gov V (q_runV (As := []) (rest := []) (d := 1) (mc := 0) (ms := 0) (ci := 1) C0 V rfl LV_NH_115 (c_She_clear l D g ws 1 qO1 qA15 hO1 _) rfl rfl hO1 rfl hl.1 rfl (Nat.le_of_ble_eq_true rfl) ⟨by decide, by decide⟩ ⟨Nat.le_of_ble_eq_true rfl, Nat.le_of_ble_eq_true rfl⟩ d_1_3_12) (fun u2 H locs hp1 V => ?_)
  obtain ⟨hg3, hO1⟩ := hp1
  replace hF := q_uc hF hg3 (q_sc (.head _) (fun _ h => absurd h List.not_mem_nil))
  refine lv_iload_n hx hb d_1_3_15 rfl (lv_at hl 0 rfl) ?_
  exact q_reti C0 V (⟨rfl, hF, hO1⟩) d_1_3_16
set_option maxRecDepth 100000 in
set_option maxHeartbeats 4000000 in
theorem c_She_clear_2 (l : Launch) (D : va_G) (g : Nat → ClassId) (ws : va_W) (kO0 qO0 qA1 : Nat) (hO0 : ws[kO0]? = some (qO0, .inr (1, [.ref qA1, .int 11008, .int 0]))) : q_mV l y_She_clear prog_11_method_2_code 1 1 0 0 D g [.ref qO0] ws (fun u => q_un ws u [kO0] ∧ u[kO0]? = some (qO0, .inr (1, [.ref qA1, .int 11008, .int 0]))) := by
  intro sz
  refine q_into (by decide) (Nat.le_of_ble_eq_true rfl) ?_
  intro p e s m below meth c ls hsz C0 V hl
  have hx := C0.1
  have hb := C0.2.1
  have hl : lv_has ls 1 [(0, .ref qO0)] := hl
  have hF : q_un ws ws [kO0] := q_u0
  refine lv_aload_n hx hb d_11_2_0 rfl (lv_at hl 0 rfl) ?_
  refine lv_iconst (v := 0) hx hb d_11_2_1 (by decide) ?_
  refine q_put (ci := 1) (j := 2) (v := .int 0) (ty := .int) C0 V i_She o_She n_She rfl rfl hO0 (by decide) w_54 rfl rfl rfl rfl (Nat.le_of_ble_eq_true rfl) d_11_2_2 (fun H locs w1 hu2 hO0 V => ?_)
  replace hO0 : w1[kO0]? = some (qO0, .inr (1, [.ref qA1, .int 11008, .int 0])) := hO0
  replace hF := q_us hF hu2 (.head _)
  exact q_retv C0 V (⟨hF, hO0⟩) d_11_2_5
theorem d_9_5_0 : decode prog_9_method_5_code 0 = .ok (.aload_n 1, 1) := by decide +kernel
theorem d_9_5_1 : decode prog_9_method_5_code 1 = .ok (.invokevirtual 70, 3) := by decide +kernel
theorem w_1716 : (Cond.methodLink "NumberHouse$Printer" (70 : Nat) ({ cls := "NumberHouse$Sheet", name := "clear", desc := "()V" } : MethodName)) ∈ q_tbl := q_of 1716 (by decide +kernel) (by decide +kernel)
theorem LV_Pri_70 : q_LV "NumberHouse$Printer" 70 y_She_clear prog_11_method_2_code 1 none 0 := ⟨w_474, w_2, w_1716, w_472, w_473, ⟨by decide, by decide, by decide +kernel⟩⟩
theorem d_9_5_4 : decode prog_9_method_5_code 4 = .ok (.aload_n 0, 1) := by decide +kernel
theorem d_9_5_5 : decode prog_9_method_5_code 5 = .ok (.iconst 0, 1) := by decide +kernel
theorem d_9_5_6 : decode prog_9_method_5_code 6 = .ok (.putfield 84, 3) := by decide +kernel
theorem w_395 : (Cond.fieldLink "NumberHouse$Printer" (84 : Nat) "NumberHouse$Printer" "ordinary" "I") ∈ q_tbl := q_of 395 (by decide +kernel) (by decide +kernel)
theorem d_9_5_9 : decode prog_9_method_5_code 9 = .ok (.aload_n 0, 1) := by decide +kernel
theorem d_9_5_10 : decode prog_9_method_5_code 10 = .ok (.iconst (-1), 1) := by decide +kernel
theorem d_9_5_11 : decode prog_9_method_5_code 11 = .ok (.putfield 87, 3) := by decide +kernel
theorem w_396 : (Cond.fieldLink "NumberHouse$Printer" (87 : Nat) "NumberHouse$Printer" "last" "I") ∈ q_tbl := q_of 396 (by decide +kernel) (by decide +kernel)
theorem d_9_5_14 : decode prog_9_method_5_code 14 = .ok (.iconst 0, 1) := by decide +kernel
theorem d_9_5_15 : decode prog_9_method_5_code 15 = .ok (.istore_n 2, 1) := by decide +kernel
theorem d_9_5_16 : decode prog_9_method_5_code 16 = .ok (.iconst 0, 1) := by decide +kernel
theorem d_9_5_17 : decode prog_9_method_5_code 17 = .ok (.istore_n 3, 1) := by decide +kernel
theorem d_9_5_18 : decode prog_9_method_5_code 18 = .ok (.iload_n 3, 1) := by decide +kernel
theorem d_9_5_19 : decode prog_9_method_5_code 19 = .ok (.sipush 256, 3) := by decide +kernel
theorem d_9_5_22 : decode prog_9_method_5_code 22 = .ok (.if_icmp .gt 175, 3) := by decide +kernel
theorem d_9_5_25 : decode prog_9_method_5_code 25 = .ok (.iload_n 2, 1) := by decide +kernel
theorem d_9_5_26 : decode prog_9_method_5_code 26 = .ok (.aload_n 0, 1) := by decide +kernel
theorem d_9_5_27 : decode prog_9_method_5_code 27 = .ok (.getfield 35, 3) := by decide +kernel
theorem d_9_5_30 : decode prog_9_method_5_code 30 = .ok (.getfield 73, 3) := by decide +kernel
theorem w_58 : (Cond.fieldLink "NumberHouse$Printer" (73 : Nat) "NumberHouse$Sheet" "size" "I") ∈ q_tbl := q_of 58 (by decide +kernel) (by decide +kernel)
theorem d_9_5_33 : decode prog_9_method_5_code 33 = .ok (.if_icmp .ge 164, 3) := by decide +kernel
theorem d_9_5_197 : decode prog_9_method_5_code 197 = .ok (.aload_n 1, 1) := by decide +kernel
theorem d_9_5_198 : decode prog_9_method_5_code 198 = .ok (.getfield 73, 3) := by decide +kernel
theorem d_9_5_201 : decode prog_9_method_5_code 201 = .ok (.ireturn, 1) := by decide +kernel
def y_Pri_run : MethodName := ⟨"NumberHouse$Printer", "run", "(LNumberHouse$Sheet;)I"⟩
set_option maxRecDepth 100000 in
set_option maxHeartbeats 4000000 in
theorem c_Pri_run (l : Launch) (D : va_G) (g : Nat → ClassId) (ws : va_W) (kO0 kO1 kO6 qO0 qO1 qA2 qA3 qA4 qA5 qO6 qO7 qO8 qO9 qA10 qA11 : Nat) (hO0 : ws[kO0]? = some (qO0, .inr (11, [.int 0, .ref qA2, .ref qA3, .ref qA4, .ref qA5, .ref qO6, .ref qO7, .ref qO8, .ref qO9, .int 0, .int 0, .int 0]))) (hO1 : ws[kO1]? = some (qO1, .inr (1, [.ref qA10, .int 11008, .int 0]))) (hO6 : ws[kO6]? = some (qO6, .inr (1, [.ref qA11, .int 4100, .int 0]))) (n_O6_O1 : kO6 ≠ kO1) : q_mI l y_Pri_run prog_9_method_5_code 6 (.int) 2 0 0 D g [.ref qO0, .ref qO1] ws (fun r u => 0 = r ∧ q_un ws u [kO0, kO1] ∧ u[kO0]? = some (qO0, .inr (11, [.int 0, .ref qA2, .ref qA3, .ref qA4, .ref qA5, .ref qO6, .ref qO7, .ref qO8, .ref qO9, .int 0, .int 0, .int (-1)])) ∧ u[kO1]? = some (qO1, .inr (1, [.ref qA10, .int 11008, .int 0]))) := by
  intro sz
  refine q_into (by decide) (Nat.le_of_ble_eq_true rfl) ?_
  intro p e s m below meth c ls hsz C0 V hl
  have hx := C0.1
  have hb := C0.2.1
  have hl : lv_has ls 6 [(0, .ref qO0), (1, .ref qO1)] := hl
  have n_O0_O1 := q_dc hO0 hO1 (q_pd 11 1 rfl)
  have n_O1_O0 := q_dc hO1 hO0 (q_pd 1 11 rfl)
  have n_O6_O0 := q_dc hO6 hO0 (q_pd 1 11 rfl)
  have hF : q_un ws ws [kO0, kO1] := q_u0
  refine lv_aload_n hx hb d_9_5_0 rfl (lv_at hl 1 rfl) ?_
  refine q_gov V (q_runV (As := []) (rest := []) (d := 1) (mc := 0) (ms := 0) (ci := 1) C0 V rfl LV_Pri_70 (c_She_clear_2 l D g ws kO1 qO1 qA10 hO1 _) rfl rfl hO1 rfl hl.1 rfl (Nat.le_of_ble_eq_true rfl) ⟨by decide, by decide⟩ ⟨Nat.le_of_ble_eq_true rfl, Nat.le_of_ble_eq_true rfl⟩ d_9_5_1) (fun u2 H locs hp1 V => ?_)
  obtain ⟨hg3, hO1⟩ := hp1
  replace hF := q_uc hF hg3 (q_sc (.tail _ (.head _)) (fun _ h => absurd h List.not_mem_nil))
  refine lv_aload_n hx hb d_9_5_4 rfl (lv_at hl 0 rfl) ?_
  refine lv_iconst (v := 0) hx hb d_9_5_5 (by decide) ?_
  replace hO0 := (hg3 _ (q_nc n_O0_O1 List.not_mem_nil)).trans (hO0)
  refine q_put (ci := 11) (j := 10) (v := .int 0) (ty := .int) C0 V i_Pri o_Pri n_Pri rfl rfl hO0 (by decide) w_395 rfl rfl rfl rfl (Nat.le_of_ble_eq_true rfl) d_9_5_6 (fun H locs w4 hu5 hO0 V => ?_)
  replace hO0 : w4[kO0]? = some (qO0, .inr (11, [.int 0, .ref qA2, .ref qA3, .ref qA4, .ref qA5, .ref qO6, .ref qO7, .ref qO8, .ref qO9, .int 0, .int 0, .int 0])) := hO0
  replace hF := q_us hF hu5 (.head _)
  refine lv_aload_n hx hb d_9_5_9 rfl (lv_at hl 0 rfl) ?_
  refine lv_iconst (v := (-1)) hx hb d_9_5_10 (by decide) ?_
  refine q_put (ci := 11) (j := 11) (v := .int (-1)) (ty := .int) C0 V i_Pri o_Pri n_Pri rfl rfl hO0 (by decide) w_396 rfl rfl rfl rfl (Nat.le_of_ble_eq_true rfl) d_9_5_11 (fun H locs w6 hu7 hO0 V => ?_)
  replace hO0 : w6[kO0]? = some (qO0, .inr (11, [.int 0, .ref qA2, .ref qA3, .ref qA4, .ref qA5, .ref qO6, .ref qO7, .ref qO8, .ref qO9, .int 0, .int 0, .int (-1)])) := hO0
  replace hF := q_us hF hu7 (.head _)
  refine lv_iconst (v := 0) hx hb d_9_5_14 (by decide) ?_
  refine lv_istore_n (lv' := [(2, .int 0), (0, .ref qO0), (1, .ref qO1)]) hx hb d_9_5_15 rfl hl (by decide) rfl (fun ls hl => ?_)
  refine lv_iconst (v := 0) hx hb d_9_5_16 (by decide) ?_
  refine lv_istore_n (lv' := [(3, .int 0), (2, .int 0), (0, .ref qO0), (1, .ref qO1)]) hx hb d_9_5_17 rfl hl (by decide) rfl (fun ls hl => ?_)
  refine lv_iload_n hx hb d_9_5_18 rfl (lv_at hl 0 rfl) ?_
  refine lv_sipush (v := 256) hx hb d_9_5_19 (by decide) ?_
  refine lv_icmp_gt (tgt := 197) hx hb d_9_5_22 (by decide) (fun c8 => absurd c8 (by decide)) (fun c8 => ?_)
  refine lv_iload_n hx hb d_9_5_25 rfl (lv_at hl 1 rfl) ?_
  refine lv_aload_n hx hb d_9_5_26 rfl (lv_at hl 2 rfl) ?_
  refine q_get (ci := 11) (j := 5) (v := .ref qO6) C0 V i_Pri rfl rfl hO0 (by decide) w_390 rfl d_9_5_27 ?_
  replace hO6 := (hu7 _ n_O6_O0).trans ((hu5 _ n_O6_O0).trans ((hg3 _ (q_nc n_O6_O1 List.not_mem_nil)).trans (hO6)))
  refine q_get (ci := 1) (j := 2) (v := .int 0) C0 V i_She rfl rfl hO6 (by decide) w_58 rfl d_9_5_30 ?_
  refine lv_icmp_ge (tgt := 197) hx hb d_9_5_33 (by decide) (fun c9 => ?_) (fun c9 => absurd (by decide) c9)
  refine lv_aload_n hx hb d_9_5_197 rfl (lv_at hl 3 rfl) ?_
  replace hO1 := (hu7 _ n_O1_O0).trans ((hu5 _ n_O1_O0).trans (hO1))
  refine q_get (ci := 1) (j := 2) (v := .int 0) C0 V i_She rfl rfl hO1 (by decide) w_58 rfl d_9_5_198 ?_
  exact q_reti C0 V (⟨rfl, hF, hO0, hO1⟩) d_9_5_201
theorem d_1_20_0 : decode prog_1_method_20_code 0 = .ok (.aload_n 0, 1) := by decide +kernel
theorem d_1_20_1 : decode prog_1_method_20_code 1 = .ok (.getfield 14, 3) := by decide +kernel
theorem d_1_20_4 : decode prog_1_method_20_code 4 = .ok (.getfield 108, 3) := by decide +kernel
theorem d_1_20_7 : decode prog_1_method_20_code 7 = .ok (.sipush 256, 3) := by decide +kernel
theorem d_1_20_10 : decode prog_1_method_20_code 10 = .ok (.if_icmp .le 14, 3) := by decide +kernel
theorem d_1_20_24 : decode prog_1_method_20_code 24 = .ok (.aload_n 0, 1) := by decide +kernel
theorem d_1_20_25 : decode prog_1_method_20_code 25 = .ok (.getfield 98, 3) := by decide +kernel
theorem d_1_20_28 : decode prog_1_method_20_code 28 = .ok (.aload_n 0, 1) := by decide +kernel
theorem d_1_20_29 : decode prog_1_method_20_code 29 = .ok (.getfield 18, 3) := by decide +kernel
theorem d_1_20_32 : decode prog_1_method_20_code 32 = .ok (.invokevirtual 362, 3) := by decide +kernel
theorem w_1734 : (Cond.code ({ cls := "NumberHouse$Printer", name := "run", desc := "(LNumberHouse$Sheet;)I" } : MethodName) prog_9_method_5_code (6 : Nat) (some .int)) ∈ q_tbl := q_of 1734 (by decide +kernel) (by decide +kernel)
theorem w_1731 : (Cond.methodLink "NumberHouse" (362 : Nat) ({ cls := "NumberHouse$Printer", name := "run", desc := "(LNumberHouse$Sheet;)I" } : MethodName)) ∈ q_tbl := q_of 1731 (by decide +kernel) (by decide +kernel)
theorem w_1732 : (Cond.instanceMethod ({ cls := "NumberHouse$Printer", name := "run", desc := "(LNumberHouse$Sheet;)I" } : MethodName)) ∈ q_tbl := q_of 1732 (by decide +kernel) (by decide +kernel)
theorem w_1733 : (Cond.selects "NumberHouse$Printer" ({ cls := "NumberHouse$Printer", name := "run", desc := "(LNumberHouse$Sheet;)I" } : MethodName) ({ cls := "NumberHouse$Printer", name := "run", desc := "(LNumberHouse$Sheet;)I" } : MethodName)) ∈ q_tbl := q_of 1733 (by decide +kernel) (by decide +kernel)
theorem LV_NH_362 : q_LV "NumberHouse" 362 y_Pri_run prog_9_method_5_code 6 (some .int) 1 := ⟨w_1734, w_12, w_1731, w_1732, w_1733, ⟨by decide, by decide, by decide +kernel⟩⟩
theorem d_1_20_35 : decode prog_1_method_20_code 35 = .ok (.istore_n 1, 1) := by decide +kernel
theorem d_1_20_36 : decode prog_1_method_20_code 36 = .ok (.iload_n 1, 1) := by decide +kernel
theorem d_1_20_37 : decode prog_1_method_20_code 37 = .ok (.ifCond .lt 10, 3) := by decide +kernel
theorem d_1_20_40 : decode prog_1_method_20_code 40 = .ok (.aload_n 0, 1) := by decide +kernel
theorem d_1_20_41 : decode prog_1_method_20_code 41 = .ok (.getfield 14, 3) := by decide +kernel
theorem d_1_20_44 : decode prog_1_method_20_code 44 = .ok (.invokevirtual 115, 3) := by decide +kernel
theorem d_1_20_47 : decode prog_1_method_20_code 47 = .ok (.iload_n 1, 1) := by decide +kernel
theorem d_1_20_48 : decode prog_1_method_20_code 48 = .ok (.ireturn, 1) := by decide +kernel
def y_NH_format : MethodName := ⟨"NumberHouse", "format", "()I"⟩
set_option maxRecDepth 100000 in
set_option maxHeartbeats 4000000 in
/-- format() on a fresh object -/
theorem c_NH_format (l : Launch) (D : va_G) (g : Nat → ClassId) (ws : va_W) ( qO0 qO1 qO2 qA3 qA4 qA5 qA6 qO7 qO8 qO9 qO10 qO11 qO12 qO13 qO14 qA15 qA16 qA29 qA30 qA31 qA32 qO33 qO34 : Nat) (hO0 : ws[0]? = some (qO0, .inr (0, [.ref qO1, .ref qO2, .ref qA3, .ref qA4, .ref qA5, .ref qA6, .ref qO7, .ref qO8, .ref qO9, .ref qO10, .ref qO11, .ref qO12, .ref qO13, .ref qO14]))) (hO1 : ws[1]? = some (qO1, .inr (1, [.ref qA15, .int 4100, .int 0]))) (hO2 : ws[3]? = some (qO2, .inr (1, [.ref qA16, .int 11008, .int 0]))) (hO14 : ws[40]? = some (qO14, .inr (11, [.int 0, .ref qA29, .ref qA30, .ref qA31, .ref qA32, .ref qO1, .ref qO33, .ref qO11, .ref qO34, .int 0, .int 0, .int 0]))) : q_mI l y_NH_format prog_1_method_20_code 2 (.int) 3 0 0 D g [.ref qO0] ws (fun r u => 0 = r ∧ q_un ws u [1, 3, 40] ∧ u[1]? = some (qO1, .inr (1, [.ref qA15, .int 4100, .int 0])) ∧ u[3]? = some (qO2, .inr (1, [.ref qA16, .int 11008, .int 0])) ∧ u[40]? = some (qO14, .inr (11, [.int 0, .ref qA29, .ref qA30, .ref qA31, .ref qA32, .ref qO1, .ref qO33, .ref qO11, .ref qO34, .int 0, .int 0, .int (-1)]))) := by
  intro sz
  refine q_into (by decide) (Nat.le_of_ble_eq_true rfl) ?_
  intro p e s m below meth c ls hsz C0 V hl
  have hx := C0.1
  have hb := C0.2.1
  have hl : lv_has ls 2 [(0, .ref qO0)] := hl
  have hF : q_un ws ws [1, 3, 40] := q_u0
  refine lv_aload_n hx hb d_1_20_0 rfl (lv_at hl 0 rfl) ?_
  refine q_get (ci := 0) (j := 0) (v := .ref qO1) C0 V i_NH rfl rfl hO0 (by decide) w_424 rfl d_1_20_1 ?_
  refine q_get (ci := 1) (j := 2) (v := .int 0) C0 V i_She rfl rfl hO1 (by decide) w_56 rfl d_1_20_4 ?_
  refine lv_sipush (v := 256) hx hb d_1_20_7 (by decide) ?_
  refine lv_icmp_le (tgt := 24) hx hb d_1_20_10 (by decide) (fun c1 => ?_) (fun c1 => absurd (by decide) c1)
  refine lv_aload_n hx hb d_1_20_24 rfl (lv_at hl 0 rfl) ?_
  refine q_get (ci := 0) (j := 13) (v := .ref qO14) C0 V i_NH rfl rfl hO0 (by decide) w_437 rfl d_1_20_25 ?_
  refine lv_aload_n hx hb d_1_20_28 rfl (lv_at hl 0 rfl) ?_
  refine q_get (ci := 0) (j := 1) (v := .ref qO2) C0 V i_NH rfl rfl hO0 (by decide) w_425 rfl d_1_20_29 ?_
  refine q_goi V (q_runV (As := [.ref qO2]) (rest := []) (d := 2) (mc := 0) (ms := 0) (ci := 11) C0 V rfl LV_NH_362 (c_Pri_run l D g ws 40 3 1 qO14 qO2 qA29 qA30 qA31 qA32 qO1 qO33 qO11 qO34 qA16 qA15 hO14 hO2 hO1 (q_pd 1 3 rfl) _) rfl rfl hO14 rfl hl.1 rfl (Nat.le_of_ble_eq_true rfl) ⟨by decide, by decide⟩ ⟨Nat.le_of_ble_eq_true rfl, Nat.le_of_ble_eq_true rfl⟩ d_1_20_32) (fun v4 u3 H locs hp2 V => ?_)
  obtain ⟨rfl, hg5, hO14, hO2⟩ := hp2
  replace hF := q_uc hF hg5 (q_sc (.tail _ (.tail _ (.head _))) (q_sc (.tail _ (.head _)) (fun _ h => absurd h List.not_mem_nil)))
  refine lv_istore_n (lv' := [(1, .int 0), (0, .ref qO0)]) hx hb d_1_20_35 rfl hl (by decide) rfl (fun ls hl => ?_)
  refine lv_iload_n hx hb d_1_20_36 rfl (lv_at hl 0 rfl) ?_
  refine lv_if_lt (tgt := 47) hx hb d_1_20_37 (by decide) (fun c6 => absurd c6 (by decide)) (fun c6 => ?_)
  refine lv_aload_n hx hb d_1_20_40 rfl (lv_at hl 1 rfl) ?_
  replace hO0 := (hg5 _ (q_nc (q_pd 0 40 rfl) (q_nc (q_pd 0 3 rfl) List.not_mem_nil))).trans (hO0)
  refine q_get (ci := 0) (j := 0) (v := .ref qO1) C0 V i_NH rfl rfl hO0 (by decide) w_424 rfl d_1_20_41 ?_
  replace hO1 := (hg5 _ (q_nc (q_pd 1 40 rfl) (q_nc (q_pd 1 3 rfl) List.not_mem_nil))).trans (hO1)
  refine q_gov V (q_runV (As := []) (rest := []) (d := 1) (mc := 0) (ms := 0) (ci := 1) C0 V rfl LV_NH_115 (c_She_clear l D g u3 1 qO1 qA15 hO1 _) rfl rfl hO1 rfl hl.1 rfl (Nat.le_of_ble_eq_true rfl) ⟨by decide, by decide⟩ ⟨Nat.le_of_ble_eq_true rfl, Nat.le_of_ble_eq_true rfl⟩ d_1_20_44) (fun u8 H locs hp7 V => ?_)
  obtain ⟨hg9, hO1⟩ := hp7
  replace hF := q_uc hF hg9 (q_sc (.head _) (fun _ h => absurd h List.not_mem_nil))
  refine lv_iload_n hx hb d_1_20_47 rfl (lv_at hl 0 rfl) ?_
  replace hO2 := (hg9 _ (q_nc (q_pd 3 1 rfl) List.not_mem_nil)).trans (hO2)
  replace hO14 := (hg9 _ (q_nc (q_pd 40 1 rfl) List.not_mem_nil)).trans (hO14)
  exact q_reti C0 V (⟨rfl, hF, hO1, hO2, hO14⟩) d_1_20_48
theorem d_11_8_0 : decode prog_11_method_8_code 0 = .ok (.lload_n 1, 1) := by decide +kernel
theorem d_11_8_1 : decode prog_11_method_8_code 1 = .ok (.lconst 0, 1) := by decide +kernel
theorem d_11_8_2 : decode prog_11_method_8_code 2 = .ok (.lcmp, 1) := by decide +kernel
theorem d_11_8_3 : decode prog_11_method_8_code 3 = .ok (.ifCond .lt 23, 3) := by decide +kernel
theorem d_11_8_26 : decode prog_11_method_8_code 26 = .ok (.iconst 0, 1) := by decide +kernel
theorem d_11_8_27 : decode prog_11_method_8_code 27 = .ok (.ireturn, 1) := by decide +kernel
theorem d_11_8_6 : decode prog_11_method_8_code 6 = .ok (.lload_n 1, 1) := by decide +kernel
theorem d_11_8_7 : decode prog_11_method_8_code 7 = .ok (.aload_n 0, 1) := by decide +kernel
theorem d_11_8_8 : decode prog_11_method_8_code 8 = .ok (.getfield 17, 3) := by decide +kernel
theorem d_11_8_11 : decode prog_11_method_8_code 11 = .ok (.i2l, 1) := by decide +kernel
theorem d_11_8_12 : decode prog_11_method_8_code 12 = .ok (.lcmp, 1) := by decide +kernel
theorem d_11_8_13 : decode prog_11_method_8_code 13 = .ok (.ifCond .ge 13, 3) := by decide +kernel
def y_She_at : MethodName := ⟨"NumberHouse$Sheet", "at", "(J)I"⟩
set_option maxRecDepth 100000 in
set_option maxHeartbeats 4000000 in
theorem c_She_at (l : Launch) (D : va_G) (g : Nat → ClassId) (ws : va_W) (kO0 qO0 qA1 : Nat) (x1 : Int64) (hO0 : ws[kO0]? = some (qO0, .inr (1, [.ref qA1, .int 11008, .int 0]))) : q_mI l y_She_at prog_11_method_8_code 3 (.int) 1 0 0 D g [.ref qO0, .long x1] ws (fun r u => 0 = r ∧ ws = u) := by
  intro sz
  refine q_into (by decide) (Nat.le_of_ble_eq_true rfl) ?_
  intro p e s m below meth c ls hsz C0 V hl
  have hx := C0.1
  have hb := C0.2.1
  have hl : lv_has ls 3 [(0, .ref qO0), (1, .long x1)] := hl
  refine lv_lload_n hx hb d_11_8_0 rfl (lv_at hl 1 rfl) ?_
  refine lv_lconst (v := 0) hx hb d_11_8_1 (by decide) ?_
  refine W.lcmp hx hb d_11_8_2 ?_
  refine lv_if_lt (tgt := 26) hx hb d_11_8_3 (by decide) (fun c1 => ?_) (fun c1 => ?_)
  ·
    refine lv_iconst (v := 0) hx hb d_11_8_26 (by decide) ?_
    exact q_reti C0 V (⟨rfl, rfl⟩) d_11_8_27
  ·
    refine lv_lload_n hx hb d_11_8_6 rfl (lv_at hl 1 rfl) ?_
    refine lv_aload_n hx hb d_11_8_7 rfl (lv_at hl 0 rfl) ?_
    refine q_get (ci := 1) (j := 2) (v := .int 0) C0 V i_She rfl rfl hO0 (by decide) w_54 rfl d_11_8_8 ?_
    refine lv_i2l hx hb d_11_8_11 rfl ?_
    refine q_tl (v := 0) (by decide) ?_
    refine W.lcmp hx hb d_11_8_12 ?_
    refine lv_if_ge (tgt := 26) hx hb d_11_8_13 (by decide) (fun c2 => ?_) (fun c2 => absurd (Int32.not_lt.mp c1) c2)
    refine lv_iconst (v := 0) hx hb d_11_8_26 (by decide) ?_
    exact q_reti C0 V (⟨rfl, rfl⟩) d_11_8_27
theorem d_1_21_0 : decode prog_1_method_21_code 0 = .ok (.lconst 0, 1) := by decide +kernel
theorem d_1_21_1 : decode prog_1_method_21_code 1 = .ok (.lstore_n 2, 1) := by decide +kernel
theorem d_1_21_2 : decode prog_1_method_21_code 2 = .ok (.iconst 0, 1) := by decide +kernel
theorem d_1_21_3 : decode prog_1_method_21_code 3 = .ok (.istore 4, 2) := by decide +kernel
theorem d_1_21_5 : decode prog_1_method_21_code 5 = .ok (.iload 4, 2) := by decide +kernel
theorem d_1_21_7 : decode prog_1_method_21_code 7 = .ok (.bipush 8, 2) := by decide +kernel
theorem d_1_21_9 : decode prog_1_method_21_code 9 = .ok (.if_icmp .ge 32, 3) := by decide +kernel
theorem d_1_21_12 : decode prog_1_method_21_code 12 = .ok (.lload_n 2, 1) := by decide +kernel
theorem d_1_21_13 : decode prog_1_method_21_code 13 = .ok (.aload_n 0, 1) := by decide +kernel
theorem d_1_21_14 : decode prog_1_method_21_code 14 = .ok (.getfield 18, 3) := by decide +kernel
theorem d_1_21_17 : decode prog_1_method_21_code 17 = .ok (.iload_n 1, 1) := by decide +kernel
theorem d_1_21_18 : decode prog_1_method_21_code 18 = .ok (.i2l, 1) := by decide +kernel
theorem d_1_21_19 : decode prog_1_method_21_code 19 = .ok (.iload 4, 2) := by decide +kernel
theorem d_1_21_21 : decode prog_1_method_21_code 21 = .ok (.i2l, 1) := by decide +kernel
theorem d_1_21_22 : decode prog_1_method_21_code 22 = .ok (.ladd, 1) := by decide +kernel
theorem d_1_21_23 : decode prog_1_method_21_code 23 = .ok (.invokevirtual 366, 3) := by decide +kernel
theorem w_482 : (Cond.code ({ cls := "NumberHouse$Sheet", name := "at", desc := "(J)I" } : MethodName) prog_11_method_8_code (3 : Nat) (some .int)) ∈ q_tbl := q_of 482 (by decide +kernel) (by decide +kernel)
theorem w_479 : (Cond.methodLink "NumberHouse" (366 : Nat) ({ cls := "NumberHouse$Sheet", name := "at", desc := "(J)I" } : MethodName)) ∈ q_tbl := q_of 479 (by decide +kernel) (by decide +kernel)
theorem w_480 : (Cond.instanceMethod ({ cls := "NumberHouse$Sheet", name := "at", desc := "(J)I" } : MethodName)) ∈ q_tbl := q_of 480 (by decide +kernel) (by decide +kernel)
theorem w_481 : (Cond.selects "NumberHouse$Sheet" ({ cls := "NumberHouse$Sheet", name := "at", desc := "(J)I" } : MethodName) ({ cls := "NumberHouse$Sheet", name := "at", desc := "(J)I" } : MethodName)) ∈ q_tbl := q_of 481 (by decide +kernel) (by decide +kernel)
theorem LV_NH_366 : q_LV "NumberHouse" 366 y_She_at prog_11_method_8_code 3 (some .int) 1 := ⟨w_482, w_2, w_479, w_480, w_481, ⟨by decide, by decide, by decide +kernel⟩⟩
theorem d_1_21_26 : decode prog_1_method_21_code 26 = .ok (.i2l, 1) := by decide +kernel
theorem d_1_21_27 : decode prog_1_method_21_code 27 = .ok (.bipush 8, 2) := by decide +kernel
theorem d_1_21_29 : decode prog_1_method_21_code 29 = .ok (.iload 4, 2) := by decide +kernel
theorem d_1_21_31 : decode prog_1_method_21_code 31 = .ok (.imul, 1) := by decide +kernel
theorem d_1_21_32 : decode prog_1_method_21_code 32 = .ok (.lshl, 1) := by decide +kernel
theorem d_1_21_33 : decode prog_1_method_21_code 33 = .ok (.lor, 1) := by decide +kernel
theorem d_1_21_34 : decode prog_1_method_21_code 34 = .ok (.lstore_n 2, 1) := by decide +kernel
theorem d_1_21_35 : decode prog_1_method_21_code 35 = .ok (.iinc 4 1, 3) := by decide +kernel
theorem d_1_21_38 : decode prog_1_method_21_code 38 = .ok (.goto (-33), 3) := by decide +kernel
theorem d_1_21_41 : decode prog_1_method_21_code 41 = .ok (.lload_n 2, 1) := by decide +kernel
theorem d_1_21_42 : decode prog_1_method_21_code 42 = .ok (.lreturn, 1) := by decide +kernel
def y_NH_paperAt : MethodName := ⟨"NumberHouse", "paperAt", "(I)J"⟩
set_option maxRecDepth 100000 in
set_option maxHeartbeats 4000000 in
/-- paperAt(i) on a fresh object -/
theorem c_NH_paperAt (l : Launch) (D : va_G) (g : Nat → ClassId) (ws : va_W) ( qO0 qO1 qO2 qA3 qA4 qA5 qA6 qO7 qO8 qO9 qO10 qO11 qO12 qO13 qO14 qA16 : Nat) (x1 : Int32) (hO0 : ws[0]? = some (qO0, .inr (0, [.ref qO1, .ref qO2, .ref qA3, .ref qA4, .ref qA5, .ref qA6, .ref qO7, .ref qO8, .ref qO9, .ref qO10, .ref qO11, .ref qO12, .ref qO13, .ref qO14]))) (hO2 : ws[3]? = some (qO2, .inr (1, [.ref qA16, .int 11008, .int 0]))) : q_mL l y_NH_paperAt prog_1_method_21_code 5 2 0 0 D g [.ref qO0, .int x1] ws (fun r u => 0 = r ∧ ws = u) := by
  intro sz
  refine q_into (by decide) (Nat.le_of_ble_eq_true rfl) ?_
  intro p e s m below meth c ls hsz C0 V hl
  have hx := C0.1
  have hb := C0.2.1
  have hl : lv_has ls 5 [(0, .ref qO0), (1, .int x1)] := hl
  refine lv_lconst (v := 0) hx hb d_1_21_0 (by decide) ?_
  refine lv_lstore_n (lv' := [(2, .long 0), (0, .ref qO0), (1, .int x1)]) hx hb d_1_21_1 rfl hl (by decide) rfl (fun ls hl => ?_)
  refine lv_iconst (v := 0) hx hb d_1_21_2 (by decide) ?_
  refine lv_istore (lv' := [(4, .int 0), (2, .long 0), (0, .ref qO0), (1, .int x1)]) hx hb d_1_21_3 hl (by decide) rfl (fun ls hl => ?_)
  refine lv_iload hx hb d_1_21_5 (lv_at hl 0 rfl) ?_
  refine lv_bipush (v := 8) hx hb d_1_21_7 (by decide) ?_
  refine lv_icmp_ge (tgt := 41) hx hb d_1_21_9 (by decide) (fun c1 => absurd c1 (by decide)) (fun c1 => ?_)
  refine lv_lload_n hx hb d_1_21_12 rfl (lv_at hl 1 rfl) ?_
  refine lv_aload_n hx hb d_1_21_13 rfl (lv_at hl 2 rfl) ?_
  refine q_get (ci := 0) (j := 1) (v := .ref qO2) C0 V i_NH rfl rfl hO0 (by decide) w_425 rfl d_1_21_14 ?_
  refine lv_iload_n hx hb d_1_21_17 rfl (lv_at hl 3 rfl) ?_
  refine lv_i2l hx hb d_1_21_18 rfl ?_
  refine lv_iload hx hb d_1_21_19 (lv_at hl 0 rfl) ?_
  refine lv_i2l hx hb d_1_21_21 rfl ?_
  refine q_tl (v := 0) (by decide) ?_
  refine lv_ladd hx hb d_1_21_22 ?_
  refine q_goi V (q_runV (As := [.long (x1.toInt64 + 0)]) (rest := [.long 0]) (d := 1) (mc := 0) (ms := 0) (ci := 1) C0 V rfl LV_NH_366 (c_She_at l D g ws 3 qO2 qA16 (x1.toInt64 + 0) hO2 _) rfl rfl hO2 rfl hl.1 rfl (Nat.le_of_ble_eq_true rfl) ⟨by decide, by decide⟩ ⟨Nat.le_of_ble_eq_true rfl, Nat.le_of_ble_eq_true rfl⟩ d_1_21_23) (fun v4 u3 H locs hp2 V => ?_)
  obtain ⟨rfl, rfl⟩ := hp2
  refine lv_i2l hx hb d_1_21_26 rfl ?_
  refine q_tl (v := 0) (by decide) ?_
  refine lv_bipush (v := 8) hx hb d_1_21_27 (by decide) ?_
  refine lv_iload hx hb d_1_21_29 (lv_at hl 0 rfl) ?_
  refine lv_imul hx hb d_1_21_31 ?_
  refine q_ti (v := 0) (by decide) ?_
  refine lv_lshl hx hb d_1_21_32 rfl ?_
  refine q_tl (v := 0) (by decide) ?_
  refine lv_lor hx hb d_1_21_33 ?_
  refine q_tl (v := 0) (by decide) ?_
  refine lv_lstore_n (lv' := [(2, .long 0), (4, .int 0), (0, .ref qO0), (1, .int x1)]) hx hb d_1_21_34 rfl hl (by decide) rfl (fun ls hl => ?_)
  refine lv_iinc (v := 1) (lv' := [(4, .int 1), (2, .long 0), (0, .ref qO0), (1, .int x1)]) hx hb d_1_21_35 hl (k := 1) rfl (by decide) (by decide) rfl (fun ls hl => ?_)
  refine lv_goto (tgt := 5) hx hb d_1_21_38 (by decide) ?_
  refine lv_iload hx hb d_1_21_5 (lv_at hl 0 rfl) ?_
  refine lv_bipush (v := 8) hx hb d_1_21_7 (by decide) ?_
  refine lv_icmp_ge (tgt := 41) hx hb d_1_21_9 (by decide) (fun c6 => absurd c6 (by decide)) (fun c6 => ?_)
  refine lv_lload_n hx hb d_1_21_12 rfl (lv_at hl 1 rfl) ?_
  refine lv_aload_n hx hb d_1_21_13 rfl (lv_at hl 2 rfl) ?_
  refine q_get (ci := 0) (j := 1) (v := .ref qO2) C0 V i_NH rfl rfl hO0 (by decide) w_425 rfl d_1_21_14 ?_
  refine lv_iload_n hx hb d_1_21_17 rfl (lv_at hl 3 rfl) ?_
  refine lv_i2l hx hb d_1_21_18 rfl ?_
  refine lv_iload hx hb d_1_21_19 (lv_at hl 0 rfl) ?_
  refine lv_i2l hx hb d_1_21_21 rfl ?_
  refine q_tl (v := 1) (by decide) ?_
  refine lv_ladd hx hb d_1_21_22 ?_
  refine q_goi V (q_runV (As := [.long (x1.toInt64 + 1)]) (rest := [.long 0]) (d := 1) (mc := 0) (ms := 0) (ci := 1) C0 V rfl LV_NH_366 (c_She_at l D g ws 3 qO2 qA16 (x1.toInt64 + 1) hO2 _) rfl rfl hO2 rfl hl.1 rfl (Nat.le_of_ble_eq_true rfl) ⟨by decide, by decide⟩ ⟨Nat.le_of_ble_eq_true rfl, Nat.le_of_ble_eq_true rfl⟩ d_1_21_23) (fun v9 u8 H locs hp7 V => ?_)
  obtain ⟨rfl, rfl⟩ := hp7
  refine lv_i2l hx hb d_1_21_26 rfl ?_
  refine q_tl (v := 0) (by decide) ?_
  refine lv_bipush (v := 8) hx hb d_1_21_27 (by decide) ?_
  refine lv_iload hx hb d_1_21_29 (lv_at hl 0 rfl) ?_
  refine lv_imul hx hb d_1_21_31 ?_
  refine q_ti (v := 8) (by decide) ?_
  refine lv_lshl hx hb d_1_21_32 rfl ?_
  refine q_tl (v := 0) (by decide) ?_
  refine lv_lor hx hb d_1_21_33 ?_
  refine q_tl (v := 0) (by decide) ?_
  refine lv_lstore_n (lv' := [(2, .long 0), (4, .int 1), (0, .ref qO0), (1, .int x1)]) hx hb d_1_21_34 rfl hl (by decide) rfl (fun ls hl => ?_)
  refine lv_iinc (v := 2) (lv' := [(4, .int 2), (2, .long 0), (0, .ref qO0), (1, .int x1)]) hx hb d_1_21_35 hl (k := 1) rfl (by decide) (by decide) rfl (fun ls hl => ?_)
  refine lv_goto (tgt := 5) hx hb d_1_21_38 (by decide) ?_
  refine lv_iload hx hb d_1_21_5 (lv_at hl 0 rfl) ?_
  refine lv_bipush (v := 8) hx hb d_1_21_7 (by decide) ?_
  refine lv_icmp_ge (tgt := 41) hx hb d_1_21_9 (by decide) (fun c11 => absurd c11 (by decide)) (fun c11 => ?_)
  refine lv_lload_n hx hb d_1_21_12 rfl (lv_at hl 1 rfl) ?_
  refine lv_aload_n hx hb d_1_21_13 rfl (lv_at hl 2 rfl) ?_
  refine q_get (ci := 0) (j := 1) (v := .ref qO2) C0 V i_NH rfl rfl hO0 (by decide) w_425 rfl d_1_21_14 ?_
  refine lv_iload_n hx hb d_1_21_17 rfl (lv_at hl 3 rfl) ?_
  refine lv_i2l hx hb d_1_21_18 rfl ?_
  refine lv_iload hx hb d_1_21_19 (lv_at hl 0 rfl) ?_
  refine lv_i2l hx hb d_1_21_21 rfl ?_
  refine q_tl (v := 2) (by decide) ?_
  refine lv_ladd hx hb d_1_21_22 ?_
  refine q_goi V (q_runV (As := [.long (x1.toInt64 + 2)]) (rest := [.long 0]) (d := 1) (mc := 0) (ms := 0) (ci := 1) C0 V rfl LV_NH_366 (c_She_at l D g ws 3 qO2 qA16 (x1.toInt64 + 2) hO2 _) rfl rfl hO2 rfl hl.1 rfl (Nat.le_of_ble_eq_true rfl) ⟨by decide, by decide⟩ ⟨Nat.le_of_ble_eq_true rfl, Nat.le_of_ble_eq_true rfl⟩ d_1_21_23) (fun v14 u13 H locs hp12 V => ?_)
  obtain ⟨rfl, rfl⟩ := hp12
  refine lv_i2l hx hb d_1_21_26 rfl ?_
  refine q_tl (v := 0) (by decide) ?_
  refine lv_bipush (v := 8) hx hb d_1_21_27 (by decide) ?_
  refine lv_iload hx hb d_1_21_29 (lv_at hl 0 rfl) ?_
  refine lv_imul hx hb d_1_21_31 ?_
  refine q_ti (v := 16) (by decide) ?_
  refine lv_lshl hx hb d_1_21_32 rfl ?_
  refine q_tl (v := 0) (by decide) ?_
  refine lv_lor hx hb d_1_21_33 ?_
  refine q_tl (v := 0) (by decide) ?_
  refine lv_lstore_n (lv' := [(2, .long 0), (4, .int 2), (0, .ref qO0), (1, .int x1)]) hx hb d_1_21_34 rfl hl (by decide) rfl (fun ls hl => ?_)
  refine lv_iinc (v := 3) (lv' := [(4, .int 3), (2, .long 0), (0, .ref qO0), (1, .int x1)]) hx hb d_1_21_35 hl (k := 1) rfl (by decide) (by decide) rfl (fun ls hl => ?_)
  refine lv_goto (tgt := 5) hx hb d_1_21_38 (by decide) ?_
  refine lv_iload hx hb d_1_21_5 (lv_at hl 0 rfl) ?_
  refine lv_bipush (v := 8) hx hb d_1_21_7 (by decide) ?_
  refine lv_icmp_ge (tgt := 41) hx hb d_1_21_9 (by decide) (fun c16 => absurd c16 (by decide)) (fun c16 => ?_)
  refine lv_lload_n hx hb d_1_21_12 rfl (lv_at hl 1 rfl) ?_
  refine lv_aload_n hx hb d_1_21_13 rfl (lv_at hl 2 rfl) ?_
  refine q_get (ci := 0) (j := 1) (v := .ref qO2) C0 V i_NH rfl rfl hO0 (by decide) w_425 rfl d_1_21_14 ?_
  refine lv_iload_n hx hb d_1_21_17 rfl (lv_at hl 3 rfl) ?_
  refine lv_i2l hx hb d_1_21_18 rfl ?_
  refine lv_iload hx hb d_1_21_19 (lv_at hl 0 rfl) ?_
  refine lv_i2l hx hb d_1_21_21 rfl ?_
  refine q_tl (v := 3) (by decide) ?_
  refine lv_ladd hx hb d_1_21_22 ?_
  refine q_goi V (q_runV (As := [.long (x1.toInt64 + 3)]) (rest := [.long 0]) (d := 1) (mc := 0) (ms := 0) (ci := 1) C0 V rfl LV_NH_366 (c_She_at l D g ws 3 qO2 qA16 (x1.toInt64 + 3) hO2 _) rfl rfl hO2 rfl hl.1 rfl (Nat.le_of_ble_eq_true rfl) ⟨by decide, by decide⟩ ⟨Nat.le_of_ble_eq_true rfl, Nat.le_of_ble_eq_true rfl⟩ d_1_21_23) (fun v19 u18 H locs hp17 V => ?_)
  obtain ⟨rfl, rfl⟩ := hp17
  refine lv_i2l hx hb d_1_21_26 rfl ?_
  refine q_tl (v := 0) (by decide) ?_
  refine lv_bipush (v := 8) hx hb d_1_21_27 (by decide) ?_
  refine lv_iload hx hb d_1_21_29 (lv_at hl 0 rfl) ?_
  refine lv_imul hx hb d_1_21_31 ?_
  refine q_ti (v := 24) (by decide) ?_
  refine lv_lshl hx hb d_1_21_32 rfl ?_
  refine q_tl (v := 0) (by decide) ?_
  refine lv_lor hx hb d_1_21_33 ?_
  refine q_tl (v := 0) (by decide) ?_
  refine lv_lstore_n (lv' := [(2, .long 0), (4, .int 3), (0, .ref qO0), (1, .int x1)]) hx hb d_1_21_34 rfl hl (by decide) rfl (fun ls hl => ?_)
  refine lv_iinc (v := 4) (lv' := [(4, .int 4), (2, .long 0), (0, .ref qO0), (1, .int x1)]) hx hb d_1_21_35 hl (k := 1) rfl (by decide) (by decide) rfl (fun ls hl => ?_)
  refine lv_goto (tgt := 5) hx hb d_1_21_38 (by decide) ?_
  refine lv_iload hx hb d_1_21_5 (lv_at hl 0 rfl) ?_
  refine lv_bipush (v := 8) hx hb d_1_21_7 (by decide) ?_
  refine lv_icmp_ge (tgt := 41) hx hb d_1_21_9 (by decide) (fun c21 => absurd c21 (by decide)) (fun c21 => ?_)
  refine lv_lload_n hx hb d_1_21_12 rfl (lv_at hl 1 rfl) ?_
  refine lv_aload_n hx hb d_1_21_13 rfl (lv_at hl 2 rfl) ?_
  refine q_get (ci := 0) (j := 1) (v := .ref qO2) C0 V i_NH rfl rfl hO0 (by decide) w_425 rfl d_1_21_14 ?_
  refine lv_iload_n hx hb d_1_21_17 rfl (lv_at hl 3 rfl) ?_
  refine lv_i2l hx hb d_1_21_18 rfl ?_
  refine lv_iload hx hb d_1_21_19 (lv_at hl 0 rfl) ?_
  refine lv_i2l hx hb d_1_21_21 rfl ?_
  refine q_tl (v := 4) (by decide) ?_
  refine lv_ladd hx hb d_1_21_22 ?_
  refine q_goi V (q_runV (As := [.long (x1.toInt64 + 4)]) (rest := [.long 0]) (d := 1) (mc := 0) (ms := 0) (ci := 1) C0 V rfl LV_NH_366 (c_She_at l D g ws 3 qO2 qA16 (x1.toInt64 + 4) hO2 _) rfl rfl hO2 rfl hl.1 rfl (Nat.le_of_ble_eq_true rfl) ⟨by decide, by decide⟩ ⟨Nat.le_of_ble_eq_true rfl, Nat.le_of_ble_eq_true rfl⟩ d_1_21_23) (fun v24 u23 H locs hp22 V => ?_)
  obtain ⟨rfl, rfl⟩ := hp22
  refine lv_i2l hx hb d_1_21_26 rfl ?_
  refine q_tl (v := 0) (by decide) ?_
  refine lv_bipush (v := 8) hx hb d_1_21_27 (by decide) ?_
  refine lv_iload hx hb d_1_21_29 (lv_at hl 0 rfl) ?_
  refine lv_imul hx hb d_1_21_31 ?_
  refine q_ti (v := 32) (by decide) ?_
  refine lv_lshl hx hb d_1_21_32 rfl ?_
  refine q_tl (v := 0) (by decide) ?_
  refine lv_lor hx hb d_1_21_33 ?_
  refine q_tl (v := 0) (by decide) ?_
  refine lv_lstore_n (lv' := [(2, .long 0), (4, .int 4), (0, .ref qO0), (1, .int x1)]) hx hb d_1_21_34 rfl hl (by decide) rfl (fun ls hl => ?_)
  refine lv_iinc (v := 5) (lv' := [(4, .int 5), (2, .long 0), (0, .ref qO0), (1, .int x1)]) hx hb d_1_21_35 hl (k := 1) rfl (by decide) (by decide) rfl (fun ls hl => ?_)
  refine lv_goto (tgt := 5) hx hb d_1_21_38 (by decide) ?_
  refine lv_iload hx hb d_1_21_5 (lv_at hl 0 rfl) ?_
  refine lv_bipush (v := 8) hx hb d_1_21_7 (by decide) ?_
  refine lv_icmp_ge (tgt := 41) hx hb d_1_21_9 (by decide) (fun c26 => absurd c26 (by decide)) (fun c26 => ?_)
  refine lv_lload_n hx hb d_1_21_12 rfl (lv_at hl 1 rfl) ?_
  refine lv_aload_n hx hb d_1_21_13 rfl (lv_at hl 2 rfl) ?_
  refine q_get (ci := 0) (j := 1) (v := .ref qO2) C0 V i_NH rfl rfl hO0 (by decide) w_425 rfl d_1_21_14 ?_
  refine lv_iload_n hx hb d_1_21_17 rfl (lv_at hl 3 rfl) ?_
  refine lv_i2l hx hb d_1_21_18 rfl ?_
  refine lv_iload hx hb d_1_21_19 (lv_at hl 0 rfl) ?_
  refine lv_i2l hx hb d_1_21_21 rfl ?_
  refine q_tl (v := 5) (by decide) ?_
  refine lv_ladd hx hb d_1_21_22 ?_
  refine q_goi V (q_runV (As := [.long (x1.toInt64 + 5)]) (rest := [.long 0]) (d := 1) (mc := 0) (ms := 0) (ci := 1) C0 V rfl LV_NH_366 (c_She_at l D g ws 3 qO2 qA16 (x1.toInt64 + 5) hO2 _) rfl rfl hO2 rfl hl.1 rfl (Nat.le_of_ble_eq_true rfl) ⟨by decide, by decide⟩ ⟨Nat.le_of_ble_eq_true rfl, Nat.le_of_ble_eq_true rfl⟩ d_1_21_23) (fun v29 u28 H locs hp27 V => ?_)
  obtain ⟨rfl, rfl⟩ := hp27
  refine lv_i2l hx hb d_1_21_26 rfl ?_
  refine q_tl (v := 0) (by decide) ?_
  refine lv_bipush (v := 8) hx hb d_1_21_27 (by decide) ?_
  refine lv_iload hx hb d_1_21_29 (lv_at hl 0 rfl) ?_
  refine lv_imul hx hb d_1_21_31 ?_
  refine q_ti (v := 40) (by decide) ?_
  refine lv_lshl hx hb d_1_21_32 rfl ?_
  refine q_tl (v := 0) (by decide) ?_
  refine lv_lor hx hb d_1_21_33 ?_
  refine q_tl (v := 0) (by decide) ?_
  refine lv_lstore_n (lv' := [(2, .long 0), (4, .int 5), (0, .ref qO0), (1, .int x1)]) hx hb d_1_21_34 rfl hl (by decide) rfl (fun ls hl => ?_)
  refine lv_iinc (v := 6) (lv' := [(4, .int 6), (2, .long 0), (0, .ref qO0), (1, .int x1)]) hx hb d_1_21_35 hl (k := 1) rfl (by decide) (by decide) rfl (fun ls hl => ?_)
  refine lv_goto (tgt := 5) hx hb d_1_21_38 (by decide) ?_
  refine lv_iload hx hb d_1_21_5 (lv_at hl 0 rfl) ?_
  refine lv_bipush (v := 8) hx hb d_1_21_7 (by decide) ?_
  refine lv_icmp_ge (tgt := 41) hx hb d_1_21_9 (by decide) (fun c31 => absurd c31 (by decide)) (fun c31 => ?_)
  refine lv_lload_n hx hb d_1_21_12 rfl (lv_at hl 1 rfl) ?_
  refine lv_aload_n hx hb d_1_21_13 rfl (lv_at hl 2 rfl) ?_
  refine q_get (ci := 0) (j := 1) (v := .ref qO2) C0 V i_NH rfl rfl hO0 (by decide) w_425 rfl d_1_21_14 ?_
  refine lv_iload_n hx hb d_1_21_17 rfl (lv_at hl 3 rfl) ?_
  refine lv_i2l hx hb d_1_21_18 rfl ?_
  refine lv_iload hx hb d_1_21_19 (lv_at hl 0 rfl) ?_
  refine lv_i2l hx hb d_1_21_21 rfl ?_
  refine q_tl (v := 6) (by decide) ?_
  refine lv_ladd hx hb d_1_21_22 ?_
  refine q_goi V (q_runV (As := [.long (x1.toInt64 + 6)]) (rest := [.long 0]) (d := 1) (mc := 0) (ms := 0) (ci := 1) C0 V rfl LV_NH_366 (c_She_at l D g ws 3 qO2 qA16 (x1.toInt64 + 6) hO2 _) rfl rfl hO2 rfl hl.1 rfl (Nat.le_of_ble_eq_true rfl) ⟨by decide, by decide⟩ ⟨Nat.le_of_ble_eq_true rfl, Nat.le_of_ble_eq_true rfl⟩ d_1_21_23) (fun v34 u33 H locs hp32 V => ?_)
  obtain ⟨rfl, rfl⟩ := hp32
  refine lv_i2l hx hb d_1_21_26 rfl ?_
  refine q_tl (v := 0) (by decide) ?_
  refine lv_bipush (v := 8) hx hb d_1_21_27 (by decide) ?_
  refine lv_iload hx hb d_1_21_29 (lv_at hl 0 rfl) ?_
  refine lv_imul hx hb d_1_21_31 ?_
  refine q_ti (v := 48) (by decide) ?_
  refine lv_lshl hx hb d_1_21_32 rfl ?_
  refine q_tl (v := 0) (by decide) ?_
  refine lv_lor hx hb d_1_21_33 ?_
  refine q_tl (v := 0) (by decide) ?_
  refine lv_lstore_n (lv' := [(2, .long 0), (4, .int 6), (0, .ref qO0), (1, .int x1)]) hx hb d_1_21_34 rfl hl (by decide) rfl (fun ls hl => ?_)
  refine lv_iinc (v := 7) (lv' := [(4, .int 7), (2, .long 0), (0, .ref qO0), (1, .int x1)]) hx hb d_1_21_35 hl (k := 1) rfl (by decide) (by decide) rfl (fun ls hl => ?_)
  refine lv_goto (tgt := 5) hx hb d_1_21_38 (by decide) ?_
  refine lv_iload hx hb d_1_21_5 (lv_at hl 0 rfl) ?_
  refine lv_bipush (v := 8) hx hb d_1_21_7 (by decide) ?_
  refine lv_icmp_ge (tgt := 41) hx hb d_1_21_9 (by decide) (fun c36 => absurd c36 (by decide)) (fun c36 => ?_)
  refine lv_lload_n hx hb d_1_21_12 rfl (lv_at hl 1 rfl) ?_
  refine lv_aload_n hx hb d_1_21_13 rfl (lv_at hl 2 rfl) ?_
  refine q_get (ci := 0) (j := 1) (v := .ref qO2) C0 V i_NH rfl rfl hO0 (by decide) w_425 rfl d_1_21_14 ?_
  refine lv_iload_n hx hb d_1_21_17 rfl (lv_at hl 3 rfl) ?_
  refine lv_i2l hx hb d_1_21_18 rfl ?_
  refine lv_iload hx hb d_1_21_19 (lv_at hl 0 rfl) ?_
  refine lv_i2l hx hb d_1_21_21 rfl ?_
  refine q_tl (v := 7) (by decide) ?_
  refine lv_ladd hx hb d_1_21_22 ?_
  refine q_goi V (q_runV (As := [.long (x1.toInt64 + 7)]) (rest := [.long 0]) (d := 1) (mc := 0) (ms := 0) (ci := 1) C0 V rfl LV_NH_366 (c_She_at l D g ws 3 qO2 qA16 (x1.toInt64 + 7) hO2 _) rfl rfl hO2 rfl hl.1 rfl (Nat.le_of_ble_eq_true rfl) ⟨by decide, by decide⟩ ⟨Nat.le_of_ble_eq_true rfl, Nat.le_of_ble_eq_true rfl⟩ d_1_21_23) (fun v39 u38 H locs hp37 V => ?_)
  obtain ⟨rfl, rfl⟩ := hp37
  refine lv_i2l hx hb d_1_21_26 rfl ?_
  refine q_tl (v := 0) (by decide) ?_
  refine lv_bipush (v := 8) hx hb d_1_21_27 (by decide) ?_
  refine lv_iload hx hb d_1_21_29 (lv_at hl 0 rfl) ?_
  refine lv_imul hx hb d_1_21_31 ?_
  refine q_ti (v := 56) (by decide) ?_
  refine lv_lshl hx hb d_1_21_32 rfl ?_
  refine q_tl (v := 0) (by decide) ?_
  refine lv_lor hx hb d_1_21_33 ?_
  refine q_tl (v := 0) (by decide) ?_
  refine lv_lstore_n (lv' := [(2, .long 0), (4, .int 7), (0, .ref qO0), (1, .int x1)]) hx hb d_1_21_34 rfl hl (by decide) rfl (fun ls hl => ?_)
  refine lv_iinc (v := 8) (lv' := [(4, .int 8), (2, .long 0), (0, .ref qO0), (1, .int x1)]) hx hb d_1_21_35 hl (k := 1) rfl (by decide) (by decide) rfl (fun ls hl => ?_)
  refine lv_goto (tgt := 5) hx hb d_1_21_38 (by decide) ?_
  refine lv_iload hx hb d_1_21_5 (lv_at hl 0 rfl) ?_
  refine lv_bipush (v := 8) hx hb d_1_21_7 (by decide) ?_
  refine lv_icmp_ge (tgt := 41) hx hb d_1_21_9 (by decide) (fun c41 => ?_) (fun c41 => absurd (by decide) c41)
  refine lv_lload_n hx hb d_1_21_41 rfl (lv_at hl 1 rfl) ?_
  exact q_retl C0 V (⟨rfl, rfl⟩) d_1_21_42
theorem d_11_3_0 : decode prog_11_method_3_code 0 = .ok (.aload_n 0, 1) := by decide +kernel
theorem d_11_3_1 : decode prog_11_method_3_code 1 = .ok (.getfield 17, 3) := by decide +kernel
theorem d_11_3_4 : decode prog_11_method_3_code 4 = .ok (.aload_n 0, 1) := by decide +kernel
theorem d_11_3_5 : decode prog_11_method_3_code 5 = .ok (.getfield 7, 3) := by decide +kernel
theorem d_11_3_8 : decode prog_11_method_3_code 8 = .ok (.if_icmp .ge 55, 3) := by decide +kernel
theorem d_11_3_11 : decode prog_11_method_3_code 11 = .ok (.bipush 8, 2) := by decide +kernel
theorem d_11_3_13 : decode prog_11_method_3_code 13 = .ok (.aload_n 0, 1) := by decide +kernel
theorem d_11_3_14 : decode prog_11_method_3_code 14 = .ok (.getfield 17, 3) := by decide +kernel
theorem d_11_3_17 : decode prog_11_method_3_code 17 = .ok (.bipush 7, 2) := by decide +kernel
theorem d_11_3_19 : decode prog_11_method_3_code 19 = .ok (.iand, 1) := by decide +kernel
theorem d_11_3_20 : decode prog_11_method_3_code 20 = .ok (.imul, 1) := by decide +kernel
theorem d_11_3_21 : decode prog_11_method_3_code 21 = .ok (.istore_n 2, 1) := by decide +kernel
theorem d_11_3_22 : decode prog_11_method_3_code 22 = .ok (.aload_n 0, 1) := by decide +kernel
theorem d_11_3_23 : decode prog_11_method_3_code 23 = .ok (.getfield 13, 3) := by decide +kernel
theorem d_11_3_26 : decode prog_11_method_3_code 26 = .ok (.aload_n 0, 1) := by decide +kernel
theorem d_11_3_27 : decode prog_11_method_3_code 27 = .ok (.getfield 17, 3) := by decide +kernel
theorem d_11_3_30 : decode prog_11_method_3_code 30 = .ok (.iconst 3, 1) := by decide +kernel
theorem d_11_3_31 : decode prog_11_method_3_code 31 = .ok (.ishr, 1) := by decide +kernel
theorem d_11_3_32 : decode prog_11_method_3_code 32 = .ok (.aload_n 0, 1) := by decide +kernel
theorem d_11_3_33 : decode prog_11_method_3_code 33 = .ok (.getfield 13, 3) := by decide +kernel
theorem d_11_3_36 : decode prog_11_method_3_code 36 = .ok (.aload_n 0, 1) := by decide +kernel
theorem d_11_3_37 : decode prog_11_method_3_code 37 = .ok (.getfield 17, 3) := by decide +kernel
theorem d_11_3_40 : decode prog_11_method_3_code 40 = .ok (.iconst 3, 1) := by decide +kernel
theorem d_11_3_41 : decode prog_11_method_3_code 41 = .ok (.ishr, 1) := by decide +kernel
theorem d_11_3_42 : decode prog_11_method_3_code 42 = .ok (.laload, 1) := by decide +kernel
theorem d_11_3_43 : decode prog_11_method_3_code 43 = .ok (.ldc2_w 20, 3) := by decide +kernel
theorem w_565 : (Cond.constantLong "NumberHouse$Sheet" (20 : Nat) (255 : Int64)) ∈ q_tbl := q_of 565 (by decide +kernel) (by decide +kernel)
theorem d_11_3_46 : decode prog_11_method_3_code 46 = .ok (.iload_n 2, 1) := by decide +kernel
theorem d_11_3_47 : decode prog_11_method_3_code 47 = .ok (.lshl, 1) := by decide +kernel
theorem d_11_3_48 : decode prog_11_method_3_code 48 = .ok (.ldc2_w 22, 3) := by decide +kernel
theorem w_566 : (Cond.constantLong "NumberHouse$Sheet" (22 : Nat) (-1 : Int64)) ∈ q_tbl := q_of 566 (by decide +kernel) (by decide +kernel)
theorem d_11_3_51 : decode prog_11_method_3_code 51 = .ok (.lxor, 1) := by decide +kernel
theorem d_11_3_52 : decode prog_11_method_3_code 52 = .ok (.land, 1) := by decide +kernel
theorem d_11_3_53 : decode prog_11_method_3_code 53 = .ok (.iload_n 1, 1) := by decide +kernel
theorem d_11_3_54 : decode prog_11_method_3_code 54 = .ok (.sipush 255, 3) := by decide +kernel
theorem d_11_3_57 : decode prog_11_method_3_code 57 = .ok (.iand, 1) := by decide +kernel
theorem d_11_3_58 : decode prog_11_method_3_code 58 = .ok (.i2l, 1) := by decide +kernel
theorem d_11_3_59 : decode prog_11_method_3_code 59 = .ok (.iload_n 2, 1) := by decide +kernel
theorem d_11_3_60 : decode prog_11_method_3_code 60 = .ok (.lshl, 1) := by decide +kernel
theorem d_11_3_61 : decode prog_11_method_3_code 61 = .ok (.lor, 1) := by decide +kernel
theorem d_11_3_62 : decode prog_11_method_3_code 62 = .ok (.lastore, 1) := by decide +kernel
theorem d_11_3_63 : decode prog_11_method_3_code 63 = .ok (.aload_n 0, 1) := by decide +kernel
theorem d_11_3_64 : decode prog_11_method_3_code 64 = .ok (.dup, 1) := by decide +kernel
theorem d_11_3_65 : decode prog_11_method_3_code 65 = .ok (.getfield 17, 3) := by decide +kernel
theorem d_11_3_68 : decode prog_11_method_3_code 68 = .ok (.iconst 1, 1) := by decide +kernel
theorem d_11_3_69 : decode prog_11_method_3_code 69 = .ok (.iadd, 1) := by decide +kernel
theorem d_11_3_70 : decode prog_11_method_3_code 70 = .ok (.putfield 17, 3) := by decide +kernel
theorem d_11_3_73 : decode prog_11_method_3_code 73 = .ok (.return_, 1) := by decide +kernel
def y_She_add : MethodName := ⟨"NumberHouse$Sheet", "add", "(I)V"⟩
set_option maxRecDepth 100000 in
set_option maxHeartbeats 4000000 in
theorem c_She_add (l : Launch) (D : va_G) (g : Nat → ClassId) (ws : va_W) (kO0 kA1 qO0 qA1 : Nat) (x1 : Int32) (hO0 : ws[kO0]? = some (qO0, .inr (1, [.ref qA1, .int 4100, .int 0]))) (hA1 : ws[kA1]? = some (qA1, .inl (g 1, 513, .inr (.inl (fun _ => 0))))) : q_mV l y_She_add prog_11_method_3_code 3 1 0 0 D g [.ref qO0, .int x1] ws (fun u => q_un ws u [kO0, kA1] ∧ u[kO0]? = some (qO0, .inr (1, [.ref qA1, .int 4100, .int 1])) ∧ u[kA1]? = some (qA1, .inl (g 1, 513, .inr (.inl (vp_updL (fun _ => 0) 0 (0 ||| (((x1 &&& 255).toInt64) <<< ((0 : Int32).toInt64 &&& 63)))))))) := by
  intro sz
  refine q_into (by decide) (Nat.le_of_ble_eq_true rfl) ?_
  intro p e s m below meth c ls hsz C0 V hl
  have hx := C0.1
  have hb := C0.2.1
  have hl : lv_has ls 3 [(0, .ref qO0), (1, .int x1)] := hl
  have n_A1_O0 := q_df hA1 hO0
  have n_O0_A1 := Ne.symm (q_df hA1 hO0)
  have hF : q_un ws ws [kO0, kA1] := q_u0
  refine lv_aload_n hx hb d_11_3_0 rfl (lv_at hl 0 rfl) ?_
  refine q_get (ci := 1) (j := 2) (v := .int 0) C0 V i_She rfl rfl hO0 (by decide) w_54 rfl d_11_3_1 ?_
  refine lv_aload_n hx hb d_11_3_4 rfl (lv_at hl 0 rfl) ?_
  refine q_get (ci := 1) (j := 1) (v := .int 4100) C0 V i_She rfl rfl hO0 (by decide) w_53 rfl d_11_3_5 ?_
  refine lv_icmp_ge (tgt := 63) hx hb d_11_3_8 (by decide) (fun c1 => absurd c1 (by decide)) (fun c1 => ?_)
  refine lv_bipush (v := 8) hx hb d_11_3_11 (by decide) ?_
  refine lv_aload_n hx hb d_11_3_13 rfl (lv_at hl 0 rfl) ?_
  refine q_get (ci := 1) (j := 2) (v := .int 0) C0 V i_She rfl rfl hO0 (by decide) w_54 rfl d_11_3_14 ?_
  refine lv_bipush (v := 7) hx hb d_11_3_17 (by decide) ?_
  refine lv_iand hx hb d_11_3_19 ?_
  refine q_ti (v := 0) (by decide) ?_
  refine lv_imul hx hb d_11_3_20 ?_
  refine q_ti (v := 0) (by decide) ?_
  refine lv_istore_n (lv' := [(2, .int 0), (0, .ref qO0), (1, .int x1)]) hx hb d_11_3_21 rfl hl (by decide) rfl (fun ls hl => ?_)
  refine lv_aload_n hx hb d_11_3_22 rfl (lv_at hl 1 rfl) ?_
  refine q_get (ci := 1) (j := 0) (v := .ref qA1) C0 V i_She rfl rfl hO0 (by decide) w_52 rfl d_11_3_23 ?_
  refine lv_aload_n hx hb d_11_3_26 rfl (lv_at hl 1 rfl) ?_
  refine q_get (ci := 1) (j := 2) (v := .int 0) C0 V i_She rfl rfl hO0 (by decide) w_54 rfl d_11_3_27 ?_
  refine lv_iconst (v := 3) hx hb d_11_3_30 (by decide) ?_
  refine lv_ishr hx hb d_11_3_31 ?_
  refine q_ti (v := 0) (by decide) ?_
  refine lv_aload_n hx hb d_11_3_32 rfl (lv_at hl 1 rfl) ?_
  refine q_get (ci := 1) (j := 0) (v := .ref qA1) C0 V i_She rfl rfl hO0 (by decide) w_52 rfl d_11_3_33 ?_
  refine lv_aload_n hx hb d_11_3_36 rfl (lv_at hl 1 rfl) ?_
  refine q_get (ci := 1) (j := 2) (v := .int 0) C0 V i_She rfl rfl hO0 (by decide) w_54 rfl d_11_3_37 ?_
  refine lv_iconst (v := 3) hx hb d_11_3_40 (by decide) ?_
  refine lv_ishr hx hb d_11_3_41 ?_
  refine q_ti (v := 0) (by decide) ?_
  refine q_lald C0 V hA1 (by unfold vp_in; decide) d_11_3_42 ?_
  refine q_tl (v := 0) (by first | rfl | decide | simp [upd, vp_updL, sb_cl0]) ?_
  refine q_ldc2 C0 rfl w_565 d_11_3_43 ?_
  refine lv_iload_n hx hb d_11_3_46 rfl (lv_at hl 0 rfl) ?_
  refine lv_lshl hx hb d_11_3_47 rfl ?_
  refine q_tl (v := 255) (by decide) ?_
  refine q_ldc2 C0 rfl w_566 d_11_3_48 ?_
  refine lv_lxor hx hb d_11_3_51 ?_
  refine q_tl (v := (-256)) (by decide) ?_
  refine lv_land hx hb d_11_3_52 ?_
  refine q_tl (v := 0) (by decide) ?_
  refine lv_iload_n hx hb d_11_3_53 rfl (lv_at hl 2 rfl) ?_
  refine lv_sipush (v := 255) hx hb d_11_3_54 (by decide) ?_
  refine lv_iand hx hb d_11_3_57 ?_
  refine lv_i2l hx hb d_11_3_58 rfl ?_
  refine lv_iload_n hx hb d_11_3_59 rfl (lv_at hl 0 rfl) ?_
  refine lv_lshl hx hb d_11_3_60 rfl ?_
  refine lv_lor hx hb d_11_3_61 ?_
  refine q_last C0 V hA1 (by unfold vp_in; decide) d_11_3_62 (fun H locs w2 hu3 hA1 V => ?_)
  replace hA1 : w2[kA1]? = some (qA1, .inl (g 1, 513, .inr (.inl (vp_updL (fun _ => 0) 0 (0 ||| (((x1 &&& 255).toInt64) <<< ((0 : Int32).toInt64 &&& 63))))))) := hA1
  replace hF := q_us hF hu3 (.tail _ (.head _))
  refine lv_aload_n hx hb d_11_3_63 rfl (lv_at hl 1 rfl) ?_
  refine lv_dup hx hb d_11_3_64 rfl ?_
  replace hO0 := (hu3 _ n_O0_A1).trans (hO0)
  refine q_get (ci := 1) (j := 2) (v := .int 0) C0 V i_She rfl rfl hO0 (by decide) w_54 rfl d_11_3_65 ?_
  refine lv_iconst (v := 1) hx hb d_11_3_68 (by decide) ?_
  refine lv_iadd hx hb d_11_3_69 ?_
  refine q_ti (v := 1) (by decide) ?_
  refine q_put (ci := 1) (j := 2) (v := .int 1) (ty := .int) C0 V i_She o_She n_She rfl rfl hO0 (by decide) w_54 rfl rfl rfl rfl (Nat.le_of_ble_eq_true rfl) d_11_3_70 (fun H locs w4 hu5 hO0 V => ?_)
  replace hO0 : w4[kO0]? = some (qO0, .inr (1, [.ref qA1, .int 4100, .int 1])) := hO0
  replace hF := q_us hF hu5 (.head _)
  replace hA1 := (hu5 _ n_A1_O0).trans (hA1)
  exact q_retv C0 V (⟨hF, hO0, hA1⟩) d_11_3_73
set_option maxRecDepth 100000 in
set_option maxHeartbeats 4000000 in
theorem c_She_add_2 (l : Launch) (D : va_G) (g : Nat → ClassId) (ws : va_W) (kO0 kA1 qO0 qA1 : Nat) (x1 : Int32) (f2 : Nat → Int64) (hO0 : ws[kO0]? = some (qO0, .inr (1, [.ref qA1, .int 4100, .int 1]))) (hA1 : ws[kA1]? = some (qA1, .inl (g 1, 513, .inr (.inl f2)))) : q_mV l y_She_add prog_11_method_3_code 3 1 0 0 D g [.ref qO0, .int x1] ws (fun u => q_un ws u [kO0, kA1] ∧ u[kO0]? = some (qO0, .inr (1, [.ref qA1, .int 4100, .int 2])) ∧ u[kA1]? = some (qA1, .inl (g 1, 513, .inr (.inl (vp_updL f2 0 (((f2 (0 : Int32).toNatClampNeg) &&& (-65281)) ||| (((x1 &&& 255).toInt64) <<< ((8 : Int32).toInt64 &&& 63)))))))) := by
  intro sz
  refine q_into (by decide) (Nat.le_of_ble_eq_true rfl) ?_
  intro p e s m below meth c ls hsz C0 V hl
  have hx := C0.1
  have hb := C0.2.1
  have hl : lv_has ls 3 [(0, .ref qO0), (1, .int x1)] := hl
  have n_A1_O0 := q_df hA1 hO0
  have n_O0_A1 := Ne.symm (q_df hA1 hO0)
  have hF : q_un ws ws [kO0, kA1] := q_u0
  refine lv_aload_n hx hb d_11_3_0 rfl (lv_at hl 0 rfl) ?_
  refine q_get (ci := 1) (j := 2) (v := .int 1) C0 V i_She rfl rfl hO0 (by decide) w_54 rfl d_11_3_1 ?_
  refine lv_aload_n hx hb d_11_3_4 rfl (lv_at hl 0 rfl) ?_
  refine q_get (ci := 1) (j := 1) (v := .int 4100) C0 V i_She rfl rfl hO0 (by decide) w_53 rfl d_11_3_5 ?_
  refine lv_icmp_ge (tgt := 63) hx hb d_11_3_8 (by decide) (fun c1 => absurd c1 (by decide)) (fun c1 => ?_)
  refine lv_bipush (v := 8) hx hb d_11_3_11 (by decide) ?_
  refine lv_aload_n hx hb d_11_3_13 rfl (lv_at hl 0 rfl) ?_
  refine q_get (ci := 1) (j := 2) (v := .int 1) C0 V i_She rfl rfl hO0 (by decide) w_54 rfl d_11_3_14 ?_
  refine lv_bipush (v := 7) hx hb d_11_3_17 (by decide) ?_
  refine lv_iand hx hb d_11_3_19 ?_
  refine q_ti (v := 1) (by decide) ?_
  refine lv_imul hx hb d_11_3_20 ?_
  refine q_ti (v := 8) (by decide) ?_
  refine lv_istore_n (lv' := [(2, .int 8), (0, .ref qO0), (1, .int x1)]) hx hb d_11_3_21 rfl hl (by decide) rfl (fun ls hl => ?_)
  refine lv_aload_n hx hb d_11_3_22 rfl (lv_at hl 1 rfl) ?_
  refine q_get (ci := 1) (j := 0) (v := .ref qA1) C0 V i_She rfl rfl hO0 (by decide) w_52 rfl d_11_3_23 ?_
  refine lv_aload_n hx hb d_11_3_26 rfl (lv_at hl 1 rfl) ?_
  refine q_get (ci := 1) (j := 2) (v := .int 1) C0 V i_She rfl rfl hO0 (by decide) w_54 rfl d_11_3_27 ?_
  refine lv_iconst (v := 3) hx hb d_11_3_30 (by decide) ?_
  refine lv_ishr hx hb d_11_3_31 ?_
  refine q_ti (v := 0) (by decide) ?_
  refine lv_aload_n hx hb d_11_3_32 rfl (lv_at hl 1 rfl) ?_
  refine q_get (ci := 1) (j := 0) (v := .ref qA1) C0 V i_She rfl rfl hO0 (by decide) w_52 rfl d_11_3_33 ?_
  refine lv_aload_n hx hb d_11_3_36 rfl (lv_at hl 1 rfl) ?_
  refine q_get (ci := 1) (j := 2) (v := .int 1) C0 V i_She rfl rfl hO0 (by decide) w_54 rfl d_11_3_37 ?_
  refine lv_iconst (v := 3) hx hb d_11_3_40 (by decide) ?_
  refine lv_ishr hx hb d_11_3_41 ?_
  refine q_ti (v := 0) (by decide) ?_
  refine q_lald C0 V hA1 (by unfold vp_in; decide) d_11_3_42 ?_
  refine q_ldc2 C0 rfl w_565 d_11_3_43 ?_
  refine lv_iload_n hx hb d_11_3_46 rfl (lv_at hl 0 rfl) ?_
  refine lv_lshl hx hb d_11_3_47 rfl ?_
  refine q_tl (v := 65280) (by decide) ?_
  refine q_ldc2 C0 rfl w_566 d_11_3_48 ?_
  refine lv_lxor hx hb d_11_3_51 ?_
  refine q_tl (v := (-65281)) (by decide) ?_
  refine lv_land hx hb d_11_3_52 ?_
  refine lv_iload_n hx hb d_11_3_53 rfl (lv_at hl 2 rfl) ?_
  refine lv_sipush (v := 255) hx hb d_11_3_54 (by decide) ?_
  refine lv_iand hx hb d_11_3_57 ?_
  refine lv_i2l hx hb d_11_3_58 rfl ?_
  refine lv_iload_n hx hb d_11_3_59 rfl (lv_at hl 0 rfl) ?_
  refine lv_lshl hx hb d_11_3_60 rfl ?_
  refine lv_lor hx hb d_11_3_61 ?_
  refine q_last C0 V hA1 (by unfold vp_in; decide) d_11_3_62 (fun H locs w2 hu3 hA1 V => ?_)
  replace hA1 : w2[kA1]? = some (qA1, .inl (g 1, 513, .inr (.inl (vp_updL f2 0 (((f2 (0 : Int32).toNatClampNeg) &&& (-65281)) ||| (((x1 &&& 255).toInt64) <<< ((8 : Int32).toInt64 &&& 63))))))) := hA1
  replace hF := q_us hF hu3 (.tail _ (.head _))
  refine lv_aload_n hx hb d_11_3_63 rfl (lv_at hl 1 rfl) ?_
  refine lv_dup hx hb d_11_3_64 rfl ?_
  replace hO0 := (hu3 _ n_O0_A1).trans (hO0)
  refine q_get (ci := 1) (j := 2) (v := .int 1) C0 V i_She rfl rfl hO0 (by decide) w_54 rfl d_11_3_65 ?_
  refine lv_iconst (v := 1) hx hb d_11_3_68 (by decide) ?_
  refine lv_iadd hx hb d_11_3_69 ?_
  refine q_ti (v := 2) (by decide) ?_
  refine q_put (ci := 1) (j := 2) (v := .int 2) (ty := .int) C0 V i_She o_She n_She rfl rfl hO0 (by decide) w_54 rfl rfl rfl rfl (Nat.le_of_ble_eq_true rfl) d_11_3_70 (fun H locs w4 hu5 hO0 V => ?_)
  replace hO0 : w4[kO0]? = some (qO0, .inr (1, [.ref qA1, .int 4100, .int 2])) := hO0
  replace hF := q_us hF hu5 (.head _)
  replace hA1 := (hu5 _ n_A1_O0).trans (hA1)
  exact q_retv C0 V (⟨hF, hO0, hA1⟩) d_11_3_73
set_option maxRecDepth 100000 in
set_option maxHeartbeats 4000000 in
theorem c_She_add_3 (l : Launch) (D : va_G) (g : Nat → ClassId) (ws : va_W) (kO0 kA1 qO0 qA1 : Nat) (x1 : Int32) (f2 : Nat → Int64) (hO0 : ws[kO0]? = some (qO0, .inr (1, [.ref qA1, .int 4100, .int 2]))) (hA1 : ws[kA1]? = some (qA1, .inl (g 1, 513, .inr (.inl f2)))) : q_mV l y_She_add prog_11_method_3_code 3 1 0 0 D g [.ref qO0, .int x1] ws (fun u => q_un ws u [kO0, kA1] ∧ u[kO0]? = some (qO0, .inr (1, [.ref qA1, .int 4100, .int 3])) ∧ u[kA1]? = some (qA1, .inl (g 1, 513, .inr (.inl (vp_updL f2 0 (((f2 (0 : Int32).toNatClampNeg) &&& (-16711681)) ||| (((x1 &&& 255).toInt64) <<< ((16 : Int32).toInt64 &&& 63)))))))) := by
  intro sz
  refine q_into (by decide) (Nat.le_of_ble_eq_true rfl) ?_
  intro p e s m below meth c ls hsz C0 V hl
  have hx := C0.1
  have hb := C0.2.1
  have hl : lv_has ls 3 [(0, .ref qO0), (1, .int x1)] := hl
  have n_A1_O0 := q_df hA1 hO0
  have n_O0_A1 := Ne.symm (q_df hA1 hO0)
  have hF : q_un ws ws [kO0, kA1] := q_u0
  refine lv_aload_n hx hb d_11_3_0 rfl (lv_at hl 0 rfl) ?_
  refine q_get (ci := 1) (j := 2) (v := .int 2) C0 V i_She rfl rfl hO0 (by decide) w_54 rfl d_11_3_1 ?_
  refine lv_aload_n hx hb d_11_3_4 rfl (lv_at hl 0 rfl) ?_
  refine q_get (ci := 1) (j := 1) (v := .int 4100) C0 V i_She rfl rfl hO0 (by decide) w_53 rfl d_11_3_5 ?_
  refine lv_icmp_ge (tgt := 63) hx hb d_11_3_8 (by decide) (fun c1 => absurd c1 (by decide)) (fun c1 => ?_)
  refine lv_bipush (v := 8) hx hb d_11_3_11 (by decide) ?_
  refine lv_aload_n hx hb d_11_3_13 rfl (lv_at hl 0 rfl) ?_
  refine q_get (ci := 1) (j := 2) (v := .int 2) C0 V i_She rfl rfl hO0 (by decide) w_54 rfl d_11_3_14 ?_
  refine lv_bipush (v := 7) hx hb d_11_3_17 (by decide) ?_
  refine lv_iand hx hb d_11_3_19 ?_
  refine q_ti (v := 2) (by decide) ?_
  refine lv_imul hx hb d_11_3_20 ?_
  refine q_ti (v := 16) (by decide) ?_
  refine lv_istore_n (lv' := [(2, .int 16), (0, .ref qO0), (1, .int x1)]) hx hb d_11_3_21 rfl hl (by decide) rfl (fun ls hl => ?_)
  refine lv_aload_n hx hb d_11_3_22 rfl (lv_at hl 1 rfl) ?_
  refine q_get (ci := 1) (j := 0) (v := .ref qA1) C0 V i_She rfl rfl hO0 (by decide) w_52 rfl d_11_3_23 ?_
  refine lv_aload_n hx hb d_11_3_26 rfl (lv_at hl 1 rfl) ?_
  refine q_get (ci := 1) (j := 2) (v := .int 2) C0 V i_She rfl rfl hO0 (by decide) w_54 rfl d_11_3_27 ?_
  refine lv_iconst (v := 3) hx hb d_11_3_30 (by decide) ?_
  refine lv_ishr hx hb d_11_3_31 ?_
  refine q_ti (v := 0) (by decide) ?_
  refine lv_aload_n hx hb d_11_3_32 rfl (lv_at hl 1 rfl) ?_
  refine q_get (ci := 1) (j := 0) (v := .ref qA1) C0 V i_She rfl rfl hO0 (by decide) w_52 rfl d_11_3_33 ?_
  refine lv_aload_n hx hb d_11_3_36 rfl (lv_at hl 1 rfl) ?_
  refine q_get (ci := 1) (j := 2) (v := .int 2) C0 V i_She rfl rfl hO0 (by decide) w_54 rfl d_11_3_37 ?_
  refine lv_iconst (v := 3) hx hb d_11_3_40 (by decide) ?_
  refine lv_ishr hx hb d_11_3_41 ?_
  refine q_ti (v := 0) (by decide) ?_
  refine q_lald C0 V hA1 (by unfold vp_in; decide) d_11_3_42 ?_
  refine q_ldc2 C0 rfl w_565 d_11_3_43 ?_
  refine lv_iload_n hx hb d_11_3_46 rfl (lv_at hl 0 rfl) ?_
  refine lv_lshl hx hb d_11_3_47 rfl ?_
  refine q_tl (v := 16711680) (by decide) ?_
  refine q_ldc2 C0 rfl w_566 d_11_3_48 ?_
  refine lv_lxor hx hb d_11_3_51 ?_
  refine q_tl (v := (-16711681)) (by decide) ?_
  refine lv_land hx hb d_11_3_52 ?_
  refine lv_iload_n hx hb d_11_3_53 rfl (lv_at hl 2 rfl) ?_
  refine lv_sipush (v := 255) hx hb d_11_3_54 (by decide) ?_
  refine lv_iand hx hb d_11_3_57 ?_
  refine lv_i2l hx hb d_11_3_58 rfl ?_
  refine lv_iload_n hx hb d_11_3_59 rfl (lv_at hl 0 rfl) ?_
  refine lv_lshl hx hb d_11_3_60 rfl ?_
  refine lv_lor hx hb d_11_3_61 ?_
  refine q_last C0 V hA1 (by unfold vp_in; decide) d_11_3_62 (fun H locs w2 hu3 hA1 V => ?_)
  replace hA1 : w2[kA1]? = some (qA1, .inl (g 1, 513, .inr (.inl (vp_updL f2 0 (((f2 (0 : Int32).toNatClampNeg) &&& (-16711681)) ||| (((x1 &&& 255).toInt64) <<< ((16 : Int32).toInt64 &&& 63))))))) := hA1
  replace hF := q_us hF hu3 (.tail _ (.head _))
  refine lv_aload_n hx hb d_11_3_63 rfl (lv_at hl 1 rfl) ?_
  refine lv_dup hx hb d_11_3_64 rfl ?_
  replace hO0 := (hu3 _ n_O0_A1).trans (hO0)
  refine q_get (ci := 1) (j := 2) (v := .int 2) C0 V i_She rfl rfl hO0 (by decide) w_54 rfl d_11_3_65 ?_
  refine lv_iconst (v := 1) hx hb d_11_3_68 (by decide) ?_
  refine lv_iadd hx hb d_11_3_69 ?_
  refine q_ti (v := 3) (by decide) ?_
  refine q_put (ci := 1) (j := 2) (v := .int 3) (ty := .int) C0 V i_She o_She n_She rfl rfl hO0 (by decide) w_54 rfl rfl rfl rfl (Nat.le_of_ble_eq_true rfl) d_11_3_70 (fun H locs w4 hu5 hO0 V => ?_)
  replace hO0 : w4[kO0]? = some (qO0, .inr (1, [.ref qA1, .int 4100, .int 3])) := hO0
  replace hF := q_us hF hu5 (.head _)
  replace hA1 := (hu5 _ n_A1_O0).trans (hA1)
  exact q_retv C0 V (⟨hF, hO0, hA1⟩) d_11_3_73
set_option maxRecDepth 100000 in
set_option maxHeartbeats 4000000 in
theorem c_She_add_4 (l : Launch) (D : va_G) (g : Nat → ClassId) (ws : va_W) (kO0 kA1 qO0 qA1 : Nat) (x1 : Int32) (f2 : Nat → Int64) (hO0 : ws[kO0]? = some (qO0, .inr (1, [.ref qA1, .int 4100, .int 3]))) (hA1 : ws[kA1]? = some (qA1, .inl (g 1, 513, .inr (.inl f2)))) : q_mV l y_She_add prog_11_method_3_code 3 1 0 0 D g [.ref qO0, .int x1] ws (fun u => q_un ws u [kO0, kA1] ∧ u[kO0]? = some (qO0, .inr (1, [.ref qA1, .int 4100, .int 4])) ∧ u[kA1]? = some (qA1, .inl (g 1, 513, .inr (.inl (vp_updL f2 0 (((f2 (0 : Int32).toNatClampNeg) &&& (-4278190081)) ||| (((x1 &&& 255).toInt64) <<< ((24 : Int32).toInt64 &&& 63)))))))) := by
  intro sz
  refine q_into (by decide) (Nat.le_of_ble_eq_true rfl) ?_
  intro p e s m below meth c ls hsz C0 V hl
  have hx := C0.1
  have hb := C0.2.1
  have hl : lv_has ls 3 [(0, .ref qO0), (1, .int x1)] := hl
  have n_A1_O0 := q_df hA1 hO0
  have n_O0_A1 := Ne.symm (q_df hA1 hO0)
  have hF : q_un ws ws [kO0, kA1] := q_u0
  refine lv_aload_n hx hb d_11_3_0 rfl (lv_at hl 0 rfl) ?_
  refine q_get (ci := 1) (j := 2) (v := .int 3) C0 V i_She rfl rfl hO0 (by decide) w_54 rfl d_11_3_1 ?_
  refine lv_aload_n hx hb d_11_3_4 rfl (lv_at hl 0 rfl) ?_
  refine q_get (ci := 1) (j := 1) (v := .int 4100) C0 V i_She rfl rfl hO0 (by decide) w_53 rfl d_11_3_5 ?_
  refine lv_icmp_ge (tgt := 63) hx hb d_11_3_8 (by decide) (fun c1 => absurd c1 (by decide)) (fun c1 => ?_)
  refine lv_bipush (v := 8) hx hb d_11_3_11 (by decide) ?_
  refine lv_aload_n hx hb d_11_3_13 rfl (lv_at hl 0 rfl) ?_
  refine q_get (ci := 1) (j := 2) (v := .int 3) C0 V i_She rfl rfl hO0 (by decide) w_54 rfl d_11_3_14 ?_
  refine lv_bipush (v := 7) hx hb d_11_3_17 (by decide) ?_
  refine lv_iand hx hb d_11_3_19 ?_
  refine q_ti (v := 3) (by decide) ?_
  refine lv_imul hx hb d_11_3_20 ?_
  refine q_ti (v := 24) (by decide) ?_
  refine lv_istore_n (lv' := [(2, .int 24), (0, .ref qO0), (1, .int x1)]) hx hb d_11_3_21 rfl hl (by decide) rfl (fun ls hl => ?_)
  refine lv_aload_n hx hb d_11_3_22 rfl (lv_at hl 1 rfl) ?_
  refine q_get (ci := 1) (j := 0) (v := .ref qA1) C0 V i_She rfl rfl hO0 (by decide) w_52 rfl d_11_3_23 ?_
  refine lv_aload_n hx hb d_11_3_26 rfl (lv_at hl 1 rfl) ?_
  refine q_get (ci := 1) (j := 2) (v := .int 3) C0 V i_She rfl rfl hO0 (by decide) w_54 rfl d_11_3_27 ?_
  refine lv_iconst (v := 3) hx hb d_11_3_30 (by decide) ?_
  refine lv_ishr hx hb d_11_3_31 ?_
  refine q_ti (v := 0) (by decide) ?_
  refine lv_aload_n hx hb d_11_3_32 rfl (lv_at hl 1 rfl) ?_
  refine q_get (ci := 1) (j := 0) (v := .ref qA1) C0 V i_She rfl rfl hO0 (by decide) w_52 rfl d_11_3_33 ?_
  refine lv_aload_n hx hb d_11_3_36 rfl (lv_at hl 1 rfl) ?_
  refine q_get (ci := 1) (j := 2) (v := .int 3) C0 V i_She rfl rfl hO0 (by decide) w_54 rfl d_11_3_37 ?_
  refine lv_iconst (v := 3) hx hb d_11_3_40 (by decide) ?_
  refine lv_ishr hx hb d_11_3_41 ?_
  refine q_ti (v := 0) (by decide) ?_
  refine q_lald C0 V hA1 (by unfold vp_in; decide) d_11_3_42 ?_
  refine q_ldc2 C0 rfl w_565 d_11_3_43 ?_
  refine lv_iload_n hx hb d_11_3_46 rfl (lv_at hl 0 rfl) ?_
  refine lv_lshl hx hb d_11_3_47 rfl ?_
  refine q_tl (v := 4278190080) (by decide) ?_
  refine q_ldc2 C0 rfl w_566 d_11_3_48 ?_
  refine lv_lxor hx hb d_11_3_51 ?_
  refine q_tl (v := (-4278190081)) (by decide) ?_
  refine lv_land hx hb d_11_3_52 ?_
  refine lv_iload_n hx hb d_11_3_53 rfl (lv_at hl 2 rfl) ?_
  refine lv_sipush (v := 255) hx hb d_11_3_54 (by decide) ?_
  refine lv_iand hx hb d_11_3_57 ?_
  refine lv_i2l hx hb d_11_3_58 rfl ?_
  refine lv_iload_n hx hb d_11_3_59 rfl (lv_at hl 0 rfl) ?_
  refine lv_lshl hx hb d_11_3_60 rfl ?_
  refine lv_lor hx hb d_11_3_61 ?_
  refine q_last C0 V hA1 (by unfold vp_in; decide) d_11_3_62 (fun H locs w2 hu3 hA1 V => ?_)
  replace hA1 : w2[kA1]? = some (qA1, .inl (g 1, 513, .inr (.inl (vp_updL f2 0 (((f2 (0 : Int32).toNatClampNeg) &&& (-4278190081)) ||| (((x1 &&& 255).toInt64) <<< ((24 : Int32).toInt64 &&& 63))))))) := hA1
  replace hF := q_us hF hu3 (.tail _ (.head _))
  refine lv_aload_n hx hb d_11_3_63 rfl (lv_at hl 1 rfl) ?_
  refine lv_dup hx hb d_11_3_64 rfl ?_
  replace hO0 := (hu3 _ n_O0_A1).trans (hO0)
  refine q_get (ci := 1) (j := 2) (v := .int 3) C0 V i_She rfl rfl hO0 (by decide) w_54 rfl d_11_3_65 ?_
  refine lv_iconst (v := 1) hx hb d_11_3_68 (by decide) ?_
  refine lv_iadd hx hb d_11_3_69 ?_
  refine q_ti (v := 4) (by decide) ?_
  refine q_put (ci := 1) (j := 2) (v := .int 4) (ty := .int) C0 V i_She o_She n_She rfl rfl hO0 (by decide) w_54 rfl rfl rfl rfl (Nat.le_of_ble_eq_true rfl) d_11_3_70 (fun H locs w4 hu5 hO0 V => ?_)
  replace hO0 : w4[kO0]? = some (qO0, .inr (1, [.ref qA1, .int 4100, .int 4])) := hO0
  replace hF := q_us hF hu5 (.head _)
  replace hA1 := (hu5 _ n_A1_O0).trans (hA1)
  exact q_retv C0 V (⟨hF, hO0, hA1⟩) d_11_3_73
set_option maxRecDepth 100000 in
set_option maxHeartbeats 4000000 in
theorem c_She_add_5 (l : Launch) (D : va_G) (g : Nat → ClassId) (ws : va_W) (kO0 kA1 qO0 qA1 : Nat) (x1 : Int32) (f2 : Nat → Int64) (hO0 : ws[kO0]? = some (qO0, .inr (1, [.ref qA1, .int 4100, .int 4]))) (hA1 : ws[kA1]? = some (qA1, .inl (g 1, 513, .inr (.inl f2)))) : q_mV l y_She_add prog_11_method_3_code 3 1 0 0 D g [.ref qO0, .int x1] ws (fun u => q_un ws u [kO0, kA1] ∧ u[kO0]? = some (qO0, .inr (1, [.ref qA1, .int 4100, .int 5])) ∧ u[kA1]? = some (qA1, .inl (g 1, 513, .inr (.inl (vp_updL f2 0 (((f2 (0 : Int32).toNatClampNeg) &&& (-1095216660481)) ||| (((x1 &&& 255).toInt64) <<< ((32 : Int32).toInt64 &&& 63)))))))) := by
  intro sz
  refine q_into (by decide) (Nat.le_of_ble_eq_true rfl) ?_
  intro p e s m below meth c ls hsz C0 V hl
  have hx := C0.1
  have hb := C0.2.1
  have hl : lv_has ls 3 [(0, .ref qO0), (1, .int x1)] := hl
  have n_A1_O0 := q_df hA1 hO0
  have n_O0_A1 := Ne.symm (q_df hA1 hO0)
  have hF : q_un ws ws [kO0, kA1] := q_u0
  refine lv_aload_n hx hb d_11_3_0 rfl (lv_at hl 0 rfl) ?_
  refine q_get (ci := 1) (j := 2) (v := .int 4) C0 V i_She rfl rfl hO0 (by decide) w_54 rfl d_11_3_1 ?_
  refine lv_aload_n hx hb d_11_3_4 rfl (lv_at hl 0 rfl) ?_
  refine q_get (ci := 1) (j := 1) (v := .int 4100) C0 V i_She rfl rfl hO0 (by decide) w_53 rfl d_11_3_5 ?_
  refine lv_icmp_ge (tgt := 63) hx hb d_11_3_8 (by decide) (fun c1 => absurd c1 (by decide)) (fun c1 => ?_)
  refine lv_bipush (v := 8) hx hb d_11_3_11 (by decide) ?_
  refine lv_aload_n hx hb d_11_3_13 rfl (lv_at hl 0 rfl) ?_
  refine q_get (ci := 1) (j := 2) (v := .int 4) C0 V i_She rfl rfl hO0 (by decide) w_54 rfl d_11_3_14 ?_
  refine lv_bipush (v := 7) hx hb d_11_3_17 (by decide) ?_
  refine lv_iand hx hb d_11_3_19 ?_
  refine q_ti (v := 4) (by decide) ?_
  refine lv_imul hx hb d_11_3_20 ?_
  refine q_ti (v := 32) (by decide) ?_
  refine lv_istore_n (lv' := [(2, .int 32), (0, .ref qO0), (1, .int x1)]) hx hb d_11_3_21 rfl hl (by decide) rfl (fun ls hl => ?_)
  refine lv_aload_n hx hb d_11_3_22 rfl (lv_at hl 1 rfl) ?_
  refine q_get (ci := 1) (j := 0) (v := .ref qA1) C0 V i_She rfl rfl hO0 (by decide) w_52 rfl d_11_3_23 ?_
  refine lv_aload_n hx hb d_11_3_26 rfl (lv_at hl 1 rfl) ?_
  refine q_get (ci := 1) (j := 2) (v := .int 4) C0 V i_She rfl rfl hO0 (by decide) w_54 rfl d_11_3_27 ?_
  refine lv_iconst (v := 3) hx hb d_11_3_30 (by decide) ?_
  refine lv_ishr hx hb d_11_3_31 ?_
  refine q_ti (v := 0) (by decide) ?_
  refine lv_aload_n hx hb d_11_3_32 rfl (lv_at hl 1 rfl) ?_
  refine q_get (ci := 1) (j := 0) (v := .ref qA1) C0 V i_She rfl rfl hO0 (by decide) w_52 rfl d_11_3_33 ?_
  refine lv_aload_n hx hb d_11_3_36 rfl (lv_at hl 1 rfl) ?_
  refine q_get (ci := 1) (j := 2) (v := .int 4) C0 V i_She rfl rfl hO0 (by decide) w_54 rfl d_11_3_37 ?_
  refine lv_iconst (v := 3) hx hb d_11_3_40 (by decide) ?_
  refine lv_ishr hx hb d_11_3_41 ?_
  refine q_ti (v := 0) (by decide) ?_
  refine q_lald C0 V hA1 (by unfold vp_in; decide) d_11_3_42 ?_
  refine q_ldc2 C0 rfl w_565 d_11_3_43 ?_
  refine lv_iload_n hx hb d_11_3_46 rfl (lv_at hl 0 rfl) ?_
  refine lv_lshl hx hb d_11_3_47 rfl ?_
  refine q_tl (v := 1095216660480) (by decide) ?_
  refine q_ldc2 C0 rfl w_566 d_11_3_48 ?_
  refine lv_lxor hx hb d_11_3_51 ?_
  refine q_tl (v := (-1095216660481)) (by decide) ?_
  refine lv_land hx hb d_11_3_52 ?_
  refine lv_iload_n hx hb d_11_3_53 rfl (lv_at hl 2 rfl) ?_
  refine lv_sipush (v := 255) hx hb d_11_3_54 (by decide) ?_
  refine lv_iand hx hb d_11_3_57 ?_
  refine lv_i2l hx hb d_11_3_58 rfl ?_
  refine lv_iload_n hx hb d_11_3_59 rfl (lv_at hl 0 rfl) ?_
  refine lv_lshl hx hb d_11_3_60 rfl ?_
  refine lv_lor hx hb d_11_3_61 ?_
  refine q_last C0 V hA1 (by unfold vp_in; decide) d_11_3_62 (fun H locs w2 hu3 hA1 V => ?_)
  replace hA1 : w2[kA1]? = some (qA1, .inl (g 1, 513, .inr (.inl (vp_updL f2 0 (((f2 (0 : Int32).toNatClampNeg) &&& (-1095216660481)) ||| (((x1 &&& 255).toInt64) <<< ((32 : Int32).toInt64 &&& 63))))))) := hA1
  replace hF := q_us hF hu3 (.tail _ (.head _))
  refine lv_aload_n hx hb d_11_3_63 rfl (lv_at hl 1 rfl) ?_
  refine lv_dup hx hb d_11_3_64 rfl ?_
  replace hO0 := (hu3 _ n_O0_A1).trans (hO0)
  refine q_get (ci := 1) (j := 2) (v := .int 4) C0 V i_She rfl rfl hO0 (by decide) w_54 rfl d_11_3_65 ?_
  refine lv_iconst (v := 1) hx hb d_11_3_68 (by decide) ?_
  refine lv_iadd hx hb d_11_3_69 ?_
  refine q_ti (v := 5) (by decide) ?_
  refine q_put (ci := 1) (j := 2) (v := .int 5) (ty := .int) C0 V i_She o_She n_She rfl rfl hO0 (by decide) w_54 rfl rfl rfl rfl (Nat.le_of_ble_eq_true rfl) d_11_3_70 (fun H locs w4 hu5 hO0 V => ?_)
  replace hO0 : w4[kO0]? = some (qO0, .inr (1, [.ref qA1, .int 4100, .int 5])) := hO0
  replace hF := q_us hF hu5 (.head _)
  replace hA1 := (hu5 _ n_A1_O0).trans (hA1)
  exact q_retv C0 V (⟨hF, hO0, hA1⟩) d_11_3_73
set_option maxRecDepth 100000 in
set_option maxHeartbeats 4000000 in
theorem c_She_add_6 (l : Launch) (D : va_G) (g : Nat → ClassId) (ws : va_W) (kO0 kA1 qO0 qA1 : Nat) (x1 : Int32) (f2 : Nat → Int64) (hO0 : ws[kO0]? = some (qO0, .inr (1, [.ref qA1, .int 4100, .int 5]))) (hA1 : ws[kA1]? = some (qA1, .inl (g 1, 513, .inr (.inl f2)))) : q_mV l y_She_add prog_11_method_3_code 3 1 0 0 D g [.ref qO0, .int x1] ws (fun u => q_un ws u [kO0, kA1] ∧ u[kO0]? = some (qO0, .inr (1, [.ref qA1, .int 4100, .int 6])) ∧ u[kA1]? = some (qA1, .inl (g 1, 513, .inr (.inl (vp_updL f2 0 (((f2 (0 : Int32).toNatClampNeg) &&& (-280375465082881)) ||| (((x1 &&& 255).toInt64) <<< ((40 : Int32).toInt64 &&& 63)))))))) := by
  intro sz
  refine q_into (by decide) (Nat.le_of_ble_eq_true rfl) ?_
  intro p e s m below meth c ls hsz C0 V hl
  have hx := C0.1
  have hb := C0.2.1
  have hl : lv_has ls 3 [(0, .ref qO0), (1, .int x1)] := hl
  have n_A1_O0 := q_df hA1 hO0
  have n_O0_A1 := Ne.symm (q_df hA1 hO0)
  have hF : q_un ws ws [kO0, kA1] := q_u0
  refine lv_aload_n hx hb d_11_3_0 rfl (lv_at hl 0 rfl) ?_
  refine q_get (ci := 1) (j := 2) (v := .int 5) C0 V i_She rfl rfl hO0 (by decide) w_54 rfl d_11_3_1 ?_
  refine lv_aload_n hx hb d_11_3_4 rfl (lv_at hl 0 rfl) ?_
  refine q_get (ci := 1) (j := 1) (v := .int 4100) C0 V i_She rfl rfl hO0 (by decide) w_53 rfl d_11_3_5 ?_
  refine lv_icmp_ge (tgt := 63) hx hb d_11_3_8 (by decide) (fun c1 => absurd c1 (by decide)) (fun c1 => ?_)
  refine lv_bipush (v := 8) hx hb d_11_3_11 (by decide) ?_
  refine lv_aload_n hx hb d_11_3_13 rfl (lv_at hl 0 rfl) ?_
  refine q_get (ci := 1) (j := 2) (v := .int 5) C0 V i_She rfl rfl hO0 (by decide) w_54 rfl d_11_3_14 ?_
  refine lv_bipush (v := 7) hx hb d_11_3_17 (by decide) ?_
  refine lv_iand hx hb d_11_3_19 ?_
  refine q_ti (v := 5) (by decide) ?_
  refine lv_imul hx hb d_11_3_20 ?_
  refine q_ti (v := 40) (by decide) ?_
  refine lv_istore_n (lv' := [(2, .int 40), (0, .ref qO0), (1, .int x1)]) hx hb d_11_3_21 rfl hl (by decide) rfl (fun ls hl => ?_)
  refine lv_aload_n hx hb d_11_3_22 rfl (lv_at hl 1 rfl) ?_
  refine q_get (ci := 1) (j := 0) (v := .ref qA1) C0 V i_She rfl rfl hO0 (by decide) w_52 rfl d_11_3_23 ?_
  refine lv_aload_n hx hb d_11_3_26 rfl (lv_at hl 1 rfl) ?_
  refine q_get (ci := 1) (j := 2) (v := .int 5) C0 V i_She rfl rfl hO0 (by decide) w_54 rfl d_11_3_27 ?_
  refine lv_iconst (v := 3) hx hb d_11_3_30 (by decide) ?_
  refine lv_ishr hx hb d_11_3_31 ?_
  refine q_ti (v := 0) (by decide) ?_
  refine lv_aload_n hx hb d_11_3_32 rfl (lv_at hl 1 rfl) ?_
  refine q_get (ci := 1) (j := 0) (v := .ref qA1) C0 V i_She rfl rfl hO0 (by decide) w_52 rfl d_11_3_33 ?_
  refine lv_aload_n hx hb d_11_3_36 rfl (lv_at hl 1 rfl) ?_
  refine q_get (ci := 1) (j := 2) (v := .int 5) C0 V i_She rfl rfl hO0 (by decide) w_54 rfl d_11_3_37 ?_
  refine lv_iconst (v := 3) hx hb d_11_3_40 (by decide) ?_
  refine lv_ishr hx hb d_11_3_41 ?_
  refine q_ti (v := 0) (by decide) ?_
  refine q_lald C0 V hA1 (by unfold vp_in; decide) d_11_3_42 ?_
  refine q_ldc2 C0 rfl w_565 d_11_3_43 ?_
  refine lv_iload_n hx hb d_11_3_46 rfl (lv_at hl 0 rfl) ?_
  refine lv_lshl hx hb d_11_3_47 rfl ?_
  refine q_tl (v := 280375465082880) (by decide) ?_
  refine q_ldc2 C0 rfl w_566 d_11_3_48 ?_
  refine lv_lxor hx hb d_11_3_51 ?_
  refine q_tl (v := (-280375465082881)) (by decide) ?_
  refine lv_land hx hb d_11_3_52 ?_
  refine lv_iload_n hx hb d_11_3_53 rfl (lv_at hl 2 rfl) ?_
  refine lv_sipush (v := 255) hx hb d_11_3_54 (by decide) ?_
  refine lv_iand hx hb d_11_3_57 ?_
  refine lv_i2l hx hb d_11_3_58 rfl ?_
  refine lv_iload_n hx hb d_11_3_59 rfl (lv_at hl 0 rfl) ?_
  refine lv_lshl hx hb d_11_3_60 rfl ?_
  refine lv_lor hx hb d_11_3_61 ?_
  refine q_last C0 V hA1 (by unfold vp_in; decide) d_11_3_62 (fun H locs w2 hu3 hA1 V => ?_)
  replace hA1 : w2[kA1]? = some (qA1, .inl (g 1, 513, .inr (.inl (vp_updL f2 0 (((f2 (0 : Int32).toNatClampNeg) &&& (-280375465082881)) ||| (((x1 &&& 255).toInt64) <<< ((40 : Int32).toInt64 &&& 63))))))) := hA1
  replace hF := q_us hF hu3 (.tail _ (.head _))
  refine lv_aload_n hx hb d_11_3_63 rfl (lv_at hl 1 rfl) ?_
  refine lv_dup hx hb d_11_3_64 rfl ?_
  replace hO0 := (hu3 _ n_O0_A1).trans (hO0)
  refine q_get (ci := 1) (j := 2) (v := .int 5) C0 V i_She rfl rfl hO0 (by decide) w_54 rfl d_11_3_65 ?_
  refine lv_iconst (v := 1) hx hb d_11_3_68 (by decide) ?_
  refine lv_iadd hx hb d_11_3_69 ?_
  refine q_ti (v := 6) (by decide) ?_
  refine q_put (ci := 1) (j := 2) (v := .int 6) (ty := .int) C0 V i_She o_She n_She rfl rfl hO0 (by decide) w_54 rfl rfl rfl rfl (Nat.le_of_ble_eq_true rfl) d_11_3_70 (fun H locs w4 hu5 hO0 V => ?_)
  replace hO0 : w4[kO0]? = some (qO0, .inr (1, [.ref qA1, .int 4100, .int 6])) := hO0
  replace hF := q_us hF hu5 (.head _)
  replace hA1 := (hu5 _ n_A1_O0).trans (hA1)
  exact q_retv C0 V (⟨hF, hO0, hA1⟩) d_11_3_73
set_option maxRecDepth 100000 in
set_option maxHeartbeats 4000000 in
theorem c_She_add_7 (l : Launch) (D : va_G) (g : Nat → ClassId) (ws : va_W) (kO0 kA1 qO0 qA1 : Nat) (x1 : Int32) (f2 : Nat → Int64) (hO0 : ws[kO0]? = some (qO0, .inr (1, [.ref qA1, .int 4100, .int 6]))) (hA1 : ws[kA1]? = some (qA1, .inl (g 1, 513, .inr (.inl f2)))) : q_mV l y_She_add prog_11_method_3_code 3 1 0 0 D g [.ref qO0, .int x1] ws (fun u => q_un ws u [kO0, kA1] ∧ u[kO0]? = some (qO0, .inr (1, [.ref qA1, .int 4100, .int 7])) ∧ u[kA1]? = some (qA1, .inl (g 1, 513, .inr (.inl (vp_updL f2 0 (((f2 (0 : Int32).toNatClampNeg) &&& (-71776119061217281)) ||| (((x1 &&& 255).toInt64) <<< ((48 : Int32).toInt64 &&& 63)))))))) := by
  intro sz
  refine q_into (by decide) (Nat.le_of_ble_eq_true rfl) ?_
  intro p e s m below meth c ls hsz C0 V hl
  have hx := C0.1
  have hb := C0.2.1
  have hl : lv_has ls 3 [(0, .ref qO0), (1, .int x1)] := hl
  have n_A1_O0 := q_df hA1 hO0
  have n_O0_A1 := Ne.symm (q_df hA1 hO0)
  have hF : q_un ws ws [kO0, kA1] := q_u0
  refine lv_aload_n hx hb d_11_3_0 rfl (lv_at hl 0 rfl) ?_
  refine q_get (ci := 1) (j := 2) (v := .int 6) C0 V i_She rfl rfl hO0 (by decide) w_54 rfl d_11_3_1 ?_
  refine lv_aload_n hx hb d_11_3_4 rfl (lv_at hl 0 rfl) ?_
  refine q_get (ci := 1) (j := 1) (v := .int 4100) C0 V i_She rfl rfl hO0 (by decide) w_53 rfl d_11_3_5 ?_
  refine lv_icmp_ge (tgt := 63) hx hb d_11_3_8 (by decide) (fun c1 => absurd c1 (by decide)) (fun c1 => ?_)
  refine lv_bipush (v := 8) hx hb d_11_3_11 (by decide) ?_
  refine lv_aload_n hx hb d_11_3_13 rfl (lv_at hl 0 rfl) ?_
  refine q_get (ci := 1) (j := 2) (v := .int 6) C0 V i_She rfl rfl hO0 (by decide) w_54 rfl d_11_3_14 ?_
  refine lv_bipush (v := 7) hx hb d_11_3_17 (by decide) ?_
  refine lv_iand hx hb d_11_3_19 ?_
  refine q_ti (v := 6) (by decide) ?_
  refine lv_imul hx hb d_11_3_20 ?_
  refine q_ti (v := 48) (by decide) ?_
  refine lv_istore_n (lv' := [(2, .int 48), (0, .ref qO0), (1, .int x1)]) hx hb d_11_3_21 rfl hl (by decide) rfl (fun ls hl => ?_)
  refine lv_aload_n hx hb d_11_3_22 rfl (lv_at hl 1 rfl) ?_
  refine q_get (ci := 1) (j := 0) (v := .ref qA1) C0 V i_She rfl rfl hO0 (by decide) w_52 rfl d_11_3_23 ?_
  refine lv_aload_n hx hb d_11_3_26 rfl (lv_at hl 1 rfl) ?_
  refine q_get (ci := 1) (j := 2) (v := .int 6) C0 V i_She rfl rfl hO0 (by decide) w_54 rfl d_11_3_27 ?_
  refine lv_iconst (v := 3) hx hb d_11_3_30 (by decide) ?_
  refine lv_ishr hx hb d_11_3_31 ?_
  refine q_ti (v := 0) (by decide) ?_
  refine lv_aload_n hx hb d_11_3_32 rfl (lv_at hl 1 rfl) ?_
  refine q_get (ci := 1) (j := 0) (v := .ref qA1) C0 V i_She rfl rfl hO0 (by decide) w_52 rfl d_11_3_33 ?_
  refine lv_aload_n hx hb d_11_3_36 rfl (lv_at hl 1 rfl) ?_
  refine q_get (ci := 1) (j := 2) (v := .int 6) C0 V i_She rfl rfl hO0 (by decide) w_54 rfl d_11_3_37 ?_
  refine lv_iconst (v := 3) hx hb d_11_3_40 (by decide) ?_
  refine lv_ishr hx hb d_11_3_41 ?_
  refine q_ti (v := 0) (by decide) ?_
  refine q_lald C0 V hA1 (by unfold vp_in; decide) d_11_3_42 ?_
  refine q_ldc2 C0 rfl w_565 d_11_3_43 ?_
  refine lv_iload_n hx hb d_11_3_46 rfl (lv_at hl 0 rfl) ?_
  refine lv_lshl hx hb d_11_3_47 rfl ?_
  refine q_tl (v := 71776119061217280) (by decide) ?_
  refine q_ldc2 C0 rfl w_566 d_11_3_48 ?_
  refine lv_lxor hx hb d_11_3_51 ?_
  refine q_tl (v := (-71776119061217281)) (by decide) ?_
  refine lv_land hx hb d_11_3_52 ?_
  refine lv_iload_n hx hb d_11_3_53 rfl (lv_at hl 2 rfl) ?_
  refine lv_sipush (v := 255) hx hb d_11_3_54 (by decide) ?_
  refine lv_iand hx hb d_11_3_57 ?_
  refine lv_i2l hx hb d_11_3_58 rfl ?_
  refine lv_iload_n hx hb d_11_3_59 rfl (lv_at hl 0 rfl) ?_
  refine lv_lshl hx hb d_11_3_60 rfl ?_
  refine lv_lor hx hb d_11_3_61 ?_
  refine q_last C0 V hA1 (by unfold vp_in; decide) d_11_3_62 (fun H locs w2 hu3 hA1 V => ?_)
  replace hA1 : w2[kA1]? = some (qA1, .inl (g 1, 513, .inr (.inl (vp_updL f2 0 (((f2 (0 : Int32).toNatClampNeg) &&& (-71776119061217281)) ||| (((x1 &&& 255).toInt64) <<< ((48 : Int32).toInt64 &&& 63))))))) := hA1
  replace hF := q_us hF hu3 (.tail _ (.head _))
  refine lv_aload_n hx hb d_11_3_63 rfl (lv_at hl 1 rfl) ?_
  refine lv_dup hx hb d_11_3_64 rfl ?_
  replace hO0 := (hu3 _ n_O0_A1).trans (hO0)
  refine q_get (ci := 1) (j := 2) (v := .int 6) C0 V i_She rfl rfl hO0 (by decide) w_54 rfl d_11_3_65 ?_
  refine lv_iconst (v := 1) hx hb d_11_3_68 (by decide) ?_
  refine lv_iadd hx hb d_11_3_69 ?_
  refine q_ti (v := 7) (by decide) ?_
  refine q_put (ci := 1) (j := 2) (v := .int 7) (ty := .int) C0 V i_She o_She n_She rfl rfl hO0 (by decide) w_54 rfl rfl rfl rfl (Nat.le_of_ble_eq_true rfl) d_11_3_70 (fun H locs w4 hu5 hO0 V => ?_)
  replace hO0 : w4[kO0]? = some (qO0, .inr (1, [.ref qA1, .int 4100, .int 7])) := hO0
  replace hF := q_us hF hu5 (.head _)
  replace hA1 := (hu5 _ n_A1_O0).trans (hA1)
  exact q_retv C0 V (⟨hF, hO0, hA1⟩) d_11_3_73
set_option maxRecDepth 100000 in
set_option maxHeartbeats 4000000 in
theorem c_She_add_8 (l : Launch) (D : va_G) (g : Nat → ClassId) (ws : va_W) (kO0 kA1 qO0 qA1 : Nat) (x1 : Int32) (f2 : Nat → Int64) (hO0 : ws[kO0]? = some (qO0, .inr (1, [.ref qA1, .int 4100, .int 7]))) (hA1 : ws[kA1]? = some (qA1, .inl (g 1, 513, .inr (.inl f2)))) : q_mV l y_She_add prog_11_method_3_code 3 1 0 0 D g [.ref qO0, .int x1] ws (fun u => q_un ws u [kO0, kA1] ∧ u[kO0]? = some (qO0, .inr (1, [.ref qA1, .int 4100, .int 8])) ∧ u[kA1]? = some (qA1, .inl (g 1, 513, .inr (.inl (vp_updL f2 0 (((f2 (0 : Int32).toNatClampNeg) &&& 72057594037927935) ||| (((x1 &&& 255).toInt64) <<< ((56 : Int32).toInt64 &&& 63)))))))) := by
  intro sz
  refine q_into (by decide) (Nat.le_of_ble_eq_true rfl) ?_
  intro p e s m below meth c ls hsz C0 V hl
  have hx := C0.1
  have hb := C0.2.1
  have hl : lv_has ls 3 [(0, .ref qO0), (1, .int x1)] := hl
  have n_A1_O0 := q_df hA1 hO0
  have n_O0_A1 := Ne.symm (q_df hA1 hO0)
  have hF : q_un ws ws [kO0, kA1] := q_u0
  refine lv_aload_n hx hb d_11_3_0 rfl (lv_at hl 0 rfl) ?_
  refine q_get (ci := 1) (j := 2) (v := .int 7) C0 V i_She rfl rfl hO0 (by decide) w_54 rfl d_11_3_1 ?_
  refine lv_aload_n hx hb d_11_3_4 rfl (lv_at hl 0 rfl) ?_
  refine q_get (ci := 1) (j := 1) (v := .int 4100) C0 V i_She rfl rfl hO0 (by decide) w_53 rfl d_11_3_5 ?_
  refine lv_icmp_ge (tgt := 63) hx hb d_11_3_8 (by decide) (fun c1 => absurd c1 (by decide)) (fun c1 => ?_)
  refine lv_bipush (v := 8) hx hb d_11_3_11 (by decide) ?_
  refine lv_aload_n hx hb d_11_3_13 rfl (lv_at hl 0 rfl) ?_
  refine q_get (ci := 1) (j := 2) (v := .int 7) C0 V i_She rfl rfl hO0 (by decide) w_54 rfl d_11_3_14 ?_
  refine lv_bipush (v := 7) hx hb d_11_3_17 (by decide) ?_
  refine lv_iand hx hb d_11_3_19 ?_
  refine q_ti (v := 7) (by decide) ?_
  refine lv_imul hx hb d_11_3_20 ?_
  refine q_ti (v := 56) (by decide) ?_
  refine lv_istore_n (lv' := [(2, .int 56), (0, .ref qO0), (1, .int x1)]) hx hb d_11_3_21 rfl hl (by decide) rfl (fun ls hl => ?_)
  refine lv_aload_n hx hb d_11_3_22 rfl (lv_at hl 1 rfl) ?_
  refine q_get (ci := 1) (j := 0) (v := .ref qA1) C0 V i_She rfl rfl hO0 (by decide) w_52 rfl d_11_3_23 ?_
  refine lv_aload_n hx hb d_11_3_26 rfl (lv_at hl 1 rfl) ?_
  refine q_get (ci := 1) (j := 2) (v := .int 7) C0 V i_She rfl rfl hO0 (by decide) w_54 rfl d_11_3_27 ?_
  refine lv_iconst (v := 3) hx hb d_11_3_30 (by decide) ?_
  refine lv_ishr hx hb d_11_3_31 ?_
  refine q_ti (v := 0) (by decide) ?_
  refine lv_aload_n hx hb d_11_3_32 rfl (lv_at hl 1 rfl) ?_
  refine q_get (ci := 1) (j := 0) (v := .ref qA1) C0 V i_She rfl rfl hO0 (by decide) w_52 rfl d_11_3_33 ?_
  refine lv_aload_n hx hb d_11_3_36 rfl (lv_at hl 1 rfl) ?_
  refine q_get (ci := 1) (j := 2) (v := .int 7) C0 V i_She rfl rfl hO0 (by decide) w_54 rfl d_11_3_37 ?_
  refine lv_iconst (v := 3) hx hb d_11_3_40 (by decide) ?_
  refine lv_ishr hx hb d_11_3_41 ?_
  refine q_ti (v := 0) (by decide) ?_
  refine q_lald C0 V hA1 (by unfold vp_in; decide) d_11_3_42 ?_
  refine q_ldc2 C0 rfl w_565 d_11_3_43 ?_
  refine lv_iload_n hx hb d_11_3_46 rfl (lv_at hl 0 rfl) ?_
  refine lv_lshl hx hb d_11_3_47 rfl ?_
  refine q_tl (v := (-72057594037927936)) (by decide) ?_
  refine q_ldc2 C0 rfl w_566 d_11_3_48 ?_
  refine lv_lxor hx hb d_11_3_51 ?_
  refine q_tl (v := 72057594037927935) (by decide) ?_
  refine lv_land hx hb d_11_3_52 ?_
  refine lv_iload_n hx hb d_11_3_53 rfl (lv_at hl 2 rfl) ?_
  refine lv_sipush (v := 255) hx hb d_11_3_54 (by decide) ?_
  refine lv_iand hx hb d_11_3_57 ?_
  refine lv_i2l hx hb d_11_3_58 rfl ?_
  refine lv_iload_n hx hb d_11_3_59 rfl (lv_at hl 0 rfl) ?_
  refine lv_lshl hx hb d_11_3_60 rfl ?_
  refine lv_lor hx hb d_11_3_61 ?_
  refine q_last C0 V hA1 (by unfold vp_in; decide) d_11_3_62 (fun H locs w2 hu3 hA1 V => ?_)
  replace hA1 : w2[kA1]? = some (qA1, .inl (g 1, 513, .inr (.inl (vp_updL f2 0 (((f2 (0 : Int32).toNatClampNeg) &&& 72057594037927935) ||| (((x1 &&& 255).toInt64) <<< ((56 : Int32).toInt64 &&& 63))))))) := hA1
  replace hF := q_us hF hu3 (.tail _ (.head _))
  refine lv_aload_n hx hb d_11_3_63 rfl (lv_at hl 1 rfl) ?_
  refine lv_dup hx hb d_11_3_64 rfl ?_
  replace hO0 := (hu3 _ n_O0_A1).trans (hO0)
  refine q_get (ci := 1) (j := 2) (v := .int 7) C0 V i_She rfl rfl hO0 (by decide) w_54 rfl d_11_3_65 ?_
  refine lv_iconst (v := 1) hx hb d_11_3_68 (by decide) ?_
  refine lv_iadd hx hb d_11_3_69 ?_
  refine q_ti (v := 8) (by decide) ?_
  refine q_put (ci := 1) (j := 2) (v := .int 8) (ty := .int) C0 V i_She o_She n_She rfl rfl hO0 (by decide) w_54 rfl rfl rfl rfl (Nat.le_of_ble_eq_true rfl) d_11_3_70 (fun H locs w4 hu5 hO0 V => ?_)
  replace hO0 : w4[kO0]? = some (qO0, .inr (1, [.ref qA1, .int 4100, .int 8])) := hO0
  replace hF := q_us hF hu5 (.head _)
  replace hA1 := (hu5 _ n_A1_O0).trans (hA1)
  exact q_retv C0 V (⟨hF, hO0, hA1⟩) d_11_3_73
theorem d_1_2_0 : decode prog_1_method_2_code 0 = .ok (.iload_n 1, 1) := by decide +kernel
theorem d_1_2_1 : decode prog_1_method_2_code 1 = .ok (.iconst 1, 1) := by decide +kernel
theorem d_1_2_2 : decode prog_1_method_2_code 2 = .ok (.if_icmp .lt 13, 3) := by decide +kernel
theorem d_1_2_15 : decode prog_1_method_2_code 15 = .ok (.iconst 0, 1) := by decide +kernel
theorem d_1_2_16 : decode prog_1_method_2_code 16 = .ok (.invokestatic 104, 3) := by decide +kernel
theorem w_493 : (Cond.code ({ cls := "NumberHouse", name := "need", desc := "(Z)V" } : MethodName) prog_1_method_36_code (1 : Nat) (none : Option ClassFile.FieldType)) ∈ q_tbl := q_of 493 (by decide +kernel) (by decide +kernel)
theorem w_1 : (Cond.initialized "NumberHouse") ∈ q_tbl := q_of 1 (by decide +kernel) (by decide +kernel)
theorem w_491 : (Cond.methodLink "NumberHouse" (104 : Nat) ({ cls := "NumberHouse", name := "need", desc := "(Z)V" } : MethodName)) ∈ q_tbl := q_of 491 (by decide +kernel) (by decide +kernel)
theorem w_492 : (Cond.static ({ cls := "NumberHouse", name := "need", desc := "(Z)V" } : MethodName)) ∈ q_tbl := q_of 492 (by decide +kernel) (by decide +kernel)
theorem LS_NH_104 : q_LS "NumberHouse" 104 y_NH_need prog_1_method_36_code 1 none 1 := ⟨w_493, w_1, w_491, w_492, ⟨by decide, by decide, by decide +kernel⟩⟩
theorem d_1_2_5 : decode prog_1_method_2_code 5 = .ok (.iload_n 1, 1) := by decide +kernel
theorem d_1_2_6 : decode prog_1_method_2_code 6 = .ok (.bipush 8, 2) := by decide +kernel
theorem d_1_2_8 : decode prog_1_method_2_code 8 = .ok (.if_icmp .gt 7, 3) := by decide +kernel
theorem d_1_2_11 : decode prog_1_method_2_code 11 = .ok (.iconst 1, 1) := by decide +kernel
theorem d_1_2_12 : decode prog_1_method_2_code 12 = .ok (.goto 4, 3) := by decide +kernel
theorem d_1_2_19 : decode prog_1_method_2_code 19 = .ok (.aload_n 0, 1) := by decide +kernel
theorem d_1_2_20 : decode prog_1_method_2_code 20 = .ok (.getfield 14, 3) := by decide +kernel
theorem d_1_2_23 : decode prog_1_method_2_code 23 = .ok (.getfield 108, 3) := by decide +kernel
theorem d_1_2_26 : decode prog_1_method_2_code 26 = .ok (.iload_n 1, 1) := by decide +kernel
theorem d_1_2_27 : decode prog_1_method_2_code 27 = .ok (.iadd, 1) := by decide +kernel
theorem d_1_2_28 : decode prog_1_method_2_code 28 = .ok (.sipush 4100, 3) := by decide +kernel
theorem d_1_2_31 : decode prog_1_method_2_code 31 = .ok (.if_icmp .le 5, 3) := by decide +kernel
theorem d_1_2_36 : decode prog_1_method_2_code 36 = .ok (.iconst 0, 1) := by decide +kernel
theorem d_1_2_37 : decode prog_1_method_2_code 37 = .ok (.istore 4, 2) := by decide +kernel
theorem d_1_2_39 : decode prog_1_method_2_code 39 = .ok (.iload 4, 2) := by decide +kernel
theorem d_1_2_41 : decode prog_1_method_2_code 41 = .ok (.iload_n 1, 1) := by decide +kernel
theorem d_1_2_42 : decode prog_1_method_2_code 42 = .ok (.if_icmp .ge 28, 3) := by decide +kernel
theorem d_1_2_70 : decode prog_1_method_2_code 70 = .ok (.aload_n 0, 1) := by decide +kernel
theorem d_1_2_71 : decode prog_1_method_2_code 71 = .ok (.getfield 14, 3) := by decide +kernel
theorem d_1_2_74 : decode prog_1_method_2_code 74 = .ok (.getfield 108, 3) := by decide +kernel
theorem d_1_2_77 : decode prog_1_method_2_code 77 = .ok (.ireturn, 1) := by decide +kernel
theorem d_1_2_45 : decode prog_1_method_2_code 45 = .ok (.aload_n 0, 1) := by decide +kernel
theorem d_1_2_46 : decode prog_1_method_2_code 46 = .ok (.getfield 14, 3) := by decide +kernel
theorem d_1_2_49 : decode prog_1_method_2_code 49 = .ok (.lload_n 2, 1) := by decide +kernel
theorem d_1_2_50 : decode prog_1_method_2_code 50 = .ok (.bipush 8, 2) := by decide +kernel
theorem d_1_2_52 : decode prog_1_method_2_code 52 = .ok (.iload 4, 2) := by decide +kernel
theorem d_1_2_54 : decode prog_1_method_2_code 54 = .ok (.imul, 1) := by decide +kernel
theorem d_1_2_55 : decode prog_1_method_2_code 55 = .ok (.lushr, 1) := by decide +kernel
theorem d_1_2_56 : decode prog_1_method_2_code 56 = .ok (.l2i, 1) := by decide +kernel
theorem d_1_2_57 : decode prog_1_method_2_code 57 = .ok (.sipush 255, 3) := by decide +kernel
theorem d_1_2_60 : decode prog_1_method_2_code 60 = .ok (.iand, 1) := by decide +kernel
theorem d_1_2_61 : decode prog_1_method_2_code 61 = .ok (.invokevirtual 112, 3) := by decide +kernel
theorem w_564 : (Cond.code ({ cls := "NumberHouse$Sheet", name := "add", desc := "(I)V" } : MethodName) prog_11_method_3_code (3 : Nat) (none : Option ClassFile.FieldType)) ∈ q_tbl := q_of 564 (by decide +kernel) (by decide +kernel)
theorem w_561 : (Cond.methodLink "NumberHouse" (112 : Nat) ({ cls := "NumberHouse$Sheet", name := "add", desc := "(I)V" } : MethodName)) ∈ q_tbl := q_of 561 (by decide +kernel) (by decide +kernel)
theorem w_562 : (Cond.instanceMethod ({ cls := "NumberHouse$Sheet", name := "add", desc := "(I)V" } : MethodName)) ∈ q_tbl := q_of 562 (by decide +kernel) (by decide +kernel)
theorem w_563 : (Cond.selects "NumberHouse$Sheet" ({ cls := "NumberHouse$Sheet", name := "add", desc := "(I)V" } : MethodName) ({ cls := "NumberHouse$Sheet", name := "add", desc := "(I)V" } : MethodName)) ∈ q_tbl := q_of 563 (by decide +kernel) (by decide +kernel)
theorem LV_NH_112 : q_LV "NumberHouse" 112 y_She_add prog_11_method_3_code 3 none 1 := ⟨w_564, w_2, w_561, w_562, w_563, ⟨by decide, by decide, by decide +kernel⟩⟩
theorem d_1_2_64 : decode prog_1_method_2_code 64 = .ok (.iinc 4 1, 3) := by decide +kernel
theorem d_1_2_67 : decode prog_1_method_2_code 67 = .ok (.goto (-28), 3) := by decide +kernel
theorem d_1_2_34 : decode prog_1_method_2_code 34 = .ok (.iconst (-1), 1) := by decide +kernel
theorem d_1_2_35 : decode prog_1_method_2_code 35 = .ok (.ireturn, 1) := by decide +kernel
def y_NH_feed : MethodName := ⟨"NumberHouse", "feed", "(IJ)I"⟩
set_option maxRecDepth 100000 in
set_option maxHeartbeats 4000000 in
/-- feed(n, bytes) on a fresh object -/
theorem c_NH_feed (l : Launch) (D : va_G) (g : Nat → ClassId) (ws : va_W) (hlt : l.stackTraces = false) ( qO0 qO1 qO2 qA3 qA4 qA5 qA6 qO7 qO8 qO9 qO10 qO11 qO12 qO13 qO14 qA15 : Nat) (x1 : Int32) (x2 : Int64) (hO0 : ws[0]? = some (qO0, .inr (0, [.ref qO1, .ref qO2, .ref qA3, .ref qA4, .ref qA5, .ref qA6, .ref qO7, .ref qO8, .ref qO9, .ref qO10, .ref qO11, .ref qO12, .ref qO13, .ref qO14]))) (hO1 : ws[1]? = some (qO1, .inr (1, [.ref qA15, .int 4100, .int 0]))) (hA15 : ws[2]? = some (qA15, .inl (g 1, 513, .inr (.inl (fun _ => 0))))) : q_xI l y_NH_feed prog_1_method_2_code 5 (.int) 8 1 6 D g [.ref qO0, .int x1, .long x2] ws (fun r u => (¬ x1 < 1 ∧ ¬ 8 < x1 ∧ ¬ 1 = 0 ∧ (0 + x1) ≤ 4100 ∧ x1 ≤ 0 ∧ 0 = r ∧ q_un ws u [1, 2] ∧ u[1]? = some (qO1, .inr (1, [.ref qA15, .int 4100, .int 0])) ∧ u[2]? = some (qA15, .inl (g 1, 513, .inr (.inl (fun _ => 0))))) ∨ (¬ x1 < 1 ∧ ¬ 8 < x1 ∧ ¬ 1 = 0 ∧ (0 + x1) ≤ 4100 ∧ ¬ x1 ≤ 0 ∧ x1 ≤ 1 ∧ 1 = r ∧ q_un ws u [1, 2] ∧ u[1]? = some (qO1, .inr (1, [.ref qA15, .int 4100, .int 1])) ∧ u[2]? = some (qA15, .inl (g 1, 513, .inr (.inl (vp_updL (fun _ => 0) 0 (0 ||| (((((((x2.toUInt64 >>> ((0 : Int32).toInt64.toUInt64 &&& Int64.toUInt64 63)).toInt64).toInt32) &&& 255) &&& 255).toInt64) <<< ((0 : Int32).toInt64 &&& 63)))))))) ∨ (¬ x1 < 1 ∧ ¬ 8 < x1 ∧ ¬ 1 = 0 ∧ (0 + x1) ≤ 4100 ∧ ¬ x1 ≤ 0 ∧ ¬ x1 ≤ 1 ∧ x1 ≤ 2 ∧ 2 = r ∧ q_un ws u [1, 2] ∧ u[1]? = some (qO1, .inr (1, [.ref qA15, .int 4100, .int 2])) ∧ u[2]? = some (qA15, .inl (g 1, 513, .inr (.inl (vp_updL (vp_updL (fun _ => 0) 0 (0 ||| (((((((x2.toUInt64 >>> ((0 : Int32).toInt64.toUInt64 &&& Int64.toUInt64 63)).toInt64).toInt32) &&& 255) &&& 255).toInt64) <<< ((0 : Int32).toInt64 &&& 63)))) 0 ((((vp_updL (fun _ => 0) 0 (0 ||| (((((((x2.toUInt64 >>> ((0 : Int32).toInt64.toUInt64 &&& Int64.toUInt64 63)).toInt64).toInt32) &&& 255) &&& 255).toInt64) <<< ((0 : Int32).toInt64 &&& 63)))) (0 : Int32).toNatClampNeg) &&& (-65281)) ||| (((((((x2.toUInt64 >>> ((8 : Int32).toInt64.toUInt64 &&& Int64.toUInt64 63)).toInt64).toInt32) &&& 255) &&& 255).toInt64) <<< ((8 : Int32).toInt64 &&& 63)))))))) ∨ (¬ x1 < 1 ∧ ¬ 8 < x1 ∧ ¬ 1 = 0 ∧ (0 + x1) ≤ 4100 ∧ ¬ x1 ≤ 0 ∧ ¬ x1 ≤ 1 ∧ ¬ x1 ≤ 2 ∧ x1 ≤ 3 ∧ 3 = r ∧ q_un ws u [1, 2] ∧ u[1]? = some (qO1, .inr (1, [.ref qA15, .int 4100, .int 3])) ∧ u[2]? = some (qA15, .inl (g 1, 513, .inr (.inl (vp_updL (vp_updL (vp_updL (fun _ => 0) 0 (0 ||| (((((((x2.toUInt64 >>> ((0 : Int32).toInt64.toUInt64 &&& Int64.toUInt64 63)).toInt64).toInt32) &&& 255) &&& 255).toInt64) <<< ((0 : Int32).toInt64 &&& 63)))) 0 ((((vp_updL (fun _ => 0) 0 (0 ||| (((((((x2.toUInt64 >>> ((0 : Int32).toInt64.toUInt64 &&& Int64.toUInt64 63)).toInt64).toInt32) &&& 255) &&& 255).toInt64) <<< ((0 : Int32).toInt64 &&& 63)))) (0 : Int32).toNatClampNeg) &&& (-65281)) ||| (((((((x2.toUInt64 >>> ((8 : Int32).toInt64.toUInt64 &&& Int64.toUInt64 63)).toInt64).toInt32) &&& 255) &&& 255).toInt64) <<< ((8 : Int32).toInt64 &&& 63)))) 0 ((((vp_updL (vp_updL (fun _ => 0) 0 (0 ||| (((((((x2.toUInt64 >>> ((0 : Int32).toInt64.toUInt64 &&& Int64.toUInt64 63)).toInt64).toInt32) &&& 255) &&& 255).toInt64) <<< ((0 : Int32).toInt64 &&& 63)))) 0 ((((vp_updL (fun _ => 0) 0 (0 ||| (((((((x2.toUInt64 >>> ((0 : Int32).toInt64.toUInt64 &&& Int64.toUInt64 63)).toInt64).toInt32) &&& 255) &&& 255).toInt64) <<< ((0 : Int32).toInt64 &&& 63)))) (0 : Int32).toNatClampNeg) &&& (-65281)) ||| (((((((x2.toUInt64 >>> ((8 : Int32).toInt64.toUInt64 &&& Int64.toUInt64 63)).toInt64).toInt32) &&& 255) &&& 255).toInt64) <<< ((8 : Int32).toInt64 &&& 63)))) (0 : Int32).toNatClampNeg) &&& (-16711681)) ||| (((((((x2.toUInt64 >>> ((16 : Int32).toInt64.toUInt64 &&& Int64.toUInt64 63)).toInt64).toInt32) &&& 255) &&& 255).toInt64) <<< ((16 : Int32).toInt64 &&& 63)))))))) ∨ (¬ x1 < 1 ∧ ¬ 8 < x1 ∧ ¬ 1 = 0 ∧ (0 + x1) ≤ 4100 ∧ ¬ x1 ≤ 0 ∧ ¬ x1 ≤ 1 ∧ ¬ x1 ≤ 2 ∧ ¬ x1 ≤ 3 ∧ x1 ≤ 4 ∧ 4 = r ∧ q_un ws u [1, 2] ∧ u[1]? = some (qO1, .inr (1, [.ref qA15, .int 4100, .int 4])) ∧ u[2]? = some (qA15, .inl (g 1, 513, .inr (.inl (vp_updL (vp_updL (vp_updL (vp_updL (fun _ => 0) 0 (0 ||| (((((((x2.toUInt64 >>> ((0 : Int32).toInt64.toUInt64 &&& Int64.toUInt64 63)).toInt64).toInt32) &&& 255) &&& 255).toInt64) <<< ((0 : Int32).toInt64 &&& 63)))) 0 ((((vp_updL (fun _ => 0) 0 (0 ||| (((((((x2.toUInt64 >>> ((0 : Int32).toInt64.toUInt64 &&& Int64.toUInt64 63)).toInt64).toInt32) &&& 255) &&& 255).toInt64) <<< ((0 : Int32).toInt64 &&& 63)))) (0 : Int32).toNatClampNeg) &&& (-65281)) ||| (((((((x2.toUInt64 >>> ((8 : Int32).toInt64.toUInt64 &&& Int64.toUInt64 63)).toInt64).toInt32) &&& 255) &&& 255).toInt64) <<< ((8 : Int32).toInt64 &&& 63)))) 0 ((((vp_updL (vp_updL (fun _ => 0) 0 (0 ||| (((((((x2.toUInt64 >>> ((0 : Int32).toInt64.toUInt64 &&& Int64.toUInt64 63)).toInt64).toInt32) &&& 255) &&& 255).toInt64) <<< ((0 : Int32).toInt64 &&& 63)))) 0 ((((vp_updL (fun _ => 0) 0 (0 ||| (((((((x2.toUInt64 >>> ((0 : Int32).toInt64.toUInt64 &&& Int64.toUInt64 63)).toInt64).toInt32) &&& 255) &&& 255).toInt64) <<< ((0 : Int32).toInt64 &&& 63)))) (0 : Int32).toNatClampNeg) &&& (-65281)) ||| (((((((x2.toUInt64 >>> ((8 : Int32).toInt64.toUInt64 &&& Int64.toUInt64 63)).toInt64).toInt32) &&& 255) &&& 255).toInt64) <<< ((8 : Int32).toInt64 &&& 63)))) (0 : Int32).toNatClampNeg) &&& (-16711681)) ||| (((((((x2.toUInt64 >>> ((16 : Int32).toInt64.toUInt64 &&& Int64.toUInt64 63)).toInt64).toInt32) &&& 255) &&& 255).toInt64) <<< ((16 : Int32).toInt64 &&& 63)))) 0 ((((vp_updL (vp_updL (vp_updL (fun _ => 0) 0 (0 ||| (((((((x2.toUInt64 >>> ((0 : Int32).toInt64.toUInt64 &&& Int64.toUInt64 63)).toInt64).toInt32) &&& 255) &&& 255).toInt64) <<< ((0 : Int32).toInt64 &&& 63)))) 0 ((((vp_updL (fun _ => 0) 0 (0 ||| (((((((x2.toUInt64 >>> ((0 : Int32).toInt64.toUInt64 &&& Int64.toUInt64 63)).toInt64).toInt32) &&& 255) &&& 255).toInt64) <<< ((0 : Int32).toInt64 &&& 63)))) (0 : Int32).toNatClampNeg) &&& (-65281)) ||| (((((((x2.toUInt64 >>> ((8 : Int32).toInt64.toUInt64 &&& Int64.toUInt64 63)).toInt64).toInt32) &&& 255) &&& 255).toInt64) <<< ((8 : Int32).toInt64 &&& 63)))) 0 ((((vp_updL (vp_updL (fun _ => 0) 0 (0 ||| (((((((x2.toUInt64 >>> ((0 : Int32).toInt64.toUInt64 &&& Int64.toUInt64 63)).toInt64).toInt32) &&& 255) &&& 255).toInt64) <<< ((0 : Int32).toInt64 &&& 63)))) 0 ((((vp_updL (fun _ => 0) 0 (0 ||| (((((((x2.toUInt64 >>> ((0 : Int32).toInt64.toUInt64 &&& Int64.toUInt64 63)).toInt64).toInt32) &&& 255) &&& 255).toInt64) <<< ((0 : Int32).toInt64 &&& 63)))) (0 : Int32).toNatClampNeg) &&& (-65281)) ||| (((((((x2.toUInt64 >>> ((8 : Int32).toInt64.toUInt64 &&& Int64.toUInt64 63)).toInt64).toInt32) &&& 255) &&& 255).toInt64) <<< ((8 : Int32).toInt64 &&& 63)))) (0 : Int32).toNatClampNeg) &&& (-16711681)) ||| (((((((x2.toUInt64 >>> ((16 : Int32).toInt64.toUInt64 &&& Int64.toUInt64 63)).toInt64).toInt32) &&& 255) &&& 255).toInt64) <<< ((16 : Int32).toInt64 &&& 63)))) (0 : Int32).toNatClampNeg) &&& (-4278190081)) ||| (((((((x2.toUInt64 >>> ((24 : Int32).toInt64.toUInt64 &&& Int64.toUInt64 63)).toInt64).toInt32) &&& 255) &&& 255).toInt64) <<< ((24 : Int32).toInt64 &&& 63)))))))) ∨ (¬ x1 < 1 ∧ ¬ 8 < x1 ∧ ¬ 1 = 0 ∧ (0 + x1) ≤ 4100 ∧ ¬ x1 ≤ 0 ∧ ¬ x1 ≤ 1 ∧ ¬ x1 ≤ 2 ∧ ¬ x1 ≤ 3 ∧ ¬ x1 ≤ 4 ∧ x1 ≤ 5 ∧ 5 = r ∧ q_un ws u [1, 2] ∧ u[1]? = some (qO1, .inr (1, [.ref qA15, .int 4100, .int 5])) ∧ u[2]? = some (qA15, .inl (g 1, 513, .inr (.inl (vp_updL (vp_updL (vp_updL (vp_updL (vp_updL (fun _ => 0) 0 (0 ||| (((((((x2.toUInt64 >>> ((0 : Int32).toInt64.toUInt64 &&& Int64.toUInt64 63)).toInt64).toInt32) &&& 255) &&& 255).toInt64) <<< ((0 : Int32).toInt64 &&& 63)))) 0 ((((vp_updL (fun _ => 0) 0 (0 ||| (((((((x2.toUInt64 >>> ((0 : Int32).toInt64.toUInt64 &&& Int64.toUInt64 63)).toInt64).toInt32) &&& 255) &&& 255).toInt64) <<< ((0 : Int32).toInt64 &&& 63)))) (0 : Int32).toNatClampNeg) &&& (-65281)) ||| (((((((x2.toUInt64 >>> ((8 : Int32).toInt64.toUInt64 &&& Int64.toUInt64 63)).toInt64).toInt32) &&& 255) &&& 255).toInt64) <<< ((8 : Int32).toInt64 &&& 63)))) 0 ((((vp_updL (vp_updL (fun _ => 0) 0 (0 ||| (((((((x2.toUInt64 >>> ((0 : Int32).toInt64.toUInt64 &&& Int64.toUInt64 63)).toInt64).toInt32) &&& 255) &&& 255).toInt64) <<< ((0 : Int32).toInt64 &&& 63)))) 0 ((((vp_updL (fun _ => 0) 0 (0 ||| (((((((x2.toUInt64 >>> ((0 : Int32).toInt64.toUInt64 &&& Int64.toUInt64 63)).toInt64).toInt32) &&& 255) &&& 255).toInt64) <<< ((0 : Int32).toInt64 &&& 63)))) (0 : Int32).toNatClampNeg) &&& (-65281)) ||| (((((((x2.toUInt64 >>> ((8 : Int32).toInt64.toUInt64 &&& Int64.toUInt64 63)).toInt64).toInt32) &&& 255) &&& 255).toInt64) <<< ((8 : Int32).toInt64 &&& 63)))) (0 : Int32).toNatClampNeg) &&& (-16711681)) ||| (((((((x2.toUInt64 >>> ((16 : Int32).toInt64.toUInt64 &&& Int64.toUInt64 63)).toInt64).toInt32) &&& 255) &&& 255).toInt64) <<< ((16 : Int32).toInt64 &&& 63)))) 0 ((((vp_updL (vp_updL (vp_updL (fun _ => 0) 0 (0 ||| (((((((x2.toUInt64 >>> ((0 : Int32).toInt64.toUInt64 &&& Int64.toUInt64 63)).toInt64).toInt32) &&& 255) &&& 255).toInt64) <<< ((0 : Int32).toInt64 &&& 63)))) 0 ((((vp_updL (fun _ => 0) 0 (0 ||| (((((((x2.toUInt64 >>> ((0 : Int32).toInt64.toUInt64 &&& Int64.toUInt64 63)).toInt64).toInt32) &&& 255) &&& 255).toInt64) <<< ((0 : Int32).toInt64 &&& 63)))) (0 : Int32).toNatClampNeg) &&& (-65281)) ||| (((((((x2.toUInt64 >>> ((8 : Int32).toInt64.toUInt64 &&& Int64.toUInt64 63)).toInt64).toInt32) &&& 255) &&& 255).toInt64) <<< ((8 : Int32).toInt64 &&& 63)))) 0 ((((vp_updL (vp_updL (fun _ => 0) 0 (0 ||| (((((((x2.toUInt64 >>> ((0 : Int32).toInt64.toUInt64 &&& Int64.toUInt64 63)).toInt64).toInt32) &&& 255) &&& 255).toInt64) <<< ((0 : Int32).toInt64 &&& 63)))) 0 ((((vp_updL (fun _ => 0) 0 (0 ||| (((((((x2.toUInt64 >>> ((0 : Int32).toInt64.toUInt64 &&& Int64.toUInt64 63)).toInt64).toInt32) &&& 255) &&& 255).toInt64) <<< ((0 : Int32).toInt64 &&& 63)))) (0 : Int32).toNatClampNeg) &&& (-65281)) ||| (((((((x2.toUInt64 >>> ((8 : Int32).toInt64.toUInt64 &&& Int64.toUInt64 63)).toInt64).toInt32) &&& 255) &&& 255).toInt64) <<< ((8 : Int32).toInt64 &&& 63)))) (0 : Int32).toNatClampNeg) &&& (-16711681)) ||| (((((((x2.toUInt64 >>> ((16 : Int32).toInt64.toUInt64 &&& Int64.toUInt64 63)).toInt64).toInt32) &&& 255) &&& 255).toInt64) <<< ((16 : Int32).toInt64 &&& 63)))) (0 : Int32).toNatClampNeg) &&& (-4278190081)) ||| (((((((x2.toUInt64 >>> ((24 : Int32).toInt64.toUInt64 &&& Int64.toUInt64 63)).toInt64).toInt32) &&& 255) &&& 255).toInt64) <<< ((24 : Int32).toInt64 &&& 63)))) 0 ((((vp_updL (vp_updL (vp_updL (vp_updL (fun _ => 0) 0 (0 ||| (((((((x2.toUInt64 >>> ((0 : Int32).toInt64.toUInt64 &&& Int64.toUInt64 63)).toInt64).toInt32) &&& 255) &&& 255).toInt64) <<< ((0 : Int32).toInt64 &&& 63)))) 0 ((((vp_updL (fun _ => 0) 0 (0 ||| (((((((x2.toUInt64 >>> ((0 : Int32).toInt64.toUInt64 &&& Int64.toUInt64 63)).toInt64).toInt32) &&& 255) &&& 255).toInt64) <<< ((0 : Int32).toInt64 &&& 63)))) (0 : Int32).toNatClampNeg) &&& (-65281)) ||| (((((((x2.toUInt64 >>> ((8 : Int32).toInt64.toUInt64 &&& Int64.toUInt64 63)).toInt64).toInt32) &&& 255) &&& 255).toInt64) <<< ((8 : Int32).toInt64 &&& 63)))) 0 ((((vp_updL (vp_updL (fun _ => 0) 0 (0 ||| (((((((x2.toUInt64 >>> ((0 : Int32).toInt64.toUInt64 &&& Int64.toUInt64 63)).toInt64).toInt32) &&& 255) &&& 255).toInt64) <<< ((0 : Int32).toInt64 &&& 63)))) 0 ((((vp_updL (fun _ => 0) 0 (0 ||| (((((((x2.toUInt64 >>> ((0 : Int32).toInt64.toUInt64 &&& Int64.toUInt64 63)).toInt64).toInt32) &&& 255) &&& 255).toInt64) <<< ((0 : Int32).toInt64 &&& 63)))) (0 : Int32).toNatClampNeg) &&& (-65281)) ||| (((((((x2.toUInt64 >>> ((8 : Int32).toInt64.toUInt64 &&& Int64.toUInt64 63)).toInt64).toInt32) &&& 255) &&& 255).toInt64) <<< ((8 : Int32).toInt64 &&& 63)))) (0 : Int32).toNatClampNeg) &&& (-16711681)) ||| (((((((x2.toUInt64 >>> ((16 : Int32).toInt64.toUInt64 &&& Int64.toUInt64 63)).toInt64).toInt32) &&& 255) &&& 255).toInt64) <<< ((16 : Int32).toInt64 &&& 63)))) 0 ((((vp_updL (vp_updL (vp_updL (fun _ => 0) 0 (0 ||| (((((((x2.toUInt64 >>> ((0 : Int32).toInt64.toUInt64 &&& Int64.toUInt64 63)).toInt64).toInt32) &&& 255) &&& 255).toInt64) <<< ((0 : Int32).toInt64 &&& 63)))) 0 ((((vp_updL (fun _ => 0) 0 (0 ||| (((((((x2.toUInt64 >>> ((0 : Int32).toInt64.toUInt64 &&& Int64.toUInt64 63)).toInt64).toInt32) &&& 255) &&& 255).toInt64) <<< ((0 : Int32).toInt64 &&& 63)))) (0 : Int32).toNatClampNeg) &&& (-65281)) ||| (((((((x2.toUInt64 >>> ((8 : Int32).toInt64.toUInt64 &&& Int64.toUInt64 63)).toInt64).toInt32) &&& 255) &&& 255).toInt64) <<< ((8 : Int32).toInt64 &&& 63)))) 0 ((((vp_updL (vp_updL (fun _ => 0) 0 (0 ||| (((((((x2.toUInt64 >>> ((0 : Int32).toInt64.toUInt64 &&& Int64.toUInt64 63)).toInt64).toInt32) &&& 255) &&& 255).toInt64) <<< ((0 : Int32).toInt64 &&& 63)))) 0 ((((vp_updL (fun _ => 0) 0 (0 ||| (((((((x2.toUInt64 >>> ((0 : Int32).toInt64.toUInt64 &&& Int64.toUInt64 63)).toInt64).toInt32) &&& 255) &&& 255).toInt64) <<< ((0 : Int32).toInt64 &&& 63)))) (0 : Int32).toNatClampNeg) &&& (-65281)) ||| (((((((x2.toUInt64 >>> ((8 : Int32).toInt64.toUInt64 &&& Int64.toUInt64 63)).toInt64).toInt32) &&& 255) &&& 255).toInt64) <<< ((8 : Int32).toInt64 &&& 63)))) (0 : Int32).toNatClampNeg) &&& (-16711681)) ||| (((((((x2.toUInt64 >>> ((16 : Int32).toInt64.toUInt64 &&& Int64.toUInt64 63)).toInt64).toInt32) &&& 255) &&& 255).toInt64) <<< ((16 : Int32).toInt64 &&& 63)))) (0 : Int32).toNatClampNeg) &&& (-4278190081)) ||| (((((((x2.toUInt64 >>> ((24 : Int32).toInt64.toUInt64 &&& Int64.toUInt64 63)).toInt64).toInt32) &&& 255) &&& 255).toInt64) <<< ((24 : Int32).toInt64 &&& 63)))) (0 : Int32).toNatClampNeg) &&& (-1095216660481)) ||| (((((((x2.toUInt64 >>> ((32 : Int32).toInt64.toUInt64 &&& Int64.toUInt64 63)).toInt64).toInt32) &&& 255) &&& 255).toInt64) <<< ((32 : Int32).toInt64 &&& 63)))))))) ∨ (¬ x1 < 1 ∧ ¬ 8 < x1 ∧ ¬ 1 = 0 ∧ (0 + x1) ≤ 4100 ∧ ¬ x1 ≤ 0 ∧ ¬ x1 ≤ 1 ∧ ¬ x1 ≤ 2 ∧ ¬ x1 ≤ 3 ∧ ¬ x1 ≤ 4 ∧ ¬ x1 ≤ 5 ∧ x1 ≤ 6 ∧ 6 = r ∧ q_un ws u [1, 2] ∧ u[1]? = some (qO1, .inr (1, [.ref qA15, .int 4100, .int 6])) ∧ u[2]? = some (qA15, .inl (g 1, 513, .inr (.inl (vp_updL (vp_updL (vp_updL (vp_updL (vp_updL (vp_updL (fun _ => 0) 0 (0 ||| (((((((x2.toUInt64 >>> ((0 : Int32).toInt64.toUInt64 &&& Int64.toUInt64 63)).toInt64).toInt32) &&& 255) &&& 255).toInt64) <<< ((0 : Int32).toInt64 &&& 63)))) 0 ((((vp_updL (fun _ => 0) 0 (0 ||| (((((((x2.toUInt64 >>> ((0 : Int32).toInt64.toUInt64 &&& Int64.toUInt64 63)).toInt64).toInt32) &&& 255) &&& 255).toInt64) <<< ((0 : Int32).toInt64 &&& 63)))) (0 : Int32).toNatClampNeg) &&& (-65281)) ||| (((((((x2.toUInt64 >>> ((8 : Int32).toInt64.toUInt64 &&& Int64.toUInt64 63)).toInt64).toInt32) &&& 255) &&& 255).toInt64) <<< ((8 : Int32).toInt64 &&& 63)))) 0 ((((vp_updL (vp_updL (fun _ => 0) 0 (0 ||| (((((((x2.toUInt64 >>> ((0 : Int32).toInt64.toUInt64 &&& Int64.toUInt64 63)).toInt64).toInt32) &&& 255) &&& 255).toInt64) <<< ((0 : Int32).toInt64 &&& 63)))) 0 ((((vp_updL (fun _ => 0) 0 (0 ||| (((((((x2.toUInt64 >>> ((0 : Int32).toInt64.toUInt64 &&& Int64.toUInt64 63)).toInt64).toInt32) &&& 255) &&& 255).toInt64) <<< ((0 : Int32).toInt64 &&& 63)))) (0 : Int32).toNatClampNeg) &&& (-65281)) ||| (((((((x2.toUInt64 >>> ((8 : Int32).toInt64.toUInt64 &&& Int64.toUInt64 63)).toInt64).toInt32) &&& 255) &&& 255).toInt64) <<< ((8 : Int32).toInt64 &&& 63)))) (0 : Int32).toNatClampNeg) &&& (-16711681)) ||| (((((((x2.toUInt64 >>> ((16 : Int32).toInt64.toUInt64 &&& Int64.toUInt64 63)).toInt64).toInt32) &&& 255) &&& 255).toInt64) <<< ((16 : Int32).toInt64 &&& 63)))) 0 ((((vp_updL (vp_updL (vp_updL (fun _ => 0) 0 (0 ||| (((((((x2.toUInt64 >>> ((0 : Int32).toInt64.toUInt64 &&& Int64.toUInt64 63)).toInt64).toInt32) &&& 255) &&& 255).toInt64) <<< ((0 : Int32).toInt64 &&& 63)))) 0 ((((vp_updL (fun _ => 0) 0 (0 ||| (((((((x2.toUInt64 >>> ((0 : Int32).toInt64.toUInt64 &&& Int64.toUInt64 63)).toInt64).toInt32) &&& 255) &&& 255).toInt64) <<< ((0 : Int32).toInt64 &&& 63)))) (0 : Int32).toNatClampNeg) &&& (-65281)) ||| (((((((x2.toUInt64 >>> ((8 : Int32).toInt64.toUInt64 &&& Int64.toUInt64 63)).toInt64).toInt32) &&& 255) &&& 255).toInt64) <<< ((8 : Int32).toInt64 &&& 63)))) 0 ((((vp_updL (vp_updL (fun _ => 0) 0 (0 ||| (((((((x2.toUInt64 >>> ((0 : Int32).toInt64.toUInt64 &&& Int64.toUInt64 63)).toInt64).toInt32) &&& 255) &&& 255).toInt64) <<< ((0 : Int32).toInt64 &&& 63)))) 0 ((((vp_updL (fun _ => 0) 0 (0 ||| (((((((x2.toUInt64 >>> ((0 : Int32).toInt64.toUInt64 &&& Int64.toUInt64 63)).toInt64).toInt32) &&& 255) &&& 255).toInt64) <<< ((0 : Int32).toInt64 &&& 63)))) (0 : Int32).toNatClampNeg) &&& (-65281)) ||| (((((((x2.toUInt64 >>> ((8 : Int32).toInt64.toUInt64 &&& Int64.toUInt64 63)).toInt64).toInt32) &&& 255) &&& 255).toInt64) <<< ((8 : Int32).toInt64 &&& 63)))) (0 : Int32).toNatClampNeg) &&& (-16711681)) ||| (((((((x2.toUInt64 >>> ((16 : Int32).toInt64.toUInt64 &&& Int64.toUInt64 63)).toInt64).toInt32) &&& 255) &&& 255).toInt64) <<< ((16 : Int32).toInt64 &&& 63)))) (0 : Int32).toNatClampNeg) &&& (-4278190081)) ||| (((((((x2.toUInt64 >>> ((24 : Int32).toInt64.toUInt64 &&& Int64.toUInt64 63)).toInt64).toInt32) &&& 255) &&& 255).toInt64) <<< ((24 : Int32).toInt64 &&& 63)))) 0 ((((vp_updL (vp_updL (vp_updL (vp_updL (fun _ => 0) 0 (0 ||| (((((((x2.toUInt64 >>> ((0 : Int32).toInt64.toUInt64 &&& Int64.toUInt64 63)).toInt64).toInt32) &&& 255) &&& 255).toInt64) <<< ((0 : Int32).toInt64 &&& 63)))) 0 ((((vp_updL (fun _ => 0) 0 (0 ||| (((((((x2.toUInt64 >>> ((0 : Int32).toInt64.toUInt64 &&& Int64.toUInt64 63)).toInt64).toInt32) &&& 255) &&& 255).toInt64) <<< ((0 : Int32).toInt64 &&& 63)))) (0 : Int32).toNatClampNeg) &&& (-65281)) ||| (((((((x2.toUInt64 >>> ((8 : Int32).toInt64.toUInt64 &&& Int64.toUInt64 63)).toInt64).toInt32) &&& 255) &&& 255).toInt64) <<< ((8 : Int32).toInt64 &&& 63)))) 0 ((((vp_updL (vp_updL (fun _ => 0) 0 (0 ||| (((((((x2.toUInt64 >>> ((0 : Int32).toInt64.toUInt64 &&& Int64.toUInt64 63)).toInt64).toInt32) &&& 255) &&& 255).toInt64) <<< ((0 : Int32).toInt64 &&& 63)))) 0 ((((vp_updL (fun _ => 0) 0 (0 ||| (((((((x2.toUInt64 >>> ((0 : Int32).toInt64.toUInt64 &&& Int64.toUInt64 63)).toInt64).toInt32) &&& 255) &&& 255).toInt64) <<< ((0 : Int32).toInt64 &&& 63)))) (0 : Int32).toNatClampNeg) &&& (-65281)) ||| (((((((x2.toUInt64 >>> ((8 : Int32).toInt64.toUInt64 &&& Int64.toUInt64 63)).toInt64).toInt32) &&& 255) &&& 255).toInt64) <<< ((8 : Int32).toInt64 &&& 63)))) (0 : Int32).toNatClampNeg) &&& (-16711681)) ||| (((((((x2.toUInt64 >>> ((16 : Int32).toInt64.toUInt64 &&& Int64.toUInt64 63)).toInt64).toInt32) &&& 255) &&& 255).toInt64) <<< ((16 : Int32).toInt64 &&& 63)))) 0 ((((vp_updL (vp_updL (vp_updL (fun _ => 0) 0 (0 ||| (((((((x2.toUInt64 >>> ((0 : Int32).toInt64.toUInt64 &&& Int64.toUInt64 63)).toInt64).toInt32) &&& 255) &&& 255).toInt64) <<< ((0 : Int32).toInt64 &&& 63)))) 0 ((((vp_updL (fun _ => 0) 0 (0 ||| (((((((x2.toUInt64 >>> ((0 : Int32).toInt64.toUInt64 &&& Int64.toUInt64 63)).toInt64).toInt32) &&& 255) &&& 255).toInt64) <<< ((0 : Int32).toInt64 &&& 63)))) (0 : Int32).toNatClampNeg) &&& (-65281)) ||| (((((((x2.toUInt64 >>> ((8 : Int32).toInt64.toUInt64 &&& Int64.toUInt64 63)).toInt64).toInt32) &&& 255) &&& 255).toInt64) <<< ((8 : Int32).toInt64 &&& 63)))) 0 ((((vp_updL (vp_updL (fun _ => 0) 0 (0 ||| (((((((x2.toUInt64 >>> ((0 : Int32).toInt64.toUInt64 &&& Int64.toUInt64 63)).toInt64).toInt32) &&& 255) &&& 255).toInt64) <<< ((0 : Int32).toInt64 &&& 63)))) 0 ((((vp_updL (fun _ => 0) 0 (0 ||| (((((((x2.toUInt64 >>> ((0 : Int32).toInt64.toUInt64 &&& Int64.toUInt64 63)).toInt64).toInt32) &&& 255) &&& 255).toInt64) <<< ((0 : Int32).toInt64 &&& 63)))) (0 : Int32).toNatClampNeg) &&& (-65281)) ||| (((((((x2.toUInt64 >>> ((8 : Int32).toInt64.toUInt64 &&& Int64.toUInt64 63)).toInt64).toInt32) &&& 255) &&& 255).toInt64) <<< ((8 : Int32).toInt64 &&& 63)))) (0 : Int32).toNatClampNeg) &&& (-16711681)) ||| (((((((x2.toUInt64 >>> ((16 : Int32).toInt64.toUInt64 &&& Int64.toUInt64 63)).toInt64).toInt32) &&& 255) &&& 255).toInt64) <<< ((16 : Int32).toInt64 &&& 63)))) (0 : Int32).toNatClampNeg) &&& (-4278190081)) ||| (((((((x2.toUInt64 >>> ((24 : Int32).toInt64.toUInt64 &&& Int64.toUInt64 63)).toInt64).toInt32) &&& 255) &&& 255).toInt64) <<< ((24 : Int32).toInt64 &&& 63)))) (0 : Int32).toNatClampNeg) &&& (-1095216660481)) ||| (((((((x2.toUInt64 >>> ((32 : Int32).toInt64.toUInt64 &&& Int64.toUInt64 63)).toInt64).toInt32) &&& 255) &&& 255).toInt64) <<< ((32 : Int32).toInt64 &&& 63)))) 0 ((((vp_updL (vp_updL (vp_updL (vp_updL (vp_updL (fun _ => 0) 0 (0 ||| (((((((x2.toUInt64 >>> ((0 : Int32).toInt64.toUInt64 &&& Int64.toUInt64 63)).toInt64).toInt32) &&& 255) &&& 255).toInt64) <<< ((0 : Int32).toInt64 &&& 63)))) 0 ((((vp_updL (fun _ => 0) 0 (0 ||| (((((((x2.toUInt64 >>> ((0 : Int32).toInt64.toUInt64 &&& Int64.toUInt64 63)).toInt64).toInt32) &&& 255) &&& 255).toInt64) <<< ((0 : Int32).toInt64 &&& 63)))) (0 : Int32).toNatClampNeg) &&& (-65281)) ||| (((((((x2.toUInt64 >>> ((8 : Int32).toInt64.toUInt64 &&& Int64.toUInt64 63)).toInt64).toInt32) &&& 255) &&& 255).toInt64) <<< ((8 : Int32).toInt64 &&& 63)))) 0 ((((vp_updL (vp_updL (fun _ => 0) 0 (0 ||| (((((((x2.toUInt64 >>> ((0 : Int32).toInt64.toUInt64 &&& Int64.toUInt64 63)).toInt64).toInt32) &&& 255) &&& 255).toInt64) <<< ((0 : Int32).toInt64 &&& 63)))) 0 ((((vp_updL (fun _ => 0) 0 (0 ||| (((((((x2.toUInt64 >>> ((0 : Int32).toInt64.toUInt64 &&& Int64.toUInt64 63)).toInt64).toInt32) &&& 255) &&& 255).toInt64) <<< ((0 : Int32).toInt64 &&& 63)))) (0 : Int32).toNatClampNeg) &&& (-65281)) ||| (((((((x2.toUInt64 >>> ((8 : Int32).toInt64.toUInt64 &&& Int64.toUInt64 63)).toInt64).toInt32) &&& 255) &&& 255).toInt64) <<< ((8 : Int32).toInt64 &&& 63)))) (0 : Int32).toNatClampNeg) &&& (-16711681)) ||| (((((((x2.toUInt64 >>> ((16 : Int32).toInt64.toUInt64 &&& Int64.toUInt64 63)).toInt64).toInt32) &&& 255) &&& 255).toInt64) <<< ((16 : Int32).toInt64 &&& 63)))) 0 ((((vp_updL (vp_updL (vp_updL (fun _ => 0) 0 (0 ||| (((((((x2.toUInt64 >>> ((0 : Int32).toInt64.toUInt64 &&& Int64.toUInt64 63)).toInt64).toInt32) &&& 255) &&& 255).toInt64) <<< ((0 : Int32).toInt64 &&& 63)))) 0 ((((vp_updL (fun _ => 0) 0 (0 ||| (((((((x2.toUInt64 >>> ((0 : Int32).toInt64.toUInt64 &&& Int64.toUInt64 63)).toInt64).toInt32) &&& 255) &&& 255).toInt64) <<< ((0 : Int32).toInt64 &&& 63)))) (0 : Int32).toNatClampNeg) &&& (-65281)) ||| (((((((x2.toUInt64 >>> ((8 : Int32).toInt64.toUInt64 &&& Int64.toUInt64 63)).toInt64).toInt32) &&& 255) &&& 255).toInt64) <<< ((8 : Int32).toInt64 &&& 63)))) 0 ((((vp_updL (vp_updL (fun _ => 0) 0 (0 ||| (((((((x2.toUInt64 >>> ((0 : Int32).toInt64.toUInt64 &&& Int64.toUInt64 63)).toInt64).toInt32) &&& 255) &&& 255).toInt64) <<< ((0 : Int32).toInt64 &&& 63)))) 0 ((((vp_updL (fun _ => 0) 0 (0 ||| (((((((x2.toUInt64 >>> ((0 : Int32).toInt64.toUInt64 &&& Int64.toUInt64 63)).toInt64).toInt32) &&& 255) &&& 255).toInt64) <<< ((0 : Int32).toInt64 &&& 63)))) (0 : Int32).toNatClampNeg) &&& (-65281)) ||| (((((((x2.toUInt64 >>> ((8 : Int32).toInt64.toUInt64 &&& Int64.toUInt64 63)).toInt64).toInt32) &&& 255) &&& 255).toInt64) <<< ((8 : Int32).toInt64 &&& 63)))) (0 : Int32).toNatClampNeg) &&& (-16711681)) ||| (((((((x2.toUInt64 >>> ((16 : Int32).toInt64.toUInt64 &&& Int64.toUInt64 63)).toInt64).toInt32) &&& 255) &&& 255).toInt64) <<< ((16 : Int32).toInt64 &&& 63)))) (0 : Int32).toNatClampNeg) &&& (-4278190081)) ||| (((((((x2.toUInt64 >>> ((24 : Int32).toInt64.toUInt64 &&& Int64.toUInt64 63)).toInt64).toInt32) &&& 255) &&& 255).toInt64) <<< ((24 : Int32).toInt64 &&& 63)))) 0 ((((vp_updL (vp_updL (vp_updL (vp_updL (fun _ => 0) 0 (0 ||| (((((((x2.toUInt64 >>> ((0 : Int32).toInt64.toUInt64 &&& Int64.toUInt64 63)).toInt64).toInt32) &&& 255) &&& 255).toInt64) <<< ((0 : Int32).toInt64 &&& 63)))) 0 ((((vp_updL (fun _ => 0) 0 (0 ||| (((((((x2.toUInt64 >>> ((0 : Int32).toInt64.toUInt64 &&& Int64.toUInt64 63)).toInt64).toInt32) &&& 255) &&& 255).toInt64) <<< ((0 : Int32).toInt64 &&& 63)))) (0 : Int32).toNatClampNeg) &&& (-65281)) ||| (((((((x2.toUInt64 >>> ((8 : Int32).toInt64.toUInt64 &&& Int64.toUInt64 63)).toInt64).toInt32) &&& 255) &&& 255).toInt64) <<< ((8 : Int32).toInt64 &&& 63)))) 0 ((((vp_updL (vp_updL (fun _ => 0) 0 (0 ||| (((((((x2.toUInt64 >>> ((0 : Int32).toInt64.toUInt64 &&& Int64.toUInt64 63)).toInt64).toInt32) &&& 255) &&& 255).toInt64) <<< ((0 : Int32).toInt64 &&& 63)))) 0 ((((vp_updL (fun _ => 0) 0 (0 ||| (((((((x2.toUInt64 >>> ((0 : Int32).toInt64.toUInt64 &&& Int64.toUInt64 63)).toInt64).toInt32) &&& 255) &&& 255).toInt64) <<< ((0 : Int32).toInt64 &&& 63)))) (0 : Int32).toNatClampNeg) &&& (-65281)) ||| (((((((x2.toUInt64 >>> ((8 : Int32).toInt64.toUInt64 &&& Int64.toUInt64 63)).toInt64).toInt32) &&& 255) &&& 255).toInt64) <<< ((8 : Int32).toInt64 &&& 63)))) (0 : Int32).toNatClampNeg) &&& (-16711681)) ||| (((((((x2.toUInt64 >>> ((16 : Int32).toInt64.toUInt64 &&& Int64.toUInt64 63)).toInt64).toInt32) &&& 255) &&& 255).toInt64) <<< ((16 : Int32).toInt64 &&& 63)))) 0 ((((vp_updL (vp_updL (vp_updL (fun _ => 0) 0 (0 ||| (((((((x2.toUInt64 >>> ((0 : Int32).toInt64.toUInt64 &&& Int64.toUInt64 63)).toInt64).toInt32) &&& 255) &&& 255).toInt64) <<< ((0 : Int32).toInt64 &&& 63)))) 0 ((((vp_updL (fun _ => 0) 0 (0 ||| (((((((x2.toUInt64 >>> ((0 : Int32).toInt64.toUInt64 &&& Int64.toUInt64 63)).toInt64).toInt32) &&& 255) &&& 255).toInt64) <<< ((0 : Int32).toInt64 &&& 63)))) (0 : Int32).toNatClampNeg) &&& (-65281)) ||| (((((((x2.toUInt64 >>> ((8 : Int32).toInt64.toUInt64 &&& Int64.toUInt64 63)).toInt64).toInt32) &&& 255) &&& 255).toInt64) <<< ((8 : Int32).toInt64 &&& 63)))) 0 ((((vp_updL (vp_updL (fun _ => 0) 0 (0 ||| (((((((x2.toUInt64 >>> ((0 : Int32).toInt64.toUInt64 &&& Int64.toUInt64 63)).toInt64).toInt32) &&& 255) &&& 255).toInt64) <<< ((0 : Int32).toInt64 &&& 63)))) 0 ((((vp_updL (fun _ => 0) 0 (0 ||| (((((((x2.toUInt64 >>> ((0 : Int32).toInt64.toUInt64 &&& Int64.toUInt64 63)).toInt64).toInt32) &&& 255) &&& 255).toInt64) <<< ((0 : Int32).toInt64 &&& 63)))) (0 : Int32).toNatClampNeg) &&& (-65281)) ||| (((((((x2.toUInt64 >>> ((8 : Int32).toInt64.toUInt64 &&& Int64.toUInt64 63)).toInt64).toInt32) &&& 255) &&& 255).toInt64) <<< ((8 : Int32).toInt64 &&& 63)))) (0 : Int32).toNatClampNeg) &&& (-16711681)) ||| (((((((x2.toUInt64 >>> ((16 : Int32).toInt64.toUInt64 &&& Int64.toUInt64 63)).toInt64).toInt32) &&& 255) &&& 255).toInt64) <<< ((16 : Int32).toInt64 &&& 63)))) (0 : Int32).toNatClampNeg) &&& (-4278190081)) ||| (((((((x2.toUInt64 >>> ((24 : Int32).toInt64.toUInt64 &&& Int64.toUInt64 63)).toInt64).toInt32) &&& 255) &&& 255).toInt64) <<< ((24 : Int32).toInt64 &&& 63)))) (0 : Int32).toNatClampNeg) &&& (-1095216660481)) ||| (((((((x2.toUInt64 >>> ((32 : Int32).toInt64.toUInt64 &&& Int64.toUInt64 63)).toInt64).toInt32) &&& 255) &&& 255).toInt64) <<< ((32 : Int32).toInt64 &&& 63)))) (0 : Int32).toNatClampNeg) &&& (-280375465082881)) ||| (((((((x2.toUInt64 >>> ((40 : Int32).toInt64.toUInt64 &&& Int64.toUInt64 63)).toInt64).toInt32) &&& 255) &&& 255).toInt64) <<< ((40 : Int32).toInt64 &&& 63)))))))) ∨ (¬ x1 < 1 ∧ ¬ 8 < x1 ∧ ¬ 1 = 0 ∧ (0 + x1) ≤ 4100 ∧ ¬ x1 ≤ 0 ∧ ¬ x1 ≤ 1 ∧ ¬ x1 ≤ 2 ∧ ¬ x1 ≤ 3 ∧ ¬ x1 ≤ 4 ∧ ¬ x1 ≤ 5 ∧ ¬ x1 ≤ 6 ∧ x1 ≤ 7 ∧ 7 = r ∧ q_un ws u [1, 2] ∧ u[1]? = some (qO1, .inr (1, [.ref qA15, .int 4100, .int 7])) ∧ u[2]? = some (qA15, .inl (g 1, 513, .inr (.inl (vp_updL (vp_updL (vp_updL (vp_updL (vp_updL (vp_updL (vp_updL (fun _ => 0) 0 (0 ||| (((((((x2.toUInt64 >>> ((0 : Int32).toInt64.toUInt64 &&& Int64.toUInt64 63)).toInt64).toInt32) &&& 255) &&& 255).toInt64) <<< ((0 : Int32).toInt64 &&& 63)))) 0 ((((vp_updL (fun _ => 0) 0 (0 ||| (((((((x2.toUInt64 >>> ((0 : Int32).toInt64.toUInt64 &&& Int64.toUInt64 63)).toInt64).toInt32) &&& 255) &&& 255).toInt64) <<< ((0 : Int32).toInt64 &&& 63)))) (0 : Int32).toNatClampNeg) &&& (-65281)) ||| (((((((x2.toUInt64 >>> ((8 : Int32).toInt64.toUInt64 &&& Int64.toUInt64 63)).toInt64).toInt32) &&& 255) &&& 255).toInt64) <<< ((8 : Int32).toInt64 &&& 63)))) 0 ((((vp_updL (vp_updL (fun _ => 0) 0 (0 ||| (((((((x2.toUInt64 >>> ((0 : Int32).toInt64.toUInt64 &&& Int64.toUInt64 63)).toInt64).toInt32) &&& 255) &&& 255).toInt64) <<< ((0 : Int32).toInt64 &&& 63)))) 0 ((((vp_updL (fun _ => 0) 0 (0 ||| (((((((x2.toUInt64 >>> ((0 : Int32).toInt64.toUInt64 &&& Int64.toUInt64 63)).toInt64).toInt32) &&& 255) &&& 255).toInt64) <<< ((0 : Int32).toInt64 &&& 63)))) (0 : Int32).toNatClampNeg) &&& (-65281)) ||| (((((((x2.toUInt64 >>> ((8 : Int32).toInt64.toUInt64 &&& Int64.toUInt64 63)).toInt64).toInt32) &&& 255) &&& 255).toInt64) <<< ((8 : Int32).toInt64 &&& 63)))) (0 : Int32).toNatClampNeg) &&& (-16711681)) ||| (((((((x2.toUInt64 >>> ((16 : Int32).toInt64.toUInt64 &&& Int64.toUInt64 63)).toInt64).toInt32) &&& 255) &&& 255).toInt64) <<< ((16 : Int32).toInt64 &&& 63)))) 0 ((((vp_updL (vp_updL (vp_updL (fun _ => 0) 0 (0 ||| (((((((x2.toUInt64 >>> ((0 : Int32).toInt64.toUInt64 &&& Int64.toUInt64 63)).toInt64).toInt32) &&& 255) &&& 255).toInt64) <<< ((0 : Int32).toInt64 &&& 63)))) 0 ((((vp_updL (fun _ => 0) 0 (0 ||| (((((((x2.toUInt64 >>> ((0 : Int32).toInt64.toUInt64 &&& Int64.toUInt64 63)).toInt64).toInt32) &&& 255) &&& 255).toInt64) <<< ((0 : Int32).toInt64 &&& 63)))) (0 : Int32).toNatClampNeg) &&& (-65281)) ||| (((((((x2.toUInt64 >>> ((8 : Int32).toInt64.toUInt64 &&& Int64.toUInt64 63)).toInt64).toInt32) &&& 255) &&& 255).toInt64) <<< ((8 : Int32).toInt64 &&& 63)))) 0 ((((vp_updL (vp_updL (fun _ => 0) 0 (0 ||| (((((((x2.toUInt64 >>> ((0 : Int32).toInt64.toUInt64 &&& Int64.toUInt64 63)).toInt64).toInt32) &&& 255) &&& 255).toInt64) <<< ((0 : Int32).toInt64 &&& 63)))) 0 ((((vp_updL (fun _ => 0) 0 (0 ||| (((((((x2.toUInt64 >>> ((0 : Int32).toInt64.toUInt64 &&& Int64.toUInt64 63)).toInt64).toInt32) &&& 255) &&& 255).toInt64) <<< ((0 : Int32).toInt64 &&& 63)))) (0 : Int32).toNatClampNeg) &&& (-65281)) ||| (((((((x2.toUInt64 >>> ((8 : Int32).toInt64.toUInt64 &&& Int64.toUInt64 63)).toInt64).toInt32) &&& 255) &&& 255).toInt64) <<< ((8 : Int32).toInt64 &&& 63)))) (0 : Int32).toNatClampNeg) &&& (-16711681)) ||| (((((((x2.toUInt64 >>> ((16 : Int32).toInt64.toUInt64 &&& Int64.toUInt64 63)).toInt64).toInt32) &&& 255) &&& 255).toInt64) <<< ((16 : Int32).toInt64 &&& 63)))) (0 : Int32).toNatClampNeg) &&& (-4278190081)) ||| (((((((x2.toUInt64 >>> ((24 : Int32).toInt64.toUInt64 &&& Int64.toUInt64 63)).toInt64).toInt32) &&& 255) &&& 255).toInt64) <<< ((24 : Int32).toInt64 &&& 63)))) 0 ((((vp_updL (vp_updL (vp_updL (vp_updL (fun _ => 0) 0 (0 ||| (((((((x2.toUInt64 >>> ((0 : Int32).toInt64.toUInt64 &&& Int64.toUInt64 63)).toInt64).toInt32) &&& 255) &&& 255).toInt64) <<< ((0 : Int32).toInt64 &&& 63)))) 0 ((((vp_updL (fun _ => 0) 0 (0 ||| (((((((x2.toUInt64 >>> ((0 : Int32).toInt64.toUInt64 &&& Int64.toUInt64 63)).toInt64).toInt32) &&& 255) &&& 255).toInt64) <<< ((0 : Int32).toInt64 &&& 63)))) (0 : Int32).toNatClampNeg) &&& (-65281)) ||| (((((((x2.toUInt64 >>> ((8 : Int32).toInt64.toUInt64 &&& Int64.toUInt64 63)).toInt64).toInt32) &&& 255) &&& 255).toInt64) <<< ((8 : Int32).toInt64 &&& 63)))) 0 ((((vp_updL (vp_updL (fun _ => 0) 0 (0 ||| (((((((x2.toUInt64 >>> ((0 : Int32).toInt64.toUInt64 &&& Int64.toUInt64 63)).toInt64).toInt32) &&& 255) &&& 255).toInt64) <<< ((0 : Int32).toInt64 &&& 63)))) 0 ((((vp_updL (fun _ => 0) 0 (0 ||| (((((((x2.toUInt64 >>> ((0 : Int32).toInt64.toUInt64 &&& Int64.toUInt64 63)).toInt64).toInt32) &&& 255) &&& 255).toInt64) <<< ((0 : Int32).toInt64 &&& 63)))) (0 : Int32).toNatClampNeg) &&& (-65281)) ||| (((((((x2.toUInt64 >>> ((8 : Int32).toInt64.toUInt64 &&& Int64.toUInt64 63)).toInt64).toInt32) &&& 255) &&& 255).toInt64) <<< ((8 : Int32).toInt64 &&& 63)))) (0 : Int32).toNatClampNeg) &&& (-16711681)) ||| (((((((x2.toUInt64 >>> ((16 : Int32).toInt64.toUInt64 &&& Int64.toUInt64 63)).toInt64).toInt32) &&& 255) &&& 255).toInt64) <<< ((16 : Int32).toInt64 &&& 63)))) 0 ((((vp_updL (vp_updL (vp_updL (fun _ => 0) 0 (0 ||| (((((((x2.toUInt64 >>> ((0 : Int32).toInt64.toUInt64 &&& Int64.toUInt64 63)).toInt64).toInt32) &&& 255) &&& 255).toInt64) <<< ((0 : Int32).toInt64 &&& 63)))) 0 ((((vp_updL (fun _ => 0) 0 (0 ||| (((((((x2.toUInt64 >>> ((0 : Int32).toInt64.toUInt64 &&& Int64.toUInt64 63)).toInt64).toInt32) &&& 255) &&& 255).toInt64) <<< ((0 : Int32).toInt64 &&& 63)))) (0 : Int32).toNatClampNeg) &&& (-65281)) ||| (((((((x2.toUInt64 >>> ((8 : Int32).toInt64.toUInt64 &&& Int64.toUInt64 63)).toInt64).toInt32) &&& 255) &&& 255).toInt64) <<< ((8 : Int32).toInt64 &&& 63)))) 0 ((((vp_updL (vp_updL (fun _ => 0) 0 (0 ||| (((((((x2.toUInt64 >>> ((0 : Int32).toInt64.toUInt64 &&& Int64.toUInt64 63)).toInt64).toInt32) &&& 255) &&& 255).toInt64) <<< ((0 : Int32).toInt64 &&& 63)))) 0 ((((vp_updL (fun _ => 0) 0 (0 ||| (((((((x2.toUInt64 >>> ((0 : Int32).toInt64.toUInt64 &&& Int64.toUInt64 63)).toInt64).toInt32) &&& 255) &&& 255).toInt64) <<< ((0 : Int32).toInt64 &&& 63)))) (0 : Int32).toNatClampNeg) &&& (-65281)) ||| (((((((x2.toUInt64 >>> ((8 : Int32).toInt64.toUInt64 &&& Int64.toUInt64 63)).toInt64).toInt32) &&& 255) &&& 255).toInt64) <<< ((8 : Int32).toInt64 &&& 63)))) (0 : Int32).toNatClampNeg) &&& (-16711681)) ||| (((((((x2.toUInt64 >>> ((16 : Int32).toInt64.toUInt64 &&& Int64.toUInt64 63)).toInt64).toInt32) &&& 255) &&& 255).toInt64) <<< ((16 : Int32).toInt64 &&& 63)))) (0 : Int32).toNatClampNeg) &&& (-4278190081)) ||| (((((((x2.toUInt64 >>> ((24 : Int32).toInt64.toUInt64 &&& Int64.toUInt64 63)).toInt64).toInt32) &&& 255) &&& 255).toInt64) <<< ((24 : Int32).toInt64 &&& 63)))) (0 : Int32).toNatClampNeg) &&& (-1095216660481)) ||| (((((((x2.toUInt64 >>> ((32 : Int32).toInt64.toUInt64 &&& Int64.toUInt64 63)).toInt64).toInt32) &&& 255) &&& 255).toInt64) <<< ((32 : Int32).toInt64 &&& 63)))) 0 ((((vp_updL (vp_updL (vp_updL (vp_updL (vp_updL (fun _ => 0) 0 (0 ||| (((((((x2.toUInt64 >>> ((0 : Int32).toInt64.toUInt64 &&& Int64.toUInt64 63)).toInt64).toInt32) &&& 255) &&& 255).toInt64) <<< ((0 : Int32).toInt64 &&& 63)))) 0 ((((vp_updL (fun _ => 0) 0 (0 ||| (((((((x2.toUInt64 >>> ((0 : Int32).toInt64.toUInt64 &&& Int64.toUInt64 63)).toInt64).toInt32) &&& 255) &&& 255).toInt64) <<< ((0 : Int32).toInt64 &&& 63)))) (0 : Int32).toNatClampNeg) &&& (-65281)) ||| (((((((x2.toUInt64 >>> ((8 : Int32).toInt64.toUInt64 &&& Int64.toUInt64 63)).toInt64).toInt32) &&& 255) &&& 255).toInt64) <<< ((8 : Int32).toInt64 &&& 63)))) 0 ((((vp_updL (vp_updL (fun _ => 0) 0 (0 ||| (((((((x2.toUInt64 >>> ((0 : Int32).toInt64.toUInt64 &&& Int64.toUInt64 63)).toInt64).toInt32) &&& 255) &&& 255).toInt64) <<< ((0 : Int32).toInt64 &&& 63)))) 0 ((((vp_updL (fun _ => 0) 0 (0 ||| (((((((x2.toUInt64 >>> ((0 : Int32).toInt64.toUInt64 &&& Int64.toUInt64 63)).toInt64).toInt32) &&& 255) &&& 255).toInt64) <<< ((0 : Int32).toInt64 &&& 63)))) (0 : Int32).toNatClampNeg) &&& (-65281)) ||| (((((((x2.toUInt64 >>> ((8 : Int32).toInt64.toUInt64 &&& Int64.toUInt64 63)).toInt64).toInt32) &&& 255) &&& 255).toInt64) <<< ((8 : Int32).toInt64 &&& 63)))) (0 : Int32).toNatClampNeg) &&& (-16711681)) ||| (((((((x2.toUInt64 >>> ((16 : Int32).toInt64.toUInt64 &&& Int64.toUInt64 63)).toInt64).toInt32) &&& 255) &&& 255).toInt64) <<< ((16 : Int32).toInt64 &&& 63)))) 0 ((((vp_updL (vp_updL (vp_updL (fun _ => 0) 0 (0 ||| (((((((x2.toUInt64 >>> ((0 : Int32).toInt64.toUInt64 &&& Int64.toUInt64 63)).toInt64).toInt32) &&& 255) &&& 255).toInt64) <<< ((0 : Int32).toInt64 &&& 63)))) 0 ((((vp_updL (fun _ => 0) 0 (0 ||| (((((((x2.toUInt64 >>> ((0 : Int32).toInt64.toUInt64 &&& Int64.toUInt64 63)).toInt64).toInt32) &&& 255) &&& 255).toInt64) <<< ((0 : Int32).toInt64 &&& 63)))) (0 : Int32).toNatClampNeg) &&& (-65281)) ||| (((((((x2.toUInt64 >>> ((8 : Int32).toInt64.toUInt64 &&& Int64.toUInt64 63)).toInt64).toInt32) &&& 255) &&& 255).toInt64) <<< ((8 : Int32).toInt64 &&& 63)))) 0 ((((vp_updL (vp_updL (fun _ => 0) 0 (0 ||| (((((((x2.toUInt64 >>> ((0 : Int32).toInt64.toUInt64 &&& Int64.toUInt64 63)).toInt64).toInt32) &&& 255) &&& 255).toInt64) <<< ((0 : Int32).toInt64 &&& 63)))) 0 ((((vp_updL (fun _ => 0) 0 (0 ||| (((((((x2.toUInt64 >>> ((0 : Int32).toInt64.toUInt64 &&& Int64.toUInt64 63)).toInt64).toInt32) &&& 255) &&& 255).toInt64) <<< ((0 : Int32).toInt64 &&& 63)))) (0 : Int32).toNatClampNeg) &&& (-65281)) ||| (((((((x2.toUInt64 >>> ((8 : Int32).toInt64.toUInt64 &&& Int64.toUInt64 63)).toInt64).toInt32) &&& 255) &&& 255).toInt64) <<< ((8 : Int32).toInt64 &&& 63)))) (0 : Int32).toNatClampNeg) &&& (-16711681)) ||| (((((((x2.toUInt64 >>> ((16 : Int32).toInt64.toUInt64 &&& Int64.toUInt64 63)).toInt64).toInt32) &&& 255) &&& 255).toInt64) <<< ((16 : Int32).toInt64 &&& 63)))) (0 : Int32).toNatClampNeg) &&& (-4278190081)) ||| (((((((x2.toUInt64 >>> ((24 : Int32).toInt64.toUInt64 &&& Int64.toUInt64 63)).toInt64).toInt32) &&& 255) &&& 255).toInt64) <<< ((24 : Int32).toInt64 &&& 63)))) 0 ((((vp_updL (vp_updL (vp_updL (vp_updL (fun _ => 0) 0 (0 ||| (((((((x2.toUInt64 >>> ((0 : Int32).toInt64.toUInt64 &&& Int64.toUInt64 63)).toInt64).toInt32) &&& 255) &&& 255).toInt64) <<< ((0 : Int32).toInt64 &&& 63)))) 0 ((((vp_updL (fun _ => 0) 0 (0 ||| (((((((x2.toUInt64 >>> ((0 : Int32).toInt64.toUInt64 &&& Int64.toUInt64 63)).toInt64).toInt32) &&& 255) &&& 255).toInt64) <<< ((0 : Int32).toInt64 &&& 63)))) (0 : Int32).toNatClampNeg) &&& (-65281)) ||| (((((((x2.toUInt64 >>> ((8 : Int32).toInt64.toUInt64 &&& Int64.toUInt64 63)).toInt64).toInt32) &&& 255) &&& 255).toInt64) <<< ((8 : Int32).toInt64 &&& 63)))) 0 ((((vp_updL (vp_updL (fun _ => 0) 0 (0 ||| (((((((x2.toUInt64 >>> ((0 : Int32).toInt64.toUInt64 &&& Int64.toUInt64 63)).toInt64).toInt32) &&& 255) &&& 255).toInt64) <<< ((0 : Int32).toInt64 &&& 63)))) 0 ((((vp_updL (fun _ => 0) 0 (0 ||| (((((((x2.toUInt64 >>> ((0 : Int32).toInt64.toUInt64 &&& Int64.toUInt64 63)).toInt64).toInt32) &&& 255) &&& 255).toInt64) <<< ((0 : Int32).toInt64 &&& 63)))) (0 : Int32).toNatClampNeg) &&& (-65281)) ||| (((((((x2.toUInt64 >>> ((8 : Int32).toInt64.toUInt64 &&& Int64.toUInt64 63)).toInt64).toInt32) &&& 255) &&& 255).toInt64) <<< ((8 : Int32).toInt64 &&& 63)))) (0 : Int32).toNatClampNeg) &&& (-16711681)) ||| (((((((x2.toUInt64 >>> ((16 : Int32).toInt64.toUInt64 &&& Int64.toUInt64 63)).toInt64).toInt32) &&& 255) &&& 255).toInt64) <<< ((16 : Int32).toInt64 &&& 63)))) 0 ((((vp_updL (vp_updL (vp_updL (fun _ => 0) 0 (0 ||| (((((((x2.toUInt64 >>> ((0 : Int32).toInt64.toUInt64 &&& Int64.toUInt64 63)).toInt64).toInt32) &&& 255) &&& 255).toInt64) <<< ((0 : Int32).toInt64 &&& 63)))) 0 ((((vp_updL (fun _ => 0) 0 (0 ||| (((((((x2.toUInt64 >>> ((0 : Int32).toInt64.toUInt64 &&& Int64.toUInt64 63)).toInt64).toInt32) &&& 255) &&& 255).toInt64) <<< ((0 : Int32).toInt64 &&& 63)))) (0 : Int32).toNatClampNeg) &&& (-65281)) ||| (((((((x2.toUInt64 >>> ((8 : Int32).toInt64.toUInt64 &&& Int64.toUInt64 63)).toInt64).toInt32) &&& 255) &&& 255).toInt64) <<< ((8 : Int32).toInt64 &&& 63)))) 0 ((((vp_updL (vp_updL (fun _ => 0) 0 (0 ||| (((((((x2.toUInt64 >>> ((0 : Int32).toInt64.toUInt64 &&& Int64.toUInt64 63)).toInt64).toInt32) &&& 255) &&& 255).toInt64) <<< ((0 : Int32).toInt64 &&& 63)))) 0 ((((vp_updL (fun _ => 0) 0 (0 ||| (((((((x2.toUInt64 >>> ((0 : Int32).toInt64.toUInt64 &&& Int64.toUInt64 63)).toInt64).toInt32) &&& 255) &&& 255).toInt64) <<< ((0 : Int32).toInt64 &&& 63)))) (0 : Int32).toNatClampNeg) &&& (-65281)) ||| (((((((x2.toUInt64 >>> ((8 : Int32).toInt64.toUInt64 &&& Int64.toUInt64 63)).toInt64).toInt32) &&& 255) &&& 255).toInt64) <<< ((8 : Int32).toInt64 &&& 63)))) (0 : Int32).toNatClampNeg) &&& (-16711681)) ||| (((((((x2.toUInt64 >>> ((16 : Int32).toInt64.toUInt64 &&& Int64.toUInt64 63)).toInt64).toInt32) &&& 255) &&& 255).toInt64) <<< ((16 : Int32).toInt64 &&& 63)))) (0 : Int32).toNatClampNeg) &&& (-4278190081)) ||| (((((((x2.toUInt64 >>> ((24 : Int32).toInt64.toUInt64 &&& Int64.toUInt64 63)).toInt64).toInt32) &&& 255) &&& 255).toInt64) <<< ((24 : Int32).toInt64 &&& 63)))) (0 : Int32).toNatClampNeg) &&& (-1095216660481)) ||| (((((((x2.toUInt64 >>> ((32 : Int32).toInt64.toUInt64 &&& Int64.toUInt64 63)).toInt64).toInt32) &&& 255) &&& 255).toInt64) <<< ((32 : Int32).toInt64 &&& 63)))) (0 : Int32).toNatClampNeg) &&& (-280375465082881)) ||| (((((((x2.toUInt64 >>> ((40 : Int32).toInt64.toUInt64 &&& Int64.toUInt64 63)).toInt64).toInt32) &&& 255) &&& 255).toInt64) <<< ((40 : Int32).toInt64 &&& 63)))) 0 ((((vp_updL (vp_updL (vp_updL (vp_updL (vp_updL (vp_updL (fun _ => 0) 0 (0 ||| (((((((x2.toUInt64 >>> ((0 : Int32).toInt64.toUInt64 &&& Int64.toUInt64 63)).toInt64).toInt32) &&& 255) &&& 255).toInt64) <<< ((0 : Int32).toInt64 &&& 63)))) 0 ((((vp_updL (fun _ => 0) 0 (0 ||| (((((((x2.toUInt64 >>> ((0 : Int32).toInt64.toUInt64 &&& Int64.toUInt64 63)).toInt64).toInt32) &&& 255) &&& 255).toInt64) <<< ((0 : Int32).toInt64 &&& 63)))) (0 : Int32).toNatClampNeg) &&& (-65281)) ||| (((((((x2.toUInt64 >>> ((8 : Int32).toInt64.toUInt64 &&& Int64.toUInt64 63)).toInt64).toInt32) &&& 255) &&& 255).toInt64) <<< ((8 : Int32).toInt64 &&& 63)))) 0 ((((vp_updL (vp_updL (fun _ => 0) 0 (0 ||| (((((((x2.toUInt64 >>> ((0 : Int32).toInt64.toUInt64 &&& Int64.toUInt64 63)).toInt64).toInt32) &&& 255) &&& 255).toInt64) <<< ((0 : Int32).toInt64 &&& 63)))) 0 ((((vp_updL (fun _ => 0) 0 (0 ||| (((((((x2.toUInt64 >>> ((0 : Int32).toInt64.toUInt64 &&& Int64.toUInt64 63)).toInt64).toInt32) &&& 255) &&& 255).toInt64) <<< ((0 : Int32).toInt64 &&& 63)))) (0 : Int32).toNatClampNeg) &&& (-65281)) ||| (((((((x2.toUInt64 >>> ((8 : Int32).toInt64.toUInt64 &&& Int64.toUInt64 63)).toInt64).toInt32) &&& 255) &&& 255).toInt64) <<< ((8 : Int32).toInt64 &&& 63)))) (0 : Int32).toNatClampNeg) &&& (-16711681)) ||| (((((((x2.toUInt64 >>> ((16 : Int32).toInt64.toUInt64 &&& Int64.toUInt64 63)).toInt64).toInt32) &&& 255) &&& 255).toInt64) <<< ((16 : Int32).toInt64 &&& 63)))) 0 ((((vp_updL (vp_updL (vp_updL (fun _ => 0) 0 (0 ||| (((((((x2.toUInt64 >>> ((0 : Int32).toInt64.toUInt64 &&& Int64.toUInt64 63)).toInt64).toInt32) &&& 255) &&& 255).toInt64) <<< ((0 : Int32).toInt64 &&& 63)))) 0 ((((vp_updL (fun _ => 0) 0 (0 ||| (((((((x2.toUInt64 >>> ((0 : Int32).toInt64.toUInt64 &&& Int64.toUInt64 63)).toInt64).toInt32) &&& 255) &&& 255).toInt64) <<< ((0 : Int32).toInt64 &&& 63)))) (0 : Int32).toNatClampNeg) &&& (-65281)) ||| (((((((x2.toUInt64 >>> ((8 : Int32).toInt64.toUInt64 &&& Int64.toUInt64 63)).toInt64).toInt32) &&& 255) &&& 255).toInt64) <<< ((8 : Int32).toInt64 &&& 63)))) 0 ((((vp_updL (vp_updL (fun _ => 0) 0 (0 ||| (((((((x2.toUInt64 >>> ((0 : Int32).toInt64.toUInt64 &&& Int64.toUInt64 63)).toInt64).toInt32) &&& 255) &&& 255).toInt64) <<< ((0 : Int32).toInt64 &&& 63)))) 0 ((((vp_updL (fun _ => 0) 0 (0 ||| (((((((x2.toUInt64 >>> ((0 : Int32).toInt64.toUInt64 &&& Int64.toUInt64 63)).toInt64).toInt32) &&& 255) &&& 255).toInt64) <<< ((0 : Int32).toInt64 &&& 63)))) (0 : Int32).toNatClampNeg) &&& (-65281)) ||| (((((((x2.toUInt64 >>> ((8 : Int32).toInt64.toUInt64 &&& Int64.toUInt64 63)).toInt64).toInt32) &&& 255) &&& 255).toInt64) <<< ((8 : Int32).toInt64 &&& 63)))) (0 : Int32).toNatClampNeg) &&& (-16711681)) ||| (((((((x2.toUInt64 >>> ((16 : Int32).toInt64.toUInt64 &&& Int64.toUInt64 63)).toInt64).toInt32) &&& 255) &&& 255).toInt64) <<< ((16 : Int32).toInt64 &&& 63)))) (0 : Int32).toNatClampNeg) &&& (-4278190081)) ||| (((((((x2.toUInt64 >>> ((24 : Int32).toInt64.toUInt64 &&& Int64.toUInt64 63)).toInt64).toInt32) &&& 255) &&& 255).toInt64) <<< ((24 : Int32).toInt64 &&& 63)))) 0 ((((vp_updL (vp_updL (vp_updL (vp_updL (fun _ => 0) 0 (0 ||| (((((((x2.toUInt64 >>> ((0 : Int32).toInt64.toUInt64 &&& Int64.toUInt64 63)).toInt64).toInt32) &&& 255) &&& 255).toInt64) <<< ((0 : Int32).toInt64 &&& 63)))) 0 ((((vp_updL (fun _ => 0) 0 (0 ||| (((((((x2.toUInt64 >>> ((0 : Int32).toInt64.toUInt64 &&& Int64.toUInt64 63)).toInt64).toInt32) &&& 255) &&& 255).toInt64) <<< ((0 : Int32).toInt64 &&& 63)))) (0 : Int32).toNatClampNeg) &&& (-65281)) ||| (((((((x2.toUInt64 >>> ((8 : Int32).toInt64.toUInt64 &&& Int64.toUInt64 63)).toInt64).toInt32) &&& 255) &&& 255).toInt64) <<< ((8 : Int32).toInt64 &&& 63)))) 0 ((((vp_updL (vp_updL (fun _ => 0) 0 (0 ||| (((((((x2.toUInt64 >>> ((0 : Int32).toInt64.toUInt64 &&& Int64.toUInt64 63)).toInt64).toInt32) &&& 255) &&& 255).toInt64) <<< ((0 : Int32).toInt64 &&& 63)))) 0 ((((vp_updL (fun _ => 0) 0 (0 ||| (((((((x2.toUInt64 >>> ((0 : Int32).toInt64.toUInt64 &&& Int64.toUInt64 63)).toInt64).toInt32) &&& 255) &&& 255).toInt64) <<< ((0 : Int32).toInt64 &&& 63)))) (0 : Int32).toNatClampNeg) &&& (-65281)) ||| (((((((x2.toUInt64 >>> ((8 : Int32).toInt64.toUInt64 &&& Int64.toUInt64 63)).toInt64).toInt32) &&& 255) &&& 255).toInt64) <<< ((8 : Int32).toInt64 &&& 63)))) (0 : Int32).toNatClampNeg) &&& (-16711681)) ||| (((((((x2.toUInt64 >>> ((16 : Int32).toInt64.toUInt64 &&& Int64.toUInt64 63)).toInt64).toInt32) &&& 255) &&& 255).toInt64) <<< ((16 : Int32).toInt64 &&& 63)))) 0 ((((vp_updL (vp_updL (vp_updL (fun _ => 0) 0 (0 ||| (((((((x2.toUInt64 >>> ((0 : Int32).toInt64.toUInt64 &&& Int64.toUInt64 63)).toInt64).toInt32) &&& 255) &&& 255).toInt64) <<< ((0 : Int32).toInt64 &&& 63)))) 0 ((((vp_updL (fun _ => 0) 0 (0 ||| (((((((x2.toUInt64 >>> ((0 : Int32).toInt64.toUInt64 &&& Int64.toUInt64 63)).toInt64).toInt32) &&& 255) &&& 255).toInt64) <<< ((0 : Int32).toInt64 &&& 63)))) (0 : Int32).toNatClampNeg) &&& (-65281)) ||| (((((((x2.toUInt64 >>> ((8 : Int32).toInt64.toUInt64 &&& Int64.toUInt64 63)).toInt64).toInt32) &&& 255) &&& 255).toInt64) <<< ((8 : Int32).toInt64 &&& 63)))) 0 ((((vp_updL (vp_updL (fun _ => 0) 0 (0 ||| (((((((x2.toUInt64 >>> ((0 : Int32).toInt64.toUInt64 &&& Int64.toUInt64 63)).toInt64).toInt32) &&& 255) &&& 255).toInt64) <<< ((0 : Int32).toInt64 &&& 63)))) 0 ((((vp_updL (fun _ => 0) 0 (0 ||| (((((((x2.toUInt64 >>> ((0 : Int32).toInt64.toUInt64 &&& Int64.toUInt64 63)).toInt64).toInt32) &&& 255) &&& 255).toInt64) <<< ((0 : Int32).toInt64 &&& 63)))) (0 : Int32).toNatClampNeg) &&& (-65281)) ||| (((((((x2.toUInt64 >>> ((8 : Int32).toInt64.toUInt64 &&& Int64.toUInt64 63)).toInt64).toInt32) &&& 255) &&& 255).toInt64) <<< ((8 : Int32).toInt64 &&& 63)))) (0 : Int32).toNatClampNeg) &&& (-16711681)) ||| (((((((x2.toUInt64 >>> ((16 : Int32).toInt64.toUInt64 &&& Int64.toUInt64 63)).toInt64).toInt32) &&& 255) &&& 255).toInt64) <<< ((16 : Int32).toInt64 &&& 63)))) (0 : Int32).toNatClampNeg) &&& (-4278190081)) ||| (((((((x2.toUInt64 >>> ((24 : Int32).toInt64.toUInt64 &&& Int64.toUInt64 63)).toInt64).toInt32) &&& 255) &&& 255).toInt64) <<< ((24 : Int32).toInt64 &&& 63)))) (0 : Int32).toNatClampNeg) &&& (-1095216660481)) ||| (((((((x2.toUInt64 >>> ((32 : Int32).toInt64.toUInt64 &&& Int64.toUInt64 63)).toInt64).toInt32) &&& 255) &&& 255).toInt64) <<< ((32 : Int32).toInt64 &&& 63)))) 0 ((((vp_updL (vp_updL (vp_updL (vp_updL (vp_updL (fun _ => 0) 0 (0 ||| (((((((x2.toUInt64 >>> ((0 : Int32).toInt64.toUInt64 &&& Int64.toUInt64 63)).toInt64).toInt32) &&& 255) &&& 255).toInt64) <<< ((0 : Int32).toInt64 &&& 63)))) 0 ((((vp_updL (fun _ => 0) 0 (0 ||| (((((((x2.toUInt64 >>> ((0 : Int32).toInt64.toUInt64 &&& Int64.toUInt64 63)).toInt64).toInt32) &&& 255) &&& 255).toInt64) <<< ((0 : Int32).toInt64 &&& 63)))) (0 : Int32).toNatClampNeg) &&& (-65281)) ||| (((((((x2.toUInt64 >>> ((8 : Int32).toInt64.toUInt64 &&& Int64.toUInt64 63)).toInt64).toInt32) &&& 255) &&& 255).toInt64) <<< ((8 : Int32).toInt64 &&& 63)))) 0 ((((vp_updL (vp_updL (fun _ => 0) 0 (0 ||| (((((((x2.toUInt64 >>> ((0 : Int32).toInt64.toUInt64 &&& Int64.toUInt64 63)).toInt64).toInt32) &&& 255) &&& 255).toInt64) <<< ((0 : Int32).toInt64 &&& 63)))) 0 ((((vp_updL (fun _ => 0) 0 (0 ||| (((((((x2.toUInt64 >>> ((0 : Int32).toInt64.toUInt64 &&& Int64.toUInt64 63)).toInt64).toInt32) &&& 255) &&& 255).toInt64) <<< ((0 : Int32).toInt64 &&& 63)))) (0 : Int32).toNatClampNeg) &&& (-65281)) ||| (((((((x2.toUInt64 >>> ((8 : Int32).toInt64.toUInt64 &&& Int64.toUInt64 63)).toInt64).toInt32) &&& 255) &&& 255).toInt64) <<< ((8 : Int32).toInt64 &&& 63)))) (0 : Int32).toNatClampNeg) &&& (-16711681)) ||| (((((((x2.toUInt64 >>> ((16 : Int32).toInt64.toUInt64 &&& Int64.toUInt64 63)).toInt64).toInt32) &&& 255) &&& 255).toInt64) <<< ((16 : Int32).toInt64 &&& 63)))) 0 ((((vp_updL (vp_updL (vp_updL (fun _ => 0) 0 (0 ||| (((((((x2.toUInt64 >>> ((0 : Int32).toInt64.toUInt64 &&& Int64.toUInt64 63)).toInt64).toInt32) &&& 255) &&& 255).toInt64) <<< ((0 : Int32).toInt64 &&& 63)))) 0 ((((vp_updL (fun _ => 0) 0 (0 ||| (((((((x2.toUInt64 >>> ((0 : Int32).toInt64.toUInt64 &&& Int64.toUInt64 63)).toInt64).toInt32) &&& 255) &&& 255).toInt64) <<< ((0 : Int32).toInt64 &&& 63)))) (0 : Int32).toNatClampNeg) &&& (-65281)) ||| (((((((x2.toUInt64 >>> ((8 : Int32).toInt64.toUInt64 &&& Int64.toUInt64 63)).toInt64).toInt32) &&& 255) &&& 255).toInt64) <<< ((8 : Int32).toInt64 &&& 63)))) 0 ((((vp_updL (vp_updL (fun _ => 0) 0 (0 ||| (((((((x2.toUInt64 >>> ((0 : Int32).toInt64.toUInt64 &&& Int64.toUInt64 63)).toInt64).toInt32) &&& 255) &&& 255).toInt64) <<< ((0 : Int32).toInt64 &&& 63)))) 0 ((((vp_updL (fun _ => 0) 0 (0 ||| (((((((x2.toUInt64 >>> ((0 : Int32).toInt64.toUInt64 &&& Int64.toUInt64 63)).toInt64).toInt32) &&& 255) &&& 255).toInt64) <<< ((0 : Int32).toInt64 &&& 63)))) (0 : Int32).toNatClampNeg) &&& (-65281)) ||| (((((((x2.toUInt64 >>> ((8 : Int32).toInt64.toUInt64 &&& Int64.toUInt64 63)).toInt64).toInt32) &&& 255) &&& 255).toInt64) <<< ((8 : Int32).toInt64 &&& 63)))) (0 : Int32).toNatClampNeg) &&& (-16711681)) ||| (((((((x2.toUInt64 >>> ((16 : Int32).toInt64.toUInt64 &&& Int64.toUInt64 63)).toInt64).toInt32) &&& 255) &&& 255).toInt64) <<< ((16 : Int32).toInt64 &&& 63)))) (0 : Int32).toNatClampNeg) &&& (-4278190081)) ||| (((((((x2.toUInt64 >>> ((24 : Int32).toInt64.toUInt64 &&& Int64.toUInt64 63)).toInt64).toInt32) &&& 255) &&& 255).toInt64) <<< ((24 : Int32).toInt64 &&& 63)))) 0 ((((vp_updL (vp_updL (vp_updL (vp_updL (fun _ => 0) 0 (0 ||| (((((((x2.toUInt64 >>> ((0 : Int32).toInt64.toUInt64 &&& Int64.toUInt64 63)).toInt64).toInt32) &&& 255) &&& 255).toInt64) <<< ((0 : Int32).toInt64 &&& 63)))) 0 ((((vp_updL (fun _ => 0) 0 (0 ||| (((((((x2.toUInt64 >>> ((0 : Int32).toInt64.toUInt64 &&& Int64.toUInt64 63)).toInt64).toInt32) &&& 255) &&& 255).toInt64) <<< ((0 : Int32).toInt64 &&& 63)))) (0 : Int32).toNatClampNeg) &&& (-65281)) ||| (((((((x2.toUInt64 >>> ((8 : Int32).toInt64.toUInt64 &&& Int64.toUInt64 63)).toInt64).toInt32) &&& 255) &&& 255).toInt64) <<< ((8 : Int32).toInt64 &&& 63)))) 0 ((((vp_updL (vp_updL (fun _ => 0) 0 (0 ||| (((((((x2.toUInt64 >>> ((0 : Int32).toInt64.toUInt64 &&& Int64.toUInt64 63)).toInt64).toInt32) &&& 255) &&& 255).toInt64) <<< ((0 : Int32).toInt64 &&& 63)))) 0 ((((vp_updL (fun _ => 0) 0 (0 ||| (((((((x2.toUInt64 >>> ((0 : Int32).toInt64.toUInt64 &&& Int64.toUInt64 63)).toInt64).toInt32) &&& 255) &&& 255).toInt64) <<< ((0 : Int32).toInt64 &&& 63)))) (0 : Int32).toNatClampNeg) &&& (-65281)) ||| (((((((x2.toUInt64 >>> ((8 : Int32).toInt64.toUInt64 &&& Int64.toUInt64 63)).toInt64).toInt32) &&& 255) &&& 255).toInt64) <<< ((8 : Int32).toInt64 &&& 63)))) (0 : Int32).toNatClampNeg) &&& (-16711681)) ||| (((((((x2.toUInt64 >>> ((16 : Int32).toInt64.toUInt64 &&& Int64.toUInt64 63)).toInt64).toInt32) &&& 255) &&& 255).toInt64) <<< ((16 : Int32).toInt64 &&& 63)))) 0 ((((vp_updL (vp_updL (vp_updL (fun _ => 0) 0 (0 ||| (((((((x2.toUInt64 >>> ((0 : Int32).toInt64.toUInt64 &&& Int64.toUInt64 63)).toInt64).toInt32) &&& 255) &&& 255).toInt64) <<< ((0 : Int32).toInt64 &&& 63)))) 0 ((((vp_updL (fun _ => 0) 0 (0 ||| (((((((x2.toUInt64 >>> ((0 : Int32).toInt64.toUInt64 &&& Int64.toUInt64 63)).toInt64).toInt32) &&& 255) &&& 255).toInt64) <<< ((0 : Int32).toInt64 &&& 63)))) (0 : Int32).toNatClampNeg) &&& (-65281)) ||| (((((((x2.toUInt64 >>> ((8 : Int32).toInt64.toUInt64 &&& Int64.toUInt64 63)).toInt64).toInt32) &&& 255) &&& 255).toInt64) <<< ((8 : Int32).toInt64 &&& 63)))) 0 ((((vp_updL (vp_updL (fun _ => 0) 0 (0 ||| (((((((x2.toUInt64 >>> ((0 : Int32).toInt64.toUInt64 &&& Int64.toUInt64 63)).toInt64).toInt32) &&& 255) &&& 255).toInt64) <<< ((0 : Int32).toInt64 &&& 63)))) 0 ((((vp_updL (fun _ => 0) 0 (0 ||| (((((((x2.toUInt64 >>> ((0 : Int32).toInt64.toUInt64 &&& Int64.toUInt64 63)).toInt64).toInt32) &&& 255) &&& 255).toInt64) <<< ((0 : Int32).toInt64 &&& 63)))) (0 : Int32).toNatClampNeg) &&& (-65281)) ||| (((((((x2.toUInt64 >>> ((8 : Int32).toInt64.toUInt64 &&& Int64.toUInt64 63)).toInt64).toInt32) &&& 255) &&& 255).toInt64) <<< ((8 : Int32).toInt64 &&& 63)))) (0 : Int32).toNatClampNeg) &&& (-16711681)) ||| (((((((x2.toUInt64 >>> ((16 : Int32).toInt64.toUInt64 &&& Int64.toUInt64 63)).toInt64).toInt32) &&& 255) &&& 255).toInt64) <<< ((16 : Int32).toInt64 &&& 63)))) (0 : Int32).toNatClampNeg) &&& (-4278190081)) ||| (((((((x2.toUInt64 >>> ((24 : Int32).toInt64.toUInt64 &&& Int64.toUInt64 63)).toInt64).toInt32) &&& 255) &&& 255).toInt64) <<< ((24 : Int32).toInt64 &&& 63)))) (0 : Int32).toNatClampNeg) &&& (-1095216660481)) ||| (((((((x2.toUInt64 >>> ((32 : Int32).toInt64.toUInt64 &&& Int64.toUInt64 63)).toInt64).toInt32) &&& 255) &&& 255).toInt64) <<< ((32 : Int32).toInt64 &&& 63)))) (0 : Int32).toNatClampNeg) &&& (-280375465082881)) ||| (((((((x2.toUInt64 >>> ((40 : Int32).toInt64.toUInt64 &&& Int64.toUInt64 63)).toInt64).toInt32) &&& 255) &&& 255).toInt64) <<< ((40 : Int32).toInt64 &&& 63)))) (0 : Int32).toNatClampNeg) &&& (-71776119061217281)) ||| (((((((x2.toUInt64 >>> ((48 : Int32).toInt64.toUInt64 &&& Int64.toUInt64 63)).toInt64).toInt32) &&& 255) &&& 255).toInt64) <<< ((48 : Int32).toInt64 &&& 63)))))))) ∨ (¬ x1 < 1 ∧ ¬ 8 < x1 ∧ ¬ 1 = 0 ∧ (0 + x1) ≤ 4100 ∧ ¬ x1 ≤ 0 ∧ ¬ x1 ≤ 1 ∧ ¬ x1 ≤ 2 ∧ ¬ x1 ≤ 3 ∧ ¬ x1 ≤ 4 ∧ ¬ x1 ≤ 5 ∧ ¬ x1 ≤ 6 ∧ ¬ x1 ≤ 7 ∧ 8 = r ∧ q_un ws u [1, 2] ∧ u[1]? = some (qO1, .inr (1, [.ref qA15, .int 4100, .int 8])) ∧ u[2]? = some (qA15, .inl (g 1, 513, .inr (.inl (vp_updL (vp_updL (vp_updL (vp_updL (vp_updL (vp_updL (vp_updL (vp_updL (fun _ => 0) 0 (0 ||| (((((((x2.toUInt64 >>> ((0 : Int32).toInt64.toUInt64 &&& Int64.toUInt64 63)).toInt64).toInt32) &&& 255) &&& 255).toInt64) <<< ((0 : Int32).toInt64 &&& 63)))) 0 ((((vp_updL (fun _ => 0) 0 (0 ||| (((((((x2.toUInt64 >>> ((0 : Int32).toInt64.toUInt64 &&& Int64.toUInt64 63)).toInt64).toInt32) &&& 255) &&& 255).toInt64) <<< ((0 : Int32).toInt64 &&& 63)))) (0 : Int32).toNatClampNeg) &&& (-65281)) ||| (((((((x2.toUInt64 >>> ((8 : Int32).toInt64.toUInt64 &&& Int64.toUInt64 63)).toInt64).toInt32) &&& 255) &&& 255).toInt64) <<< ((8 : Int32).toInt64 &&& 63)))) 0 ((((vp_updL (vp_updL (fun _ => 0) 0 (0 ||| (((((((x2.toUInt64 >>> ((0 : Int32).toInt64.toUInt64 &&& Int64.toUInt64 63)).toInt64).toInt32) &&& 255) &&& 255).toInt64) <<< ((0 : Int32).toInt64 &&& 63)))) 0 ((((vp_updL (fun _ => 0) 0 (0 ||| (((((((x2.toUInt64 >>> ((0 : Int32).toInt64.toUInt64 &&& Int64.toUInt64 63)).toInt64).toInt32) &&& 255) &&& 255).toInt64) <<< ((0 : Int32).toInt64 &&& 63)))) (0 : Int32).toNatClampNeg) &&& (-65281)) ||| (((((((x2.toUInt64 >>> ((8 : Int32).toInt64.toUInt64 &&& Int64.toUInt64 63)).toInt64).toInt32) &&& 255) &&& 255).toInt64) <<< ((8 : Int32).toInt64 &&& 63)))) (0 : Int32).toNatClampNeg) &&& (-16711681)) ||| (((((((x2.toUInt64 >>> ((16 : Int32).toInt64.toUInt64 &&& Int64.toUInt64 63)).toInt64).toInt32) &&& 255) &&& 255).toInt64) <<< ((16 : Int32).toInt64 &&& 63)))) 0 ((((vp_updL (vp_updL (vp_updL (fun _ => 0) 0 (0 ||| (((((((x2.toUInt64 >>> ((0 : Int32).toInt64.toUInt64 &&& Int64.toUInt64 63)).toInt64).toInt32) &&& 255) &&& 255).toInt64) <<< ((0 : Int32).toInt64 &&& 63)))) 0 ((((vp_updL (fun _ => 0) 0 (0 ||| (((((((x2.toUInt64 >>> ((0 : Int32).toInt64.toUInt64 &&& Int64.toUInt64 63)).toInt64).toInt32) &&& 255) &&& 255).toInt64) <<< ((0 : Int32).toInt64 &&& 63)))) (0 : Int32).toNatClampNeg) &&& (-65281)) ||| (((((((x2.toUInt64 >>> ((8 : Int32).toInt64.toUInt64 &&& Int64.toUInt64 63)).toInt64).toInt32) &&& 255) &&& 255).toInt64) <<< ((8 : Int32).toInt64 &&& 63)))) 0 ((((vp_updL (vp_updL (fun _ => 0) 0 (0 ||| (((((((x2.toUInt64 >>> ((0 : Int32).toInt64.toUInt64 &&& Int64.toUInt64 63)).toInt64).toInt32) &&& 255) &&& 255).toInt64) <<< ((0 : Int32).toInt64 &&& 63)))) 0 ((((vp_updL (fun _ => 0) 0 (0 ||| (((((((x2.toUInt64 >>> ((0 : Int32).toInt64.toUInt64 &&& Int64.toUInt64 63)).toInt64).toInt32) &&& 255) &&& 255).toInt64) <<< ((0 : Int32).toInt64 &&& 63)))) (0 : Int32).toNatClampNeg) &&& (-65281)) ||| (((((((x2.toUInt64 >>> ((8 : Int32).toInt64.toUInt64 &&& Int64.toUInt64 63)).toInt64).toInt32) &&& 255) &&& 255).toInt64) <<< ((8 : Int32).toInt64 &&& 63)))) (0 : Int32).toNatClampNeg) &&& (-16711681)) ||| (((((((x2.toUInt64 >>> ((16 : Int32).toInt64.toUInt64 &&& Int64.toUInt64 63)).toInt64).toInt32) &&& 255) &&& 255).toInt64) <<< ((16 : Int32).toInt64 &&& 63)))) (0 : Int32).toNatClampNeg) &&& (-4278190081)) ||| (((((((x2.toUInt64 >>> ((24 : Int32).toInt64.toUInt64 &&& Int64.toUInt64 63)).toInt64).toInt32) &&& 255) &&& 255).toInt64) <<< ((24 : Int32).toInt64 &&& 63)))) 0 ((((vp_updL (vp_updL (vp_updL (vp_updL (fun _ => 0) 0 (0 ||| (((((((x2.toUInt64 >>> ((0 : Int32).toInt64.toUInt64 &&& Int64.toUInt64 63)).toInt64).toInt32) &&& 255) &&& 255).toInt64) <<< ((0 : Int32).toInt64 &&& 63)))) 0 ((((vp_updL (fun _ => 0) 0 (0 ||| (((((((x2.toUInt64 >>> ((0 : Int32).toInt64.toUInt64 &&& Int64.toUInt64 63)).toInt64).toInt32) &&& 255) &&& 255).toInt64) <<< ((0 : Int32).toInt64 &&& 63)))) (0 : Int32).toNatClampNeg) &&& (-65281)) ||| (((((((x2.toUInt64 >>> ((8 : Int32).toInt64.toUInt64 &&& Int64.toUInt64 63)).toInt64).toInt32) &&& 255) &&& 255).toInt64) <<< ((8 : Int32).toInt64 &&& 63)))) 0 ((((vp_updL (vp_updL (fun _ => 0) 0 (0 ||| (((((((x2.toUInt64 >>> ((0 : Int32).toInt64.toUInt64 &&& Int64.toUInt64 63)).toInt64).toInt32) &&& 255) &&& 255).toInt64) <<< ((0 : Int32).toInt64 &&& 63)))) 0 ((((vp_updL (fun _ => 0) 0 (0 ||| (((((((x2.toUInt64 >>> ((0 : Int32).toInt64.toUInt64 &&& Int64.toUInt64 63)).toInt64).toInt32) &&& 255) &&& 255).toInt64) <<< ((0 : Int32).toInt64 &&& 63)))) (0 : Int32).toNatClampNeg) &&& (-65281)) ||| (((((((x2.toUInt64 >>> ((8 : Int32).toInt64.toUInt64 &&& Int64.toUInt64 63)).toInt64).toInt32) &&& 255) &&& 255).toInt64) <<< ((8 : Int32).toInt64 &&& 63)))) (0 : Int32).toNatClampNeg) &&& (-16711681)) ||| (((((((x2.toUInt64 >>> ((16 : Int32).toInt64.toUInt64 &&& Int64.toUInt64 63)).toInt64).toInt32) &&& 255) &&& 255).toInt64) <<< ((16 : Int32).toInt64 &&& 63)))) 0 ((((vp_updL (vp_updL (vp_updL (fun _ => 0) 0 (0 ||| (((((((x2.toUInt64 >>> ((0 : Int32).toInt64.toUInt64 &&& Int64.toUInt64 63)).toInt64).toInt32) &&& 255) &&& 255).toInt64) <<< ((0 : Int32).toInt64 &&& 63)))) 0 ((((vp_updL (fun _ => 0) 0 (0 ||| (((((((x2.toUInt64 >>> ((0 : Int32).toInt64.toUInt64 &&& Int64.toUInt64 63)).toInt64).toInt32) &&& 255) &&& 255).toInt64) <<< ((0 : Int32).toInt64 &&& 63)))) (0 : Int32).toNatClampNeg) &&& (-65281)) ||| (((((((x2.toUInt64 >>> ((8 : Int32).toInt64.toUInt64 &&& Int64.toUInt64 63)).toInt64).toInt32) &&& 255) &&& 255).toInt64) <<< ((8 : Int32).toInt64 &&& 63)))) 0 ((((vp_updL (vp_updL (fun _ => 0) 0 (0 ||| (((((((x2.toUInt64 >>> ((0 : Int32).toInt64.toUInt64 &&& Int64.toUInt64 63)).toInt64).toInt32) &&& 255) &&& 255).toInt64) <<< ((0 : Int32).toInt64 &&& 63)))) 0 ((((vp_updL (fun _ => 0) 0 (0 ||| (((((((x2.toUInt64 >>> ((0 : Int32).toInt64.toUInt64 &&& Int64.toUInt64 63)).toInt64).toInt32) &&& 255) &&& 255).toInt64) <<< ((0 : Int32).toInt64 &&& 63)))) (0 : Int32).toNatClampNeg) &&& (-65281)) ||| (((((((x2.toUInt64 >>> ((8 : Int32).toInt64.toUInt64 &&& Int64.toUInt64 63)).toInt64).toInt32) &&& 255) &&& 255).toInt64) <<< ((8 : Int32).toInt64 &&& 63)))) (0 : Int32).toNatClampNeg) &&& (-16711681)) ||| (((((((x2.toUInt64 >>> ((16 : Int32).toInt64.toUInt64 &&& Int64.toUInt64 63)).toInt64).toInt32) &&& 255) &&& 255).toInt64) <<< ((16 : Int32).toInt64 &&& 63)))) (0 : Int32).toNatClampNeg) &&& (-4278190081)) ||| (((((((x2.toUInt64 >>> ((24 : Int32).toInt64.toUInt64 &&& Int64.toUInt64 63)).toInt64).toInt32) &&& 255) &&& 255).toInt64) <<< ((24 : Int32).toInt64 &&& 63)))) (0 : Int32).toNatClampNeg) &&& (-1095216660481)) ||| (((((((x2.toUInt64 >>> ((32 : Int32).toInt64.toUInt64 &&& Int64.toUInt64 63)).toInt64).toInt32) &&& 255) &&& 255).toInt64) <<< ((32 : Int32).toInt64 &&& 63)))) 0 ((((vp_updL (vp_updL (vp_updL (vp_updL (vp_updL (fun _ => 0) 0 (0 ||| (((((((x2.toUInt64 >>> ((0 : Int32).toInt64.toUInt64 &&& Int64.toUInt64 63)).toInt64).toInt32) &&& 255) &&& 255).toInt64) <<< ((0 : Int32).toInt64 &&& 63)))) 0 ((((vp_updL (fun _ => 0) 0 (0 ||| (((((((x2.toUInt64 >>> ((0 : Int32).toInt64.toUInt64 &&& Int64.toUInt64 63)).toInt64).toInt32) &&& 255) &&& 255).toInt64) <<< ((0 : Int32).toInt64 &&& 63)))) (0 : Int32).toNatClampNeg) &&& (-65281)) ||| (((((((x2.toUInt64 >>> ((8 : Int32).toInt64.toUInt64 &&& Int64.toUInt64 63)).toInt64).toInt32) &&& 255) &&& 255).toInt64) <<< ((8 : Int32).toInt64 &&& 63)))) 0 ((((vp_updL (vp_updL (fun _ => 0) 0 (0 ||| (((((((x2.toUInt64 >>> ((0 : Int32).toInt64.toUInt64 &&& Int64.toUInt64 63)).toInt64).toInt32) &&& 255) &&& 255).toInt64) <<< ((0 : Int32).toInt64 &&& 63)))) 0 ((((vp_updL (fun _ => 0) 0 (0 ||| (((((((x2.toUInt64 >>> ((0 : Int32).toInt64.toUInt64 &&& Int64.toUInt64 63)).toInt64).toInt32) &&& 255) &&& 255).toInt64) <<< ((0 : Int32).toInt64 &&& 63)))) (0 : Int32).toNatClampNeg) &&& (-65281)) ||| (((((((x2.toUInt64 >>> ((8 : Int32).toInt64.toUInt64 &&& Int64.toUInt64 63)).toInt64).toInt32) &&& 255) &&& 255).toInt64) <<< ((8 : Int32).toInt64 &&& 63)))) (0 : Int32).toNatClampNeg) &&& (-16711681)) ||| (((((((x2.toUInt64 >>> ((16 : Int32).toInt64.toUInt64 &&& Int64.toUInt64 63)).toInt64).toInt32) &&& 255) &&& 255).toInt64) <<< ((16 : Int32).toInt64 &&& 63)))) 0 ((((vp_updL (vp_updL (vp_updL (fun _ => 0) 0 (0 ||| (((((((x2.toUInt64 >>> ((0 : Int32).toInt64.toUInt64 &&& Int64.toUInt64 63)).toInt64).toInt32) &&& 255) &&& 255).toInt64) <<< ((0 : Int32).toInt64 &&& 63)))) 0 ((((vp_updL (fun _ => 0) 0 (0 ||| (((((((x2.toUInt64 >>> ((0 : Int32).toInt64.toUInt64 &&& Int64.toUInt64 63)).toInt64).toInt32) &&& 255) &&& 255).toInt64) <<< ((0 : Int32).toInt64 &&& 63)))) (0 : Int32).toNatClampNeg) &&& (-65281)) ||| (((((((x2.toUInt64 >>> ((8 : Int32).toInt64.toUInt64 &&& Int64.toUInt64 63)).toInt64).toInt32) &&& 255) &&& 255).toInt64) <<< ((8 : Int32).toInt64 &&& 63)))) 0 ((((vp_updL (vp_updL (fun _ => 0) 0 (0 ||| (((((((x2.toUInt64 >>> ((0 : Int32).toInt64.toUInt64 &&& Int64.toUInt64 63)).toInt64).toInt32) &&& 255) &&& 255).toInt64) <<< ((0 : Int32).toInt64 &&& 63)))) 0 ((((vp_updL (fun _ => 0) 0 (0 ||| (((((((x2.toUInt64 >>> ((0 : Int32).toInt64.toUInt64 &&& Int64.toUInt64 63)).toInt64).toInt32) &&& 255) &&& 255).toInt64) <<< ((0 : Int32).toInt64 &&& 63)))) (0 : Int32).toNatClampNeg) &&& (-65281)) ||| (((((((x2.toUInt64 >>> ((8 : Int32).toInt64.toUInt64 &&& Int64.toUInt64 63)).toInt64).toInt32) &&& 255) &&& 255).toInt64) <<< ((8 : Int32).toInt64 &&& 63)))) (0 : Int32).toNatClampNeg) &&& (-16711681)) ||| (((((((x2.toUInt64 >>> ((16 : Int32).toInt64.toUInt64 &&& Int64.toUInt64 63)).toInt64).toInt32) &&& 255) &&& 255).toInt64) <<< ((16 : Int32).toInt64 &&& 63)))) (0 : Int32).toNatClampNeg) &&& (-4278190081)) ||| (((((((x2.toUInt64 >>> ((24 : Int32).toInt64.toUInt64 &&& Int64.toUInt64 63)).toInt64).toInt32) &&& 255) &&& 255).toInt64) <<< ((24 : Int32).toInt64 &&& 63)))) 0 ((((vp_updL (vp_updL (vp_updL (vp_updL (fun _ => 0) 0 (0 ||| (((((((x2.toUInt64 >>> ((0 : Int32).toInt64.toUInt64 &&& Int64.toUInt64 63)).toInt64).toInt32) &&& 255) &&& 255).toInt64) <<< ((0 : Int32).toInt64 &&& 63)))) 0 ((((vp_updL (fun _ => 0) 0 (0 ||| (((((((x2.toUInt64 >>> ((0 : Int32).toInt64.toUInt64 &&& Int64.toUInt64 63)).toInt64).toInt32) &&& 255) &&& 255).toInt64) <<< ((0 : Int32).toInt64 &&& 63)))) (0 : Int32).toNatClampNeg) &&& (-65281)) ||| (((((((x2.toUInt64 >>> ((8 : Int32).toInt64.toUInt64 &&& Int64.toUInt64 63)).toInt64).toInt32) &&& 255) &&& 255).toInt64) <<< ((8 : Int32).toInt64 &&& 63)))) 0 ((((vp_updL (vp_updL (fun _ => 0) 0 (0 ||| (((((((x2.toUInt64 >>> ((0 : Int32).toInt64.toUInt64 &&& Int64.toUInt64 63)).toInt64).toInt32) &&& 255) &&& 255).toInt64) <<< ((0 : Int32).toInt64 &&& 63)))) 0 ((((vp_updL (fun _ => 0) 0 (0 ||| (((((((x2.toUInt64 >>> ((0 : Int32).toInt64.toUInt64 &&& Int64.toUInt64 63)).toInt64).toInt32) &&& 255) &&& 255).toInt64) <<< ((0 : Int32).toInt64 &&& 63)))) (0 : Int32).toNatClampNeg) &&& (-65281)) ||| (((((((x2.toUInt64 >>> ((8 : Int32).toInt64.toUInt64 &&& Int64.toUInt64 63)).toInt64).toInt32) &&& 255) &&& 255).toInt64) <<< ((8 : Int32).toInt64 &&& 63)))) (0 : Int32).toNatClampNeg) &&& (-16711681)) ||| (((((((x2.toUInt64 >>> ((16 : Int32).toInt64.toUInt64 &&& Int64.toUInt64 63)).toInt64).toInt32) &&& 255) &&& 255).toInt64) <<< ((16 : Int32).toInt64 &&& 63)))) 0 ((((vp_updL (vp_updL (vp_updL (fun _ => 0) 0 (0 ||| (((((((x2.toUInt64 >>> ((0 : Int32).toInt64.toUInt64 &&& Int64.toUInt64 63)).toInt64).toInt32) &&& 255) &&& 255).toInt64) <<< ((0 : Int32).toInt64 &&& 63)))) 0 ((((vp_updL (fun _ => 0) 0 (0 ||| (((((((x2.toUInt64 >>> ((0 : Int32).toInt64.toUInt64 &&& Int64.toUInt64 63)).toInt64).toInt32) &&& 255) &&& 255).toInt64) <<< ((0 : Int32).toInt64 &&& 63)))) (0 : Int32).toNatClampNeg) &&& (-65281)) ||| (((((((x2.toUInt64 >>> ((8 : Int32).toInt64.toUInt64 &&& Int64.toUInt64 63)).toInt64).toInt32) &&& 255) &&& 255).toInt64) <<< ((8 : Int32).toInt64 &&& 63)))) 0 ((((vp_updL (vp_updL (fun _ => 0) 0 (0 ||| (((((((x2.toUInt64 >>> ((0 : Int32).toInt64.toUInt64 &&& Int64.toUInt64 63)).toInt64).toInt32) &&& 255) &&& 255).toInt64) <<< ((0 : Int32).toInt64 &&& 63)))) 0 ((((vp_updL (fun _ => 0) 0 (0 ||| (((((((x2.toUInt64 >>> ((0 : Int32).toInt64.toUInt64 &&& Int64.toUInt64 63)).toInt64).toInt32) &&& 255) &&& 255).toInt64) <<< ((0 : Int32).toInt64 &&& 63)))) (0 : Int32).toNatClampNeg) &&& (-65281)) ||| (((((((x2.toUInt64 >>> ((8 : Int32).toInt64.toUInt64 &&& Int64.toUInt64 63)).toInt64).toInt32) &&& 255) &&& 255).toInt64) <<< ((8 : Int32).toInt64 &&& 63)))) (0 : Int32).toNatClampNeg) &&& (-16711681)) ||| (((((((x2.toUInt64 >>> ((16 : Int32).toInt64.toUInt64 &&& Int64.toUInt64 63)).toInt64).toInt32) &&& 255) &&& 255).toInt64) <<< ((16 : Int32).toInt64 &&& 63)))) (0 : Int32).toNatClampNeg) &&& (-4278190081)) ||| (((((((x2.toUInt64 >>> ((24 : Int32).toInt64.toUInt64 &&& Int64.toUInt64 63)).toInt64).toInt32) &&& 255) &&& 255).toInt64) <<< ((24 : Int32).toInt64 &&& 63)))) (0 : Int32).toNatClampNeg) &&& (-1095216660481)) ||| (((((((x2.toUInt64 >>> ((32 : Int32).toInt64.toUInt64 &&& Int64.toUInt64 63)).toInt64).toInt32) &&& 255) &&& 255).toInt64) <<< ((32 : Int32).toInt64 &&& 63)))) (0 : Int32).toNatClampNeg) &&& (-280375465082881)) ||| (((((((x2.toUInt64 >>> ((40 : Int32).toInt64.toUInt64 &&& Int64.toUInt64 63)).toInt64).toInt32) &&& 255) &&& 255).toInt64) <<< ((40 : Int32).toInt64 &&& 63)))) 0 ((((vp_updL (vp_updL (vp_updL (vp_updL (vp_updL (vp_updL (fun _ => 0) 0 (0 ||| (((((((x2.toUInt64 >>> ((0 : Int32).toInt64.toUInt64 &&& Int64.toUInt64 63)).toInt64).toInt32) &&& 255) &&& 255).toInt64) <<< ((0 : Int32).toInt64 &&& 63)))) 0 ((((vp_updL (fun _ => 0) 0 (0 ||| (((((((x2.toUInt64 >>> ((0 : Int32).toInt64.toUInt64 &&& Int64.toUInt64 63)).toInt64).toInt32) &&& 255) &&& 255).toInt64) <<< ((0 : Int32).toInt64 &&& 63)))) (0 : Int32).toNatClampNeg) &&& (-65281)) ||| (((((((x2.toUInt64 >>> ((8 : Int32).toInt64.toUInt64 &&& Int64.toUInt64 63)).toInt64).toInt32) &&& 255) &&& 255).toInt64) <<< ((8 : Int32).toInt64 &&& 63)))) 0 ((((vp_updL (vp_updL (fun _ => 0) 0 (0 ||| (((((((x2.toUInt64 >>> ((0 : Int32).toInt64.toUInt64 &&& Int64.toUInt64 63)).toInt64).toInt32) &&& 255) &&& 255).toInt64) <<< ((0 : Int32).toInt64 &&& 63)))) 0 ((((vp_updL (fun _ => 0) 0 (0 ||| (((((((x2.toUInt64 >>> ((0 : Int32).toInt64.toUInt64 &&& Int64.toUInt64 63)).toInt64).toInt32) &&& 255) &&& 255).toInt64) <<< ((0 : Int32).toInt64 &&& 63)))) (0 : Int32).toNatClampNeg) &&& (-65281)) ||| (((((((x2.toUInt64 >>> ((8 : Int32).toInt64.toUInt64 &&& Int64.toUInt64 63)).toInt64).toInt32) &&& 255) &&& 255).toInt64) <<< ((8 : Int32).toInt64 &&& 63)))) (0 : Int32).toNatClampNeg) &&& (-16711681)) ||| (((((((x2.toUInt64 >>> ((16 : Int32).toInt64.toUInt64 &&& Int64.toUInt64 63)).toInt64).toInt32) &&& 255) &&& 255).toInt64) <<< ((16 : Int32).toInt64 &&& 63)))) 0 ((((vp_updL (vp_updL (vp_updL (fun _ => 0) 0 (0 ||| (((((((x2.toUInt64 >>> ((0 : Int32).toInt64.toUInt64 &&& Int64.toUInt64 63)).toInt64).toInt32) &&& 255) &&& 255).toInt64) <<< ((0 : Int32).toInt64 &&& 63)))) 0 ((((vp_updL (fun _ => 0) 0 (0 ||| (((((((x2.toUInt64 >>> ((0 : Int32).toInt64.toUInt64 &&& Int64.toUInt64 63)).toInt64).toInt32) &&& 255) &&& 255).toInt64) <<< ((0 : Int32).toInt64 &&& 63)))) (0 : Int32).toNatClampNeg) &&& (-65281)) ||| (((((((x2.toUInt64 >>> ((8 : Int32).toInt64.toUInt64 &&& Int64.toUInt64 63)).toInt64).toInt32) &&& 255) &&& 255).toInt64) <<< ((8 : Int32).toInt64 &&& 63)))) 0 ((((vp_updL (vp_updL (fun _ => 0) 0 (0 ||| (((((((x2.toUInt64 >>> ((0 : Int32).toInt64.toUInt64 &&& Int64.toUInt64 63)).toInt64).toInt32) &&& 255) &&& 255).toInt64) <<< ((0 : Int32).toInt64 &&& 63)))) 0 ((((vp_updL (fun _ => 0) 0 (0 ||| (((((((x2.toUInt64 >>> ((0 : Int32).toInt64.toUInt64 &&& Int64.toUInt64 63)).toInt64).toInt32) &&& 255) &&& 255).toInt64) <<< ((0 : Int32).toInt64 &&& 63)))) (0 : Int32).toNatClampNeg) &&& (-65281)) ||| (((((((x2.toUInt64 >>> ((8 : Int32).toInt64.toUInt64 &&& Int64.toUInt64 63)).toInt64).toInt32) &&& 255) &&& 255).toInt64) <<< ((8 : Int32).toInt64 &&& 63)))) (0 : Int32).toNatClampNeg) &&& (-16711681)) ||| (((((((x2.toUInt64 >>> ((16 : Int32).toInt64.toUInt64 &&& Int64.toUInt64 63)).toInt64).toInt32) &&& 255) &&& 255).toInt64) <<< ((16 : Int32).toInt64 &&& 63)))) (0 : Int32).toNatClampNeg) &&& (-4278190081)) ||| (((((((x2.toUInt64 >>> ((24 : Int32).toInt64.toUInt64 &&& Int64.toUInt64 63)).toInt64).toInt32) &&& 255) &&& 255).toInt64) <<< ((24 : Int32).toInt64 &&& 63)))) 0 ((((vp_updL (vp_updL (vp_updL (vp_updL (fun _ => 0) 0 (0 ||| (((((((x2.toUInt64 >>> ((0 : Int32).toInt64.toUInt64 &&& Int64.toUInt64 63)).toInt64).toInt32) &&& 255) &&& 255).toInt64) <<< ((0 : Int32).toInt64 &&& 63)))) 0 ((((vp_updL (fun _ => 0) 0 (0 ||| (((((((x2.toUInt64 >>> ((0 : Int32).toInt64.toUInt64 &&& Int64.toUInt64 63)).toInt64).toInt32) &&& 255) &&& 255).toInt64) <<< ((0 : Int32).toInt64 &&& 63)))) (0 : Int32).toNatClampNeg) &&& (-65281)) ||| (((((((x2.toUInt64 >>> ((8 : Int32).toInt64.toUInt64 &&& Int64.toUInt64 63)).toInt64).toInt32) &&& 255) &&& 255).toInt64) <<< ((8 : Int32).toInt64 &&& 63)))) 0 ((((vp_updL (vp_updL (fun _ => 0) 0 (0 ||| (((((((x2.toUInt64 >>> ((0 : Int32).toInt64.toUInt64 &&& Int64.toUInt64 63)).toInt64).toInt32) &&& 255) &&& 255).toInt64) <<< ((0 : Int32).toInt64 &&& 63)))) 0 ((((vp_updL (fun _ => 0) 0 (0 ||| (((((((x2.toUInt64 >>> ((0 : Int32).toInt64.toUInt64 &&& Int64.toUInt64 63)).toInt64).toInt32) &&& 255) &&& 255).toInt64) <<< ((0 : Int32).toInt64 &&& 63)))) (0 : Int32).toNatClampNeg) &&& (-65281)) ||| (((((((x2.toUInt64 >>> ((8 : Int32).toInt64.toUInt64 &&& Int64.toUInt64 63)).toInt64).toInt32) &&& 255) &&& 255).toInt64) <<< ((8 : Int32).toInt64 &&& 63)))) (0 : Int32).toNatClampNeg) &&& (-16711681)) ||| (((((((x2.toUInt64 >>> ((16 : Int32).toInt64.toUInt64 &&& Int64.toUInt64 63)).toInt64).toInt32) &&& 255) &&& 255).toInt64) <<< ((16 : Int32).toInt64 &&& 63)))) 0 ((((vp_updL (vp_updL (vp_updL (fun _ => 0) 0 (0 ||| (((((((x2.toUInt64 >>> ((0 : Int32).toInt64.toUInt64 &&& Int64.toUInt64 63)).toInt64).toInt32) &&& 255) &&& 255).toInt64) <<< ((0 : Int32).toInt64 &&& 63)))) 0 ((((vp_updL (fun _ => 0) 0 (0 ||| (((((((x2.toUInt64 >>> ((0 : Int32).toInt64.toUInt64 &&& Int64.toUInt64 63)).toInt64).toInt32) &&& 255) &&& 255).toInt64) <<< ((0 : Int32).toInt64 &&& 63)))) (0 : Int32).toNatClampNeg) &&& (-65281)) ||| (((((((x2.toUInt64 >>> ((8 : Int32).toInt64.toUInt64 &&& Int64.toUInt64 63)).toInt64).toInt32) &&& 255) &&& 255).toInt64) <<< ((8 : Int32).toInt64 &&& 63)))) 0 ((((vp_updL (vp_updL (fun _ => 0) 0 (0 ||| (((((((x2.toUInt64 >>> ((0 : Int32).toInt64.toUInt64 &&& Int64.toUInt64 63)).toInt64).toInt32) &&& 255) &&& 255).toInt64) <<< ((0 : Int32).toInt64 &&& 63)))) 0 ((((vp_updL (fun _ => 0) 0 (0 ||| (((((((x2.toUInt64 >>> ((0 : Int32).toInt64.toUInt64 &&& Int64.toUInt64 63)).toInt64).toInt32) &&& 255) &&& 255).toInt64) <<< ((0 : Int32).toInt64 &&& 63)))) (0 : Int32).toNatClampNeg) &&& (-65281)) ||| (((((((x2.toUInt64 >>> ((8 : Int32).toInt64.toUInt64 &&& Int64.toUInt64 63)).toInt64).toInt32) &&& 255) &&& 255).toInt64) <<< ((8 : Int32).toInt64 &&& 63)))) (0 : Int32).toNatClampNeg) &&& (-16711681)) ||| (((((((x2.toUInt64 >>> ((16 : Int32).toInt64.toUInt64 &&& Int64.toUInt64 63)).toInt64).toInt32) &&& 255) &&& 255).toInt64) <<< ((16 : Int32).toInt64 &&& 63)))) (0 : Int32).toNatClampNeg) &&& (-4278190081)) ||| (((((((x2.toUInt64 >>> ((24 : Int32).toInt64.toUInt64 &&& Int64.toUInt64 63)).toInt64).toInt32) &&& 255) &&& 255).toInt64) <<< ((24 : Int32).toInt64 &&& 63)))) (0 : Int32).toNatClampNeg) &&& (-1095216660481)) ||| (((((((x2.toUInt64 >>> ((32 : Int32).toInt64.toUInt64 &&& Int64.toUInt64 63)).toInt64).toInt32) &&& 255) &&& 255).toInt64) <<< ((32 : Int32).toInt64 &&& 63)))) 0 ((((vp_updL (vp_updL (vp_updL (vp_updL (vp_updL (fun _ => 0) 0 (0 ||| (((((((x2.toUInt64 >>> ((0 : Int32).toInt64.toUInt64 &&& Int64.toUInt64 63)).toInt64).toInt32) &&& 255) &&& 255).toInt64) <<< ((0 : Int32).toInt64 &&& 63)))) 0 ((((vp_updL (fun _ => 0) 0 (0 ||| (((((((x2.toUInt64 >>> ((0 : Int32).toInt64.toUInt64 &&& Int64.toUInt64 63)).toInt64).toInt32) &&& 255) &&& 255).toInt64) <<< ((0 : Int32).toInt64 &&& 63)))) (0 : Int32).toNatClampNeg) &&& (-65281)) ||| (((((((x2.toUInt64 >>> ((8 : Int32).toInt64.toUInt64 &&& Int64.toUInt64 63)).toInt64).toInt32) &&& 255) &&& 255).toInt64) <<< ((8 : Int32).toInt64 &&& 63)))) 0 ((((vp_updL (vp_updL (fun _ => 0) 0 (0 ||| (((((((x2.toUInt64 >>> ((0 : Int32).toInt64.toUInt64 &&& Int64.toUInt64 63)).toInt64).toInt32) &&& 255) &&& 255).toInt64) <<< ((0 : Int32).toInt64 &&& 63)))) 0 ((((vp_updL (fun _ => 0) 0 (0 ||| (((((((x2.toUInt64 >>> ((0 : Int32).toInt64.toUInt64 &&& Int64.toUInt64 63)).toInt64).toInt32) &&& 255) &&& 255).toInt64) <<< ((0 : Int32).toInt64 &&& 63)))) (0 : Int32).toNatClampNeg) &&& (-65281)) ||| (((((((x2.toUInt64 >>> ((8 : Int32).toInt64.toUInt64 &&& Int64.toUInt64 63)).toInt64).toInt32) &&& 255) &&& 255).toInt64) <<< ((8 : Int32).toInt64 &&& 63)))) (0 : Int32).toNatClampNeg) &&& (-16711681)) ||| (((((((x2.toUInt64 >>> ((16 : Int32).toInt64.toUInt64 &&& Int64.toUInt64 63)).toInt64).toInt32) &&& 255) &&& 255).toInt64) <<< ((16 : Int32).toInt64 &&& 63)))) 0 ((((vp_updL (vp_updL (vp_updL (fun _ => 0) 0 (0 ||| (((((((x2.toUInt64 >>> ((0 : Int32).toInt64.toUInt64 &&& Int64.toUInt64 63)).toInt64).toInt32) &&& 255) &&& 255).toInt64) <<< ((0 : Int32).toInt64 &&& 63)))) 0 ((((vp_updL (fun _ => 0) 0 (0 ||| (((((((x2.toUInt64 >>> ((0 : Int32).toInt64.toUInt64 &&& Int64.toUInt64 63)).toInt64).toInt32) &&& 255) &&& 255).toInt64) <<< ((0 : Int32).toInt64 &&& 63)))) (0 : Int32).toNatClampNeg) &&& (-65281)) ||| (((((((x2.toUInt64 >>> ((8 : Int32).toInt64.toUInt64 &&& Int64.toUInt64 63)).toInt64).toInt32) &&& 255) &&& 255).toInt64) <<< ((8 : Int32).toInt64 &&& 63)))) 0 ((((vp_updL (vp_updL (fun _ => 0) 0 (0 ||| (((((((x2.toUInt64 >>> ((0 : Int32).toInt64.toUInt64 &&& Int64.toUInt64 63)).toInt64).toInt32) &&& 255) &&& 255).toInt64) <<< ((0 : Int32).toInt64 &&& 63)))) 0 ((((vp_updL (fun _ => 0) 0 (0 ||| (((((((x2.toUInt64 >>> ((0 : Int32).toInt64.toUInt64 &&& Int64.toUInt64 63)).toInt64).toInt32) &&& 255) &&& 255).toInt64) <<< ((0 : Int32).toInt64 &&& 63)))) (0 : Int32).toNatClampNeg) &&& (-65281)) ||| (((((((x2.toUInt64 >>> ((8 : Int32).toInt64.toUInt64 &&& Int64.toUInt64 63)).toInt64).toInt32) &&& 255) &&& 255).toInt64) <<< ((8 : Int32).toInt64 &&& 63)))) (0 : Int32).toNatClampNeg) &&& (-16711681)) ||| (((((((x2.toUInt64 >>> ((16 : Int32).toInt64.toUInt64 &&& Int64.toUInt64 63)).toInt64).toInt32) &&& 255) &&& 255).toInt64) <<< ((16 : Int32).toInt64 &&& 63)))) (0 : Int32).toNatClampNeg) &&& (-4278190081)) ||| (((((((x2.toUInt64 >>> ((24 : Int32).toInt64.toUInt64 &&& Int64.toUInt64 63)).toInt64).toInt32) &&& 255) &&& 255).toInt64) <<< ((24 : Int32).toInt64 &&& 63)))) 0 ((((vp_updL (vp_updL (vp_updL (vp_updL (fun _ => 0) 0 (0 ||| (((((((x2.toUInt64 >>> ((0 : Int32).toInt64.toUInt64 &&& Int64.toUInt64 63)).toInt64).toInt32) &&& 255) &&& 255).toInt64) <<< ((0 : Int32).toInt64 &&& 63)))) 0 ((((vp_updL (fun _ => 0) 0 (0 ||| (((((((x2.toUInt64 >>> ((0 : Int32).toInt64.toUInt64 &&& Int64.toUInt64 63)).toInt64).toInt32) &&& 255) &&& 255).toInt64) <<< ((0 : Int32).toInt64 &&& 63)))) (0 : Int32).toNatClampNeg) &&& (-65281)) ||| (((((((x2.toUInt64 >>> ((8 : Int32).toInt64.toUInt64 &&& Int64.toUInt64 63)).toInt64).toInt32) &&& 255) &&& 255).toInt64) <<< ((8 : Int32).toInt64 &&& 63)))) 0 ((((vp_updL (vp_updL (fun _ => 0) 0 (0 ||| (((((((x2.toUInt64 >>> ((0 : Int32).toInt64.toUInt64 &&& Int64.toUInt64 63)).toInt64).toInt32) &&& 255) &&& 255).toInt64) <<< ((0 : Int32).toInt64 &&& 63)))) 0 ((((vp_updL (fun _ => 0) 0 (0 ||| (((((((x2.toUInt64 >>> ((0 : Int32).toInt64.toUInt64 &&& Int64.toUInt64 63)).toInt64).toInt32) &&& 255) &&& 255).toInt64) <<< ((0 : Int32).toInt64 &&& 63)))) (0 : Int32).toNatClampNeg) &&& (-65281)) ||| (((((((x2.toUInt64 >>> ((8 : Int32).toInt64.toUInt64 &&& Int64.toUInt64 63)).toInt64).toInt32) &&& 255) &&& 255).toInt64) <<< ((8 : Int32).toInt64 &&& 63)))) (0 : Int32).toNatClampNeg) &&& (-16711681)) ||| (((((((x2.toUInt64 >>> ((16 : Int32).toInt64.toUInt64 &&& Int64.toUInt64 63)).toInt64).toInt32) &&& 255) &&& 255).toInt64) <<< ((16 : Int32).toInt64 &&& 63)))) 0 ((((vp_updL (vp_updL (vp_updL (fun _ => 0) 0 (0 ||| (((((((x2.toUInt64 >>> ((0 : Int32).toInt64.toUInt64 &&& Int64.toUInt64 63)).toInt64).toInt32) &&& 255) &&& 255).toInt64) <<< ((0 : Int32).toInt64 &&& 63)))) 0 ((((vp_updL (fun _ => 0) 0 (0 ||| (((((((x2.toUInt64 >>> ((0 : Int32).toInt64.toUInt64 &&& Int64.toUInt64 63)).toInt64).toInt32) &&& 255) &&& 255).toInt64) <<< ((0 : Int32).toInt64 &&& 63)))) (0 : Int32).toNatClampNeg) &&& (-65281)) ||| (((((((x2.toUInt64 >>> ((8 : Int32).toInt64.toUInt64 &&& Int64.toUInt64 63)).toInt64).toInt32) &&& 255) &&& 255).toInt64) <<< ((8 : Int32).toInt64 &&& 63)))) 0 ((((vp_updL (vp_updL (fun _ => 0) 0 (0 ||| (((((((x2.toUInt64 >>> ((0 : Int32).toInt64.toUInt64 &&& Int64.toUInt64 63)).toInt64).toInt32) &&& 255) &&& 255).toInt64) <<< ((0 : Int32).toInt64 &&& 63)))) 0 ((((vp_updL (fun _ => 0) 0 (0 ||| (((((((x2.toUInt64 >>> ((0 : Int32).toInt64.toUInt64 &&& Int64.toUInt64 63)).toInt64).toInt32) &&& 255) &&& 255).toInt64) <<< ((0 : Int32).toInt64 &&& 63)))) (0 : Int32).toNatClampNeg) &&& (-65281)) ||| (((((((x2.toUInt64 >>> ((8 : Int32).toInt64.toUInt64 &&& Int64.toUInt64 63)).toInt64).toInt32) &&& 255) &&& 255).toInt64) <<< ((8 : Int32).toInt64 &&& 63)))) (0 : Int32).toNatClampNeg) &&& (-16711681)) ||| (((((((x2.toUInt64 >>> ((16 : Int32).toInt64.toUInt64 &&& Int64.toUInt64 63)).toInt64).toInt32) &&& 255) &&& 255).toInt64) <<< ((16 : Int32).toInt64 &&& 63)))) (0 : Int32).toNatClampNeg) &&& (-4278190081)) ||| (((((((x2.toUInt64 >>> ((24 : Int32).toInt64.toUInt64 &&& Int64.toUInt64 63)).toInt64).toInt32) &&& 255) &&& 255).toInt64) <<< ((24 : Int32).toInt64 &&& 63)))) (0 : Int32).toNatClampNeg) &&& (-1095216660481)) ||| (((((((x2.toUInt64 >>> ((32 : Int32).toInt64.toUInt64 &&& Int64.toUInt64 63)).toInt64).toInt32) &&& 255) &&& 255).toInt64) <<< ((32 : Int32).toInt64 &&& 63)))) (0 : Int32).toNatClampNeg) &&& (-280375465082881)) ||| (((((((x2.toUInt64 >>> ((40 : Int32).toInt64.toUInt64 &&& Int64.toUInt64 63)).toInt64).toInt32) &&& 255) &&& 255).toInt64) <<< ((40 : Int32).toInt64 &&& 63)))) (0 : Int32).toNatClampNeg) &&& (-71776119061217281)) ||| (((((((x2.toUInt64 >>> ((48 : Int32).toInt64.toUInt64 &&& Int64.toUInt64 63)).toInt64).toInt32) &&& 255) &&& 255).toInt64) <<< ((48 : Int32).toInt64 &&& 63)))) 0 ((((vp_updL (vp_updL (vp_updL (vp_updL (vp_updL (vp_updL (vp_updL (fun _ => 0) 0 (0 ||| (((((((x2.toUInt64 >>> ((0 : Int32).toInt64.toUInt64 &&& Int64.toUInt64 63)).toInt64).toInt32) &&& 255) &&& 255).toInt64) <<< ((0 : Int32).toInt64 &&& 63)))) 0 ((((vp_updL (fun _ => 0) 0 (0 ||| (((((((x2.toUInt64 >>> ((0 : Int32).toInt64.toUInt64 &&& Int64.toUInt64 63)).toInt64).toInt32) &&& 255) &&& 255).toInt64) <<< ((0 : Int32).toInt64 &&& 63)))) (0 : Int32).toNatClampNeg) &&& (-65281)) ||| (((((((x2.toUInt64 >>> ((8 : Int32).toInt64.toUInt64 &&& Int64.toUInt64 63)).toInt64).toInt32) &&& 255) &&& 255).toInt64) <<< ((8 : Int32).toInt64 &&& 63)))) 0 ((((vp_updL (vp_updL (fun _ => 0) 0 (0 ||| (((((((x2.toUInt64 >>> ((0 : Int32).toInt64.toUInt64 &&& Int64.toUInt64 63)).toInt64).toInt32) &&& 255) &&& 255).toInt64) <<< ((0 : Int32).toInt64 &&& 63)))) 0 ((((vp_updL (fun _ => 0) 0 (0 ||| (((((((x2.toUInt64 >>> ((0 : Int32).toInt64.toUInt64 &&& Int64.toUInt64 63)).toInt64).toInt32) &&& 255) &&& 255).toInt64) <<< ((0 : Int32).toInt64 &&& 63)))) (0 : Int32).toNatClampNeg) &&& (-65281)) ||| (((((((x2.toUInt64 >>> ((8 : Int32).toInt64.toUInt64 &&& Int64.toUInt64 63)).toInt64).toInt32) &&& 255) &&& 255).toInt64) <<< ((8 : Int32).toInt64 &&& 63)))) (0 : Int32).toNatClampNeg) &&& (-16711681)) ||| (((((((x2.toUInt64 >>> ((16 : Int32).toInt64.toUInt64 &&& Int64.toUInt64 63)).toInt64).toInt32) &&& 255) &&& 255).toInt64) <<< ((16 : Int32).toInt64 &&& 63)))) 0 ((((vp_updL (vp_updL (vp_updL (fun _ => 0) 0 (0 ||| (((((((x2.toUInt64 >>> ((0 : Int32).toInt64.toUInt64 &&& Int64.toUInt64 63)).toInt64).toInt32) &&& 255) &&& 255).toInt64) <<< ((0 : Int32).toInt64 &&& 63)))) 0 ((((vp_updL (fun _ => 0) 0 (0 ||| (((((((x2.toUInt64 >>> ((0 : Int32).toInt64.toUInt64 &&& Int64.toUInt64 63)).toInt64).toInt32) &&& 255) &&& 255).toInt64) <<< ((0 : Int32).toInt64 &&& 63)))) (0 : Int32).toNatClampNeg) &&& (-65281)) ||| (((((((x2.toUInt64 >>> ((8 : Int32).toInt64.toUInt64 &&& Int64.toUInt64 63)).toInt64).toInt32) &&& 255) &&& 255).toInt64) <<< ((8 : Int32).toInt64 &&& 63)))) 0 ((((vp_updL (vp_updL (fun _ => 0) 0 (0 ||| (((((((x2.toUInt64 >>> ((0 : Int32).toInt64.toUInt64 &&& Int64.toUInt64 63)).toInt64).toInt32) &&& 255) &&& 255).toInt64) <<< ((0 : Int32).toInt64 &&& 63)))) 0 ((((vp_updL (fun _ => 0) 0 (0 ||| (((((((x2.toUInt64 >>> ((0 : Int32).toInt64.toUInt64 &&& Int64.toUInt64 63)).toInt64).toInt32) &&& 255) &&& 255).toInt64) <<< ((0 : Int32).toInt64 &&& 63)))) (0 : Int32).toNatClampNeg) &&& (-65281)) ||| (((((((x2.toUInt64 >>> ((8 : Int32).toInt64.toUInt64 &&& Int64.toUInt64 63)).toInt64).toInt32) &&& 255) &&& 255).toInt64) <<< ((8 : Int32).toInt64 &&& 63)))) (0 : Int32).toNatClampNeg) &&& (-16711681)) ||| (((((((x2.toUInt64 >>> ((16 : Int32).toInt64.toUInt64 &&& Int64.toUInt64 63)).toInt64).toInt32) &&& 255) &&& 255).toInt64) <<< ((16 : Int32).toInt64 &&& 63)))) (0 : Int32).toNatClampNeg) &&& (-4278190081)) ||| (((((((x2.toUInt64 >>> ((24 : Int32).toInt64.toUInt64 &&& Int64.toUInt64 63)).toInt64).toInt32) &&& 255) &&& 255).toInt64) <<< ((24 : Int32).toInt64 &&& 63)))) 0 ((((vp_updL (vp_updL (vp_updL (vp_updL (fun _ => 0) 0 (0 ||| (((((((x2.toUInt64 >>> ((0 : Int32).toInt64.toUInt64 &&& Int64.toUInt64 63)).toInt64).toInt32) &&& 255) &&& 255).toInt64) <<< ((0 : Int32).toInt64 &&& 63)))) 0 ((((vp_updL (fun _ => 0) 0 (0 ||| (((((((x2.toUInt64 >>> ((0 : Int32).toInt64.toUInt64 &&& Int64.toUInt64 63)).toInt64).toInt32) &&& 255) &&& 255).toInt64) <<< ((0 : Int32).toInt64 &&& 63)))) (0 : Int32).toNatClampNeg) &&& (-65281)) ||| (((((((x2.toUInt64 >>> ((8 : Int32).toInt64.toUInt64 &&& Int64.toUInt64 63)).toInt64).toInt32) &&& 255) &&& 255).toInt64) <<< ((8 : Int32).toInt64 &&& 63)))) 0 ((((vp_updL (vp_updL (fun _ => 0) 0 (0 ||| (((((((x2.toUInt64 >>> ((0 : Int32).toInt64.toUInt64 &&& Int64.toUInt64 63)).toInt64).toInt32) &&& 255) &&& 255).toInt64) <<< ((0 : Int32).toInt64 &&& 63)))) 0 ((((vp_updL (fun _ => 0) 0 (0 ||| (((((((x2.toUInt64 >>> ((0 : Int32).toInt64.toUInt64 &&& Int64.toUInt64 63)).toInt64).toInt32) &&& 255) &&& 255).toInt64) <<< ((0 : Int32).toInt64 &&& 63)))) (0 : Int32).toNatClampNeg) &&& (-65281)) ||| (((((((x2.toUInt64 >>> ((8 : Int32).toInt64.toUInt64 &&& Int64.toUInt64 63)).toInt64).toInt32) &&& 255) &&& 255).toInt64) <<< ((8 : Int32).toInt64 &&& 63)))) (0 : Int32).toNatClampNeg) &&& (-16711681)) ||| (((((((x2.toUInt64 >>> ((16 : Int32).toInt64.toUInt64 &&& Int64.toUInt64 63)).toInt64).toInt32) &&& 255) &&& 255).toInt64) <<< ((16 : Int32).toInt64 &&& 63)))) 0 ((((vp_updL (vp_updL (vp_updL (fun _ => 0) 0 (0 ||| (((((((x2.toUInt64 >>> ((0 : Int32).toInt64.toUInt64 &&& Int64.toUInt64 63)).toInt64).toInt32) &&& 255) &&& 255).toInt64) <<< ((0 : Int32).toInt64 &&& 63)))) 0 ((((vp_updL (fun _ => 0) 0 (0 ||| (((((((x2.toUInt64 >>> ((0 : Int32).toInt64.toUInt64 &&& Int64.toUInt64 63)).toInt64).toInt32) &&& 255) &&& 255).toInt64) <<< ((0 : Int32).toInt64 &&& 63)))) (0 : Int32).toNatClampNeg) &&& (-65281)) ||| (((((((x2.toUInt64 >>> ((8 : Int32).toInt64.toUInt64 &&& Int64.toUInt64 63)).toInt64).toInt32) &&& 255) &&& 255).toInt64) <<< ((8 : Int32).toInt64 &&& 63)))) 0 ((((vp_updL (vp_updL (fun _ => 0) 0 (0 ||| (((((((x2.toUInt64 >>> ((0 : Int32).toInt64.toUInt64 &&& Int64.toUInt64 63)).toInt64).toInt32) &&& 255) &&& 255).toInt64) <<< ((0 : Int32).toInt64 &&& 63)))) 0 ((((vp_updL (fun _ => 0) 0 (0 ||| (((((((x2.toUInt64 >>> ((0 : Int32).toInt64.toUInt64 &&& Int64.toUInt64 63)).toInt64).toInt32) &&& 255) &&& 255).toInt64) <<< ((0 : Int32).toInt64 &&& 63)))) (0 : Int32).toNatClampNeg) &&& (-65281)) ||| (((((((x2.toUInt64 >>> ((8 : Int32).toInt64.toUInt64 &&& Int64.toUInt64 63)).toInt64).toInt32) &&& 255) &&& 255).toInt64) <<< ((8 : Int32).toInt64 &&& 63)))) (0 : Int32).toNatClampNeg) &&& (-16711681)) ||| (((((((x2.toUInt64 >>> ((16 : Int32).toInt64.toUInt64 &&& Int64.toUInt64 63)).toInt64).toInt32) &&& 255) &&& 255).toInt64) <<< ((16 : Int32).toInt64 &&& 63)))) (0 : Int32).toNatClampNeg) &&& (-4278190081)) ||| (((((((x2.toUInt64 >>> ((24 : Int32).toInt64.toUInt64 &&& Int64.toUInt64 63)).toInt64).toInt32) &&& 255) &&& 255).toInt64) <<< ((24 : Int32).toInt64 &&& 63)))) (0 : Int32).toNatClampNeg) &&& (-1095216660481)) ||| (((((((x2.toUInt64 >>> ((32 : Int32).toInt64.toUInt64 &&& Int64.toUInt64 63)).toInt64).toInt32) &&& 255) &&& 255).toInt64) <<< ((32 : Int32).toInt64 &&& 63)))) 0 ((((vp_updL (vp_updL (vp_updL (vp_updL (vp_updL (fun _ => 0) 0 (0 ||| (((((((x2.toUInt64 >>> ((0 : Int32).toInt64.toUInt64 &&& Int64.toUInt64 63)).toInt64).toInt32) &&& 255) &&& 255).toInt64) <<< ((0 : Int32).toInt64 &&& 63)))) 0 ((((vp_updL (fun _ => 0) 0 (0 ||| (((((((x2.toUInt64 >>> ((0 : Int32).toInt64.toUInt64 &&& Int64.toUInt64 63)).toInt64).toInt32) &&& 255) &&& 255).toInt64) <<< ((0 : Int32).toInt64 &&& 63)))) (0 : Int32).toNatClampNeg) &&& (-65281)) ||| (((((((x2.toUInt64 >>> ((8 : Int32).toInt64.toUInt64 &&& Int64.toUInt64 63)).toInt64).toInt32) &&& 255) &&& 255).toInt64) <<< ((8 : Int32).toInt64 &&& 63)))) 0 ((((vp_updL (vp_updL (fun _ => 0) 0 (0 ||| (((((((x2.toUInt64 >>> ((0 : Int32).toInt64.toUInt64 &&& Int64.toUInt64 63)).toInt64).toInt32) &&& 255) &&& 255).toInt64) <<< ((0 : Int32).toInt64 &&& 63)))) 0 ((((vp_updL (fun _ => 0) 0 (0 ||| (((((((x2.toUInt64 >>> ((0 : Int32).toInt64.toUInt64 &&& Int64.toUInt64 63)).toInt64).toInt32) &&& 255) &&& 255).toInt64) <<< ((0 : Int32).toInt64 &&& 63)))) (0 : Int32).toNatClampNeg) &&& (-65281)) ||| (((((((x2.toUInt64 >>> ((8 : Int32).toInt64.toUInt64 &&& Int64.toUInt64 63)).toInt64).toInt32) &&& 255) &&& 255).toInt64) <<< ((8 : Int32).toInt64 &&& 63)))) (0 : Int32).toNatClampNeg) &&& (-16711681)) ||| (((((((x2.toUInt64 >>> ((16 : Int32).toInt64.toUInt64 &&& Int64.toUInt64 63)).toInt64).toInt32) &&& 255) &&& 255).toInt64) <<< ((16 : Int32).toInt64 &&& 63)))) 0 ((((vp_updL (vp_updL (vp_updL (fun _ => 0) 0 (0 ||| (((((((x2.toUInt64 >>> ((0 : Int32).toInt64.toUInt64 &&& Int64.toUInt64 63)).toInt64).toInt32) &&& 255) &&& 255).toInt64) <<< ((0 : Int32).toInt64 &&& 63)))) 0 ((((vp_updL (fun _ => 0) 0 (0 ||| (((((((x2.toUInt64 >>> ((0 : Int32).toInt64.toUInt64 &&& Int64.toUInt64 63)).toInt64).toInt32) &&& 255) &&& 255).toInt64) <<< ((0 : Int32).toInt64 &&& 63)))) (0 : Int32).toNatClampNeg) &&& (-65281)) ||| (((((((x2.toUInt64 >>> ((8 : Int32).toInt64.toUInt64 &&& Int64.toUInt64 63)).toInt64).toInt32) &&& 255) &&& 255).toInt64) <<< ((8 : Int32).toInt64 &&& 63)))) 0 ((((vp_updL (vp_updL (fun _ => 0) 0 (0 ||| (((((((x2.toUInt64 >>> ((0 : Int32).toInt64.toUInt64 &&& Int64.toUInt64 63)).toInt64).toInt32) &&& 255) &&& 255).toInt64) <<< ((0 : Int32).toInt64 &&& 63)))) 0 ((((vp_updL (fun _ => 0) 0 (0 ||| (((((((x2.toUInt64 >>> ((0 : Int32).toInt64.toUInt64 &&& Int64.toUInt64 63)).toInt64).toInt32) &&& 255) &&& 255).toInt64) <<< ((0 : Int32).toInt64 &&& 63)))) (0 : Int32).toNatClampNeg) &&& (-65281)) ||| (((((((x2.toUInt64 >>> ((8 : Int32).toInt64.toUInt64 &&& Int64.toUInt64 63)).toInt64).toInt32) &&& 255) &&& 255).toInt64) <<< ((8 : Int32).toInt64 &&& 63)))) (0 : Int32).toNatClampNeg) &&& (-16711681)) ||| (((((((x2.toUInt64 >>> ((16 : Int32).toInt64.toUInt64 &&& Int64.toUInt64 63)).toInt64).toInt32) &&& 255) &&& 255).toInt64) <<< ((16 : Int32).toInt64 &&& 63)))) (0 : Int32).toNatClampNeg) &&& (-4278190081)) ||| (((((((x2.toUInt64 >>> ((24 : Int32).toInt64.toUInt64 &&& Int64.toUInt64 63)).toInt64).toInt32) &&& 255) &&& 255).toInt64) <<< ((24 : Int32).toInt64 &&& 63)))) 0 ((((vp_updL (vp_updL (vp_updL (vp_updL (fun _ => 0) 0 (0 ||| (((((((x2.toUInt64 >>> ((0 : Int32).toInt64.toUInt64 &&& Int64.toUInt64 63)).toInt64).toInt32) &&& 255) &&& 255).toInt64) <<< ((0 : Int32).toInt64 &&& 63)))) 0 ((((vp_updL (fun _ => 0) 0 (0 ||| (((((((x2.toUInt64 >>> ((0 : Int32).toInt64.toUInt64 &&& Int64.toUInt64 63)).toInt64).toInt32) &&& 255) &&& 255).toInt64) <<< ((0 : Int32).toInt64 &&& 63)))) (0 : Int32).toNatClampNeg) &&& (-65281)) ||| (((((((x2.toUInt64 >>> ((8 : Int32).toInt64.toUInt64 &&& Int64.toUInt64 63)).toInt64).toInt32) &&& 255) &&& 255).toInt64) <<< ((8 : Int32).toInt64 &&& 63)))) 0 ((((vp_updL (vp_updL (fun _ => 0) 0 (0 ||| (((((((x2.toUInt64 >>> ((0 : Int32).toInt64.toUInt64 &&& Int64.toUInt64 63)).toInt64).toInt32) &&& 255) &&& 255).toInt64) <<< ((0 : Int32).toInt64 &&& 63)))) 0 ((((vp_updL (fun _ => 0) 0 (0 ||| (((((((x2.toUInt64 >>> ((0 : Int32).toInt64.toUInt64 &&& Int64.toUInt64 63)).toInt64).toInt32) &&& 255) &&& 255).toInt64) <<< ((0 : Int32).toInt64 &&& 63)))) (0 : Int32).toNatClampNeg) &&& (-65281)) ||| (((((((x2.toUInt64 >>> ((8 : Int32).toInt64.toUInt64 &&& Int64.toUInt64 63)).toInt64).toInt32) &&& 255) &&& 255).toInt64) <<< ((8 : Int32).toInt64 &&& 63)))) (0 : Int32).toNatClampNeg) &&& (-16711681)) ||| (((((((x2.toUInt64 >>> ((16 : Int32).toInt64.toUInt64 &&& Int64.toUInt64 63)).toInt64).toInt32) &&& 255) &&& 255).toInt64) <<< ((16 : Int32).toInt64 &&& 63)))) 0 ((((vp_updL (vp_updL (vp_updL (fun _ => 0) 0 (0 ||| (((((((x2.toUInt64 >>> ((0 : Int32).toInt64.toUInt64 &&& Int64.toUInt64 63)).toInt64).toInt32) &&& 255) &&& 255).toInt64) <<< ((0 : Int32).toInt64 &&& 63)))) 0 ((((vp_updL (fun _ => 0) 0 (0 ||| (((((((x2.toUInt64 >>> ((0 : Int32).toInt64.toUInt64 &&& Int64.toUInt64 63)).toInt64).toInt32) &&& 255) &&& 255).toInt64) <<< ((0 : Int32).toInt64 &&& 63)))) (0 : Int32).toNatClampNeg) &&& (-65281)) ||| (((((((x2.toUInt64 >>> ((8 : Int32).toInt64.toUInt64 &&& Int64.toUInt64 63)).toInt64).toInt32) &&& 255) &&& 255).toInt64) <<< ((8 : Int32).toInt64 &&& 63)))) 0 ((((vp_updL (vp_updL (fun _ => 0) 0 (0 ||| (((((((x2.toUInt64 >>> ((0 : Int32).toInt64.toUInt64 &&& Int64.toUInt64 63)).toInt64).toInt32) &&& 255) &&& 255).toInt64) <<< ((0 : Int32).toInt64 &&& 63)))) 0 ((((vp_updL (fun _ => 0) 0 (0 ||| (((((((x2.toUInt64 >>> ((0 : Int32).toInt64.toUInt64 &&& Int64.toUInt64 63)).toInt64).toInt32) &&& 255) &&& 255).toInt64) <<< ((0 : Int32).toInt64 &&& 63)))) (0 : Int32).toNatClampNeg) &&& (-65281)) ||| (((((((x2.toUInt64 >>> ((8 : Int32).toInt64.toUInt64 &&& Int64.toUInt64 63)).toInt64).toInt32) &&& 255) &&& 255).toInt64) <<< ((8 : Int32).toInt64 &&& 63)))) (0 : Int32).toNatClampNeg) &&& (-16711681)) ||| (((((((x2.toUInt64 >>> ((16 : Int32).toInt64.toUInt64 &&& Int64.toUInt64 63)).toInt64).toInt32) &&& 255) &&& 255).toInt64) <<< ((16 : Int32).toInt64 &&& 63)))) (0 : Int32).toNatClampNeg) &&& (-4278190081)) ||| (((((((x2.toUInt64 >>> ((24 : Int32).toInt64.toUInt64 &&& Int64.toUInt64 63)).toInt64).toInt32) &&& 255) &&& 255).toInt64) <<< ((24 : Int32).toInt64 &&& 63)))) (0 : Int32).toNatClampNeg) &&& (-1095216660481)) ||| (((((((x2.toUInt64 >>> ((32 : Int32).toInt64.toUInt64 &&& Int64.toUInt64 63)).toInt64).toInt32) &&& 255) &&& 255).toInt64) <<< ((32 : Int32).toInt64 &&& 63)))) (0 : Int32).toNatClampNeg) &&& (-280375465082881)) ||| (((((((x2.toUInt64 >>> ((40 : Int32).toInt64.toUInt64 &&& Int64.toUInt64 63)).toInt64).toInt32) &&& 255) &&& 255).toInt64) <<< ((40 : Int32).toInt64 &&& 63)))) 0 ((((vp_updL (vp_updL (vp_updL (vp_updL (vp_updL (vp_updL (fun _ => 0) 0 (0 ||| (((((((x2.toUInt64 >>> ((0 : Int32).toInt64.toUInt64 &&& Int64.toUInt64 63)).toInt64).toInt32) &&& 255) &&& 255).toInt64) <<< ((0 : Int32).toInt64 &&& 63)))) 0 ((((vp_updL (fun _ => 0) 0 (0 ||| (((((((x2.toUInt64 >>> ((0 : Int32).toInt64.toUInt64 &&& Int64.toUInt64 63)).toInt64).toInt32) &&& 255) &&& 255).toInt64) <<< ((0 : Int32).toInt64 &&& 63)))) (0 : Int32).toNatClampNeg) &&& (-65281)) ||| (((((((x2.toUInt64 >>> ((8 : Int32).toInt64.toUInt64 &&& Int64.toUInt64 63)).toInt64).toInt32) &&& 255) &&& 255).toInt64) <<< ((8 : Int32).toInt64 &&& 63)))) 0 ((((vp_updL (vp_updL (fun _ => 0) 0 (0 ||| (((((((x2.toUInt64 >>> ((0 : Int32).toInt64.toUInt64 &&& Int64.toUInt64 63)).toInt64).toInt32) &&& 255) &&& 255).toInt64) <<< ((0 : Int32).toInt64 &&& 63)))) 0 ((((vp_updL (fun _ => 0) 0 (0 ||| (((((((x2.toUInt64 >>> ((0 : Int32).toInt64.toUInt64 &&& Int64.toUInt64 63)).toInt64).toInt32) &&& 255) &&& 255).toInt64) <<< ((0 : Int32).toInt64 &&& 63)))) (0 : Int32).toNatClampNeg) &&& (-65281)) ||| (((((((x2.toUInt64 >>> ((8 : Int32).toInt64.toUInt64 &&& Int64.toUInt64 63)).toInt64).toInt32) &&& 255) &&& 255).toInt64) <<< ((8 : Int32).toInt64 &&& 63)))) (0 : Int32).toNatClampNeg) &&& (-16711681)) ||| (((((((x2.toUInt64 >>> ((16 : Int32).toInt64.toUInt64 &&& Int64.toUInt64 63)).toInt64).toInt32) &&& 255) &&& 255).toInt64) <<< ((16 : Int32).toInt64 &&& 63)))) 0 ((((vp_updL (vp_updL (vp_updL (fun _ => 0) 0 (0 ||| (((((((x2.toUInt64 >>> ((0 : Int32).toInt64.toUInt64 &&& Int64.toUInt64 63)).toInt64).toInt32) &&& 255) &&& 255).toInt64) <<< ((0 : Int32).toInt64 &&& 63)))) 0 ((((vp_updL (fun _ => 0) 0 (0 ||| (((((((x2.toUInt64 >>> ((0 : Int32).toInt64.toUInt64 &&& Int64.toUInt64 63)).toInt64).toInt32) &&& 255) &&& 255).toInt64) <<< ((0 : Int32).toInt64 &&& 63)))) (0 : Int32).toNatClampNeg) &&& (-65281)) ||| (((((((x2.toUInt64 >>> ((8 : Int32).toInt64.toUInt64 &&& Int64.toUInt64 63)).toInt64).toInt32) &&& 255) &&& 255).toInt64) <<< ((8 : Int32).toInt64 &&& 63)))) 0 ((((vp_updL (vp_updL (fun _ => 0) 0 (0 ||| (((((((x2.toUInt64 >>> ((0 : Int32).toInt64.toUInt64 &&& Int64.toUInt64 63)).toInt64).toInt32) &&& 255) &&& 255).toInt64) <<< ((0 : Int32).toInt64 &&& 63)))) 0 ((((vp_updL (fun _ => 0) 0 (0 ||| (((((((x2.toUInt64 >>> ((0 : Int32).toInt64.toUInt64 &&& Int64.toUInt64 63)).toInt64).toInt32) &&& 255) &&& 255).toInt64) <<< ((0 : Int32).toInt64 &&& 63)))) (0 : Int32).toNatClampNeg) &&& (-65281)) ||| (((((((x2.toUInt64 >>> ((8 : Int32).toInt64.toUInt64 &&& Int64.toUInt64 63)).toInt64).toInt32) &&& 255) &&& 255).toInt64) <<< ((8 : Int32).toInt64 &&& 63)))) (0 : Int32).toNatClampNeg) &&& (-16711681)) ||| (((((((x2.toUInt64 >>> ((16 : Int32).toInt64.toUInt64 &&& Int64.toUInt64 63)).toInt64).toInt32) &&& 255) &&& 255).toInt64) <<< ((16 : Int32).toInt64 &&& 63)))) (0 : Int32).toNatClampNeg) &&& (-4278190081)) ||| (((((((x2.toUInt64 >>> ((24 : Int32).toInt64.toUInt64 &&& Int64.toUInt64 63)).toInt64).toInt32) &&& 255) &&& 255).toInt64) <<< ((24 : Int32).toInt64 &&& 63)))) 0 ((((vp_updL (vp_updL (vp_updL (vp_updL (fun _ => 0) 0 (0 ||| (((((((x2.toUInt64 >>> ((0 : Int32).toInt64.toUInt64 &&& Int64.toUInt64 63)).toInt64).toInt32) &&& 255) &&& 255).toInt64) <<< ((0 : Int32).toInt64 &&& 63)))) 0 ((((vp_updL (fun _ => 0) 0 (0 ||| (((((((x2.toUInt64 >>> ((0 : Int32).toInt64.toUInt64 &&& Int64.toUInt64 63)).toInt64).toInt32) &&& 255) &&& 255).toInt64) <<< ((0 : Int32).toInt64 &&& 63)))) (0 : Int32).toNatClampNeg) &&& (-65281)) ||| (((((((x2.toUInt64 >>> ((8 : Int32).toInt64.toUInt64 &&& Int64.toUInt64 63)).toInt64).toInt32) &&& 255) &&& 255).toInt64) <<< ((8 : Int32).toInt64 &&& 63)))) 0 ((((vp_updL (vp_updL (fun _ => 0) 0 (0 ||| (((((((x2.toUInt64 >>> ((0 : Int32).toInt64.toUInt64 &&& Int64.toUInt64 63)).toInt64).toInt32) &&& 255) &&& 255).toInt64) <<< ((0 : Int32).toInt64 &&& 63)))) 0 ((((vp_updL (fun _ => 0) 0 (0 ||| (((((((x2.toUInt64 >>> ((0 : Int32).toInt64.toUInt64 &&& Int64.toUInt64 63)).toInt64).toInt32) &&& 255) &&& 255).toInt64) <<< ((0 : Int32).toInt64 &&& 63)))) (0 : Int32).toNatClampNeg) &&& (-65281)) ||| (((((((x2.toUInt64 >>> ((8 : Int32).toInt64.toUInt64 &&& Int64.toUInt64 63)).toInt64).toInt32) &&& 255) &&& 255).toInt64) <<< ((8 : Int32).toInt64 &&& 63)))) (0 : Int32).toNatClampNeg) &&& (-16711681)) ||| (((((((x2.toUInt64 >>> ((16 : Int32).toInt64.toUInt64 &&& Int64.toUInt64 63)).toInt64).toInt32) &&& 255) &&& 255).toInt64) <<< ((16 : Int32).toInt64 &&& 63)))) 0 ((((vp_updL (vp_updL (vp_updL (fun _ => 0) 0 (0 ||| (((((((x2.toUInt64 >>> ((0 : Int32).toInt64.toUInt64 &&& Int64.toUInt64 63)).toInt64).toInt32) &&& 255) &&& 255).toInt64) <<< ((0 : Int32).toInt64 &&& 63)))) 0 ((((vp_updL (fun _ => 0) 0 (0 ||| (((((((x2.toUInt64 >>> ((0 : Int32).toInt64.toUInt64 &&& Int64.toUInt64 63)).toInt64).toInt32) &&& 255) &&& 255).toInt64) <<< ((0 : Int32).toInt64 &&& 63)))) (0 : Int32).toNatClampNeg) &&& (-65281)) ||| (((((((x2.toUInt64 >>> ((8 : Int32).toInt64.toUInt64 &&& Int64.toUInt64 63)).toInt64).toInt32) &&& 255) &&& 255).toInt64) <<< ((8 : Int32).toInt64 &&& 63)))) 0 ((((vp_updL (vp_updL (fun _ => 0) 0 (0 ||| (((((((x2.toUInt64 >>> ((0 : Int32).toInt64.toUInt64 &&& Int64.toUInt64 63)).toInt64).toInt32) &&& 255) &&& 255).toInt64) <<< ((0 : Int32).toInt64 &&& 63)))) 0 ((((vp_updL (fun _ => 0) 0 (0 ||| (((((((x2.toUInt64 >>> ((0 : Int32).toInt64.toUInt64 &&& Int64.toUInt64 63)).toInt64).toInt32) &&& 255) &&& 255).toInt64) <<< ((0 : Int32).toInt64 &&& 63)))) (0 : Int32).toNatClampNeg) &&& (-65281)) ||| (((((((x2.toUInt64 >>> ((8 : Int32).toInt64.toUInt64 &&& Int64.toUInt64 63)).toInt64).toInt32) &&& 255) &&& 255).toInt64) <<< ((8 : Int32).toInt64 &&& 63)))) (0 : Int32).toNatClampNeg) &&& (-16711681)) ||| (((((((x2.toUInt64 >>> ((16 : Int32).toInt64.toUInt64 &&& Int64.toUInt64 63)).toInt64).toInt32) &&& 255) &&& 255).toInt64) <<< ((16 : Int32).toInt64 &&& 63)))) (0 : Int32).toNatClampNeg) &&& (-4278190081)) ||| (((((((x2.toUInt64 >>> ((24 : Int32).toInt64.toUInt64 &&& Int64.toUInt64 63)).toInt64).toInt32) &&& 255) &&& 255).toInt64) <<< ((24 : Int32).toInt64 &&& 63)))) (0 : Int32).toNatClampNeg) &&& (-1095216660481)) ||| (((((((x2.toUInt64 >>> ((32 : Int32).toInt64.toUInt64 &&& Int64.toUInt64 63)).toInt64).toInt32) &&& 255) &&& 255).toInt64) <<< ((32 : Int32).toInt64 &&& 63)))) 0 ((((vp_updL (vp_updL (vp_updL (vp_updL (vp_updL (fun _ => 0) 0 (0 ||| (((((((x2.toUInt64 >>> ((0 : Int32).toInt64.toUInt64 &&& Int64.toUInt64 63)).toInt64).toInt32) &&& 255) &&& 255).toInt64) <<< ((0 : Int32).toInt64 &&& 63)))) 0 ((((vp_updL (fun _ => 0) 0 (0 ||| (((((((x2.toUInt64 >>> ((0 : Int32).toInt64.toUInt64 &&& Int64.toUInt64 63)).toInt64).toInt32) &&& 255) &&& 255).toInt64) <<< ((0 : Int32).toInt64 &&& 63)))) (0 : Int32).toNatClampNeg) &&& (-65281)) ||| (((((((x2.toUInt64 >>> ((8 : Int32).toInt64.toUInt64 &&& Int64.toUInt64 63)).toInt64).toInt32) &&& 255) &&& 255).toInt64) <<< ((8 : Int32).toInt64 &&& 63)))) 0 ((((vp_updL (vp_updL (fun _ => 0) 0 (0 ||| (((((((x2.toUInt64 >>> ((0 : Int32).toInt64.toUInt64 &&& Int64.toUInt64 63)).toInt64).toInt32) &&& 255) &&& 255).toInt64) <<< ((0 : Int32).toInt64 &&& 63)))) 0 ((((vp_updL (fun _ => 0) 0 (0 ||| (((((((x2.toUInt64 >>> ((0 : Int32).toInt64.toUInt64 &&& Int64.toUInt64 63)).toInt64).toInt32) &&& 255) &&& 255).toInt64) <<< ((0 : Int32).toInt64 &&& 63)))) (0 : Int32).toNatClampNeg) &&& (-65281)) ||| (((((((x2.toUInt64 >>> ((8 : Int32).toInt64.toUInt64 &&& Int64.toUInt64 63)).toInt64).toInt32) &&& 255) &&& 255).toInt64) <<< ((8 : Int32).toInt64 &&& 63)))) (0 : Int32).toNatClampNeg) &&& (-16711681)) ||| (((((((x2.toUInt64 >>> ((16 : Int32).toInt64.toUInt64 &&& Int64.toUInt64 63)).toInt64).toInt32) &&& 255) &&& 255).toInt64) <<< ((16 : Int32).toInt64 &&& 63)))) 0 ((((vp_updL (vp_updL (vp_updL (fun _ => 0) 0 (0 ||| (((((((x2.toUInt64 >>> ((0 : Int32).toInt64.toUInt64 &&& Int64.toUInt64 63)).toInt64).toInt32) &&& 255) &&& 255).toInt64) <<< ((0 : Int32).toInt64 &&& 63)))) 0 ((((vp_updL (fun _ => 0) 0 (0 ||| (((((((x2.toUInt64 >>> ((0 : Int32).toInt64.toUInt64 &&& Int64.toUInt64 63)).toInt64).toInt32) &&& 255) &&& 255).toInt64) <<< ((0 : Int32).toInt64 &&& 63)))) (0 : Int32).toNatClampNeg) &&& (-65281)) ||| (((((((x2.toUInt64 >>> ((8 : Int32).toInt64.toUInt64 &&& Int64.toUInt64 63)).toInt64).toInt32) &&& 255) &&& 255).toInt64) <<< ((8 : Int32).toInt64 &&& 63)))) 0 ((((vp_updL (vp_updL (fun _ => 0) 0 (0 ||| (((((((x2.toUInt64 >>> ((0 : Int32).toInt64.toUInt64 &&& Int64.toUInt64 63)).toInt64).toInt32) &&& 255) &&& 255).toInt64) <<< ((0 : Int32).toInt64 &&& 63)))) 0 ((((vp_updL (fun _ => 0) 0 (0 ||| (((((((x2.toUInt64 >>> ((0 : Int32).toInt64.toUInt64 &&& Int64.toUInt64 63)).toInt64).toInt32) &&& 255) &&& 255).toInt64) <<< ((0 : Int32).toInt64 &&& 63)))) (0 : Int32).toNatClampNeg) &&& (-65281)) ||| (((((((x2.toUInt64 >>> ((8 : Int32).toInt64.toUInt64 &&& Int64.toUInt64 63)).toInt64).toInt32) &&& 255) &&& 255).toInt64) <<< ((8 : Int32).toInt64 &&& 63)))) (0 : Int32).toNatClampNeg) &&& (-16711681)) ||| (((((((x2.toUInt64 >>> ((16 : Int32).toInt64.toUInt64 &&& Int64.toUInt64 63)).toInt64).toInt32) &&& 255) &&& 255).toInt64) <<< ((16 : Int32).toInt64 &&& 63)))) (0 : Int32).toNatClampNeg) &&& (-4278190081)) ||| (((((((x2.toUInt64 >>> ((24 : Int32).toInt64.toUInt64 &&& Int64.toUInt64 63)).toInt64).toInt32) &&& 255) &&& 255).toInt64) <<< ((24 : Int32).toInt64 &&& 63)))) 0 ((((vp_updL (vp_updL (vp_updL (vp_updL (fun _ => 0) 0 (0 ||| (((((((x2.toUInt64 >>> ((0 : Int32).toInt64.toUInt64 &&& Int64.toUInt64 63)).toInt64).toInt32) &&& 255) &&& 255).toInt64) <<< ((0 : Int32).toInt64 &&& 63)))) 0 ((((vp_updL (fun _ => 0) 0 (0 ||| (((((((x2.toUInt64 >>> ((0 : Int32).toInt64.toUInt64 &&& Int64.toUInt64 63)).toInt64).toInt32) &&& 255) &&& 255).toInt64) <<< ((0 : Int32).toInt64 &&& 63)))) (0 : Int32).toNatClampNeg) &&& (-65281)) ||| (((((((x2.toUInt64 >>> ((8 : Int32).toInt64.toUInt64 &&& Int64.toUInt64 63)).toInt64).toInt32) &&& 255) &&& 255).toInt64) <<< ((8 : Int32).toInt64 &&& 63)))) 0 ((((vp_updL (vp_updL (fun _ => 0) 0 (0 ||| (((((((x2.toUInt64 >>> ((0 : Int32).toInt64.toUInt64 &&& Int64.toUInt64 63)).toInt64).toInt32) &&& 255) &&& 255).toInt64) <<< ((0 : Int32).toInt64 &&& 63)))) 0 ((((vp_updL (fun _ => 0) 0 (0 ||| (((((((x2.toUInt64 >>> ((0 : Int32).toInt64.toUInt64 &&& Int64.toUInt64 63)).toInt64).toInt32) &&& 255) &&& 255).toInt64) <<< ((0 : Int32).toInt64 &&& 63)))) (0 : Int32).toNatClampNeg) &&& (-65281)) ||| (((((((x2.toUInt64 >>> ((8 : Int32).toInt64.toUInt64 &&& Int64.toUInt64 63)).toInt64).toInt32) &&& 255) &&& 255).toInt64) <<< ((8 : Int32).toInt64 &&& 63)))) (0 : Int32).toNatClampNeg) &&& (-16711681)) ||| (((((((x2.toUInt64 >>> ((16 : Int32).toInt64.toUInt64 &&& Int64.toUInt64 63)).toInt64).toInt32) &&& 255) &&& 255).toInt64) <<< ((16 : Int32).toInt64 &&& 63)))) 0 ((((vp_updL (vp_updL (vp_updL (fun _ => 0) 0 (0 ||| (((((((x2.toUInt64 >>> ((0 : Int32).toInt64.toUInt64 &&& Int64.toUInt64 63)).toInt64).toInt32) &&& 255) &&& 255).toInt64) <<< ((0 : Int32).toInt64 &&& 63)))) 0 ((((vp_updL (fun _ => 0) 0 (0 ||| (((((((x2.toUInt64 >>> ((0 : Int32).toInt64.toUInt64 &&& Int64.toUInt64 63)).toInt64).toInt32) &&& 255) &&& 255).toInt64) <<< ((0 : Int32).toInt64 &&& 63)))) (0 : Int32).toNatClampNeg) &&& (-65281)) ||| (((((((x2.toUInt64 >>> ((8 : Int32).toInt64.toUInt64 &&& Int64.toUInt64 63)).toInt64).toInt32) &&& 255) &&& 255).toInt64) <<< ((8 : Int32).toInt64 &&& 63)))) 0 ((((vp_updL (vp_updL (fun _ => 0) 0 (0 ||| (((((((x2.toUInt64 >>> ((0 : Int32).toInt64.toUInt64 &&& Int64.toUInt64 63)).toInt64).toInt32) &&& 255) &&& 255).toInt64) <<< ((0 : Int32).toInt64 &&& 63)))) 0 ((((vp_updL (fun _ => 0) 0 (0 ||| (((((((x2.toUInt64 >>> ((0 : Int32).toInt64.toUInt64 &&& Int64.toUInt64 63)).toInt64).toInt32) &&& 255) &&& 255).toInt64) <<< ((0 : Int32).toInt64 &&& 63)))) (0 : Int32).toNatClampNeg) &&& (-65281)) ||| (((((((x2.toUInt64 >>> ((8 : Int32).toInt64.toUInt64 &&& Int64.toUInt64 63)).toInt64).toInt32) &&& 255) &&& 255).toInt64) <<< ((8 : Int32).toInt64 &&& 63)))) (0 : Int32).toNatClampNeg) &&& (-16711681)) ||| (((((((x2.toUInt64 >>> ((16 : Int32).toInt64.toUInt64 &&& Int64.toUInt64 63)).toInt64).toInt32) &&& 255) &&& 255).toInt64) <<< ((16 : Int32).toInt64 &&& 63)))) (0 : Int32).toNatClampNeg) &&& (-4278190081)) ||| (((((((x2.toUInt64 >>> ((24 : Int32).toInt64.toUInt64 &&& Int64.toUInt64 63)).toInt64).toInt32) &&& 255) &&& 255).toInt64) <<< ((24 : Int32).toInt64 &&& 63)))) (0 : Int32).toNatClampNeg) &&& (-1095216660481)) ||| (((((((x2.toUInt64 >>> ((32 : Int32).toInt64.toUInt64 &&& Int64.toUInt64 63)).toInt64).toInt32) &&& 255) &&& 255).toInt64) <<< ((32 : Int32).toInt64 &&& 63)))) (0 : Int32).toNatClampNeg) &&& (-280375465082881)) ||| (((((((x2.toUInt64 >>> ((40 : Int32).toInt64.toUInt64 &&& Int64.toUInt64 63)).toInt64).toInt32) &&& 255) &&& 255).toInt64) <<< ((40 : Int32).toInt64 &&& 63)))) (0 : Int32).toNatClampNeg) &&& (-71776119061217281)) ||| (((((((x2.toUInt64 >>> ((48 : Int32).toInt64.toUInt64 &&& Int64.toUInt64 63)).toInt64).toInt32) &&& 255) &&& 255).toInt64) <<< ((48 : Int32).toInt64 &&& 63)))) (0 : Int32).toNatClampNeg) &&& 72057594037927935) ||| (((((((x2.toUInt64 >>> ((56 : Int32).toInt64.toUInt64 &&& Int64.toUInt64 63)).toInt64).toInt32) &&& 255) &&& 255).toInt64) <<< ((56 : Int32).toInt64 &&& 63)))))))) ∨ (¬ x1 < 1 ∧ ¬ 8 < x1 ∧ ¬ 1 = 0 ∧ ¬ (0 + x1) ≤ 4100 ∧ (-1) = r ∧ q_un ws u [1, 2] ∧ u[1]? = some (qO1, .inr (1, [.ref qA15, .int 4100, .int 0])) ∧ u[2]? = some (qA15, .inl (g 1, 513, .inr (.inl (fun _ => 0)))))) (fun E u => 0 = 0 ∧ "java/lang/IllegalArgumentException" = E ∧ q_un ws u [1, 2] ∧ u[1]? = some (qO1, .inr (1, [.ref qA15, .int 4100, .int 0])) ∧ u[2]? = some (qA15, .inl (g 1, 513, .inr (.inl (fun _ => 0))))) := by
  intro sz
  refine q_intoX (by decide) (Nat.le_of_ble_eq_true rfl) ?_
  intro p e s m below meth c ls hsz C0 V hno hl
  have hx := C0.1
  have hb := C0.2.1
  have hl : lv_has ls 5 [(0, .ref qO0), (1, .int x1), (2, .long x2)] := hl
  have hF : q_un ws ws [1, 2] := q_u0
  refine lv_iload_n hx hb d_1_2_0 rfl (lv_at hl 1 rfl) ?_
  refine lv_iconst (v := 1) hx hb d_1_2_1 (by decide) ?_
  refine lv_icmp_lt (tgt := 15) hx hb d_1_2_2 (by decide) (fun c1 => ?_) (fun c1 => ?_)
  ·
    refine lv_iconst (v := 0) hx hb d_1_2_15 (by decide) ?_
    refine q_goxv V (q_runSX (As := [.int 0]) (rest := []) (d := 7) (mc := 1) (ms := 6) C0 V rfl LS_NH_104 (c_NH_need l D g ws hlt 0 _) rfl hl.1 rfl (Nat.le_of_ble_eq_true rfl) ⟨by decide, by decide⟩ ⟨Nat.le_of_ble_eq_true rfl, Nat.le_of_ble_eq_true rfl⟩ d_1_2_16) (fun qx Ex ce u3 H locs hp2 V hce hcv hcl => ?_) (fun u3 H locs hp2 V => ?_)
    ·
      obtain ⟨c4, rfl, rfl⟩ := hp2
      exact q_outT hno C0 V (⟨c4, rfl, hF, hO1, hA15⟩) hce hcv hcl (Nat.le_of_ble_eq_true rfl) (Nat.le_of_ble_eq_true rfl)
    ·
      obtain ⟨c6, rfl⟩ := hp2
      exact absurd c6 (by decide)
  ·
    refine lv_iload_n hx hb d_1_2_5 rfl (lv_at hl 1 rfl) ?_
    refine lv_bipush (v := 8) hx hb d_1_2_6 (by decide) ?_
    refine lv_icmp_gt (tgt := 15) hx hb d_1_2_8 (by decide) (fun c8 => ?_) (fun c8 => ?_)
    ·
      refine lv_iconst (v := 0) hx hb d_1_2_15 (by decide) ?_
      refine q_goxv V (q_runSX (As := [.int 0]) (rest := []) (d := 7) (mc := 1) (ms := 6) C0 V rfl LS_NH_104 (c_NH_need l D g ws hlt 0 _) rfl hl.1 rfl (Nat.le_of_ble_eq_true rfl) ⟨by decide, by decide⟩ ⟨Nat.le_of_ble_eq_true rfl, Nat.le_of_ble_eq_true rfl⟩ d_1_2_16) (fun qx Ex ce u10 H locs hp9 V hce hcv hcl => ?_) (fun u10 H locs hp9 V => ?_)
      ·
        obtain ⟨c11, rfl, rfl⟩ := hp9
        exact q_outT hno C0 V (⟨c11, rfl, hF, hO1, hA15⟩) hce hcv hcl (Nat.le_of_ble_eq_true rfl) (Nat.le_of_ble_eq_true rfl)
      ·
        obtain ⟨c13, rfl⟩ := hp9
        exact absurd c13 (by decide)
    ·
      refine lv_iconst (v := 1) hx hb d_1_2_11 (by decide) ?_
      refine lv_goto (tgt := 16) hx hb d_1_2_12 (by decide) ?_
      refine q_goxv V (q_runSX (As := [.int 1]) (rest := []) (d := 7) (mc := 1) (ms := 6) C0 V rfl LS_NH_104 (c_NH_need l D g ws hlt 1 _) rfl hl.1 rfl (Nat.le_of_ble_eq_true rfl) ⟨by decide, by decide⟩ ⟨Nat.le_of_ble_eq_true rfl, Nat.le_of_ble_eq_true rfl⟩ d_1_2_16) (fun qx Ex ce u16 H locs hp15 V hce hcv hcl => ?_) (fun u16 H locs hp15 V => ?_)
      ·
        obtain ⟨c17, rfl, rfl⟩ := hp15
        exact absurd c17 (by decide)
      ·
        obtain ⟨c19, rfl⟩ := hp15
        refine lv_aload_n hx hb d_1_2_19 rfl (lv_at hl 0 rfl) ?_
        refine q_get (ci := 0) (j := 0) (v := .ref qO1) C0 V i_NH rfl rfl hO0 (by decide) w_424 rfl d_1_2_20 ?_
        refine q_get (ci := 1) (j := 2) (v := .int 0) C0 V i_She rfl rfl hO1 (by decide) w_56 rfl d_1_2_23 ?_
        refine lv_iload_n hx hb d_1_2_26 rfl (lv_at hl 1 rfl) ?_
        refine lv_iadd hx hb d_1_2_27 ?_
        refine lv_sipush (v := 4100) hx hb d_1_2_28 (by decide) ?_
        refine lv_icmp_le (tgt := 36) hx hb d_1_2_31 (by decide) (fun c21 => ?_) (fun c21 => ?_)
        ·
          refine lv_iconst (v := 0) hx hb d_1_2_36 (by decide) ?_
          refine lv_istore (lv' := [(4, .int 0), (0, .ref qO0), (1, .int x1), (2, .long x2)]) hx hb d_1_2_37 hl (by decide) rfl (fun ls hl => ?_)
          refine lv_iload hx hb d_1_2_39 (lv_at hl 0 rfl) ?_
          refine lv_iload_n hx hb d_1_2_41 rfl (lv_at hl 2 rfl) ?_
          refine lv_icmp_ge (tgt := 70) hx hb d_1_2_42 (by decide) (fun c22 => ?_) (fun c22 => ?_)
          ·
            refine lv_aload_n hx hb d_1_2_70 rfl (lv_at hl 1 rfl) ?_
            refine q_get (ci := 0) (j := 0) (v := .ref qO1) C0 V i_NH rfl rfl hO0 (by decide) w_424 rfl d_1_2_71 ?_
            refine q_get (ci := 1) (j := 2) (v := .int 0) C0 V i_She rfl rfl hO1 (by decide) w_56 rfl d_1_2_74 ?_
            exact q_retX (q_reti C0 V (Or.inl ⟨c1, c8, c19, c21, c22, rfl, hF, hO1, hA15⟩) d_1_2_77)
          ·
            refine lv_aload_n hx hb d_1_2_45 rfl (lv_at hl 1 rfl) ?_
            refine q_get (ci := 0) (j := 0) (v := .ref qO1) C0 V i_NH rfl rfl hO0 (by decide) w_424 rfl d_1_2_46 ?_
            refine lv_lload_n hx hb d_1_2_49 rfl (lv_at hl 3 rfl) ?_
            refine lv_bipush (v := 8) hx hb d_1_2_50 (by decide) ?_
            refine lv_iload hx hb d_1_2_52 (lv_at hl 0 rfl) ?_
            refine lv_imul hx hb d_1_2_54 ?_
            refine q_ti (v := 0) (by decide) ?_
            refine lv_lushr hx hb d_1_2_55 rfl ?_
            refine lv_l2i hx hb d_1_2_56 rfl ?_
            refine lv_sipush (v := 255) hx hb d_1_2_57 (by decide) ?_
            refine lv_iand hx hb d_1_2_60 ?_
            refine q_gov V (q_runV (As := [.int ((((x2.toUInt64 >>> ((0 : Int32).toInt64.toUInt64 &&& Int64.toUInt64 63)).toInt64).toInt32) &&& 255)]) (rest := []) (d := 1) (mc := 0) (ms := 0) (ci := 1) C0 V rfl LV_NH_112 (c_She_add l D g ws 1 2 qO1 qA15 ((((x2.toUInt64 >>> ((0 : Int32).toInt64.toUInt64 &&& Int64.toUInt64 63)).toInt64).toInt32) &&& 255) hO1 hA15 _) rfl rfl hO1 rfl hl.1 rfl (Nat.le_of_ble_eq_true rfl) ⟨by decide, by decide⟩ ⟨Nat.le_of_ble_eq_true rfl, Nat.le_of_ble_eq_true rfl⟩ d_1_2_61) (fun u24 H locs hp23 V => ?_)
            obtain ⟨hg25, hO1, hA15⟩ := hp23
            replace hF := q_uc hF hg25 (q_sc (.head _) (q_sc (.tail _ (.head _)) (fun _ h => absurd h List.not_mem_nil)))
            refine lv_iinc (v := 1) (lv' := [(4, .int 1), (0, .ref qO0), (1, .int x1), (2, .long x2)]) hx hb d_1_2_64 hl (k := 0) rfl (by decide) (by decide) rfl (fun ls hl => ?_)
            refine lv_goto (tgt := 39) hx hb d_1_2_67 (by decide) ?_
            refine lv_iload hx hb d_1_2_39 (lv_at hl 0 rfl) ?_
            refine lv_iload_n hx hb d_1_2_41 rfl (lv_at hl 2 rfl) ?_
            refine lv_icmp_ge (tgt := 70) hx hb d_1_2_42 (by decide) (fun c26 => ?_) (fun c26 => ?_)
            ·
              refine lv_aload_n hx hb d_1_2_70 rfl (lv_at hl 1 rfl) ?_
              replace hO0 := (hg25 _ (q_nc (q_pd 0 1 rfl) (q_nc (q_pd 0 2 rfl) List.not_mem_nil))).trans (hO0)
              refine q_get (ci := 0) (j := 0) (v := .ref qO1) C0 V i_NH rfl rfl hO0 (by decide) w_424 rfl d_1_2_71 ?_
              refine q_get (ci := 1) (j := 2) (v := .int 1) C0 V i_She rfl rfl hO1 (by decide) w_56 rfl d_1_2_74 ?_
              exact q_retX (q_reti C0 V (Or.inr (Or.inl ⟨c1, c8, c19, c21, c22, c26, rfl, hF, hO1, hA15⟩)) d_1_2_77)
            ·
              refine lv_aload_n hx hb d_1_2_45 rfl (lv_at hl 1 rfl) ?_
              replace hO0 := (hg25 _ (q_nc (q_pd 0 1 rfl) (q_nc (q_pd 0 2 rfl) List.not_mem_nil))).trans (hO0)
              refine q_get (ci := 0) (j := 0) (v := .ref qO1) C0 V i_NH rfl rfl hO0 (by decide) w_424 rfl d_1_2_46 ?_
              refine lv_lload_n hx hb d_1_2_49 rfl (lv_at hl 3 rfl) ?_
              refine lv_bipush (v := 8) hx hb d_1_2_50 (by decide) ?_
              refine lv_iload hx hb d_1_2_52 (lv_at hl 0 rfl) ?_
              refine lv_imul hx hb d_1_2_54 ?_
              refine q_ti (v := 8) (by decide) ?_
              refine lv_lushr hx hb d_1_2_55 rfl ?_
              refine lv_l2i hx hb d_1_2_56 rfl ?_
              refine lv_sipush (v := 255) hx hb d_1_2_57 (by decide) ?_
              refine lv_iand hx hb d_1_2_60 ?_
              refine q_gov V (q_runV (As := [.int ((((x2.toUInt64 >>> ((8 : Int32).toInt64.toUInt64 &&& Int64.toUInt64 63)).toInt64).toInt32) &&& 255)]) (rest := []) (d := 1) (mc := 0) (ms := 0) (ci := 1) C0 V rfl LV_NH_112 (c_She_add_2 l D g u24 1 2 qO1 qA15 ((((x2.toUInt64 >>> ((8 : Int32).toInt64.toUInt64 &&& Int64.toUInt64 63)).toInt64).toInt32) &&& 255) (vp_updL (fun _ => 0) 0 (0 ||| (((((((x2.toUInt64 >>> ((0 : Int32).toInt64.toUInt64 &&& Int64.toUInt64 63)).toInt64).toInt32) &&& 255) &&& 255).toInt64) <<< ((0 : Int32).toInt64 &&& 63)))) hO1 hA15 _) rfl rfl hO1 rfl hl.1 rfl (Nat.le_of_ble_eq_true rfl) ⟨by decide, by decide⟩ ⟨Nat.le_of_ble_eq_true rfl, Nat.le_of_ble_eq_true rfl⟩ d_1_2_61) (fun u28 H locs hp27 V => ?_)
              obtain ⟨hg29, hO1, hA15⟩ := hp27
              replace hF := q_uc hF hg29 (q_sc (.head _) (q_sc (.tail _ (.head _)) (fun _ h => absurd h List.not_mem_nil)))
              refine lv_iinc (v := 2) (lv' := [(4, .int 2), (0, .ref qO0), (1, .int x1), (2, .long x2)]) hx hb d_1_2_64 hl (k := 0) rfl (by decide) (by decide) rfl (fun ls hl => ?_)
              refine lv_goto (tgt := 39) hx hb d_1_2_67 (by decide) ?_
              refine lv_iload hx hb d_1_2_39 (lv_at hl 0 rfl) ?_
              refine lv_iload_n hx hb d_1_2_41 rfl (lv_at hl 2 rfl) ?_
              refine lv_icmp_ge (tgt := 70) hx hb d_1_2_42 (by decide) (fun c30 => ?_) (fun c30 => ?_)
              ·
                refine lv_aload_n hx hb d_1_2_70 rfl (lv_at hl 1 rfl) ?_
                replace hO0 := (hg29 _ (q_nc (q_pd 0 1 rfl) (q_nc (q_pd 0 2 rfl) List.not_mem_nil))).trans (hO0)
                refine q_get (ci := 0) (j := 0) (v := .ref qO1) C0 V i_NH rfl rfl hO0 (by decide) w_424 rfl d_1_2_71 ?_
                refine q_get (ci := 1) (j := 2) (v := .int 2) C0 V i_She rfl rfl hO1 (by decide) w_56 rfl d_1_2_74 ?_
                exact q_retX (q_reti C0 V (Or.inr (Or.inr (Or.inl ⟨c1, c8, c19, c21, c22, c26, c30, rfl, hF, hO1, hA15⟩))) d_1_2_77)
              ·
                refine lv_aload_n hx hb d_1_2_45 rfl (lv_at hl 1 rfl) ?_
                replace hO0 := (hg29 _ (q_nc (q_pd 0 1 rfl) (q_nc (q_pd 0 2 rfl) List.not_mem_nil))).trans (hO0)
                refine q_get (ci := 0) (j := 0) (v := .ref qO1) C0 V i_NH rfl rfl hO0 (by decide) w_424 rfl d_1_2_46 ?_
                refine lv_lload_n hx hb d_1_2_49 rfl (lv_at hl 3 rfl) ?_
                refine lv_bipush (v := 8) hx hb d_1_2_50 (by decide) ?_
                refine lv_iload hx hb d_1_2_52 (lv_at hl 0 rfl) ?_
                refine lv_imul hx hb d_1_2_54 ?_
                refine q_ti (v := 16) (by decide) ?_
                refine lv_lushr hx hb d_1_2_55 rfl ?_
                refine lv_l2i hx hb d_1_2_56 rfl ?_
                refine lv_sipush (v := 255) hx hb d_1_2_57 (by decide) ?_
                refine lv_iand hx hb d_1_2_60 ?_
                refine q_gov V (q_runV (As := [.int ((((x2.toUInt64 >>> ((16 : Int32).toInt64.toUInt64 &&& Int64.toUInt64 63)).toInt64).toInt32) &&& 255)]) (rest := []) (d := 1) (mc := 0) (ms := 0) (ci := 1) C0 V rfl LV_NH_112 (c_She_add_3 l D g u28 1 2 qO1 qA15 ((((x2.toUInt64 >>> ((16 : Int32).toInt64.toUInt64 &&& Int64.toUInt64 63)).toInt64).toInt32) &&& 255) (vp_updL (vp_updL (fun _ => 0) 0 (0 ||| (((((((x2.toUInt64 >>> ((0 : Int32).toInt64.toUInt64 &&& Int64.toUInt64 63)).toInt64).toInt32) &&& 255) &&& 255).toInt64) <<< ((0 : Int32).toInt64 &&& 63)))) 0 ((((vp_updL (fun _ => 0) 0 (0 ||| (((((((x2.toUInt64 >>> ((0 : Int32).toInt64.toUInt64 &&& Int64.toUInt64 63)).toInt64).toInt32) &&& 255) &&& 255).toInt64) <<< ((0 : Int32).toInt64 &&& 63)))) (0 : Int32).toNatClampNeg) &&& (-65281)) ||| (((((((x2.toUInt64 >>> ((8 : Int32).toInt64.toUInt64 &&& Int64.toUInt64 63)).toInt64).toInt32) &&& 255) &&& 255).toInt64) <<< ((8 : Int32).toInt64 &&& 63)))) hO1 hA15 _) rfl rfl hO1 rfl hl.1 rfl (Nat.le_of_ble_eq_true rfl) ⟨by decide, by decide⟩ ⟨Nat.le_of_ble_eq_true rfl, Nat.le_of_ble_eq_true rfl⟩ d_1_2_61) (fun u32 H locs hp31 V => ?_)
                obtain ⟨hg33, hO1, hA15⟩ := hp31
                replace hF := q_uc hF hg33 (q_sc (.head _) (q_sc (.tail _ (.head _)) (fun _ h => absurd h List.not_mem_nil)))
                refine lv_iinc (v := 3) (lv' := [(4, .int 3), (0, .ref qO0), (1, .int x1), (2, .long x2)]) hx hb d_1_2_64 hl (k := 0) rfl (by decide) (by decide) rfl (fun ls hl => ?_)
                refine lv_goto (tgt := 39) hx hb d_1_2_67 (by decide) ?_
                refine lv_iload hx hb d_1_2_39 (lv_at hl 0 rfl) ?_
                refine lv_iload_n hx hb d_1_2_41 rfl (lv_at hl 2 rfl) ?_
                refine lv_icmp_ge (tgt := 70) hx hb d_1_2_42 (by decide) (fun c34 => ?_) (fun c34 => ?_)
                ·
                  refine lv_aload_n hx hb d_1_2_70 rfl (lv_at hl 1 rfl) ?_
                  replace hO0 := (hg33 _ (q_nc (q_pd 0 1 rfl) (q_nc (q_pd 0 2 rfl) List.not_mem_nil))).trans (hO0)
                  refine q_get (ci := 0) (j := 0) (v := .ref qO1) C0 V i_NH rfl rfl hO0 (by decide) w_424 rfl d_1_2_71 ?_
                  refine q_get (ci := 1) (j := 2) (v := .int 3) C0 V i_She rfl rfl hO1 (by decide) w_56 rfl d_1_2_74 ?_
                  exact q_retX (q_reti C0 V (Or.inr (Or.inr (Or.inr (Or.inl ⟨c1, c8, c19, c21, c22, c26, c30, c34, rfl, hF, hO1, hA15⟩)))) d_1_2_77)
                ·
                  refine lv_aload_n hx hb d_1_2_45 rfl (lv_at hl 1 rfl) ?_
                  replace hO0 := (hg33 _ (q_nc (q_pd 0 1 rfl) (q_nc (q_pd 0 2 rfl) List.not_mem_nil))).trans (hO0)
                  refine q_get (ci := 0) (j := 0) (v := .ref qO1) C0 V i_NH rfl rfl hO0 (by decide) w_424 rfl d_1_2_46 ?_
                  refine lv_lload_n hx hb d_1_2_49 rfl (lv_at hl 3 rfl) ?_
                  refine lv_bipush (v := 8) hx hb d_1_2_50 (by decide) ?_
                  refine lv_iload hx hb d_1_2_52 (lv_at hl 0 rfl) ?_
                  refine lv_imul hx hb d_1_2_54 ?_
                  refine q_ti (v := 24) (by decide) ?_
                  refine lv_lushr hx hb d_1_2_55 rfl ?_
                  refine lv_l2i hx hb d_1_2_56 rfl ?_
                  refine lv_sipush (v := 255) hx hb d_1_2_57 (by decide) ?_
                  refine lv_iand hx hb d_1_2_60 ?_
                  refine q_gov V (q_runV (As := [.int ((((x2.toUInt64 >>> ((24 : Int32).toInt64.toUInt64 &&& Int64.toUInt64 63)).toInt64).toInt32) &&& 255)]) (rest := []) (d := 1) (mc := 0) (ms := 0) (ci := 1) C0 V rfl LV_NH_112 (c_She_add_4 l D g u32 1 2 qO1 qA15 ((((x2.toUInt64 >>> ((24 : Int32).toInt64.toUInt64 &&& Int64.toUInt64 63)).toInt64).toInt32) &&& 255) (vp_updL (vp_updL (vp_updL (fun _ => 0) 0 (0 ||| (((((((x2.toUInt64 >>> ((0 : Int32).toInt64.toUInt64 &&& Int64.toUInt64 63)).toInt64).toInt32) &&& 255) &&& 255).toInt64) <<< ((0 : Int32).toInt64 &&& 63)))) 0 ((((vp_updL (fun _ => 0) 0 (0 ||| (((((((x2.toUInt64 >>> ((0 : Int32).toInt64.toUInt64 &&& Int64.toUInt64 63)).toInt64).toInt32) &&& 255) &&& 255).toInt64) <<< ((0 : Int32).toInt64 &&& 63)))) (0 : Int32).toNatClampNeg) &&& (-65281)) ||| (((((((x2.toUInt64 >>> ((8 : Int32).toInt64.toUInt64 &&& Int64.toUInt64 63)).toInt64).toInt32) &&& 255) &&& 255).toInt64) <<< ((8 : Int32).toInt64 &&& 63)))) 0 ((((vp_updL (vp_updL (fun _ => 0) 0 (0 ||| (((((((x2.toUInt64 >>> ((0 : Int32).toInt64.toUInt64 &&& Int64.toUInt64 63)).toInt64).toInt32) &&& 255) &&& 255).toInt64) <<< ((0 : Int32).toInt64 &&& 63)))) 0 ((((vp_updL (fun _ => 0) 0 (0 ||| (((((((x2.toUInt64 >>> ((0 : Int32).toInt64.toUInt64 &&& Int64.toUInt64 63)).toInt64).toInt32) &&& 255) &&& 255).toInt64) <<< ((0 : Int32).toInt64 &&& 63)))) (0 : Int32).toNatClampNeg) &&& (-65281)) ||| (((((((x2.toUInt64 >>> ((8 : Int32).toInt64.toUInt64 &&& Int64.toUInt64 63)).toInt64).toInt32) &&& 255) &&& 255).toInt64) <<< ((8 : Int32).toInt64 &&& 63)))) (0 : Int32).toNatClampNeg) &&& (-16711681)) ||| (((((((x2.toUInt64 >>> ((16 : Int32).toInt64.toUInt64 &&& Int64.toUInt64 63)).toInt64).toInt32) &&& 255) &&& 255).toInt64) <<< ((16 : Int32).toInt64 &&& 63)))) hO1 hA15 _) rfl rfl hO1 rfl hl.1 rfl (Nat.le_of_ble_eq_true rfl) ⟨by decide, by decide⟩ ⟨Nat.le_of_ble_eq_true rfl, Nat.le_of_ble_eq_true rfl⟩ d_1_2_61) (fun u36 H locs hp35 V => ?_)
                  obtain ⟨hg37, hO1, hA15⟩ := hp35
                  replace hF := q_uc hF hg37 (q_sc (.head _) (q_sc (.tail _ (.head _)) (fun _ h => absurd h List.not_mem_nil)))
                  refine lv_iinc (v := 4) (lv' := [(4, .int 4), (0, .ref qO0), (1, .int x1), (2, .long x2)]) hx hb d_1_2_64 hl (k := 0) rfl (by decide) (by decide) rfl (fun ls hl => ?_)
                  refine lv_goto (tgt := 39) hx hb d_1_2_67 (by decide) ?_
                  refine lv_iload hx hb d_1_2_39 (lv_at hl 0 rfl) ?_
                  refine lv_iload_n hx hb d_1_2_41 rfl (lv_at hl 2 rfl) ?_
                  refine lv_icmp_ge (tgt := 70) hx hb d_1_2_42 (by decide) (fun c38 => ?_) (fun c38 => ?_)
                  ·
                    refine lv_aload_n hx hb d_1_2_70 rfl (lv_at hl 1 rfl) ?_
                    replace hO0 := (hg37 _ (q_nc (q_pd 0 1 rfl) (q_nc (q_pd 0 2 rfl) List.not_mem_nil))).trans (hO0)
                    refine q_get (ci := 0) (j := 0) (v := .ref qO1) C0 V i_NH rfl rfl hO0 (by decide) w_424 rfl d_1_2_71 ?_
                    refine q_get (ci := 1) (j := 2) (v := .int 4) C0 V i_She rfl rfl hO1 (by decide) w_56 rfl d_1_2_74 ?_
                    exact q_retX (q_reti C0 V (Or.inr (Or.inr (Or.inr (Or.inr (Or.inl ⟨c1, c8, c19, c21, c22, c26, c30, c34, c38, rfl, hF, hO1, hA15⟩))))) d_1_2_77)
                  ·
                    refine lv_aload_n hx hb d_1_2_45 rfl (lv_at hl 1 rfl) ?_
                    replace hO0 := (hg37 _ (q_nc (q_pd 0 1 rfl) (q_nc (q_pd 0 2 rfl) List.not_mem_nil))).trans (hO0)
                    refine q_get (ci := 0) (j := 0) (v := .ref qO1) C0 V i_NH rfl rfl hO0 (by decide) w_424 rfl d_1_2_46 ?_
                    refine lv_lload_n hx hb d_1_2_49 rfl (lv_at hl 3 rfl) ?_
                    refine lv_bipush (v := 8) hx hb d_1_2_50 (by decide) ?_
                    refine lv_iload hx hb d_1_2_52 (lv_at hl 0 rfl) ?_
                    refine lv_imul hx hb d_1_2_54 ?_
                    refine q_ti (v := 32) (by decide) ?_
                    refine lv_lushr hx hb d_1_2_55 rfl ?_
                    refine lv_l2i hx hb d_1_2_56 rfl ?_
                    refine lv_sipush (v := 255) hx hb d_1_2_57 (by decide) ?_
                    refine lv_iand hx hb d_1_2_60 ?_
                    refine q_gov V (q_runV (As := [.int ((((x2.toUInt64 >>> ((32 : Int32).toInt64.toUInt64 &&& Int64.toUInt64 63)).toInt64).toInt32) &&& 255)]) (rest := []) (d := 1) (mc := 0) (ms := 0) (ci := 1) C0 V rfl LV_NH_112 (c_She_add_5 l D g u36 1 2 qO1 qA15 ((((x2.toUInt64 >>> ((32 : Int32).toInt64.toUInt64 &&& Int64.toUInt64 63)).toInt64).toInt32) &&& 255) (vp_updL (vp_updL (vp_updL (vp_updL (fun _ => 0) 0 (0 ||| (((((((x2.toUInt64 >>> ((0 : Int32).toInt64.toUInt64 &&& Int64.toUInt64 63)).toInt64).toInt32) &&& 255) &&& 255).toInt64) <<< ((0 : Int32).toInt64 &&& 63)))) 0 ((((vp_updL (fun _ => 0) 0 (0 ||| (((((((x2.toUInt64 >>> ((0 : Int32).toInt64.toUInt64 &&& Int64.toUInt64 63)).toInt64).toInt32) &&& 255) &&& 255).toInt64) <<< ((0 : Int32).toInt64 &&& 63)))) (0 : Int32).toNatClampNeg) &&& (-65281)) ||| (((((((x2.toUInt64 >>> ((8 : Int32).toInt64.toUInt64 &&& Int64.toUInt64 63)).toInt64).toInt32) &&& 255) &&& 255).toInt64) <<< ((8 : Int32).toInt64 &&& 63)))) 0 ((((vp_updL (vp_updL (fun _ => 0) 0 (0 ||| (((((((x2.toUInt64 >>> ((0 : Int32).toInt64.toUInt64 &&& Int64.toUInt64 63)).toInt64).toInt32) &&& 255) &&& 255).toInt64) <<< ((0 : Int32).toInt64 &&& 63)))) 0 ((((vp_updL (fun _ => 0) 0 (0 ||| (((((((x2.toUInt64 >>> ((0 : Int32).toInt64.toUInt64 &&& Int64.toUInt64 63)).toInt64).toInt32) &&& 255) &&& 255).toInt64) <<< ((0 : Int32).toInt64 &&& 63)))) (0 : Int32).toNatClampNeg) &&& (-65281)) ||| (((((((x2.toUInt64 >>> ((8 : Int32).toInt64.toUInt64 &&& Int64.toUInt64 63)).toInt64).toInt32) &&& 255) &&& 255).toInt64) <<< ((8 : Int32).toInt64 &&& 63)))) (0 : Int32).toNatClampNeg) &&& (-16711681)) ||| (((((((x2.toUInt64 >>> ((16 : Int32).toInt64.toUInt64 &&& Int64.toUInt64 63)).toInt64).toInt32) &&& 255) &&& 255).toInt64) <<< ((16 : Int32).toInt64 &&& 63)))) 0 ((((vp_updL (vp_updL (vp_updL (fun _ => 0) 0 (0 ||| (((((((x2.toUInt64 >>> ((0 : Int32).toInt64.toUInt64 &&& Int64.toUInt64 63)).toInt64).toInt32) &&& 255) &&& 255).toInt64) <<< ((0 : Int32).toInt64 &&& 63)))) 0 ((((vp_updL (fun _ => 0) 0 (0 ||| (((((((x2.toUInt64 >>> ((0 : Int32).toInt64.toUInt64 &&& Int64.toUInt64 63)).toInt64).toInt32) &&& 255) &&& 255).toInt64) <<< ((0 : Int32).toInt64 &&& 63)))) (0 : Int32).toNatClampNeg) &&& (-65281)) ||| (((((((x2.toUInt64 >>> ((8 : Int32).toInt64.toUInt64 &&& Int64.toUInt64 63)).toInt64).toInt32) &&& 255) &&& 255).toInt64) <<< ((8 : Int32).toInt64 &&& 63)))) 0 ((((vp_updL (vp_updL (fun _ => 0) 0 (0 ||| (((((((x2.toUInt64 >>> ((0 : Int32).toInt64.toUInt64 &&& Int64.toUInt64 63)).toInt64).toInt32) &&& 255) &&& 255).toInt64) <<< ((0 : Int32).toInt64 &&& 63)))) 0 ((((vp_updL (fun _ => 0) 0 (0 ||| (((((((x2.toUInt64 >>> ((0 : Int32).toInt64.toUInt64 &&& Int64.toUInt64 63)).toInt64).toInt32) &&& 255) &&& 255).toInt64) <<< ((0 : Int32).toInt64 &&& 63)))) (0 : Int32).toNatClampNeg) &&& (-65281)) ||| (((((((x2.toUInt64 >>> ((8 : Int32).toInt64.toUInt64 &&& Int64.toUInt64 63)).toInt64).toInt32) &&& 255) &&& 255).toInt64) <<< ((8 : Int32).toInt64 &&& 63)))) (0 : Int32).toNatClampNeg) &&& (-16711681)) ||| (((((((x2.toUInt64 >>> ((16 : Int32).toInt64.toUInt64 &&& Int64.toUInt64 63)).toInt64).toInt32) &&& 255) &&& 255).toInt64) <<< ((16 : Int32).toInt64 &&& 63)))) (0 : Int32).toNatClampNeg) &&& (-4278190081)) ||| (((((((x2.toUInt64 >>> ((24 : Int32).toInt64.toUInt64 &&& Int64.toUInt64 63)).toInt64).toInt32) &&& 255) &&& 255).toInt64) <<< ((24 : Int32).toInt64 &&& 63)))) hO1 hA15 _) rfl rfl hO1 rfl hl.1 rfl (Nat.le_of_ble_eq_true rfl) ⟨by decide, by decide⟩ ⟨Nat.le_of_ble_eq_true rfl, Nat.le_of_ble_eq_true rfl⟩ d_1_2_61) (fun u40 H locs hp39 V => ?_)
                    obtain ⟨hg41, hO1, hA15⟩ := hp39
                    replace hF := q_uc hF hg41 (q_sc (.head _) (q_sc (.tail _ (.head _)) (fun _ h => absurd h List.not_mem_nil)))
                    refine lv_iinc (v := 5) (lv' := [(4, .int 5), (0, .ref qO0), (1, .int x1), (2, .long x2)]) hx hb d_1_2_64 hl (k := 0) rfl (by decide) (by decide) rfl (fun ls hl => ?_)
                    refine lv_goto (tgt := 39) hx hb d_1_2_67 (by decide) ?_
                    refine lv_iload hx hb d_1_2_39 (lv_at hl 0 rfl) ?_
                    refine lv_iload_n hx hb d_1_2_41 rfl (lv_at hl 2 rfl) ?_
                    refine lv_icmp_ge (tgt := 70) hx hb d_1_2_42 (by decide) (fun c42 => ?_) (fun c42 => ?_)
                    ·
                      refine lv_aload_n hx hb d_1_2_70 rfl (lv_at hl 1 rfl) ?_
                      replace hO0 := (hg41 _ (q_nc (q_pd 0 1 rfl) (q_nc (q_pd 0 2 rfl) List.not_mem_nil))).trans (hO0)
                      refine q_get (ci := 0) (j := 0) (v := .ref qO1) C0 V i_NH rfl rfl hO0 (by decide) w_424 rfl d_1_2_71 ?_
                      refine q_get (ci := 1) (j := 2) (v := .int 5) C0 V i_She rfl rfl hO1 (by decide) w_56 rfl d_1_2_74 ?_
                      exact q_retX (q_reti C0 V (Or.inr (Or.inr (Or.inr (Or.inr (Or.inr (Or.inl ⟨c1, c8, c19, c21, c22, c26, c30, c34, c38, c42, rfl, hF, hO1, hA15⟩)))))) d_1_2_77)
                    ·
                      refine lv_aload_n hx hb d_1_2_45 rfl (lv_at hl 1 rfl) ?_
                      replace hO0 := (hg41 _ (q_nc (q_pd 0 1 rfl) (q_nc (q_pd 0 2 rfl) List.not_mem_nil))).trans (hO0)
                      refine q_get (ci := 0) (j := 0) (v := .ref qO1) C0 V i_NH rfl rfl hO0 (by decide) w_424 rfl d_1_2_46 ?_
                      refine lv_lload_n hx hb d_1_2_49 rfl (lv_at hl 3 rfl) ?_
                      refine lv_bipush (v := 8) hx hb d_1_2_50 (by decide) ?_
                      refine lv_iload hx hb d_1_2_52 (lv_at hl 0 rfl) ?_
                      refine lv_imul hx hb d_1_2_54 ?_
                      refine q_ti (v := 40) (by decide) ?_
                      refine lv_lushr hx hb d_1_2_55 rfl ?_
                      refine lv_l2i hx hb d_1_2_56 rfl ?_
                      refine lv_sipush (v := 255) hx hb d_1_2_57 (by decide) ?_
                      refine lv_iand hx hb d_1_2_60 ?_
                      refine q_gov V (q_runV (As := [.int ((((x2.toUInt64 >>> ((40 : Int32).toInt64.toUInt64 &&& Int64.toUInt64 63)).toInt64).toInt32) &&& 255)]) (rest := []) (d := 1) (mc := 0) (ms := 0) (ci := 1) C0 V rfl LV_NH_112 (c_She_add_6 l D g u40 1 2 qO1 qA15 ((((x2.toUInt64 >>> ((40 : Int32).toInt64.toUInt64 &&& Int64.toUInt64 63)).toInt64).toInt32) &&& 255) (vp_updL (vp_updL (vp_updL (vp_updL (vp_updL (fun _ => 0) 0 (0 ||| (((((((x2.toUInt64 >>> ((0 : Int32).toInt64.toUInt64 &&& Int64.toUInt64 63)).toInt64).toInt32) &&& 255) &&& 255).toInt64) <<< ((0 : Int32).toInt64 &&& 63)))) 0 ((((vp_updL (fun _ => 0) 0 (0 ||| (((((((x2.toUInt64 >>> ((0 : Int32).toInt64.toUInt64 &&& Int64.toUInt64 63)).toInt64).toInt32) &&& 255) &&& 255).toInt64) <<< ((0 : Int32).toInt64 &&& 63)))) (0 : Int32).toNatClampNeg) &&& (-65281)) ||| (((((((x2.toUInt64 >>> ((8 : Int32).toInt64.toUInt64 &&& Int64.toUInt64 63)).toInt64).toInt32) &&& 255) &&& 255).toInt64) <<< ((8 : Int32).toInt64 &&& 63)))) 0 ((((vp_updL (vp_updL (fun _ => 0) 0 (0 ||| (((((((x2.toUInt64 >>> ((0 : Int32).toInt64.toUInt64 &&& Int64.toUInt64 63)).toInt64).toInt32) &&& 255) &&& 255).toInt64) <<< ((0 : Int32).toInt64 &&& 63)))) 0 ((((vp_updL (fun _ => 0) 0 (0 ||| (((((((x2.toUInt64 >>> ((0 : Int32).toInt64.toUInt64 &&& Int64.toUInt64 63)).toInt64).toInt32) &&& 255) &&& 255).toInt64) <<< ((0 : Int32).toInt64 &&& 63)))) (0 : Int32).toNatClampNeg) &&& (-65281)) ||| (((((((x2.toUInt64 >>> ((8 : Int32).toInt64.toUInt64 &&& Int64.toUInt64 63)).toInt64).toInt32) &&& 255) &&& 255).toInt64) <<< ((8 : Int32).toInt64 &&& 63)))) (0 : Int32).toNatClampNeg) &&& (-16711681)) ||| (((((((x2.toUInt64 >>> ((16 : Int32).toInt64.toUInt64 &&& Int64.toUInt64 63)).toInt64).toInt32) &&& 255) &&& 255).toInt64) <<< ((16 : Int32).toInt64 &&& 63)))) 0 ((((vp_updL (vp_updL (vp_updL (fun _ => 0) 0 (0 ||| (((((((x2.toUInt64 >>> ((0 : Int32).toInt64.toUInt64 &&& Int64.toUInt64 63)).toInt64).toInt32) &&& 255) &&& 255).toInt64) <<< ((0 : Int32).toInt64 &&& 63)))) 0 ((((vp_updL (fun _ => 0) 0 (0 ||| (((((((x2.toUInt64 >>> ((0 : Int32).toInt64.toUInt64 &&& Int64.toUInt64 63)).toInt64).toInt32) &&& 255) &&& 255).toInt64) <<< ((0 : Int32).toInt64 &&& 63)))) (0 : Int32).toNatClampNeg) &&& (-65281)) ||| (((((((x2.toUInt64 >>> ((8 : Int32).toInt64.toUInt64 &&& Int64.toUInt64 63)).toInt64).toInt32) &&& 255) &&& 255).toInt64) <<< ((8 : Int32).toInt64 &&& 63)))) 0 ((((vp_updL (vp_updL (fun _ => 0) 0 (0 ||| (((((((x2.toUInt64 >>> ((0 : Int32).toInt64.toUInt64 &&& Int64.toUInt64 63)).toInt64).toInt32) &&& 255) &&& 255).toInt64) <<< ((0 : Int32).toInt64 &&& 63)))) 0 ((((vp_updL (fun _ => 0) 0 (0 ||| (((((((x2.toUInt64 >>> ((0 : Int32).toInt64.toUInt64 &&& Int64.toUInt64 63)).toInt64).toInt32) &&& 255) &&& 255).toInt64) <<< ((0 : Int32).toInt64 &&& 63)))) (0 : Int32).toNatClampNeg) &&& (-65281)) ||| (((((((x2.toUInt64 >>> ((8 : Int32).toInt64.toUInt64 &&& Int64.toUInt64 63)).toInt64).toInt32) &&& 255) &&& 255).toInt64) <<< ((8 : Int32).toInt64 &&& 63)))) (0 : Int32).toNatClampNeg) &&& (-16711681)) ||| (((((((x2.toUInt64 >>> ((16 : Int32).toInt64.toUInt64 &&& Int64.toUInt64 63)).toInt64).toInt32) &&& 255) &&& 255).toInt64) <<< ((16 : Int32).toInt64 &&& 63)))) (0 : Int32).toNatClampNeg) &&& (-4278190081)) ||| (((((((x2.toUInt64 >>> ((24 : Int32).toInt64.toUInt64 &&& Int64.toUInt64 63)).toInt64).toInt32) &&& 255) &&& 255).toInt64) <<< ((24 : Int32).toInt64 &&& 63)))) 0 ((((vp_updL (vp_updL (vp_updL (vp_updL (fun _ => 0) 0 (0 ||| (((((((x2.toUInt64 >>> ((0 : Int32).toInt64.toUInt64 &&& Int64.toUInt64 63)).toInt64).toInt32) &&& 255) &&& 255).toInt64) <<< ((0 : Int32).toInt64 &&& 63)))) 0 ((((vp_updL (fun _ => 0) 0 (0 ||| (((((((x2.toUInt64 >>> ((0 : Int32).toInt64.toUInt64 &&& Int64.toUInt64 63)).toInt64).toInt32) &&& 255) &&& 255).toInt64) <<< ((0 : Int32).toInt64 &&& 63)))) (0 : Int32).toNatClampNeg) &&& (-65281)) ||| (((((((x2.toUInt64 >>> ((8 : Int32).toInt64.toUInt64 &&& Int64.toUInt64 63)).toInt64).toInt32) &&& 255) &&& 255).toInt64) <<< ((8 : Int32).toInt64 &&& 63)))) 0 ((((vp_updL (vp_updL (fun _ => 0) 0 (0 ||| (((((((x2.toUInt64 >>> ((0 : Int32).toInt64.toUInt64 &&& Int64.toUInt64 63)).toInt64).toInt32) &&& 255) &&& 255).toInt64) <<< ((0 : Int32).toInt64 &&& 63)))) 0 ((((vp_updL (fun _ => 0) 0 (0 ||| (((((((x2.toUInt64 >>> ((0 : Int32).toInt64.toUInt64 &&& Int64.toUInt64 63)).toInt64).toInt32) &&& 255) &&& 255).toInt64) <<< ((0 : Int32).toInt64 &&& 63)))) (0 : Int32).toNatClampNeg) &&& (-65281)) ||| (((((((x2.toUInt64 >>> ((8 : Int32).toInt64.toUInt64 &&& Int64.toUInt64 63)).toInt64).toInt32) &&& 255) &&& 255).toInt64) <<< ((8 : Int32).toInt64 &&& 63)))) (0 : Int32).toNatClampNeg) &&& (-16711681)) ||| (((((((x2.toUInt64 >>> ((16 : Int32).toInt64.toUInt64 &&& Int64.toUInt64 63)).toInt64).toInt32) &&& 255) &&& 255).toInt64) <<< ((16 : Int32).toInt64 &&& 63)))) 0 ((((vp_updL (vp_updL (vp_updL (fun _ => 0) 0 (0 ||| (((((((x2.toUInt64 >>> ((0 : Int32).toInt64.toUInt64 &&& Int64.toUInt64 63)).toInt64).toInt32) &&& 255) &&& 255).toInt64) <<< ((0 : Int32).toInt64 &&& 63)))) 0 ((((vp_updL (fun _ => 0) 0 (0 ||| (((((((x2.toUInt64 >>> ((0 : Int32).toInt64.toUInt64 &&& Int64.toUInt64 63)).toInt64).toInt32) &&& 255) &&& 255).toInt64) <<< ((0 : Int32).toInt64 &&& 63)))) (0 : Int32).toNatClampNeg) &&& (-65281)) ||| (((((((x2.toUInt64 >>> ((8 : Int32).toInt64.toUInt64 &&& Int64.toUInt64 63)).toInt64).toInt32) &&& 255) &&& 255).toInt64) <<< ((8 : Int32).toInt64 &&& 63)))) 0 ((((vp_updL (vp_updL (fun _ => 0) 0 (0 ||| (((((((x2.toUInt64 >>> ((0 : Int32).toInt64.toUInt64 &&& Int64.toUInt64 63)).toInt64).toInt32) &&& 255) &&& 255).toInt64) <<< ((0 : Int32).toInt64 &&& 63)))) 0 ((((vp_updL (fun _ => 0) 0 (0 ||| (((((((x2.toUInt64 >>> ((0 : Int32).toInt64.toUInt64 &&& Int64.toUInt64 63)).toInt64).toInt32) &&& 255) &&& 255).toInt64) <<< ((0 : Int32).toInt64 &&& 63)))) (0 : Int32).toNatClampNeg) &&& (-65281)) ||| (((((((x2.toUInt64 >>> ((8 : Int32).toInt64.toUInt64 &&& Int64.toUInt64 63)).toInt64).toInt32) &&& 255) &&& 255).toInt64) <<< ((8 : Int32).toInt64 &&& 63)))) (0 : Int32).toNatClampNeg) &&& (-16711681)) ||| (((((((x2.toUInt64 >>> ((16 : Int32).toInt64.toUInt64 &&& Int64.toUInt64 63)).toInt64).toInt32) &&& 255) &&& 255).toInt64) <<< ((16 : Int32).toInt64 &&& 63)))) (0 : Int32).toNatClampNeg) &&& (-4278190081)) ||| (((((((x2.toUInt64 >>> ((24 : Int32).toInt64.toUInt64 &&& Int64.toUInt64 63)).toInt64).toInt32) &&& 255) &&& 255).toInt64) <<< ((24 : Int32).toInt64 &&& 63)))) (0 : Int32).toNatClampNeg) &&& (-1095216660481)) ||| (((((((x2.toUInt64 >>> ((32 : Int32).toInt64.toUInt64 &&& Int64.toUInt64 63)).toInt64).toInt32) &&& 255) &&& 255).toInt64) <<< ((32 : Int32).toInt64 &&& 63)))) hO1 hA15 _) rfl rfl hO1 rfl hl.1 rfl (Nat.le_of_ble_eq_true rfl) ⟨by decide, by decide⟩ ⟨Nat.le_of_ble_eq_true rfl, Nat.le_of_ble_eq_true rfl⟩ d_1_2_61) (fun u44 H locs hp43 V => ?_)
                      obtain ⟨hg45, hO1, hA15⟩ := hp43
                      replace hF := q_uc hF hg45 (q_sc (.head _) (q_sc (.tail _ (.head _)) (fun _ h => absurd h List.not_mem_nil)))
                      refine lv_iinc (v := 6) (lv' := [(4, .int 6), (0, .ref qO0), (1, .int x1), (2, .long x2)]) hx hb d_1_2_64 hl (k := 0) rfl (by decide) (by decide) rfl (fun ls hl => ?_)
                      refine lv_goto (tgt := 39) hx hb d_1_2_67 (by decide) ?_
                      refine lv_iload hx hb d_1_2_39 (lv_at hl 0 rfl) ?_
                      refine lv_iload_n hx hb d_1_2_41 rfl (lv_at hl 2 rfl) ?_
                      refine lv_icmp_ge (tgt := 70) hx hb d_1_2_42 (by decide) (fun c46 => ?_) (fun c46 => ?_)
                      ·
                        refine lv_aload_n hx hb d_1_2_70 rfl (lv_at hl 1 rfl) ?_
                        replace hO0 := (hg45 _ (q_nc (q_pd 0 1 rfl) (q_nc (q_pd 0 2 rfl) List.not_mem_nil))).trans (hO0)
                        refine q_get (ci := 0) (j := 0) (v := .ref qO1) C0 V i_NH rfl rfl hO0 (by decide) w_424 rfl d_1_2_71 ?_
                        refine q_get (ci := 1) (j := 2) (v := .int 6) C0 V i_She rfl rfl hO1 (by decide) w_56 rfl d_1_2_74 ?_
                        exact q_retX (q_reti C0 V (Or.inr (Or.inr (Or.inr (Or.inr (Or.inr (Or.inr (Or.inl ⟨c1, c8, c19, c21, c22, c26, c30, c34, c38, c42, c46, rfl, hF, hO1, hA15⟩))))))) d_1_2_77)
                      ·
                        refine lv_aload_n hx hb d_1_2_45 rfl (lv_at hl 1 rfl) ?_
                        replace hO0 := (hg45 _ (q_nc (q_pd 0 1 rfl) (q_nc (q_pd 0 2 rfl) List.not_mem_nil))).trans (hO0)
                        refine q_get (ci := 0) (j := 0) (v := .ref qO1) C0 V i_NH rfl rfl hO0 (by decide) w_424 rfl d_1_2_46 ?_
                        refine lv_lload_n hx hb d_1_2_49 rfl (lv_at hl 3 rfl) ?_
                        refine lv_bipush (v := 8) hx hb d_1_2_50 (by decide) ?_
                        refine lv_iload hx hb d_1_2_52 (lv_at hl 0 rfl) ?_
                        refine lv_imul hx hb d_1_2_54 ?_
                        refine q_ti (v := 48) (by decide) ?_
                        refine lv_lushr hx hb d_1_2_55 rfl ?_
                        refine lv_l2i hx hb d_1_2_56 rfl ?_
                        refine lv_sipush (v := 255) hx hb d_1_2_57 (by decide) ?_
                        refine lv_iand hx hb d_1_2_60 ?_
                        refine q_gov V (q_runV (As := [.int ((((x2.toUInt64 >>> ((48 : Int32).toInt64.toUInt64 &&& Int64.toUInt64 63)).toInt64).toInt32) &&& 255)]) (rest := []) (d := 1) (mc := 0) (ms := 0) (ci := 1) C0 V rfl LV_NH_112 (c_She_add_7 l D g u44 1 2 qO1 qA15 ((((x2.toUInt64 >>> ((48 : Int32).toInt64.toUInt64 &&& Int64.toUInt64 63)).toInt64).toInt32) &&& 255) (vp_updL (vp_updL (vp_updL (vp_updL (vp_updL (vp_updL (fun _ => 0) 0 (0 ||| (((((((x2.toUInt64 >>> ((0 : Int32).toInt64.toUInt64 &&& Int64.toUInt64 63)).toInt64).toInt32) &&& 255) &&& 255).toInt64) <<< ((0 : Int32).toInt64 &&& 63)))) 0 ((((vp_updL (fun _ => 0) 0 (0 ||| (((((((x2.toUInt64 >>> ((0 : Int32).toInt64.toUInt64 &&& Int64.toUInt64 63)).toInt64).toInt32) &&& 255) &&& 255).toInt64) <<< ((0 : Int32).toInt64 &&& 63)))) (0 : Int32).toNatClampNeg) &&& (-65281)) ||| (((((((x2.toUInt64 >>> ((8 : Int32).toInt64.toUInt64 &&& Int64.toUInt64 63)).toInt64).toInt32) &&& 255) &&& 255).toInt64) <<< ((8 : Int32).toInt64 &&& 63)))) 0 ((((vp_updL (vp_updL (fun _ => 0) 0 (0 ||| (((((((x2.toUInt64 >>> ((0 : Int32).toInt64.toUInt64 &&& Int64.toUInt64 63)).toInt64).toInt32) &&& 255) &&& 255).toInt64) <<< ((0 : Int32).toInt64 &&& 63)))) 0 ((((vp_updL (fun _ => 0) 0 (0 ||| (((((((x2.toUInt64 >>> ((0 : Int32).toInt64.toUInt64 &&& Int64.toUInt64 63)).toInt64).toInt32) &&& 255) &&& 255).toInt64) <<< ((0 : Int32).toInt64 &&& 63)))) (0 : Int32).toNatClampNeg) &&& (-65281)) ||| (((((((x2.toUInt64 >>> ((8 : Int32).toInt64.toUInt64 &&& Int64.toUInt64 63)).toInt64).toInt32) &&& 255) &&& 255).toInt64) <<< ((8 : Int32).toInt64 &&& 63)))) (0 : Int32).toNatClampNeg) &&& (-16711681)) ||| (((((((x2.toUInt64 >>> ((16 : Int32).toInt64.toUInt64 &&& Int64.toUInt64 63)).toInt64).toInt32) &&& 255) &&& 255).toInt64) <<< ((16 : Int32).toInt64 &&& 63)))) 0 ((((vp_updL (vp_updL (vp_updL (fun _ => 0) 0 (0 ||| (((((((x2.toUInt64 >>> ((0 : Int32).toInt64.toUInt64 &&& Int64.toUInt64 63)).toInt64).toInt32) &&& 255) &&& 255).toInt64) <<< ((0 : Int32).toInt64 &&& 63)))) 0 ((((vp_updL (fun _ => 0) 0 (0 ||| (((((((x2.toUInt64 >>> ((0 : Int32).toInt64.toUInt64 &&& Int64.toUInt64 63)).toInt64).toInt32) &&& 255) &&& 255).toInt64) <<< ((0 : Int32).toInt64 &&& 63)))) (0 : Int32).toNatClampNeg) &&& (-65281)) ||| (((((((x2.toUInt64 >>> ((8 : Int32).toInt64.toUInt64 &&& Int64.toUInt64 63)).toInt64).toInt32) &&& 255) &&& 255).toInt64) <<< ((8 : Int32).toInt64 &&& 63)))) 0 ((((vp_updL (vp_updL (fun _ => 0) 0 (0 ||| (((((((x2.toUInt64 >>> ((0 : Int32).toInt64.toUInt64 &&& Int64.toUInt64 63)).toInt64).toInt32) &&& 255) &&& 255).toInt64) <<< ((0 : Int32).toInt64 &&& 63)))) 0 ((((vp_updL (fun _ => 0) 0 (0 ||| (((((((x2.toUInt64 >>> ((0 : Int32).toInt64.toUInt64 &&& Int64.toUInt64 63)).toInt64).toInt32) &&& 255) &&& 255).toInt64) <<< ((0 : Int32).toInt64 &&& 63)))) (0 : Int32).toNatClampNeg) &&& (-65281)) ||| (((((((x2.toUInt64 >>> ((8 : Int32).toInt64.toUInt64 &&& Int64.toUInt64 63)).toInt64).toInt32) &&& 255) &&& 255).toInt64) <<< ((8 : Int32).toInt64 &&& 63)))) (0 : Int32).toNatClampNeg) &&& (-16711681)) ||| (((((((x2.toUInt64 >>> ((16 : Int32).toInt64.toUInt64 &&& Int64.toUInt64 63)).toInt64).toInt32) &&& 255) &&& 255).toInt64) <<< ((16 : Int32).toInt64 &&& 63)))) (0 : Int32).toNatClampNeg) &&& (-4278190081)) ||| (((((((x2.toUInt64 >>> ((24 : Int32).toInt64.toUInt64 &&& Int64.toUInt64 63)).toInt64).toInt32) &&& 255) &&& 255).toInt64) <<< ((24 : Int32).toInt64 &&& 63)))) 0 ((((vp_updL (vp_updL (vp_updL (vp_updL (fun _ => 0) 0 (0 ||| (((((((x2.toUInt64 >>> ((0 : Int32).toInt64.toUInt64 &&& Int64.toUInt64 63)).toInt64).toInt32) &&& 255) &&& 255).toInt64) <<< ((0 : Int32).toInt64 &&& 63)))) 0 ((((vp_updL (fun _ => 0) 0 (0 ||| (((((((x2.toUInt64 >>> ((0 : Int32).toInt64.toUInt64 &&& Int64.toUInt64 63)).toInt64).toInt32) &&& 255) &&& 255).toInt64) <<< ((0 : Int32).toInt64 &&& 63)))) (0 : Int32).toNatClampNeg) &&& (-65281)) ||| (((((((x2.toUInt64 >>> ((8 : Int32).toInt64.toUInt64 &&& Int64.toUInt64 63)).toInt64).toInt32) &&& 255) &&& 255).toInt64) <<< ((8 : Int32).toInt64 &&& 63)))) 0 ((((vp_updL (vp_updL (fun _ => 0) 0 (0 ||| (((((((x2.toUInt64 >>> ((0 : Int32).toInt64.toUInt64 &&& Int64.toUInt64 63)).toInt64).toInt32) &&& 255) &&& 255).toInt64) <<< ((0 : Int32).toInt64 &&& 63)))) 0 ((((vp_updL (fun _ => 0) 0 (0 ||| (((((((x2.toUInt64 >>> ((0 : Int32).toInt64.toUInt64 &&& Int64.toUInt64 63)).toInt64).toInt32) &&& 255) &&& 255).toInt64) <<< ((0 : Int32).toInt64 &&& 63)))) (0 : Int32).toNatClampNeg) &&& (-65281)) ||| (((((((x2.toUInt64 >>> ((8 : Int32).toInt64.toUInt64 &&& Int64.toUInt64 63)).toInt64).toInt32) &&& 255) &&& 255).toInt64) <<< ((8 : Int32).toInt64 &&& 63)))) (0 : Int32).toNatClampNeg) &&& (-16711681)) ||| (((((((x2.toUInt64 >>> ((16 : Int32).toInt64.toUInt64 &&& Int64.toUInt64 63)).toInt64).toInt32) &&& 255) &&& 255).toInt64) <<< ((16 : Int32).toInt64 &&& 63)))) 0 ((((vp_updL (vp_updL (vp_updL (fun _ => 0) 0 (0 ||| (((((((x2.toUInt64 >>> ((0 : Int32).toInt64.toUInt64 &&& Int64.toUInt64 63)).toInt64).toInt32) &&& 255) &&& 255).toInt64) <<< ((0 : Int32).toInt64 &&& 63)))) 0 ((((vp_updL (fun _ => 0) 0 (0 ||| (((((((x2.toUInt64 >>> ((0 : Int32).toInt64.toUInt64 &&& Int64.toUInt64 63)).toInt64).toInt32) &&& 255) &&& 255).toInt64) <<< ((0 : Int32).toInt64 &&& 63)))) (0 : Int32).toNatClampNeg) &&& (-65281)) ||| (((((((x2.toUInt64 >>> ((8 : Int32).toInt64.toUInt64 &&& Int64.toUInt64 63)).toInt64).toInt32) &&& 255) &&& 255).toInt64) <<< ((8 : Int32).toInt64 &&& 63)))) 0 ((((vp_updL (vp_updL (fun _ => 0) 0 (0 ||| (((((((x2.toUInt64 >>> ((0 : Int32).toInt64.toUInt64 &&& Int64.toUInt64 63)).toInt64).toInt32) &&& 255) &&& 255).toInt64) <<< ((0 : Int32).toInt64 &&& 63)))) 0 ((((vp_updL (fun _ => 0) 0 (0 ||| (((((((x2.toUInt64 >>> ((0 : Int32).toInt64.toUInt64 &&& Int64.toUInt64 63)).toInt64).toInt32) &&& 255) &&& 255).toInt64) <<< ((0 : Int32).toInt64 &&& 63)))) (0 : Int32).toNatClampNeg) &&& (-65281)) ||| (((((((x2.toUInt64 >>> ((8 : Int32).toInt64.toUInt64 &&& Int64.toUInt64 63)).toInt64).toInt32) &&& 255) &&& 255).toInt64) <<< ((8 : Int32).toInt64 &&& 63)))) (0 : Int32).toNatClampNeg) &&& (-16711681)) ||| (((((((x2.toUInt64 >>> ((16 : Int32).toInt64.toUInt64 &&& Int64.toUInt64 63)).toInt64).toInt32) &&& 255) &&& 255).toInt64) <<< ((16 : Int32).toInt64 &&& 63)))) (0 : Int32).toNatClampNeg) &&& (-4278190081)) ||| (((((((x2.toUInt64 >>> ((24 : Int32).toInt64.toUInt64 &&& Int64.toUInt64 63)).toInt64).toInt32) &&& 255) &&& 255).toInt64) <<< ((24 : Int32).toInt64 &&& 63)))) (0 : Int32).toNatClampNeg) &&& (-1095216660481)) ||| (((((((x2.toUInt64 >>> ((32 : Int32).toInt64.toUInt64 &&& Int64.toUInt64 63)).toInt64).toInt32) &&& 255) &&& 255).toInt64) <<< ((32 : Int32).toInt64 &&& 63)))) 0 ((((vp_updL (vp_updL (vp_updL (vp_updL (vp_updL (fun _ => 0) 0 (0 ||| (((((((x2.toUInt64 >>> ((0 : Int32).toInt64.toUInt64 &&& Int64.toUInt64 63)).toInt64).toInt32) &&& 255) &&& 255).toInt64) <<< ((0 : Int32).toInt64 &&& 63)))) 0 ((((vp_updL (fun _ => 0) 0 (0 ||| (((((((x2.toUInt64 >>> ((0 : Int32).toInt64.toUInt64 &&& Int64.toUInt64 63)).toInt64).toInt32) &&& 255) &&& 255).toInt64) <<< ((0 : Int32).toInt64 &&& 63)))) (0 : Int32).toNatClampNeg) &&& (-65281)) ||| (((((((x2.toUInt64 >>> ((8 : Int32).toInt64.toUInt64 &&& Int64.toUInt64 63)).toInt64).toInt32) &&& 255) &&& 255).toInt64) <<< ((8 : Int32).toInt64 &&& 63)))) 0 ((((vp_updL (vp_updL (fun _ => 0) 0 (0 ||| (((((((x2.toUInt64 >>> ((0 : Int32).toInt64.toUInt64 &&& Int64.toUInt64 63)).toInt64).toInt32) &&& 255) &&& 255).toInt64) <<< ((0 : Int32).toInt64 &&& 63)))) 0 ((((vp_updL (fun _ => 0) 0 (0 ||| (((((((x2.toUInt64 >>> ((0 : Int32).toInt64.toUInt64 &&& Int64.toUInt64 63)).toInt64).toInt32) &&& 255) &&& 255).toInt64) <<< ((0 : Int32).toInt64 &&& 63)))) (0 : Int32).toNatClampNeg) &&& (-65281)) ||| (((((((x2.toUInt64 >>> ((8 : Int32).toInt64.toUInt64 &&& Int64.toUInt64 63)).toInt64).toInt32) &&& 255) &&& 255).toInt64) <<< ((8 : Int32).toInt64 &&& 63)))) (0 : Int32).toNatClampNeg) &&& (-16711681)) ||| (((((((x2.toUInt64 >>> ((16 : Int32).toInt64.toUInt64 &&& Int64.toUInt64 63)).toInt64).toInt32) &&& 255) &&& 255).toInt64) <<< ((16 : Int32).toInt64 &&& 63)))) 0 ((((vp_updL (vp_updL (vp_updL (fun _ => 0) 0 (0 ||| (((((((x2.toUInt64 >>> ((0 : Int32).toInt64.toUInt64 &&& Int64.toUInt64 63)).toInt64).toInt32) &&& 255) &&& 255).toInt64) <<< ((0 : Int32).toInt64 &&& 63)))) 0 ((((vp_updL (fun _ => 0) 0 (0 ||| (((((((x2.toUInt64 >>> ((0 : Int32).toInt64.toUInt64 &&& Int64.toUInt64 63)).toInt64).toInt32) &&& 255) &&& 255).toInt64) <<< ((0 : Int32).toInt64 &&& 63)))) (0 : Int32).toNatClampNeg) &&& (-65281)) ||| (((((((x2.toUInt64 >>> ((8 : Int32).toInt64.toUInt64 &&& Int64.toUInt64 63)).toInt64).toInt32) &&& 255) &&& 255).toInt64) <<< ((8 : Int32).toInt64 &&& 63)))) 0 ((((vp_updL (vp_updL (fun _ => 0) 0 (0 ||| (((((((x2.toUInt64 >>> ((0 : Int32).toInt64.toUInt64 &&& Int64.toUInt64 63)).toInt64).toInt32) &&& 255) &&& 255).toInt64) <<< ((0 : Int32).toInt64 &&& 63)))) 0 ((((vp_updL (fun _ => 0) 0 (0 ||| (((((((x2.toUInt64 >>> ((0 : Int32).toInt64.toUInt64 &&& Int64.toUInt64 63)).toInt64).toInt32) &&& 255) &&& 255).toInt64) <<< ((0 : Int32).toInt64 &&& 63)))) (0 : Int32).toNatClampNeg) &&& (-65281)) ||| (((((((x2.toUInt64 >>> ((8 : Int32).toInt64.toUInt64 &&& Int64.toUInt64 63)).toInt64).toInt32) &&& 255) &&& 255).toInt64) <<< ((8 : Int32).toInt64 &&& 63)))) (0 : Int32).toNatClampNeg) &&& (-16711681)) ||| (((((((x2.toUInt64 >>> ((16 : Int32).toInt64.toUInt64 &&& Int64.toUInt64 63)).toInt64).toInt32) &&& 255) &&& 255).toInt64) <<< ((16 : Int32).toInt64 &&& 63)))) (0 : Int32).toNatClampNeg) &&& (-4278190081)) ||| (((((((x2.toUInt64 >>> ((24 : Int32).toInt64.toUInt64 &&& Int64.toUInt64 63)).toInt64).toInt32) &&& 255) &&& 255).toInt64) <<< ((24 : Int32).toInt64 &&& 63)))) 0 ((((vp_updL (vp_updL (vp_updL (vp_updL (fun _ => 0) 0 (0 ||| (((((((x2.toUInt64 >>> ((0 : Int32).toInt64.toUInt64 &&& Int64.toUInt64 63)).toInt64).toInt32) &&& 255) &&& 255).toInt64) <<< ((0 : Int32).toInt64 &&& 63)))) 0 ((((vp_updL (fun _ => 0) 0 (0 ||| (((((((x2.toUInt64 >>> ((0 : Int32).toInt64.toUInt64 &&& Int64.toUInt64 63)).toInt64).toInt32) &&& 255) &&& 255).toInt64) <<< ((0 : Int32).toInt64 &&& 63)))) (0 : Int32).toNatClampNeg) &&& (-65281)) ||| (((((((x2.toUInt64 >>> ((8 : Int32).toInt64.toUInt64 &&& Int64.toUInt64 63)).toInt64).toInt32) &&& 255) &&& 255).toInt64) <<< ((8 : Int32).toInt64 &&& 63)))) 0 ((((vp_updL (vp_updL (fun _ => 0) 0 (0 ||| (((((((x2.toUInt64 >>> ((0 : Int32).toInt64.toUInt64 &&& Int64.toUInt64 63)).toInt64).toInt32) &&& 255) &&& 255).toInt64) <<< ((0 : Int32).toInt64 &&& 63)))) 0 ((((vp_updL (fun _ => 0) 0 (0 ||| (((((((x2.toUInt64 >>> ((0 : Int32).toInt64.toUInt64 &&& Int64.toUInt64 63)).toInt64).toInt32) &&& 255) &&& 255).toInt64) <<< ((0 : Int32).toInt64 &&& 63)))) (0 : Int32).toNatClampNeg) &&& (-65281)) ||| (((((((x2.toUInt64 >>> ((8 : Int32).toInt64.toUInt64 &&& Int64.toUInt64 63)).toInt64).toInt32) &&& 255) &&& 255).toInt64) <<< ((8 : Int32).toInt64 &&& 63)))) (0 : Int32).toNatClampNeg) &&& (-16711681)) ||| (((((((x2.toUInt64 >>> ((16 : Int32).toInt64.toUInt64 &&& Int64.toUInt64 63)).toInt64).toInt32) &&& 255) &&& 255).toInt64) <<< ((16 : Int32).toInt64 &&& 63)))) 0 ((((vp_updL (vp_updL (vp_updL (fun _ => 0) 0 (0 ||| (((((((x2.toUInt64 >>> ((0 : Int32).toInt64.toUInt64 &&& Int64.toUInt64 63)).toInt64).toInt32) &&& 255) &&& 255).toInt64) <<< ((0 : Int32).toInt64 &&& 63)))) 0 ((((vp_updL (fun _ => 0) 0 (0 ||| (((((((x2.toUInt64 >>> ((0 : Int32).toInt64.toUInt64 &&& Int64.toUInt64 63)).toInt64).toInt32) &&& 255) &&& 255).toInt64) <<< ((0 : Int32).toInt64 &&& 63)))) (0 : Int32).toNatClampNeg) &&& (-65281)) ||| (((((((x2.toUInt64 >>> ((8 : Int32).toInt64.toUInt64 &&& Int64.toUInt64 63)).toInt64).toInt32) &&& 255) &&& 255).toInt64) <<< ((8 : Int32).toInt64 &&& 63)))) 0 ((((vp_updL (vp_updL (fun _ => 0) 0 (0 ||| (((((((x2.toUInt64 >>> ((0 : Int32).toInt64.toUInt64 &&& Int64.toUInt64 63)).toInt64).toInt32) &&& 255) &&& 255).toInt64) <<< ((0 : Int32).toInt64 &&& 63)))) 0 ((((vp_updL (fun _ => 0) 0 (0 ||| (((((((x2.toUInt64 >>> ((0 : Int32).toInt64.toUInt64 &&& Int64.toUInt64 63)).toInt64).toInt32) &&& 255) &&& 255).toInt64) <<< ((0 : Int32).toInt64 &&& 63)))) (0 : Int32).toNatClampNeg) &&& (-65281)) ||| (((((((x2.toUInt64 >>> ((8 : Int32).toInt64.toUInt64 &&& Int64.toUInt64 63)).toInt64).toInt32) &&& 255) &&& 255).toInt64) <<< ((8 : Int32).toInt64 &&& 63)))) (0 : Int32).toNatClampNeg) &&& (-16711681)) ||| (((((((x2.toUInt64 >>> ((16 : Int32).toInt64.toUInt64 &&& Int64.toUInt64 63)).toInt64).toInt32) &&& 255) &&& 255).toInt64) <<< ((16 : Int32).toInt64 &&& 63)))) (0 : Int32).toNatClampNeg) &&& (-4278190081)) ||| (((((((x2.toUInt64 >>> ((24 : Int32).toInt64.toUInt64 &&& Int64.toUInt64 63)).toInt64).toInt32) &&& 255) &&& 255).toInt64) <<< ((24 : Int32).toInt64 &&& 63)))) (0 : Int32).toNatClampNeg) &&& (-1095216660481)) ||| (((((((x2.toUInt64 >>> ((32 : Int32).toInt64.toUInt64 &&& Int64.toUInt64 63)).toInt64).toInt32) &&& 255) &&& 255).toInt64) <<< ((32 : Int32).toInt64 &&& 63)))) (0 : Int32).toNatClampNeg) &&& (-280375465082881)) ||| (((((((x2.toUInt64 >>> ((40 : Int32).toInt64.toUInt64 &&& Int64.toUInt64 63)).toInt64).toInt32) &&& 255) &&& 255).toInt64) <<< ((40 : Int32).toInt64 &&& 63)))) hO1 hA15 _) rfl rfl hO1 rfl hl.1 rfl (Nat.le_of_ble_eq_true rfl) ⟨by decide, by decide⟩ ⟨Nat.le_of_ble_eq_true rfl, Nat.le_of_ble_eq_true rfl⟩ d_1_2_61) (fun u48 H locs hp47 V => ?_)
                        obtain ⟨hg49, hO1, hA15⟩ := hp47
                        replace hF := q_uc hF hg49 (q_sc (.head _) (q_sc (.tail _ (.head _)) (fun _ h => absurd h List.not_mem_nil)))
                        refine lv_iinc (v := 7) (lv' := [(4, .int 7), (0, .ref qO0), (1, .int x1), (2, .long x2)]) hx hb d_1_2_64 hl (k := 0) rfl (by decide) (by decide) rfl (fun ls hl => ?_)
                        refine lv_goto (tgt := 39) hx hb d_1_2_67 (by decide) ?_
                        refine lv_iload hx hb d_1_2_39 (lv_at hl 0 rfl) ?_
                        refine lv_iload_n hx hb d_1_2_41 rfl (lv_at hl 2 rfl) ?_
                        refine lv_icmp_ge (tgt := 70) hx hb d_1_2_42 (by decide) (fun c50 => ?_) (fun c50 => ?_)
                        ·
                          refine lv_aload_n hx hb d_1_2_70 rfl (lv_at hl 1 rfl) ?_
                          replace hO0 := (hg49 _ (q_nc (q_pd 0 1 rfl) (q_nc (q_pd 0 2 rfl) List.not_mem_nil))).trans (hO0)
                          refine q_get (ci := 0) (j := 0) (v := .ref qO1) C0 V i_NH rfl rfl hO0 (by decide) w_424 rfl d_1_2_71 ?_
                          refine q_get (ci := 1) (j := 2) (v := .int 7) C0 V i_She rfl rfl hO1 (by decide) w_56 rfl d_1_2_74 ?_
                          exact q_retX (q_reti C0 V (Or.inr (Or.inr (Or.inr (Or.inr (Or.inr (Or.inr (Or.inr (Or.inl ⟨c1, c8, c19, c21, c22, c26, c30, c34, c38, c42, c46, c50, rfl, hF, hO1, hA15⟩)))))))) d_1_2_77)
                        ·
                          refine lv_aload_n hx hb d_1_2_45 rfl (lv_at hl 1 rfl) ?_
                          replace hO0 := (hg49 _ (q_nc (q_pd 0 1 rfl) (q_nc (q_pd 0 2 rfl) List.not_mem_nil))).trans (hO0)
                          refine q_get (ci := 0) (j := 0) (v := .ref qO1) C0 V i_NH rfl rfl hO0 (by decide) w_424 rfl d_1_2_46 ?_
                          refine lv_lload_n hx hb d_1_2_49 rfl (lv_at hl 3 rfl) ?_
                          refine lv_bipush (v := 8) hx hb d_1_2_50 (by decide) ?_
                          refine lv_iload hx hb d_1_2_52 (lv_at hl 0 rfl) ?_
                          refine lv_imul hx hb d_1_2_54 ?_
                          refine q_ti (v := 56) (by decide) ?_
                          refine lv_lushr hx hb d_1_2_55 rfl ?_
                          refine lv_l2i hx hb d_1_2_56 rfl ?_
                          refine lv_sipush (v := 255) hx hb d_1_2_57 (by decide) ?_
                          refine lv_iand hx hb d_1_2_60 ?_
                          refine q_gov V (q_runV (As := [.int ((((x2.toUInt64 >>> ((56 : Int32).toInt64.toUInt64 &&& Int64.toUInt64 63)).toInt64).toInt32) &&& 255)]) (rest := []) (d := 1) (mc := 0) (ms := 0) (ci := 1) C0 V rfl LV_NH_112 (c_She_add_8 l D g u48 1 2 qO1 qA15 ((((x2.toUInt64 >>> ((56 : Int32).toInt64.toUInt64 &&& Int64.toUInt64 63)).toInt64).toInt32) &&& 255) (vp_updL (vp_updL (vp_updL (vp_updL (vp_updL (vp_updL (vp_updL (fun _ => 0) 0 (0 ||| (((((((x2.toUInt64 >>> ((0 : Int32).toInt64.toUInt64 &&& Int64.toUInt64 63)).toInt64).toInt32) &&& 255) &&& 255).toInt64) <<< ((0 : Int32).toInt64 &&& 63)))) 0 ((((vp_updL (fun _ => 0) 0 (0 ||| (((((((x2.toUInt64 >>> ((0 : Int32).toInt64.toUInt64 &&& Int64.toUInt64 63)).toInt64).toInt32) &&& 255) &&& 255).toInt64) <<< ((0 : Int32).toInt64 &&& 63)))) (0 : Int32).toNatClampNeg) &&& (-65281)) ||| (((((((x2.toUInt64 >>> ((8 : Int32).toInt64.toUInt64 &&& Int64.toUInt64 63)).toInt64).toInt32) &&& 255) &&& 255).toInt64) <<< ((8 : Int32).toInt64 &&& 63)))) 0 ((((vp_updL (vp_updL (fun _ => 0) 0 (0 ||| (((((((x2.toUInt64 >>> ((0 : Int32).toInt64.toUInt64 &&& Int64.toUInt64 63)).toInt64).toInt32) &&& 255) &&& 255).toInt64) <<< ((0 : Int32).toInt64 &&& 63)))) 0 ((((vp_updL (fun _ => 0) 0 (0 ||| (((((((x2.toUInt64 >>> ((0 : Int32).toInt64.toUInt64 &&& Int64.toUInt64 63)).toInt64).toInt32) &&& 255) &&& 255).toInt64) <<< ((0 : Int32).toInt64 &&& 63)))) (0 : Int32).toNatClampNeg) &&& (-65281)) ||| (((((((x2.toUInt64 >>> ((8 : Int32).toInt64.toUInt64 &&& Int64.toUInt64 63)).toInt64).toInt32) &&& 255) &&& 255).toInt64) <<< ((8 : Int32).toInt64 &&& 63)))) (0 : Int32).toNatClampNeg) &&& (-16711681)) ||| (((((((x2.toUInt64 >>> ((16 : Int32).toInt64.toUInt64 &&& Int64.toUInt64 63)).toInt64).toInt32) &&& 255) &&& 255).toInt64) <<< ((16 : Int32).toInt64 &&& 63)))) 0 ((((vp_updL (vp_updL (vp_updL (fun _ => 0) 0 (0 ||| (((((((x2.toUInt64 >>> ((0 : Int32).toInt64.toUInt64 &&& Int64.toUInt64 63)).toInt64).toInt32) &&& 255) &&& 255).toInt64) <<< ((0 : Int32).toInt64 &&& 63)))) 0 ((((vp_updL (fun _ => 0) 0 (0 ||| (((((((x2.toUInt64 >>> ((0 : Int32).toInt64.toUInt64 &&& Int64.toUInt64 63)).toInt64).toInt32) &&& 255) &&& 255).toInt64) <<< ((0 : Int32).toInt64 &&& 63)))) (0 : Int32).toNatClampNeg) &&& (-65281)) ||| (((((((x2.toUInt64 >>> ((8 : Int32).toInt64.toUInt64 &&& Int64.toUInt64 63)).toInt64).toInt32) &&& 255) &&& 255).toInt64) <<< ((8 : Int32).toInt64 &&& 63)))) 0 ((((vp_updL (vp_updL (fun _ => 0) 0 (0 ||| (((((((x2.toUInt64 >>> ((0 : Int32).toInt64.toUInt64 &&& Int64.toUInt64 63)).toInt64).toInt32) &&& 255) &&& 255).toInt64) <<< ((0 : Int32).toInt64 &&& 63)))) 0 ((((vp_updL (fun _ => 0) 0 (0 ||| (((((((x2.toUInt64 >>> ((0 : Int32).toInt64.toUInt64 &&& Int64.toUInt64 63)).toInt64).toInt32) &&& 255) &&& 255).toInt64) <<< ((0 : Int32).toInt64 &&& 63)))) (0 : Int32).toNatClampNeg) &&& (-65281)) ||| (((((((x2.toUInt64 >>> ((8 : Int32).toInt64.toUInt64 &&& Int64.toUInt64 63)).toInt64).toInt32) &&& 255) &&& 255).toInt64) <<< ((8 : Int32).toInt64 &&& 63)))) (0 : Int32).toNatClampNeg) &&& (-16711681)) ||| (((((((x2.toUInt64 >>> ((16 : Int32).toInt64.toUInt64 &&& Int64.toUInt64 63)).toInt64).toInt32) &&& 255) &&& 255).toInt64) <<< ((16 : Int32).toInt64 &&& 63)))) (0 : Int32).toNatClampNeg) &&& (-4278190081)) ||| (((((((x2.toUInt64 >>> ((24 : Int32).toInt64.toUInt64 &&& Int64.toUInt64 63)).toInt64).toInt32) &&& 255) &&& 255).toInt64) <<< ((24 : Int32).toInt64 &&& 63)))) 0 ((((vp_updL (vp_updL (vp_updL (vp_updL (fun _ => 0) 0 (0 ||| (((((((x2.toUInt64 >>> ((0 : Int32).toInt64.toUInt64 &&& Int64.toUInt64 63)).toInt64).toInt32) &&& 255) &&& 255).toInt64) <<< ((0 : Int32).toInt64 &&& 63)))) 0 ((((vp_updL (fun _ => 0) 0 (0 ||| (((((((x2.toUInt64 >>> ((0 : Int32).toInt64.toUInt64 &&& Int64.toUInt64 63)).toInt64).toInt32) &&& 255) &&& 255).toInt64) <<< ((0 : Int32).toInt64 &&& 63)))) (0 : Int32).toNatClampNeg) &&& (-65281)) ||| (((((((x2.toUInt64 >>> ((8 : Int32).toInt64.toUInt64 &&& Int64.toUInt64 63)).toInt64).toInt32) &&& 255) &&& 255).toInt64) <<< ((8 : Int32).toInt64 &&& 63)))) 0 ((((vp_updL (vp_updL (fun _ => 0) 0 (0 ||| (((((((x2.toUInt64 >>> ((0 : Int32).toInt64.toUInt64 &&& Int64.toUInt64 63)).toInt64).toInt32) &&& 255) &&& 255).toInt64) <<< ((0 : Int32).toInt64 &&& 63)))) 0 ((((vp_updL (fun _ => 0) 0 (0 ||| (((((((x2.toUInt64 >>> ((0 : Int32).toInt64.toUInt64 &&& Int64.toUInt64 63)).toInt64).toInt32) &&& 255) &&& 255).toInt64) <<< ((0 : Int32).toInt64 &&& 63)))) (0 : Int32).toNatClampNeg) &&& (-65281)) ||| (((((((x2.toUInt64 >>> ((8 : Int32).toInt64.toUInt64 &&& Int64.toUInt64 63)).toInt64).toInt32) &&& 255) &&& 255).toInt64) <<< ((8 : Int32).toInt64 &&& 63)))) (0 : Int32).toNatClampNeg) &&& (-16711681)) ||| (((((((x2.toUInt64 >>> ((16 : Int32).toInt64.toUInt64 &&& Int64.toUInt64 63)).toInt64).toInt32) &&& 255) &&& 255).toInt64) <<< ((16 : Int32).toInt64 &&& 63)))) 0 ((((vp_updL (vp_updL (vp_updL (fun _ => 0) 0 (0 ||| (((((((x2.toUInt64 >>> ((0 : Int32).toInt64.toUInt64 &&& Int64.toUInt64 63)).toInt64).toInt32) &&& 255) &&& 255).toInt64) <<< ((0 : Int32).toInt64 &&& 63)))) 0 ((((vp_updL (fun _ => 0) 0 (0 ||| (((((((x2.toUInt64 >>> ((0 : Int32).toInt64.toUInt64 &&& Int64.toUInt64 63)).toInt64).toInt32) &&& 255) &&& 255).toInt64) <<< ((0 : Int32).toInt64 &&& 63)))) (0 : Int32).toNatClampNeg) &&& (-65281)) ||| (((((((x2.toUInt64 >>> ((8 : Int32).toInt64.toUInt64 &&& Int64.toUInt64 63)).toInt64).toInt32) &&& 255) &&& 255).toInt64) <<< ((8 : Int32).toInt64 &&& 63)))) 0 ((((vp_updL (vp_updL (fun _ => 0) 0 (0 ||| (((((((x2.toUInt64 >>> ((0 : Int32).toInt64.toUInt64 &&& Int64.toUInt64 63)).toInt64).toInt32) &&& 255) &&& 255).toInt64) <<< ((0 : Int32).toInt64 &&& 63)))) 0 ((((vp_updL (fun _ => 0) 0 (0 ||| (((((((x2.toUInt64 >>> ((0 : Int32).toInt64.toUInt64 &&& Int64.toUInt64 63)).toInt64).toInt32) &&& 255) &&& 255).toInt64) <<< ((0 : Int32).toInt64 &&& 63)))) (0 : Int32).toNatClampNeg) &&& (-65281)) ||| (((((((x2.toUInt64 >>> ((8 : Int32).toInt64.toUInt64 &&& Int64.toUInt64 63)).toInt64).toInt32) &&& 255) &&& 255).toInt64) <<< ((8 : Int32).toInt64 &&& 63)))) (0 : Int32).toNatClampNeg) &&& (-16711681)) ||| (((((((x2.toUInt64 >>> ((16 : Int32).toInt64.toUInt64 &&& Int64.toUInt64 63)).toInt64).toInt32) &&& 255) &&& 255).toInt64) <<< ((16 : Int32).toInt64 &&& 63)))) (0 : Int32).toNatClampNeg) &&& (-4278190081)) ||| (((((((x2.toUInt64 >>> ((24 : Int32).toInt64.toUInt64 &&& Int64.toUInt64 63)).toInt64).toInt32) &&& 255) &&& 255).toInt64) <<< ((24 : Int32).toInt64 &&& 63)))) (0 : Int32).toNatClampNeg) &&& (-1095216660481)) ||| (((((((x2.toUInt64 >>> ((32 : Int32).toInt64.toUInt64 &&& Int64.toUInt64 63)).toInt64).toInt32) &&& 255) &&& 255).toInt64) <<< ((32 : Int32).toInt64 &&& 63)))) 0 ((((vp_updL (vp_updL (vp_updL (vp_updL (vp_updL (fun _ => 0) 0 (0 ||| (((((((x2.toUInt64 >>> ((0 : Int32).toInt64.toUInt64 &&& Int64.toUInt64 63)).toInt64).toInt32) &&& 255) &&& 255).toInt64) <<< ((0 : Int32).toInt64 &&& 63)))) 0 ((((vp_updL (fun _ => 0) 0 (0 ||| (((((((x2.toUInt64 >>> ((0 : Int32).toInt64.toUInt64 &&& Int64.toUInt64 63)).toInt64).toInt32) &&& 255) &&& 255).toInt64) <<< ((0 : Int32).toInt64 &&& 63)))) (0 : Int32).toNatClampNeg) &&& (-65281)) ||| (((((((x2.toUInt64 >>> ((8 : Int32).toInt64.toUInt64 &&& Int64.toUInt64 63)).toInt64).toInt32) &&& 255) &&& 255).toInt64) <<< ((8 : Int32).toInt64 &&& 63)))) 0 ((((vp_updL (vp_updL (fun _ => 0) 0 (0 ||| (((((((x2.toUInt64 >>> ((0 : Int32).toInt64.toUInt64 &&& Int64.toUInt64 63)).toInt64).toInt32) &&& 255) &&& 255).toInt64) <<< ((0 : Int32).toInt64 &&& 63)))) 0 ((((vp_updL (fun _ => 0) 0 (0 ||| (((((((x2.toUInt64 >>> ((0 : Int32).toInt64.toUInt64 &&& Int64.toUInt64 63)).toInt64).toInt32) &&& 255) &&& 255).toInt64) <<< ((0 : Int32).toInt64 &&& 63)))) (0 : Int32).toNatClampNeg) &&& (-65281)) ||| (((((((x2.toUInt64 >>> ((8 : Int32).toInt64.toUInt64 &&& Int64.toUInt64 63)).toInt64).toInt32) &&& 255) &&& 255).toInt64) <<< ((8 : Int32).toInt64 &&& 63)))) (0 : Int32).toNatClampNeg) &&& (-16711681)) ||| (((((((x2.toUInt64 >>> ((16 : Int32).toInt64.toUInt64 &&& Int64.toUInt64 63)).toInt64).toInt32) &&& 255) &&& 255).toInt64) <<< ((16 : Int32).toInt64 &&& 63)))) 0 ((((vp_updL (vp_updL (vp_updL (fun _ => 0) 0 (0 ||| (((((((x2.toUInt64 >>> ((0 : Int32).toInt64.toUInt64 &&& Int64.toUInt64 63)).toInt64).toInt32) &&& 255) &&& 255).toInt64) <<< ((0 : Int32).toInt64 &&& 63)))) 0 ((((vp_updL (fun _ => 0) 0 (0 ||| (((((((x2.toUInt64 >>> ((0 : Int32).toInt64.toUInt64 &&& Int64.toUInt64 63)).toInt64).toInt32) &&& 255) &&& 255).toInt64) <<< ((0 : Int32).toInt64 &&& 63)))) (0 : Int32).toNatClampNeg) &&& (-65281)) ||| (((((((x2.toUInt64 >>> ((8 : Int32).toInt64.toUInt64 &&& Int64.toUInt64 63)).toInt64).toInt32) &&& 255) &&& 255).toInt64) <<< ((8 : Int32).toInt64 &&& 63)))) 0 ((((vp_updL (vp_updL (fun _ => 0) 0 (0 ||| (((((((x2.toUInt64 >>> ((0 : Int32).toInt64.toUInt64 &&& Int64.toUInt64 63)).toInt64).toInt32) &&& 255) &&& 255).toInt64) <<< ((0 : Int32).toInt64 &&& 63)))) 0 ((((vp_updL (fun _ => 0) 0 (0 ||| (((((((x2.toUInt64 >>> ((0 : Int32).toInt64.toUInt64 &&& Int64.toUInt64 63)).toInt64).toInt32) &&& 255) &&& 255).toInt64) <<< ((0 : Int32).toInt64 &&& 63)))) (0 : Int32).toNatClampNeg) &&& (-65281)) ||| (((((((x2.toUInt64 >>> ((8 : Int32).toInt64.toUInt64 &&& Int64.toUInt64 63)).toInt64).toInt32) &&& 255) &&& 255).toInt64) <<< ((8 : Int32).toInt64 &&& 63)))) (0 : Int32).toNatClampNeg) &&& (-16711681)) ||| (((((((x2.toUInt64 >>> ((16 : Int32).toInt64.toUInt64 &&& Int64.toUInt64 63)).toInt64).toInt32) &&& 255) &&& 255).toInt64) <<< ((16 : Int32).toInt64 &&& 63)))) (0 : Int32).toNatClampNeg) &&& (-4278190081)) ||| (((((((x2.toUInt64 >>> ((24 : Int32).toInt64.toUInt64 &&& Int64.toUInt64 63)).toInt64).toInt32) &&& 255) &&& 255).toInt64) <<< ((24 : Int32).toInt64 &&& 63)))) 0 ((((vp_updL (vp_updL (vp_updL (vp_updL (fun _ => 0) 0 (0 ||| (((((((x2.toUInt64 >>> ((0 : Int32).toInt64.toUInt64 &&& Int64.toUInt64 63)).toInt64).toInt32) &&& 255) &&& 255).toInt64) <<< ((0 : Int32).toInt64 &&& 63)))) 0 ((((vp_updL (fun _ => 0) 0 (0 ||| (((((((x2.toUInt64 >>> ((0 : Int32).toInt64.toUInt64 &&& Int64.toUInt64 63)).toInt64).toInt32) &&& 255) &&& 255).toInt64) <<< ((0 : Int32).toInt64 &&& 63)))) (0 : Int32).toNatClampNeg) &&& (-65281)) ||| (((((((x2.toUInt64 >>> ((8 : Int32).toInt64.toUInt64 &&& Int64.toUInt64 63)).toInt64).toInt32) &&& 255) &&& 255).toInt64) <<< ((8 : Int32).toInt64 &&& 63)))) 0 ((((vp_updL (vp_updL (fun _ => 0) 0 (0 ||| (((((((x2.toUInt64 >>> ((0 : Int32).toInt64.toUInt64 &&& Int64.toUInt64 63)).toInt64).toInt32) &&& 255) &&& 255).toInt64) <<< ((0 : Int32).toInt64 &&& 63)))) 0 ((((vp_updL (fun _ => 0) 0 (0 ||| (((((((x2.toUInt64 >>> ((0 : Int32).toInt64.toUInt64 &&& Int64.toUInt64 63)).toInt64).toInt32) &&& 255) &&& 255).toInt64) <<< ((0 : Int32).toInt64 &&& 63)))) (0 : Int32).toNatClampNeg) &&& (-65281)) ||| (((((((x2.toUInt64 >>> ((8 : Int32).toInt64.toUInt64 &&& Int64.toUInt64 63)).toInt64).toInt32) &&& 255) &&& 255).toInt64) <<< ((8 : Int32).toInt64 &&& 63)))) (0 : Int32).toNatClampNeg) &&& (-16711681)) ||| (((((((x2.toUInt64 >>> ((16 : Int32).toInt64.toUInt64 &&& Int64.toUInt64 63)).toInt64).toInt32) &&& 255) &&& 255).toInt64) <<< ((16 : Int32).toInt64 &&& 63)))) 0 ((((vp_updL (vp_updL (vp_updL (fun _ => 0) 0 (0 ||| (((((((x2.toUInt64 >>> ((0 : Int32).toInt64.toUInt64 &&& Int64.toUInt64 63)).toInt64).toInt32) &&& 255) &&& 255).toInt64) <<< ((0 : Int32).toInt64 &&& 63)))) 0 ((((vp_updL (fun _ => 0) 0 (0 ||| (((((((x2.toUInt64 >>> ((0 : Int32).toInt64.toUInt64 &&& Int64.toUInt64 63)).toInt64).toInt32) &&& 255) &&& 255).toInt64) <<< ((0 : Int32).toInt64 &&& 63)))) (0 : Int32).toNatClampNeg) &&& (-65281)) ||| (((((((x2.toUInt64 >>> ((8 : Int32).toInt64.toUInt64 &&& Int64.toUInt64 63)).toInt64).toInt32) &&& 255) &&& 255).toInt64) <<< ((8 : Int32).toInt64 &&& 63)))) 0 ((((vp_updL (vp_updL (fun _ => 0) 0 (0 ||| (((((((x2.toUInt64 >>> ((0 : Int32).toInt64.toUInt64 &&& Int64.toUInt64 63)).toInt64).toInt32) &&& 255) &&& 255).toInt64) <<< ((0 : Int32).toInt64 &&& 63)))) 0 ((((vp_updL (fun _ => 0) 0 (0 ||| (((((((x2.toUInt64 >>> ((0 : Int32).toInt64.toUInt64 &&& Int64.toUInt64 63)).toInt64).toInt32) &&& 255) &&& 255).toInt64) <<< ((0 : Int32).toInt64 &&& 63)))) (0 : Int32).toNatClampNeg) &&& (-65281)) ||| (((((((x2.toUInt64 >>> ((8 : Int32).toInt64.toUInt64 &&& Int64.toUInt64 63)).toInt64).toInt32) &&& 255) &&& 255).toInt64) <<< ((8 : Int32).toInt64 &&& 63)))) (0 : Int32).toNatClampNeg) &&& (-16711681)) ||| (((((((x2.toUInt64 >>> ((16 : Int32).toInt64.toUInt64 &&& Int64.toUInt64 63)).toInt64).toInt32) &&& 255) &&& 255).toInt64) <<< ((16 : Int32).toInt64 &&& 63)))) (0 : Int32).toNatClampNeg) &&& (-4278190081)) ||| (((((((x2.toUInt64 >>> ((24 : Int32).toInt64.toUInt64 &&& Int64.toUInt64 63)).toInt64).toInt32) &&& 255) &&& 255).toInt64) <<< ((24 : Int32).toInt64 &&& 63)))) (0 : Int32).toNatClampNeg) &&& (-1095216660481)) ||| (((((((x2.toUInt64 >>> ((32 : Int32).toInt64.toUInt64 &&& Int64.toUInt64 63)).toInt64).toInt32) &&& 255) &&& 255).toInt64) <<< ((32 : Int32).toInt64 &&& 63)))) (0 : Int32).toNatClampNeg) &&& (-280375465082881)) ||| (((((((x2.toUInt64 >>> ((40 : Int32).toInt64.toUInt64 &&& Int64.toUInt64 63)).toInt64).toInt32) &&& 255) &&& 255).toInt64) <<< ((40 : Int32).toInt64 &&& 63)))) 0 ((((vp_updL (vp_updL (vp_updL (vp_updL (vp_updL (vp_updL (fun _ => 0) 0 (0 ||| (((((((x2.toUInt64 >>> ((0 : Int32).toInt64.toUInt64 &&& Int64.toUInt64 63)).toInt64).toInt32) &&& 255) &&& 255).toInt64) <<< ((0 : Int32).toInt64 &&& 63)))) 0 ((((vp_updL (fun _ => 0) 0 (0 ||| (((((((x2.toUInt64 >>> ((0 : Int32).toInt64.toUInt64 &&& Int64.toUInt64 63)).toInt64).toInt32) &&& 255) &&& 255).toInt64) <<< ((0 : Int32).toInt64 &&& 63)))) (0 : Int32).toNatClampNeg) &&& (-65281)) ||| (((((((x2.toUInt64 >>> ((8 : Int32).toInt64.toUInt64 &&& Int64.toUInt64 63)).toInt64).toInt32) &&& 255) &&& 255).toInt64) <<< ((8 : Int32).toInt64 &&& 63)))) 0 ((((vp_updL (vp_updL (fun _ => 0) 0 (0 ||| (((((((x2.toUInt64 >>> ((0 : Int32).toInt64.toUInt64 &&& Int64.toUInt64 63)).toInt64).toInt32) &&& 255) &&& 255).toInt64) <<< ((0 : Int32).toInt64 &&& 63)))) 0 ((((vp_updL (fun _ => 0) 0 (0 ||| (((((((x2.toUInt64 >>> ((0 : Int32).toInt64.toUInt64 &&& Int64.toUInt64 63)).toInt64).toInt32) &&& 255) &&& 255).toInt64) <<< ((0 : Int32).toInt64 &&& 63)))) (0 : Int32).toNatClampNeg) &&& (-65281)) ||| (((((((x2.toUInt64 >>> ((8 : Int32).toInt64.toUInt64 &&& Int64.toUInt64 63)).toInt64).toInt32) &&& 255) &&& 255).toInt64) <<< ((8 : Int32).toInt64 &&& 63)))) (0 : Int32).toNatClampNeg) &&& (-16711681)) ||| (((((((x2.toUInt64 >>> ((16 : Int32).toInt64.toUInt64 &&& Int64.toUInt64 63)).toInt64).toInt32) &&& 255) &&& 255).toInt64) <<< ((16 : Int32).toInt64 &&& 63)))) 0 ((((vp_updL (vp_updL (vp_updL (fun _ => 0) 0 (0 ||| (((((((x2.toUInt64 >>> ((0 : Int32).toInt64.toUInt64 &&& Int64.toUInt64 63)).toInt64).toInt32) &&& 255) &&& 255).toInt64) <<< ((0 : Int32).toInt64 &&& 63)))) 0 ((((vp_updL (fun _ => 0) 0 (0 ||| (((((((x2.toUInt64 >>> ((0 : Int32).toInt64.toUInt64 &&& Int64.toUInt64 63)).toInt64).toInt32) &&& 255) &&& 255).toInt64) <<< ((0 : Int32).toInt64 &&& 63)))) (0 : Int32).toNatClampNeg) &&& (-65281)) ||| (((((((x2.toUInt64 >>> ((8 : Int32).toInt64.toUInt64 &&& Int64.toUInt64 63)).toInt64).toInt32) &&& 255) &&& 255).toInt64) <<< ((8 : Int32).toInt64 &&& 63)))) 0 ((((vp_updL (vp_updL (fun _ => 0) 0 (0 ||| (((((((x2.toUInt64 >>> ((0 : Int32).toInt64.toUInt64 &&& Int64.toUInt64 63)).toInt64).toInt32) &&& 255) &&& 255).toInt64) <<< ((0 : Int32).toInt64 &&& 63)))) 0 ((((vp_updL (fun _ => 0) 0 (0 ||| (((((((x2.toUInt64 >>> ((0 : Int32).toInt64.toUInt64 &&& Int64.toUInt64 63)).toInt64).toInt32) &&& 255) &&& 255).toInt64) <<< ((0 : Int32).toInt64 &&& 63)))) (0 : Int32).toNatClampNeg) &&& (-65281)) ||| (((((((x2.toUInt64 >>> ((8 : Int32).toInt64.toUInt64 &&& Int64.toUInt64 63)).toInt64).toInt32) &&& 255) &&& 255).toInt64) <<< ((8 : Int32).toInt64 &&& 63)))) (0 : Int32).toNatClampNeg) &&& (-16711681)) ||| (((((((x2.toUInt64 >>> ((16 : Int32).toInt64.toUInt64 &&& Int64.toUInt64 63)).toInt64).toInt32) &&& 255) &&& 255).toInt64) <<< ((16 : Int32).toInt64 &&& 63)))) (0 : Int32).toNatClampNeg) &&& (-4278190081)) ||| (((((((x2.toUInt64 >>> ((24 : Int32).toInt64.toUInt64 &&& Int64.toUInt64 63)).toInt64).toInt32) &&& 255) &&& 255).toInt64) <<< ((24 : Int32).toInt64 &&& 63)))) 0 ((((vp_updL (vp_updL (vp_updL (vp_updL (fun _ => 0) 0 (0 ||| (((((((x2.toUInt64 >>> ((0 : Int32).toInt64.toUInt64 &&& Int64.toUInt64 63)).toInt64).toInt32) &&& 255) &&& 255).toInt64) <<< ((0 : Int32).toInt64 &&& 63)))) 0 ((((vp_updL (fun _ => 0) 0 (0 ||| (((((((x2.toUInt64 >>> ((0 : Int32).toInt64.toUInt64 &&& Int64.toUInt64 63)).toInt64).toInt32) &&& 255) &&& 255).toInt64) <<< ((0 : Int32).toInt64 &&& 63)))) (0 : Int32).toNatClampNeg) &&& (-65281)) ||| (((((((x2.toUInt64 >>> ((8 : Int32).toInt64.toUInt64 &&& Int64.toUInt64 63)).toInt64).toInt32) &&& 255) &&& 255).toInt64) <<< ((8 : Int32).toInt64 &&& 63)))) 0 ((((vp_updL (vp_updL (fun _ => 0) 0 (0 ||| (((((((x2.toUInt64 >>> ((0 : Int32).toInt64.toUInt64 &&& Int64.toUInt64 63)).toInt64).toInt32) &&& 255) &&& 255).toInt64) <<< ((0 : Int32).toInt64 &&& 63)))) 0 ((((vp_updL (fun _ => 0) 0 (0 ||| (((((((x2.toUInt64 >>> ((0 : Int32).toInt64.toUInt64 &&& Int64.toUInt64 63)).toInt64).toInt32) &&& 255) &&& 255).toInt64) <<< ((0 : Int32).toInt64 &&& 63)))) (0 : Int32).toNatClampNeg) &&& (-65281)) ||| (((((((x2.toUInt64 >>> ((8 : Int32).toInt64.toUInt64 &&& Int64.toUInt64 63)).toInt64).toInt32) &&& 255) &&& 255).toInt64) <<< ((8 : Int32).toInt64 &&& 63)))) (0 : Int32).toNatClampNeg) &&& (-16711681)) ||| (((((((x2.toUInt64 >>> ((16 : Int32).toInt64.toUInt64 &&& Int64.toUInt64 63)).toInt64).toInt32) &&& 255) &&& 255).toInt64) <<< ((16 : Int32).toInt64 &&& 63)))) 0 ((((vp_updL (vp_updL (vp_updL (fun _ => 0) 0 (0 ||| (((((((x2.toUInt64 >>> ((0 : Int32).toInt64.toUInt64 &&& Int64.toUInt64 63)).toInt64).toInt32) &&& 255) &&& 255).toInt64) <<< ((0 : Int32).toInt64 &&& 63)))) 0 ((((vp_updL (fun _ => 0) 0 (0 ||| (((((((x2.toUInt64 >>> ((0 : Int32).toInt64.toUInt64 &&& Int64.toUInt64 63)).toInt64).toInt32) &&& 255) &&& 255).toInt64) <<< ((0 : Int32).toInt64 &&& 63)))) (0 : Int32).toNatClampNeg) &&& (-65281)) ||| (((((((x2.toUInt64 >>> ((8 : Int32).toInt64.toUInt64 &&& Int64.toUInt64 63)).toInt64).toInt32) &&& 255) &&& 255).toInt64) <<< ((8 : Int32).toInt64 &&& 63)))) 0 ((((vp_updL (vp_updL (fun _ => 0) 0 (0 ||| (((((((x2.toUInt64 >>> ((0 : Int32).toInt64.toUInt64 &&& Int64.toUInt64 63)).toInt64).toInt32) &&& 255) &&& 255).toInt64) <<< ((0 : Int32).toInt64 &&& 63)))) 0 ((((vp_updL (fun _ => 0) 0 (0 ||| (((((((x2.toUInt64 >>> ((0 : Int32).toInt64.toUInt64 &&& Int64.toUInt64 63)).toInt64).toInt32) &&& 255) &&& 255).toInt64) <<< ((0 : Int32).toInt64 &&& 63)))) (0 : Int32).toNatClampNeg) &&& (-65281)) ||| (((((((x2.toUInt64 >>> ((8 : Int32).toInt64.toUInt64 &&& Int64.toUInt64 63)).toInt64).toInt32) &&& 255) &&& 255).toInt64) <<< ((8 : Int32).toInt64 &&& 63)))) (0 : Int32).toNatClampNeg) &&& (-16711681)) ||| (((((((x2.toUInt64 >>> ((16 : Int32).toInt64.toUInt64 &&& Int64.toUInt64 63)).toInt64).toInt32) &&& 255) &&& 255).toInt64) <<< ((16 : Int32).toInt64 &&& 63)))) (0 : Int32).toNatClampNeg) &&& (-4278190081)) ||| (((((((x2.toUInt64 >>> ((24 : Int32).toInt64.toUInt64 &&& Int64.toUInt64 63)).toInt64).toInt32) &&& 255) &&& 255).toInt64) <<< ((24 : Int32).toInt64 &&& 63)))) (0 : Int32).toNatClampNeg) &&& (-1095216660481)) ||| (((((((x2.toUInt64 >>> ((32 : Int32).toInt64.toUInt64 &&& Int64.toUInt64 63)).toInt64).toInt32) &&& 255) &&& 255).toInt64) <<< ((32 : Int32).toInt64 &&& 63)))) 0 ((((vp_updL (vp_updL (vp_updL (vp_updL (vp_updL (fun _ => 0) 0 (0 ||| (((((((x2.toUInt64 >>> ((0 : Int32).toInt64.toUInt64 &&& Int64.toUInt64 63)).toInt64).toInt32) &&& 255) &&& 255).toInt64) <<< ((0 : Int32).toInt64 &&& 63)))) 0 ((((vp_updL (fun _ => 0) 0 (0 ||| (((((((x2.toUInt64 >>> ((0 : Int32).toInt64.toUInt64 &&& Int64.toUInt64 63)).toInt64).toInt32) &&& 255) &&& 255).toInt64) <<< ((0 : Int32).toInt64 &&& 63)))) (0 : Int32).toNatClampNeg) &&& (-65281)) ||| (((((((x2.toUInt64 >>> ((8 : Int32).toInt64.toUInt64 &&& Int64.toUInt64 63)).toInt64).toInt32) &&& 255) &&& 255).toInt64) <<< ((8 : Int32).toInt64 &&& 63)))) 0 ((((vp_updL (vp_updL (fun _ => 0) 0 (0 ||| (((((((x2.toUInt64 >>> ((0 : Int32).toInt64.toUInt64 &&& Int64.toUInt64 63)).toInt64).toInt32) &&& 255) &&& 255).toInt64) <<< ((0 : Int32).toInt64 &&& 63)))) 0 ((((vp_updL (fun _ => 0) 0 (0 ||| (((((((x2.toUInt64 >>> ((0 : Int32).toInt64.toUInt64 &&& Int64.toUInt64 63)).toInt64).toInt32) &&& 255) &&& 255).toInt64) <<< ((0 : Int32).toInt64 &&& 63)))) (0 : Int32).toNatClampNeg) &&& (-65281)) ||| (((((((x2.toUInt64 >>> ((8 : Int32).toInt64.toUInt64 &&& Int64.toUInt64 63)).toInt64).toInt32) &&& 255) &&& 255).toInt64) <<< ((8 : Int32).toInt64 &&& 63)))) (0 : Int32).toNatClampNeg) &&& (-16711681)) ||| (((((((x2.toUInt64 >>> ((16 : Int32).toInt64.toUInt64 &&& Int64.toUInt64 63)).toInt64).toInt32) &&& 255) &&& 255).toInt64) <<< ((16 : Int32).toInt64 &&& 63)))) 0 ((((vp_updL (vp_updL (vp_updL (fun _ => 0) 0 (0 ||| (((((((x2.toUInt64 >>> ((0 : Int32).toInt64.toUInt64 &&& Int64.toUInt64 63)).toInt64).toInt32) &&& 255) &&& 255).toInt64) <<< ((0 : Int32).toInt64 &&& 63)))) 0 ((((vp_updL (fun _ => 0) 0 (0 ||| (((((((x2.toUInt64 >>> ((0 : Int32).toInt64.toUInt64 &&& Int64.toUInt64 63)).toInt64).toInt32) &&& 255) &&& 255).toInt64) <<< ((0 : Int32).toInt64 &&& 63)))) (0 : Int32).toNatClampNeg) &&& (-65281)) ||| (((((((x2.toUInt64 >>> ((8 : Int32).toInt64.toUInt64 &&& Int64.toUInt64 63)).toInt64).toInt32) &&& 255) &&& 255).toInt64) <<< ((8 : Int32).toInt64 &&& 63)))) 0 ((((vp_updL (vp_updL (fun _ => 0) 0 (0 ||| (((((((x2.toUInt64 >>> ((0 : Int32).toInt64.toUInt64 &&& Int64.toUInt64 63)).toInt64).toInt32) &&& 255) &&& 255).toInt64) <<< ((0 : Int32).toInt64 &&& 63)))) 0 ((((vp_updL (fun _ => 0) 0 (0 ||| (((((((x2.toUInt64 >>> ((0 : Int32).toInt64.toUInt64 &&& Int64.toUInt64 63)).toInt64).toInt32) &&& 255) &&& 255).toInt64) <<< ((0 : Int32).toInt64 &&& 63)))) (0 : Int32).toNatClampNeg) &&& (-65281)) ||| (((((((x2.toUInt64 >>> ((8 : Int32).toInt64.toUInt64 &&& Int64.toUInt64 63)).toInt64).toInt32) &&& 255) &&& 255).toInt64) <<< ((8 : Int32).toInt64 &&& 63)))) (0 : Int32).toNatClampNeg) &&& (-16711681)) ||| (((((((x2.toUInt64 >>> ((16 : Int32).toInt64.toUInt64 &&& Int64.toUInt64 63)).toInt64).toInt32) &&& 255) &&& 255).toInt64) <<< ((16 : Int32).toInt64 &&& 63)))) (0 : Int32).toNatClampNeg) &&& (-4278190081)) ||| (((((((x2.toUInt64 >>> ((24 : Int32).toInt64.toUInt64 &&& Int64.toUInt64 63)).toInt64).toInt32) &&& 255) &&& 255).toInt64) <<< ((24 : Int32).toInt64 &&& 63)))) 0 ((((vp_updL (vp_updL (vp_updL (vp_updL (fun _ => 0) 0 (0 ||| (((((((x2.toUInt64 >>> ((0 : Int32).toInt64.toUInt64 &&& Int64.toUInt64 63)).toInt64).toInt32) &&& 255) &&& 255).toInt64) <<< ((0 : Int32).toInt64 &&& 63)))) 0 ((((vp_updL (fun _ => 0) 0 (0 ||| (((((((x2.toUInt64 >>> ((0 : Int32).toInt64.toUInt64 &&& Int64.toUInt64 63)).toInt64).toInt32) &&& 255) &&& 255).toInt64) <<< ((0 : Int32).toInt64 &&& 63)))) (0 : Int32).toNatClampNeg) &&& (-65281)) ||| (((((((x2.toUInt64 >>> ((8 : Int32).toInt64.toUInt64 &&& Int64.toUInt64 63)).toInt64).toInt32) &&& 255) &&& 255).toInt64) <<< ((8 : Int32).toInt64 &&& 63)))) 0 ((((vp_updL (vp_updL (fun _ => 0) 0 (0 ||| (((((((x2.toUInt64 >>> ((0 : Int32).toInt64.toUInt64 &&& Int64.toUInt64 63)).toInt64).toInt32) &&& 255) &&& 255).toInt64) <<< ((0 : Int32).toInt64 &&& 63)))) 0 ((((vp_updL (fun _ => 0) 0 (0 ||| (((((((x2.toUInt64 >>> ((0 : Int32).toInt64.toUInt64 &&& Int64.toUInt64 63)).toInt64).toInt32) &&& 255) &&& 255).toInt64) <<< ((0 : Int32).toInt64 &&& 63)))) (0 : Int32).toNatClampNeg) &&& (-65281)) ||| (((((((x2.toUInt64 >>> ((8 : Int32).toInt64.toUInt64 &&& Int64.toUInt64 63)).toInt64).toInt32) &&& 255) &&& 255).toInt64) <<< ((8 : Int32).toInt64 &&& 63)))) (0 : Int32).toNatClampNeg) &&& (-16711681)) ||| (((((((x2.toUInt64 >>> ((16 : Int32).toInt64.toUInt64 &&& Int64.toUInt64 63)).toInt64).toInt32) &&& 255) &&& 255).toInt64) <<< ((16 : Int32).toInt64 &&& 63)))) 0 ((((vp_updL (vp_updL (vp_updL (fun _ => 0) 0 (0 ||| (((((((x2.toUInt64 >>> ((0 : Int32).toInt64.toUInt64 &&& Int64.toUInt64 63)).toInt64).toInt32) &&& 255) &&& 255).toInt64) <<< ((0 : Int32).toInt64 &&& 63)))) 0 ((((vp_updL (fun _ => 0) 0 (0 ||| (((((((x2.toUInt64 >>> ((0 : Int32).toInt64.toUInt64 &&& Int64.toUInt64 63)).toInt64).toInt32) &&& 255) &&& 255).toInt64) <<< ((0 : Int32).toInt64 &&& 63)))) (0 : Int32).toNatClampNeg) &&& (-65281)) ||| (((((((x2.toUInt64 >>> ((8 : Int32).toInt64.toUInt64 &&& Int64.toUInt64 63)).toInt64).toInt32) &&& 255) &&& 255).toInt64) <<< ((8 : Int32).toInt64 &&& 63)))) 0 ((((vp_updL (vp_updL (fun _ => 0) 0 (0 ||| (((((((x2.toUInt64 >>> ((0 : Int32).toInt64.toUInt64 &&& Int64.toUInt64 63)).toInt64).toInt32) &&& 255) &&& 255).toInt64) <<< ((0 : Int32).toInt64 &&& 63)))) 0 ((((vp_updL (fun _ => 0) 0 (0 ||| (((((((x2.toUInt64 >>> ((0 : Int32).toInt64.toUInt64 &&& Int64.toUInt64 63)).toInt64).toInt32) &&& 255) &&& 255).toInt64) <<< ((0 : Int32).toInt64 &&& 63)))) (0 : Int32).toNatClampNeg) &&& (-65281)) ||| (((((((x2.toUInt64 >>> ((8 : Int32).toInt64.toUInt64 &&& Int64.toUInt64 63)).toInt64).toInt32) &&& 255) &&& 255).toInt64) <<< ((8 : Int32).toInt64 &&& 63)))) (0 : Int32).toNatClampNeg) &&& (-16711681)) ||| (((((((x2.toUInt64 >>> ((16 : Int32).toInt64.toUInt64 &&& Int64.toUInt64 63)).toInt64).toInt32) &&& 255) &&& 255).toInt64) <<< ((16 : Int32).toInt64 &&& 63)))) (0 : Int32).toNatClampNeg) &&& (-4278190081)) ||| (((((((x2.toUInt64 >>> ((24 : Int32).toInt64.toUInt64 &&& Int64.toUInt64 63)).toInt64).toInt32) &&& 255) &&& 255).toInt64) <<< ((24 : Int32).toInt64 &&& 63)))) (0 : Int32).toNatClampNeg) &&& (-1095216660481)) ||| (((((((x2.toUInt64 >>> ((32 : Int32).toInt64.toUInt64 &&& Int64.toUInt64 63)).toInt64).toInt32) &&& 255) &&& 255).toInt64) <<< ((32 : Int32).toInt64 &&& 63)))) (0 : Int32).toNatClampNeg) &&& (-280375465082881)) ||| (((((((x2.toUInt64 >>> ((40 : Int32).toInt64.toUInt64 &&& Int64.toUInt64 63)).toInt64).toInt32) &&& 255) &&& 255).toInt64) <<< ((40 : Int32).toInt64 &&& 63)))) (0 : Int32).toNatClampNeg) &&& (-71776119061217281)) ||| (((((((x2.toUInt64 >>> ((48 : Int32).toInt64.toUInt64 &&& Int64.toUInt64 63)).toInt64).toInt32) &&& 255) &&& 255).toInt64) <<< ((48 : Int32).toInt64 &&& 63)))) hO1 hA15 _) rfl rfl hO1 rfl hl.1 rfl (Nat.le_of_ble_eq_true rfl) ⟨by decide, by decide⟩ ⟨Nat.le_of_ble_eq_true rfl, Nat.le_of_ble_eq_true rfl⟩ d_1_2_61) (fun u52 H locs hp51 V => ?_)
                          obtain ⟨hg53, hO1, hA15⟩ := hp51
                          replace hF := q_uc hF hg53 (q_sc (.head _) (q_sc (.tail _ (.head _)) (fun _ h => absurd h List.not_mem_nil)))
                          refine lv_iinc (v := 8) (lv' := [(4, .int 8), (0, .ref qO0), (1, .int x1), (2, .long x2)]) hx hb d_1_2_64 hl (k := 0) rfl (by decide) (by decide) rfl (fun ls hl => ?_)
                          refine lv_goto (tgt := 39) hx hb d_1_2_67 (by decide) ?_
                          refine lv_iload hx hb d_1_2_39 (lv_at hl 0 rfl) ?_
                          refine lv_iload_n hx hb d_1_2_41 rfl (lv_at hl 2 rfl) ?_
                          refine lv_icmp_ge (tgt := 70) hx hb d_1_2_42 (by decide) (fun c54 => ?_) (fun c54 => absurd (Int32.not_lt.mp c8) c54)
                          refine lv_aload_n hx hb d_1_2_70 rfl (lv_at hl 1 rfl) ?_
                          replace hO0 := (hg53 _ (q_nc (q_pd 0 1 rfl) (q_nc (q_pd 0 2 rfl) List.not_mem_nil))).trans (hO0)
                          refine q_get (ci := 0) (j := 0) (v := .ref qO1) C0 V i_NH rfl rfl hO0 (by decide) w_424 rfl d_1_2_71 ?_
                          refine q_get (ci := 1) (j := 2) (v := .int 8) C0 V i_She rfl rfl hO1 (by decide) w_56 rfl d_1_2_74 ?_
                          exact q_retX (q_reti C0 V (Or.inr (Or.inr (Or.inr (Or.inr (Or.inr (Or.inr (Or.inr (Or.inr (Or.inl ⟨c1, c8, c19, c21, c22, c26, c30, c34, c38, c42, c46, c50, rfl, hF, hO1, hA15⟩))))))))) d_1_2_77)
        ·
          refine lv_iconst (v := (-1)) hx hb d_1_2_34 (by decide) ?_
          exact q_retX (q_reti C0 V (Or.inr (Or.inr (Or.inr (Or.inr (Or.inr (Or.inr (Or.inr (Or.inr (Or.inr (⟨c1, c8, c19, c21, rfl, hF, hO1, hA15⟩)))))))))) d_1_2_35)
