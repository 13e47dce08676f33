/-! the class on a fresh object: format -/
set_option maxRecDepth 100000 in
set_option maxHeartbeats 4000000 in
theorem c_She_clear_2 (l : Launch) (D : va_G) (g : Nat → ClassId) (ws : va_W) (kO0 qO0 qA1 : Nat) (hO0 : ws[kO0]? = (some (qO0, .inr (1, [.ref qA1, .int 11008, .int 0])) : Option (Nat × va_E))) : q_mV l y_She_clear prog_11_method_2_code 1 1 0 0 D g [.ref qO0] ws (fun u => q_un ws u [kO0] ∧ u[kO0]? = (some (qO0, .inr (1, [.ref qA1, .int 11008, .int 0])) : Option (Nat × va_E))) := by
  intro sz
  refine q_into (by decide) (Nat.le_of_ble_eq_true rfl) ?_
  intro p e s m below meth c ls hsz C0 V hl
  have hx := C0.1
  have hb := C0.2.1
  have hl : lv_has ls 1 [(0, .ref qO0)] := hl
  have hF : q_un ws ws [kO0] := q_u0
  refine lv_aload_n hx hb d_11_2_0 rfl (lv_at hl 0 rfl) ?_
  refine lv_iconst (v := 0) hx hb d_11_2_1 (by decide) ?_
  refine q_put (ci := 1) (j := 2) (v := .int 0) (ty := .int) C0 V i_She o_She n_She rfl rfl hO0 (by decide) w_54 rfl rfl rfl rfl (Nat.le_of_ble_eq_true rfl) d_11_2_2 (fun H locs w1 hu2 hO0 V => ?_)
  replace hO0 : w1[kO0]? = (some (qO0, .inr (1, [.ref qA1, .int 11008, .int 0])) : Option (Nat × va_E)) := hO0
  replace hF := q_us hF hu2 (.head _)
  exact q_retv C0 V (⟨hF, hO0⟩) d_11_2_5
theorem d_9_5_0 : decode prog_9_method_5_code 0 = .ok (.aload_n 1, 1) := by decide +kernel
theorem d_9_5_1 : decode prog_9_method_5_code 1 = .ok (.invokevirtual 70, 3) := by decide +kernel
theorem w_1716 : (Cond.methodLink "NumberHouse$Printer" (70 : Nat) ({ cls := "NumberHouse$Sheet", name := "clear", desc := "()V" } : MethodName)) ∈ q_tbl := q_of 1716 (by decide +kernel) (by decide +kernel)
theorem LV_Pri_70 : q_LV "NumberHouse$Printer" 70 y_She_clear prog_11_method_2_code 1 none 0 := ⟨w_474, w_2, w_1716, w_472, w_473, ⟨by decide, by decide, by decide +kernel⟩⟩
theorem d_9_5_4 : decode prog_9_method_5_code 4 = .ok (.aload_n 0, 1) := by decide +kernel
theorem d_9_5_5 : decode prog_9_method_5_code 5 = .ok (.iconst 0, 1) := by decide +kernel
theorem d_9_5_6 : decode prog_9_method_5_code 6 = .ok (.putfield 84, 3) := by decide +kernel
theorem w_395 : (Cond.fieldLink "NumberHouse$Printer" (84 : Nat) "NumberHouse$Printer" "ordinary" "I") ∈ q_tbl := q_of 395 (by decide +kernel) (by decide +kernel)
theorem d_9_5_9 : decode prog_9_method_5_code 9 = .ok (.aload_n 0, 1) := by decide +kernel
theorem d_9_5_10 : decode prog_9_method_5_code 10 = .ok (.iconst (-1), 1) := by decide +kernel
theorem d_9_5_11 : decode prog_9_method_5_code 11 = .ok (.putfield 87, 3) := by decide +kernel
theorem w_396 : (Cond.fieldLink "NumberHouse$Printer" (87 : Nat) "NumberHouse$Printer" "last" "I") ∈ q_tbl := q_of 396 (by decide +kernel) (by decide +kernel)
theorem d_9_5_14 : decode prog_9_method_5_code 14 = .ok (.iconst 0, 1) := by decide +kernel
theorem d_9_5_15 : decode prog_9_method_5_code 15 = .ok (.istore_n 2, 1) := by decide +kernel
theorem d_9_5_16 : decode prog_9_method_5_code 16 = .ok (.iconst 0, 1) := by decide +kernel
theorem d_9_5_17 : decode prog_9_method_5_code 17 = .ok (.istore_n 3, 1) := by decide +kernel
theorem d_9_5_18 : decode prog_9_method_5_code 18 = .ok (.iload_n 3, 1) := by decide +kernel
theorem d_9_5_19 : decode prog_9_method_5_code 19 = .ok (.sipush 256, 3) := by decide +kernel
theorem d_9_5_22 : decode prog_9_method_5_code 22 = .ok (.if_icmp .gt 175, 3) := by decide +kernel
theorem d_9_5_197 : decode prog_9_method_5_code 197 = .ok (.aload_n 1, 1) := by decide +kernel
theorem d_9_5_198 : decode prog_9_method_5_code 198 = .ok (.getfield 73, 3) := by decide +kernel
theorem w_58 : (Cond.fieldLink "NumberHouse$Printer" (73 : Nat) "NumberHouse$Sheet" "size" "I") ∈ q_tbl := q_of 58 (by decide +kernel) (by decide +kernel)
theorem d_9_5_201 : decode prog_9_method_5_code 201 = .ok (.ireturn, 1) := by decide +kernel
theorem d_9_5_25 : decode prog_9_method_5_code 25 = .ok (.iload_n 2, 1) := by decide +kernel
theorem d_9_5_26 : decode prog_9_method_5_code 26 = .ok (.aload_n 0, 1) := by decide +kernel
theorem d_9_5_27 : decode prog_9_method_5_code 27 = .ok (.getfield 35, 3) := by decide +kernel
theorem d_9_5_30 : decode prog_9_method_5_code 30 = .ok (.getfield 73, 3) := by decide +kernel
theorem d_9_5_33 : decode prog_9_method_5_code 33 = .ok (.if_icmp .ge 164, 3) := by decide +kernel
def y_Pri_run : MethodName := ⟨"NumberHouse$Printer", "run", "(LNumberHouse$Sheet;)I"⟩
set_option maxRecDepth 100000 in
set_option maxHeartbeats 4000000 in
theorem c_Pri_run (l : Launch) (D : va_G) (g : Nat → ClassId) (ws : va_W) (kO0 kO1 kO6 qO0 qO1 qA2 qA3 qA4 qA5 qO6 qO7 qO8 qO9 qA10 qA20 : Nat) (hO0 : ws[kO0]? = (some (qO0, .inr (11, [.int 0, .ref qA2, .ref qA3, .ref qA4, .ref qA5, .ref qO6, .ref qO7, .ref qO8, .ref qO9, .int 0, .int 0, .int 0])) : Option (Nat × va_E))) (hO1 : ws[kO1]? = (some (qO1, .inr (1, [.ref qA10, .int 11008, .int 0])) : Option (Nat × va_E))) (hO6 : ws[kO6]? = (some (qO6, .inr (1, [.ref qA20, .int 4100, .int 0])) : Option (Nat × va_E))) (n_O6_O1 : kO6 ≠ kO1) : q_mI l y_Pri_run prog_9_method_5_code 6 (.int) 2 0 0 D g [.ref qO0, .ref qO1] ws (fun r u => 0 = r ∧ q_un ws u [kO0, kO1] ∧ u[kO0]? = (some (qO0, .inr (11, [.int 0, .ref qA2, .ref qA3, .ref qA4, .ref qA5, .ref qO6, .ref qO7, .ref qO8, .ref qO9, .int 0, .int 0, .int (-1)])) : Option (Nat × va_E)) ∧ u[kO1]? = (some (qO1, .inr (1, [.ref qA10, .int 11008, .int 0])) : Option (Nat × va_E))) := by
  intro sz
  refine q_into (by decide) (Nat.le_of_ble_eq_true rfl) ?_
  intro p e s m below meth c ls hsz C0 V hl
  have hx := C0.1
  have hb := C0.2.1
  have hl : lv_has ls 6 [(0, .ref qO0), (1, .ref qO1)] := hl
  have n_O0_O1 := q_dc hO0 hO1 (q_pd 11 1 rfl)
  have n_O1_O0 := q_dc hO1 hO0 (q_pd 1 11 rfl)
  have n_O6_O0 := q_dc hO6 hO0 (q_pd 1 11 rfl)
  have hF : q_un ws ws [kO0, kO1] := q_u0
  refine lv_aload_n hx hb d_9_5_0 rfl (lv_at hl 1 rfl) ?_
  refine q_gov V (q_runV (As := []) (rest := []) (d := 1) (mc := 0) (ms := 0) (ci := 1) C0 V rfl LV_Pri_70 (c_She_clear_2 l D g ws kO1 qO1 qA10 hO1 _) rfl rfl hO1 rfl hl.1 rfl (Nat.le_of_ble_eq_true rfl) ⟨by decide, by decide⟩ ⟨Nat.le_of_ble_eq_true rfl, Nat.le_of_ble_eq_true rfl⟩ d_9_5_1) (fun u2 H locs hp1 V => ?_)
  obtain ⟨hg3, hO1⟩ := hp1
  replace hF := q_uc hF hg3 (q_sc (.tail _ (.head _)) (fun _ h => absurd h List.not_mem_nil))
  refine lv_aload_n hx hb d_9_5_4 rfl (lv_at hl 0 rfl) ?_
  refine lv_iconst (v := 0) hx hb d_9_5_5 (by decide) ?_
  replace hO0 := (hg3 _ (q_nc n_O0_O1 List.not_mem_nil)).trans (hO0)
  refine q_put (ci := 11) (j := 10) (v := .int 0) (ty := .int) C0 V i_Pri o_Pri n_Pri rfl rfl hO0 (by decide) w_395 rfl rfl rfl rfl (Nat.le_of_ble_eq_true rfl) d_9_5_6 (fun H locs w4 hu5 hO0 V => ?_)
  replace hO0 : w4[kO0]? = (some (qO0, .inr (11, [.int 0, .ref qA2, .ref qA3, .ref qA4, .ref qA5, .ref qO6, .ref qO7, .ref qO8, .ref qO9, .int 0, .int 0, .int 0])) : Option (Nat × va_E)) := hO0
  replace hF := q_us hF hu5 (.head _)
  refine lv_aload_n hx hb d_9_5_9 rfl (lv_at hl 0 rfl) ?_
  refine lv_iconst (v := (-1)) hx hb d_9_5_10 (by decide) ?_
  refine q_put (ci := 11) (j := 11) (v := .int (-1)) (ty := .int) C0 V i_Pri o_Pri n_Pri rfl rfl hO0 (by decide) w_396 rfl rfl rfl rfl (Nat.le_of_ble_eq_true rfl) d_9_5_11 (fun H locs w6 hu7 hO0 V => ?_)
  replace hO0 : w6[kO0]? = (some (qO0, .inr (11, [.int 0, .ref qA2, .ref qA3, .ref qA4, .ref qA5, .ref qO6, .ref qO7, .ref qO8, .ref qO9, .int 0, .int 0, .int (-1)])) : Option (Nat × va_E)) := hO0
  replace hF := q_us hF hu7 (.head _)
  refine lv_iconst (v := 0) hx hb d_9_5_14 (by decide) ?_
  refine lv_istore_n (lv' := [(2, .int 0), (0, .ref qO0), (1, .ref qO1)]) hx hb d_9_5_15 rfl hl (by decide) rfl (fun ls hl => ?_)
  refine lv_iconst (v := 0) hx hb d_9_5_16 (by decide) ?_
  refine lv_istore_n (lv' := [(3, .int 0), (2, .int 0), (0, .ref qO0), (1, .ref qO1)]) hx hb d_9_5_17 rfl hl (by decide) rfl (fun ls hl => ?_)
  replace hO1 := (hu7 _ n_O1_O0).trans ((hu5 _ n_O1_O0).trans (hO1))
  replace hO6 := (hu7 _ n_O6_O0).trans ((hu5 _ n_O6_O0).trans ((hg3 _ (q_nc n_O6_O1 List.not_mem_nil)).trans (hO6)))
  refine q_loop (X := Int32) (fun z H locs ls w9 => (0 ≤ z.toInt ∧ (z.toInt ≤ (256 + 1) ∨ z.toInt = 0)) ∧ q_Wd D g (va_A ws sz) s w9 H locs ∧ lv_has ls 6 [(3, .int z), (2, .int 0), (0, .ref qO0), (1, .ref qO1)] ∧ q_un ws w9 [kO0, kO1] ∧ w9[kO0]? = (some (qO0, .inr (11, [.int 0, .ref qA2, .ref qA3, .ref qA4, .ref qA5, .ref qO6, .ref qO7, .ref qO8, .ref qO9, .int 0, .int 0, .int (-1)])) : Option (Nat × va_E)) ∧ w9[kO1]? = (some (qO1, .inr (1, [.ref qA10, .int 11008, .int 0])) : Option (Nat × va_E)) ∧ w9[kO6]? = (some (qO6, .inr (1, [.ref qA20, .int 4100, .int 0])) : Option (Nat × va_E))) (fun z => ((256 + 1) - z.toInt).toNat) ?_ ((0 : Int32)) _ _ _ w6 ⟨⟨by decide, Or.inr (by decide)⟩, V, hl, hF, hO0, hO1, hO6⟩
  rintro lx8 H locs ls w9 ⟨i10, V, hl, hF, hO0, hO1, hO6⟩ ih11
  replace i10 : 0 ≤ lx8.toInt ∧ (lx8.toInt ≤ (256 + 1) ∨ lx8.toInt = 0) := i10
  replace hl : lv_has ls 6 [(3, .int lx8), (2, .int 0), (0, .ref qO0), (1, .ref qO1)] := hl
  replace hO0 : w9[kO0]? = (some (qO0, .inr (11, [.int 0, .ref qA2, .ref qA3, .ref qA4, .ref qA5, .ref qO6, .ref qO7, .ref qO8, .ref qO9, .int 0, .int 0, .int (-1)])) : Option (Nat × va_E)) := hO0
  replace hO1 : w9[kO1]? = (some (qO1, .inr (1, [.ref qA10, .int 11008, .int 0])) : Option (Nat × va_E)) := hO1
  replace hO6 : w9[kO6]? = (some (qO6, .inr (1, [.ref qA20, .int 4100, .int 0])) : Option (Nat × va_E)) := hO6
  refine lv_iload_n hx hb d_9_5_18 rfl (lv_at hl 0 rfl) ?_
  refine lv_sipush (v := 256) hx hb d_9_5_19 (by decide) ?_
  refine lv_icmp_gt (tgt := 197) hx hb d_9_5_22 (by decide) (fun c12 => ?_) (fun c12 => ?_)
  ·
    refine lv_aload_n hx hb d_9_5_197 rfl (lv_at hl 3 rfl) ?_
    refine q_get (ci := 1) (j := 2) (v := .int 0) C0 V i_She rfl rfl hO1 (by decide) w_58 rfl d_9_5_198 ?_
    exact q_reti C0 V (⟨rfl, hF, hO0, hO1⟩) d_9_5_201
  ·
    refine lv_iload_n hx hb d_9_5_25 rfl (lv_at hl 1 rfl) ?_
    refine lv_aload_n hx hb d_9_5_26 rfl (lv_at hl 2 rfl) ?_
    refine q_get (ci := 11) (j := 5) (v := .ref qO6) C0 V i_Pri rfl rfl hO0 (by decide) w_390 rfl d_9_5_27 ?_
    refine q_get (ci := 1) (j := 2) (v := .int 0) C0 V i_She rfl rfl hO6 (by decide) w_58 rfl d_9_5_30 ?_
    refine lv_icmp_ge (tgt := 197) hx hb d_9_5_33 (by decide) (fun c13 => ?_) (fun c13 => absurd (by decide) c13)
    refine lv_aload_n hx hb d_9_5_197 rfl (lv_at hl 3 rfl) ?_
    refine q_get (ci := 1) (j := 2) (v := .int 0) C0 V i_She rfl rfl hO1 (by decide) w_58 rfl d_9_5_198 ?_
    exact q_reti C0 V (⟨rfl, hF, hO0, hO1⟩) d_9_5_201
theorem d_1_20_0 : decode prog_1_method_20_code 0 = .ok (.aload_n 0, 1) := by decide +kernel
theorem d_1_20_1 : decode prog_1_method_20_code 1 = .ok (.getfield 14, 3) := by decide +kernel
theorem d_1_20_4 : decode prog_1_method_20_code 4 = .ok (.getfield 108, 3) := by decide +kernel
theorem d_1_20_7 : decode prog_1_method_20_code 7 = .ok (.sipush 256, 3) := by decide +kernel
theorem d_1_20_10 : decode prog_1_method_20_code 10 = .ok (.if_icmp .le 14, 3) := by decide +kernel
theorem d_1_20_24 : decode prog_1_method_20_code 24 = .ok (.aload_n 0, 1) := by decide +kernel
theorem d_1_20_25 : decode prog_1_method_20_code 25 = .ok (.getfield 98, 3) := by decide +kernel
theorem d_1_20_28 : decode prog_1_method_20_code 28 = .ok (.aload_n 0, 1) := by decide +kernel
theorem d_1_20_29 : decode prog_1_method_20_code 29 = .ok (.getfield 18, 3) := by decide +kernel
theorem d_1_20_32 : decode prog_1_method_20_code 32 = .ok (.invokevirtual 362, 3) := by decide +kernel
theorem w_1734 : (Cond.code ({ cls := "NumberHouse$Printer", name := "run", desc := "(LNumberHouse$Sheet;)I" } : MethodName) prog_9_method_5_code (6 : Nat) (some .int)) ∈ q_tbl := q_of 1734 (by decide +kernel) (by decide +kernel)
theorem w_1731 : (Cond.methodLink "NumberHouse" (362 : Nat) ({ cls := "NumberHouse$Printer", name := "run", desc := "(LNumberHouse$Sheet;)I" } : MethodName)) ∈ q_tbl := q_of 1731 (by decide +kernel) (by decide +kernel)
theorem w_1732 : (Cond.instanceMethod ({ cls := "NumberHouse$Printer", name := "run", desc := "(LNumberHouse$Sheet;)I" } : MethodName)) ∈ q_tbl := q_of 1732 (by decide +kernel) (by decide +kernel)
theorem w_1733 : (Cond.selects "NumberHouse$Printer" ({ cls := "NumberHouse$Printer", name := "run", desc := "(LNumberHouse$Sheet;)I" } : MethodName) ({ cls := "NumberHouse$Printer", name := "run", desc := "(LNumberHouse$Sheet;)I" } : MethodName)) ∈ q_tbl := q_of 1733 (by decide +kernel) (by decide +kernel)
theorem LV_NH_362 : q_LV "NumberHouse" 362 y_Pri_run prog_9_method_5_code 6 (some .int) 1 := ⟨w_1734, w_12, w_1731, w_1732, w_1733, ⟨by decide, by decide, by decide +kernel⟩⟩
theorem d_1_20_35 : decode prog_1_method_20_code 35 = .ok (.istore_n 1, 1) := by decide +kernel
theorem d_1_20_36 : decode prog_1_method_20_code 36 = .ok (.iload_n 1, 1) := by decide +kernel
theorem d_1_20_37 : decode prog_1_method_20_code 37 = .ok (.ifCond .lt 10, 3) := by decide +kernel
theorem d_1_20_40 : decode prog_1_method_20_code 40 = .ok (.aload_n 0, 1) := by decide +kernel
theorem d_1_20_41 : decode prog_1_method_20_code 41 = .ok (.getfield 14, 3) := by decide +kernel
theorem d_1_20_44 : decode prog_1_method_20_code 44 = .ok (.invokevirtual 115, 3) := by decide +kernel
theorem d_1_20_47 : decode prog_1_method_20_code 47 = .ok (.iload_n 1, 1) := by decide +kernel
theorem d_1_20_48 : decode prog_1_method_20_code 48 = .ok (.ireturn, 1) := by decide +kernel
def y_NH_format : MethodName := ⟨"NumberHouse", "format", "()I"⟩
set_option maxRecDepth 100000 in
set_option maxHeartbeats 4000000 in
/-- format on a fresh object -/
theorem c_NH_format (l : Launch) (D : va_G) (g : Nat → ClassId) (ws : va_W) ( qO0 qO1 qO2 qA3 qA4 qA5 qA6 qO7 qO8 qO9 qO10 qO11 qO12 qO13 qO14 qA15 qA16 qA29 qA30 qA31 qA32 qO33 qO34 : Nat) (hO0 : ws[0]? = (some (qO0, .inr (0, [.ref qO1, .ref qO2, .ref qA3, .ref qA4, .ref qA5, .ref qA6, .ref qO7, .ref qO8, .ref qO9, .ref qO10, .ref qO11, .ref qO12, .ref qO13, .ref qO14])) : Option (Nat × va_E))) (hO1 : ws[1]? = (some (qO1, .inr (1, [.ref qA15, .int 4100, .int 0])) : Option (Nat × va_E))) (hO2 : ws[3]? = (some (qO2, .inr (1, [.ref qA16, .int 11008, .int 0])) : Option (Nat × va_E))) (hO14 : ws[40]? = (some (qO14, .inr (11, [.int 0, .ref qA29, .ref qA30, .ref qA31, .ref qA32, .ref qO1, .ref qO33, .ref qO11, .ref qO34, .int 0, .int 0, .int 0])) : Option (Nat × va_E))) : q_mI l y_NH_format prog_1_method_20_code 2 (.int) 3 0 0 D g [.ref qO0] ws (fun r u => (r.toInt = 0) ∧ q_ge 116 ws u) := by
  intro sz
  refine q_into (by decide) (Nat.le_of_ble_eq_true rfl) ?_
  intro p e s m below meth c ls hsz C0 V hl
  have hx := C0.1
  have hb := C0.2.1
  have hl : lv_has ls 2 [(0, .ref qO0)] := hl
  have hF : q_ge 116 ws ws := q_g0
  refine lv_aload_n hx hb d_1_20_0 rfl (lv_at hl 0 rfl) ?_
  refine q_get (ci := 0) (j := 0) (v := .ref qO1) C0 V i_NH rfl rfl hO0 (by decide) w_424 rfl d_1_20_1 ?_
  refine q_get (ci := 1) (j := 2) (v := .int 0) C0 V i_She rfl rfl hO1 (by decide) w_56 rfl d_1_20_4 ?_
  refine lv_sipush (v := 256) hx hb d_1_20_7 (by decide) ?_
  refine lv_icmp_le (tgt := 24) hx hb d_1_20_10 (by decide) (fun c1 => ?_) (fun c1 => absurd (by decide) c1)
  refine lv_aload_n hx hb d_1_20_24 rfl (lv_at hl 0 rfl) ?_
  refine q_get (ci := 0) (j := 13) (v := .ref qO14) C0 V i_NH rfl rfl hO0 (by decide) w_437 rfl d_1_20_25 ?_
  refine lv_aload_n hx hb d_1_20_28 rfl (lv_at hl 0 rfl) ?_
  refine q_get (ci := 0) (j := 1) (v := .ref qO2) C0 V i_NH rfl rfl hO0 (by decide) w_425 rfl d_1_20_29 ?_
  refine q_goi V (q_runV (As := [.ref qO2]) (rest := []) (d := 2) (mc := 0) (ms := 0) (ci := 11) C0 V rfl LV_NH_362 (c_Pri_run l D g ws 40 3 1 qO14 qO2 qA29 qA30 qA31 qA32 qO1 qO33 qO11 qO34 qA16 qA15 hO14 hO2 hO1 (q_pd 1 3 rfl) _) rfl rfl hO14 rfl hl.1 rfl (Nat.le_of_ble_eq_true rfl) ⟨by decide, by decide⟩ ⟨Nat.le_of_ble_eq_true rfl, Nat.le_of_ble_eq_true rfl⟩ d_1_20_32) (fun v4 u3 H locs hp2 V => ?_)
  obtain ⟨rfl, hg5, hO14, hO2⟩ := hp2
  replace hF := q_gc hF hg5 (q_al (Nat.le_of_ble_eq_true rfl) (q_al (Nat.le_of_ble_eq_true rfl) (fun _ h => absurd h List.not_mem_nil)))
  refine lv_istore_n (lv' := [(1, .int 0), (0, .ref qO0)]) hx hb d_1_20_35 rfl hl (by decide) rfl (fun ls hl => ?_)
  refine lv_iload_n hx hb d_1_20_36 rfl (lv_at hl 0 rfl) ?_
  refine lv_if_lt (tgt := 47) hx hb d_1_20_37 (by decide) (fun c6 => absurd c6 (by decide)) (fun c6 => ?_)
  refine lv_aload_n hx hb d_1_20_40 rfl (lv_at hl 1 rfl) ?_
  replace hO0 := (hg5 _ (q_nc (q_pd 0 40 rfl) (q_nc (q_pd 0 3 rfl) List.not_mem_nil))).trans (hO0)
  refine q_get (ci := 0) (j := 0) (v := .ref qO1) C0 V i_NH rfl rfl hO0 (by decide) w_424 rfl d_1_20_41 ?_
  replace hO1 := (hg5 _ (q_nc (q_pd 1 40 rfl) (q_nc (q_pd 1 3 rfl) List.not_mem_nil))).trans (hO1)
  refine q_gov V (q_runV (As := []) (rest := []) (d := 1) (mc := 0) (ms := 0) (ci := 1) C0 V rfl LV_NH_115 (c_She_clear l D g u3 1 qO1 qA15 hO1 _) rfl rfl hO1 rfl hl.1 rfl (Nat.le_of_ble_eq_true rfl) ⟨by decide, by decide⟩ ⟨Nat.le_of_ble_eq_true rfl, Nat.le_of_ble_eq_true rfl⟩ d_1_20_44) (fun u8 H locs hp7 V => ?_)
  obtain ⟨hg9, hO1⟩ := hp7
  replace hF := q_gc hF hg9 (q_al (Nat.le_of_ble_eq_true rfl) (fun _ h => absurd h List.not_mem_nil))
  refine lv_iload_n hx hb d_1_20_47 rfl (lv_at hl 0 rfl) ?_
  exact q_reti C0 V (⟨(show (0 : Int32).toInt = 0 from by have e0 : (0 : Int32).toInt = 0 := (by decide); omega), hF⟩) d_1_20_48
