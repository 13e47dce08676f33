/-! the class on a fresh object: argument -/
theorem d_9_3_0 : decode prog_9_method_3_code 0 = .ok (.aload_n 0, 1) := by decide +kernel
theorem d_9_3_1 : decode prog_9_method_3_code 1 = .ok (.getfield 67, 3) := by decide +kernel
theorem w_384 : (Cond.fieldLink "NumberHouse$Printer" (67 : Nat) "NumberHouse$Printer" "count" "I") ∈ q_tbl := q_of 384 (by decide +kernel) (by decide +kernel)
theorem d_9_3_4 : decode prog_9_method_3_code 4 = .ok (.bipush 9, 2) := by decide +kernel
theorem d_9_3_6 : decode prog_9_method_3_code 6 = .ok (.if_icmp .ge 44, 3) := by decide +kernel
theorem d_9_3_9 : decode prog_9_method_3_code 9 = .ok (.aload_n 0, 1) := by decide +kernel
theorem d_9_3_10 : decode prog_9_method_3_code 10 = .ok (.getfield 11, 3) := by decide +kernel
theorem d_9_3_13 : decode prog_9_method_3_code 13 = .ok (.aload_n 0, 1) := by decide +kernel
theorem d_9_3_14 : decode prog_9_method_3_code 14 = .ok (.getfield 67, 3) := by decide +kernel
theorem d_9_3_17 : decode prog_9_method_3_code 17 = .ok (.iload_n 1, 1) := by decide +kernel
theorem d_9_3_18 : decode prog_9_method_3_code 18 = .ok (.iastore, 1) := by decide +kernel
theorem d_9_3_19 : decode prog_9_method_3_code 19 = .ok (.aload_n 0, 1) := by decide +kernel
theorem d_9_3_20 : decode prog_9_method_3_code 20 = .ok (.getfield 15, 3) := by decide +kernel
theorem d_9_3_23 : decode prog_9_method_3_code 23 = .ok (.aload_n 0, 1) := by decide +kernel
theorem d_9_3_24 : decode prog_9_method_3_code 24 = .ok (.getfield 67, 3) := by decide +kernel
theorem d_9_3_27 : decode prog_9_method_3_code 27 = .ok (.lload_n 2, 1) := by decide +kernel
theorem d_9_3_28 : decode prog_9_method_3_code 28 = .ok (.lastore, 1) := by decide +kernel
theorem d_9_3_29 : decode prog_9_method_3_code 29 = .ok (.aload_n 0, 1) := by decide +kernel
theorem d_9_3_30 : decode prog_9_method_3_code 30 = .ok (.getfield 19, 3) := by decide +kernel
theorem d_9_3_33 : decode prog_9_method_3_code 33 = .ok (.aload_n 0, 1) := by decide +kernel
theorem d_9_3_34 : decode prog_9_method_3_code 34 = .ok (.getfield 67, 3) := by decide +kernel
theorem d_9_3_37 : decode prog_9_method_3_code 37 = .ok (.iload 4, 2) := by decide +kernel
theorem d_9_3_39 : decode prog_9_method_3_code 39 = .ok (.iastore, 1) := by decide +kernel
theorem d_9_3_40 : decode prog_9_method_3_code 40 = .ok (.aload_n 0, 1) := by decide +kernel
theorem d_9_3_41 : decode prog_9_method_3_code 41 = .ok (.dup, 1) := by decide +kernel
theorem d_9_3_42 : decode prog_9_method_3_code 42 = .ok (.getfield 67, 3) := by decide +kernel
theorem d_9_3_45 : decode prog_9_method_3_code 45 = .ok (.iconst 1, 1) := by decide +kernel
theorem d_9_3_46 : decode prog_9_method_3_code 46 = .ok (.iadd, 1) := by decide +kernel
theorem d_9_3_47 : decode prog_9_method_3_code 47 = .ok (.putfield 67, 3) := by decide +kernel
theorem d_9_3_50 : decode prog_9_method_3_code 50 = .ok (.return_, 1) := by decide +kernel
def y_Pri_addNumber : MethodName := ⟨"NumberHouse$Printer", "addNumber", "(IJI)V"⟩
set_option maxRecDepth 100000 in
set_option maxHeartbeats 4000000 in
theorem c_Pri_addNumber (l : Launch) (D : va_G) (g : Nat → ClassId) (ws : va_W) (kO0 kA1 kA2 kA3 qO0 qA1 qA2 qA3 qA4 qO5 qO6 qO7 qO8 : Nat) (hO0 : ws[kO0]? = (some (qO0, .inr (11, [.int 0, .ref qA1, .ref qA2, .ref qA3, .ref qA4, .ref qO5, .ref qO6, .ref qO7, .ref qO8, .int 0, .int 0, .int 0])) : Option (Nat × va_E))) (hA1 : ws[kA1]? = (some (qA1, .inl (g 0, 9, .inl (fun _ => 0))) : Option (Nat × va_E))) (hA2 : ws[kA2]? = (some (qA2, .inl (g 1, 9, .inr (.inl (fun _ => 0)))) : Option (Nat × va_E))) (hA3 : ws[kA3]? = (some (qA3, .inl (g 0, 9, .inl (fun _ => 0))) : Option (Nat × va_E))) (n_A1_A2 : kA1 ≠ kA2) (n_A1_A3 : kA1 ≠ kA3) (n_A2_A3 : kA2 ≠ kA3) : q_mV l y_Pri_addNumber prog_9_method_3_code 5 1 0 0 D g [.ref qO0, .int 3, .long 0, .int 0] ws (fun u => q_un ws u [kO0, kA1, kA2, kA3] ∧ u[kO0]? = (some (qO0, .inr (11, [.int 1, .ref qA1, .ref qA2, .ref qA3, .ref qA4, .ref qO5, .ref qO6, .ref qO7, .ref qO8, .int 0, .int 0, .int 0])) : Option (Nat × va_E)) ∧ u[kA1]? = (some (qA1, .inl (g 0, 9, .inl (upd (fun _ => 0) 0 3))) : Option (Nat × va_E)) ∧ u[kA2]? = (some (qA2, .inl (g 1, 9, .inr (.inl (fun _ => 0)))) : Option (Nat × va_E)) ∧ u[kA3]? = (some (qA3, .inl (g 0, 9, .inl (fun _ => 0))) : Option (Nat × va_E))) := by
  intro sz
  refine q_into (by decide) (Nat.le_of_ble_eq_true rfl) ?_
  intro p e s m below meth c ls hsz C0 V hl
  have hx := C0.1
  have hb := C0.2.1
  have hl : lv_has ls 5 [(0, .ref qO0), (1, .int 3), (2, .long 0), (4, .int 0)] := hl
  have n_A1_O0 := q_df hA1 hO0
  have n_A2_A1 := Ne.symm n_A1_A2
  have n_A2_O0 := q_df hA2 hO0
  have n_A3_A1 := Ne.symm n_A1_A3
  have n_A3_A2 := Ne.symm n_A2_A3
  have n_A3_O0 := q_df hA3 hO0
  have n_O0_A1 := Ne.symm (q_df hA1 hO0)
  have n_O0_A2 := Ne.symm (q_df hA2 hO0)
  have n_O0_A3 := Ne.symm (q_df hA3 hO0)
  have hF : q_un ws ws [kO0, kA1, kA2, kA3] := q_u0
  refine lv_aload_n hx hb d_9_3_0 rfl (lv_at hl 0 rfl) ?_
  refine q_get (ci := 11) (j := 0) (v := .int 0) C0 V i_Pri rfl rfl hO0 (by decide) w_384 rfl d_9_3_1 ?_
  refine lv_bipush (v := 9) hx hb d_9_3_4 (by decide) ?_
  refine lv_icmp_ge (tgt := 50) hx hb d_9_3_6 (by decide) (fun c1 => absurd c1 (by decide)) (fun c1 => ?_)
  refine lv_aload_n hx hb d_9_3_9 rfl (lv_at hl 0 rfl) ?_
  refine q_get (ci := 11) (j := 1) (v := .ref qA1) C0 V i_Pri rfl rfl hO0 (by decide) w_386 rfl d_9_3_10 ?_
  refine lv_aload_n hx hb d_9_3_13 rfl (lv_at hl 0 rfl) ?_
  refine q_get (ci := 11) (j := 0) (v := .int 0) C0 V i_Pri rfl rfl hO0 (by decide) w_384 rfl d_9_3_14 ?_
  refine lv_iload_n hx hb d_9_3_17 rfl (lv_at hl 1 rfl) ?_
  refine q_iast C0 V hA1 (by unfold vp_in; decide) d_9_3_18 (fun H locs w2 hu3 hA1 V => ?_)
  replace hA1 : w2[kA1]? = (some (qA1, .inl (g 0, 9, .inl (upd (fun _ => 0) 0 3))) : Option (Nat × va_E)) := hA1
  replace hF := q_us hF hu3 (.tail _ (.head _))
  refine lv_aload_n hx hb d_9_3_19 rfl (lv_at hl 0 rfl) ?_
  replace hO0 := (hu3 _ n_O0_A1).trans (hO0)
  refine q_get (ci := 11) (j := 2) (v := .ref qA2) C0 V i_Pri rfl rfl hO0 (by decide) w_387 rfl d_9_3_20 ?_
  refine lv_aload_n hx hb d_9_3_23 rfl (lv_at hl 0 rfl) ?_
  refine q_get (ci := 11) (j := 0) (v := .int 0) C0 V i_Pri rfl rfl hO0 (by decide) w_384 rfl d_9_3_24 ?_
  refine lv_lload_n hx hb d_9_3_27 rfl (lv_at hl 2 rfl) ?_
  replace hA2 := (hu3 _ n_A2_A1).trans (hA2)
  refine q_last C0 V hA2 (by unfold vp_in; decide) d_9_3_28 (fun H locs w4 hu5 hA2 V => ?_)
  replace hA2 := q_re (y := (qA2, .inl (g 1, 9, .inr (.inl (fun _ => 0))))) hA2 (q_eL q_updL0)
  replace hA2 : w4[kA2]? = (some (qA2, .inl (g 1, 9, .inr (.inl (fun _ => 0)))) : Option (Nat × va_E)) := hA2
  replace hF := q_us hF hu5 (.tail _ (.tail _ (.head _)))
  refine lv_aload_n hx hb d_9_3_29 rfl (lv_at hl 0 rfl) ?_
  replace hO0 := (hu5 _ n_O0_A2).trans (hO0)
  refine q_get (ci := 11) (j := 3) (v := .ref qA3) C0 V i_Pri rfl rfl hO0 (by decide) w_388 rfl d_9_3_30 ?_
  refine lv_aload_n hx hb d_9_3_33 rfl (lv_at hl 0 rfl) ?_
  refine q_get (ci := 11) (j := 0) (v := .int 0) C0 V i_Pri rfl rfl hO0 (by decide) w_384 rfl d_9_3_34 ?_
  refine lv_iload hx hb d_9_3_37 (lv_at hl 3 rfl) ?_
  replace hA3 := (hu5 _ n_A3_A2).trans ((hu3 _ n_A3_A1).trans (hA3))
  refine q_iast C0 V hA3 (by unfold vp_in; decide) d_9_3_39 (fun H locs w6 hu7 hA3 V => ?_)
  replace hA3 := q_re (y := (qA3, .inl (g 0, 9, .inl (fun _ => 0)))) hA3 (q_eI q_upd0)
  replace hA3 : w6[kA3]? = (some (qA3, .inl (g 0, 9, .inl (fun _ => 0))) : Option (Nat × va_E)) := hA3
  replace hF := q_us hF hu7 (List.mem_of_getElem? (i := 3) rfl)
  refine lv_aload_n hx hb d_9_3_40 rfl (lv_at hl 0 rfl) ?_
  refine lv_dup hx hb d_9_3_41 rfl ?_
  replace hO0 := (hu7 _ n_O0_A3).trans (hO0)
  refine q_get (ci := 11) (j := 0) (v := .int 0) C0 V i_Pri rfl rfl hO0 (by decide) w_384 rfl d_9_3_42 ?_
  refine lv_iconst (v := 1) hx hb d_9_3_45 (by decide) ?_
  refine lv_iadd hx hb d_9_3_46 ?_
  refine q_ti (v := 1) (by decide) ?_
  refine q_put (ci := 11) (j := 0) (v := .int 1) (ty := .int) C0 V i_Pri o_Pri n_Pri rfl rfl hO0 (by decide) w_384 rfl rfl rfl rfl (Nat.le_of_ble_eq_true rfl) d_9_3_47 (fun H locs w8 hu9 hO0 V => ?_)
  replace hO0 : w8[kO0]? = (some (qO0, .inr (11, [.int 1, .ref qA1, .ref qA2, .ref qA3, .ref qA4, .ref qO5, .ref qO6, .ref qO7, .ref qO8, .int 0, .int 0, .int 0])) : Option (Nat × va_E)) := hO0
  replace hF := q_us hF hu9 (.head _)
  replace hA1 := (hu9 _ n_A1_O0).trans ((hu7 _ n_A1_A3).trans ((hu5 _ n_A1_A2).trans (hA1)))
  replace hA2 := (hu9 _ n_A2_O0).trans ((hu7 _ n_A2_A3).trans (hA2))
  replace hA3 := (hu9 _ n_A3_O0).trans (hA3)
  exact q_retv C0 V (⟨hF, hO0, hA1, hA2, hA3⟩) d_9_3_50
theorem d_1_22_0 : decode prog_1_method_22_code 0 = .ok (.iload_n 1, 1) := by decide +kernel
theorem d_1_22_1 : decode prog_1_method_22_code 1 = .ok (.ifCond .ne 24, 3) := by decide +kernel
theorem d_1_22_4 : decode prog_1_method_22_code 4 = .ok (.aload_n 0, 1) := by decide +kernel
theorem d_1_22_5 : decode prog_1_method_22_code 5 = .ok (.getfield 98, 3) := by decide +kernel
theorem d_1_22_8 : decode prog_1_method_22_code 8 = .ok (.iconst 3, 1) := by decide +kernel
theorem d_1_22_9 : decode prog_1_method_22_code 9 = .ok (.aload_n 0, 1) := by decide +kernel
theorem d_1_22_10 : decode prog_1_method_22_code 10 = .ok (.getfield 23, 3) := by decide +kernel
theorem d_1_22_13 : decode prog_1_method_22_code 13 = .ok (.iload_n 2, 1) := by decide +kernel
theorem d_1_22_14 : decode prog_1_method_22_code 14 = .ok (.aaload, 1) := by decide +kernel
theorem d_1_22_15 : decode prog_1_method_22_code 15 = .ok (.invokevirtual 370, 3) := by decide +kernel
theorem d_1_22_18 : decode prog_1_method_22_code 18 = .ok (.iconst 0, 1) := by decide +kernel
theorem d_1_22_19 : decode prog_1_method_22_code 19 = .ok (.invokevirtual 374, 3) := by decide +kernel
theorem w_1711 : (Cond.code ({ cls := "NumberHouse$Printer", name := "addNumber", desc := "(IJI)V" } : MethodName) prog_9_method_3_code (5 : Nat) (none : Option ClassFile.FieldType)) ∈ q_tbl := q_of 1711 (by decide +kernel) (by decide +kernel)
theorem w_1708 : (Cond.methodLink "NumberHouse" (374 : Nat) ({ cls := "NumberHouse$Printer", name := "addNumber", desc := "(IJI)V" } : MethodName)) ∈ q_tbl := q_of 1708 (by decide +kernel) (by decide +kernel)
theorem w_1709 : (Cond.instanceMethod ({ cls := "NumberHouse$Printer", name := "addNumber", desc := "(IJI)V" } : MethodName)) ∈ q_tbl := q_of 1709 (by decide +kernel) (by decide +kernel)
theorem w_1710 : (Cond.selects "NumberHouse$Printer" ({ cls := "NumberHouse$Printer", name := "addNumber", desc := "(IJI)V" } : MethodName) ({ cls := "NumberHouse$Printer", name := "addNumber", desc := "(IJI)V" } : MethodName)) ∈ q_tbl := q_of 1710 (by decide +kernel) (by decide +kernel)
theorem LV_NH_374 : q_LV "NumberHouse" 374 y_Pri_addNumber prog_9_method_3_code 5 none 3 := ⟨w_1711, w_12, w_1708, w_1709, w_1710, ⟨by decide, by decide, by decide +kernel⟩⟩
theorem d_1_22_22 : decode prog_1_method_22_code 22 = .ok (.goto 118, 3) := by decide +kernel
theorem d_1_22_140 : decode prog_1_method_22_code 140 = .ok (.return_, 1) := by decide +kernel
def y_NH_addArgument : MethodName := ⟨"NumberHouse", "addArgument", "(II)V"⟩
set_option maxRecDepth 100000 in
set_option maxHeartbeats 4000000 in
theorem c_NH_addArgument (l : Launch) (D : va_G) (g : Nat → ClassId) (ws : va_W) ( qO0 qO1 qO2 qA3 qA4 qA5 qA6 qO7 qO8 qO9 qO10 qO11 qO12 qO13 qO14 qA29 qA30 qA31 qA32 qO33 qO34 : Nat) (x1 : Int32) (f2 : Nat → Option Nat) (hO0 : ws[0]? = (some (qO0, .inr (0, [.ref qO1, .ref qO2, .ref qA3, .ref qA4, .ref qA5, .ref qA6, .ref qO7, .ref qO8, .ref qO9, .ref qO10, .ref qO11, .ref qO12, .ref qO13, .ref qO14])) : Option (Nat × va_E))) (hA3 : ws[5]? = (some (qA3, .inl (g 4, 10, .inr (.inr (.inr (.inr f2))))) : Option (Nat × va_E))) (hO14 : ws[40]? = (some (qO14, .inr (11, [.int 0, .ref qA29, .ref qA30, .ref qA31, .ref qA32, .ref qO1, .ref qO33, .ref qO11, .ref qO34, .int 0, .int 0, .int 0])) : Option (Nat × va_E))) (hA29 : ws[41]? = (some (qA29, .inl (g 0, 9, .inl (fun _ => 0))) : Option (Nat × va_E))) (hA30 : ws[42]? = (some (qA30, .inl (g 1, 9, .inr (.inl (fun _ => 0)))) : Option (Nat × va_E))) (hA31 : ws[43]? = (some (qA31, .inl (g 0, 9, .inl (fun _ => 0))) : Option (Nat × va_E))) (x1lo : 0 ≤ x1) (x1hi : x1 ≤ 9) (qW qWL qD qDN qDL : Nat → Nat) (hfW : ∀ i, i < 10 → f2 i = some (qW i)) (FW : ∀ i, i < 10 → ws[66 + 5 * i]? = (some (qW i, .inr (2, [.ref (qWL i), .int 0, .int 0])) : Option (Nat × va_E))) (FWL : ∀ i, i < 10 → ws[67 + 5 * i]? = (some (qWL i, .inl (g 0, 68, .inl (fun _ => 0))) : Option (Nat × va_E))) : q_mV l y_NH_addArgument prog_1_method_22_code 3 3 0 0 D g [.ref qO0, .int 0, .int x1] ws (fun u => q_un ws u [40, 41, 42, 43] ∧ u[40]? = (some (qO14, .inr (11, [.int 1, .ref qA29, .ref qA30, .ref qA31, .ref qA32, .ref qO1, .ref qO33, .ref qO11, .ref qO34, .int 0, .int 0, .int 0])) : Option (Nat × va_E)) ∧ u[41]? = (some (qA29, .inl (g 0, 9, .inl (upd (fun _ => 0) 0 3))) : Option (Nat × va_E)) ∧ u[42]? = (some (qA30, .inl (g 1, 9, .inr (.inl (fun _ => 0)))) : Option (Nat × va_E)) ∧ u[43]? = (some (qA31, .inl (g 0, 9, .inl (fun _ => 0))) : Option (Nat × va_E))) := by
  intro sz
  refine q_into (by decide) (Nat.le_of_ble_eq_true rfl) ?_
  intro p e s m below meth c ls hsz C0 V hl
  have hx := C0.1
  have hb := C0.2.1
  have hl : lv_has ls 3 [(0, .ref qO0), (1, .int 0), (2, .int x1)] := hl
  have hF : q_un ws ws [40, 41, 42, 43] := q_u0
  refine lv_iload_n hx hb d_1_22_0 rfl (lv_at hl 1 rfl) ?_
  refine lv_if_ne (tgt := 25) hx hb d_1_22_1 (by decide) (fun c1 => absurd (by decide) c1) (fun c1 => ?_)
  refine lv_aload_n hx hb d_1_22_4 rfl (lv_at hl 0 rfl) ?_
  refine q_get (ci := 0) (j := 13) (v := .ref qO14) C0 V i_NH rfl rfl hO0 (by decide) w_437 rfl d_1_22_5 ?_
  refine lv_iconst (v := 3) hx hb d_1_22_8 (by decide) ?_
  refine lv_aload_n hx hb d_1_22_9 rfl (lv_at hl 0 rfl) ?_
  refine q_get (ci := 0) (j := 2) (v := .ref qA3) C0 V i_NH rfl rfl hO0 (by decide) w_426 rfl d_1_22_10 ?_
  refine lv_iload_n hx hb d_1_22_13 rfl (lv_at hl 2 rfl) ?_
  have r2 : x1.toNatClampNeg < 10 := (q_r10 (x := x1.toInt) rfl (by have t1 : 0 ≤ x1.toInt := q_leI x1lo; have t2 : x1.toInt ≤ 9 := q_leI x1hi; omega) (by have t1 : 0 ≤ x1.toInt := q_leI x1lo; have t2 : x1.toInt ≤ 9 := q_leI x1hi; omega))
  have hr3 : ws[66 + 5 * x1.toNatClampNeg]? = (some (qW x1.toNatClampNeg, .inr (2, [.ref (qWL x1.toNatClampNeg), .int 0, .int 0])) : Option (Nat × va_E)) := FW _ r2
  have hr4 : ws[67 + 5 * x1.toNatClampNeg]? = (some (qWL x1.toNatClampNeg, .inl (g 0, 68, .inl (fun _ => 0))) : Option (Nat × va_E)) := FWL _ r2
  have hh : x1.toNatClampNeg < 10 := (q_r10 (x := x1.toInt) rfl (by have t1 : 0 ≤ x1.toInt := q_leI x1lo; have t2 : x1.toInt ≤ 9 := q_leI x1hi; omega) (by have t1 : 0 ≤ x1.toInt := q_leI x1lo; have t2 : x1.toInt ≤ 9 := q_leI x1hi; omega))
  refine q_aald (t := 4) (q := qW x1.toNatClampNeg) C0 V hA3 rfl (q_ix (x := x1.toInt) rfl (by have t1 : 0 ≤ x1.toInt := q_leI x1lo; have t2 : x1.toInt ≤ 9 := q_leI x1hi; omega) (by have t1 : 0 ≤ x1.toInt := q_leI x1lo; have t2 : x1.toInt ≤ 9 := q_leI x1hi; omega)) (hfW _ hh) d_1_22_14 ?_
  refine q_gol V (q_runV (As := []) (rest := [.int 3, .ref qO14]) (d := 2) (mc := 0) (ms := 0) (ci := 2) C0 V rfl LV_NH_370 (c_Big_toLong l D g ws (66 + 5 * x1.toNatClampNeg) (qW x1.toNatClampNeg) (qWL x1.toNatClampNeg) hr3 _) rfl rfl hr3 rfl hl.1 rfl (Nat.le_of_ble_eq_true rfl) ⟨by decide, by decide⟩ ⟨Nat.le_of_ble_eq_true rfl, Nat.le_of_ble_eq_true rfl⟩ d_1_22_15) (fun v7 u6 H locs hp5 V => ?_)
  obtain ⟨rfl, rfl⟩ := hp5
  refine lv_iconst (v := 0) hx hb d_1_22_18 (by decide) ?_
  refine q_gov V (q_runV (As := [.int 3, .long 0, .int 0]) (rest := []) (d := 1) (mc := 0) (ms := 0) (ci := 11) C0 V rfl LV_NH_374 (c_Pri_addNumber l D g ws 40 41 42 43 qO14 qA29 qA30 qA31 qA32 qO1 qO33 qO11 qO34 hO14 hA29 hA30 hA31 (q_pd 41 42 rfl) (q_pd 41 43 rfl) (q_pd 42 43 rfl) _) rfl rfl hO14 rfl hl.1 rfl (Nat.le_of_ble_eq_true rfl) ⟨by decide, by decide⟩ ⟨Nat.le_of_ble_eq_true rfl, Nat.le_of_ble_eq_true rfl⟩ d_1_22_19) (fun u10 H locs hp9 V => ?_)
  obtain ⟨hg11, hO14, hA29, hA30, hA31⟩ := hp9
  replace hF := q_uc hF hg11 (q_sc (.head _) (q_sc (.tail _ (.head _)) (q_sc (.tail _ (.tail _ (.head _))) (q_sc (List.mem_of_getElem? (i := 3) rfl) (fun _ h => absurd h List.not_mem_nil)))))
  refine lv_goto (tgt := 140) hx hb d_1_22_22 (by decide) ?_
  exact q_retv C0 V (⟨hF, hO14, hA29, hA30, hA31⟩) d_1_22_140
theorem d_9_2_0 : decode prog_9_method_2_code 0 = .ok (.aload_n 1, 1) := by decide +kernel
theorem d_9_2_1 : decode prog_9_method_2_code 1 = .ok (.getfield 51, 3) := by decide +kernel
theorem w_172 : (Cond.fieldLink "NumberHouse$Printer" (51 : Nat) "NumberHouse$Dec" "number" "LNumberHouse$Big;") ∈ q_tbl := q_of 172 (by decide +kernel) (by decide +kernel)
theorem d_9_2_4 : decode prog_9_method_2_code 4 = .ok (.invokevirtual 57, 3) := by decide +kernel
theorem w_1681 : (Cond.code ({ cls := "NumberHouse$Big", name := "fitsLong", desc := "()Z" } : MethodName) prog_2_method_11_code (1 : Nat) (some .boolean)) ∈ q_tbl := q_of 1681 (by decide +kernel) (by decide +kernel)
theorem w_1687 : (Cond.methodLink "NumberHouse$Printer" (57 : Nat) ({ cls := "NumberHouse$Big", name := "fitsLong", desc := "()Z" } : MethodName)) ∈ q_tbl := q_of 1687 (by decide +kernel) (by decide +kernel)
theorem w_1679 : (Cond.instanceMethod ({ cls := "NumberHouse$Big", name := "fitsLong", desc := "()Z" } : MethodName)) ∈ q_tbl := q_of 1679 (by decide +kernel) (by decide +kernel)
theorem w_1680 : (Cond.selects "NumberHouse$Big" ({ cls := "NumberHouse$Big", name := "fitsLong", desc := "()Z" } : MethodName) ({ cls := "NumberHouse$Big", name := "fitsLong", desc := "()Z" } : MethodName)) ∈ q_tbl := q_of 1680 (by decide +kernel) (by decide +kernel)
theorem LV_Pri_57 : q_LV "NumberHouse$Printer" 57 y_Big_fitsLong prog_2_method_11_code 1 (some .boolean) 0 := ⟨w_1681, w_4, w_1687, w_1679, w_1680, ⟨by decide, by decide, by decide +kernel⟩⟩
theorem d_9_2_7 : decode prog_9_method_2_code 7 = .ok (.ifCond .eq 23, 3) := by decide +kernel
theorem d_9_2_10 : decode prog_9_method_2_code 10 = .ok (.aload_n 1, 1) := by decide +kernel
theorem d_9_2_11 : decode prog_9_method_2_code 11 = .ok (.getfield 63, 3) := by decide +kernel
theorem w_175 : (Cond.fieldLink "NumberHouse$Printer" (63 : Nat) "NumberHouse$Dec" "scale" "I") ∈ q_tbl := q_of 175 (by decide +kernel) (by decide +kernel)
theorem d_9_2_14 : decode prog_9_method_2_code 14 = .ok (.ifCond .lt 16, 3) := by decide +kernel
theorem d_9_2_17 : decode prog_9_method_2_code 17 = .ok (.aload_n 1, 1) := by decide +kernel
theorem d_9_2_18 : decode prog_9_method_2_code 18 = .ok (.getfield 63, 3) := by decide +kernel
theorem d_9_2_21 : decode prog_9_method_2_code 21 = .ok (.bipush 40, 2) := by decide +kernel
theorem d_9_2_23 : decode prog_9_method_2_code 23 = .ok (.if_icmp .gt 7, 3) := by decide +kernel
theorem d_9_2_26 : decode prog_9_method_2_code 26 = .ok (.iconst 1, 1) := by decide +kernel
theorem d_9_2_27 : decode prog_9_method_2_code 27 = .ok (.goto 4, 3) := by decide +kernel
theorem d_9_2_31 : decode prog_9_method_2_code 31 = .ok (.ireturn, 1) := by decide +kernel
def y_Pri_canTake : MethodName := ⟨"NumberHouse$Printer", "canTake", "(LNumberHouse$Dec;)Z"⟩
set_option maxRecDepth 100000 in
set_option maxHeartbeats 4000000 in
theorem c_Pri_canTake (l : Launch) (D : va_G) (g : Nat → ClassId) (ws : va_W) (kO1 kO10 qO0 qO1 qO10 qA23 : Nat) (hO1 : ws[kO1]? = (some (qO1, .inr (3, [.ref qO10, .int 0, .int 1])) : Option (Nat × va_E))) (hO10 : ws[kO10]? = (some (qO10, .inr (2, [.ref qA23, .int 0, .int 0])) : Option (Nat × va_E))) : q_mI l y_Pri_canTake prog_9_method_2_code 2 (.boolean) 4 0 0 D g [.ref qO0, .ref qO1] ws (fun r u => 1 = r ∧ ws = u) := by
  intro sz
  refine q_into (by decide) (Nat.le_of_ble_eq_true rfl) ?_
  intro p e s m below meth c ls hsz C0 V hl
  have hx := C0.1
  have hb := C0.2.1
  have hl : lv_has ls 2 [(0, .ref qO0), (1, .ref qO1)] := hl
  refine lv_aload_n hx hb d_9_2_0 rfl (lv_at hl 1 rfl) ?_
  refine q_get (ci := 3) (j := 0) (v := .ref qO10) C0 V i_Dec rfl rfl hO1 (by decide) w_172 rfl d_9_2_1 ?_
  refine q_goi V (q_runV (As := []) (rest := []) (d := 3) (mc := 0) (ms := 0) (ci := 2) C0 V rfl LV_Pri_57 (c_Big_fitsLong l D g ws kO10 qO10 qA23 hO10 _) rfl rfl hO10 rfl hl.1 rfl (Nat.le_of_ble_eq_true rfl) ⟨by decide, by decide⟩ ⟨Nat.le_of_ble_eq_true rfl, Nat.le_of_ble_eq_true rfl⟩ d_9_2_4) (fun v3 u2 H locs hp1 V => ?_)
  obtain ⟨rfl, rfl⟩ := hp1
  refine lv_if_eq (tgt := 30) hx hb d_9_2_7 (by decide) (fun c5 => absurd c5 (by decide)) (fun c5 => ?_)
  refine lv_aload_n hx hb d_9_2_10 rfl (lv_at hl 1 rfl) ?_
  refine q_get (ci := 3) (j := 1) (v := .int 0) C0 V i_Dec rfl rfl hO1 (by decide) w_175 rfl d_9_2_11 ?_
  refine lv_if_lt (tgt := 30) hx hb d_9_2_14 (by decide) (fun c6 => absurd c6 (by decide)) (fun c6 => ?_)
  refine lv_aload_n hx hb d_9_2_17 rfl (lv_at hl 1 rfl) ?_
  refine q_get (ci := 3) (j := 1) (v := .int 0) C0 V i_Dec rfl rfl hO1 (by decide) w_175 rfl d_9_2_18 ?_
  refine lv_bipush (v := 40) hx hb d_9_2_21 (by decide) ?_
  refine lv_icmp_gt (tgt := 30) hx hb d_9_2_23 (by decide) (fun c7 => absurd c7 (by decide)) (fun c7 => ?_)
  refine lv_iconst (v := 1) hx hb d_9_2_26 (by decide) ?_
  refine lv_goto (tgt := 31) hx hb d_9_2_27 (by decide) ?_
  exact q_retz C0 V (rfl) (⟨rfl, rfl⟩) d_9_2_31
set_option maxRecDepth 100000 in
set_option maxHeartbeats 4000000 in
theorem c_Pri_addNumber_2 (l : Launch) (D : va_G) (g : Nat → ClassId) (ws : va_W) (kO0 kA1 kA2 kA3 qO0 qA1 qA2 qA3 qA4 qO5 qO6 qO7 qO8 : Nat) (hO0 : ws[kO0]? = (some (qO0, .inr (11, [.int 0, .ref qA1, .ref qA2, .ref qA3, .ref qA4, .ref qO5, .ref qO6, .ref qO7, .ref qO8, .int 0, .int 0, .int 0])) : Option (Nat × va_E))) (hA1 : ws[kA1]? = (some (qA1, .inl (g 0, 9, .inl (fun _ => 0))) : Option (Nat × va_E))) (hA2 : ws[kA2]? = (some (qA2, .inl (g 1, 9, .inr (.inl (fun _ => 0)))) : Option (Nat × va_E))) (hA3 : ws[kA3]? = (some (qA3, .inl (g 0, 9, .inl (fun _ => 0))) : Option (Nat × va_E))) (n_A1_A2 : kA1 ≠ kA2) (n_A1_A3 : kA1 ≠ kA3) (n_A2_A3 : kA2 ≠ kA3) : q_mV l y_Pri_addNumber prog_9_method_3_code 5 1 0 0 D g [.ref qO0, .int 5, .long 0, .int 0] ws (fun u => q_un ws u [kO0, kA1, kA2, kA3] ∧ u[kO0]? = (some (qO0, .inr (11, [.int 1, .ref qA1, .ref qA2, .ref qA3, .ref qA4, .ref qO5, .ref qO6, .ref qO7, .ref qO8, .int 0, .int 0, .int 0])) : Option (Nat × va_E)) ∧ u[kA1]? = (some (qA1, .inl (g 0, 9, .inl (upd (fun _ => 0) 0 5))) : Option (Nat × va_E)) ∧ u[kA2]? = (some (qA2, .inl (g 1, 9, .inr (.inl (fun _ => 0)))) : Option (Nat × va_E)) ∧ u[kA3]? = (some (qA3, .inl (g 0, 9, .inl (fun _ => 0))) : Option (Nat × va_E))) := by
  intro sz
  refine q_into (by decide) (Nat.le_of_ble_eq_true rfl) ?_
  intro p e s m below meth c ls hsz C0 V hl
  have hx := C0.1
  have hb := C0.2.1
  have hl : lv_has ls 5 [(0, .ref qO0), (1, .int 5), (2, .long 0), (4, .int 0)] := hl
  have n_A1_O0 := q_df hA1 hO0
  have n_A2_A1 := Ne.symm n_A1_A2
  have n_A2_O0 := q_df hA2 hO0
  have n_A3_A1 := Ne.symm n_A1_A3
  have n_A3_A2 := Ne.symm n_A2_A3
  have n_A3_O0 := q_df hA3 hO0
  have n_O0_A1 := Ne.symm (q_df hA1 hO0)
  have n_O0_A2 := Ne.symm (q_df hA2 hO0)
  have n_O0_A3 := Ne.symm (q_df hA3 hO0)
  have hF : q_un ws ws [kO0, kA1, kA2, kA3] := q_u0
  refine lv_aload_n hx hb d_9_3_0 rfl (lv_at hl 0 rfl) ?_
  refine q_get (ci := 11) (j := 0) (v := .int 0) C0 V i_Pri rfl rfl hO0 (by decide) w_384 rfl d_9_3_1 ?_
  refine lv_bipush (v := 9) hx hb d_9_3_4 (by decide) ?_
  refine lv_icmp_ge (tgt := 50) hx hb d_9_3_6 (by decide) (fun c1 => absurd c1 (by decide)) (fun c1 => ?_)
  refine lv_aload_n hx hb d_9_3_9 rfl (lv_at hl 0 rfl) ?_
  refine q_get (ci := 11) (j := 1) (v := .ref qA1) C0 V i_Pri rfl rfl hO0 (by decide) w_386 rfl d_9_3_10 ?_
  refine lv_aload_n hx hb d_9_3_13 rfl (lv_at hl 0 rfl) ?_
  refine q_get (ci := 11) (j := 0) (v := .int 0) C0 V i_Pri rfl rfl hO0 (by decide) w_384 rfl d_9_3_14 ?_
  refine lv_iload_n hx hb d_9_3_17 rfl (lv_at hl 1 rfl) ?_
  refine q_iast C0 V hA1 (by unfold vp_in; decide) d_9_3_18 (fun H locs w2 hu3 hA1 V => ?_)
  replace hA1 : w2[kA1]? = (some (qA1, .inl (g 0, 9, .inl (upd (fun _ => 0) 0 5))) : Option (Nat × va_E)) := hA1
  replace hF := q_us hF hu3 (.tail _ (.head _))
  refine lv_aload_n hx hb d_9_3_19 rfl (lv_at hl 0 rfl) ?_
  replace hO0 := (hu3 _ n_O0_A1).trans (hO0)
  refine q_get (ci := 11) (j := 2) (v := .ref qA2) C0 V i_Pri rfl rfl hO0 (by decide) w_387 rfl d_9_3_20 ?_
  refine lv_aload_n hx hb d_9_3_23 rfl (lv_at hl 0 rfl) ?_
  refine q_get (ci := 11) (j := 0) (v := .int 0) C0 V i_Pri rfl rfl hO0 (by decide) w_384 rfl d_9_3_24 ?_
  refine lv_lload_n hx hb d_9_3_27 rfl (lv_at hl 2 rfl) ?_
  replace hA2 := (hu3 _ n_A2_A1).trans (hA2)
  refine q_last C0 V hA2 (by unfold vp_in; decide) d_9_3_28 (fun H locs w4 hu5 hA2 V => ?_)
  replace hA2 := q_re (y := (qA2, .inl (g 1, 9, .inr (.inl (fun _ => 0))))) hA2 (q_eL q_updL0)
  replace hA2 : w4[kA2]? = (some (qA2, .inl (g 1, 9, .inr (.inl (fun _ => 0)))) : Option (Nat × va_E)) := hA2
  replace hF := q_us hF hu5 (.tail _ (.tail _ (.head _)))
  refine lv_aload_n hx hb d_9_3_29 rfl (lv_at hl 0 rfl) ?_
  replace hO0 := (hu5 _ n_O0_A2).trans (hO0)
  refine q_get (ci := 11) (j := 3) (v := .ref qA3) C0 V i_Pri rfl rfl hO0 (by decide) w_388 rfl d_9_3_30 ?_
  refine lv_aload_n hx hb d_9_3_33 rfl (lv_at hl 0 rfl) ?_
  refine q_get (ci := 11) (j := 0) (v := .int 0) C0 V i_Pri rfl rfl hO0 (by decide) w_384 rfl d_9_3_34 ?_
  refine lv_iload hx hb d_9_3_37 (lv_at hl 3 rfl) ?_
  replace hA3 := (hu5 _ n_A3_A2).trans ((hu3 _ n_A3_A1).trans (hA3))
  refine q_iast C0 V hA3 (by unfold vp_in; decide) d_9_3_39 (fun H locs w6 hu7 hA3 V => ?_)
  replace hA3 := q_re (y := (qA3, .inl (g 0, 9, .inl (fun _ => 0)))) hA3 (q_eI q_upd0)
  replace hA3 : w6[kA3]? = (some (qA3, .inl (g 0, 9, .inl (fun _ => 0))) : Option (Nat × va_E)) := hA3
  replace hF := q_us hF hu7 (List.mem_of_getElem? (i := 3) rfl)
  refine lv_aload_n hx hb d_9_3_40 rfl (lv_at hl 0 rfl) ?_
  refine lv_dup hx hb d_9_3_41 rfl ?_
  replace hO0 := (hu7 _ n_O0_A3).trans (hO0)
  refine q_get (ci := 11) (j := 0) (v := .int 0) C0 V i_Pri rfl rfl hO0 (by decide) w_384 rfl d_9_3_42 ?_
  refine lv_iconst (v := 1) hx hb d_9_3_45 (by decide) ?_
  refine lv_iadd hx hb d_9_3_46 ?_
  refine q_ti (v := 1) (by decide) ?_
  refine q_put (ci := 11) (j := 0) (v := .int 1) (ty := .int) C0 V i_Pri o_Pri n_Pri rfl rfl hO0 (by decide) w_384 rfl rfl rfl rfl (Nat.le_of_ble_eq_true rfl) d_9_3_47 (fun H locs w8 hu9 hO0 V => ?_)
  replace hO0 : w8[kO0]? = (some (qO0, .inr (11, [.int 1, .ref qA1, .ref qA2, .ref qA3, .ref qA4, .ref qO5, .ref qO6, .ref qO7, .ref qO8, .int 0, .int 0, .int 0])) : Option (Nat × va_E)) := hO0
  replace hF := q_us hF hu9 (.head _)
  replace hA1 := (hu9 _ n_A1_O0).trans ((hu7 _ n_A1_A3).trans ((hu5 _ n_A1_A2).trans (hA1)))
  replace hA2 := (hu9 _ n_A2_O0).trans ((hu7 _ n_A2_A3).trans (hA2))
  replace hA3 := (hu9 _ n_A3_O0).trans (hA3)
  exact q_retv C0 V (⟨hF, hO0, hA1, hA2, hA3⟩) d_9_3_50
theorem d_1_22_25 : decode prog_1_method_22_code 25 = .ok (.iload_n 1, 1) := by decide +kernel
theorem d_1_22_26 : decode prog_1_method_22_code 26 = .ok (.iconst 1, 1) := by decide +kernel
theorem d_1_22_27 : decode prog_1_method_22_code 27 = .ok (.if_icmp .ne 35, 3) := by decide +kernel
theorem d_1_22_30 : decode prog_1_method_22_code 30 = .ok (.aload_n 0, 1) := by decide +kernel
theorem d_1_22_31 : decode prog_1_method_22_code 31 = .ok (.getfield 98, 3) := by decide +kernel
theorem d_1_22_34 : decode prog_1_method_22_code 34 = .ok (.iconst 5, 1) := by decide +kernel
theorem d_1_22_35 : decode prog_1_method_22_code 35 = .ok (.aload_n 0, 1) := by decide +kernel
theorem d_1_22_36 : decode prog_1_method_22_code 36 = .ok (.getfield 29, 3) := by decide +kernel
theorem d_1_22_39 : decode prog_1_method_22_code 39 = .ok (.iload_n 2, 1) := by decide +kernel
theorem d_1_22_40 : decode prog_1_method_22_code 40 = .ok (.aaload, 1) := by decide +kernel
theorem d_1_22_41 : decode prog_1_method_22_code 41 = .ok (.getfield 277, 3) := by decide +kernel
theorem d_1_22_44 : decode prog_1_method_22_code 44 = .ok (.invokevirtual 370, 3) := by decide +kernel
theorem d_1_22_47 : decode prog_1_method_22_code 47 = .ok (.aload_n 0, 1) := by decide +kernel
theorem d_1_22_48 : decode prog_1_method_22_code 48 = .ok (.getfield 29, 3) := by decide +kernel
theorem d_1_22_51 : decode prog_1_method_22_code 51 = .ok (.iload_n 2, 1) := by decide +kernel
theorem d_1_22_52 : decode prog_1_method_22_code 52 = .ok (.aaload, 1) := by decide +kernel
theorem d_1_22_53 : decode prog_1_method_22_code 53 = .ok (.getfield 378, 3) := by decide +kernel
theorem d_1_22_56 : decode prog_1_method_22_code 56 = .ok (.invokevirtual 374, 3) := by decide +kernel
theorem d_1_22_59 : decode prog_1_method_22_code 59 = .ok (.goto 81, 3) := by decide +kernel
set_option maxRecDepth 100000 in
set_option maxHeartbeats 4000000 in
theorem c_NH_addArgument_2 (l : Launch) (D : va_G) (g : Nat → ClassId) (ws : va_W) ( qO0 qO1 qO2 qA3 qA4 qA5 qA6 qO7 qO8 qO9 qO10 qO11 qO12 qO13 qO14 qA29 qA30 qA31 qA32 qO33 qO34 : Nat) (x1 : Int32) (f3 : Nat → Option Nat) (hO0 : ws[0]? = (some (qO0, .inr (0, [.ref qO1, .ref qO2, .ref qA3, .ref qA4, .ref qA5, .ref qA6, .ref qO7, .ref qO8, .ref qO9, .ref qO10, .ref qO11, .ref qO12, .ref qO13, .ref qO14])) : Option (Nat × va_E))) (hA4 : ws[6]? = (some (qA4, .inl (g 5, 10, .inr (.inr (.inr (.inr f3))))) : Option (Nat × va_E))) (hO14 : ws[40]? = (some (qO14, .inr (11, [.int 0, .ref qA29, .ref qA30, .ref qA31, .ref qA32, .ref qO1, .ref qO33, .ref qO11, .ref qO34, .int 0, .int 0, .int 0])) : Option (Nat × va_E))) (hA29 : ws[41]? = (some (qA29, .inl (g 0, 9, .inl (fun _ => 0))) : Option (Nat × va_E))) (hA30 : ws[42]? = (some (qA30, .inl (g 1, 9, .inr (.inl (fun _ => 0)))) : Option (Nat × va_E))) (hA31 : ws[43]? = (some (qA31, .inl (g 0, 9, .inl (fun _ => 0))) : Option (Nat × va_E))) (x1lo : 0 ≤ x1) (x1hi : x1 ≤ 9) (qW qWL qD qDN qDL : Nat → Nat) (hfD : ∀ i, i < 10 → f3 i = some (qD i)) (FD : ∀ i, i < 10 → ws[68 + 5 * i]? = (some (qD i, .inr (3, [.ref (qDN i), .int 0, .int 1])) : Option (Nat × va_E))) (FDN : ∀ i, i < 10 → ws[69 + 5 * i]? = (some (qDN i, .inr (2, [.ref (qDL i), .int 0, .int 0])) : Option (Nat × va_E))) (FDL : ∀ i, i < 10 → ws[70 + 5 * i]? = (some (qDL i, .inl (g 0, 108, .inl (fun _ => 0))) : Option (Nat × va_E))) : q_mV l y_NH_addArgument prog_1_method_22_code 3 3 0 0 D g [.ref qO0, .int 1, .int x1] ws (fun u => q_un ws u [40, 41, 42, 43] ∧ u[40]? = (some (qO14, .inr (11, [.int 1, .ref qA29, .ref qA30, .ref qA31, .ref qA32, .ref qO1, .ref qO33, .ref qO11, .ref qO34, .int 0, .int 0, .int 0])) : Option (Nat × va_E)) ∧ u[41]? = (some (qA29, .inl (g 0, 9, .inl (upd (fun _ => 0) 0 5))) : Option (Nat × va_E)) ∧ u[42]? = (some (qA30, .inl (g 1, 9, .inr (.inl (fun _ => 0)))) : Option (Nat × va_E)) ∧ u[43]? = (some (qA31, .inl (g 0, 9, .inl (fun _ => 0))) : Option (Nat × va_E))) := by
  intro sz
  refine q_into (by decide) (Nat.le_of_ble_eq_true rfl) ?_
  intro p e s m below meth c ls hsz C0 V hl
  have hx := C0.1
  have hb := C0.2.1
  have hl : lv_has ls 3 [(0, .ref qO0), (1, .int 1), (2, .int x1)] := hl
  have hF : q_un ws ws [40, 41, 42, 43] := q_u0
  refine lv_iload_n hx hb d_1_22_0 rfl (lv_at hl 1 rfl) ?_
  refine lv_if_ne (tgt := 25) hx hb d_1_22_1 (by decide) (fun c1 => ?_) (fun c1 => absurd c1 (by decide))
  refine lv_iload_n hx hb d_1_22_25 rfl (lv_at hl 1 rfl) ?_
  refine lv_iconst (v := 1) hx hb d_1_22_26 (by decide) ?_
  refine lv_icmp_ne (tgt := 62) hx hb d_1_22_27 (by decide) (fun c2 => absurd (by decide) c2) (fun c2 => ?_)
  refine lv_aload_n hx hb d_1_22_30 rfl (lv_at hl 0 rfl) ?_
  refine q_get (ci := 0) (j := 13) (v := .ref qO14) C0 V i_NH rfl rfl hO0 (by decide) w_437 rfl d_1_22_31 ?_
  refine lv_iconst (v := 5) hx hb d_1_22_34 (by decide) ?_
  refine lv_aload_n hx hb d_1_22_35 rfl (lv_at hl 0 rfl) ?_
  refine q_get (ci := 0) (j := 3) (v := .ref qA4) C0 V i_NH rfl rfl hO0 (by decide) w_427 rfl d_1_22_36 ?_
  refine lv_iload_n hx hb d_1_22_39 rfl (lv_at hl 2 rfl) ?_
  have r3 : x1.toNatClampNeg < 10 := (q_r10 (x := x1.toInt) rfl (by have t1 : 0 ≤ x1.toInt := q_leI x1lo; have t2 : x1.toInt ≤ 9 := q_leI x1hi; omega) (by have t1 : 0 ≤ x1.toInt := q_leI x1lo; have t2 : x1.toInt ≤ 9 := q_leI x1hi; omega))
  have hr4 : ws[68 + 5 * x1.toNatClampNeg]? = (some (qD x1.toNatClampNeg, .inr (3, [.ref (qDN x1.toNatClampNeg), .int 0, .int 1])) : Option (Nat × va_E)) := FD _ r3
  have hr5 : ws[69 + 5 * x1.toNatClampNeg]? = (some (qDN x1.toNatClampNeg, .inr (2, [.ref (qDL x1.toNatClampNeg), .int 0, .int 0])) : Option (Nat × va_E)) := FDN _ r3
  have hr6 : ws[70 + 5 * x1.toNatClampNeg]? = (some (qDL x1.toNatClampNeg, .inl (g 0, 108, .inl (fun _ => 0))) : Option (Nat × va_E)) := FDL _ r3
  have hh : x1.toNatClampNeg < 10 := (q_r10 (x := x1.toInt) rfl (by have t1 : 0 ≤ x1.toInt := q_leI x1lo; have t2 : x1.toInt ≤ 9 := q_leI x1hi; omega) (by have t1 : 0 ≤ x1.toInt := q_leI x1lo; have t2 : x1.toInt ≤ 9 := q_leI x1hi; omega))
  refine q_aald (t := 5) (q := qD x1.toNatClampNeg) C0 V hA4 rfl (q_ix (x := x1.toInt) rfl (by have t1 : 0 ≤ x1.toInt := q_leI x1lo; have t2 : x1.toInt ≤ 9 := q_leI x1hi; omega) (by have t1 : 0 ≤ x1.toInt := q_leI x1lo; have t2 : x1.toInt ≤ 9 := q_leI x1hi; omega)) (hfD _ hh) d_1_22_40 ?_
  refine q_get (ci := 3) (j := 0) (v := .ref (qDN x1.toNatClampNeg)) C0 V i_Dec rfl rfl hr4 (by decide) w_174 rfl d_1_22_41 ?_
  refine q_gol V (q_runV (As := []) (rest := [.int 5, .ref qO14]) (d := 2) (mc := 0) (ms := 0) (ci := 2) C0 V rfl LV_NH_370 (c_Big_toLong l D g ws (69 + 5 * x1.toNatClampNeg) (qDN x1.toNatClampNeg) (qDL x1.toNatClampNeg) hr5 _) rfl rfl hr5 rfl hl.1 rfl (Nat.le_of_ble_eq_true rfl) ⟨by decide, by decide⟩ ⟨Nat.le_of_ble_eq_true rfl, Nat.le_of_ble_eq_true rfl⟩ d_1_22_44) (fun v9 u8 H locs hp7 V => ?_)
  obtain ⟨rfl, rfl⟩ := hp7
  refine lv_aload_n hx hb d_1_22_47 rfl (lv_at hl 0 rfl) ?_
  refine q_get (ci := 0) (j := 3) (v := .ref qA4) C0 V i_NH rfl rfl hO0 (by decide) w_427 rfl d_1_22_48 ?_
  refine lv_iload_n hx hb d_1_22_51 rfl (lv_at hl 2 rfl) ?_
  have hh : x1.toNatClampNeg < 10 := (q_r10 (x := x1.toInt) rfl (by have t1 : 0 ≤ x1.toInt := q_leI x1lo; have t2 : x1.toInt ≤ 9 := q_leI x1hi; omega) (by have t1 : 0 ≤ x1.toInt := q_leI x1lo; have t2 : x1.toInt ≤ 9 := q_leI x1hi; omega))
  refine q_aald (t := 5) (q := qD x1.toNatClampNeg) C0 V hA4 rfl (q_ix (x := x1.toInt) rfl (by have t1 : 0 ≤ x1.toInt := q_leI x1lo; have t2 : x1.toInt ≤ 9 := q_leI x1hi; omega) (by have t1 : 0 ≤ x1.toInt := q_leI x1lo; have t2 : x1.toInt ≤ 9 := q_leI x1hi; omega)) (hfD _ hh) d_1_22_52 ?_
  refine q_get (ci := 3) (j := 1) (v := .int 0) C0 V i_Dec rfl rfl hr4 (by decide) w_178 rfl d_1_22_53 ?_
  refine q_gov V (q_runV (As := [.int 5, .long 0, .int 0]) (rest := []) (d := 1) (mc := 0) (ms := 0) (ci := 11) C0 V rfl LV_NH_374 (c_Pri_addNumber_2 l D g ws 40 41 42 43 qO14 qA29 qA30 qA31 qA32 qO1 qO33 qO11 qO34 hO14 hA29 hA30 hA31 (q_pd 41 42 rfl) (q_pd 41 43 rfl) (q_pd 42 43 rfl) _) rfl rfl hO14 rfl hl.1 rfl (Nat.le_of_ble_eq_true rfl) ⟨by decide, by decide⟩ ⟨Nat.le_of_ble_eq_true rfl, Nat.le_of_ble_eq_true rfl⟩ d_1_22_56) (fun u12 H locs hp11 V => ?_)
  obtain ⟨hg13, hO14, hA29, hA30, hA31⟩ := hp11
  replace hF := q_uc hF hg13 (q_sc (.head _) (q_sc (.tail _ (.head _)) (q_sc (.tail _ (.tail _ (.head _))) (q_sc (List.mem_of_getElem? (i := 3) rfl) (fun _ h => absurd h List.not_mem_nil)))))
  refine lv_goto (tgt := 140) hx hb d_1_22_59 (by decide) ?_
  exact q_retv C0 V (⟨hF, hO14, hA29, hA30, hA31⟩) d_1_22_140
set_option maxRecDepth 100000 in
set_option maxHeartbeats 4000000 in
theorem c_Pri_addNumber_3 (l : Launch) (D : va_G) (g : Nat → ClassId) (ws : va_W) (kO0 kA1 kA2 kA3 qO0 qA1 qA2 qA3 qA4 qO5 qO6 qO7 qO8 : Nat) (hO0 : ws[kO0]? = (some (qO0, .inr (11, [.int 0, .ref qA1, .ref qA2, .ref qA3, .ref qA4, .ref qO5, .ref qO6, .ref qO7, .ref qO8, .int 0, .int 0, .int 0])) : Option (Nat × va_E))) (hA1 : ws[kA1]? = (some (qA1, .inl (g 0, 9, .inl (fun _ => 0))) : Option (Nat × va_E))) (hA2 : ws[kA2]? = (some (qA2, .inl (g 1, 9, .inr (.inl (fun _ => 0)))) : Option (Nat × va_E))) (hA3 : ws[kA3]? = (some (qA3, .inl (g 0, 9, .inl (fun _ => 0))) : Option (Nat × va_E))) (n_A1_A2 : kA1 ≠ kA2) (n_A1_A3 : kA1 ≠ kA3) (n_A2_A3 : kA2 ≠ kA3) : q_mV l y_Pri_addNumber prog_9_method_3_code 5 1 0 0 D g [.ref qO0, .int 1, .long 1, .int 0] ws (fun u => q_un ws u [kO0, kA1, kA2, kA3] ∧ u[kO0]? = (some (qO0, .inr (11, [.int 1, .ref qA1, .ref qA2, .ref qA3, .ref qA4, .ref qO5, .ref qO6, .ref qO7, .ref qO8, .int 0, .int 0, .int 0])) : Option (Nat × va_E)) ∧ u[kA1]? = (some (qA1, .inl (g 0, 9, .inl (upd (fun _ => 0) 0 1))) : Option (Nat × va_E)) ∧ u[kA2]? = (some (qA2, .inl (g 1, 9, .inr (.inl (vp_updL (fun _ => 0) 0 1)))) : Option (Nat × va_E)) ∧ u[kA3]? = (some (qA3, .inl (g 0, 9, .inl (fun _ => 0))) : Option (Nat × va_E))) := by
  intro sz
  refine q_into (by decide) (Nat.le_of_ble_eq_true rfl) ?_
  intro p e s m below meth c ls hsz C0 V hl
  have hx := C0.1
  have hb := C0.2.1
  have hl : lv_has ls 5 [(0, .ref qO0), (1, .int 1), (2, .long 1), (4, .int 0)] := hl
  have n_A1_O0 := q_df hA1 hO0
  have n_A2_A1 := Ne.symm n_A1_A2
  have n_A2_O0 := q_df hA2 hO0
  have n_A3_A1 := Ne.symm n_A1_A3
  have n_A3_A2 := Ne.symm n_A2_A3
  have n_A3_O0 := q_df hA3 hO0
  have n_O0_A1 := Ne.symm (q_df hA1 hO0)
  have n_O0_A2 := Ne.symm (q_df hA2 hO0)
  have n_O0_A3 := Ne.symm (q_df hA3 hO0)
  have hF : q_un ws ws [kO0, kA1, kA2, kA3] := q_u0
  refine lv_aload_n hx hb d_9_3_0 rfl (lv_at hl 0 rfl) ?_
  refine q_get (ci := 11) (j := 0) (v := .int 0) C0 V i_Pri rfl rfl hO0 (by decide) w_384 rfl d_9_3_1 ?_
  refine lv_bipush (v := 9) hx hb d_9_3_4 (by decide) ?_
  refine lv_icmp_ge (tgt := 50) hx hb d_9_3_6 (by decide) (fun c1 => absurd c1 (by decide)) (fun c1 => ?_)
  refine lv_aload_n hx hb d_9_3_9 rfl (lv_at hl 0 rfl) ?_
  refine q_get (ci := 11) (j := 1) (v := .ref qA1) C0 V i_Pri rfl rfl hO0 (by decide) w_386 rfl d_9_3_10 ?_
  refine lv_aload_n hx hb d_9_3_13 rfl (lv_at hl 0 rfl) ?_
  refine q_get (ci := 11) (j := 0) (v := .int 0) C0 V i_Pri rfl rfl hO0 (by decide) w_384 rfl d_9_3_14 ?_
  refine lv_iload_n hx hb d_9_3_17 rfl (lv_at hl 1 rfl) ?_
  refine q_iast C0 V hA1 (by unfold vp_in; decide) d_9_3_18 (fun H locs w2 hu3 hA1 V => ?_)
  replace hA1 : w2[kA1]? = (some (qA1, .inl (g 0, 9, .inl (upd (fun _ => 0) 0 1))) : Option (Nat × va_E)) := hA1
  replace hF := q_us hF hu3 (.tail _ (.head _))
  refine lv_aload_n hx hb d_9_3_19 rfl (lv_at hl 0 rfl) ?_
  replace hO0 := (hu3 _ n_O0_A1).trans (hO0)
  refine q_get (ci := 11) (j := 2) (v := .ref qA2) C0 V i_Pri rfl rfl hO0 (by decide) w_387 rfl d_9_3_20 ?_
  refine lv_aload_n hx hb d_9_3_23 rfl (lv_at hl 0 rfl) ?_
  refine q_get (ci := 11) (j := 0) (v := .int 0) C0 V i_Pri rfl rfl hO0 (by decide) w_384 rfl d_9_3_24 ?_
  refine lv_lload_n hx hb d_9_3_27 rfl (lv_at hl 2 rfl) ?_
  replace hA2 := (hu3 _ n_A2_A1).trans (hA2)
  refine q_last C0 V hA2 (by unfold vp_in; decide) d_9_3_28 (fun H locs w4 hu5 hA2 V => ?_)
  replace hA2 : w4[kA2]? = (some (qA2, .inl (g 1, 9, .inr (.inl (vp_updL (fun _ => 0) 0 1)))) : Option (Nat × va_E)) := hA2
  replace hF := q_us hF hu5 (.tail _ (.tail _ (.head _)))
  refine lv_aload_n hx hb d_9_3_29 rfl (lv_at hl 0 rfl) ?_
  replace hO0 := (hu5 _ n_O0_A2).trans (hO0)
  refine q_get (ci := 11) (j := 3) (v := .ref qA3) C0 V i_Pri rfl rfl hO0 (by decide) w_388 rfl d_9_3_30 ?_
  refine lv_aload_n hx hb d_9_3_33 rfl (lv_at hl 0 rfl) ?_
  refine q_get (ci := 11) (j := 0) (v := .int 0) C0 V i_Pri rfl rfl hO0 (by decide) w_384 rfl d_9_3_34 ?_
  refine lv_iload hx hb d_9_3_37 (lv_at hl 3 rfl) ?_
  replace hA3 := (hu5 _ n_A3_A2).trans ((hu3 _ n_A3_A1).trans (hA3))
  refine q_iast C0 V hA3 (by unfold vp_in; decide) d_9_3_39 (fun H locs w6 hu7 hA3 V => ?_)
  replace hA3 := q_re (y := (qA3, .inl (g 0, 9, .inl (fun _ => 0)))) hA3 (q_eI q_upd0)
  replace hA3 : w6[kA3]? = (some (qA3, .inl (g 0, 9, .inl (fun _ => 0))) : Option (Nat × va_E)) := hA3
  replace hF := q_us hF hu7 (List.mem_of_getElem? (i := 3) rfl)
  refine lv_aload_n hx hb d_9_3_40 rfl (lv_at hl 0 rfl) ?_
  refine lv_dup hx hb d_9_3_41 rfl ?_
  replace hO0 := (hu7 _ n_O0_A3).trans (hO0)
  refine q_get (ci := 11) (j := 0) (v := .int 0) C0 V i_Pri rfl rfl hO0 (by decide) w_384 rfl d_9_3_42 ?_
  refine lv_iconst (v := 1) hx hb d_9_3_45 (by decide) ?_
  refine lv_iadd hx hb d_9_3_46 ?_
  refine q_ti (v := 1) (by decide) ?_
  refine q_put (ci := 11) (j := 0) (v := .int 1) (ty := .int) C0 V i_Pri o_Pri n_Pri rfl rfl hO0 (by decide) w_384 rfl rfl rfl rfl (Nat.le_of_ble_eq_true rfl) d_9_3_47 (fun H locs w8 hu9 hO0 V => ?_)
  replace hO0 : w8[kO0]? = (some (qO0, .inr (11, [.int 1, .ref qA1, .ref qA2, .ref qA3, .ref qA4, .ref qO5, .ref qO6, .ref qO7, .ref qO8, .int 0, .int 0, .int 0])) : Option (Nat × va_E)) := hO0
  replace hF := q_us hF hu9 (.head _)
  replace hA1 := (hu9 _ n_A1_O0).trans ((hu7 _ n_A1_A3).trans ((hu5 _ n_A1_A2).trans (hA1)))
  replace hA2 := (hu9 _ n_A2_O0).trans ((hu7 _ n_A2_A3).trans (hA2))
  replace hA3 := (hu9 _ n_A3_O0).trans (hA3)
  exact q_retv C0 V (⟨hF, hO0, hA1, hA2, hA3⟩) d_9_3_50
set_option maxRecDepth 100000 in
set_option maxHeartbeats 4000000 in
theorem c_Pri_addNumber_4 (l : Launch) (D : va_G) (g : Nat → ClassId) (ws : va_W) (kO0 kA1 kA2 kA3 qO0 qA1 qA2 qA3 qA4 qO5 qO6 qO7 qO8 : Nat) (hO0 : ws[kO0]? = (some (qO0, .inr (11, [.int 0, .ref qA1, .ref qA2, .ref qA3, .ref qA4, .ref qO5, .ref qO6, .ref qO7, .ref qO8, .int 0, .int 0, .int 0])) : Option (Nat × va_E))) (hA1 : ws[kA1]? = (some (qA1, .inl (g 0, 9, .inl (fun _ => 0))) : Option (Nat × va_E))) (hA2 : ws[kA2]? = (some (qA2, .inl (g 1, 9, .inr (.inl (fun _ => 0)))) : Option (Nat × va_E))) (hA3 : ws[kA3]? = (some (qA3, .inl (g 0, 9, .inl (fun _ => 0))) : Option (Nat × va_E))) (n_A1_A2 : kA1 ≠ kA2) (n_A1_A3 : kA1 ≠ kA3) (n_A2_A3 : kA2 ≠ kA3) : q_mV l y_Pri_addNumber prog_9_method_3_code 5 1 0 0 D g [.ref qO0, .int 1, .long 0, .int 0] ws (fun u => q_un ws u [kO0, kA1, kA2, kA3] ∧ u[kO0]? = (some (qO0, .inr (11, [.int 1, .ref qA1, .ref qA2, .ref qA3, .ref qA4, .ref qO5, .ref qO6, .ref qO7, .ref qO8, .int 0, .int 0, .int 0])) : Option (Nat × va_E)) ∧ u[kA1]? = (some (qA1, .inl (g 0, 9, .inl (upd (fun _ => 0) 0 1))) : Option (Nat × va_E)) ∧ u[kA2]? = (some (qA2, .inl (g 1, 9, .inr (.inl (fun _ => 0)))) : Option (Nat × va_E)) ∧ u[kA3]? = (some (qA3, .inl (g 0, 9, .inl (fun _ => 0))) : Option (Nat × va_E))) := by
  intro sz
  refine q_into (by decide) (Nat.le_of_ble_eq_true rfl) ?_
  intro p e s m below meth c ls hsz C0 V hl
  have hx := C0.1
  have hb := C0.2.1
  have hl : lv_has ls 5 [(0, .ref qO0), (1, .int 1), (2, .long 0), (4, .int 0)] := hl
  have n_A1_O0 := q_df hA1 hO0
  have n_A2_A1 := Ne.symm n_A1_A2
  have n_A2_O0 := q_df hA2 hO0
  have n_A3_A1 := Ne.symm n_A1_A3
  have n_A3_A2 := Ne.symm n_A2_A3
  have n_A3_O0 := q_df hA3 hO0
  have n_O0_A1 := Ne.symm (q_df hA1 hO0)
  have n_O0_A2 := Ne.symm (q_df hA2 hO0)
  have n_O0_A3 := Ne.symm (q_df hA3 hO0)
  have hF : q_un ws ws [kO0, kA1, kA2, kA3] := q_u0
  refine lv_aload_n hx hb d_9_3_0 rfl (lv_at hl 0 rfl) ?_
  refine q_get (ci := 11) (j := 0) (v := .int 0) C0 V i_Pri rfl rfl hO0 (by decide) w_384 rfl d_9_3_1 ?_
  refine lv_bipush (v := 9) hx hb d_9_3_4 (by decide) ?_
  refine lv_icmp_ge (tgt := 50) hx hb d_9_3_6 (by decide) (fun c1 => absurd c1 (by decide)) (fun c1 => ?_)
  refine lv_aload_n hx hb d_9_3_9 rfl (lv_at hl 0 rfl) ?_
  refine q_get (ci := 11) (j := 1) (v := .ref qA1) C0 V i_Pri rfl rfl hO0 (by decide) w_386 rfl d_9_3_10 ?_
  refine lv_aload_n hx hb d_9_3_13 rfl (lv_at hl 0 rfl) ?_
  refine q_get (ci := 11) (j := 0) (v := .int 0) C0 V i_Pri rfl rfl hO0 (by decide) w_384 rfl d_9_3_14 ?_
  refine lv_iload_n hx hb d_9_3_17 rfl (lv_at hl 1 rfl) ?_
  refine q_iast C0 V hA1 (by unfold vp_in; decide) d_9_3_18 (fun H locs w2 hu3 hA1 V => ?_)
  replace hA1 : w2[kA1]? = (some (qA1, .inl (g 0, 9, .inl (upd (fun _ => 0) 0 1))) : Option (Nat × va_E)) := hA1
  replace hF := q_us hF hu3 (.tail _ (.head _))
  refine lv_aload_n hx hb d_9_3_19 rfl (lv_at hl 0 rfl) ?_
  replace hO0 := (hu3 _ n_O0_A1).trans (hO0)
  refine q_get (ci := 11) (j := 2) (v := .ref qA2) C0 V i_Pri rfl rfl hO0 (by decide) w_387 rfl d_9_3_20 ?_
  refine lv_aload_n hx hb d_9_3_23 rfl (lv_at hl 0 rfl) ?_
  refine q_get (ci := 11) (j := 0) (v := .int 0) C0 V i_Pri rfl rfl hO0 (by decide) w_384 rfl d_9_3_24 ?_
  refine lv_lload_n hx hb d_9_3_27 rfl (lv_at hl 2 rfl) ?_
  replace hA2 := (hu3 _ n_A2_A1).trans (hA2)
  refine q_last C0 V hA2 (by unfold vp_in; decide) d_9_3_28 (fun H locs w4 hu5 hA2 V => ?_)
  replace hA2 := q_re (y := (qA2, .inl (g 1, 9, .inr (.inl (fun _ => 0))))) hA2 (q_eL q_updL0)
  replace hA2 : w4[kA2]? = (some (qA2, .inl (g 1, 9, .inr (.inl (fun _ => 0)))) : Option (Nat × va_E)) := hA2
  replace hF := q_us hF hu5 (.tail _ (.tail _ (.head _)))
  refine lv_aload_n hx hb d_9_3_29 rfl (lv_at hl 0 rfl) ?_
  replace hO0 := (hu5 _ n_O0_A2).trans (hO0)
  refine q_get (ci := 11) (j := 3) (v := .ref qA3) C0 V i_Pri rfl rfl hO0 (by decide) w_388 rfl d_9_3_30 ?_
  refine lv_aload_n hx hb d_9_3_33 rfl (lv_at hl 0 rfl) ?_
  refine q_get (ci := 11) (j := 0) (v := .int 0) C0 V i_Pri rfl rfl hO0 (by decide) w_384 rfl d_9_3_34 ?_
  refine lv_iload hx hb d_9_3_37 (lv_at hl 3 rfl) ?_
  replace hA3 := (hu5 _ n_A3_A2).trans ((hu3 _ n_A3_A1).trans (hA3))
  refine q_iast C0 V hA3 (by unfold vp_in; decide) d_9_3_39 (fun H locs w6 hu7 hA3 V => ?_)
  replace hA3 := q_re (y := (qA3, .inl (g 0, 9, .inl (fun _ => 0)))) hA3 (q_eI q_upd0)
  replace hA3 : w6[kA3]? = (some (qA3, .inl (g 0, 9, .inl (fun _ => 0))) : Option (Nat × va_E)) := hA3
  replace hF := q_us hF hu7 (List.mem_of_getElem? (i := 3) rfl)
  refine lv_aload_n hx hb d_9_3_40 rfl (lv_at hl 0 rfl) ?_
  refine lv_dup hx hb d_9_3_41 rfl ?_
  replace hO0 := (hu7 _ n_O0_A3).trans (hO0)
  refine q_get (ci := 11) (j := 0) (v := .int 0) C0 V i_Pri rfl rfl hO0 (by decide) w_384 rfl d_9_3_42 ?_
  refine lv_iconst (v := 1) hx hb d_9_3_45 (by decide) ?_
  refine lv_iadd hx hb d_9_3_46 ?_
  refine q_ti (v := 1) (by decide) ?_
  refine q_put (ci := 11) (j := 0) (v := .int 1) (ty := .int) C0 V i_Pri o_Pri n_Pri rfl rfl hO0 (by decide) w_384 rfl rfl rfl rfl (Nat.le_of_ble_eq_true rfl) d_9_3_47 (fun H locs w8 hu9 hO0 V => ?_)
  replace hO0 : w8[kO0]? = (some (qO0, .inr (11, [.int 1, .ref qA1, .ref qA2, .ref qA3, .ref qA4, .ref qO5, .ref qO6, .ref qO7, .ref qO8, .int 0, .int 0, .int 0])) : Option (Nat × va_E)) := hO0
  replace hF := q_us hF hu9 (.head _)
  replace hA1 := (hu9 _ n_A1_O0).trans ((hu7 _ n_A1_A3).trans ((hu5 _ n_A1_A2).trans (hA1)))
  replace hA2 := (hu9 _ n_A2_O0).trans ((hu7 _ n_A2_A3).trans (hA2))
  replace hA3 := (hu9 _ n_A3_O0).trans (hA3)
  exact q_retv C0 V (⟨hF, hO0, hA1, hA2, hA3⟩) d_9_3_50
set_option maxRecDepth 100000 in
set_option maxHeartbeats 4000000 in
theorem c_Pri_addNumber_5 (l : Launch) (D : va_G) (g : Nat → ClassId) (ws : va_W) (kO0 kA1 kA2 kA3 qO0 qA1 qA2 qA3 qA4 qO5 qO6 qO7 qO8 : Nat) (hO0 : ws[kO0]? = (some (qO0, .inr (11, [.int 0, .ref qA1, .ref qA2, .ref qA3, .ref qA4, .ref qO5, .ref qO6, .ref qO7, .ref qO8, .int 0, .int 0, .int 0])) : Option (Nat × va_E))) (hA1 : ws[kA1]? = (some (qA1, .inl (g 0, 9, .inl (fun _ => 0))) : Option (Nat × va_E))) (hA2 : ws[kA2]? = (some (qA2, .inl (g 1, 9, .inr (.inl (fun _ => 0)))) : Option (Nat × va_E))) (hA3 : ws[kA3]? = (some (qA3, .inl (g 0, 9, .inl (fun _ => 0))) : Option (Nat × va_E))) (n_A1_A2 : kA1 ≠ kA2) (n_A1_A3 : kA1 ≠ kA3) (n_A2_A3 : kA2 ≠ kA3) : q_mV l y_Pri_addNumber prog_9_method_3_code 5 1 0 0 D g [.ref qO0, .int 0, .long 0, .int 0] ws (fun u => q_un ws u [kO0, kA1, kA2, kA3] ∧ u[kO0]? = (some (qO0, .inr (11, [.int 1, .ref qA1, .ref qA2, .ref qA3, .ref qA4, .ref qO5, .ref qO6, .ref qO7, .ref qO8, .int 0, .int 0, .int 0])) : Option (Nat × va_E)) ∧ u[kA1]? = (some (qA1, .inl (g 0, 9, .inl (fun _ => 0))) : Option (Nat × va_E)) ∧ u[kA2]? = (some (qA2, .inl (g 1, 9, .inr (.inl (fun _ => 0)))) : Option (Nat × va_E)) ∧ u[kA3]? = (some (qA3, .inl (g 0, 9, .inl (fun _ => 0))) : Option (Nat × va_E))) := by
  intro sz
  refine q_into (by decide) (Nat.le_of_ble_eq_true rfl) ?_
  intro p e s m below meth c ls hsz C0 V hl
  have hx := C0.1
  have hb := C0.2.1
  have hl : lv_has ls 5 [(0, .ref qO0), (1, .int 0), (2, .long 0), (4, .int 0)] := hl
  have n_A1_O0 := q_df hA1 hO0
  have n_A2_A1 := Ne.symm n_A1_A2
  have n_A2_O0 := q_df hA2 hO0
  have n_A3_A1 := Ne.symm n_A1_A3
  have n_A3_A2 := Ne.symm n_A2_A3
  have n_A3_O0 := q_df hA3 hO0
  have n_O0_A1 := Ne.symm (q_df hA1 hO0)
  have n_O0_A2 := Ne.symm (q_df hA2 hO0)
  have n_O0_A3 := Ne.symm (q_df hA3 hO0)
  have hF : q_un ws ws [kO0, kA1, kA2, kA3] := q_u0
  refine lv_aload_n hx hb d_9_3_0 rfl (lv_at hl 0 rfl) ?_
  refine q_get (ci := 11) (j := 0) (v := .int 0) C0 V i_Pri rfl rfl hO0 (by decide) w_384 rfl d_9_3_1 ?_
  refine lv_bipush (v := 9) hx hb d_9_3_4 (by decide) ?_
  refine lv_icmp_ge (tgt := 50) hx hb d_9_3_6 (by decide) (fun c1 => absurd c1 (by decide)) (fun c1 => ?_)
  refine lv_aload_n hx hb d_9_3_9 rfl (lv_at hl 0 rfl) ?_
  refine q_get (ci := 11) (j := 1) (v := .ref qA1) C0 V i_Pri rfl rfl hO0 (by decide) w_386 rfl d_9_3_10 ?_
  refine lv_aload_n hx hb d_9_3_13 rfl (lv_at hl 0 rfl) ?_
  refine q_get (ci := 11) (j := 0) (v := .int 0) C0 V i_Pri rfl rfl hO0 (by decide) w_384 rfl d_9_3_14 ?_
  refine lv_iload_n hx hb d_9_3_17 rfl (lv_at hl 1 rfl) ?_
  refine q_iast C0 V hA1 (by unfold vp_in; decide) d_9_3_18 (fun H locs w2 hu3 hA1 V => ?_)
  replace hA1 := q_re (y := (qA1, .inl (g 0, 9, .inl (fun _ => 0)))) hA1 (q_eI q_upd0)
  replace hA1 : w2[kA1]? = (some (qA1, .inl (g 0, 9, .inl (fun _ => 0))) : Option (Nat × va_E)) := hA1
  replace hF := q_us hF hu3 (.tail _ (.head _))
  refine lv_aload_n hx hb d_9_3_19 rfl (lv_at hl 0 rfl) ?_
  replace hO0 := (hu3 _ n_O0_A1).trans (hO0)
  refine q_get (ci := 11) (j := 2) (v := .ref qA2) C0 V i_Pri rfl rfl hO0 (by decide) w_387 rfl d_9_3_20 ?_
  refine lv_aload_n hx hb d_9_3_23 rfl (lv_at hl 0 rfl) ?_
  refine q_get (ci := 11) (j := 0) (v := .int 0) C0 V i_Pri rfl rfl hO0 (by decide) w_384 rfl d_9_3_24 ?_
  refine lv_lload_n hx hb d_9_3_27 rfl (lv_at hl 2 rfl) ?_
  replace hA2 := (hu3 _ n_A2_A1).trans (hA2)
  refine q_last C0 V hA2 (by unfold vp_in; decide) d_9_3_28 (fun H locs w4 hu5 hA2 V => ?_)
  replace hA2 := q_re (y := (qA2, .inl (g 1, 9, .inr (.inl (fun _ => 0))))) hA2 (q_eL q_updL0)
  replace hA2 : w4[kA2]? = (some (qA2, .inl (g 1, 9, .inr (.inl (fun _ => 0)))) : Option (Nat × va_E)) := hA2
  replace hF := q_us hF hu5 (.tail _ (.tail _ (.head _)))
  refine lv_aload_n hx hb d_9_3_29 rfl (lv_at hl 0 rfl) ?_
  replace hO0 := (hu5 _ n_O0_A2).trans (hO0)
  refine q_get (ci := 11) (j := 3) (v := .ref qA3) C0 V i_Pri rfl rfl hO0 (by decide) w_388 rfl d_9_3_30 ?_
  refine lv_aload_n hx hb d_9_3_33 rfl (lv_at hl 0 rfl) ?_
  refine q_get (ci := 11) (j := 0) (v := .int 0) C0 V i_Pri rfl rfl hO0 (by decide) w_384 rfl d_9_3_34 ?_
  refine lv_iload hx hb d_9_3_37 (lv_at hl 3 rfl) ?_
  replace hA3 := (hu5 _ n_A3_A2).trans ((hu3 _ n_A3_A1).trans (hA3))
  refine q_iast C0 V hA3 (by unfold vp_in; decide) d_9_3_39 (fun H locs w6 hu7 hA3 V => ?_)
  replace hA3 := q_re (y := (qA3, .inl (g 0, 9, .inl (fun _ => 0)))) hA3 (q_eI q_upd0)
  replace hA3 : w6[kA3]? = (some (qA3, .inl (g 0, 9, .inl (fun _ => 0))) : Option (Nat × va_E)) := hA3
  replace hF := q_us hF hu7 (List.mem_of_getElem? (i := 3) rfl)
  refine lv_aload_n hx hb d_9_3_40 rfl (lv_at hl 0 rfl) ?_
  refine lv_dup hx hb d_9_3_41 rfl ?_
  replace hO0 := (hu7 _ n_O0_A3).trans (hO0)
  refine q_get (ci := 11) (j := 0) (v := .int 0) C0 V i_Pri rfl rfl hO0 (by decide) w_384 rfl d_9_3_42 ?_
  refine lv_iconst (v := 1) hx hb d_9_3_45 (by decide) ?_
  refine lv_iadd hx hb d_9_3_46 ?_
  refine q_ti (v := 1) (by decide) ?_
  refine q_put (ci := 11) (j := 0) (v := .int 1) (ty := .int) C0 V i_Pri o_Pri n_Pri rfl rfl hO0 (by decide) w_384 rfl rfl rfl rfl (Nat.le_of_ble_eq_true rfl) d_9_3_47 (fun H locs w8 hu9 hO0 V => ?_)
  replace hO0 : w8[kO0]? = (some (qO0, .inr (11, [.int 1, .ref qA1, .ref qA2, .ref qA3, .ref qA4, .ref qO5, .ref qO6, .ref qO7, .ref qO8, .int 0, .int 0, .int 0])) : Option (Nat × va_E)) := hO0
  replace hF := q_us hF hu9 (.head _)
  replace hA1 := (hu9 _ n_A1_O0).trans ((hu7 _ n_A1_A3).trans ((hu5 _ n_A1_A2).trans (hA1)))
  replace hA2 := (hu9 _ n_A2_O0).trans ((hu7 _ n_A2_A3).trans (hA2))
  replace hA3 := (hu9 _ n_A3_O0).trans (hA3)
  exact q_retv C0 V (⟨hF, hO0, hA1, hA2, hA3⟩) d_9_3_50
theorem d_1_22_62 : decode prog_1_method_22_code 62 = .ok (.iload_n 1, 1) := by decide +kernel
theorem d_1_22_63 : decode prog_1_method_22_code 63 = .ok (.iconst 4, 1) := by decide +kernel
theorem d_1_22_64 : decode prog_1_method_22_code 64 = .ok (.if_icmp .ne 16, 3) := by decide +kernel
theorem d_1_22_80 : decode prog_1_method_22_code 80 = .ok (.iload_n 1, 1) := by decide +kernel
theorem d_1_22_81 : decode prog_1_method_22_code 81 = .ok (.iconst 5, 1) := by decide +kernel
theorem d_1_22_82 : decode prog_1_method_22_code 82 = .ok (.if_icmp .ne 24, 3) := by decide +kernel
theorem d_1_22_85 : decode prog_1_method_22_code 85 = .ok (.aload_n 0, 1) := by decide +kernel
theorem d_1_22_86 : decode prog_1_method_22_code 86 = .ok (.getfield 98, 3) := by decide +kernel
theorem d_1_22_89 : decode prog_1_method_22_code 89 = .ok (.iconst 1, 1) := by decide +kernel
theorem d_1_22_90 : decode prog_1_method_22_code 90 = .ok (.iload_n 2, 1) := by decide +kernel
theorem d_1_22_91 : decode prog_1_method_22_code 91 = .ok (.ifCond .ne 7, 3) := by decide +kernel
theorem d_1_22_98 : decode prog_1_method_22_code 98 = .ok (.lconst 1, 1) := by decide +kernel
theorem d_1_22_99 : decode prog_1_method_22_code 99 = .ok (.iconst 0, 1) := by decide +kernel
theorem d_1_22_100 : decode prog_1_method_22_code 100 = .ok (.invokevirtual 374, 3) := by decide +kernel
theorem d_1_22_103 : decode prog_1_method_22_code 103 = .ok (.goto 37, 3) := by decide +kernel
theorem d_1_22_94 : decode prog_1_method_22_code 94 = .ok (.lconst 0, 1) := by decide +kernel
theorem d_1_22_95 : decode prog_1_method_22_code 95 = .ok (.goto 4, 3) := by decide +kernel
theorem d_1_22_67 : decode prog_1_method_22_code 67 = .ok (.aload_n 0, 1) := by decide +kernel
theorem d_1_22_68 : decode prog_1_method_22_code 68 = .ok (.getfield 98, 3) := by decide +kernel
theorem d_1_22_71 : decode prog_1_method_22_code 71 = .ok (.iconst 0, 1) := by decide +kernel
theorem d_1_22_72 : decode prog_1_method_22_code 72 = .ok (.lconst 0, 1) := by decide +kernel
theorem d_1_22_73 : decode prog_1_method_22_code 73 = .ok (.iconst 0, 1) := by decide +kernel
theorem d_1_22_74 : decode prog_1_method_22_code 74 = .ok (.invokevirtual 374, 3) := by decide +kernel
theorem d_1_22_77 : decode prog_1_method_22_code 77 = .ok (.goto 63, 3) := by decide +kernel
set_option maxRecDepth 100000 in
set_option maxHeartbeats 4000000 in
theorem c_NH_addArgument_3 (l : Launch) (D : va_G) (g : Nat → ClassId) (ws : va_W) ( qO0 qO1 qO2 qA3 qA4 qA5 qA6 qO7 qO8 qO9 qO10 qO11 qO12 qO13 qO14 qA29 qA30 qA31 qA32 qO33 qO34 : Nat) (x1 : Int32) (x2 : Int32) (hO0 : ws[0]? = (some (qO0, .inr (0, [.ref qO1, .ref qO2, .ref qA3, .ref qA4, .ref qA5, .ref qA6, .ref qO7, .ref qO8, .ref qO9, .ref qO10, .ref qO11, .ref qO12, .ref qO13, .ref qO14])) : Option (Nat × va_E))) (hO14 : ws[40]? = (some (qO14, .inr (11, [.int 0, .ref qA29, .ref qA30, .ref qA31, .ref qA32, .ref qO1, .ref qO33, .ref qO11, .ref qO34, .int 0, .int 0, .int 0])) : Option (Nat × va_E))) (hA29 : ws[41]? = (some (qA29, .inl (g 0, 9, .inl (fun _ => 0))) : Option (Nat × va_E))) (hA30 : ws[42]? = (some (qA30, .inl (g 1, 9, .inr (.inl (fun _ => 0)))) : Option (Nat × va_E))) (hA31 : ws[43]? = (some (qA31, .inl (g 0, 9, .inl (fun _ => 0))) : Option (Nat × va_E))) (x1lo : 4 ≤ x1) (x1hi : x1 ≤ 5) : q_mV l y_NH_addArgument prog_1_method_22_code 3 2 0 0 D g [.ref qO0, .int x1, .int x2] ws (fun u => (¬ x1 = 4 ∧ ¬ x2 = 0 ∧ q_un ws u [40, 41, 42, 43] ∧ u[40]? = (some (qO14, .inr (11, [.int 1, .ref qA29, .ref qA30, .ref qA31, .ref qA32, .ref qO1, .ref qO33, .ref qO11, .ref qO34, .int 0, .int 0, .int 0])) : Option (Nat × va_E)) ∧ u[41]? = (some (qA29, .inl (g 0, 9, .inl (upd (fun _ => 0) 0 1))) : Option (Nat × va_E)) ∧ u[42]? = (some (qA30, .inl (g 1, 9, .inr (.inl (vp_updL (fun _ => 0) 0 1)))) : Option (Nat × va_E)) ∧ u[43]? = (some (qA31, .inl (g 0, 9, .inl (fun _ => 0))) : Option (Nat × va_E))) ∨ (¬ x1 = 4 ∧ x2 = 0 ∧ q_un ws u [40, 41, 42, 43] ∧ u[40]? = (some (qO14, .inr (11, [.int 1, .ref qA29, .ref qA30, .ref qA31, .ref qA32, .ref qO1, .ref qO33, .ref qO11, .ref qO34, .int 0, .int 0, .int 0])) : Option (Nat × va_E)) ∧ u[41]? = (some (qA29, .inl (g 0, 9, .inl (upd (fun _ => 0) 0 1))) : Option (Nat × va_E)) ∧ u[42]? = (some (qA30, .inl (g 1, 9, .inr (.inl (fun _ => 0)))) : Option (Nat × va_E)) ∧ u[43]? = (some (qA31, .inl (g 0, 9, .inl (fun _ => 0))) : Option (Nat × va_E))) ∨ (x1 = 4 ∧ q_un ws u [40, 41, 42, 43] ∧ u[40]? = (some (qO14, .inr (11, [.int 1, .ref qA29, .ref qA30, .ref qA31, .ref qA32, .ref qO1, .ref qO33, .ref qO11, .ref qO34, .int 0, .int 0, .int 0])) : Option (Nat × va_E)) ∧ u[41]? = (some (qA29, .inl (g 0, 9, .inl (fun _ => 0))) : Option (Nat × va_E)) ∧ u[42]? = (some (qA30, .inl (g 1, 9, .inr (.inl (fun _ => 0)))) : Option (Nat × va_E)) ∧ u[43]? = (some (qA31, .inl (g 0, 9, .inl (fun _ => 0))) : Option (Nat × va_E)))) := by
  intro sz
  refine q_into (by decide) (Nat.le_of_ble_eq_true rfl) ?_
  intro p e s m below meth c ls hsz C0 V hl
  have hx := C0.1
  have hb := C0.2.1
  have hl : lv_has ls 3 [(0, .ref qO0), (1, .int x1), (2, .int x2)] := hl
  have hF : q_un ws ws [40, 41, 42, 43] := q_u0
  refine lv_iload_n hx hb d_1_22_0 rfl (lv_at hl 1 rfl) ?_
  refine lv_if_ne (tgt := 25) hx hb d_1_22_1 (by decide) (fun c1 => ?_) (fun c1 => absurd c1 (q_Ine (x := x1.toInt) (y := 0) rfl (by decide) (by have t1 : 4 ≤ x1.toInt := q_leI x1lo; have t2 : x1.toInt ≤ 5 := q_leI x1hi; omega)))
  refine lv_iload_n hx hb d_1_22_25 rfl (lv_at hl 1 rfl) ?_
  refine lv_iconst (v := 1) hx hb d_1_22_26 (by decide) ?_
  refine lv_icmp_ne (tgt := 62) hx hb d_1_22_27 (by decide) (fun c2 => ?_) (fun c2 => absurd c2 (q_Ine (x := x1.toInt) (y := 1) rfl (by decide) (by have t1 : 4 ≤ x1.toInt := q_leI x1lo; have t2 : x1.toInt ≤ 5 := q_leI x1hi; omega)))
  refine lv_iload_n hx hb d_1_22_62 rfl (lv_at hl 1 rfl) ?_
  refine lv_iconst (v := 4) hx hb d_1_22_63 (by decide) ?_
  refine lv_icmp_ne (tgt := 80) hx hb d_1_22_64 (by decide) (fun c3 => ?_) (fun c3 => ?_)
  ·
    refine lv_iload_n hx hb d_1_22_80 rfl (lv_at hl 1 rfl) ?_
    refine q_ti (v := 5) (q_Ieq (x := x1.toInt) (y := 5) rfl (by decide) (by have t1 : 4 ≤ x1.toInt := q_leI x1lo; have t2 : x1.toInt ≤ 5 := q_leI x1hi; have t3 : x1.toInt ≠ 4 := q_neI c3; omega)) ?_
    refine lv_iconst (v := 5) hx hb d_1_22_81 (by decide) ?_
    refine lv_icmp_ne (tgt := 106) hx hb d_1_22_82 (by decide) (fun c4 => absurd (by decide) c4) (fun c4 => ?_)
    refine lv_aload_n hx hb d_1_22_85 rfl (lv_at hl 0 rfl) ?_
    refine q_get (ci := 0) (j := 13) (v := .ref qO14) C0 V i_NH rfl rfl hO0 (by decide) w_437 rfl d_1_22_86 ?_
    refine lv_iconst (v := 1) hx hb d_1_22_89 (by decide) ?_
    refine lv_iload_n hx hb d_1_22_90 rfl (lv_at hl 2 rfl) ?_
    refine lv_if_ne (tgt := 98) hx hb d_1_22_91 (by decide) (fun c5 => ?_) (fun c5 => ?_)
    ·
      refine lv_lconst (v := 1) hx hb d_1_22_98 (by decide) ?_
      refine lv_iconst (v := 0) hx hb d_1_22_99 (by decide) ?_
      refine q_gov V (q_runV (As := [.int 1, .long 1, .int 0]) (rest := []) (d := 1) (mc := 0) (ms := 0) (ci := 11) C0 V rfl LV_NH_374 (c_Pri_addNumber_3 l D g ws 40 41 42 43 qO14 qA29 qA30 qA31 qA32 qO1 qO33 qO11 qO34 hO14 hA29 hA30 hA31 (q_pd 41 42 rfl) (q_pd 41 43 rfl) (q_pd 42 43 rfl) _) rfl rfl hO14 rfl hl.1 rfl (Nat.le_of_ble_eq_true rfl) ⟨by decide, by decide⟩ ⟨Nat.le_of_ble_eq_true rfl, Nat.le_of_ble_eq_true rfl⟩ d_1_22_100) (fun u7 H locs hp6 V => ?_)
      obtain ⟨hg8, hO14, hA29, hA30, hA31⟩ := hp6
      replace hF := q_uc hF hg8 (q_sc (.head _) (q_sc (.tail _ (.head _)) (q_sc (.tail _ (.tail _ (.head _))) (q_sc (List.mem_of_getElem? (i := 3) rfl) (fun _ h => absurd h List.not_mem_nil)))))
      refine lv_goto (tgt := 140) hx hb d_1_22_103 (by decide) ?_
      exact q_retv C0 V (Or.inl ⟨c3, c5, hF, hO14, hA29, hA30, hA31⟩) d_1_22_140
    ·
      refine lv_lconst (v := 0) hx hb d_1_22_94 (by decide) ?_
      refine lv_goto (tgt := 99) hx hb d_1_22_95 (by decide) ?_
      refine lv_iconst (v := 0) hx hb d_1_22_99 (by decide) ?_
      refine q_gov V (q_runV (As := [.int 1, .long 0, .int 0]) (rest := []) (d := 1) (mc := 0) (ms := 0) (ci := 11) C0 V rfl LV_NH_374 (c_Pri_addNumber_4 l D g ws 40 41 42 43 qO14 qA29 qA30 qA31 qA32 qO1 qO33 qO11 qO34 hO14 hA29 hA30 hA31 (q_pd 41 42 rfl) (q_pd 41 43 rfl) (q_pd 42 43 rfl) _) rfl rfl hO14 rfl hl.1 rfl (Nat.le_of_ble_eq_true rfl) ⟨by decide, by decide⟩ ⟨Nat.le_of_ble_eq_true rfl, Nat.le_of_ble_eq_true rfl⟩ d_1_22_100) (fun u10 H locs hp9 V => ?_)
      obtain ⟨hg11, hO14, hA29, hA30, hA31⟩ := hp9
      replace hF := q_uc hF hg11 (q_sc (.head _) (q_sc (.tail _ (.head _)) (q_sc (.tail _ (.tail _ (.head _))) (q_sc (List.mem_of_getElem? (i := 3) rfl) (fun _ h => absurd h List.not_mem_nil)))))
      refine lv_goto (tgt := 140) hx hb d_1_22_103 (by decide) ?_
      exact q_retv C0 V (Or.inr (Or.inl ⟨c3, c5, hF, hO14, hA29, hA30, hA31⟩)) d_1_22_140
  ·
    refine lv_aload_n hx hb d_1_22_67 rfl (lv_at hl 0 rfl) ?_
    refine q_get (ci := 0) (j := 13) (v := .ref qO14) C0 V i_NH rfl rfl hO0 (by decide) w_437 rfl d_1_22_68 ?_
    refine lv_iconst (v := 0) hx hb d_1_22_71 (by decide) ?_
    refine lv_lconst (v := 0) hx hb d_1_22_72 (by decide) ?_
    refine lv_iconst (v := 0) hx hb d_1_22_73 (by decide) ?_
    refine q_gov V (q_runV (As := [.int 0, .long 0, .int 0]) (rest := []) (d := 1) (mc := 0) (ms := 0) (ci := 11) C0 V rfl LV_NH_374 (c_Pri_addNumber_5 l D g ws 40 41 42 43 qO14 qA29 qA30 qA31 qA32 qO1 qO33 qO11 qO34 hO14 hA29 hA30 hA31 (q_pd 41 42 rfl) (q_pd 41 43 rfl) (q_pd 42 43 rfl) _) rfl rfl hO14 rfl hl.1 rfl (Nat.le_of_ble_eq_true rfl) ⟨by decide, by decide⟩ ⟨Nat.le_of_ble_eq_true rfl, Nat.le_of_ble_eq_true rfl⟩ d_1_22_74) (fun u13 H locs hp12 V => ?_)
    obtain ⟨hg14, hO14, hA29, hA30, hA31⟩ := hp12
    replace hF := q_uc hF hg14 (q_sc (.head _) (q_sc (.tail _ (.head _)) (q_sc (.tail _ (.tail _ (.head _))) (q_sc (List.mem_of_getElem? (i := 3) rfl) (fun _ h => absurd h List.not_mem_nil)))))
    refine lv_goto (tgt := 140) hx hb d_1_22_77 (by decide) ?_
    exact q_retv C0 V (Or.inr (Or.inr (⟨c3, hF, hO14, hA29, hA30, hA31⟩))) d_1_22_140
set_option maxRecDepth 100000 in
set_option maxHeartbeats 4000000 in
theorem c_She_clear_3 (l : Launch) (D : va_G) (g : Nat → ClassId) (ws : va_W) (kO0 qO0 qA1 : Nat) (hO0 : ws[kO0]? = (some (qO0, .inr (1, [.ref qA1, .int 64, .int 0])) : Option (Nat × va_E))) : q_mV l y_She_clear prog_11_method_2_code 1 1 0 0 D g [.ref qO0] ws (fun u => q_un ws u [kO0] ∧ u[kO0]? = (some (qO0, .inr (1, [.ref qA1, .int 64, .int 0])) : Option (Nat × va_E))) := by
  intro sz
  refine q_into (by decide) (Nat.le_of_ble_eq_true rfl) ?_
  intro p e s m below meth c ls hsz C0 V hl
  have hx := C0.1
  have hb := C0.2.1
  have hl : lv_has ls 1 [(0, .ref qO0)] := hl
  have hF : q_un ws ws [kO0] := q_u0
  refine lv_aload_n hx hb d_11_2_0 rfl (lv_at hl 0 rfl) ?_
  refine lv_iconst (v := 0) hx hb d_11_2_1 (by decide) ?_
  refine q_put (ci := 1) (j := 2) (v := .int 0) (ty := .int) C0 V i_She o_She n_She rfl rfl hO0 (by decide) w_54 rfl rfl rfl rfl (Nat.le_of_ble_eq_true rfl) d_11_2_2 (fun H locs w1 hu2 hO0 V => ?_)
  replace hO0 : w1[kO0]? = (some (qO0, .inr (1, [.ref qA1, .int 64, .int 0])) : Option (Nat × va_E)) := hO0
  replace hF := q_us hF hu2 (.head _)
  exact q_retv C0 V (⟨hF, hO0⟩) d_11_2_5
theorem d_9_16_0 : decode prog_9_method_16_code 0 = .ok (.iload_n 2, 1) := by decide +kernel
theorem d_9_16_1 : decode prog_9_method_16_code 1 = .ok (.istore 4, 2) := by decide +kernel
theorem d_9_16_3 : decode prog_9_method_16_code 3 = .ok (.iload 4, 2) := by decide +kernel
theorem d_9_16_5 : decode prog_9_method_16_code 5 = .ok (.iload_n 3, 1) := by decide +kernel
theorem d_9_16_6 : decode prog_9_method_16_code 6 = .ok (.if_icmp .ge 20, 3) := by decide +kernel
theorem d_9_16_26 : decode prog_9_method_16_code 26 = .ok (.return_, 1) := by decide +kernel
def y_Pri_copyInto : MethodName := ⟨"NumberHouse$Printer", "copyInto", "(LNumberHouse$Sheet;LNumberHouse$Sheet;II)V"⟩
set_option maxRecDepth 100000 in
set_option maxHeartbeats 4000000 in
theorem c_Pri_copyInto (l : Launch) (D : va_G) (g : Nat → ClassId) (ws : va_W) ( qO0 qO1 : Nat) : q_mV l y_Pri_copyInto prog_9_method_16_code 5 1 0 0 D g [.ref qO0, .ref qO1, .int 0, .int 0] ws (fun u => ws = u) := by
  intro sz
  refine q_into (by decide) (Nat.le_of_ble_eq_true rfl) ?_
  intro p e s m below meth c ls hsz C0 V hl
  have hx := C0.1
  have hb := C0.2.1
  have hl : lv_has ls 5 [(0, .ref qO0), (1, .ref qO1), (2, .int 0), (3, .int 0)] := hl
  refine lv_iload_n hx hb d_9_16_0 rfl (lv_at hl 2 rfl) ?_
  refine lv_istore (lv' := [(4, .int 0), (0, .ref qO0), (1, .ref qO1), (2, .int 0), (3, .int 0)]) hx hb d_9_16_1 hl (by decide) rfl (fun ls hl => ?_)
  refine lv_iload hx hb d_9_16_3 (lv_at hl 0 rfl) ?_
  refine lv_iload_n hx hb d_9_16_5 rfl (lv_at hl 4 rfl) ?_
  refine lv_icmp_ge (tgt := 26) hx hb d_9_16_6 (by decide) (fun c1 => ?_) (fun c1 => absurd (by decide) c1)
  exact q_retv C0 V (rfl) d_9_16_26
set_option maxRecDepth 100000 in
set_option maxHeartbeats 4000000 in
theorem c_Pri_addNumber_6 (l : Launch) (D : va_G) (g : Nat → ClassId) (ws : va_W) (kO0 kA1 kA2 kA3 qO0 qA1 qA2 qA3 qA4 qO5 qO6 qO7 qO8 : Nat) (hO0 : ws[kO0]? = (some (qO0, .inr (11, [.int 0, .ref qA1, .ref qA2, .ref qA3, .ref qA4, .ref qO5, .ref qO6, .ref qO7, .ref qO8, .int 0, .int 0, .int 0])) : Option (Nat × va_E))) (hA1 : ws[kA1]? = (some (qA1, .inl (g 0, 9, .inl (fun _ => 0))) : Option (Nat × va_E))) (hA2 : ws[kA2]? = (some (qA2, .inl (g 1, 9, .inr (.inl (fun _ => 0)))) : Option (Nat × va_E))) (hA3 : ws[kA3]? = (some (qA3, .inl (g 0, 9, .inl (fun _ => 0))) : Option (Nat × va_E))) (n_A1_A2 : kA1 ≠ kA2) (n_A1_A3 : kA1 ≠ kA3) (n_A2_A3 : kA2 ≠ kA3) : q_mV l y_Pri_addNumber prog_9_method_3_code 5 1 0 0 D g [.ref qO0, .int 4, .long 0, .int 0] ws (fun u => q_un ws u [kO0, kA1, kA2, kA3] ∧ u[kO0]? = (some (qO0, .inr (11, [.int 1, .ref qA1, .ref qA2, .ref qA3, .ref qA4, .ref qO5, .ref qO6, .ref qO7, .ref qO8, .int 0, .int 0, .int 0])) : Option (Nat × va_E)) ∧ u[kA1]? = (some (qA1, .inl (g 0, 9, .inl (upd (fun _ => 0) 0 4))) : Option (Nat × va_E)) ∧ u[kA2]? = (some (qA2, .inl (g 1, 9, .inr (.inl (fun _ => 0)))) : Option (Nat × va_E)) ∧ u[kA3]? = (some (qA3, .inl (g 0, 9, .inl (fun _ => 0))) : Option (Nat × va_E))) := by
  intro sz
  refine q_into (by decide) (Nat.le_of_ble_eq_true rfl) ?_
  intro p e s m below meth c ls hsz C0 V hl
  have hx := C0.1
  have hb := C0.2.1
  have hl : lv_has ls 5 [(0, .ref qO0), (1, .int 4), (2, .long 0), (4, .int 0)] := hl
  have n_A1_O0 := q_df hA1 hO0
  have n_A2_A1 := Ne.symm n_A1_A2
  have n_A2_O0 := q_df hA2 hO0
  have n_A3_A1 := Ne.symm n_A1_A3
  have n_A3_A2 := Ne.symm n_A2_A3
  have n_A3_O0 := q_df hA3 hO0
  have n_O0_A1 := Ne.symm (q_df hA1 hO0)
  have n_O0_A2 := Ne.symm (q_df hA2 hO0)
  have n_O0_A3 := Ne.symm (q_df hA3 hO0)
  have hF : q_un ws ws [kO0, kA1, kA2, kA3] := q_u0
  refine lv_aload_n hx hb d_9_3_0 rfl (lv_at hl 0 rfl) ?_
  refine q_get (ci := 11) (j := 0) (v := .int 0) C0 V i_Pri rfl rfl hO0 (by decide) w_384 rfl d_9_3_1 ?_
  refine lv_bipush (v := 9) hx hb d_9_3_4 (by decide) ?_
  refine lv_icmp_ge (tgt := 50) hx hb d_9_3_6 (by decide) (fun c1 => absurd c1 (by decide)) (fun c1 => ?_)
  refine lv_aload_n hx hb d_9_3_9 rfl (lv_at hl 0 rfl) ?_
  refine q_get (ci := 11) (j := 1) (v := .ref qA1) C0 V i_Pri rfl rfl hO0 (by decide) w_386 rfl d_9_3_10 ?_
  refine lv_aload_n hx hb d_9_3_13 rfl (lv_at hl 0 rfl) ?_
  refine q_get (ci := 11) (j := 0) (v := .int 0) C0 V i_Pri rfl rfl hO0 (by decide) w_384 rfl d_9_3_14 ?_
  refine lv_iload_n hx hb d_9_3_17 rfl (lv_at hl 1 rfl) ?_
  refine q_iast C0 V hA1 (by unfold vp_in; decide) d_9_3_18 (fun H locs w2 hu3 hA1 V => ?_)
  replace hA1 : w2[kA1]? = (some (qA1, .inl (g 0, 9, .inl (upd (fun _ => 0) 0 4))) : Option (Nat × va_E)) := hA1
  replace hF := q_us hF hu3 (.tail _ (.head _))
  refine lv_aload_n hx hb d_9_3_19 rfl (lv_at hl 0 rfl) ?_
  replace hO0 := (hu3 _ n_O0_A1).trans (hO0)
  refine q_get (ci := 11) (j := 2) (v := .ref qA2) C0 V i_Pri rfl rfl hO0 (by decide) w_387 rfl d_9_3_20 ?_
  refine lv_aload_n hx hb d_9_3_23 rfl (lv_at hl 0 rfl) ?_
  refine q_get (ci := 11) (j := 0) (v := .int 0) C0 V i_Pri rfl rfl hO0 (by decide) w_384 rfl d_9_3_24 ?_
  refine lv_lload_n hx hb d_9_3_27 rfl (lv_at hl 2 rfl) ?_
  replace hA2 := (hu3 _ n_A2_A1).trans (hA2)
  refine q_last C0 V hA2 (by unfold vp_in; decide) d_9_3_28 (fun H locs w4 hu5 hA2 V => ?_)
  replace hA2 := q_re (y := (qA2, .inl (g 1, 9, .inr (.inl (fun _ => 0))))) hA2 (q_eL q_updL0)
  replace hA2 : w4[kA2]? = (some (qA2, .inl (g 1, 9, .inr (.inl (fun _ => 0)))) : Option (Nat × va_E)) := hA2
  replace hF := q_us hF hu5 (.tail _ (.tail _ (.head _)))
  refine lv_aload_n hx hb d_9_3_29 rfl (lv_at hl 0 rfl) ?_
  replace hO0 := (hu5 _ n_O0_A2).trans (hO0)
  refine q_get (ci := 11) (j := 3) (v := .ref qA3) C0 V i_Pri rfl rfl hO0 (by decide) w_388 rfl d_9_3_30 ?_
  refine lv_aload_n hx hb d_9_3_33 rfl (lv_at hl 0 rfl) ?_
  refine q_get (ci := 11) (j := 0) (v := .int 0) C0 V i_Pri rfl rfl hO0 (by decide) w_384 rfl d_9_3_34 ?_
  refine lv_iload hx hb d_9_3_37 (lv_at hl 3 rfl) ?_
  replace hA3 := (hu5 _ n_A3_A2).trans ((hu3 _ n_A3_A1).trans (hA3))
  refine q_iast C0 V hA3 (by unfold vp_in; decide) d_9_3_39 (fun H locs w6 hu7 hA3 V => ?_)
  replace hA3 := q_re (y := (qA3, .inl (g 0, 9, .inl (fun _ => 0)))) hA3 (q_eI q_upd0)
  replace hA3 : w6[kA3]? = (some (qA3, .inl (g 0, 9, .inl (fun _ => 0))) : Option (Nat × va_E)) := hA3
  replace hF := q_us hF hu7 (List.mem_of_getElem? (i := 3) rfl)
  refine lv_aload_n hx hb d_9_3_40 rfl (lv_at hl 0 rfl) ?_
  refine lv_dup hx hb d_9_3_41 rfl ?_
  replace hO0 := (hu7 _ n_O0_A3).trans (hO0)
  refine q_get (ci := 11) (j := 0) (v := .int 0) C0 V i_Pri rfl rfl hO0 (by decide) w_384 rfl d_9_3_42 ?_
  refine lv_iconst (v := 1) hx hb d_9_3_45 (by decide) ?_
  refine lv_iadd hx hb d_9_3_46 ?_
  refine q_ti (v := 1) (by decide) ?_
  refine q_put (ci := 11) (j := 0) (v := .int 1) (ty := .int) C0 V i_Pri o_Pri n_Pri rfl rfl hO0 (by decide) w_384 rfl rfl rfl rfl (Nat.le_of_ble_eq_true rfl) d_9_3_47 (fun H locs w8 hu9 hO0 V => ?_)
  replace hO0 : w8[kO0]? = (some (qO0, .inr (11, [.int 1, .ref qA1, .ref qA2, .ref qA3, .ref qA4, .ref qO5, .ref qO6, .ref qO7, .ref qO8, .int 0, .int 0, .int 0])) : Option (Nat × va_E)) := hO0
  replace hF := q_us hF hu9 (.head _)
  replace hA1 := (hu9 _ n_A1_O0).trans ((hu7 _ n_A1_A3).trans ((hu5 _ n_A1_A2).trans (hA1)))
  replace hA2 := (hu9 _ n_A2_O0).trans ((hu7 _ n_A2_A3).trans (hA2))
  replace hA3 := (hu9 _ n_A3_O0).trans (hA3)
  exact q_retv C0 V (⟨hF, hO0, hA1, hA2, hA3⟩) d_9_3_50
theorem d_9_4_0 : decode prog_9_method_4_code 0 = .ok (.aload_n 0, 1) := by decide +kernel
theorem d_9_4_1 : decode prog_9_method_4_code 1 = .ok (.getfield 67, 3) := by decide +kernel
theorem d_9_4_4 : decode prog_9_method_4_code 4 = .ok (.bipush 9, 2) := by decide +kernel
theorem d_9_4_6 : decode prog_9_method_4_code 6 = .ok (.if_icmp .ge 46, 3) := by decide +kernel
theorem d_9_4_9 : decode prog_9_method_4_code 9 = .ok (.aload_n 0, 1) := by decide +kernel
theorem d_9_4_10 : decode prog_9_method_4_code 10 = .ok (.getfield 24, 3) := by decide +kernel
theorem d_9_4_13 : decode prog_9_method_4_code 13 = .ok (.aload_n 0, 1) := by decide +kernel
theorem d_9_4_14 : decode prog_9_method_4_code 14 = .ok (.getfield 67, 3) := by decide +kernel
theorem d_9_4_17 : decode prog_9_method_4_code 17 = .ok (.aaload, 1) := by decide +kernel
theorem d_9_4_18 : decode prog_9_method_4_code 18 = .ok (.invokevirtual 70, 3) := by decide +kernel
theorem d_9_4_21 : decode prog_9_method_4_code 21 = .ok (.aload_n 0, 1) := by decide +kernel
theorem d_9_4_22 : decode prog_9_method_4_code 22 = .ok (.getfield 24, 3) := by decide +kernel
theorem d_9_4_25 : decode prog_9_method_4_code 25 = .ok (.aload_n 0, 1) := by decide +kernel
theorem d_9_4_26 : decode prog_9_method_4_code 26 = .ok (.getfield 67, 3) := by decide +kernel
theorem d_9_4_29 : decode prog_9_method_4_code 29 = .ok (.aaload, 1) := by decide +kernel
theorem d_9_4_30 : decode prog_9_method_4_code 30 = .ok (.aload_n 0, 1) := by decide +kernel
theorem d_9_4_31 : decode prog_9_method_4_code 31 = .ok (.getfield 35, 3) := by decide +kernel
theorem d_9_4_34 : decode prog_9_method_4_code 34 = .ok (.iconst 0, 1) := by decide +kernel
theorem d_9_4_35 : decode prog_9_method_4_code 35 = .ok (.aload_n 0, 1) := by decide +kernel
theorem d_9_4_36 : decode prog_9_method_4_code 36 = .ok (.getfield 35, 3) := by decide +kernel
theorem d_9_4_39 : decode prog_9_method_4_code 39 = .ok (.getfield 73, 3) := by decide +kernel
theorem d_9_4_42 : decode prog_9_method_4_code 42 = .ok (.invokestatic 76, 3) := by decide +kernel
theorem w_1719 : (Cond.code ({ cls := "NumberHouse$Printer", name := "copyInto", desc := "(LNumberHouse$Sheet;LNumberHouse$Sheet;II)V" } : MethodName) prog_9_method_16_code (5 : Nat) (none : Option ClassFile.FieldType)) ∈ q_tbl := q_of 1719 (by decide +kernel) (by decide +kernel)
theorem w_1717 : (Cond.methodLink "NumberHouse$Printer" (76 : Nat) ({ cls := "NumberHouse$Printer", name := "copyInto", desc := "(LNumberHouse$Sheet;LNumberHouse$Sheet;II)V" } : MethodName)) ∈ q_tbl := q_of 1717 (by decide +kernel) (by decide +kernel)
theorem w_1718 : (Cond.static ({ cls := "NumberHouse$Printer", name := "copyInto", desc := "(LNumberHouse$Sheet;LNumberHouse$Sheet;II)V" } : MethodName)) ∈ q_tbl := q_of 1718 (by decide +kernel) (by decide +kernel)
theorem LS_Pri_76 : q_LS "NumberHouse$Printer" 76 y_Pri_copyInto prog_9_method_16_code 5 none 4 := ⟨w_1719, w_12, w_1717, w_1718, ⟨by decide, by decide, by decide +kernel⟩⟩
theorem d_9_4_45 : decode prog_9_method_4_code 45 = .ok (.aload_n 0, 1) := by decide +kernel
theorem d_9_4_46 : decode prog_9_method_4_code 46 = .ok (.iconst 4, 1) := by decide +kernel
theorem d_9_4_47 : decode prog_9_method_4_code 47 = .ok (.lconst 0, 1) := by decide +kernel
theorem d_9_4_48 : decode prog_9_method_4_code 48 = .ok (.iconst 0, 1) := by decide +kernel
theorem d_9_4_49 : decode prog_9_method_4_code 49 = .ok (.invokevirtual 80, 3) := by decide +kernel
theorem w_1722 : (Cond.methodLink "NumberHouse$Printer" (80 : Nat) ({ cls := "NumberHouse$Printer", name := "addNumber", desc := "(IJI)V" } : MethodName)) ∈ q_tbl := q_of 1722 (by decide +kernel) (by decide +kernel)
theorem LV_Pri_80 : q_LV "NumberHouse$Printer" 80 y_Pri_addNumber prog_9_method_3_code 5 none 3 := ⟨w_1711, w_12, w_1722, w_1709, w_1710, ⟨by decide, by decide, by decide +kernel⟩⟩
theorem d_9_4_52 : decode prog_9_method_4_code 52 = .ok (.return_, 1) := by decide +kernel
def y_Pri_addText : MethodName := ⟨"NumberHouse$Printer", "addText", "()V"⟩
set_option maxRecDepth 100000 in
set_option maxHeartbeats 4000000 in
theorem c_Pri_addText (l : Launch) (D : va_G) (g : Nat → ClassId) (ws : va_W) (kO0 kA1 kA2 kA3 kA4 kO5 kO9 qO0 qA1 qA2 qA3 qA4 qO5 qO6 qO7 qO8 qO9 qO10 qO11 qO12 qO13 qO14 qO15 qO16 qO17 qA18 qA21 : Nat) (hO0 : ws[kO0]? = (some (qO0, .inr (11, [.int 0, .ref qA1, .ref qA2, .ref qA3, .ref qA4, .ref qO5, .ref qO6, .ref qO7, .ref qO8, .int 0, .int 0, .int 0])) : Option (Nat × va_E))) (hA1 : ws[kA1]? = (some (qA1, .inl (g 0, 9, .inl (fun _ => 0))) : Option (Nat × va_E))) (hA2 : ws[kA2]? = (some (qA2, .inl (g 1, 9, .inr (.inl (fun _ => 0)))) : Option (Nat × va_E))) (hA3 : ws[kA3]? = (some (qA3, .inl (g 0, 9, .inl (fun _ => 0))) : Option (Nat × va_E))) (hA4 : ws[kA4]? = (some (qA4, .inl (g 6, 9, .inr (.inr (.inr (.inr (va_up (va_up (va_up (va_up (va_up (va_up (va_up (va_up (va_up (fun _ => none) 0 (some qO9)) 1 (some qO10)) 2 (some qO11)) 3 (some qO12)) 4 (some qO13)) 5 (some qO14)) 6 (some qO15)) 7 (some qO16)) 8 (some qO17))))))) : Option (Nat × va_E))) (hO5 : ws[kO5]? = (some (qO5, .inr (1, [.ref qA18, .int 4100, .int 0])) : Option (Nat × va_E))) (hO9 : ws[kO9]? = (some (qO9, .inr (1, [.ref qA21, .int 64, .int 0])) : Option (Nat × va_E))) (n_A1_A2 : kA1 ≠ kA2) (n_A1_A3 : kA1 ≠ kA3) (n_A2_A3 : kA2 ≠ kA3) (n_A4_A1 : kA4 ≠ kA1) (n_A4_A2 : kA4 ≠ kA2) (n_A4_A3 : kA4 ≠ kA3) (n_O5_O9 : kO5 ≠ kO9) : q_mV l y_Pri_addText prog_9_method_4_code 1 2 0 0 D g [.ref qO0] ws (fun u => q_un ws u [kO0, kA1, kA2, kA3, kO9] ∧ u[kO0]? = (some (qO0, .inr (11, [.int 1, .ref qA1, .ref qA2, .ref qA3, .ref qA4, .ref qO5, .ref qO6, .ref qO7, .ref qO8, .int 0, .int 0, .int 0])) : Option (Nat × va_E)) ∧ u[kA1]? = (some (qA1, .inl (g 0, 9, .inl (upd (fun _ => 0) 0 4))) : Option (Nat × va_E)) ∧ u[kA2]? = (some (qA2, .inl (g 1, 9, .inr (.inl (fun _ => 0)))) : Option (Nat × va_E)) ∧ u[kA3]? = (some (qA3, .inl (g 0, 9, .inl (fun _ => 0))) : Option (Nat × va_E)) ∧ u[kO9]? = (some (qO9, .inr (1, [.ref qA21, .int 64, .int 0])) : Option (Nat × va_E))) := by
  intro sz
  refine q_into (by decide) (Nat.le_of_ble_eq_true rfl) ?_
  intro p e s m below meth c ls hsz C0 V hl
  have hx := C0.1
  have hb := C0.2.1
  have hl : lv_has ls 1 [(0, .ref qO0)] := hl
  have n_A1_O9 := q_df hA1 hO9
  have n_A2_O9 := q_df hA2 hO9
  have n_A3_O9 := q_df hA3 hO9
  have n_A4_O0 := q_df hA4 hO0
  have n_A4_O9 := q_df hA4 hO9
  have n_O0_O9 := q_dc hO0 hO9 (q_pd 11 1 rfl)
  have n_O5_A1 := Ne.symm (q_df hA1 hO5)
  have n_O5_A2 := Ne.symm (q_df hA2 hO5)
  have n_O5_A3 := Ne.symm (q_df hA3 hO5)
  have n_O5_O0 := q_dc hO5 hO0 (q_pd 1 11 rfl)
  have n_O9_A1 := Ne.symm (q_df hA1 hO9)
  have n_O9_A2 := Ne.symm (q_df hA2 hO9)
  have n_O9_A3 := Ne.symm (q_df hA3 hO9)
  have n_O9_O0 := q_dc hO9 hO0 (q_pd 1 11 rfl)
  have hF : q_un ws ws [kO0, kA1, kA2, kA3, kO9] := q_u0
  refine lv_aload_n hx hb d_9_4_0 rfl (lv_at hl 0 rfl) ?_
  refine q_get (ci := 11) (j := 0) (v := .int 0) C0 V i_Pri rfl rfl hO0 (by decide) w_384 rfl d_9_4_1 ?_
  refine lv_bipush (v := 9) hx hb d_9_4_4 (by decide) ?_
  refine lv_icmp_ge (tgt := 52) hx hb d_9_4_6 (by decide) (fun c1 => absurd c1 (by decide)) (fun c1 => ?_)
  refine lv_aload_n hx hb d_9_4_9 rfl (lv_at hl 0 rfl) ?_
  refine q_get (ci := 11) (j := 4) (v := .ref qA4) C0 V i_Pri rfl rfl hO0 (by decide) w_389 rfl d_9_4_10 ?_
  refine lv_aload_n hx hb d_9_4_13 rfl (lv_at hl 0 rfl) ?_
  refine q_get (ci := 11) (j := 0) (v := .int 0) C0 V i_Pri rfl rfl hO0 (by decide) w_384 rfl d_9_4_14 ?_
  refine q_aald (t := 6) (q := qO9) C0 V hA4 rfl (by unfold vp_in; decide) (by first | rfl | decide | simp [va_up]) d_9_4_17 ?_
  refine q_gov V (q_runV (As := []) (rest := []) (d := 1) (mc := 0) (ms := 0) (ci := 1) C0 V rfl LV_Pri_70 (c_She_clear_3 l D g ws kO9 qO9 qA21 hO9 _) rfl rfl hO9 rfl hl.1 rfl (Nat.le_of_ble_eq_true rfl) ⟨by decide, by decide⟩ ⟨Nat.le_of_ble_eq_true rfl, Nat.le_of_ble_eq_true rfl⟩ d_9_4_18) (fun u3 H locs hp2 V => ?_)
  obtain ⟨hg4, hO9⟩ := hp2
  replace hF := q_uc hF hg4 (q_sc (List.mem_of_getElem? (i := 4) rfl) (fun _ h => absurd h List.not_mem_nil))
  refine lv_aload_n hx hb d_9_4_21 rfl (lv_at hl 0 rfl) ?_
  replace hO0 := (hg4 _ (q_nc n_O0_O9 List.not_mem_nil)).trans (hO0)
  refine q_get (ci := 11) (j := 4) (v := .ref qA4) C0 V i_Pri rfl rfl hO0 (by decide) w_389 rfl d_9_4_22 ?_
  refine lv_aload_n hx hb d_9_4_25 rfl (lv_at hl 0 rfl) ?_
  refine q_get (ci := 11) (j := 0) (v := .int 0) C0 V i_Pri rfl rfl hO0 (by decide) w_384 rfl d_9_4_26 ?_
  replace hA4 := (hg4 _ (q_nc n_A4_O9 List.not_mem_nil)).trans (hA4)
  refine q_aald (t := 6) (q := qO9) C0 V hA4 rfl (by unfold vp_in; decide) (by first | rfl | decide | simp [va_up]) d_9_4_29 ?_
  refine lv_aload_n hx hb d_9_4_30 rfl (lv_at hl 0 rfl) ?_
  refine q_get (ci := 11) (j := 5) (v := .ref qO5) C0 V i_Pri rfl rfl hO0 (by decide) w_390 rfl d_9_4_31 ?_
  refine lv_iconst (v := 0) hx hb d_9_4_34 (by decide) ?_
  refine lv_aload_n hx hb d_9_4_35 rfl (lv_at hl 0 rfl) ?_
  refine q_get (ci := 11) (j := 5) (v := .ref qO5) C0 V i_Pri rfl rfl hO0 (by decide) w_390 rfl d_9_4_36 ?_
  replace hO5 := (hg4 _ (q_nc n_O5_O9 List.not_mem_nil)).trans (hO5)
  refine q_get (ci := 1) (j := 2) (v := .int 0) C0 V i_She rfl rfl hO5 (by decide) w_58 rfl d_9_4_39 ?_
  refine q_gov V (q_runS (As := [.ref qO9, .ref qO5, .int 0, .int 0]) (rest := []) (d := 1) (mc := 0) (ms := 0) C0 V rfl LS_Pri_76 (c_Pri_copyInto l D g u3 qO9 qO5 _) rfl hl.1 rfl (Nat.le_of_ble_eq_true rfl) ⟨by decide, by decide⟩ ⟨Nat.le_of_ble_eq_true rfl, Nat.le_of_ble_eq_true rfl⟩ d_9_4_42) (fun u6 H locs hp5 V => ?_)
  obtain rfl := hp5
  refine lv_aload_n hx hb d_9_4_45 rfl (lv_at hl 0 rfl) ?_
  refine lv_iconst (v := 4) hx hb d_9_4_46 (by decide) ?_
  refine lv_lconst (v := 0) hx hb d_9_4_47 (by decide) ?_
  refine lv_iconst (v := 0) hx hb d_9_4_48 (by decide) ?_
  replace hA1 := (hg4 _ (q_nc n_A1_O9 List.not_mem_nil)).trans (hA1)
  replace hA2 := (hg4 _ (q_nc n_A2_O9 List.not_mem_nil)).trans (hA2)
  replace hA3 := (hg4 _ (q_nc n_A3_O9 List.not_mem_nil)).trans (hA3)
  refine q_gov V (q_runV (As := [.int 4, .long 0, .int 0]) (rest := []) (d := 1) (mc := 0) (ms := 0) (ci := 11) C0 V rfl LV_Pri_80 (c_Pri_addNumber_6 l D g u3 kO0 kA1 kA2 kA3 qO0 qA1 qA2 qA3 qA4 qO5 qO6 qO7 qO8 hO0 hA1 hA2 hA3 n_A1_A2 n_A1_A3 n_A2_A3 _) rfl rfl hO0 rfl hl.1 rfl (Nat.le_of_ble_eq_true rfl) ⟨by decide, by decide⟩ ⟨Nat.le_of_ble_eq_true rfl, Nat.le_of_ble_eq_true rfl⟩ d_9_4_49) (fun u9 H locs hp8 V => ?_)
  obtain ⟨hg10, hO0, hA1, hA2, hA3⟩ := hp8
  replace hF := q_uc hF hg10 (q_sc (.head _) (q_sc (.tail _ (.head _)) (q_sc (.tail _ (.tail _ (.head _))) (q_sc (List.mem_of_getElem? (i := 3) rfl) (fun _ h => absurd h List.not_mem_nil)))))
  replace hO9 := (hg10 _ (q_nc n_O9_O0 (q_nc n_O9_A1 (q_nc n_O9_A2 (q_nc n_O9_A3 List.not_mem_nil))))).trans (hO9)
  exact q_retv C0 V (⟨hF, hO0, hA1, hA2, hA3, hO9⟩) d_9_4_52
theorem d_1_22_106 : decode prog_1_method_22_code 106 = .ok (.iload_n 1, 1) := by decide +kernel
theorem d_1_22_107 : decode prog_1_method_22_code 107 = .ok (.bipush 6, 2) := by decide +kernel
theorem d_1_22_109 : decode prog_1_method_22_code 109 = .ok (.if_icmp .ne 17, 3) := by decide +kernel
theorem d_1_22_126 : decode prog_1_method_22_code 126 = .ok (.aload_n 0, 1) := by decide +kernel
theorem d_1_22_127 : decode prog_1_method_22_code 127 = .ok (.getfield 98, 3) := by decide +kernel
theorem d_1_22_130 : decode prog_1_method_22_code 130 = .ok (.invokevirtual 380, 3) := by decide +kernel
theorem w_1715 : (Cond.code ({ cls := "NumberHouse$Printer", name := "addText", desc := "()V" } : MethodName) prog_9_method_4_code (1 : Nat) (none : Option ClassFile.FieldType)) ∈ q_tbl := q_of 1715 (by decide +kernel) (by decide +kernel)
theorem w_1712 : (Cond.methodLink "NumberHouse" (380 : Nat) ({ cls := "NumberHouse$Printer", name := "addText", desc := "()V" } : MethodName)) ∈ q_tbl := q_of 1712 (by decide +kernel) (by decide +kernel)
theorem w_1713 : (Cond.instanceMethod ({ cls := "NumberHouse$Printer", name := "addText", desc := "()V" } : MethodName)) ∈ q_tbl := q_of 1713 (by decide +kernel) (by decide +kernel)
theorem w_1714 : (Cond.selects "NumberHouse$Printer" ({ cls := "NumberHouse$Printer", name := "addText", desc := "()V" } : MethodName) ({ cls := "NumberHouse$Printer", name := "addText", desc := "()V" } : MethodName)) ∈ q_tbl := q_of 1714 (by decide +kernel) (by decide +kernel)
theorem LV_NH_380 : q_LV "NumberHouse" 380 y_Pri_addText prog_9_method_4_code 1 none 0 := ⟨w_1715, w_12, w_1712, w_1713, w_1714, ⟨by decide, by decide, by decide +kernel⟩⟩
theorem d_1_22_133 : decode prog_1_method_22_code 133 = .ok (.aload_n 0, 1) := by decide +kernel
theorem d_1_22_134 : decode prog_1_method_22_code 134 = .ok (.getfield 14, 3) := by decide +kernel
theorem d_1_22_137 : decode prog_1_method_22_code 137 = .ok (.invokevirtual 115, 3) := by decide +kernel
set_option maxRecDepth 100000 in
set_option maxHeartbeats 4000000 in
theorem c_NH_addArgument_4 (l : Launch) (D : va_G) (g : Nat → ClassId) (ws : va_W) ( qO0 qO1 qO2 qA3 qA4 qA5 qA6 qO7 qO8 qO9 qO10 qO11 qO12 qO13 qO14 qA15 qA29 qA30 qA31 qA32 qO33 qO34 qO46 qO47 qO48 qO49 qO50 qO51 qO52 qO53 qO54 qA57 : Nat) (x1 : Int32) (hO0 : ws[0]? = (some (qO0, .inr (0, [.ref qO1, .ref qO2, .ref qA3, .ref qA4, .ref qA5, .ref qA6, .ref qO7, .ref qO8, .ref qO9, .ref qO10, .ref qO11, .ref qO12, .ref qO13, .ref qO14])) : Option (Nat × va_E))) (hO1 : ws[1]? = (some (qO1, .inr (1, [.ref qA15, .int 4100, .int 0])) : Option (Nat × va_E))) (hO14 : ws[40]? = (some (qO14, .inr (11, [.int 0, .ref qA29, .ref qA30, .ref qA31, .ref qA32, .ref qO1, .ref qO33, .ref qO11, .ref qO34, .int 0, .int 0, .int 0])) : Option (Nat × va_E))) (hA29 : ws[41]? = (some (qA29, .inl (g 0, 9, .inl (fun _ => 0))) : Option (Nat × va_E))) (hA30 : ws[42]? = (some (qA30, .inl (g 1, 9, .inr (.inl (fun _ => 0)))) : Option (Nat × va_E))) (hA31 : ws[43]? = (some (qA31, .inl (g 0, 9, .inl (fun _ => 0))) : Option (Nat × va_E))) (hA32 : ws[44]? = (some (qA32, .inl (g 6, 9, .inr (.inr (.inr (.inr (va_up (va_up (va_up (va_up (va_up (va_up (va_up (va_up (va_up (fun _ => none) 0 (some qO46)) 1 (some qO47)) 2 (some qO48)) 3 (some qO49)) 4 (some qO50)) 5 (some qO51)) 6 (some qO52)) 7 (some qO53)) 8 (some qO54))))))) : Option (Nat × va_E))) (hO46 : ws[48]? = (some (qO46, .inr (1, [.ref qA57, .int 64, .int 0])) : Option (Nat × va_E))) : q_mV l y_NH_addArgument prog_1_method_22_code 3 3 0 0 D g [.ref qO0, .int 7, .int x1] ws (fun u => q_un ws u [1, 40, 41, 42, 43, 48] ∧ u[1]? = (some (qO1, .inr (1, [.ref qA15, .int 4100, .int 0])) : Option (Nat × va_E)) ∧ u[40]? = (some (qO14, .inr (11, [.int 1, .ref qA29, .ref qA30, .ref qA31, .ref qA32, .ref qO1, .ref qO33, .ref qO11, .ref qO34, .int 0, .int 0, .int 0])) : Option (Nat × va_E)) ∧ u[41]? = (some (qA29, .inl (g 0, 9, .inl (upd (fun _ => 0) 0 4))) : Option (Nat × va_E)) ∧ u[42]? = (some (qA30, .inl (g 1, 9, .inr (.inl (fun _ => 0)))) : Option (Nat × va_E)) ∧ u[43]? = (some (qA31, .inl (g 0, 9, .inl (fun _ => 0))) : Option (Nat × va_E)) ∧ u[48]? = (some (qO46, .inr (1, [.ref qA57, .int 64, .int 0])) : Option (Nat × va_E))) := by
  intro sz
  refine q_into (by decide) (Nat.le_of_ble_eq_true rfl) ?_
  intro p e s m below meth c ls hsz C0 V hl
  have hx := C0.1
  have hb := C0.2.1
  have hl : lv_has ls 3 [(0, .ref qO0), (1, .int 7), (2, .int x1)] := hl
  have hF : q_un ws ws [1, 40, 41, 42, 43, 48] := q_u0
  refine lv_iload_n hx hb d_1_22_0 rfl (lv_at hl 1 rfl) ?_
  refine lv_if_ne (tgt := 25) hx hb d_1_22_1 (by decide) (fun c1 => ?_) (fun c1 => absurd c1 (by decide))
  refine lv_iload_n hx hb d_1_22_25 rfl (lv_at hl 1 rfl) ?_
  refine lv_iconst (v := 1) hx hb d_1_22_26 (by decide) ?_
  refine lv_icmp_ne (tgt := 62) hx hb d_1_22_27 (by decide) (fun c2 => ?_) (fun c2 => absurd c2 (by decide))
  refine lv_iload_n hx hb d_1_22_62 rfl (lv_at hl 1 rfl) ?_
  refine lv_iconst (v := 4) hx hb d_1_22_63 (by decide) ?_
  refine lv_icmp_ne (tgt := 80) hx hb d_1_22_64 (by decide) (fun c3 => ?_) (fun c3 => absurd c3 (by decide))
  refine lv_iload_n hx hb d_1_22_80 rfl (lv_at hl 1 rfl) ?_
  refine lv_iconst (v := 5) hx hb d_1_22_81 (by decide) ?_
  refine lv_icmp_ne (tgt := 106) hx hb d_1_22_82 (by decide) (fun c4 => ?_) (fun c4 => absurd c4 (by decide))
  refine lv_iload_n hx hb d_1_22_106 rfl (lv_at hl 1 rfl) ?_
  refine lv_bipush (v := 6) hx hb d_1_22_107 (by decide) ?_
  refine lv_icmp_ne (tgt := 126) hx hb d_1_22_109 (by decide) (fun c5 => ?_) (fun c5 => absurd c5 (by decide))
  refine lv_aload_n hx hb d_1_22_126 rfl (lv_at hl 0 rfl) ?_
  refine q_get (ci := 0) (j := 13) (v := .ref qO14) C0 V i_NH rfl rfl hO0 (by decide) w_437 rfl d_1_22_127 ?_
  refine q_gov V (q_runV (As := []) (rest := []) (d := 2) (mc := 0) (ms := 0) (ci := 11) C0 V rfl LV_NH_380 (c_Pri_addText l D g ws 40 41 42 43 44 1 48 qO14 qA29 qA30 qA31 qA32 qO1 qO33 qO11 qO34 qO46 qO47 qO48 qO49 qO50 qO51 qO52 qO53 qO54 qA15 qA57 hO14 hA29 hA30 hA31 hA32 hO1 hO46 (q_pd 41 42 rfl) (q_pd 41 43 rfl) (q_pd 42 43 rfl) (q_pd 44 41 rfl) (q_pd 44 42 rfl) (q_pd 44 43 rfl) (q_pd 1 48 rfl) _) rfl rfl hO14 rfl hl.1 rfl (Nat.le_of_ble_eq_true rfl) ⟨by decide, by decide⟩ ⟨Nat.le_of_ble_eq_true rfl, Nat.le_of_ble_eq_true rfl⟩ d_1_22_130) (fun u7 H locs hp6 V => ?_)
  obtain ⟨hg8, hO14, hA29, hA30, hA31, hO46⟩ := hp6
  replace hF := q_uc hF hg8 (q_sc (.tail _ (.head _)) (q_sc (.tail _ (.tail _ (.head _))) (q_sc (List.mem_of_getElem? (i := 3) rfl) (q_sc (List.mem_of_getElem? (i := 4) rfl) (q_sc (List.mem_of_getElem? (i := 5) rfl) (fun _ h => absurd h List.not_mem_nil))))))
  refine lv_aload_n hx hb d_1_22_133 rfl (lv_at hl 0 rfl) ?_
  replace hO0 := (hg8 _ (q_nc (q_pd 0 40 rfl) (q_nc (q_pd 0 41 rfl) (q_nc (q_pd 0 42 rfl) (q_nc (q_pd 0 43 rfl) (q_nc (q_pd 0 48 rfl) List.not_mem_nil)))))).trans (hO0)
  refine q_get (ci := 0) (j := 0) (v := .ref qO1) C0 V i_NH rfl rfl hO0 (by decide) w_424 rfl d_1_22_134 ?_
  replace hO1 := (hg8 _ (q_nc (q_pd 1 40 rfl) (q_nc (q_pd 1 41 rfl) (q_nc (q_pd 1 42 rfl) (q_nc (q_pd 1 43 rfl) (q_nc (q_pd 1 48 rfl) List.not_mem_nil)))))).trans (hO1)
  refine q_gov V (q_runV (As := []) (rest := []) (d := 1) (mc := 0) (ms := 0) (ci := 1) C0 V rfl LV_NH_115 (c_She_clear l D g u7 1 qO1 qA15 hO1 _) rfl rfl hO1 rfl hl.1 rfl (Nat.le_of_ble_eq_true rfl) ⟨by decide, by decide⟩ ⟨Nat.le_of_ble_eq_true rfl, Nat.le_of_ble_eq_true rfl⟩ d_1_22_137) (fun u10 H locs hp9 V => ?_)
  obtain ⟨hg11, hO1⟩ := hp9
  replace hF := q_uc hF hg11 (q_sc (.head _) (fun _ h => absurd h List.not_mem_nil))
  replace hO14 := (hg11 _ (q_nc (q_pd 40 1 rfl) List.not_mem_nil)).trans (hO14)
  replace hA29 := (hg11 _ (q_nc (q_pd 41 1 rfl) List.not_mem_nil)).trans (hA29)
  replace hA30 := (hg11 _ (q_nc (q_pd 42 1 rfl) List.not_mem_nil)).trans (hA30)
  replace hA31 := (hg11 _ (q_nc (q_pd 43 1 rfl) List.not_mem_nil)).trans (hA31)
  replace hO46 := (hg11 _ (q_nc (q_pd 48 1 rfl) List.not_mem_nil)).trans (hO46)
  exact q_retv C0 V (⟨hF, hO1, hO14, hA29, hA30, hA31, hO46⟩) d_1_22_140
set_option maxRecDepth 100000 in
set_option maxHeartbeats 4000000 in
theorem c_Pri_addNumber_7 (l : Launch) (D : va_G) (g : Nat → ClassId) (ws : va_W) (kO0 kA1 kA2 kA3 qO0 qA1 qA2 qA3 qA4 qO5 qO6 qO7 qO8 : Nat) (x1 : Int64) (hO0 : ws[kO0]? = (some (qO0, .inr (11, [.int 0, .ref qA1, .ref qA2, .ref qA3, .ref qA4, .ref qO5, .ref qO6, .ref qO7, .ref qO8, .int 0, .int 0, .int 0])) : Option (Nat × va_E))) (hA1 : ws[kA1]? = (some (qA1, .inl (g 0, 9, .inl (fun _ => 0))) : Option (Nat × va_E))) (hA2 : ws[kA2]? = (some (qA2, .inl (g 1, 9, .inr (.inl (fun _ => 0)))) : Option (Nat × va_E))) (hA3 : ws[kA3]? = (some (qA3, .inl (g 0, 9, .inl (fun _ => 0))) : Option (Nat × va_E))) (n_A1_A2 : kA1 ≠ kA2) (n_A1_A3 : kA1 ≠ kA3) (n_A2_A3 : kA2 ≠ kA3) : q_mV l y_Pri_addNumber prog_9_method_3_code 5 1 0 0 D g [.ref qO0, .int 2, .long x1, .int 0] ws (fun u => q_un ws u [kO0, kA1, kA2, kA3] ∧ u[kO0]? = (some (qO0, .inr (11, [.int 1, .ref qA1, .ref qA2, .ref qA3, .ref qA4, .ref qO5, .ref qO6, .ref qO7, .ref qO8, .int 0, .int 0, .int 0])) : Option (Nat × va_E)) ∧ u[kA1]? = (some (qA1, .inl (g 0, 9, .inl (upd (fun _ => 0) 0 2))) : Option (Nat × va_E)) ∧ u[kA2]? = (some (qA2, .inl (g 1, 9, .inr (.inl (vp_updL (fun _ => 0) 0 x1)))) : Option (Nat × va_E)) ∧ u[kA3]? = (some (qA3, .inl (g 0, 9, .inl (fun _ => 0))) : Option (Nat × va_E))) := by
  intro sz
  refine q_into (by decide) (Nat.le_of_ble_eq_true rfl) ?_
  intro p e s m below meth c ls hsz C0 V hl
  have hx := C0.1
  have hb := C0.2.1
  have hl : lv_has ls 5 [(0, .ref qO0), (1, .int 2), (2, .long x1), (4, .int 0)] := hl
  have n_A1_O0 := q_df hA1 hO0
  have n_A2_A1 := Ne.symm n_A1_A2
  have n_A2_O0 := q_df hA2 hO0
  have n_A3_A1 := Ne.symm n_A1_A3
  have n_A3_A2 := Ne.symm n_A2_A3
  have n_A3_O0 := q_df hA3 hO0
  have n_O0_A1 := Ne.symm (q_df hA1 hO0)
  have n_O0_A2 := Ne.symm (q_df hA2 hO0)
  have n_O0_A3 := Ne.symm (q_df hA3 hO0)
  have hF : q_un ws ws [kO0, kA1, kA2, kA3] := q_u0
  refine lv_aload_n hx hb d_9_3_0 rfl (lv_at hl 0 rfl) ?_
  refine q_get (ci := 11) (j := 0) (v := .int 0) C0 V i_Pri rfl rfl hO0 (by decide) w_384 rfl d_9_3_1 ?_
  refine lv_bipush (v := 9) hx hb d_9_3_4 (by decide) ?_
  refine lv_icmp_ge (tgt := 50) hx hb d_9_3_6 (by decide) (fun c1 => absurd c1 (by decide)) (fun c1 => ?_)
  refine lv_aload_n hx hb d_9_3_9 rfl (lv_at hl 0 rfl) ?_
  refine q_get (ci := 11) (j := 1) (v := .ref qA1) C0 V i_Pri rfl rfl hO0 (by decide) w_386 rfl d_9_3_10 ?_
  refine lv_aload_n hx hb d_9_3_13 rfl (lv_at hl 0 rfl) ?_
  refine q_get (ci := 11) (j := 0) (v := .int 0) C0 V i_Pri rfl rfl hO0 (by decide) w_384 rfl d_9_3_14 ?_
  refine lv_iload_n hx hb d_9_3_17 rfl (lv_at hl 1 rfl) ?_
  refine q_iast C0 V hA1 (by unfold vp_in; decide) d_9_3_18 (fun H locs w2 hu3 hA1 V => ?_)
  replace hA1 : w2[kA1]? = (some (qA1, .inl (g 0, 9, .inl (upd (fun _ => 0) 0 2))) : Option (Nat × va_E)) := hA1
  replace hF := q_us hF hu3 (.tail _ (.head _))
  refine lv_aload_n hx hb d_9_3_19 rfl (lv_at hl 0 rfl) ?_
  replace hO0 := (hu3 _ n_O0_A1).trans (hO0)
  refine q_get (ci := 11) (j := 2) (v := .ref qA2) C0 V i_Pri rfl rfl hO0 (by decide) w_387 rfl d_9_3_20 ?_
  refine lv_aload_n hx hb d_9_3_23 rfl (lv_at hl 0 rfl) ?_
  refine q_get (ci := 11) (j := 0) (v := .int 0) C0 V i_Pri rfl rfl hO0 (by decide) w_384 rfl d_9_3_24 ?_
  refine lv_lload_n hx hb d_9_3_27 rfl (lv_at hl 2 rfl) ?_
  replace hA2 := (hu3 _ n_A2_A1).trans (hA2)
  refine q_last C0 V hA2 (by unfold vp_in; decide) d_9_3_28 (fun H locs w4 hu5 hA2 V => ?_)
  replace hA2 : w4[kA2]? = (some (qA2, .inl (g 1, 9, .inr (.inl (vp_updL (fun _ => 0) 0 x1)))) : Option (Nat × va_E)) := hA2
  replace hF := q_us hF hu5 (.tail _ (.tail _ (.head _)))
  refine lv_aload_n hx hb d_9_3_29 rfl (lv_at hl 0 rfl) ?_
  replace hO0 := (hu5 _ n_O0_A2).trans (hO0)
  refine q_get (ci := 11) (j := 3) (v := .ref qA3) C0 V i_Pri rfl rfl hO0 (by decide) w_388 rfl d_9_3_30 ?_
  refine lv_aload_n hx hb d_9_3_33 rfl (lv_at hl 0 rfl) ?_
  refine q_get (ci := 11) (j := 0) (v := .int 0) C0 V i_Pri rfl rfl hO0 (by decide) w_384 rfl d_9_3_34 ?_
  refine lv_iload hx hb d_9_3_37 (lv_at hl 3 rfl) ?_
  replace hA3 := (hu5 _ n_A3_A2).trans ((hu3 _ n_A3_A1).trans (hA3))
  refine q_iast C0 V hA3 (by unfold vp_in; decide) d_9_3_39 (fun H locs w6 hu7 hA3 V => ?_)
  replace hA3 := q_re (y := (qA3, .inl (g 0, 9, .inl (fun _ => 0)))) hA3 (q_eI q_upd0)
  replace hA3 : w6[kA3]? = (some (qA3, .inl (g 0, 9, .inl (fun _ => 0))) : Option (Nat × va_E)) := hA3
  replace hF := q_us hF hu7 (List.mem_of_getElem? (i := 3) rfl)
  refine lv_aload_n hx hb d_9_3_40 rfl (lv_at hl 0 rfl) ?_
  refine lv_dup hx hb d_9_3_41 rfl ?_
  replace hO0 := (hu7 _ n_O0_A3).trans (hO0)
  refine q_get (ci := 11) (j := 0) (v := .int 0) C0 V i_Pri rfl rfl hO0 (by decide) w_384 rfl d_9_3_42 ?_
  refine lv_iconst (v := 1) hx hb d_9_3_45 (by decide) ?_
  refine lv_iadd hx hb d_9_3_46 ?_
  refine q_ti (v := 1) (by decide) ?_
  refine q_put (ci := 11) (j := 0) (v := .int 1) (ty := .int) C0 V i_Pri o_Pri n_Pri rfl rfl hO0 (by decide) w_384 rfl rfl rfl rfl (Nat.le_of_ble_eq_true rfl) d_9_3_47 (fun H locs w8 hu9 hO0 V => ?_)
  replace hO0 : w8[kO0]? = (some (qO0, .inr (11, [.int 1, .ref qA1, .ref qA2, .ref qA3, .ref qA4, .ref qO5, .ref qO6, .ref qO7, .ref qO8, .int 0, .int 0, .int 0])) : Option (Nat × va_E)) := hO0
  replace hF := q_us hF hu9 (.head _)
  replace hA1 := (hu9 _ n_A1_O0).trans ((hu7 _ n_A1_A3).trans ((hu5 _ n_A1_A2).trans (hA1)))
  replace hA2 := (hu9 _ n_A2_O0).trans ((hu7 _ n_A2_A3).trans (hA2))
  replace hA3 := (hu9 _ n_A3_O0).trans (hA3)
  exact q_retv C0 V (⟨hF, hO0, hA1, hA2, hA3⟩) d_9_3_50
theorem d_1_22_112 : decode prog_1_method_22_code 112 = .ok (.aload_n 0, 1) := by decide +kernel
theorem d_1_22_113 : decode prog_1_method_22_code 113 = .ok (.getfield 98, 3) := by decide +kernel
theorem d_1_22_116 : decode prog_1_method_22_code 116 = .ok (.iconst 2, 1) := by decide +kernel
theorem d_1_22_117 : decode prog_1_method_22_code 117 = .ok (.iload_n 2, 1) := by decide +kernel
theorem d_1_22_118 : decode prog_1_method_22_code 118 = .ok (.i2l, 1) := by decide +kernel
theorem d_1_22_119 : decode prog_1_method_22_code 119 = .ok (.iconst 0, 1) := by decide +kernel
theorem d_1_22_120 : decode prog_1_method_22_code 120 = .ok (.invokevirtual 374, 3) := by decide +kernel
theorem d_1_22_123 : decode prog_1_method_22_code 123 = .ok (.goto 17, 3) := by decide +kernel
set_option maxRecDepth 100000 in
set_option maxHeartbeats 4000000 in
theorem c_NH_addArgument_5 (l : Launch) (D : va_G) (g : Nat → ClassId) (ws : va_W) ( qO0 qO1 qO2 qA3 qA4 qA5 qA6 qO7 qO8 qO9 qO10 qO11 qO12 qO13 qO14 qA29 qA30 qA31 qA32 qO33 qO34 : Nat) (x1 : Int32) (hO0 : ws[0]? = (some (qO0, .inr (0, [.ref qO1, .ref qO2, .ref qA3, .ref qA4, .ref qA5, .ref qA6, .ref qO7, .ref qO8, .ref qO9, .ref qO10, .ref qO11, .ref qO12, .ref qO13, .ref qO14])) : Option (Nat × va_E))) (hO14 : ws[40]? = (some (qO14, .inr (11, [.int 0, .ref qA29, .ref qA30, .ref qA31, .ref qA32, .ref qO1, .ref qO33, .ref qO11, .ref qO34, .int 0, .int 0, .int 0])) : Option (Nat × va_E))) (hA29 : ws[41]? = (some (qA29, .inl (g 0, 9, .inl (fun _ => 0))) : Option (Nat × va_E))) (hA30 : ws[42]? = (some (qA30, .inl (g 1, 9, .inr (.inl (fun _ => 0)))) : Option (Nat × va_E))) (hA31 : ws[43]? = (some (qA31, .inl (g 0, 9, .inl (fun _ => 0))) : Option (Nat × va_E))) (x1lo : 0 ≤ x1) (x1hi : x1 ≤ 255) : q_mV l y_NH_addArgument prog_1_method_22_code 3 2 0 0 D g [.ref qO0, .int 6, .int x1] ws (fun u => q_un ws u [40, 41, 42, 43] ∧ u[40]? = (some (qO14, .inr (11, [.int 1, .ref qA29, .ref qA30, .ref qA31, .ref qA32, .ref qO1, .ref qO33, .ref qO11, .ref qO34, .int 0, .int 0, .int 0])) : Option (Nat × va_E)) ∧ u[41]? = (some (qA29, .inl (g 0, 9, .inl (upd (fun _ => 0) 0 2))) : Option (Nat × va_E)) ∧ u[42]? = (some (qA30, .inl (g 1, 9, .inr (.inl (vp_updL (fun _ => 0) 0 x1.toInt64)))) : Option (Nat × va_E)) ∧ u[43]? = (some (qA31, .inl (g 0, 9, .inl (fun _ => 0))) : Option (Nat × va_E))) := by
  intro sz
  refine q_into (by decide) (Nat.le_of_ble_eq_true rfl) ?_
  intro p e s m below meth c ls hsz C0 V hl
  have hx := C0.1
  have hb := C0.2.1
  have hl : lv_has ls 3 [(0, .ref qO0), (1, .int 6), (2, .int x1)] := hl
  have hF : q_un ws ws [40, 41, 42, 43] := q_u0
  refine lv_iload_n hx hb d_1_22_0 rfl (lv_at hl 1 rfl) ?_
  refine lv_if_ne (tgt := 25) hx hb d_1_22_1 (by decide) (fun c1 => ?_) (fun c1 => absurd c1 (by decide))
  refine lv_iload_n hx hb d_1_22_25 rfl (lv_at hl 1 rfl) ?_
  refine lv_iconst (v := 1) hx hb d_1_22_26 (by decide) ?_
  refine lv_icmp_ne (tgt := 62) hx hb d_1_22_27 (by decide) (fun c2 => ?_) (fun c2 => absurd c2 (by decide))
  refine lv_iload_n hx hb d_1_22_62 rfl (lv_at hl 1 rfl) ?_
  refine lv_iconst (v := 4) hx hb d_1_22_63 (by decide) ?_
  refine lv_icmp_ne (tgt := 80) hx hb d_1_22_64 (by decide) (fun c3 => ?_) (fun c3 => absurd c3 (by decide))
  refine lv_iload_n hx hb d_1_22_80 rfl (lv_at hl 1 rfl) ?_
  refine lv_iconst (v := 5) hx hb d_1_22_81 (by decide) ?_
  refine lv_icmp_ne (tgt := 106) hx hb d_1_22_82 (by decide) (fun c4 => ?_) (fun c4 => absurd c4 (by decide))
  refine lv_iload_n hx hb d_1_22_106 rfl (lv_at hl 1 rfl) ?_
  refine lv_bipush (v := 6) hx hb d_1_22_107 (by decide) ?_
  refine lv_icmp_ne (tgt := 126) hx hb d_1_22_109 (by decide) (fun c5 => absurd (by decide) c5) (fun c5 => ?_)
  refine lv_aload_n hx hb d_1_22_112 rfl (lv_at hl 0 rfl) ?_
  refine q_get (ci := 0) (j := 13) (v := .ref qO14) C0 V i_NH rfl rfl hO0 (by decide) w_437 rfl d_1_22_113 ?_
  refine lv_iconst (v := 2) hx hb d_1_22_116 (by decide) ?_
  refine lv_iload_n hx hb d_1_22_117 rfl (lv_at hl 2 rfl) ?_
  refine lv_i2l hx hb d_1_22_118 rfl ?_
  refine lv_iconst (v := 0) hx hb d_1_22_119 (by decide) ?_
  refine q_gov V (q_runV (As := [.int 2, .long x1.toInt64, .int 0]) (rest := []) (d := 1) (mc := 0) (ms := 0) (ci := 11) C0 V rfl LV_NH_374 (c_Pri_addNumber_7 l D g ws 40 41 42 43 qO14 qA29 qA30 qA31 qA32 qO1 qO33 qO11 qO34 x1.toInt64 hO14 hA29 hA30 hA31 (q_pd 41 42 rfl) (q_pd 41 43 rfl) (q_pd 42 43 rfl) _) rfl rfl hO14 rfl hl.1 rfl (Nat.le_of_ble_eq_true rfl) ⟨by decide, by decide⟩ ⟨Nat.le_of_ble_eq_true rfl, Nat.le_of_ble_eq_true rfl⟩ d_1_22_120) (fun u7 H locs hp6 V => ?_)
  obtain ⟨hg8, hO14, hA29, hA30, hA31⟩ := hp6
  replace hF := q_uc hF hg8 (q_sc (.head _) (q_sc (.tail _ (.head _)) (q_sc (.tail _ (.tail _ (.head _))) (q_sc (List.mem_of_getElem? (i := 3) rfl) (fun _ h => absurd h List.not_mem_nil)))))
  refine lv_goto (tgt := 140) hx hb d_1_22_123 (by decide) ?_
  exact q_retv C0 V (⟨hF, hO14, hA29, hA30, hA31⟩) d_1_22_140
theorem d_1_19_0 : decode prog_1_method_19_code 0 = .ok (.iload_n 1, 1) := by decide +kernel
theorem d_1_19_1 : decode prog_1_method_19_code 1 = .ok (.ifCond .eq 19, 3) := by decide +kernel
theorem d_1_19_20 : decode prog_1_method_19_code 20 = .ok (.iconst 1, 1) := by decide +kernel
theorem d_1_19_21 : decode prog_1_method_19_code 21 = .ok (.goto 4, 3) := by decide +kernel
theorem d_1_19_25 : decode prog_1_method_19_code 25 = .ok (.invokestatic 104, 3) := by decide +kernel
theorem d_1_19_28 : decode prog_1_method_19_code 28 = .ok (.iload_n 1, 1) := by decide +kernel
theorem d_1_19_29 : decode prog_1_method_19_code 29 = .ok (.iconst 1, 1) := by decide +kernel
theorem d_1_19_30 : decode prog_1_method_19_code 30 = .ok (.if_icmp .gt 10, 3) := by decide +kernel
theorem d_1_19_33 : decode prog_1_method_19_code 33 = .ok (.iload_n 2, 1) := by decide +kernel
theorem d_1_19_34 : decode prog_1_method_19_code 34 = .ok (.invokestatic 212, 3) := by decide +kernel
theorem d_1_19_37 : decode prog_1_method_19_code 37 = .ok (.ifCond .eq 7, 3) := by decide +kernel
theorem d_1_19_44 : decode prog_1_method_19_code 44 = .ok (.iconst 0, 1) := by decide +kernel
theorem d_1_19_45 : decode prog_1_method_19_code 45 = .ok (.invokestatic 104, 3) := by decide +kernel
theorem d_1_19_40 : decode prog_1_method_19_code 40 = .ok (.iconst 1, 1) := by decide +kernel
theorem d_1_19_41 : decode prog_1_method_19_code 41 = .ok (.goto 4, 3) := by decide +kernel
theorem d_1_19_48 : decode prog_1_method_19_code 48 = .ok (.iload_n 1, 1) := by decide +kernel
theorem d_1_19_49 : decode prog_1_method_19_code 49 = .ok (.bipush 6, 2) := by decide +kernel
theorem d_1_19_51 : decode prog_1_method_19_code 51 = .ok (.if_icmp .ne 14, 3) := by decide +kernel
theorem d_1_19_65 : decode prog_1_method_19_code 65 = .ok (.iconst 1, 1) := by decide +kernel
theorem d_1_19_66 : decode prog_1_method_19_code 66 = .ok (.goto 4, 3) := by decide +kernel
theorem d_1_19_70 : decode prog_1_method_19_code 70 = .ok (.invokestatic 104, 3) := by decide +kernel
theorem d_1_19_73 : decode prog_1_method_19_code 73 = .ok (.iload_n 1, 1) := by decide +kernel
theorem d_1_19_74 : decode prog_1_method_19_code 74 = .ok (.bipush 8, 2) := by decide +kernel
theorem d_1_19_76 : decode prog_1_method_19_code 76 = .ok (.if_icmp .ne 13, 3) := by decide +kernel
theorem d_1_19_89 : decode prog_1_method_19_code 89 = .ok (.iload_n 1, 1) := by decide +kernel
theorem d_1_19_90 : decode prog_1_method_19_code 90 = .ok (.ifCond .ne 15, 3) := by decide +kernel
theorem d_1_19_93 : decode prog_1_method_19_code 93 = .ok (.aload_n 0, 1) := by decide +kernel
theorem d_1_19_94 : decode prog_1_method_19_code 94 = .ok (.getfield 23, 3) := by decide +kernel
theorem d_1_19_97 : decode prog_1_method_19_code 97 = .ok (.iload_n 2, 1) := by decide +kernel
theorem d_1_19_98 : decode prog_1_method_19_code 98 = .ok (.aaload, 1) := by decide +kernel
theorem d_1_19_99 : decode prog_1_method_19_code 99 = .ok (.invokevirtual 342, 3) := by decide +kernel
theorem w_1678 : (Cond.methodLink "NumberHouse" (342 : Nat) ({ cls := "NumberHouse$Big", name := "fitsLong", desc := "()Z" } : MethodName)) ∈ q_tbl := q_of 1678 (by decide +kernel) (by decide +kernel)
theorem LV_NH_342 : q_LV "NumberHouse" 342 y_Big_fitsLong prog_2_method_11_code 1 (some .boolean) 0 := ⟨w_1681, w_4, w_1678, w_1679, w_1680, ⟨by decide, by decide, by decide +kernel⟩⟩
theorem d_1_19_102 : decode prog_1_method_19_code 102 = .ok (.ifCond .eq 7, 3) := by decide +kernel
theorem d_1_19_105 : decode prog_1_method_19_code 105 = .ok (.iconst 1, 1) := by decide +kernel
theorem d_1_19_106 : decode prog_1_method_19_code 106 = .ok (.goto 4, 3) := by decide +kernel
theorem d_1_19_110 : decode prog_1_method_19_code 110 = .ok (.invokestatic 138, 3) := by decide +kernel
theorem d_1_19_113 : decode prog_1_method_19_code 113 = .ok (.iload_n 1, 1) := by decide +kernel
theorem d_1_19_114 : decode prog_1_method_19_code 114 = .ok (.iconst 1, 1) := by decide +kernel
theorem d_1_19_115 : decode prog_1_method_19_code 115 = .ok (.if_icmp .ne 19, 3) := by decide +kernel
theorem d_1_19_134 : decode prog_1_method_19_code 134 = .ok (.iconst 1, 1) := by decide +kernel
theorem d_1_19_135 : decode prog_1_method_19_code 135 = .ok (.goto 4, 3) := by decide +kernel
theorem d_1_19_139 : decode prog_1_method_19_code 139 = .ok (.invokestatic 138, 3) := by decide +kernel
theorem d_1_19_142 : decode prog_1_method_19_code 142 = .ok (.iload_n 1, 1) := by decide +kernel
theorem d_1_19_143 : decode prog_1_method_19_code 143 = .ok (.bipush 7, 2) := by decide +kernel
theorem d_1_19_145 : decode prog_1_method_19_code 145 = .ok (.if_icmp .ne 26, 3) := by decide +kernel
theorem d_1_19_171 : decode prog_1_method_19_code 171 = .ok (.aload_n 0, 1) := by decide +kernel
theorem d_1_19_172 : decode prog_1_method_19_code 172 = .ok (.getfield 98, 3) := by decide +kernel
theorem d_1_19_175 : decode prog_1_method_19_code 175 = .ok (.getfield 339, 3) := by decide +kernel
theorem w_385 : (Cond.fieldLink "NumberHouse" (339 : Nat) "NumberHouse$Printer" "count" "I") ∈ q_tbl := q_of 385 (by decide +kernel) (by decide +kernel)
theorem d_1_19_178 : decode prog_1_method_19_code 178 = .ok (.bipush 9, 2) := by decide +kernel
theorem d_1_19_180 : decode prog_1_method_19_code 180 = .ok (.if_icmp .lt 5, 3) := by decide +kernel
theorem d_1_19_185 : decode prog_1_method_19_code 185 = .ok (.aload_n 0, 1) := by decide +kernel
theorem d_1_19_186 : decode prog_1_method_19_code 186 = .ok (.iload_n 1, 1) := by decide +kernel
theorem d_1_19_187 : decode prog_1_method_19_code 187 = .ok (.iload_n 2, 1) := by decide +kernel
theorem d_1_19_188 : decode prog_1_method_19_code 188 = .ok (.invokevirtual 357, 3) := by decide +kernel
theorem w_1707 : (Cond.code ({ cls := "NumberHouse", name := "addArgument", desc := "(II)V" } : MethodName) prog_1_method_22_code (3 : Nat) (none : Option ClassFile.FieldType)) ∈ q_tbl := q_of 1707 (by decide +kernel) (by decide +kernel)
theorem w_1704 : (Cond.methodLink "NumberHouse" (357 : Nat) ({ cls := "NumberHouse", name := "addArgument", desc := "(II)V" } : MethodName)) ∈ q_tbl := q_of 1704 (by decide +kernel) (by decide +kernel)
theorem w_1706 : (Cond.instanceMethod ({ cls := "NumberHouse", name := "addArgument", desc := "(II)V" } : MethodName)) ∈ q_tbl := q_of 1706 (by decide +kernel) (by decide +kernel)
theorem ws_44 : Cond.selects "NumberHouse" (⟨"NumberHouse", "addArgument", "(II)V"⟩ : MethodName) (⟨"NumberHouse", "addArgument", "(II)V"⟩ : MethodName) ∈ q_tbl := q_ofs 44 (by decide +kernel) (by decide +kernel)
theorem LV_NH_357 : q_LV "NumberHouse" 357 y_NH_addArgument prog_1_method_22_code 3 none 2 := ⟨w_1707, w_1, w_1704, w_1706, ws_44, ⟨by decide, by decide, by decide +kernel⟩⟩
theorem d_1_19_191 : decode prog_1_method_19_code 191 = .ok (.aload_n 0, 1) := by decide +kernel
theorem d_1_19_192 : decode prog_1_method_19_code 192 = .ok (.getfield 98, 3) := by decide +kernel
theorem d_1_19_195 : decode prog_1_method_19_code 195 = .ok (.getfield 339, 3) := by decide +kernel
theorem d_1_19_198 : decode prog_1_method_19_code 198 = .ok (.ireturn, 1) := by decide +kernel
theorem d_1_19_4 : decode prog_1_method_19_code 4 = .ok (.iload_n 1, 1) := by decide +kernel
theorem d_1_19_5 : decode prog_1_method_19_code 5 = .ok (.iconst 1, 1) := by decide +kernel
theorem d_1_19_6 : decode prog_1_method_19_code 6 = .ok (.if_icmp .eq 14, 3) := by decide +kernel
theorem d_1_19_118 : decode prog_1_method_19_code 118 = .ok (.aload_n 0, 1) := by decide +kernel
theorem d_1_19_119 : decode prog_1_method_19_code 119 = .ok (.getfield 98, 3) := by decide +kernel
theorem d_1_19_122 : decode prog_1_method_19_code 122 = .ok (.aload_n 0, 1) := by decide +kernel
theorem d_1_19_123 : decode prog_1_method_19_code 123 = .ok (.getfield 29, 3) := by decide +kernel
theorem d_1_19_126 : decode prog_1_method_19_code 126 = .ok (.iload_n 2, 1) := by decide +kernel
theorem d_1_19_127 : decode prog_1_method_19_code 127 = .ok (.aaload, 1) := by decide +kernel
theorem d_1_19_128 : decode prog_1_method_19_code 128 = .ok (.invokevirtual 346, 3) := by decide +kernel
theorem w_1686 : (Cond.code ({ cls := "NumberHouse$Printer", name := "canTake", desc := "(LNumberHouse$Dec;)Z" } : MethodName) prog_9_method_2_code (2 : Nat) (some .boolean)) ∈ q_tbl := q_of 1686 (by decide +kernel) (by decide +kernel)
theorem w_1683 : (Cond.methodLink "NumberHouse" (346 : Nat) ({ cls := "NumberHouse$Printer", name := "canTake", desc := "(LNumberHouse$Dec;)Z" } : MethodName)) ∈ q_tbl := q_of 1683 (by decide +kernel) (by decide +kernel)
theorem w_1684 : (Cond.instanceMethod ({ cls := "NumberHouse$Printer", name := "canTake", desc := "(LNumberHouse$Dec;)Z" } : MethodName)) ∈ q_tbl := q_of 1684 (by decide +kernel) (by decide +kernel)
theorem w_1685 : (Cond.selects "NumberHouse$Printer" ({ cls := "NumberHouse$Printer", name := "canTake", desc := "(LNumberHouse$Dec;)Z" } : MethodName) ({ cls := "NumberHouse$Printer", name := "canTake", desc := "(LNumberHouse$Dec;)Z" } : MethodName)) ∈ q_tbl := q_of 1685 (by decide +kernel) (by decide +kernel)
theorem LV_NH_346 : q_LV "NumberHouse" 346 y_Pri_canTake prog_9_method_2_code 2 (some .boolean) 1 := ⟨w_1686, w_12, w_1683, w_1684, w_1685, ⟨by decide, by decide, by decide +kernel⟩⟩
theorem d_1_19_131 : decode prog_1_method_19_code 131 = .ok (.ifCond .eq 7, 3) := by decide +kernel
theorem d_1_19_9 : decode prog_1_method_19_code 9 = .ok (.iload_n 1, 1) := by decide +kernel
theorem d_1_19_10 : decode prog_1_method_19_code 10 = .ok (.iconst 4, 1) := by decide +kernel
theorem d_1_19_11 : decode prog_1_method_19_code 11 = .ok (.if_icmp .lt 13, 3) := by decide +kernel
theorem d_1_19_24 : decode prog_1_method_19_code 24 = .ok (.iconst 0, 1) := by decide +kernel
theorem d_1_19_14 : decode prog_1_method_19_code 14 = .ok (.iload_n 1, 1) := by decide +kernel
theorem d_1_19_15 : decode prog_1_method_19_code 15 = .ok (.bipush 8, 2) := by decide +kernel
theorem d_1_19_17 : decode prog_1_method_19_code 17 = .ok (.if_icmp .gt 7, 3) := by decide +kernel
theorem d_1_19_148 : decode prog_1_method_19_code 148 = .ok (.aload_n 0, 1) := by decide +kernel
theorem d_1_19_149 : decode prog_1_method_19_code 149 = .ok (.getfield 14, 3) := by decide +kernel
theorem d_1_19_152 : decode prog_1_method_19_code 152 = .ok (.getfield 108, 3) := by decide +kernel
theorem d_1_19_155 : decode prog_1_method_19_code 155 = .ok (.bipush 64, 2) := by decide +kernel
theorem d_1_19_157 : decode prog_1_method_19_code 157 = .ok (.if_icmp .le 14, 3) := by decide +kernel
theorem d_1_19_79 : decode prog_1_method_19_code 79 = .ok (.aload_n 0, 1) := by decide +kernel
theorem d_1_19_80 : decode prog_1_method_19_code 80 = .ok (.getfield 98, 3) := by decide +kernel
theorem d_1_19_83 : decode prog_1_method_19_code 83 = .ok (.iconst 0, 1) := by decide +kernel
theorem d_1_19_84 : decode prog_1_method_19_code 84 = .ok (.putfield 339, 3) := by decide +kernel
theorem d_1_19_87 : decode prog_1_method_19_code 87 = .ok (.iconst 0, 1) := by decide +kernel
theorem d_1_19_88 : decode prog_1_method_19_code 88 = .ok (.ireturn, 1) := by decide +kernel
theorem d_1_19_54 : decode prog_1_method_19_code 54 = .ok (.iload_n 2, 1) := by decide +kernel
theorem d_1_19_55 : decode prog_1_method_19_code 55 = .ok (.ifCond .lt 14, 3) := by decide +kernel
theorem d_1_19_69 : decode prog_1_method_19_code 69 = .ok (.iconst 0, 1) := by decide +kernel
theorem d_1_19_58 : decode prog_1_method_19_code 58 = .ok (.iload_n 2, 1) := by decide +kernel
theorem d_1_19_59 : decode prog_1_method_19_code 59 = .ok (.sipush 255, 3) := by decide +kernel
theorem d_1_19_62 : decode prog_1_method_19_code 62 = .ok (.if_icmp .gt 7, 3) := by decide +kernel
def y_NH_argument : MethodName := ⟨"NumberHouse", "argument", "(II)I"⟩
set_option maxRecDepth 100000 in
set_option maxHeartbeats 4000000 in
/-- argument on a fresh object -/
theorem c_NH_argument (l : Launch) (D : va_G) (g : Nat → ClassId) (ws : va_W) (hlt : l.stackTraces = false) ( qO0 qO1 qO2 qA3 qA4 qA5 qA6 qO7 qO8 qO9 qO10 qO11 qO12 qO13 qO14 qA15 qA29 qA30 qA31 qA32 qO33 qO34 qO46 qO47 qO48 qO49 qO50 qO51 qO52 qO53 qO54 qA57 : Nat) (x1 : Int32) (x2 : Int32) (f3 : Nat → Option Nat) (f4 : Nat → Option Nat) (hO0 : ws[0]? = (some (qO0, .inr (0, [.ref qO1, .ref qO2, .ref qA3, .ref qA4, .ref qA5, .ref qA6, .ref qO7, .ref qO8, .ref qO9, .ref qO10, .ref qO11, .ref qO12, .ref qO13, .ref qO14])) : Option (Nat × va_E))) (hO1 : ws[1]? = (some (qO1, .inr (1, [.ref qA15, .int 4100, .int 0])) : Option (Nat × va_E))) (hA3 : ws[5]? = (some (qA3, .inl (g 4, 10, .inr (.inr (.inr (.inr f3))))) : Option (Nat × va_E))) (hA4 : ws[6]? = (some (qA4, .inl (g 5, 10, .inr (.inr (.inr (.inr f4))))) : Option (Nat × va_E))) (hO14 : ws[40]? = (some (qO14, .inr (11, [.int 0, .ref qA29, .ref qA30, .ref qA31, .ref qA32, .ref qO1, .ref qO33, .ref qO11, .ref qO34, .int 0, .int 0, .int 0])) : Option (Nat × va_E))) (hA29 : ws[41]? = (some (qA29, .inl (g 0, 9, .inl (fun _ => 0))) : Option (Nat × va_E))) (hA30 : ws[42]? = (some (qA30, .inl (g 1, 9, .inr (.inl (fun _ => 0)))) : Option (Nat × va_E))) (hA31 : ws[43]? = (some (qA31, .inl (g 0, 9, .inl (fun _ => 0))) : Option (Nat × va_E))) (hA32 : ws[44]? = (some (qA32, .inl (g 6, 9, .inr (.inr (.inr (.inr (va_up (va_up (va_up (va_up (va_up (va_up (va_up (va_up (va_up (fun _ => none) 0 (some qO46)) 1 (some qO47)) 2 (some qO48)) 3 (some qO49)) 4 (some qO50)) 5 (some qO51)) 6 (some qO52)) 7 (some qO53)) 8 (some qO54))))))) : Option (Nat × va_E))) (hO46 : ws[48]? = (some (qO46, .inr (1, [.ref qA57, .int 64, .int 0])) : Option (Nat × va_E))) (qW qWL qD qDN qDL : Nat → Nat) (hfW : ∀ i, i < 10 → f3 i = some (qW i)) (FW : ∀ i, i < 10 → ws[66 + 5 * i]? = (some (qW i, .inr (2, [.ref (qWL i), .int 0, .int 0])) : Option (Nat × va_E))) (FWL : ∀ i, i < 10 → ws[67 + 5 * i]? = (some (qWL i, .inl (g 0, 68, .inl (fun _ => 0))) : Option (Nat × va_E))) (hfD : ∀ i, i < 10 → f4 i = some (qD i)) (FD : ∀ i, i < 10 → ws[68 + 5 * i]? = (some (qD i, .inr (3, [.ref (qDN i), .int 0, .int 1])) : Option (Nat × va_E))) (FDN : ∀ i, i < 10 → ws[69 + 5 * i]? = (some (qDN i, .inr (2, [.ref (qDL i), .int 0, .int 0])) : Option (Nat × va_E))) (FDL : ∀ i, i < 10 → ws[70 + 5 * i]? = (some (qDL i, .inl (g 0, 108, .inl (fun _ => 0))) : Option (Nat × va_E))) : q_xI l y_NH_argument prog_1_method_19_code 3 (.int) 8 5 30 D g [.ref qO0, .int x1, .int x2] ws (fun r u => (((0 ≤ x1.toInt ∧ x1.toInt ≤ 8) ∧ x1.toInt ≠ 2 ∧ x1.toInt ≠ 3 ∧ (x1.toInt ≤ 1 → (0 ≤ x2.toInt ∧ x2.toInt ≤ 9)) ∧ (x1.toInt = 6 → (0 ≤ x2.toInt ∧ x2.toInt ≤ 255))) ∧ ((x1.toInt = 8 ∧ r.toInt = 0) ∨ (x1.toInt ≠ 8 ∧ r.toInt = 1))) ∧ q_ge 116 ws u) (fun E u => (("java/lang/IllegalArgumentException" = E ∧ (¬ ((0 ≤ x1.toInt ∧ x1.toInt ≤ 8) ∧ x1.toInt ≠ 2 ∧ x1.toInt ≠ 3 ∧ (x1.toInt ≤ 1 → (0 ≤ x2.toInt ∧ x2.toInt ≤ 9)) ∧ (x1.toInt = 6 → (0 ≤ x2.toInt ∧ x2.toInt ≤ 255)))))) ∧ q_ge 116 ws u) := by
  intro sz
  refine q_intoX (by decide) (Nat.le_of_ble_eq_true rfl) ?_
  intro p e s m below meth c ls hsz C0 V hno hl
  have hx := C0.1
  have hb := C0.2.1
  have hl : lv_has ls 3 [(0, .ref qO0), (1, .int x1), (2, .int x2)] := hl
  have hF : q_ge 116 ws ws := q_g0
  refine lv_iload_n hx hb d_1_19_0 rfl (lv_at hl 1 rfl) ?_
  refine lv_if_eq (tgt := 20) hx hb d_1_19_1 (by decide) (fun c1 => ?_) (fun c1 => ?_)
  ·
    refine lv_iconst (v := 1) hx hb d_1_19_20 (by decide) ?_
    refine lv_goto (tgt := 25) hx hb d_1_19_21 (by decide) ?_
    refine q_goxv V (q_runSX (As := [.int 1]) (rest := []) (d := 7) (mc := 1) (ms := 6) C0 V rfl LS_NH_104 (c_NH_need l D g ws hlt 1 _) rfl hl.1 rfl (Nat.le_of_ble_eq_true rfl) ⟨by decide, by decide⟩ ⟨Nat.le_of_ble_eq_true rfl, Nat.le_of_ble_eq_true rfl⟩ d_1_19_25) (fun qx Ex ce u3 H locs hp2 V hce hcv hcl => ?_) (fun u3 H locs hp2 V => ?_)
    ·
      obtain ⟨c4, rfl, rfl⟩ := hp2
      exact absurd c4 (by decide)
    ·
      obtain ⟨c6, rfl⟩ := hp2
      refine lv_iload_n hx hb d_1_19_28 rfl (lv_at hl 1 rfl) ?_
      refine q_ti (v := 0) c1 ?_
      refine lv_iconst (v := 1) hx hb d_1_19_29 (by decide) ?_
      refine lv_icmp_gt (tgt := 40) hx hb d_1_19_30 (by decide) (fun c8 => absurd c8 (by decide)) (fun c8 => ?_)
      refine lv_iload_n hx hb d_1_19_33 rfl (lv_at hl 2 rfl) ?_
      refine q_goi V (q_runS (As := [.int x2]) (rest := []) (d := 1) (mc := 0) (ms := 0) C0 V rfl LS_NH_212 (c_NH_isRegister l D g ws x2 _) rfl hl.1 rfl (Nat.le_of_ble_eq_true rfl) ⟨by decide, by decide⟩ ⟨Nat.le_of_ble_eq_true rfl, Nat.le_of_ble_eq_true rfl⟩ d_1_19_34) (fun v11 u10 H locs hp9 V => ?_)
      rcases hp9 with ⟨c12, rfl, rfl⟩ | ⟨c14, c15, rfl, rfl⟩ | ⟨c17, c18, rfl, rfl⟩
      ·
        refine lv_if_eq (tgt := 44) hx hb d_1_19_37 (by decide) (fun c20 => ?_) (fun c20 => absurd (by decide) c20)
        refine lv_iconst (v := 0) hx hb d_1_19_44 (by decide) ?_
        refine q_goxv V (q_runSX (As := [.int 0]) (rest := []) (d := 7) (mc := 1) (ms := 6) C0 V rfl LS_NH_104 (c_NH_need l D g ws hlt 0 _) rfl hl.1 rfl (Nat.le_of_ble_eq_true rfl) ⟨by decide, by decide⟩ ⟨Nat.le_of_ble_eq_true rfl, Nat.le_of_ble_eq_true rfl⟩ d_1_19_45) (fun qx Ex ce u22 H locs hp21 V hce hcv hcl => ?_) (fun u22 H locs hp21 V => ?_)
        ·
          obtain ⟨c23, rfl, rfl⟩ := hp21
          exact q_outT hno C0 V (⟨⟨rfl, (show ¬ ((0 ≤ x1.toInt ∧ x1.toInt ≤ 8) ∧ x1.toInt ≠ 2 ∧ x1.toInt ≠ 3 ∧ (x1.toInt ≤ 1 → (0 ≤ x2.toInt ∧ x2.toInt ≤ 9)) ∧ (x1.toInt = 6 → (0 ≤ x2.toInt ∧ x2.toInt ≤ 255))) from by have t1 : x1.toInt = 0 := q_eqI c1; have t2 : x2.toInt < 0 := q_ltI c12; omega)⟩, hF⟩) hce hcv hcl (Nat.le_of_ble_eq_true rfl) (Nat.le_of_ble_eq_true rfl)
        ·
          obtain ⟨c25, rfl⟩ := hp21
          exact absurd c25 (by decide)
      ·
        refine lv_if_eq (tgt := 44) hx hb d_1_19_37 (by decide) (fun c27 => ?_) (fun c27 => absurd (by decide) c27)
        refine lv_iconst (v := 0) hx hb d_1_19_44 (by decide) ?_
        refine q_goxv V (q_runSX (As := [.int 0]) (rest := []) (d := 7) (mc := 1) (ms := 6) C0 V rfl LS_NH_104 (c_NH_need l D g ws hlt 0 _) rfl hl.1 rfl (Nat.le_of_ble_eq_true rfl) ⟨by decide, by decide⟩ ⟨Nat.le_of_ble_eq_true rfl, Nat.le_of_ble_eq_true rfl⟩ d_1_19_45) (fun qx Ex ce u29 H locs hp28 V hce hcv hcl => ?_) (fun u29 H locs hp28 V => ?_)
        ·
          obtain ⟨c30, rfl, rfl⟩ := hp28
          exact q_outT hno C0 V (⟨⟨rfl, (show ¬ ((0 ≤ x1.toInt ∧ x1.toInt ≤ 8) ∧ x1.toInt ≠ 2 ∧ x1.toInt ≠ 3 ∧ (x1.toInt ≤ 1 → (0 ≤ x2.toInt ∧ x2.toInt ≤ 9)) ∧ (x1.toInt = 6 → (0 ≤ x2.toInt ∧ x2.toInt ≤ 255))) from by have t1 : x1.toInt = 0 := q_eqI c1; have t2 : 0 ≤ x2.toInt := q_nltI c14; have t3 : 10 ≤ x2.toInt := q_leI c15; omega)⟩, hF⟩) hce hcv hcl (Nat.le_of_ble_eq_true rfl) (Nat.le_of_ble_eq_true rfl)
        ·
          obtain ⟨c32, rfl⟩ := hp28
          exact absurd c32 (by decide)
      ·
        refine lv_if_eq (tgt := 44) hx hb d_1_19_37 (by decide) (fun c34 => absurd c34 (by decide)) (fun c34 => ?_)
        refine lv_iconst (v := 1) hx hb d_1_19_40 (by decide) ?_
        refine lv_goto (tgt := 45) hx hb d_1_19_41 (by decide) ?_
        refine q_goxv V (q_runSX (As := [.int 1]) (rest := []) (d := 7) (mc := 1) (ms := 6) C0 V rfl LS_NH_104 (c_NH_need l D g ws hlt 1 _) rfl hl.1 rfl (Nat.le_of_ble_eq_true rfl) ⟨by decide, by decide⟩ ⟨Nat.le_of_ble_eq_true rfl, Nat.le_of_ble_eq_true rfl⟩ d_1_19_45) (fun qx Ex ce u36 H locs hp35 V hce hcv hcl => ?_) (fun u36 H locs hp35 V => ?_)
        ·
          obtain ⟨c37, rfl, rfl⟩ := hp35
          exact absurd c37 (by decide)
        ·
          obtain ⟨c39, rfl⟩ := hp35
          refine lv_iload_n hx hb d_1_19_48 rfl (lv_at hl 1 rfl) ?_
          refine q_ti (v := 0) c1 ?_
          refine lv_bipush (v := 6) hx hb d_1_19_49 (by decide) ?_
          refine lv_icmp_ne (tgt := 65) hx hb d_1_19_51 (by decide) (fun c41 => ?_) (fun c41 => absurd c41 (by decide))
          refine lv_iconst (v := 1) hx hb d_1_19_65 (by decide) ?_
          refine lv_goto (tgt := 70) hx hb d_1_19_66 (by decide) ?_
          refine q_goxv V (q_runSX (As := [.int 1]) (rest := []) (d := 7) (mc := 1) (ms := 6) C0 V rfl LS_NH_104 (c_NH_need l D g ws hlt 1 _) rfl hl.1 rfl (Nat.le_of_ble_eq_true rfl) ⟨by decide, by decide⟩ ⟨Nat.le_of_ble_eq_true rfl, Nat.le_of_ble_eq_true rfl⟩ d_1_19_70) (fun qx Ex ce u43 H locs hp42 V hce hcv hcl => ?_) (fun u43 H locs hp42 V => ?_)
          ·
            obtain ⟨c44, rfl, rfl⟩ := hp42
            exact absurd c44 (by decide)
          ·
            obtain ⟨c46, rfl⟩ := hp42
            refine lv_iload_n hx hb d_1_19_73 rfl (lv_at hl 1 rfl) ?_
            refine q_ti (v := 0) c1 ?_
            refine lv_bipush (v := 8) hx hb d_1_19_74 (by decide) ?_
            refine lv_icmp_ne (tgt := 89) hx hb d_1_19_76 (by decide) (fun c48 => ?_) (fun c48 => absurd c48 (by decide))
            refine lv_iload_n hx hb d_1_19_89 rfl (lv_at hl 1 rfl) ?_
            refine q_ti (v := 0) c1 ?_
            refine lv_if_ne (tgt := 105) hx hb d_1_19_90 (by decide) (fun c49 => absurd (by decide) c49) (fun c49 => ?_)
            refine lv_aload_n hx hb d_1_19_93 rfl (lv_at hl 0 rfl) ?_
            refine q_get (ci := 0) (j := 2) (v := .ref qA3) C0 V i_NH rfl rfl hO0 (by decide) w_426 rfl d_1_19_94 ?_
            refine lv_iload_n hx hb d_1_19_97 rfl (lv_at hl 2 rfl) ?_
            have r50 : x2.toNatClampNeg < 10 := (q_r10 (x := x2.toInt) rfl (by have t1 : 0 ≤ x2.toInt := q_nltI c17; have t2 : x2.toInt < 10 := q_nleI c18; omega) (by have t1 : 0 ≤ x2.toInt := q_nltI c17; have t2 : x2.toInt < 10 := q_nleI c18; omega))
            have hr51 : ws[66 + 5 * x2.toNatClampNeg]? = (some (qW x2.toNatClampNeg, .inr (2, [.ref (qWL x2.toNatClampNeg), .int 0, .int 0])) : Option (Nat × va_E)) := FW _ r50
            have hr52 : ws[67 + 5 * x2.toNatClampNeg]? = (some (qWL x2.toNatClampNeg, .inl (g 0, 68, .inl (fun _ => 0))) : Option (Nat × va_E)) := FWL _ r50
            have hh : x2.toNatClampNeg < 10 := (q_r10 (x := x2.toInt) rfl (by have t1 : 0 ≤ x2.toInt := q_nltI c17; have t2 : x2.toInt < 10 := q_nleI c18; omega) (by have t1 : 0 ≤ x2.toInt := q_nltI c17; have t2 : x2.toInt < 10 := q_nleI c18; omega))
            refine q_aald (t := 4) (q := qW x2.toNatClampNeg) C0 V hA3 rfl (q_ix (x := x2.toInt) rfl (by have t1 : 0 ≤ x2.toInt := q_nltI c17; have t2 : x2.toInt < 10 := q_nleI c18; omega) (by have t1 : 0 ≤ x2.toInt := q_nltI c17; have t2 : x2.toInt < 10 := q_nleI c18; omega)) (hfW _ hh) d_1_19_98 ?_
            refine q_goi V (q_runV (As := []) (rest := []) (d := 3) (mc := 0) (ms := 0) (ci := 2) C0 V rfl LV_NH_342 (c_Big_fitsLong l D g ws (66 + 5 * x2.toNatClampNeg) (qW x2.toNatClampNeg) (qWL x2.toNatClampNeg) hr51 _) rfl rfl hr51 rfl hl.1 rfl (Nat.le_of_ble_eq_true rfl) ⟨by decide, by decide⟩ ⟨Nat.le_of_ble_eq_true rfl, Nat.le_of_ble_eq_true rfl⟩ d_1_19_99) (fun v55 u54 H locs hp53 V => ?_)
            obtain ⟨rfl, rfl⟩ := hp53
            refine lv_if_eq (tgt := 109) hx hb d_1_19_102 (by decide) (fun c57 => absurd c57 (by decide)) (fun c57 => ?_)
            refine lv_iconst (v := 1) hx hb d_1_19_105 (by decide) ?_
            refine lv_goto (tgt := 110) hx hb d_1_19_106 (by decide) ?_
            refine q_goxv V (q_runSX (As := [.int 1]) (rest := []) (d := 7) (mc := 1) (ms := 6) C0 V rfl LS_NH_138 (c_NH_canHave l D g ws hlt 1 _) rfl hl.1 rfl (Nat.le_of_ble_eq_true rfl) ⟨by decide, by decide⟩ ⟨Nat.le_of_ble_eq_true rfl, Nat.le_of_ble_eq_true rfl⟩ d_1_19_110) (fun qx Ex ce u59 H locs hp58 V hce hcv hcl => ?_) (fun u59 H locs hp58 V => ?_)
            ·
              obtain ⟨c60, rfl, rfl⟩ := hp58
              exact absurd c60 (by decide)
            ·
              obtain ⟨c62, rfl⟩ := hp58
              refine lv_iload_n hx hb d_1_19_113 rfl (lv_at hl 1 rfl) ?_
              refine q_ti (v := 0) c1 ?_
              refine lv_iconst (v := 1) hx hb d_1_19_114 (by decide) ?_
              refine lv_icmp_ne (tgt := 134) hx hb d_1_19_115 (by decide) (fun c64 => ?_) (fun c64 => absurd c64 (by decide))
              refine lv_iconst (v := 1) hx hb d_1_19_134 (by decide) ?_
              refine lv_goto (tgt := 139) hx hb d_1_19_135 (by decide) ?_
              refine q_goxv V (q_runSX (As := [.int 1]) (rest := []) (d := 7) (mc := 1) (ms := 6) C0 V rfl LS_NH_138 (c_NH_canHave l D g ws hlt 1 _) rfl hl.1 rfl (Nat.le_of_ble_eq_true rfl) ⟨by decide, by decide⟩ ⟨Nat.le_of_ble_eq_true rfl, Nat.le_of_ble_eq_true rfl⟩ d_1_19_139) (fun qx Ex ce u66 H locs hp65 V hce hcv hcl => ?_) (fun u66 H locs hp65 V => ?_)
              ·
                obtain ⟨c67, rfl, rfl⟩ := hp65
                exact absurd c67 (by decide)
              ·
                obtain ⟨c69, rfl⟩ := hp65
                refine lv_iload_n hx hb d_1_19_142 rfl (lv_at hl 1 rfl) ?_
                refine q_ti (v := 0) c1 ?_
                refine lv_bipush (v := 7) hx hb d_1_19_143 (by decide) ?_
                refine lv_icmp_ne (tgt := 171) hx hb d_1_19_145 (by decide) (fun c71 => ?_) (fun c71 => absurd c71 (by decide))
                refine lv_aload_n hx hb d_1_19_171 rfl (lv_at hl 0 rfl) ?_
                refine q_get (ci := 0) (j := 13) (v := .ref qO14) C0 V i_NH rfl rfl hO0 (by decide) w_437 rfl d_1_19_172 ?_
                refine q_get (ci := 11) (j := 0) (v := .int 0) C0 V i_Pri rfl rfl hO14 (by decide) w_385 rfl d_1_19_175 ?_
                refine lv_bipush (v := 9) hx hb d_1_19_178 (by decide) ?_
                refine lv_icmp_lt (tgt := 185) hx hb d_1_19_180 (by decide) (fun c72 => ?_) (fun c72 => absurd (by decide) c72)
                refine lv_aload_n hx hb d_1_19_185 rfl (lv_at hl 0 rfl) ?_
                refine lv_iload_n hx hb d_1_19_186 rfl (lv_at hl 1 rfl) ?_
                refine q_ti (v := 0) c1 ?_
                refine lv_iload_n hx hb d_1_19_187 rfl (lv_at hl 2 rfl) ?_
                refine q_gov V (q_runV (As := [.int 0, .int x2]) (rest := []) (d := 3) (mc := 0) (ms := 0) (ci := 0) C0 V rfl LV_NH_357 (c_NH_addArgument l D g ws qO0 qO1 qO2 qA3 qA4 qA5 qA6 qO7 qO8 qO9 qO10 qO11 qO12 qO13 qO14 qA29 qA30 qA31 qA32 qO33 qO34 x2 f3 hO0 hA3 hO14 hA29 hA30 hA31 (q_Ile (x := 0) (y := x2.toInt) (by decide) rfl (by have t1 : 0 ≤ x2.toInt := q_nltI c17; have t2 : x2.toInt < 10 := q_nleI c18; omega)) (q_Ile (x := x2.toInt) (y := 9) rfl (by decide) (by have t1 : 0 ≤ x2.toInt := q_nltI c17; have t2 : x2.toInt < 10 := q_nleI c18; omega)) qW qWL qD qDN qDL hfW FW FWL _) rfl rfl hO0 rfl hl.1 rfl (Nat.le_of_ble_eq_true rfl) ⟨by decide, by decide⟩ ⟨Nat.le_of_ble_eq_true rfl, Nat.le_of_ble_eq_true rfl⟩ d_1_19_188) (fun u74 H locs hp73 V => ?_)
                obtain ⟨hg75, hO14, hA29, hA30, hA31⟩ := hp73
                replace hF := q_gc hF hg75 (q_al (Nat.le_of_ble_eq_true rfl) (q_al (Nat.le_of_ble_eq_true rfl) (q_al (Nat.le_of_ble_eq_true rfl) (q_al (Nat.le_of_ble_eq_true rfl) (fun _ h => absurd h List.not_mem_nil)))))
                refine lv_aload_n hx hb d_1_19_191 rfl (lv_at hl 0 rfl) ?_
                replace hO0 := (hg75 _ (q_nc (q_pd 0 40 rfl) (q_nc (q_pd 0 41 rfl) (q_nc (q_pd 0 42 rfl) (q_nc (q_pd 0 43 rfl) List.not_mem_nil))))).trans (hO0)
                refine q_get (ci := 0) (j := 13) (v := .ref qO14) C0 V i_NH rfl rfl hO0 (by decide) w_437 rfl d_1_19_192 ?_
                refine q_get (ci := 11) (j := 0) (v := .int 1) C0 V i_Pri rfl rfl hO14 (by decide) w_385 rfl d_1_19_195 ?_
                exact q_retX (q_reti C0 V (⟨(show ((0 ≤ x1.toInt ∧ x1.toInt ≤ 8) ∧ x1.toInt ≠ 2 ∧ x1.toInt ≠ 3 ∧ (x1.toInt ≤ 1 → (0 ≤ x2.toInt ∧ x2.toInt ≤ 9)) ∧ (x1.toInt = 6 → (0 ≤ x2.toInt ∧ x2.toInt ≤ 255))) ∧ ((x1.toInt = 8 ∧ (1 : Int32).toInt = 0) ∨ (x1.toInt ≠ 8 ∧ (1 : Int32).toInt = 1)) from by have t1 : x1.toInt = 0 := q_eqI c1; have t2 : 0 ≤ x2.toInt := q_nltI c17; have t3 : x2.toInt < 10 := q_nleI c18; have e0 : (1 : Int32).toInt = 1 := (by decide); omega), hF⟩) d_1_19_198)
  ·
    refine lv_iload_n hx hb d_1_19_4 rfl (lv_at hl 1 rfl) ?_
    refine lv_iconst (v := 1) hx hb d_1_19_5 (by decide) ?_
    refine lv_icmp_eq (tgt := 20) hx hb d_1_19_6 (by decide) (fun c76 => ?_) (fun c76 => ?_)
    ·
      refine lv_iconst (v := 1) hx hb d_1_19_20 (by decide) ?_
      refine lv_goto (tgt := 25) hx hb d_1_19_21 (by decide) ?_
      refine q_goxv V (q_runSX (As := [.int 1]) (rest := []) (d := 7) (mc := 1) (ms := 6) C0 V rfl LS_NH_104 (c_NH_need l D g ws hlt 1 _) rfl hl.1 rfl (Nat.le_of_ble_eq_true rfl) ⟨by decide, by decide⟩ ⟨Nat.le_of_ble_eq_true rfl, Nat.le_of_ble_eq_true rfl⟩ d_1_19_25) (fun qx Ex ce u78 H locs hp77 V hce hcv hcl => ?_) (fun u78 H locs hp77 V => ?_)
      ·
        obtain ⟨c79, rfl, rfl⟩ := hp77
        exact absurd c79 (by decide)
      ·
        obtain ⟨c81, rfl⟩ := hp77
        refine lv_iload_n hx hb d_1_19_28 rfl (lv_at hl 1 rfl) ?_
        refine q_ti (v := 1) c76 ?_
        refine lv_iconst (v := 1) hx hb d_1_19_29 (by decide) ?_
        refine lv_icmp_gt (tgt := 40) hx hb d_1_19_30 (by decide) (fun c83 => absurd c83 (by decide)) (fun c83 => ?_)
        refine lv_iload_n hx hb d_1_19_33 rfl (lv_at hl 2 rfl) ?_
        refine q_goi V (q_runS (As := [.int x2]) (rest := []) (d := 1) (mc := 0) (ms := 0) C0 V rfl LS_NH_212 (c_NH_isRegister l D g ws x2 _) rfl hl.1 rfl (Nat.le_of_ble_eq_true rfl) ⟨by decide, by decide⟩ ⟨Nat.le_of_ble_eq_true rfl, Nat.le_of_ble_eq_true rfl⟩ d_1_19_34) (fun v86 u85 H locs hp84 V => ?_)
        rcases hp84 with ⟨c87, rfl, rfl⟩ | ⟨c89, c90, rfl, rfl⟩ | ⟨c92, c93, rfl, rfl⟩
        ·
          refine lv_if_eq (tgt := 44) hx hb d_1_19_37 (by decide) (fun c95 => ?_) (fun c95 => absurd (by decide) c95)
          refine lv_iconst (v := 0) hx hb d_1_19_44 (by decide) ?_
          refine q_goxv V (q_runSX (As := [.int 0]) (rest := []) (d := 7) (mc := 1) (ms := 6) C0 V rfl LS_NH_104 (c_NH_need l D g ws hlt 0 _) rfl hl.1 rfl (Nat.le_of_ble_eq_true rfl) ⟨by decide, by decide⟩ ⟨Nat.le_of_ble_eq_true rfl, Nat.le_of_ble_eq_true rfl⟩ d_1_19_45) (fun qx Ex ce u97 H locs hp96 V hce hcv hcl => ?_) (fun u97 H locs hp96 V => ?_)
          ·
            obtain ⟨c98, rfl, rfl⟩ := hp96
            exact q_outT hno C0 V (⟨⟨rfl, (show ¬ ((0 ≤ x1.toInt ∧ x1.toInt ≤ 8) ∧ x1.toInt ≠ 2 ∧ x1.toInt ≠ 3 ∧ (x1.toInt ≤ 1 → (0 ≤ x2.toInt ∧ x2.toInt ≤ 9)) ∧ (x1.toInt = 6 → (0 ≤ x2.toInt ∧ x2.toInt ≤ 255))) from by have t1 : x1.toInt ≠ 0 := q_neI c1; have t2 : x1.toInt = 1 := q_eqI c76; have t3 : x2.toInt < 0 := q_ltI c87; omega)⟩, hF⟩) hce hcv hcl (Nat.le_of_ble_eq_true rfl) (Nat.le_of_ble_eq_true rfl)
          ·
            obtain ⟨c100, rfl⟩ := hp96
            exact absurd c100 (by decide)
        ·
          refine lv_if_eq (tgt := 44) hx hb d_1_19_37 (by decide) (fun c102 => ?_) (fun c102 => absurd (by decide) c102)
          refine lv_iconst (v := 0) hx hb d_1_19_44 (by decide) ?_
          refine q_goxv V (q_runSX (As := [.int 0]) (rest := []) (d := 7) (mc := 1) (ms := 6) C0 V rfl LS_NH_104 (c_NH_need l D g ws hlt 0 _) rfl hl.1 rfl (Nat.le_of_ble_eq_true rfl) ⟨by decide, by decide⟩ ⟨Nat.le_of_ble_eq_true rfl, Nat.le_of_ble_eq_true rfl⟩ d_1_19_45) (fun qx Ex ce u104 H locs hp103 V hce hcv hcl => ?_) (fun u104 H locs hp103 V => ?_)
          ·
            obtain ⟨c105, rfl, rfl⟩ := hp103
            exact q_outT hno C0 V (⟨⟨rfl, (show ¬ ((0 ≤ x1.toInt ∧ x1.toInt ≤ 8) ∧ x1.toInt ≠ 2 ∧ x1.toInt ≠ 3 ∧ (x1.toInt ≤ 1 → (0 ≤ x2.toInt ∧ x2.toInt ≤ 9)) ∧ (x1.toInt = 6 → (0 ≤ x2.toInt ∧ x2.toInt ≤ 255))) from by have t1 : x1.toInt ≠ 0 := q_neI c1; have t2 : x1.toInt = 1 := q_eqI c76; have t3 : 0 ≤ x2.toInt := q_nltI c89; have t4 : 10 ≤ x2.toInt := q_leI c90; omega)⟩, hF⟩) hce hcv hcl (Nat.le_of_ble_eq_true rfl) (Nat.le_of_ble_eq_true rfl)
          ·
            obtain ⟨c107, rfl⟩ := hp103
            exact absurd c107 (by decide)
        ·
          refine lv_if_eq (tgt := 44) hx hb d_1_19_37 (by decide) (fun c109 => absurd c109 (by decide)) (fun c109 => ?_)
          refine lv_iconst (v := 1) hx hb d_1_19_40 (by decide) ?_
          refine lv_goto (tgt := 45) hx hb d_1_19_41 (by decide) ?_
          refine q_goxv V (q_runSX (As := [.int 1]) (rest := []) (d := 7) (mc := 1) (ms := 6) C0 V rfl LS_NH_104 (c_NH_need l D g ws hlt 1 _) rfl hl.1 rfl (Nat.le_of_ble_eq_true rfl) ⟨by decide, by decide⟩ ⟨Nat.le_of_ble_eq_true rfl, Nat.le_of_ble_eq_true rfl⟩ d_1_19_45) (fun qx Ex ce u111 H locs hp110 V hce hcv hcl => ?_) (fun u111 H locs hp110 V => ?_)
          ·
            obtain ⟨c112, rfl, rfl⟩ := hp110
            exact absurd c112 (by decide)
          ·
            obtain ⟨c114, rfl⟩ := hp110
            refine lv_iload_n hx hb d_1_19_48 rfl (lv_at hl 1 rfl) ?_
            refine q_ti (v := 1) c76 ?_
            refine lv_bipush (v := 6) hx hb d_1_19_49 (by decide) ?_
            refine lv_icmp_ne (tgt := 65) hx hb d_1_19_51 (by decide) (fun c116 => ?_) (fun c116 => absurd c116 (by decide))
            refine lv_iconst (v := 1) hx hb d_1_19_65 (by decide) ?_
            refine lv_goto (tgt := 70) hx hb d_1_19_66 (by decide) ?_
            refine q_goxv V (q_runSX (As := [.int 1]) (rest := []) (d := 7) (mc := 1) (ms := 6) C0 V rfl LS_NH_104 (c_NH_need l D g ws hlt 1 _) rfl hl.1 rfl (Nat.le_of_ble_eq_true rfl) ⟨by decide, by decide⟩ ⟨Nat.le_of_ble_eq_true rfl, Nat.le_of_ble_eq_true rfl⟩ d_1_19_70) (fun qx Ex ce u118 H locs hp117 V hce hcv hcl => ?_) (fun u118 H locs hp117 V => ?_)
            ·
              obtain ⟨c119, rfl, rfl⟩ := hp117
              exact absurd c119 (by decide)
            ·
              obtain ⟨c121, rfl⟩ := hp117
              refine lv_iload_n hx hb d_1_19_73 rfl (lv_at hl 1 rfl) ?_
              refine q_ti (v := 1) c76 ?_
              refine lv_bipush (v := 8) hx hb d_1_19_74 (by decide) ?_
              refine lv_icmp_ne (tgt := 89) hx hb d_1_19_76 (by decide) (fun c123 => ?_) (fun c123 => absurd c123 (by decide))
              refine lv_iload_n hx hb d_1_19_89 rfl (lv_at hl 1 rfl) ?_
              refine q_ti (v := 1) c76 ?_
              refine lv_if_ne (tgt := 105) hx hb d_1_19_90 (by decide) (fun c124 => ?_) (fun c124 => absurd c124 (by decide))
              refine lv_iconst (v := 1) hx hb d_1_19_105 (by decide) ?_
              refine lv_goto (tgt := 110) hx hb d_1_19_106 (by decide) ?_
              refine q_goxv V (q_runSX (As := [.int 1]) (rest := []) (d := 7) (mc := 1) (ms := 6) C0 V rfl LS_NH_138 (c_NH_canHave l D g ws hlt 1 _) rfl hl.1 rfl (Nat.le_of_ble_eq_true rfl) ⟨by decide, by decide⟩ ⟨Nat.le_of_ble_eq_true rfl, Nat.le_of_ble_eq_true rfl⟩ d_1_19_110) (fun qx Ex ce u126 H locs hp125 V hce hcv hcl => ?_) (fun u126 H locs hp125 V => ?_)
              ·
                obtain ⟨c127, rfl, rfl⟩ := hp125
                exact absurd c127 (by decide)
              ·
                obtain ⟨c129, rfl⟩ := hp125
                refine lv_iload_n hx hb d_1_19_113 rfl (lv_at hl 1 rfl) ?_
                refine q_ti (v := 1) c76 ?_
                refine lv_iconst (v := 1) hx hb d_1_19_114 (by decide) ?_
                refine lv_icmp_ne (tgt := 134) hx hb d_1_19_115 (by decide) (fun c131 => absurd (by decide) c131) (fun c131 => ?_)
                refine lv_aload_n hx hb d_1_19_118 rfl (lv_at hl 0 rfl) ?_
                refine q_get (ci := 0) (j := 13) (v := .ref qO14) C0 V i_NH rfl rfl hO0 (by decide) w_437 rfl d_1_19_119 ?_
                refine lv_aload_n hx hb d_1_19_122 rfl (lv_at hl 0 rfl) ?_
                refine q_get (ci := 0) (j := 3) (v := .ref qA4) C0 V i_NH rfl rfl hO0 (by decide) w_427 rfl d_1_19_123 ?_
                refine lv_iload_n hx hb d_1_19_126 rfl (lv_at hl 2 rfl) ?_
                have r132 : x2.toNatClampNeg < 10 := (q_r10 (x := x2.toInt) rfl (by have t1 : 0 ≤ x2.toInt := q_nltI c92; have t2 : x2.toInt < 10 := q_nleI c93; omega) (by have t1 : 0 ≤ x2.toInt := q_nltI c92; have t2 : x2.toInt < 10 := q_nleI c93; omega))
                have hr133 : ws[68 + 5 * x2.toNatClampNeg]? = (some (qD x2.toNatClampNeg, .inr (3, [.ref (qDN x2.toNatClampNeg), .int 0, .int 1])) : Option (Nat × va_E)) := FD _ r132
                have hr134 : ws[69 + 5 * x2.toNatClampNeg]? = (some (qDN x2.toNatClampNeg, .inr (2, [.ref (qDL x2.toNatClampNeg), .int 0, .int 0])) : Option (Nat × va_E)) := FDN _ r132
                have hr135 : ws[70 + 5 * x2.toNatClampNeg]? = (some (qDL x2.toNatClampNeg, .inl (g 0, 108, .inl (fun _ => 0))) : Option (Nat × va_E)) := FDL _ r132
                have hh : x2.toNatClampNeg < 10 := (q_r10 (x := x2.toInt) rfl (by have t1 : 0 ≤ x2.toInt := q_nltI c92; have t2 : x2.toInt < 10 := q_nleI c93; omega) (by have t1 : 0 ≤ x2.toInt := q_nltI c92; have t2 : x2.toInt < 10 := q_nleI c93; omega))
                refine q_aald (t := 5) (q := qD x2.toNatClampNeg) C0 V hA4 rfl (q_ix (x := x2.toInt) rfl (by have t1 : 0 ≤ x2.toInt := q_nltI c92; have t2 : x2.toInt < 10 := q_nleI c93; omega) (by have t1 : 0 ≤ x2.toInt := q_nltI c92; have t2 : x2.toInt < 10 := q_nleI c93; omega)) (hfD _ hh) d_1_19_127 ?_
                refine q_goi V (q_runV (As := [.ref (qD x2.toNatClampNeg)]) (rest := []) (d := 4) (mc := 0) (ms := 0) (ci := 11) C0 V rfl LV_NH_346 (c_Pri_canTake l D g ws (68 + 5 * x2.toNatClampNeg) (69 + 5 * x2.toNatClampNeg) qO14 (qD x2.toNatClampNeg) (qDN x2.toNatClampNeg) (qDL x2.toNatClampNeg) hr133 hr134 _) rfl rfl hO14 rfl hl.1 rfl (Nat.le_of_ble_eq_true rfl) ⟨by decide, by decide⟩ ⟨Nat.le_of_ble_eq_true rfl, Nat.le_of_ble_eq_true rfl⟩ d_1_19_128) (fun v138 u137 H locs hp136 V => ?_)
                obtain ⟨rfl, rfl⟩ := hp136
                refine lv_if_eq (tgt := 138) hx hb d_1_19_131 (by decide) (fun c140 => absurd c140 (by decide)) (fun c140 => ?_)
                refine lv_iconst (v := 1) hx hb d_1_19_134 (by decide) ?_
                refine lv_goto (tgt := 139) hx hb d_1_19_135 (by decide) ?_
                refine q_goxv V (q_runSX (As := [.int 1]) (rest := []) (d := 7) (mc := 1) (ms := 6) C0 V rfl LS_NH_138 (c_NH_canHave l D g ws hlt 1 _) rfl hl.1 rfl (Nat.le_of_ble_eq_true rfl) ⟨by decide, by decide⟩ ⟨Nat.le_of_ble_eq_true rfl, Nat.le_of_ble_eq_true rfl⟩ d_1_19_139) (fun qx Ex ce u142 H locs hp141 V hce hcv hcl => ?_) (fun u142 H locs hp141 V => ?_)
                ·
                  obtain ⟨c143, rfl, rfl⟩ := hp141
                  exact absurd c143 (by decide)
                ·
                  obtain ⟨c145, rfl⟩ := hp141
                  refine lv_iload_n hx hb d_1_19_142 rfl (lv_at hl 1 rfl) ?_
                  refine q_ti (v := 1) c76 ?_
                  refine lv_bipush (v := 7) hx hb d_1_19_143 (by decide) ?_
                  refine lv_icmp_ne (tgt := 171) hx hb d_1_19_145 (by decide) (fun c147 => ?_) (fun c147 => absurd c147 (by decide))
                  refine lv_aload_n hx hb d_1_19_171 rfl (lv_at hl 0 rfl) ?_
                  refine q_get (ci := 0) (j := 13) (v := .ref qO14) C0 V i_NH rfl rfl hO0 (by decide) w_437 rfl d_1_19_172 ?_
                  refine q_get (ci := 11) (j := 0) (v := .int 0) C0 V i_Pri rfl rfl hO14 (by decide) w_385 rfl d_1_19_175 ?_
                  refine lv_bipush (v := 9) hx hb d_1_19_178 (by decide) ?_
                  refine lv_icmp_lt (tgt := 185) hx hb d_1_19_180 (by decide) (fun c148 => ?_) (fun c148 => absurd (by decide) c148)
                  refine lv_aload_n hx hb d_1_19_185 rfl (lv_at hl 0 rfl) ?_
                  refine lv_iload_n hx hb d_1_19_186 rfl (lv_at hl 1 rfl) ?_
                  refine q_ti (v := 1) c76 ?_
                  refine lv_iload_n hx hb d_1_19_187 rfl (lv_at hl 2 rfl) ?_
                  refine q_gov V (q_runV (As := [.int 1, .int x2]) (rest := []) (d := 3) (mc := 0) (ms := 0) (ci := 0) C0 V rfl LV_NH_357 (c_NH_addArgument_2 l D g ws qO0 qO1 qO2 qA3 qA4 qA5 qA6 qO7 qO8 qO9 qO10 qO11 qO12 qO13 qO14 qA29 qA30 qA31 qA32 qO33 qO34 x2 f4 hO0 hA4 hO14 hA29 hA30 hA31 (q_Ile (x := 0) (y := x2.toInt) (by decide) rfl (by have t1 : 0 ≤ x2.toInt := q_nltI c92; have t2 : x2.toInt < 10 := q_nleI c93; omega)) (q_Ile (x := x2.toInt) (y := 9) rfl (by decide) (by have t1 : 0 ≤ x2.toInt := q_nltI c92; have t2 : x2.toInt < 10 := q_nleI c93; omega)) qW qWL qD qDN qDL hfD FD FDN FDL _) rfl rfl hO0 rfl hl.1 rfl (Nat.le_of_ble_eq_true rfl) ⟨by decide, by decide⟩ ⟨Nat.le_of_ble_eq_true rfl, Nat.le_of_ble_eq_true rfl⟩ d_1_19_188) (fun u150 H locs hp149 V => ?_)
                  obtain ⟨hg151, hO14, hA29, hA30, hA31⟩ := hp149
                  replace hF := q_gc hF hg151 (q_al (Nat.le_of_ble_eq_true rfl) (q_al (Nat.le_of_ble_eq_true rfl) (q_al (Nat.le_of_ble_eq_true rfl) (q_al (Nat.le_of_ble_eq_true rfl) (fun _ h => absurd h List.not_mem_nil)))))
                  refine lv_aload_n hx hb d_1_19_191 rfl (lv_at hl 0 rfl) ?_
                  replace hO0 := (hg151 _ (q_nc (q_pd 0 40 rfl) (q_nc (q_pd 0 41 rfl) (q_nc (q_pd 0 42 rfl) (q_nc (q_pd 0 43 rfl) List.not_mem_nil))))).trans (hO0)
                  refine q_get (ci := 0) (j := 13) (v := .ref qO14) C0 V i_NH rfl rfl hO0 (by decide) w_437 rfl d_1_19_192 ?_
                  refine q_get (ci := 11) (j := 0) (v := .int 1) C0 V i_Pri rfl rfl hO14 (by decide) w_385 rfl d_1_19_195 ?_
                  exact q_retX (q_reti C0 V (⟨(show ((0 ≤ x1.toInt ∧ x1.toInt ≤ 8) ∧ x1.toInt ≠ 2 ∧ x1.toInt ≠ 3 ∧ (x1.toInt ≤ 1 → (0 ≤ x2.toInt ∧ x2.toInt ≤ 9)) ∧ (x1.toInt = 6 → (0 ≤ x2.toInt ∧ x2.toInt ≤ 255))) ∧ ((x1.toInt = 8 ∧ (1 : Int32).toInt = 0) ∨ (x1.toInt ≠ 8 ∧ (1 : Int32).toInt = 1)) from by have t1 : x1.toInt ≠ 0 := q_neI c1; have t2 : x1.toInt = 1 := q_eqI c76; have t3 : 0 ≤ x2.toInt := q_nltI c92; have t4 : x2.toInt < 10 := q_nleI c93; have e0 : (1 : Int32).toInt = 1 := (by decide); omega), hF⟩) d_1_19_198)
    ·
      refine lv_iload_n hx hb d_1_19_9 rfl (lv_at hl 1 rfl) ?_
      refine lv_iconst (v := 4) hx hb d_1_19_10 (by decide) ?_
      refine lv_icmp_lt (tgt := 24) hx hb d_1_19_11 (by decide) (fun c152 => ?_) (fun c152 => ?_)
      ·
        refine lv_iconst (v := 0) hx hb d_1_19_24 (by decide) ?_
        refine q_goxv V (q_runSX (As := [.int 0]) (rest := []) (d := 7) (mc := 1) (ms := 6) C0 V rfl LS_NH_104 (c_NH_need l D g ws hlt 0 _) rfl hl.1 rfl (Nat.le_of_ble_eq_true rfl) ⟨by decide, by decide⟩ ⟨Nat.le_of_ble_eq_true rfl, Nat.le_of_ble_eq_true rfl⟩ d_1_19_25) (fun qx Ex ce u154 H locs hp153 V hce hcv hcl => ?_) (fun u154 H locs hp153 V => ?_)
        ·
          obtain ⟨c155, rfl, rfl⟩ := hp153
          exact q_outT hno C0 V (⟨⟨rfl, (show ¬ ((0 ≤ x1.toInt ∧ x1.toInt ≤ 8) ∧ x1.toInt ≠ 2 ∧ x1.toInt ≠ 3 ∧ (x1.toInt ≤ 1 → (0 ≤ x2.toInt ∧ x2.toInt ≤ 9)) ∧ (x1.toInt = 6 → (0 ≤ x2.toInt ∧ x2.toInt ≤ 255))) from by have t1 : x1.toInt ≠ 0 := q_neI c1; have t2 : x1.toInt ≠ 1 := q_neI c76; have t3 : x1.toInt < 4 := q_ltI c152; omega)⟩, hF⟩) hce hcv hcl (Nat.le_of_ble_eq_true rfl) (Nat.le_of_ble_eq_true rfl)
        ·
          obtain ⟨c157, rfl⟩ := hp153
          exact absurd c157 (by decide)
      ·
        refine lv_iload_n hx hb d_1_19_14 rfl (lv_at hl 1 rfl) ?_
        refine lv_bipush (v := 8) hx hb d_1_19_15 (by decide) ?_
        refine lv_icmp_gt (tgt := 24) hx hb d_1_19_17 (by decide) (fun c159 => ?_) (fun c159 => ?_)
        ·
          refine lv_iconst (v := 0) hx hb d_1_19_24 (by decide) ?_
          refine q_goxv V (q_runSX (As := [.int 0]) (rest := []) (d := 7) (mc := 1) (ms := 6) C0 V rfl LS_NH_104 (c_NH_need l D g ws hlt 0 _) rfl hl.1 rfl (Nat.le_of_ble_eq_true rfl) ⟨by decide, by decide⟩ ⟨Nat.le_of_ble_eq_true rfl, Nat.le_of_ble_eq_true rfl⟩ d_1_19_25) (fun qx Ex ce u161 H locs hp160 V hce hcv hcl => ?_) (fun u161 H locs hp160 V => ?_)
          ·
            obtain ⟨c162, rfl, rfl⟩ := hp160
            exact q_outT hno C0 V (⟨⟨rfl, (show ¬ ((0 ≤ x1.toInt ∧ x1.toInt ≤ 8) ∧ x1.toInt ≠ 2 ∧ x1.toInt ≠ 3 ∧ (x1.toInt ≤ 1 → (0 ≤ x2.toInt ∧ x2.toInt ≤ 9)) ∧ (x1.toInt = 6 → (0 ≤ x2.toInt ∧ x2.toInt ≤ 255))) from by have t1 : x1.toInt ≠ 0 := q_neI c1; have t2 : x1.toInt ≠ 1 := q_neI c76; have t3 : 4 ≤ x1.toInt := q_nltI c152; have t4 : 8 < x1.toInt := q_ltI c159; omega)⟩, hF⟩) hce hcv hcl (Nat.le_of_ble_eq_true rfl) (Nat.le_of_ble_eq_true rfl)
          ·
            obtain ⟨c164, rfl⟩ := hp160
            exact absurd c164 (by decide)
        ·
          refine lv_iconst (v := 1) hx hb d_1_19_20 (by decide) ?_
          refine lv_goto (tgt := 25) hx hb d_1_19_21 (by decide) ?_
          refine q_goxv V (q_runSX (As := [.int 1]) (rest := []) (d := 7) (mc := 1) (ms := 6) C0 V rfl LS_NH_104 (c_NH_need l D g ws hlt 1 _) rfl hl.1 rfl (Nat.le_of_ble_eq_true rfl) ⟨by decide, by decide⟩ ⟨Nat.le_of_ble_eq_true rfl, Nat.le_of_ble_eq_true rfl⟩ d_1_19_25) (fun qx Ex ce u167 H locs hp166 V hce hcv hcl => ?_) (fun u167 H locs hp166 V => ?_)
          ·
            obtain ⟨c168, rfl, rfl⟩ := hp166
            exact absurd c168 (by decide)
          ·
            obtain ⟨c170, rfl⟩ := hp166
            refine lv_iload_n hx hb d_1_19_28 rfl (lv_at hl 1 rfl) ?_
            refine lv_iconst (v := 1) hx hb d_1_19_29 (by decide) ?_
            refine lv_icmp_gt (tgt := 40) hx hb d_1_19_30 (by decide) (fun c172 => ?_) (fun c172 => absurd (q_Ilt (x := 1) (y := x1.toInt) (by decide) rfl (by have t1 : x1.toInt ≠ 0 := q_neI c1; have t2 : x1.toInt ≠ 1 := q_neI c76; have t3 : 4 ≤ x1.toInt := q_nltI c152; have t4 : x1.toInt ≤ 8 := q_nltI c159; omega)) c172)
            refine lv_iconst (v := 1) hx hb d_1_19_40 (by decide) ?_
            refine lv_goto (tgt := 45) hx hb d_1_19_41 (by decide) ?_
            refine q_goxv V (q_runSX (As := [.int 1]) (rest := []) (d := 7) (mc := 1) (ms := 6) C0 V rfl LS_NH_104 (c_NH_need l D g ws hlt 1 _) rfl hl.1 rfl (Nat.le_of_ble_eq_true rfl) ⟨by decide, by decide⟩ ⟨Nat.le_of_ble_eq_true rfl, Nat.le_of_ble_eq_true rfl⟩ d_1_19_45) (fun qx Ex ce u174 H locs hp173 V hce hcv hcl => ?_) (fun u174 H locs hp173 V => ?_)
            ·
              obtain ⟨c175, rfl, rfl⟩ := hp173
              exact absurd c175 (by decide)
            ·
              obtain ⟨c177, rfl⟩ := hp173
              refine lv_iload_n hx hb d_1_19_48 rfl (lv_at hl 1 rfl) ?_
              refine lv_bipush (v := 6) hx hb d_1_19_49 (by decide) ?_
              refine lv_icmp_ne (tgt := 65) hx hb d_1_19_51 (by decide) (fun c179 => ?_) (fun c179 => ?_)
              ·
                refine lv_iconst (v := 1) hx hb d_1_19_65 (by decide) ?_
                refine lv_goto (tgt := 70) hx hb d_1_19_66 (by decide) ?_
                refine q_goxv V (q_runSX (As := [.int 1]) (rest := []) (d := 7) (mc := 1) (ms := 6) C0 V rfl LS_NH_104 (c_NH_need l D g ws hlt 1 _) rfl hl.1 rfl (Nat.le_of_ble_eq_true rfl) ⟨by decide, by decide⟩ ⟨Nat.le_of_ble_eq_true rfl, Nat.le_of_ble_eq_true rfl⟩ d_1_19_70) (fun qx Ex ce u181 H locs hp180 V hce hcv hcl => ?_) (fun u181 H locs hp180 V => ?_)
                ·
                  obtain ⟨c182, rfl, rfl⟩ := hp180
                  exact absurd c182 (by decide)
                ·
                  obtain ⟨c184, rfl⟩ := hp180
                  refine lv_iload_n hx hb d_1_19_73 rfl (lv_at hl 1 rfl) ?_
                  refine lv_bipush (v := 8) hx hb d_1_19_74 (by decide) ?_
                  refine lv_icmp_ne (tgt := 89) hx hb d_1_19_76 (by decide) (fun c186 => ?_) (fun c186 => ?_)
                  ·
                    refine lv_iload_n hx hb d_1_19_89 rfl (lv_at hl 1 rfl) ?_
                    refine lv_if_ne (tgt := 105) hx hb d_1_19_90 (by decide) (fun c187 => ?_) (fun c187 => absurd c187 c1)
                    refine lv_iconst (v := 1) hx hb d_1_19_105 (by decide) ?_
                    refine lv_goto (tgt := 110) hx hb d_1_19_106 (by decide) ?_
                    refine q_goxv V (q_runSX (As := [.int 1]) (rest := []) (d := 7) (mc := 1) (ms := 6) C0 V rfl LS_NH_138 (c_NH_canHave l D g ws hlt 1 _) rfl hl.1 rfl (Nat.le_of_ble_eq_true rfl) ⟨by decide, by decide⟩ ⟨Nat.le_of_ble_eq_true rfl, Nat.le_of_ble_eq_true rfl⟩ d_1_19_110) (fun qx Ex ce u189 H locs hp188 V hce hcv hcl => ?_) (fun u189 H locs hp188 V => ?_)
                    ·
                      obtain ⟨c190, rfl, rfl⟩ := hp188
                      exact absurd c190 (by decide)
                    ·
                      obtain ⟨c192, rfl⟩ := hp188
                      refine lv_iload_n hx hb d_1_19_113 rfl (lv_at hl 1 rfl) ?_
                      refine lv_iconst (v := 1) hx hb d_1_19_114 (by decide) ?_
                      refine lv_icmp_ne (tgt := 134) hx hb d_1_19_115 (by decide) (fun c194 => ?_) (fun c194 => absurd c194 c76)
                      refine lv_iconst (v := 1) hx hb d_1_19_134 (by decide) ?_
                      refine lv_goto (tgt := 139) hx hb d_1_19_135 (by decide) ?_
                      refine q_goxv V (q_runSX (As := [.int 1]) (rest := []) (d := 7) (mc := 1) (ms := 6) C0 V rfl LS_NH_138 (c_NH_canHave l D g ws hlt 1 _) rfl hl.1 rfl (Nat.le_of_ble_eq_true rfl) ⟨by decide, by decide⟩ ⟨Nat.le_of_ble_eq_true rfl, Nat.le_of_ble_eq_true rfl⟩ d_1_19_139) (fun qx Ex ce u196 H locs hp195 V hce hcv hcl => ?_) (fun u196 H locs hp195 V => ?_)
                      ·
                        obtain ⟨c197, rfl, rfl⟩ := hp195
                        exact absurd c197 (by decide)
                      ·
                        obtain ⟨c199, rfl⟩ := hp195
                        refine lv_iload_n hx hb d_1_19_142 rfl (lv_at hl 1 rfl) ?_
                        refine lv_bipush (v := 7) hx hb d_1_19_143 (by decide) ?_
                        refine lv_icmp_ne (tgt := 171) hx hb d_1_19_145 (by decide) (fun c201 => ?_) (fun c201 => ?_)
                        ·
                          refine lv_aload_n hx hb d_1_19_171 rfl (lv_at hl 0 rfl) ?_
                          refine q_get (ci := 0) (j := 13) (v := .ref qO14) C0 V i_NH rfl rfl hO0 (by decide) w_437 rfl d_1_19_172 ?_
                          refine q_get (ci := 11) (j := 0) (v := .int 0) C0 V i_Pri rfl rfl hO14 (by decide) w_385 rfl d_1_19_175 ?_
                          refine lv_bipush (v := 9) hx hb d_1_19_178 (by decide) ?_
                          refine lv_icmp_lt (tgt := 185) hx hb d_1_19_180 (by decide) (fun c202 => ?_) (fun c202 => absurd (by decide) c202)
                          refine lv_aload_n hx hb d_1_19_185 rfl (lv_at hl 0 rfl) ?_
                          refine lv_iload_n hx hb d_1_19_186 rfl (lv_at hl 1 rfl) ?_
                          refine lv_iload_n hx hb d_1_19_187 rfl (lv_at hl 2 rfl) ?_
                          refine q_gov V (q_runV (As := [.int x1, .int x2]) (rest := []) (d := 2) (mc := 0) (ms := 0) (ci := 0) C0 V rfl LV_NH_357 (c_NH_addArgument_3 l D g ws qO0 qO1 qO2 qA3 qA4 qA5 qA6 qO7 qO8 qO9 qO10 qO11 qO12 qO13 qO14 qA29 qA30 qA31 qA32 qO33 qO34 x1 x2 hO0 hO14 hA29 hA30 hA31 (q_Ile (x := 4) (y := x1.toInt) (by decide) rfl (by have t1 : x1.toInt ≠ 0 := q_neI c1; have t2 : x1.toInt ≠ 1 := q_neI c76; have t3 : 4 ≤ x1.toInt := q_nltI c152; have t4 : x1.toInt ≤ 8 := q_nltI c159; have t5 : x1.toInt ≠ 6 := q_neI c179; have t6 : x1.toInt ≠ 8 := q_neI c186; have t7 : x1.toInt ≠ 7 := q_neI c201; omega)) (q_Ile (x := x1.toInt) (y := 5) rfl (by decide) (by have t1 : x1.toInt ≠ 0 := q_neI c1; have t2 : x1.toInt ≠ 1 := q_neI c76; have t3 : 4 ≤ x1.toInt := q_nltI c152; have t4 : x1.toInt ≤ 8 := q_nltI c159; have t5 : x1.toInt ≠ 6 := q_neI c179; have t6 : x1.toInt ≠ 8 := q_neI c186; have t7 : x1.toInt ≠ 7 := q_neI c201; omega)) _) rfl rfl hO0 rfl hl.1 rfl (Nat.le_of_ble_eq_true rfl) ⟨by decide, by decide⟩ ⟨Nat.le_of_ble_eq_true rfl, Nat.le_of_ble_eq_true rfl⟩ d_1_19_188) (fun u204 H locs hp203 V => ?_)
                          rcases hp203 with ⟨c205, c206, hg207, hO14, hA29, hA30, hA31⟩ | ⟨c208, c209, hg210, hO14, hA29, hA30, hA31⟩ | ⟨c211, hg212, hO14, hA29, hA30, hA31⟩
                          ·
                            replace hF := q_gc hF hg207 (q_al (Nat.le_of_ble_eq_true rfl) (q_al (Nat.le_of_ble_eq_true rfl) (q_al (Nat.le_of_ble_eq_true rfl) (q_al (Nat.le_of_ble_eq_true rfl) (fun _ h => absurd h List.not_mem_nil)))))
                            refine lv_aload_n hx hb d_1_19_191 rfl (lv_at hl 0 rfl) ?_
                            replace hO0 := (hg207 _ (q_nc (q_pd 0 40 rfl) (q_nc (q_pd 0 41 rfl) (q_nc (q_pd 0 42 rfl) (q_nc (q_pd 0 43 rfl) List.not_mem_nil))))).trans (hO0)
                            refine q_get (ci := 0) (j := 13) (v := .ref qO14) C0 V i_NH rfl rfl hO0 (by decide) w_437 rfl d_1_19_192 ?_
                            refine q_get (ci := 11) (j := 0) (v := .int 1) C0 V i_Pri rfl rfl hO14 (by decide) w_385 rfl d_1_19_195 ?_
                            exact q_retX (q_reti C0 V (⟨(show ((0 ≤ x1.toInt ∧ x1.toInt ≤ 8) ∧ x1.toInt ≠ 2 ∧ x1.toInt ≠ 3 ∧ (x1.toInt ≤ 1 → (0 ≤ x2.toInt ∧ x2.toInt ≤ 9)) ∧ (x1.toInt = 6 → (0 ≤ x2.toInt ∧ x2.toInt ≤ 255))) ∧ ((x1.toInt = 8 ∧ (1 : Int32).toInt = 0) ∨ (x1.toInt ≠ 8 ∧ (1 : Int32).toInt = 1)) from by have t1 : x1.toInt ≠ 0 := q_neI c1; have t2 : x1.toInt ≠ 1 := q_neI c76; have t3 : 4 ≤ x1.toInt := q_nltI c152; have t4 : x1.toInt ≤ 8 := q_nltI c159; have t5 : x1.toInt ≠ 6 := q_neI c179; have t6 : x1.toInt ≠ 8 := q_neI c186; have t7 : x1.toInt ≠ 7 := q_neI c201; have t8 : x1.toInt ≠ 4 := q_neI c205; have t9 : x2.toInt ≠ 0 := q_neI c206; have e0 : (1 : Int32).toInt = 1 := (by decide); omega), hF⟩) d_1_19_198)
                          ·
                            replace hF := q_gc hF hg210 (q_al (Nat.le_of_ble_eq_true rfl) (q_al (Nat.le_of_ble_eq_true rfl) (q_al (Nat.le_of_ble_eq_true rfl) (q_al (Nat.le_of_ble_eq_true rfl) (fun _ h => absurd h List.not_mem_nil)))))
                            refine lv_aload_n hx hb d_1_19_191 rfl (lv_at hl 0 rfl) ?_
                            replace hO0 := (hg210 _ (q_nc (q_pd 0 40 rfl) (q_nc (q_pd 0 41 rfl) (q_nc (q_pd 0 42 rfl) (q_nc (q_pd 0 43 rfl) List.not_mem_nil))))).trans (hO0)
                            refine q_get (ci := 0) (j := 13) (v := .ref qO14) C0 V i_NH rfl rfl hO0 (by decide) w_437 rfl d_1_19_192 ?_
                            refine q_get (ci := 11) (j := 0) (v := .int 1) C0 V i_Pri rfl rfl hO14 (by decide) w_385 rfl d_1_19_195 ?_
                            exact q_retX (q_reti C0 V (⟨(show ((0 ≤ x1.toInt ∧ x1.toInt ≤ 8) ∧ x1.toInt ≠ 2 ∧ x1.toInt ≠ 3 ∧ (x1.toInt ≤ 1 → (0 ≤ x2.toInt ∧ x2.toInt ≤ 9)) ∧ (x1.toInt = 6 → (0 ≤ x2.toInt ∧ x2.toInt ≤ 255))) ∧ ((x1.toInt = 8 ∧ (1 : Int32).toInt = 0) ∨ (x1.toInt ≠ 8 ∧ (1 : Int32).toInt = 1)) from by have t1 : x1.toInt ≠ 0 := q_neI c1; have t2 : x1.toInt ≠ 1 := q_neI c76; have t3 : 4 ≤ x1.toInt := q_nltI c152; have t4 : x1.toInt ≤ 8 := q_nltI c159; have t5 : x1.toInt ≠ 6 := q_neI c179; have t6 : x1.toInt ≠ 8 := q_neI c186; have t7 : x1.toInt ≠ 7 := q_neI c201; have t8 : x1.toInt ≠ 4 := q_neI c208; have t9 : x2.toInt = 0 := q_eqI c209; have e0 : (1 : Int32).toInt = 1 := (by decide); omega), hF⟩) d_1_19_198)
                          ·
                            replace hF := q_gc hF hg212 (q_al (Nat.le_of_ble_eq_true rfl) (q_al (Nat.le_of_ble_eq_true rfl) (q_al (Nat.le_of_ble_eq_true rfl) (q_al (Nat.le_of_ble_eq_true rfl) (fun _ h => absurd h List.not_mem_nil)))))
                            refine lv_aload_n hx hb d_1_19_191 rfl (lv_at hl 0 rfl) ?_
                            replace hO0 := (hg212 _ (q_nc (q_pd 0 40 rfl) (q_nc (q_pd 0 41 rfl) (q_nc (q_pd 0 42 rfl) (q_nc (q_pd 0 43 rfl) List.not_mem_nil))))).trans (hO0)
                            refine q_get (ci := 0) (j := 13) (v := .ref qO14) C0 V i_NH rfl rfl hO0 (by decide) w_437 rfl d_1_19_192 ?_
                            refine q_get (ci := 11) (j := 0) (v := .int 1) C0 V i_Pri rfl rfl hO14 (by decide) w_385 rfl d_1_19_195 ?_
                            exact q_retX (q_reti C0 V (⟨(show ((0 ≤ x1.toInt ∧ x1.toInt ≤ 8) ∧ x1.toInt ≠ 2 ∧ x1.toInt ≠ 3 ∧ (x1.toInt ≤ 1 → (0 ≤ x2.toInt ∧ x2.toInt ≤ 9)) ∧ (x1.toInt = 6 → (0 ≤ x2.toInt ∧ x2.toInt ≤ 255))) ∧ ((x1.toInt = 8 ∧ (1 : Int32).toInt = 0) ∨ (x1.toInt ≠ 8 ∧ (1 : Int32).toInt = 1)) from by have t1 : x1.toInt ≠ 0 := q_neI c1; have t2 : x1.toInt ≠ 1 := q_neI c76; have t3 : 4 ≤ x1.toInt := q_nltI c152; have t4 : x1.toInt ≤ 8 := q_nltI c159; have t5 : x1.toInt ≠ 6 := q_neI c179; have t6 : x1.toInt ≠ 8 := q_neI c186; have t7 : x1.toInt ≠ 7 := q_neI c201; have t8 : x1.toInt = 4 := q_eqI c211; have e0 : (1 : Int32).toInt = 1 := (by decide); omega), hF⟩) d_1_19_198)
                        ·
                          refine lv_aload_n hx hb d_1_19_148 rfl (lv_at hl 0 rfl) ?_
                          refine q_get (ci := 0) (j := 0) (v := .ref qO1) C0 V i_NH rfl rfl hO0 (by decide) w_424 rfl d_1_19_149 ?_
                          refine q_get (ci := 1) (j := 2) (v := .int 0) C0 V i_She rfl rfl hO1 (by decide) w_56 rfl d_1_19_152 ?_
                          refine lv_bipush (v := 64) hx hb d_1_19_155 (by decide) ?_
                          refine lv_icmp_le (tgt := 171) hx hb d_1_19_157 (by decide) (fun c213 => ?_) (fun c213 => absurd (by decide) c213)
                          refine lv_aload_n hx hb d_1_19_171 rfl (lv_at hl 0 rfl) ?_
                          refine q_get (ci := 0) (j := 13) (v := .ref qO14) C0 V i_NH rfl rfl hO0 (by decide) w_437 rfl d_1_19_172 ?_
                          refine q_get (ci := 11) (j := 0) (v := .int 0) C0 V i_Pri rfl rfl hO14 (by decide) w_385 rfl d_1_19_175 ?_
                          refine lv_bipush (v := 9) hx hb d_1_19_178 (by decide) ?_
                          refine lv_icmp_lt (tgt := 185) hx hb d_1_19_180 (by decide) (fun c214 => ?_) (fun c214 => absurd (by decide) c214)
                          refine lv_aload_n hx hb d_1_19_185 rfl (lv_at hl 0 rfl) ?_
                          refine lv_iload_n hx hb d_1_19_186 rfl (lv_at hl 1 rfl) ?_
                          refine q_ti (v := 7) c201 ?_
                          refine lv_iload_n hx hb d_1_19_187 rfl (lv_at hl 2 rfl) ?_
                          refine q_gov V (q_runV (As := [.int 7, .int x2]) (rest := []) (d := 3) (mc := 0) (ms := 0) (ci := 0) C0 V rfl LV_NH_357 (c_NH_addArgument_4 l D g ws qO0 qO1 qO2 qA3 qA4 qA5 qA6 qO7 qO8 qO9 qO10 qO11 qO12 qO13 qO14 qA15 qA29 qA30 qA31 qA32 qO33 qO34 qO46 qO47 qO48 qO49 qO50 qO51 qO52 qO53 qO54 qA57 x2 hO0 hO1 hO14 hA29 hA30 hA31 hA32 hO46 _) rfl rfl hO0 rfl hl.1 rfl (Nat.le_of_ble_eq_true rfl) ⟨by decide, by decide⟩ ⟨Nat.le_of_ble_eq_true rfl, Nat.le_of_ble_eq_true rfl⟩ d_1_19_188) (fun u216 H locs hp215 V => ?_)
                          obtain ⟨hg217, hO1, hO14, hA29, hA30, hA31, hO46⟩ := hp215
                          replace hF := q_gc hF hg217 (q_al (Nat.le_of_ble_eq_true rfl) (q_al (Nat.le_of_ble_eq_true rfl) (q_al (Nat.le_of_ble_eq_true rfl) (q_al (Nat.le_of_ble_eq_true rfl) (q_al (Nat.le_of_ble_eq_true rfl) (q_al (Nat.le_of_ble_eq_true rfl) (fun _ h => absurd h List.not_mem_nil)))))))
                          refine lv_aload_n hx hb d_1_19_191 rfl (lv_at hl 0 rfl) ?_
                          replace hO0 := (hg217 _ (q_nc (q_pd 0 1 rfl) (q_nc (q_pd 0 40 rfl) (q_nc (q_pd 0 41 rfl) (q_nc (q_pd 0 42 rfl) (q_nc (q_pd 0 43 rfl) (q_nc (q_pd 0 48 rfl) List.not_mem_nil))))))).trans (hO0)
                          refine q_get (ci := 0) (j := 13) (v := .ref qO14) C0 V i_NH rfl rfl hO0 (by decide) w_437 rfl d_1_19_192 ?_
                          refine q_get (ci := 11) (j := 0) (v := .int 1) C0 V i_Pri rfl rfl hO14 (by decide) w_385 rfl d_1_19_195 ?_
                          exact q_retX (q_reti C0 V (⟨(show ((0 ≤ x1.toInt ∧ x1.toInt ≤ 8) ∧ x1.toInt ≠ 2 ∧ x1.toInt ≠ 3 ∧ (x1.toInt ≤ 1 → (0 ≤ x2.toInt ∧ x2.toInt ≤ 9)) ∧ (x1.toInt = 6 → (0 ≤ x2.toInt ∧ x2.toInt ≤ 255))) ∧ ((x1.toInt = 8 ∧ (1 : Int32).toInt = 0) ∨ (x1.toInt ≠ 8 ∧ (1 : Int32).toInt = 1)) from by have t1 : x1.toInt ≠ 0 := q_neI c1; have t2 : x1.toInt ≠ 1 := q_neI c76; have t3 : 4 ≤ x1.toInt := q_nltI c152; have t4 : x1.toInt ≤ 8 := q_nltI c159; have t5 : x1.toInt ≠ 6 := q_neI c179; have t6 : x1.toInt ≠ 8 := q_neI c186; have t7 : x1.toInt = 7 := q_eqI c201; have e0 : (1 : Int32).toInt = 1 := (by decide); omega), hF⟩) d_1_19_198)
                  ·
                    refine lv_aload_n hx hb d_1_19_79 rfl (lv_at hl 0 rfl) ?_
                    refine q_get (ci := 0) (j := 13) (v := .ref qO14) C0 V i_NH rfl rfl hO0 (by decide) w_437 rfl d_1_19_80 ?_
                    refine lv_iconst (v := 0) hx hb d_1_19_83 (by decide) ?_
                    refine q_put (ci := 11) (j := 0) (v := .int 0) (ty := .int) C0 V i_Pri o_Pri n_Pri rfl rfl hO14 (by decide) w_385 rfl rfl rfl rfl (Nat.le_of_ble_eq_true rfl) d_1_19_84 (fun H locs w218 hu219 hO14 V => ?_)
                    replace hO14 : w218[40]? = (some (qO14, .inr (11, [.int 0, .ref qA29, .ref qA30, .ref qA31, .ref qA32, .ref qO1, .ref qO33, .ref qO11, .ref qO34, .int 0, .int 0, .int 0])) : Option (Nat × va_E)) := hO14
                    replace hF := q_gs hF hu219 (Nat.le_of_ble_eq_true rfl)
                    refine lv_iconst (v := 0) hx hb d_1_19_87 (by decide) ?_
                    refine W.widen (k := 5) (n := 30) (Nat.le_of_ble_eq_true rfl) (Nat.le_of_ble_eq_true rfl) ?_
                    exact q_retX (q_reti C0 V (⟨(show ((0 ≤ x1.toInt ∧ x1.toInt ≤ 8) ∧ x1.toInt ≠ 2 ∧ x1.toInt ≠ 3 ∧ (x1.toInt ≤ 1 → (0 ≤ x2.toInt ∧ x2.toInt ≤ 9)) ∧ (x1.toInt = 6 → (0 ≤ x2.toInt ∧ x2.toInt ≤ 255))) ∧ ((x1.toInt = 8 ∧ (0 : Int32).toInt = 0) ∨ (x1.toInt ≠ 8 ∧ (0 : Int32).toInt = 1)) from by have t1 : x1.toInt ≠ 0 := q_neI c1; have t2 : x1.toInt ≠ 1 := q_neI c76; have t3 : 4 ≤ x1.toInt := q_nltI c152; have t4 : x1.toInt ≤ 8 := q_nltI c159; have t5 : x1.toInt ≠ 6 := q_neI c179; have t6 : x1.toInt = 8 := q_eqI c186; have e0 : (0 : Int32).toInt = 0 := (by decide); omega), hF⟩) d_1_19_88)
              ·
                refine lv_iload_n hx hb d_1_19_54 rfl (lv_at hl 2 rfl) ?_
                refine lv_if_lt (tgt := 69) hx hb d_1_19_55 (by decide) (fun c220 => ?_) (fun c220 => ?_)
                ·
                  refine lv_iconst (v := 0) hx hb d_1_19_69 (by decide) ?_
                  refine q_goxv V (q_runSX (As := [.int 0]) (rest := []) (d := 7) (mc := 1) (ms := 6) C0 V rfl LS_NH_104 (c_NH_need l D g ws hlt 0 _) rfl hl.1 rfl (Nat.le_of_ble_eq_true rfl) ⟨by decide, by decide⟩ ⟨Nat.le_of_ble_eq_true rfl, Nat.le_of_ble_eq_true rfl⟩ d_1_19_70) (fun qx Ex ce u222 H locs hp221 V hce hcv hcl => ?_) (fun u222 H locs hp221 V => ?_)
                  ·
                    obtain ⟨c223, rfl, rfl⟩ := hp221
                    exact q_outT hno C0 V (⟨⟨rfl, (show ¬ ((0 ≤ x1.toInt ∧ x1.toInt ≤ 8) ∧ x1.toInt ≠ 2 ∧ x1.toInt ≠ 3 ∧ (x1.toInt ≤ 1 → (0 ≤ x2.toInt ∧ x2.toInt ≤ 9)) ∧ (x1.toInt = 6 → (0 ≤ x2.toInt ∧ x2.toInt ≤ 255))) from by have t1 : x1.toInt ≠ 0 := q_neI c1; have t2 : x1.toInt ≠ 1 := q_neI c76; have t3 : 4 ≤ x1.toInt := q_nltI c152; have t4 : x1.toInt ≤ 8 := q_nltI c159; have t5 : x1.toInt = 6 := q_eqI c179; have t6 : x2.toInt < 0 := q_ltI c220; omega)⟩, hF⟩) hce hcv hcl (Nat.le_of_ble_eq_true rfl) (Nat.le_of_ble_eq_true rfl)
                  ·
                    obtain ⟨c225, rfl⟩ := hp221
                    exact absurd c225 (by decide)
                ·
                  refine lv_iload_n hx hb d_1_19_58 rfl (lv_at hl 2 rfl) ?_
                  refine lv_sipush (v := 255) hx hb d_1_19_59 (by decide) ?_
                  refine lv_icmp_gt (tgt := 69) hx hb d_1_19_62 (by decide) (fun c227 => ?_) (fun c227 => ?_)
                  ·
                    refine lv_iconst (v := 0) hx hb d_1_19_69 (by decide) ?_
                    refine q_goxv V (q_runSX (As := [.int 0]) (rest := []) (d := 7) (mc := 1) (ms := 6) C0 V rfl LS_NH_104 (c_NH_need l D g ws hlt 0 _) rfl hl.1 rfl (Nat.le_of_ble_eq_true rfl) ⟨by decide, by decide⟩ ⟨Nat.le_of_ble_eq_true rfl, Nat.le_of_ble_eq_true rfl⟩ d_1_19_70) (fun qx Ex ce u229 H locs hp228 V hce hcv hcl => ?_) (fun u229 H locs hp228 V => ?_)
                    ·
                      obtain ⟨c230, rfl, rfl⟩ := hp228
                      exact q_outT hno C0 V (⟨⟨rfl, (show ¬ ((0 ≤ x1.toInt ∧ x1.toInt ≤ 8) ∧ x1.toInt ≠ 2 ∧ x1.toInt ≠ 3 ∧ (x1.toInt ≤ 1 → (0 ≤ x2.toInt ∧ x2.toInt ≤ 9)) ∧ (x1.toInt = 6 → (0 ≤ x2.toInt ∧ x2.toInt ≤ 255))) from by have t1 : x1.toInt ≠ 0 := q_neI c1; have t2 : x1.toInt ≠ 1 := q_neI c76; have t3 : 4 ≤ x1.toInt := q_nltI c152; have t4 : x1.toInt ≤ 8 := q_nltI c159; have t5 : x1.toInt = 6 := q_eqI c179; have t6 : 0 ≤ x2.toInt := q_nltI c220; have t7 : 255 < x2.toInt := q_ltI c227; omega)⟩, hF⟩) hce hcv hcl (Nat.le_of_ble_eq_true rfl) (Nat.le_of_ble_eq_true rfl)
                    ·
                      obtain ⟨c232, rfl⟩ := hp228
                      exact absurd c232 (by decide)
                  ·
                    refine lv_iconst (v := 1) hx hb d_1_19_65 (by decide) ?_
                    refine lv_goto (tgt := 70) hx hb d_1_19_66 (by decide) ?_
                    refine q_goxv V (q_runSX (As := [.int 1]) (rest := []) (d := 7) (mc := 1) (ms := 6) C0 V rfl LS_NH_104 (c_NH_need l D g ws hlt 1 _) rfl hl.1 rfl (Nat.le_of_ble_eq_true rfl) ⟨by decide, by decide⟩ ⟨Nat.le_of_ble_eq_true rfl, Nat.le_of_ble_eq_true rfl⟩ d_1_19_70) (fun qx Ex ce u235 H locs hp234 V hce hcv hcl => ?_) (fun u235 H locs hp234 V => ?_)
                    ·
                      obtain ⟨c236, rfl, rfl⟩ := hp234
                      exact absurd c236 (by decide)
                    ·
                      obtain ⟨c238, rfl⟩ := hp234
                      refine lv_iload_n hx hb d_1_19_73 rfl (lv_at hl 1 rfl) ?_
                      refine q_ti (v := 6) c179 ?_
                      refine lv_bipush (v := 8) hx hb d_1_19_74 (by decide) ?_
                      refine lv_icmp_ne (tgt := 89) hx hb d_1_19_76 (by decide) (fun c240 => ?_) (fun c240 => absurd c240 (by decide))
                      refine lv_iload_n hx hb d_1_19_89 rfl (lv_at hl 1 rfl) ?_
                      refine q_ti (v := 6) c179 ?_
                      refine lv_if_ne (tgt := 105) hx hb d_1_19_90 (by decide) (fun c241 => ?_) (fun c241 => absurd c241 (by decide))
                      refine lv_iconst (v := 1) hx hb d_1_19_105 (by decide) ?_
                      refine lv_goto (tgt := 110) hx hb d_1_19_106 (by decide) ?_
                      refine q_goxv V (q_runSX (As := [.int 1]) (rest := []) (d := 7) (mc := 1) (ms := 6) C0 V rfl LS_NH_138 (c_NH_canHave l D g ws hlt 1 _) rfl hl.1 rfl (Nat.le_of_ble_eq_true rfl) ⟨by decide, by decide⟩ ⟨Nat.le_of_ble_eq_true rfl, Nat.le_of_ble_eq_true rfl⟩ d_1_19_110) (fun qx Ex ce u243 H locs hp242 V hce hcv hcl => ?_) (fun u243 H locs hp242 V => ?_)
                      ·
                        obtain ⟨c244, rfl, rfl⟩ := hp242
                        exact absurd c244 (by decide)
                      ·
                        obtain ⟨c246, rfl⟩ := hp242
                        refine lv_iload_n hx hb d_1_19_113 rfl (lv_at hl 1 rfl) ?_
                        refine q_ti (v := 6) c179 ?_
                        refine lv_iconst (v := 1) hx hb d_1_19_114 (by decide) ?_
                        refine lv_icmp_ne (tgt := 134) hx hb d_1_19_115 (by decide) (fun c248 => ?_) (fun c248 => absurd c248 (by decide))
                        refine lv_iconst (v := 1) hx hb d_1_19_134 (by decide) ?_
                        refine lv_goto (tgt := 139) hx hb d_1_19_135 (by decide) ?_
                        refine q_goxv V (q_runSX (As := [.int 1]) (rest := []) (d := 7) (mc := 1) (ms := 6) C0 V rfl LS_NH_138 (c_NH_canHave l D g ws hlt 1 _) rfl hl.1 rfl (Nat.le_of_ble_eq_true rfl) ⟨by decide, by decide⟩ ⟨Nat.le_of_ble_eq_true rfl, Nat.le_of_ble_eq_true rfl⟩ d_1_19_139) (fun qx Ex ce u250 H locs hp249 V hce hcv hcl => ?_) (fun u250 H locs hp249 V => ?_)
                        ·
                          obtain ⟨c251, rfl, rfl⟩ := hp249
                          exact absurd c251 (by decide)
                        ·
                          obtain ⟨c253, rfl⟩ := hp249
                          refine lv_iload_n hx hb d_1_19_142 rfl (lv_at hl 1 rfl) ?_
                          refine q_ti (v := 6) c179 ?_
                          refine lv_bipush (v := 7) hx hb d_1_19_143 (by decide) ?_
                          refine lv_icmp_ne (tgt := 171) hx hb d_1_19_145 (by decide) (fun c255 => ?_) (fun c255 => absurd c255 (by decide))
                          refine lv_aload_n hx hb d_1_19_171 rfl (lv_at hl 0 rfl) ?_
                          refine q_get (ci := 0) (j := 13) (v := .ref qO14) C0 V i_NH rfl rfl hO0 (by decide) w_437 rfl d_1_19_172 ?_
                          refine q_get (ci := 11) (j := 0) (v := .int 0) C0 V i_Pri rfl rfl hO14 (by decide) w_385 rfl d_1_19_175 ?_
                          refine lv_bipush (v := 9) hx hb d_1_19_178 (by decide) ?_
                          refine lv_icmp_lt (tgt := 185) hx hb d_1_19_180 (by decide) (fun c256 => ?_) (fun c256 => absurd (by decide) c256)
                          refine lv_aload_n hx hb d_1_19_185 rfl (lv_at hl 0 rfl) ?_
                          refine lv_iload_n hx hb d_1_19_186 rfl (lv_at hl 1 rfl) ?_
                          refine q_ti (v := 6) c179 ?_
                          refine lv_iload_n hx hb d_1_19_187 rfl (lv_at hl 2 rfl) ?_
                          refine q_gov V (q_runV (As := [.int 6, .int x2]) (rest := []) (d := 2) (mc := 0) (ms := 0) (ci := 0) C0 V rfl LV_NH_357 (c_NH_addArgument_5 l D g ws qO0 qO1 qO2 qA3 qA4 qA5 qA6 qO7 qO8 qO9 qO10 qO11 qO12 qO13 qO14 qA29 qA30 qA31 qA32 qO33 qO34 x2 hO0 hO14 hA29 hA30 hA31 (q_Ile (x := 0) (y := x2.toInt) (by decide) rfl (by have t1 : 0 ≤ x2.toInt := q_nltI c220; have t2 : x2.toInt ≤ 255 := q_nltI c227; omega)) (q_Ile (x := x2.toInt) (y := 255) rfl (by decide) (by have t1 : 0 ≤ x2.toInt := q_nltI c220; have t2 : x2.toInt ≤ 255 := q_nltI c227; omega)) _) rfl rfl hO0 rfl hl.1 rfl (Nat.le_of_ble_eq_true rfl) ⟨by decide, by decide⟩ ⟨Nat.le_of_ble_eq_true rfl, Nat.le_of_ble_eq_true rfl⟩ d_1_19_188) (fun u258 H locs hp257 V => ?_)
                          obtain ⟨hg259, hO14, hA29, hA30, hA31⟩ := hp257
                          replace hF := q_gc hF hg259 (q_al (Nat.le_of_ble_eq_true rfl) (q_al (Nat.le_of_ble_eq_true rfl) (q_al (Nat.le_of_ble_eq_true rfl) (q_al (Nat.le_of_ble_eq_true rfl) (fun _ h => absurd h List.not_mem_nil)))))
                          refine lv_aload_n hx hb d_1_19_191 rfl (lv_at hl 0 rfl) ?_
                          replace hO0 := (hg259 _ (q_nc (q_pd 0 40 rfl) (q_nc (q_pd 0 41 rfl) (q_nc (q_pd 0 42 rfl) (q_nc (q_pd 0 43 rfl) List.not_mem_nil))))).trans (hO0)
                          refine q_get (ci := 0) (j := 13) (v := .ref qO14) C0 V i_NH rfl rfl hO0 (by decide) w_437 rfl d_1_19_192 ?_
                          refine q_get (ci := 11) (j := 0) (v := .int 1) C0 V i_Pri rfl rfl hO14 (by decide) w_385 rfl d_1_19_195 ?_
                          exact q_retX (q_reti C0 V (⟨(show ((0 ≤ x1.toInt ∧ x1.toInt ≤ 8) ∧ x1.toInt ≠ 2 ∧ x1.toInt ≠ 3 ∧ (x1.toInt ≤ 1 → (0 ≤ x2.toInt ∧ x2.toInt ≤ 9)) ∧ (x1.toInt = 6 → (0 ≤ x2.toInt ∧ x2.toInt ≤ 255))) ∧ ((x1.toInt = 8 ∧ (1 : Int32).toInt = 0) ∨ (x1.toInt ≠ 8 ∧ (1 : Int32).toInt = 1)) from by have t1 : x1.toInt ≠ 0 := q_neI c1; have t2 : x1.toInt ≠ 1 := q_neI c76; have t3 : 4 ≤ x1.toInt := q_nltI c152; have t4 : x1.toInt ≤ 8 := q_nltI c159; have t5 : x1.toInt = 6 := q_eqI c179; have t6 : 0 ≤ x2.toInt := q_nltI c220; have t7 : x2.toInt ≤ 255 := q_nltI c227; have e0 : (1 : Int32).toInt = 1 := (by decide); omega), hF⟩) d_1_19_198)
