/-! the class on a fresh object: decimal -/
theorem d_4_6_0 : decode prog_4_method_6_code 0 = .ok (.aload_n 0, 1) := by decide +kernel
theorem d_4_6_1 : decode prog_4_method_6_code 1 = .ok (.getfield 20, 3) := by decide +kernel
theorem d_4_6_4 : decode prog_4_method_6_code 4 = .ok (.getfield 55, 3) := by decide +kernel
theorem w_111 : (Cond.fieldLink "NumberHouse$DecimalWork" (55 : Nat) "NumberHouse$Mill" "number" "LNumberHouse$Big;") ∈ q_tbl := q_of 111 (by decide +kernel) (by decide +kernel)
theorem d_4_6_7 : decode prog_4_method_6_code 7 = .ok (.aload_n 1, 1) := by decide +kernel
theorem d_4_6_8 : decode prog_4_method_6_code 8 = .ok (.getfield 24, 3) := by decide +kernel
theorem d_4_6_11 : decode prog_4_method_6_code 11 = .ok (.aload_n 2, 1) := by decide +kernel
theorem d_4_6_12 : decode prog_4_method_6_code 12 = .ok (.getfield 24, 3) := by decide +kernel
theorem d_4_6_15 : decode prog_4_method_6_code 15 = .ok (.invokevirtual 94, 3) := by decide +kernel
theorem w_1377 : (Cond.methodLink "NumberHouse$DecimalWork" (94 : Nat) ({ cls := "NumberHouse$Big", name := "product", desc := "(LNumberHouse$Big;LNumberHouse$Big;)V" } : MethodName)) ∈ q_tbl := q_of 1377 (by decide +kernel) (by decide +kernel)
theorem LV_DW_94 : q_LV "NumberHouse$DecimalWork" 94 y_Big_product prog_2_method_31_code 13 none 2 := ⟨w_1262, w_4, w_1377, w_1260, w_1261, ⟨by decide, by decide, by decide +kernel⟩⟩
theorem d_4_6_18 : decode prog_4_method_6_code 18 = .ok (.aload_n 0, 1) := by decide +kernel
theorem d_4_6_19 : decode prog_4_method_6_code 19 = .ok (.aload_n 1, 1) := by decide +kernel
theorem d_4_6_20 : decode prog_4_method_6_code 20 = .ok (.getfield 48, 3) := by decide +kernel
theorem w_176 : (Cond.fieldLink "NumberHouse$DecimalWork" (48 : Nat) "NumberHouse$Dec" "scale" "I") ∈ q_tbl := q_of 176 (by decide +kernel) (by decide +kernel)
theorem d_4_6_23 : decode prog_4_method_6_code 23 = .ok (.i2l, 1) := by decide +kernel
theorem d_4_6_24 : decode prog_4_method_6_code 24 = .ok (.aload_n 2, 1) := by decide +kernel
theorem d_4_6_25 : decode prog_4_method_6_code 25 = .ok (.getfield 48, 3) := by decide +kernel
theorem d_4_6_28 : decode prog_4_method_6_code 28 = .ok (.i2l, 1) := by decide +kernel
theorem d_4_6_29 : decode prog_4_method_6_code 29 = .ok (.ladd, 1) := by decide +kernel
theorem d_4_6_30 : decode prog_4_method_6_code 30 = .ok (.putfield 56, 3) := by decide +kernel
theorem w_212 : (Cond.fieldLink "NumberHouse$DecimalWork" (56 : Nat) "NumberHouse$DecimalWork" "scale" "J") ∈ q_tbl := q_of 212 (by decide +kernel) (by decide +kernel)
theorem d_4_6_33 : decode prog_4_method_6_code 33 = .ok (.return_, 1) := by decide +kernel
def y_DW_multiply : MethodName := ⟨"NumberHouse$DecimalWork", "multiply", "(LNumberHouse$Dec;LNumberHouse$Dec;)V"⟩
set_option maxRecDepth 100000 in
set_option maxHeartbeats 4000000 in
theorem c_DW_multiply (l : Launch) (D : va_G) (g : Nat → ClassId) (ws : va_W) (kO0 kO1 kO2 kO4 kO5 kO6 kO8 kA21 qO0 qO1 qO2 qO3 qO4 qO5 qO6 qO8 qO9 qO10 qO11 qO12 qO13 qO14 qO15 qO16 qO17 qA18 qA19 qA21 : Nat) (hO0 : ws[kO0]? = (some (qO0, .inr (5, [.ref qO3, .long 0, .ref qO4, .int 0])) : Option (Nat × va_E))) (hO1 : ws[kO1]? = (some (qO1, .inr (3, [.ref qO5, .int 0, .int 1])) : Option (Nat × va_E))) (hO2 : ws[kO2]? = (some (qO2, .inr (3, [.ref qO6, .int 0, .int 1])) : Option (Nat × va_E))) (hO4 : ws[kO4]? = (some (qO4, .inr (4, [.ref qO8, .ref qO9, .ref qO10, .ref qO11, .ref qO12, .ref qO13, .ref qO14, .ref qO15, .ref qO16, .ref qO17])) : Option (Nat × va_E))) (hO5 : ws[kO5]? = (some (qO5, .inr (2, [.ref qA18, .int 0, .int 0])) : Option (Nat × va_E))) (hO6 : ws[kO6]? = (some (qO6, .inr (2, [.ref qA19, .int 0, .int 0])) : Option (Nat × va_E))) (hO8 : ws[kO8]? = (some (qO8, .inr (2, [.ref qA21, .int 0, .int 0])) : Option (Nat × va_E))) (hA21 : ws[kA21]? = (some (qA21, .inl (g 0, 220, .inl (fun _ => 0))) : Option (Nat × va_E))) (n_O5_O8 : kO5 ≠ kO8) (n_O6_O8 : kO6 ≠ kO8) : q_mV l y_DW_multiply prog_4_method_6_code 3 4 0 0 D g [.ref qO0, .ref qO1, .ref qO2] ws (fun u => q_un ws u [kO0, kO8] ∧ u[kO0]? = (some (qO0, .inr (5, [.ref qO3, .long 0, .ref qO4, .int 0])) : Option (Nat × va_E)) ∧ u[kO8]? = (some (qO8, .inr (2, [.ref qA21, .int 0, .int 0])) : Option (Nat × va_E))) := by
  intro sz
  refine q_into (by decide) (Nat.le_of_ble_eq_true rfl) ?_
  intro p e s m below meth c ls hsz C0 V hl
  have hx := C0.1
  have hb := C0.2.1
  have hl : lv_has ls 3 [(0, .ref qO0), (1, .ref qO1), (2, .ref qO2)] := hl
  have n_A21_O0 := q_df hA21 hO0
  have n_A21_O8 := q_df hA21 hO8
  have n_O0_O8 := q_dc hO0 hO8 (q_pd 5 2 rfl)
  have n_O1_O0 := q_dc hO1 hO0 (q_pd 3 5 rfl)
  have n_O1_O8 := q_dc hO1 hO8 (q_pd 3 2 rfl)
  have n_O2_O0 := q_dc hO2 hO0 (q_pd 3 5 rfl)
  have n_O2_O8 := q_dc hO2 hO8 (q_pd 3 2 rfl)
  have n_O4_O0 := q_dc hO4 hO0 (q_pd 4 5 rfl)
  have n_O4_O8 := q_dc hO4 hO8 (q_pd 4 2 rfl)
  have n_O5_O0 := q_dc hO5 hO0 (q_pd 2 5 rfl)
  have n_O6_O0 := q_dc hO6 hO0 (q_pd 2 5 rfl)
  have n_O8_O0 := q_dc hO8 hO0 (q_pd 2 5 rfl)
  have hF : q_un ws ws [kO0, kO8] := q_u0
  refine lv_aload_n hx hb d_4_6_0 rfl (lv_at hl 0 rfl) ?_
  refine q_get (ci := 5) (j := 2) (v := .ref qO4) C0 V i_DW rfl rfl hO0 (by decide) w_214 rfl d_4_6_1 ?_
  refine q_get (ci := 4) (j := 0) (v := .ref qO8) C0 V i_Mil rfl rfl hO4 (by decide) w_111 rfl d_4_6_4 ?_
  refine lv_aload_n hx hb d_4_6_7 rfl (lv_at hl 1 rfl) ?_
  refine q_get (ci := 3) (j := 0) (v := .ref qO5) C0 V i_Dec rfl rfl hO1 (by decide) w_171 rfl d_4_6_8 ?_
  refine lv_aload_n hx hb d_4_6_11 rfl (lv_at hl 2 rfl) ?_
  refine q_get (ci := 3) (j := 0) (v := .ref qO6) C0 V i_Dec rfl rfl hO2 (by decide) w_171 rfl d_4_6_12 ?_
  refine q_gov V (q_runV (As := [.ref qO5, .ref qO6]) (rest := []) (d := 3) (mc := 0) (ms := 0) (ci := 2) C0 V rfl LV_DW_94 (c_Big_product l D g ws kO8 kO5 kO6 kA21 qO8 qO5 qO6 qA21 qA18 qA19 hO8 hO5 hO6 hA21 n_O5_O8 n_O6_O8 _) rfl rfl hO8 rfl hl.1 rfl (Nat.le_of_ble_eq_true rfl) ⟨by decide, by decide⟩ ⟨Nat.le_of_ble_eq_true rfl, Nat.le_of_ble_eq_true rfl⟩ d_4_6_15) (fun u2 H locs hp1 V => ?_)
  obtain ⟨hg3, hO8⟩ := hp1
  replace hF := q_uc hF hg3 (q_sc (.tail _ (.head _)) (fun _ h => absurd h List.not_mem_nil))
  refine lv_aload_n hx hb d_4_6_18 rfl (lv_at hl 0 rfl) ?_
  refine lv_aload_n hx hb d_4_6_19 rfl (lv_at hl 1 rfl) ?_
  replace hO1 := (hg3 _ (q_nc n_O1_O8 List.not_mem_nil)).trans (hO1)
  refine q_get (ci := 3) (j := 1) (v := .int 0) C0 V i_Dec rfl rfl hO1 (by decide) w_176 rfl d_4_6_20 ?_
  refine lv_i2l hx hb d_4_6_23 rfl ?_
  refine q_tl (v := 0) (by decide) ?_
  refine lv_aload_n hx hb d_4_6_24 rfl (lv_at hl 2 rfl) ?_
  replace hO2 := (hg3 _ (q_nc n_O2_O8 List.not_mem_nil)).trans (hO2)
  refine q_get (ci := 3) (j := 1) (v := .int 0) C0 V i_Dec rfl rfl hO2 (by decide) w_176 rfl d_4_6_25 ?_
  refine lv_i2l hx hb d_4_6_28 rfl ?_
  refine q_tl (v := 0) (by decide) ?_
  refine lv_ladd hx hb d_4_6_29 ?_
  refine q_tl (v := 0) (by decide) ?_
  replace hO0 := (hg3 _ (q_nc n_O0_O8 List.not_mem_nil)).trans (hO0)
  refine q_put (ci := 5) (j := 1) (v := .long 0) (ty := .long) C0 V i_DW o_DW n_DW rfl rfl hO0 (by decide) w_212 rfl rfl rfl rfl (Nat.le_of_ble_eq_true rfl) d_4_6_30 (fun H locs w4 hu5 hO0 V => ?_)
  replace hO0 : w4[kO0]? = (some (qO0, .inr (5, [.ref qO3, .long 0, .ref qO4, .int 0])) : Option (Nat × va_E)) := hO0
  replace hF := q_us hF hu5 (.head _)
  replace hO8 := (hu5 _ n_O8_O0).trans (hO8)
  exact q_retv C0 V (⟨hF, hO0, hO8⟩) d_4_6_33
theorem d_8_13_0 : decode prog_8_method_13_code 0 = .ok (.aload_n 1, 1) := by decide +kernel
theorem d_8_13_1 : decode prog_8_method_13_code 1 = .ok (.getfield 62, 3) := by decide +kernel
theorem d_8_13_4 : decode prog_8_method_13_code 4 = .ok (.ifCond .ne 5, 3) := by decide +kernel
theorem d_8_13_7 : decode prog_8_method_13_code 7 = .ok (.iconst 1, 1) := by decide +kernel
theorem d_8_13_8 : decode prog_8_method_13_code 8 = .ok (.ireturn, 1) := by decide +kernel
def y_Mil_countFigures : MethodName := ⟨"NumberHouse$Mill", "countFigures", "(LNumberHouse$Big;)I"⟩
set_option maxRecDepth 100000 in
set_option maxHeartbeats 4000000 in
theorem c_Mil_countFigures (l : Launch) (D : va_G) (g : Nat → ClassId) (ws : va_W) (kO1 qO0 qO1 qA11 : Nat) (hO1 : ws[kO1]? = (some (qO1, .inr (2, [.ref qA11, .int 0, .int 0])) : Option (Nat × va_E))) : q_mI l y_Mil_countFigures prog_8_method_13_code 4 (.int) 1 0 0 D g [.ref qO0, .ref qO1] ws (fun r u => 1 = r ∧ ws = u) := by
  intro sz
  refine q_into (by decide) (Nat.le_of_ble_eq_true rfl) ?_
  intro p e s m below meth c ls hsz C0 V hl
  have hx := C0.1
  have hb := C0.2.1
  have hl : lv_has ls 4 [(0, .ref qO0), (1, .ref qO1)] := hl
  refine lv_aload_n hx hb d_8_13_0 rfl (lv_at hl 1 rfl) ?_
  refine q_get (ci := 2) (j := 1) (v := .int 0) C0 V i_Big rfl rfl hO1 (by decide) w_89 rfl d_8_13_1 ?_
  refine lv_if_ne (tgt := 9) hx hb d_8_13_4 (by decide) (fun c1 => absurd (by decide) c1) (fun c1 => ?_)
  refine lv_iconst (v := 1) hx hb d_8_13_7 (by decide) ?_
  exact q_reti C0 V (⟨rfl, rfl⟩) d_8_13_8
set_option maxRecDepth 100000 in
set_option maxHeartbeats 4000000 in
theorem c_Big_copy_5 (l : Launch) (D : va_G) (g : Nat → ClassId) (ws : va_W) (kO0 kO1 kA2 kA3 qO0 qO1 qA2 qA3 : Nat) (hO0 : ws[kO0]? = (some (qO0, .inr (2, [.ref qA2, .int 0, .int 0])) : Option (Nat × va_E))) (hO1 : ws[kO1]? = (some (qO1, .inr (2, [.ref qA3, .int 0, .int 0])) : Option (Nat × va_E))) (hA2 : ws[kA2]? = (some (qA2, .inl (g 0, 108, .inl (fun _ => 0))) : Option (Nat × va_E))) (hA3 : ws[kA3]? = (some (qA3, .inl (g 0, 220, .inl (fun _ => 0))) : Option (Nat × va_E))) (n_A3_A2 : kA3 ≠ kA2) (n_O1_O0 : kO1 ≠ kO0) : q_mV l y_Big_copy prog_2_method_4_code 2 2 0 0 D g [.ref qO0, .ref qO1] ws (fun u => q_un ws u [kO0, kA2] ∧ u[kO0]? = (some (qO0, .inr (2, [.ref qA2, .int 0, .int 0])) : Option (Nat × va_E)) ∧ u[kA2]? = (some (qA2, .inl (g 0, 108, .inl (fun _ => 0))) : Option (Nat × va_E))) := by
  intro sz
  refine q_into (by decide) (Nat.le_of_ble_eq_true rfl) ?_
  intro p e s m below meth c ls hsz C0 V hl
  have hx := C0.1
  have hb := C0.2.1
  have hl : lv_has ls 2 [(0, .ref qO0), (1, .ref qO1)] := hl
  have n_A2_O0 := q_df hA2 hO0
  have n_A3_O0 := q_df hA3 hO0
  have n_O0_A2 := Ne.symm (q_df hA2 hO0)
  have n_O1_A2 := Ne.symm (q_df hA2 hO1)
  have hF : q_un ws ws [kO0, kA2] := q_u0
  refine lv_aload_n hx hb d_2_4_0 rfl (lv_at hl 0 rfl) ?_
  refine lv_aload_n hx hb d_2_4_1 rfl (lv_at hl 1 rfl) ?_
  refine q_get (ci := 2) (j := 1) (v := .int 0) C0 V i_Big rfl rfl hO1 (by decide) w_85 rfl d_2_4_2 ?_
  refine lv_aload_n hx hb d_2_4_5 rfl (lv_at hl 0 rfl) ?_
  refine q_get (ci := 2) (j := 0) (v := .ref qA2) C0 V i_Big rfl rfl hO0 (by decide) w_84 rfl d_2_4_6 ?_
  refine q_alen (t := 0) (v := 108) C0 V hA2 rfl (by first | rfl | decide) d_2_4_9 ?_
  refine q_min C0 hl.1 rfl w_773 w_774 w_7 w_775 ⟨Nat.le_of_ble_eq_true rfl, Nat.le_of_ble_eq_true rfl⟩ ⟨Nat.le_of_ble_eq_true rfl, Nat.le_of_ble_eq_true rfl⟩ d_2_4_10 ?_
  refine q_ti (v := 0) (by decide) ?_
  refine q_put (ci := 2) (j := 1) (v := .int 0) (ty := .int) C0 V i_Big o_Big n_Big rfl rfl hO0 (by decide) w_85 rfl rfl rfl rfl (Nat.le_of_ble_eq_true rfl) d_2_4_13 (fun H locs w1 hu2 hO0 V => ?_)
  replace hO0 : w1[kO0]? = (some (qO0, .inr (2, [.ref qA2, .int 0, .int 0])) : Option (Nat × va_E)) := hO0
  replace hF := q_us hF hu2 (.head _)
  refine lv_aload_n hx hb d_2_4_16 rfl (lv_at hl 1 rfl) ?_
  replace hO1 := (hu2 _ n_O1_O0).trans (hO1)
  refine q_get (ci := 2) (j := 0) (v := .ref qA3) C0 V i_Big rfl rfl hO1 (by decide) w_84 rfl d_2_4_17 ?_
  refine lv_iconst (v := 0) hx hb d_2_4_20 (by decide) ?_
  refine lv_aload_n hx hb d_2_4_21 rfl (lv_at hl 0 rfl) ?_
  refine q_get (ci := 2) (j := 0) (v := .ref qA2) C0 V i_Big rfl rfl hO0 (by decide) w_84 rfl d_2_4_22 ?_
  refine lv_iconst (v := 0) hx hb d_2_4_25 (by decide) ?_
  refine lv_aload_n hx hb d_2_4_26 rfl (lv_at hl 0 rfl) ?_
  refine q_get (ci := 2) (j := 1) (v := .int 0) C0 V i_Big rfl rfl hO0 (by decide) w_85 rfl d_2_4_27 ?_
  replace hA3 := (hu2 _ n_A3_O0).trans (hA3)
  replace hA2 := (hu2 _ n_A2_O0).trans (hA2)
  refine q_copy C0 V hl.1 rfl w_791 w_793 w_792 w_29 hA3 hA2 (by decide) (by decide) (by decide) (by decide) (by decide) ⟨Nat.le_of_ble_eq_true rfl, Nat.le_of_ble_eq_true rfl⟩ d_2_4_30 (fun H locs w3 hu4 hA2 V => ?_)
  replace hA2 := q_re (y := (qA2, .inl (g 0, 108, .inl (fun _ => 0)))) hA2 (q_eI q_cpy0)
  replace hA2 : w3[kA2]? = (some (qA2, .inl (g 0, 108, .inl (fun _ => 0))) : Option (Nat × va_E)) := hA2
  replace hF := q_us hF hu4 (.tail _ (.head _))
  refine lv_aload_n hx hb d_2_4_33 rfl (lv_at hl 0 rfl) ?_
  refine lv_aload_n hx hb d_2_4_34 rfl (lv_at hl 1 rfl) ?_
  replace hO1 := (hu4 _ n_O1_A2).trans (hO1)
  refine q_get (ci := 2) (j := 2) (v := .int 0) C0 V i_Big rfl rfl hO1 (by decide) w_94 rfl d_2_4_35 ?_
  replace hO0 := (hu4 _ n_O0_A2).trans (hO0)
  refine q_put (ci := 2) (j := 2) (v := .int 0) (ty := .boolean) C0 V i_Big o_Big n_Big rfl rfl hO0 (by decide) w_94 rfl rfl rfl rfl (Nat.le_of_ble_eq_true rfl) d_2_4_38 (fun H locs w5 hu6 hO0 V => ?_)
  replace hO0 : w5[kO0]? = (some (qO0, .inr (2, [.ref qA2, .int 0, .int 0])) : Option (Nat × va_E)) := hO0
  replace hF := q_us hF hu6 (.head _)
  replace hA2 := (hu6 _ n_A2_O0).trans (hA2)
  exact q_retv C0 V (⟨hF, hO0, hA2⟩) d_2_4_41
theorem d_4_2_0 : decode prog_4_method_2_code 0 = .ok (.aload_n 0, 1) := by decide +kernel
theorem d_4_2_1 : decode prog_4_method_2_code 1 = .ok (.getfield 20, 3) := by decide +kernel
theorem d_4_2_4 : decode prog_4_method_2_code 4 = .ok (.aload_n 1, 1) := by decide +kernel
theorem d_4_2_5 : decode prog_4_method_2_code 5 = .ok (.invokevirtual 34, 3) := by decide +kernel
theorem w_762 : (Cond.code ({ cls := "NumberHouse$Mill", name := "countFigures", desc := "(LNumberHouse$Big;)I" } : MethodName) prog_8_method_13_code (4 : Nat) (some .int)) ∈ q_tbl := q_of 762 (by decide +kernel) (by decide +kernel)
theorem w_1088 : (Cond.methodLink "NumberHouse$DecimalWork" (34 : Nat) ({ cls := "NumberHouse$Mill", name := "countFigures", desc := "(LNumberHouse$Big;)I" } : MethodName)) ∈ q_tbl := q_of 1088 (by decide +kernel) (by decide +kernel)
theorem w_760 : (Cond.instanceMethod ({ cls := "NumberHouse$Mill", name := "countFigures", desc := "(LNumberHouse$Big;)I" } : MethodName)) ∈ q_tbl := q_of 760 (by decide +kernel) (by decide +kernel)
theorem w_761 : (Cond.selects "NumberHouse$Mill" ({ cls := "NumberHouse$Mill", name := "countFigures", desc := "(LNumberHouse$Big;)I" } : MethodName) ({ cls := "NumberHouse$Mill", name := "countFigures", desc := "(LNumberHouse$Big;)I" } : MethodName)) ∈ q_tbl := q_of 761 (by decide +kernel) (by decide +kernel)
theorem LV_DW_34 : q_LV "NumberHouse$DecimalWork" 34 y_Mil_countFigures prog_8_method_13_code 4 (some .int) 1 := ⟨w_762, w_3, w_1088, w_760, w_761, ⟨by decide, by decide, by decide +kernel⟩⟩
theorem d_4_2_8 : decode prog_4_method_2_code 8 = .ok (.istore 5, 2) := by decide +kernel
theorem d_4_2_10 : decode prog_4_method_2_code 10 = .ok (.iload 5, 2) := by decide +kernel
theorem d_4_2_12 : decode prog_4_method_2_code 12 = .ok (.sipush 1000, 3) := by decide +kernel
theorem d_4_2_15 : decode prog_4_method_2_code 15 = .ok (.if_icmp .gt 19, 3) := by decide +kernel
theorem d_4_2_18 : decode prog_4_method_2_code 18 = .ok (.lload_n 2, 1) := by decide +kernel
theorem d_4_2_19 : decode prog_4_method_2_code 19 = .ok (.ldc2_w 40, 3) := by decide +kernel
theorem w_1089 : (Cond.constantLong "NumberHouse$DecimalWork" (40 : Nat) (-10000 : Int64)) ∈ q_tbl := q_of 1089 (by decide +kernel) (by decide +kernel)
theorem d_4_2_22 : decode prog_4_method_2_code 22 = .ok (.lcmp, 1) := by decide +kernel
theorem d_4_2_23 : decode prog_4_method_2_code 23 = .ok (.ifCond .lt 11, 3) := by decide +kernel
theorem d_4_2_26 : decode prog_4_method_2_code 26 = .ok (.lload_n 2, 1) := by decide +kernel
theorem d_4_2_27 : decode prog_4_method_2_code 27 = .ok (.ldc2_w 42, 3) := by decide +kernel
theorem w_1090 : (Cond.constantLong "NumberHouse$DecimalWork" (42 : Nat) (10000 : Int64)) ∈ q_tbl := q_of 1090 (by decide +kernel) (by decide +kernel)
theorem d_4_2_30 : decode prog_4_method_2_code 30 = .ok (.lcmp, 1) := by decide +kernel
theorem d_4_2_31 : decode prog_4_method_2_code 31 = .ok (.ifCond .le 5, 3) := by decide +kernel
theorem d_4_2_36 : decode prog_4_method_2_code 36 = .ok (.aload 4, 2) := by decide +kernel
theorem d_4_2_38 : decode prog_4_method_2_code 38 = .ok (.getfield 24, 3) := by decide +kernel
theorem d_4_2_41 : decode prog_4_method_2_code 41 = .ok (.aload_n 1, 1) := by decide +kernel
theorem d_4_2_42 : decode prog_4_method_2_code 42 = .ok (.invokevirtual 44, 3) := by decide +kernel
theorem w_1091 : (Cond.methodLink "NumberHouse$DecimalWork" (44 : Nat) ({ cls := "NumberHouse$Big", name := "copy", desc := "(LNumberHouse$Big;)V" } : MethodName)) ∈ q_tbl := q_of 1091 (by decide +kernel) (by decide +kernel)
theorem LV_DW_44 : q_LV "NumberHouse$DecimalWork" 44 y_Big_copy prog_2_method_4_code 2 none 1 := ⟨w_790, w_4, w_1091, w_788, w_789, ⟨by decide, by decide, by decide +kernel⟩⟩
theorem d_4_2_45 : decode prog_4_method_2_code 45 = .ok (.aload 4, 2) := by decide +kernel
theorem d_4_2_47 : decode prog_4_method_2_code 47 = .ok (.lload_n 2, 1) := by decide +kernel
theorem d_4_2_48 : decode prog_4_method_2_code 48 = .ok (.l2i, 1) := by decide +kernel
theorem d_4_2_49 : decode prog_4_method_2_code 49 = .ok (.putfield 48, 3) := by decide +kernel
theorem d_4_2_52 : decode prog_4_method_2_code 52 = .ok (.aload 4, 2) := by decide +kernel
theorem d_4_2_54 : decode prog_4_method_2_code 54 = .ok (.iload 5, 2) := by decide +kernel
theorem d_4_2_56 : decode prog_4_method_2_code 56 = .ok (.putfield 52, 3) := by decide +kernel
theorem w_180 : (Cond.fieldLink "NumberHouse$DecimalWork" (52 : Nat) "NumberHouse$Dec" "figureCount" "I") ∈ q_tbl := q_of 180 (by decide +kernel) (by decide +kernel)
theorem d_4_2_59 : decode prog_4_method_2_code 59 = .ok (.iconst 1, 1) := by decide +kernel
theorem d_4_2_60 : decode prog_4_method_2_code 60 = .ok (.ireturn, 1) := by decide +kernel
def y_DW_settle : MethodName := ⟨"NumberHouse$DecimalWork", "settle", "(LNumberHouse$Big;JLNumberHouse$Dec;)Z"⟩
set_option maxRecDepth 100000 in
set_option maxHeartbeats 4000000 in
theorem c_DW_settle (l : Launch) (D : va_G) (g : Nat → ClassId) (ws : va_W) (kO0 kO1 kO2 kO4 kA5 kO6 kA17 qO0 qO1 qO2 qO3 qO4 qA5 qO6 qO8 qO9 qO10 qO11 qO12 qO13 qO14 qO15 qO16 qA17 : Nat) (hO0 : ws[kO0]? = (some (qO0, .inr (5, [.ref qO3, .long 0, .ref qO4, .int 0])) : Option (Nat × va_E))) (hO1 : ws[kO1]? = (some (qO1, .inr (2, [.ref qA5, .int 0, .int 0])) : Option (Nat × va_E))) (hO2 : ws[kO2]? = (some (qO2, .inr (3, [.ref qO6, .int 0, .int 1])) : Option (Nat × va_E))) (hO4 : ws[kO4]? = (some (qO4, .inr (4, [.ref qO1, .ref qO8, .ref qO9, .ref qO10, .ref qO11, .ref qO12, .ref qO13, .ref qO14, .ref qO15, .ref qO16])) : Option (Nat × va_E))) (hA5 : ws[kA5]? = (some (qA5, .inl (g 0, 220, .inl (fun _ => 0))) : Option (Nat × va_E))) (hO6 : ws[kO6]? = (some (qO6, .inr (2, [.ref qA17, .int 0, .int 0])) : Option (Nat × va_E))) (hA17 : ws[kA17]? = (some (qA17, .inl (g 0, 108, .inl (fun _ => 0))) : Option (Nat × va_E))) (n_A5_A17 : kA5 ≠ kA17) (n_O1_O6 : kO1 ≠ kO6) : q_mI l y_DW_settle prog_4_method_2_code 6 (.boolean) 3 0 0 D g [.ref qO0, .ref qO1, .long 0, .ref qO2] ws (fun r u => 1 = r ∧ q_un ws u [kO2, kO6, kA17] ∧ u[kO2]? = (some (qO2, .inr (3, [.ref qO6, .int 0, .int 1])) : Option (Nat × va_E)) ∧ u[kO6]? = (some (qO6, .inr (2, [.ref qA17, .int 0, .int 0])) : Option (Nat × va_E)) ∧ u[kA17]? = (some (qA17, .inl (g 0, 108, .inl (fun _ => 0))) : Option (Nat × va_E))) := by
  intro sz
  refine q_into (by decide) (Nat.le_of_ble_eq_true rfl) ?_
  intro p e s m below meth c ls hsz C0 V hl
  have hx := C0.1
  have hb := C0.2.1
  have hl : lv_has ls 6 [(0, .ref qO0), (1, .ref qO1), (2, .long 0), (4, .ref qO2)] := hl
  have n_A17_O2 := q_df hA17 hO2
  have n_A5_O2 := q_df hA5 hO2
  have n_A5_O6 := q_df hA5 hO6
  have n_O0_A17 := Ne.symm (q_df hA17 hO0)
  have n_O0_O2 := q_dc hO0 hO2 (q_pd 5 3 rfl)
  have n_O0_O6 := q_dc hO0 hO6 (q_pd 5 2 rfl)
  have n_O1_A17 := Ne.symm (q_df hA17 hO1)
  have n_O1_O2 := q_dc hO1 hO2 (q_pd 2 3 rfl)
  have n_O2_A17 := Ne.symm (q_df hA17 hO2)
  have n_O2_O6 := q_dc hO2 hO6 (q_pd 3 2 rfl)
  have n_O4_A17 := Ne.symm (q_df hA17 hO4)
  have n_O4_O2 := q_dc hO4 hO2 (q_pd 4 3 rfl)
  have n_O4_O6 := q_dc hO4 hO6 (q_pd 4 2 rfl)
  have n_O6_O2 := q_dc hO6 hO2 (q_pd 2 3 rfl)
  have hF : q_un ws ws [kO2, kO6, kA17] := q_u0
  refine lv_aload_n hx hb d_4_2_0 rfl (lv_at hl 0 rfl) ?_
  refine q_get (ci := 5) (j := 2) (v := .ref qO4) C0 V i_DW rfl rfl hO0 (by decide) w_214 rfl d_4_2_1 ?_
  refine lv_aload_n hx hb d_4_2_4 rfl (lv_at hl 1 rfl) ?_
  refine q_goi V (q_runV (As := [.ref qO1]) (rest := []) (d := 1) (mc := 0) (ms := 0) (ci := 4) C0 V rfl LV_DW_34 (c_Mil_countFigures l D g ws kO1 qO4 qO1 qA5 hO1 _) rfl rfl hO4 rfl hl.1 rfl (Nat.le_of_ble_eq_true rfl) ⟨by decide, by decide⟩ ⟨Nat.le_of_ble_eq_true rfl, Nat.le_of_ble_eq_true rfl⟩ d_4_2_5) (fun v3 u2 H locs hp1 V => ?_)
  obtain ⟨rfl, rfl⟩ := hp1
  refine lv_istore (lv' := [(5, .int 1), (0, .ref qO0), (1, .ref qO1), (2, .long 0), (4, .ref qO2)]) hx hb d_4_2_8 hl (by decide) rfl (fun ls hl => ?_)
  refine lv_iload hx hb d_4_2_10 (lv_at hl 0 rfl) ?_
  refine lv_sipush (v := 1000) hx hb d_4_2_12 (by decide) ?_
  refine lv_icmp_gt (tgt := 34) hx hb d_4_2_15 (by decide) (fun c5 => absurd c5 (by decide)) (fun c5 => ?_)
  refine lv_lload_n hx hb d_4_2_18 rfl (lv_at hl 3 rfl) ?_
  refine q_ldc2 C0 rfl w_1089 d_4_2_19 ?_
  refine W.lcmp hx hb d_4_2_22 ?_
  refine q_ti (v := 1) (by decide) ?_
  refine lv_if_lt (tgt := 34) hx hb d_4_2_23 (by decide) (fun c6 => absurd c6 (by decide)) (fun c6 => ?_)
  refine lv_lload_n hx hb d_4_2_26 rfl (lv_at hl 3 rfl) ?_
  refine q_ldc2 C0 rfl w_1090 d_4_2_27 ?_
  refine W.lcmp hx hb d_4_2_30 ?_
  refine q_ti (v := (-1)) (by decide) ?_
  refine lv_if_le (tgt := 36) hx hb d_4_2_31 (by decide) (fun c7 => ?_) (fun c7 => absurd (by decide) c7)
  refine lv_aload hx hb d_4_2_36 (lv_at hl 4 rfl) ?_
  refine q_get (ci := 3) (j := 0) (v := .ref qO6) C0 V i_Dec rfl rfl hO2 (by decide) w_171 rfl d_4_2_38 ?_
  refine lv_aload_n hx hb d_4_2_41 rfl (lv_at hl 2 rfl) ?_
  refine q_gov V (q_runV (As := [.ref qO1]) (rest := []) (d := 2) (mc := 0) (ms := 0) (ci := 2) C0 V rfl LV_DW_44 (c_Big_copy_5 l D g ws kO6 kO1 kA17 kA5 qO6 qO1 qA17 qA5 hO6 hO1 hA17 hA5 n_A5_A17 n_O1_O6 _) rfl rfl hO6 rfl hl.1 rfl (Nat.le_of_ble_eq_true rfl) ⟨by decide, by decide⟩ ⟨Nat.le_of_ble_eq_true rfl, Nat.le_of_ble_eq_true rfl⟩ d_4_2_42) (fun u9 H locs hp8 V => ?_)
  obtain ⟨hg10, hO6, hA17⟩ := hp8
  replace hF := q_uc hF hg10 (q_sc (.tail _ (.head _)) (q_sc (.tail _ (.tail _ (.head _))) (fun _ h => absurd h List.not_mem_nil)))
  refine lv_aload hx hb d_4_2_45 (lv_at hl 4 rfl) ?_
  refine lv_lload_n hx hb d_4_2_47 rfl (lv_at hl 3 rfl) ?_
  refine lv_l2i hx hb d_4_2_48 rfl ?_
  refine q_ti (v := 0) (by decide) ?_
  replace hO2 := (hg10 _ (q_nc n_O2_O6 (q_nc n_O2_A17 List.not_mem_nil))).trans (hO2)
  refine q_put (ci := 3) (j := 1) (v := .int 0) (ty := .int) C0 V i_Dec o_Dec n_Dec rfl rfl hO2 (by decide) w_176 rfl rfl rfl rfl (Nat.le_of_ble_eq_true rfl) d_4_2_49 (fun H locs w11 hu12 hO2 V => ?_)
  replace hO2 : w11[kO2]? = (some (qO2, .inr (3, [.ref qO6, .int 0, .int 1])) : Option (Nat × va_E)) := hO2
  replace hF := q_us hF hu12 (.head _)
  refine lv_aload hx hb d_4_2_52 (lv_at hl 4 rfl) ?_
  refine lv_iload hx hb d_4_2_54 (lv_at hl 0 rfl) ?_
  refine q_put (ci := 3) (j := 2) (v := .int 1) (ty := .int) C0 V i_Dec o_Dec n_Dec rfl rfl hO2 (by decide) w_180 rfl rfl rfl rfl (Nat.le_of_ble_eq_true rfl) d_4_2_56 (fun H locs w13 hu14 hO2 V => ?_)
  replace hO2 : w13[kO2]? = (some (qO2, .inr (3, [.ref qO6, .int 0, .int 1])) : Option (Nat × va_E)) := hO2
  replace hF := q_us hF hu14 (.head _)
  refine lv_iconst (v := 1) hx hb d_4_2_59 (by decide) ?_
  replace hO6 := (hu14 _ n_O6_O2).trans ((hu12 _ n_O6_O2).trans (hO6))
  replace hA17 := (hu14 _ n_A17_O2).trans ((hu12 _ n_A17_O2).trans (hA17))
  exact q_retz C0 V (rfl) (⟨rfl, hF, hO2, hO6, hA17⟩) d_4_2_60
theorem d_1_29_0 : decode prog_1_method_29_code 0 = .ok (.aload_n 0, 1) := by decide +kernel
theorem d_1_29_1 : decode prog_1_method_29_code 1 = .ok (.getfield 52, 3) := by decide +kernel
theorem d_1_29_4 : decode prog_1_method_29_code 4 = .ok (.aload_n 0, 1) := by decide +kernel
theorem d_1_29_5 : decode prog_1_method_29_code 5 = .ok (.getfield 43, 3) := by decide +kernel
theorem d_1_29_8 : decode prog_1_method_29_code 8 = .ok (.getfield 141, 3) := by decide +kernel
theorem d_1_29_11 : decode prog_1_method_29_code 11 = .ok (.aload_n 0, 1) := by decide +kernel
theorem d_1_29_12 : decode prog_1_method_29_code 12 = .ok (.getfield 52, 3) := by decide +kernel
theorem d_1_29_15 : decode prog_1_method_29_code 15 = .ok (.getfield 292, 3) := by decide +kernel
theorem w_213 : (Cond.fieldLink "NumberHouse" (292 : Nat) "NumberHouse$DecimalWork" "scale" "J") ∈ q_tbl := q_of 213 (by decide +kernel) (by decide +kernel)
theorem d_1_29_18 : decode prog_1_method_29_code 18 = .ok (.aload_n 0, 1) := by decide +kernel
theorem d_1_29_19 : decode prog_1_method_29_code 19 = .ok (.getfield 29, 3) := by decide +kernel
theorem d_1_29_22 : decode prog_1_method_29_code 22 = .ok (.iload_n 1, 1) := by decide +kernel
theorem d_1_29_23 : decode prog_1_method_29_code 23 = .ok (.aaload, 1) := by decide +kernel
theorem d_1_29_24 : decode prog_1_method_29_code 24 = .ok (.invokevirtual 153, 3) := by decide +kernel
theorem w_1087 : (Cond.code ({ cls := "NumberHouse$DecimalWork", name := "settle", desc := "(LNumberHouse$Big;JLNumberHouse$Dec;)Z" } : MethodName) prog_4_method_2_code (6 : Nat) (some .boolean)) ∈ q_tbl := q_of 1087 (by decide +kernel) (by decide +kernel)
theorem w_1084 : (Cond.methodLink "NumberHouse" (153 : Nat) ({ cls := "NumberHouse$DecimalWork", name := "settle", desc := "(LNumberHouse$Big;JLNumberHouse$Dec;)Z" } : MethodName)) ∈ q_tbl := q_of 1084 (by decide +kernel) (by decide +kernel)
theorem w_1085 : (Cond.instanceMethod ({ cls := "NumberHouse$DecimalWork", name := "settle", desc := "(LNumberHouse$Big;JLNumberHouse$Dec;)Z" } : MethodName)) ∈ q_tbl := q_of 1085 (by decide +kernel) (by decide +kernel)
theorem w_1086 : (Cond.selects "NumberHouse$DecimalWork" ({ cls := "NumberHouse$DecimalWork", name := "settle", desc := "(LNumberHouse$Big;JLNumberHouse$Dec;)Z" } : MethodName) ({ cls := "NumberHouse$DecimalWork", name := "settle", desc := "(LNumberHouse$Big;JLNumberHouse$Dec;)Z" } : MethodName)) ∈ q_tbl := q_of 1086 (by decide +kernel) (by decide +kernel)
theorem LV_NH_153 : q_LV "NumberHouse" 153 y_DW_settle prog_4_method_2_code 6 (some .boolean) 3 := ⟨w_1087, w_5, w_1084, w_1085, w_1086, ⟨by decide, by decide, by decide +kernel⟩⟩
theorem d_1_29_27 : decode prog_1_method_29_code 27 = .ok (.invokestatic 138, 3) := by decide +kernel
theorem d_1_29_30 : decode prog_1_method_29_code 30 = .ok (.return_, 1) := by decide +kernel
def y_NH_keepDecimal : MethodName := ⟨"NumberHouse", "keepDecimal", "(I)V"⟩
set_option maxRecDepth 100000 in
set_option maxHeartbeats 4000000 in
theorem c_NH_keepDecimal (l : Launch) (D : va_G) (g : Nat → ClassId) (ws : va_W) (hlt : l.stackTraces = false) ( qO0 qO1 qO2 qA3 qA4 qA5 qA6 qO7 qO8 qO9 qO10 qO11 qO12 qO13 qO14 qO17 qO18 qO19 qO20 qO21 qO22 qO23 qO24 qO25 qO26 qO27 qA35 : Nat) (x1 : Int32) (f3 : Nat → Option Nat) (hO0 : ws[0]? = (some (qO0, .inr (0, [.ref qO1, .ref qO2, .ref qA3, .ref qA4, .ref qA5, .ref qA6, .ref qO7, .ref qO8, .ref qO9, .ref qO10, .ref qO11, .ref qO12, .ref qO13, .ref qO14])) : Option (Nat × va_E))) (hA4 : ws[6]? = (some (qA4, .inl (g 5, 10, .inr (.inr (.inr (.inr f3))))) : Option (Nat × va_E))) (hO7 : ws[9]? = (some (qO7, .inr (4, [.ref qO17, .ref qO18, .ref qO19, .ref qO20, .ref qO21, .ref qO22, .ref qO23, .ref qO24, .ref qO25, .ref qO26])) : Option (Nat × va_E))) (hO8 : ws[30]? = (some (qO8, .inr (5, [.ref qO27, .long 0, .ref qO7, .int 0])) : Option (Nat × va_E))) (hO17 : ws[10]? = (some (qO17, .inr (2, [.ref qA35, .int 0, .int 0])) : Option (Nat × va_E))) (hA35 : ws[11]? = (some (qA35, .inl (g 0, 220, .inl (fun _ => 0))) : Option (Nat × va_E))) (x1lo : 0 ≤ x1) (x1hi : x1 ≤ 9) (qW qWL qD qDN qDL : Nat → Nat) (hfD : ∀ i, i < 10 → f3 i = some (qD i)) (FD : ∀ i, i < 10 → ws[68 + 5 * i]? = (some (qD i, .inr (3, [.ref (qDN i), .int 0, .int 1])) : Option (Nat × va_E))) (FDN : ∀ i, i < 10 → ws[69 + 5 * i]? = (some (qDN i, .inr (2, [.ref (qDL i), .int 0, .int 0])) : Option (Nat × va_E))) (FDL : ∀ i, i < 10 → ws[70 + 5 * i]? = (some (qDL i, .inl (g 0, 108, .inl (fun _ => 0))) : Option (Nat × va_E))) : q_mV l y_NH_keepDecimal prog_1_method_29_code 2 8 1 6 D g [.ref qO0, .int x1] ws (fun u => q_ge 116 ws u) := by
  intro sz
  refine q_into (by decide) (Nat.le_of_ble_eq_true rfl) ?_
  intro p e s m below meth c ls hsz C0 V hl
  have hx := C0.1
  have hb := C0.2.1
  have hl : lv_has ls 2 [(0, .ref qO0), (1, .int x1)] := hl
  have hF : q_ge 116 ws ws := q_g0
  refine lv_aload_n hx hb d_1_29_0 rfl (lv_at hl 0 rfl) ?_
  refine q_get (ci := 0) (j := 7) (v := .ref qO8) C0 V i_NH rfl rfl hO0 (by decide) w_431 rfl d_1_29_1 ?_
  refine lv_aload_n hx hb d_1_29_4 rfl (lv_at hl 0 rfl) ?_
  refine q_get (ci := 0) (j := 6) (v := .ref qO7) C0 V i_NH rfl rfl hO0 (by decide) w_430 rfl d_1_29_5 ?_
  refine q_get (ci := 4) (j := 0) (v := .ref qO17) C0 V i_Mil rfl rfl hO7 (by decide) w_112 rfl d_1_29_8 ?_
  refine lv_aload_n hx hb d_1_29_11 rfl (lv_at hl 0 rfl) ?_
  refine q_get (ci := 0) (j := 7) (v := .ref qO8) C0 V i_NH rfl rfl hO0 (by decide) w_431 rfl d_1_29_12 ?_
  refine q_get (ci := 5) (j := 1) (v := .long 0) C0 V i_DW rfl rfl hO8 (by decide) w_213 rfl d_1_29_15 ?_
  refine lv_aload_n hx hb d_1_29_18 rfl (lv_at hl 0 rfl) ?_
  refine q_get (ci := 0) (j := 3) (v := .ref qA4) C0 V i_NH rfl rfl hO0 (by decide) w_427 rfl d_1_29_19 ?_
  refine lv_iload_n hx hb d_1_29_22 rfl (lv_at hl 1 rfl) ?_
  have r1 : x1.toNatClampNeg < 10 := (q_r10 (x := x1.toInt) rfl (by have t1 : 0 ≤ x1.toInt := q_leI x1lo; have t2 : x1.toInt ≤ 9 := q_leI x1hi; omega) (by have t1 : 0 ≤ x1.toInt := q_leI x1lo; have t2 : x1.toInt ≤ 9 := q_leI x1hi; omega))
  have hr2 : ws[68 + 5 * x1.toNatClampNeg]? = (some (qD x1.toNatClampNeg, .inr (3, [.ref (qDN x1.toNatClampNeg), .int 0, .int 1])) : Option (Nat × va_E)) := FD _ r1
  have hr3 : ws[69 + 5 * x1.toNatClampNeg]? = (some (qDN x1.toNatClampNeg, .inr (2, [.ref (qDL x1.toNatClampNeg), .int 0, .int 0])) : Option (Nat × va_E)) := FDN _ r1
  have hr4 : ws[70 + 5 * x1.toNatClampNeg]? = (some (qDL x1.toNatClampNeg, .inl (g 0, 108, .inl (fun _ => 0))) : Option (Nat × va_E)) := FDL _ r1
  have hh : x1.toNatClampNeg < 10 := (q_r10 (x := x1.toInt) rfl (by have t1 : 0 ≤ x1.toInt := q_leI x1lo; have t2 : x1.toInt ≤ 9 := q_leI x1hi; omega) (by have t1 : 0 ≤ x1.toInt := q_leI x1lo; have t2 : x1.toInt ≤ 9 := q_leI x1hi; omega))
  refine q_aald (t := 5) (q := qD x1.toNatClampNeg) C0 V hA4 rfl (q_ix (x := x1.toInt) rfl (by have t1 : 0 ≤ x1.toInt := q_leI x1lo; have t2 : x1.toInt ≤ 9 := q_leI x1hi; omega) (by have t1 : 0 ≤ x1.toInt := q_leI x1lo; have t2 : x1.toInt ≤ 9 := q_leI x1hi; omega)) (hfD _ hh) d_1_29_23 ?_
  refine q_goi V (q_runV (As := [.ref qO17, .long 0, .ref (qD x1.toNatClampNeg)]) (rest := []) (d := 3) (mc := 0) (ms := 0) (ci := 5) C0 V rfl LV_NH_153 (c_DW_settle l D g ws 30 10 (68 + 5 * x1.toNatClampNeg) 9 11 (69 + 5 * x1.toNatClampNeg) (70 + 5 * x1.toNatClampNeg) qO8 qO17 (qD x1.toNatClampNeg) qO27 qO7 qA35 (qDN x1.toNatClampNeg) qO18 qO19 qO20 qO21 qO22 qO23 qO24 qO25 qO26 (qDL x1.toNatClampNeg) hO8 hO17 hr2 hO7 hA35 hr3 hr4 (Ne.symm (q_f5 rfl)) (Ne.symm (q_f5 rfl)) _) rfl rfl hO8 rfl hl.1 rfl (Nat.le_of_ble_eq_true rfl) ⟨by decide, by decide⟩ ⟨Nat.le_of_ble_eq_true rfl, Nat.le_of_ble_eq_true rfl⟩ d_1_29_24) (fun v7 u6 H locs hp5 V => ?_)
  obtain ⟨rfl, hg8, hr2, hr3, hr4⟩ := hp5
  replace hF := q_gc hF hg8 (q_al (by omega) (q_al (by omega) (q_al (by omega) (fun _ h => absurd h List.not_mem_nil))))
  refine q_goxv V (q_runSX (As := [.int 1]) (rest := []) (d := 7) (mc := 1) (ms := 6) C0 V rfl LS_NH_138 (c_NH_canHave l D g u6 hlt 1 _) rfl hl.1 rfl (Nat.le_of_ble_eq_true rfl) ⟨by decide, by decide⟩ ⟨Nat.le_of_ble_eq_true rfl, Nat.le_of_ble_eq_true rfl⟩ d_1_29_27) (fun qx Ex ce u10 H locs hp9 V hce hcv hcl => ?_) (fun u10 H locs hp9 V => ?_)
  ·
    obtain ⟨c11, rfl, rfl⟩ := hp9
    exact absurd c11 (by decide)
  ·
    obtain ⟨c13, rfl⟩ := hp9
    exact q_retv C0 V (hF) d_1_29_30
theorem d_2_28_0 : decode prog_2_method_28_code 0 = .ok (.iload_n 1, 1) := by decide +kernel
theorem d_2_28_1 : decode prog_2_method_28_code 1 = .ok (.istore_n 2, 1) := by decide +kernel
theorem d_2_28_2 : decode prog_2_method_28_code 2 = .ok (.iload_n 2, 1) := by decide +kernel
theorem d_2_28_3 : decode prog_2_method_28_code 3 = .ok (.ifCond .le 24, 3) := by decide +kernel
theorem d_2_28_27 : decode prog_2_method_28_code 27 = .ok (.return_, 1) := by decide +kernel
def y_Big_timesTen : MethodName := ⟨"NumberHouse$Big", "timesTen", "(I)V"⟩
set_option maxRecDepth 100000 in
set_option maxHeartbeats 4000000 in
theorem c_Big_timesTen (l : Launch) (D : va_G) (g : Nat → ClassId) (ws : va_W) ( qO0 : Nat) : q_mV l y_Big_timesTen prog_2_method_28_code 3 1 0 0 D g [.ref qO0, .int 0] ws (fun u => ws = u) := by
  intro sz
  refine q_into (by decide) (Nat.le_of_ble_eq_true rfl) ?_
  intro p e s m below meth c ls hsz C0 V hl
  have hx := C0.1
  have hb := C0.2.1
  have hl : lv_has ls 3 [(0, .ref qO0), (1, .int 0)] := hl
  refine lv_iload_n hx hb d_2_28_0 rfl (lv_at hl 1 rfl) ?_
  refine lv_istore_n (lv' := [(2, .int 0), (0, .ref qO0), (1, .int 0)]) hx hb d_2_28_1 rfl hl (by decide) rfl (fun ls hl => ?_)
  refine lv_iload_n hx hb d_2_28_2 rfl (lv_at hl 0 rfl) ?_
  refine lv_if_le (tgt := 27) hx hb d_2_28_3 (by decide) (fun c1 => ?_) (fun c1 => absurd (by decide) c1)
  exact q_retv C0 V (rfl) d_2_28_27
theorem d_4_5_0 : decode prog_4_method_5_code 0 = .ok (.aload_n 0, 1) := by decide +kernel
theorem d_4_5_1 : decode prog_4_method_5_code 1 = .ok (.aload_n 1, 1) := by decide +kernel
theorem d_4_5_2 : decode prog_4_method_5_code 2 = .ok (.getfield 48, 3) := by decide +kernel
theorem d_4_5_5 : decode prog_4_method_5_code 5 = .ok (.aload_n 2, 1) := by decide +kernel
theorem d_4_5_6 : decode prog_4_method_5_code 6 = .ok (.getfield 48, 3) := by decide +kernel
theorem d_4_5_9 : decode prog_4_method_5_code 9 = .ok (.invokestatic 83, 3) := by decide +kernel
theorem w_1370 : (Cond.methodLink "NumberHouse$DecimalWork" (83 : Nat) ({ cls := "java/lang/Math", name := "max", desc := "(II)I" } : MethodName)) ∈ q_tbl := q_of 1370 (by decide +kernel) (by decide +kernel)
theorem d_4_5_12 : decode prog_4_method_5_code 12 = .ok (.i2l, 1) := by decide +kernel
theorem d_4_5_13 : decode prog_4_method_5_code 13 = .ok (.putfield 56, 3) := by decide +kernel
theorem d_4_5_16 : decode prog_4_method_5_code 16 = .ok (.aload_n 0, 1) := by decide +kernel
theorem d_4_5_17 : decode prog_4_method_5_code 17 = .ok (.getfield 56, 3) := by decide +kernel
theorem d_4_5_20 : decode prog_4_method_5_code 20 = .ok (.aload_n 1, 1) := by decide +kernel
theorem d_4_5_21 : decode prog_4_method_5_code 21 = .ok (.getfield 48, 3) := by decide +kernel
theorem d_4_5_24 : decode prog_4_method_5_code 24 = .ok (.i2l, 1) := by decide +kernel
theorem d_4_5_25 : decode prog_4_method_5_code 25 = .ok (.lsub, 1) := by decide +kernel
theorem d_4_5_26 : decode prog_4_method_5_code 26 = .ok (.lstore 4, 2) := by decide +kernel
theorem d_4_5_28 : decode prog_4_method_5_code 28 = .ok (.aload_n 0, 1) := by decide +kernel
theorem d_4_5_29 : decode prog_4_method_5_code 29 = .ok (.getfield 56, 3) := by decide +kernel
theorem d_4_5_32 : decode prog_4_method_5_code 32 = .ok (.aload_n 2, 1) := by decide +kernel
theorem d_4_5_33 : decode prog_4_method_5_code 33 = .ok (.getfield 48, 3) := by decide +kernel
theorem d_4_5_36 : decode prog_4_method_5_code 36 = .ok (.i2l, 1) := by decide +kernel
theorem d_4_5_37 : decode prog_4_method_5_code 37 = .ok (.lsub, 1) := by decide +kernel
theorem d_4_5_38 : decode prog_4_method_5_code 38 = .ok (.lstore 6, 2) := by decide +kernel
theorem d_4_5_40 : decode prog_4_method_5_code 40 = .ok (.aload_n 1, 1) := by decide +kernel
theorem d_4_5_41 : decode prog_4_method_5_code 41 = .ok (.getfield 24, 3) := by decide +kernel
theorem d_4_5_44 : decode prog_4_method_5_code 44 = .ok (.getfield 63, 3) := by decide +kernel
theorem d_4_5_47 : decode prog_4_method_5_code 47 = .ok (.ifCond .le 18, 3) := by decide +kernel
theorem d_4_5_65 : decode prog_4_method_5_code 65 = .ok (.aload_n 2, 1) := by decide +kernel
theorem d_4_5_66 : decode prog_4_method_5_code 66 = .ok (.getfield 24, 3) := by decide +kernel
theorem d_4_5_69 : decode prog_4_method_5_code 69 = .ok (.getfield 63, 3) := by decide +kernel
theorem d_4_5_72 : decode prog_4_method_5_code 72 = .ok (.ifCond .le 20, 3) := by decide +kernel
theorem d_4_5_92 : decode prog_4_method_5_code 92 = .ok (.aload_n 0, 1) := by decide +kernel
theorem d_4_5_93 : decode prog_4_method_5_code 93 = .ok (.getfield 20, 3) := by decide +kernel
theorem d_4_5_96 : decode prog_4_method_5_code 96 = .ok (.getfield 55, 3) := by decide +kernel
theorem d_4_5_99 : decode prog_4_method_5_code 99 = .ok (.aload_n 1, 1) := by decide +kernel
theorem d_4_5_100 : decode prog_4_method_5_code 100 = .ok (.getfield 24, 3) := by decide +kernel
theorem d_4_5_103 : decode prog_4_method_5_code 103 = .ok (.invokevirtual 44, 3) := by decide +kernel
theorem d_4_5_106 : decode prog_4_method_5_code 106 = .ok (.aload_n 0, 1) := by decide +kernel
theorem d_4_5_107 : decode prog_4_method_5_code 107 = .ok (.getfield 20, 3) := by decide +kernel
theorem d_4_5_110 : decode prog_4_method_5_code 110 = .ok (.getfield 55, 3) := by decide +kernel
theorem d_4_5_113 : decode prog_4_method_5_code 113 = .ok (.lload 4, 2) := by decide +kernel
theorem d_4_5_115 : decode prog_4_method_5_code 115 = .ok (.l2i, 1) := by decide +kernel
theorem d_4_5_116 : decode prog_4_method_5_code 116 = .ok (.invokevirtual 77, 3) := by decide +kernel
theorem w_770 : (Cond.code ({ cls := "NumberHouse$Big", name := "timesTen", desc := "(I)V" } : MethodName) prog_2_method_28_code (3 : Nat) (none : Option ClassFile.FieldType)) ∈ q_tbl := q_of 770 (by decide +kernel) (by decide +kernel)
theorem w_1229 : (Cond.methodLink "NumberHouse$DecimalWork" (77 : Nat) ({ cls := "NumberHouse$Big", name := "timesTen", desc := "(I)V" } : MethodName)) ∈ q_tbl := q_of 1229 (by decide +kernel) (by decide +kernel)
theorem w_768 : (Cond.instanceMethod ({ cls := "NumberHouse$Big", name := "timesTen", desc := "(I)V" } : MethodName)) ∈ q_tbl := q_of 768 (by decide +kernel) (by decide +kernel)
theorem w_769 : (Cond.selects "NumberHouse$Big" ({ cls := "NumberHouse$Big", name := "timesTen", desc := "(I)V" } : MethodName) ({ cls := "NumberHouse$Big", name := "timesTen", desc := "(I)V" } : MethodName)) ∈ q_tbl := q_of 769 (by decide +kernel) (by decide +kernel)
theorem LV_DW_77 : q_LV "NumberHouse$DecimalWork" 77 y_Big_timesTen prog_2_method_28_code 3 none 1 := ⟨w_770, w_4, w_1229, w_768, w_769, ⟨by decide, by decide, by decide +kernel⟩⟩
theorem d_4_5_119 : decode prog_4_method_5_code 119 = .ok (.aload_n 0, 1) := by decide +kernel
theorem d_4_5_120 : decode prog_4_method_5_code 120 = .ok (.getfield 20, 3) := by decide +kernel
theorem d_4_5_123 : decode prog_4_method_5_code 123 = .ok (.getfield 72, 3) := by decide +kernel
theorem w_126 : (Cond.fieldLink "NumberHouse$DecimalWork" (72 : Nat) "NumberHouse$Mill" "one" "LNumberHouse$Big;") ∈ q_tbl := q_of 126 (by decide +kernel) (by decide +kernel)
theorem d_4_5_126 : decode prog_4_method_5_code 126 = .ok (.aload_n 2, 1) := by decide +kernel
theorem d_4_5_127 : decode prog_4_method_5_code 127 = .ok (.getfield 24, 3) := by decide +kernel
theorem d_4_5_130 : decode prog_4_method_5_code 130 = .ok (.invokevirtual 44, 3) := by decide +kernel
theorem d_4_5_133 : decode prog_4_method_5_code 133 = .ok (.aload_n 0, 1) := by decide +kernel
theorem d_4_5_134 : decode prog_4_method_5_code 134 = .ok (.getfield 20, 3) := by decide +kernel
theorem d_4_5_137 : decode prog_4_method_5_code 137 = .ok (.getfield 72, 3) := by decide +kernel
theorem d_4_5_140 : decode prog_4_method_5_code 140 = .ok (.lload 6, 2) := by decide +kernel
theorem d_4_5_142 : decode prog_4_method_5_code 142 = .ok (.l2i, 1) := by decide +kernel
theorem d_4_5_143 : decode prog_4_method_5_code 143 = .ok (.invokevirtual 77, 3) := by decide +kernel
theorem d_4_5_146 : decode prog_4_method_5_code 146 = .ok (.aload_n 0, 1) := by decide +kernel
theorem d_4_5_147 : decode prog_4_method_5_code 147 = .ok (.getfield 20, 3) := by decide +kernel
theorem d_4_5_150 : decode prog_4_method_5_code 150 = .ok (.getfield 55, 3) := by decide +kernel
theorem d_4_5_153 : decode prog_4_method_5_code 153 = .ok (.aload_n 0, 1) := by decide +kernel
theorem d_4_5_154 : decode prog_4_method_5_code 154 = .ok (.getfield 20, 3) := by decide +kernel
theorem d_4_5_157 : decode prog_4_method_5_code 157 = .ok (.getfield 72, 3) := by decide +kernel
theorem d_4_5_160 : decode prog_4_method_5_code 160 = .ok (.iload_n 3, 1) := by decide +kernel
theorem d_4_5_161 : decode prog_4_method_5_code 161 = .ok (.invokevirtual 90, 3) := by decide +kernel
theorem w_1372 : (Cond.methodLink "NumberHouse$DecimalWork" (90 : Nat) ({ cls := "NumberHouse$Big", name := "addSigned", desc := "(LNumberHouse$Big;Z)V" } : MethodName)) ∈ q_tbl := q_of 1372 (by decide +kernel) (by decide +kernel)
theorem LV_DW_90 : q_LV "NumberHouse$DecimalWork" 90 y_Big_addSigned prog_2_method_22_code 4 none 2 := ⟨w_1267, w_4, w_1372, w_1265, w_1266, ⟨by decide, by decide, by decide +kernel⟩⟩
theorem d_4_5_164 : decode prog_4_method_5_code 164 = .ok (.iconst 1, 1) := by decide +kernel
theorem d_4_5_165 : decode prog_4_method_5_code 165 = .ok (.ireturn, 1) := by decide +kernel
def y_DW_sum : MethodName := ⟨"NumberHouse$DecimalWork", "sum", "(LNumberHouse$Dec;LNumberHouse$Dec;Z)Z"⟩
set_option maxRecDepth 100000 in
set_option maxHeartbeats 4000000 in
theorem c_DW_sum (l : Launch) (D : va_G) (g : Nat → ClassId) (ws : va_W) (kO0 kO1 kO2 kO4 kO5 kO6 kO8 kO14 kA18 kA19 kA21 kA27 qO0 qO1 qO2 qO3 qO4 qO5 qO6 qO8 qO9 qO10 qO11 qO12 qO13 qO14 qO15 qO16 qO17 qA18 qA19 qA21 qA27 : Nat) (hO0 : ws[kO0]? = (some (qO0, .inr (5, [.ref qO3, .long 0, .ref qO4, .int 0])) : Option (Nat × va_E))) (hO1 : ws[kO1]? = (some (qO1, .inr (3, [.ref qO5, .int 0, .int 1])) : Option (Nat × va_E))) (hO2 : ws[kO2]? = (some (qO2, .inr (3, [.ref qO6, .int 0, .int 1])) : Option (Nat × va_E))) (hO4 : ws[kO4]? = (some (qO4, .inr (4, [.ref qO8, .ref qO9, .ref qO10, .ref qO11, .ref qO12, .ref qO13, .ref qO14, .ref qO15, .ref qO16, .ref qO17])) : Option (Nat × va_E))) (hO5 : ws[kO5]? = (some (qO5, .inr (2, [.ref qA18, .int 0, .int 0])) : Option (Nat × va_E))) (hO6 : ws[kO6]? = (some (qO6, .inr (2, [.ref qA19, .int 0, .int 0])) : Option (Nat × va_E))) (hO8 : ws[kO8]? = (some (qO8, .inr (2, [.ref qA21, .int 0, .int 0])) : Option (Nat × va_E))) (hO14 : ws[kO14]? = (some (qO14, .inr (2, [.ref qA27, .int 0, .int 0])) : Option (Nat × va_E))) (hA18 : ws[kA18]? = (some (qA18, .inl (g 0, 108, .inl (fun _ => 0))) : Option (Nat × va_E))) (hA19 : ws[kA19]? = (some (qA19, .inl (g 0, 108, .inl (fun _ => 0))) : Option (Nat × va_E))) (hA21 : ws[kA21]? = (some (qA21, .inl (g 0, 220, .inl (fun _ => 0))) : Option (Nat × va_E))) (hA27 : ws[kA27]? = (some (qA27, .inl (g 0, 220, .inl (fun _ => 0))) : Option (Nat × va_E))) (n_A18_A21 : kA18 ≠ kA21) (n_A18_A27 : kA18 ≠ kA27) (n_A19_A21 : kA19 ≠ kA21) (n_A19_A27 : kA19 ≠ kA27) (n_A21_A27 : kA21 ≠ kA27) (n_O14_O8 : kO14 ≠ kO8) (n_O5_O14 : kO5 ≠ kO14) (n_O5_O8 : kO5 ≠ kO8) (n_O6_O14 : kO6 ≠ kO14) (n_O6_O8 : kO6 ≠ kO8) : q_mI l y_DW_sum prog_4_method_5_code 8 (.boolean) 3 0 0 D g [.ref qO0, .ref qO1, .ref qO2, .int 0] ws (fun r u => 1 = r ∧ q_un ws u [kO0, kO8, kO14, kA21, kA27] ∧ u[kO0]? = (some (qO0, .inr (5, [.ref qO3, .long 0, .ref qO4, .int 0])) : Option (Nat × va_E)) ∧ u[kO8]? = (some (qO8, .inr (2, [.ref qA21, .int 0, .int 0])) : Option (Nat × va_E)) ∧ u[kO14]? = (some (qO14, .inr (2, [.ref qA27, .int 0, .int 0])) : Option (Nat × va_E)) ∧ u[kA21]? = (some (qA21, .inl (g 0, 220, .inl (fun _ => 0))) : Option (Nat × va_E)) ∧ u[kA27]? = (some (qA27, .inl (g 0, 220, .inl (fun _ => 0))) : Option (Nat × va_E))) := by
  intro sz
  refine q_into (by decide) (Nat.le_of_ble_eq_true rfl) ?_
  intro p e s m below meth c ls hsz C0 V hl
  have hx := C0.1
  have hb := C0.2.1
  have hl : lv_has ls 8 [(0, .ref qO0), (1, .ref qO1), (2, .ref qO2), (3, .int 0)] := hl
  have n_A18_O0 := q_df hA18 hO0
  have n_A18_O14 := q_df hA18 hO14
  have n_A18_O8 := q_df hA18 hO8
  have n_A19_O0 := q_df hA19 hO0
  have n_A19_O14 := q_df hA19 hO14
  have n_A19_O8 := q_df hA19 hO8
  have n_A21_O0 := q_df hA21 hO0
  have n_A21_O14 := q_df hA21 hO14
  have n_A27_A21 := Ne.symm n_A21_A27
  have n_A27_O0 := q_df hA27 hO0
  have n_A27_O8 := q_df hA27 hO8
  have n_O0_A21 := Ne.symm (q_df hA21 hO0)
  have n_O0_A27 := Ne.symm (q_df hA27 hO0)
  have n_O0_O14 := q_dc hO0 hO14 (q_pd 5 2 rfl)
  have n_O0_O8 := q_dc hO0 hO8 (q_pd 5 2 rfl)
  have n_O1_A21 := Ne.symm (q_df hA21 hO1)
  have n_O1_A27 := Ne.symm (q_df hA27 hO1)
  have n_O1_O0 := q_dc hO1 hO0 (q_pd 3 5 rfl)
  have n_O1_O14 := q_dc hO1 hO14 (q_pd 3 2 rfl)
  have n_O1_O8 := q_dc hO1 hO8 (q_pd 3 2 rfl)
  have n_O14_A21 := Ne.symm (q_df hA21 hO14)
  have n_O14_O0 := q_dc hO14 hO0 (q_pd 2 5 rfl)
  have n_O2_A21 := Ne.symm (q_df hA21 hO2)
  have n_O2_A27 := Ne.symm (q_df hA27 hO2)
  have n_O2_O0 := q_dc hO2 hO0 (q_pd 3 5 rfl)
  have n_O2_O14 := q_dc hO2 hO14 (q_pd 3 2 rfl)
  have n_O2_O8 := q_dc hO2 hO8 (q_pd 3 2 rfl)
  have n_O4_A21 := Ne.symm (q_df hA21 hO4)
  have n_O4_A27 := Ne.symm (q_df hA27 hO4)
  have n_O4_O0 := q_dc hO4 hO0 (q_pd 4 5 rfl)
  have n_O4_O14 := q_dc hO4 hO14 (q_pd 4 2 rfl)
  have n_O4_O8 := q_dc hO4 hO8 (q_pd 4 2 rfl)
  have n_O5_A21 := Ne.symm (q_df hA21 hO5)
  have n_O5_A27 := Ne.symm (q_df hA27 hO5)
  have n_O5_O0 := q_dc hO5 hO0 (q_pd 2 5 rfl)
  have n_O6_A21 := Ne.symm (q_df hA21 hO6)
  have n_O6_A27 := Ne.symm (q_df hA27 hO6)
  have n_O6_O0 := q_dc hO6 hO0 (q_pd 2 5 rfl)
  have n_O8_A27 := Ne.symm (q_df hA27 hO8)
  have n_O8_O0 := q_dc hO8 hO0 (q_pd 2 5 rfl)
  have n_O8_O14 := Ne.symm n_O14_O8
  have hF : q_un ws ws [kO0, kO8, kO14, kA21, kA27] := q_u0
  refine lv_aload_n hx hb d_4_5_0 rfl (lv_at hl 0 rfl) ?_
  refine lv_aload_n hx hb d_4_5_1 rfl (lv_at hl 1 rfl) ?_
  refine q_get (ci := 3) (j := 1) (v := .int 0) C0 V i_Dec rfl rfl hO1 (by decide) w_176 rfl d_4_5_2 ?_
  refine lv_aload_n hx hb d_4_5_5 rfl (lv_at hl 2 rfl) ?_
  refine q_get (ci := 3) (j := 1) (v := .int 0) C0 V i_Dec rfl rfl hO2 (by decide) w_176 rfl d_4_5_6 ?_
  refine q_max C0 hl.1 rfl w_1370 w_803 w_7 w_804 ⟨Nat.le_of_ble_eq_true rfl, Nat.le_of_ble_eq_true rfl⟩ ⟨Nat.le_of_ble_eq_true rfl, Nat.le_of_ble_eq_true rfl⟩ d_4_5_9 ?_
  refine q_ti (v := 0) (by decide) ?_
  refine lv_i2l hx hb d_4_5_12 rfl ?_
  refine q_tl (v := 0) (by decide) ?_
  refine q_put (ci := 5) (j := 1) (v := .long 0) (ty := .long) C0 V i_DW o_DW n_DW rfl rfl hO0 (by decide) w_212 rfl rfl rfl rfl (Nat.le_of_ble_eq_true rfl) d_4_5_13 (fun H locs w1 hu2 hO0 V => ?_)
  replace hO0 : w1[kO0]? = (some (qO0, .inr (5, [.ref qO3, .long 0, .ref qO4, .int 0])) : Option (Nat × va_E)) := hO0
  replace hF := q_us hF hu2 (.head _)
  refine lv_aload_n hx hb d_4_5_16 rfl (lv_at hl 0 rfl) ?_
  refine q_get (ci := 5) (j := 1) (v := .long 0) C0 V i_DW rfl rfl hO0 (by decide) w_212 rfl d_4_5_17 ?_
  refine lv_aload_n hx hb d_4_5_20 rfl (lv_at hl 1 rfl) ?_
  replace hO1 := (hu2 _ n_O1_O0).trans (hO1)
  refine q_get (ci := 3) (j := 1) (v := .int 0) C0 V i_Dec rfl rfl hO1 (by decide) w_176 rfl d_4_5_21 ?_
  refine lv_i2l hx hb d_4_5_24 rfl ?_
  refine q_tl (v := 0) (by decide) ?_
  refine lv_lsub hx hb d_4_5_25 ?_
  refine q_tl (v := 0) (by decide) ?_
  refine lv_lstore (lv' := [(4, .long 0), (0, .ref qO0), (1, .ref qO1), (2, .ref qO2), (3, .int 0)]) hx hb d_4_5_26 hl (by decide) rfl (fun ls hl => ?_)
  refine lv_aload_n hx hb d_4_5_28 rfl (lv_at hl 1 rfl) ?_
  refine q_get (ci := 5) (j := 1) (v := .long 0) C0 V i_DW rfl rfl hO0 (by decide) w_212 rfl d_4_5_29 ?_
  refine lv_aload_n hx hb d_4_5_32 rfl (lv_at hl 3 rfl) ?_
  replace hO2 := (hu2 _ n_O2_O0).trans (hO2)
  refine q_get (ci := 3) (j := 1) (v := .int 0) C0 V i_Dec rfl rfl hO2 (by decide) w_176 rfl d_4_5_33 ?_
  refine lv_i2l hx hb d_4_5_36 rfl ?_
  refine q_tl (v := 0) (by decide) ?_
  refine lv_lsub hx hb d_4_5_37 ?_
  refine q_tl (v := 0) (by decide) ?_
  refine lv_lstore (lv' := [(6, .long 0), (4, .long 0), (0, .ref qO0), (1, .ref qO1), (2, .ref qO2), (3, .int 0)]) hx hb d_4_5_38 hl (by decide) rfl (fun ls hl => ?_)
  refine lv_aload_n hx hb d_4_5_40 rfl (lv_at hl 3 rfl) ?_
  refine q_get (ci := 3) (j := 0) (v := .ref qO5) C0 V i_Dec rfl rfl hO1 (by decide) w_171 rfl d_4_5_41 ?_
  replace hO5 := (hu2 _ n_O5_O0).trans (hO5)
  refine q_get (ci := 2) (j := 1) (v := .int 0) C0 V i_Big rfl rfl hO5 (by decide) w_90 rfl d_4_5_44 ?_
  refine lv_if_le (tgt := 65) hx hb d_4_5_47 (by decide) (fun c3 => ?_) (fun c3 => absurd (by decide) c3)
  refine lv_aload_n hx hb d_4_5_65 rfl (lv_at hl 4 rfl) ?_
  refine q_get (ci := 3) (j := 0) (v := .ref qO6) C0 V i_Dec rfl rfl hO2 (by decide) w_171 rfl d_4_5_66 ?_
  replace hO6 := (hu2 _ n_O6_O0).trans (hO6)
  refine q_get (ci := 2) (j := 1) (v := .int 0) C0 V i_Big rfl rfl hO6 (by decide) w_90 rfl d_4_5_69 ?_
  refine lv_if_le (tgt := 92) hx hb d_4_5_72 (by decide) (fun c4 => ?_) (fun c4 => absurd (by decide) c4)
  refine lv_aload_n hx hb d_4_5_92 rfl (lv_at hl 2 rfl) ?_
  refine q_get (ci := 5) (j := 2) (v := .ref qO4) C0 V i_DW rfl rfl hO0 (by decide) w_214 rfl d_4_5_93 ?_
  replace hO4 := (hu2 _ n_O4_O0).trans (hO4)
  refine q_get (ci := 4) (j := 0) (v := .ref qO8) C0 V i_Mil rfl rfl hO4 (by decide) w_111 rfl d_4_5_96 ?_
  refine lv_aload_n hx hb d_4_5_99 rfl (lv_at hl 3 rfl) ?_
  refine q_get (ci := 3) (j := 0) (v := .ref qO5) C0 V i_Dec rfl rfl hO1 (by decide) w_171 rfl d_4_5_100 ?_
  replace hO8 := (hu2 _ n_O8_O0).trans (hO8)
  replace hA21 := (hu2 _ n_A21_O0).trans (hA21)
  replace hA18 := (hu2 _ n_A18_O0).trans (hA18)
  refine q_gov V (q_runV (As := [.ref qO5]) (rest := []) (d := 2) (mc := 0) (ms := 0) (ci := 2) C0 V rfl LV_DW_44 (c_Big_copy l D g w1 kO8 kO5 kA21 kA18 qO8 qO5 qA21 qA18 hO8 hO5 hA21 hA18 n_A18_A21 n_O5_O8 _) rfl rfl hO8 rfl hl.1 rfl (Nat.le_of_ble_eq_true rfl) ⟨by decide, by decide⟩ ⟨Nat.le_of_ble_eq_true rfl, Nat.le_of_ble_eq_true rfl⟩ d_4_5_103) (fun u6 H locs hp5 V => ?_)
  obtain ⟨hg7, hO8, hA21⟩ := hp5
  replace hF := q_uc hF hg7 (q_sc (.tail _ (.head _)) (q_sc (List.mem_of_getElem? (i := 3) rfl) (fun _ h => absurd h List.not_mem_nil)))
  refine lv_aload_n hx hb d_4_5_106 rfl (lv_at hl 2 rfl) ?_
  replace hO0 := (hg7 _ (q_nc n_O0_O8 (q_nc n_O0_A21 List.not_mem_nil))).trans (hO0)
  refine q_get (ci := 5) (j := 2) (v := .ref qO4) C0 V i_DW rfl rfl hO0 (by decide) w_214 rfl d_4_5_107 ?_
  replace hO4 := (hg7 _ (q_nc n_O4_O8 (q_nc n_O4_A21 List.not_mem_nil))).trans (hO4)
  refine q_get (ci := 4) (j := 0) (v := .ref qO8) C0 V i_Mil rfl rfl hO4 (by decide) w_111 rfl d_4_5_110 ?_
  refine lv_lload hx hb d_4_5_113 (lv_at hl 1 rfl) ?_
  refine lv_l2i hx hb d_4_5_115 rfl ?_
  refine q_ti (v := 0) (by decide) ?_
  refine q_gov V (q_runV (As := [.int 0]) (rest := []) (d := 1) (mc := 0) (ms := 0) (ci := 2) C0 V rfl LV_DW_77 (c_Big_timesTen l D g u6 qO8 _) rfl rfl hO8 rfl hl.1 rfl (Nat.le_of_ble_eq_true rfl) ⟨by decide, by decide⟩ ⟨Nat.le_of_ble_eq_true rfl, Nat.le_of_ble_eq_true rfl⟩ d_4_5_116) (fun u9 H locs hp8 V => ?_)
  obtain rfl := hp8
  refine lv_aload_n hx hb d_4_5_119 rfl (lv_at hl 2 rfl) ?_
  refine q_get (ci := 5) (j := 2) (v := .ref qO4) C0 V i_DW rfl rfl hO0 (by decide) w_214 rfl d_4_5_120 ?_
  refine q_get (ci := 4) (j := 6) (v := .ref qO14) C0 V i_Mil rfl rfl hO4 (by decide) w_126 rfl d_4_5_123 ?_
  refine lv_aload_n hx hb d_4_5_126 rfl (lv_at hl 4 rfl) ?_
  replace hO2 := (hg7 _ (q_nc n_O2_O8 (q_nc n_O2_A21 List.not_mem_nil))).trans (hO2)
  refine q_get (ci := 3) (j := 0) (v := .ref qO6) C0 V i_Dec rfl rfl hO2 (by decide) w_171 rfl d_4_5_127 ?_
  replace hO14 := (hg7 _ (q_nc n_O14_O8 (q_nc n_O14_A21 List.not_mem_nil))).trans ((hu2 _ n_O14_O0).trans (hO14))
  replace hO6 := (hg7 _ (q_nc n_O6_O8 (q_nc n_O6_A21 List.not_mem_nil))).trans (hO6)
  replace hA27 := (hg7 _ (q_nc n_A27_O8 (q_nc n_A27_A21 List.not_mem_nil))).trans ((hu2 _ n_A27_O0).trans (hA27))
  replace hA19 := (hg7 _ (q_nc n_A19_O8 (q_nc n_A19_A21 List.not_mem_nil))).trans ((hu2 _ n_A19_O0).trans (hA19))
  refine q_gov V (q_runV (As := [.ref qO6]) (rest := []) (d := 2) (mc := 0) (ms := 0) (ci := 2) C0 V rfl LV_DW_44 (c_Big_copy l D g u6 kO14 kO6 kA27 kA19 qO14 qO6 qA27 qA19 hO14 hO6 hA27 hA19 n_A19_A27 n_O6_O14 _) rfl rfl hO14 rfl hl.1 rfl (Nat.le_of_ble_eq_true rfl) ⟨by decide, by decide⟩ ⟨Nat.le_of_ble_eq_true rfl, Nat.le_of_ble_eq_true rfl⟩ d_4_5_130) (fun u12 H locs hp11 V => ?_)
  obtain ⟨hg13, hO14, hA27⟩ := hp11
  replace hF := q_uc hF hg13 (q_sc (.tail _ (.tail _ (.head _))) (q_sc (List.mem_of_getElem? (i := 4) rfl) (fun _ h => absurd h List.not_mem_nil)))
  refine lv_aload_n hx hb d_4_5_133 rfl (lv_at hl 2 rfl) ?_
  replace hO0 := (hg13 _ (q_nc n_O0_O14 (q_nc n_O0_A27 List.not_mem_nil))).trans (hO0)
  refine q_get (ci := 5) (j := 2) (v := .ref qO4) C0 V i_DW rfl rfl hO0 (by decide) w_214 rfl d_4_5_134 ?_
  replace hO4 := (hg13 _ (q_nc n_O4_O14 (q_nc n_O4_A27 List.not_mem_nil))).trans (hO4)
  refine q_get (ci := 4) (j := 6) (v := .ref qO14) C0 V i_Mil rfl rfl hO4 (by decide) w_126 rfl d_4_5_137 ?_
  refine lv_lload hx hb d_4_5_140 (lv_at hl 0 rfl) ?_
  refine lv_l2i hx hb d_4_5_142 rfl ?_
  refine q_ti (v := 0) (by decide) ?_
  refine q_gov V (q_runV (As := [.int 0]) (rest := []) (d := 1) (mc := 0) (ms := 0) (ci := 2) C0 V rfl LV_DW_77 (c_Big_timesTen l D g u12 qO14 _) rfl rfl hO14 rfl hl.1 rfl (Nat.le_of_ble_eq_true rfl) ⟨by decide, by decide⟩ ⟨Nat.le_of_ble_eq_true rfl, Nat.le_of_ble_eq_true rfl⟩ d_4_5_143) (fun u15 H locs hp14 V => ?_)
  obtain rfl := hp14
  refine lv_aload_n hx hb d_4_5_146 rfl (lv_at hl 2 rfl) ?_
  refine q_get (ci := 5) (j := 2) (v := .ref qO4) C0 V i_DW rfl rfl hO0 (by decide) w_214 rfl d_4_5_147 ?_
  refine q_get (ci := 4) (j := 0) (v := .ref qO8) C0 V i_Mil rfl rfl hO4 (by decide) w_111 rfl d_4_5_150 ?_
  refine lv_aload_n hx hb d_4_5_153 rfl (lv_at hl 2 rfl) ?_
  refine q_get (ci := 5) (j := 2) (v := .ref qO4) C0 V i_DW rfl rfl hO0 (by decide) w_214 rfl d_4_5_154 ?_
  refine q_get (ci := 4) (j := 6) (v := .ref qO14) C0 V i_Mil rfl rfl hO4 (by decide) w_126 rfl d_4_5_157 ?_
  refine lv_iload_n hx hb d_4_5_160 rfl (lv_at hl 5 rfl) ?_
  replace hO8 := (hg13 _ (q_nc n_O8_O14 (q_nc n_O8_A27 List.not_mem_nil))).trans (hO8)
  refine q_gov V (q_runV (As := [.ref qO14, .int 0]) (rest := []) (d := 1) (mc := 0) (ms := 0) (ci := 2) C0 V rfl LV_DW_90 (c_Big_addSigned l D g u12 kO14 qO8 qO14 qA27 hO14 _) rfl rfl hO8 rfl hl.1 rfl (Nat.le_of_ble_eq_true rfl) ⟨by decide, by decide⟩ ⟨Nat.le_of_ble_eq_true rfl, Nat.le_of_ble_eq_true rfl⟩ d_4_5_161) (fun u18 H locs hp17 V => ?_)
  obtain rfl := hp17
  refine lv_iconst (v := 1) hx hb d_4_5_164 (by decide) ?_
  replace hA21 := (hg13 _ (q_nc n_A21_O14 (q_nc n_A21_A27 List.not_mem_nil))).trans (hA21)
  exact q_retz C0 V (rfl) (⟨rfl, hF, hO0, hO8, hO14, hA21, hA27⟩) d_4_5_165
set_option maxRecDepth 100000 in
set_option maxHeartbeats 4000000 in
theorem c_DW_sum_2 (l : Launch) (D : va_G) (g : Nat → ClassId) (ws : va_W) (kO0 kO1 kO2 kO4 kO5 kO6 kO8 kO14 kA18 kA19 kA21 kA27 qO0 qO1 qO2 qO3 qO4 qO5 qO6 qO8 qO9 qO10 qO11 qO12 qO13 qO14 qO15 qO16 qO17 qA18 qA19 qA21 qA27 : Nat) (hO0 : ws[kO0]? = (some (qO0, .inr (5, [.ref qO3, .long 0, .ref qO4, .int 0])) : Option (Nat × va_E))) (hO1 : ws[kO1]? = (some (qO1, .inr (3, [.ref qO5, .int 0, .int 1])) : Option (Nat × va_E))) (hO2 : ws[kO2]? = (some (qO2, .inr (3, [.ref qO6, .int 0, .int 1])) : Option (Nat × va_E))) (hO4 : ws[kO4]? = (some (qO4, .inr (4, [.ref qO8, .ref qO9, .ref qO10, .ref qO11, .ref qO12, .ref qO13, .ref qO14, .ref qO15, .ref qO16, .ref qO17])) : Option (Nat × va_E))) (hO5 : ws[kO5]? = (some (qO5, .inr (2, [.ref qA18, .int 0, .int 0])) : Option (Nat × va_E))) (hO6 : ws[kO6]? = (some (qO6, .inr (2, [.ref qA19, .int 0, .int 0])) : Option (Nat × va_E))) (hO8 : ws[kO8]? = (some (qO8, .inr (2, [.ref qA21, .int 0, .int 0])) : Option (Nat × va_E))) (hO14 : ws[kO14]? = (some (qO14, .inr (2, [.ref qA27, .int 0, .int 0])) : Option (Nat × va_E))) (hA18 : ws[kA18]? = (some (qA18, .inl (g 0, 108, .inl (fun _ => 0))) : Option (Nat × va_E))) (hA19 : ws[kA19]? = (some (qA19, .inl (g 0, 108, .inl (fun _ => 0))) : Option (Nat × va_E))) (hA21 : ws[kA21]? = (some (qA21, .inl (g 0, 220, .inl (fun _ => 0))) : Option (Nat × va_E))) (hA27 : ws[kA27]? = (some (qA27, .inl (g 0, 220, .inl (fun _ => 0))) : Option (Nat × va_E))) (n_A18_A21 : kA18 ≠ kA21) (n_A18_A27 : kA18 ≠ kA27) (n_A19_A21 : kA19 ≠ kA21) (n_A19_A27 : kA19 ≠ kA27) (n_A21_A27 : kA21 ≠ kA27) (n_O14_O8 : kO14 ≠ kO8) (n_O5_O14 : kO5 ≠ kO14) (n_O5_O8 : kO5 ≠ kO8) (n_O6_O14 : kO6 ≠ kO14) (n_O6_O8 : kO6 ≠ kO8) : q_mI l y_DW_sum prog_4_method_5_code 8 (.boolean) 3 0 0 D g [.ref qO0, .ref qO1, .ref qO2, .int 1] ws (fun r u => 1 = r ∧ q_un ws u [kO0, kO8, kO14, kA21, kA27] ∧ u[kO0]? = (some (qO0, .inr (5, [.ref qO3, .long 0, .ref qO4, .int 0])) : Option (Nat × va_E)) ∧ u[kO8]? = (some (qO8, .inr (2, [.ref qA21, .int 0, .int 0])) : Option (Nat × va_E)) ∧ u[kO14]? = (some (qO14, .inr (2, [.ref qA27, .int 0, .int 0])) : Option (Nat × va_E)) ∧ u[kA21]? = (some (qA21, .inl (g 0, 220, .inl (fun _ => 0))) : Option (Nat × va_E)) ∧ u[kA27]? = (some (qA27, .inl (g 0, 220, .inl (fun _ => 0))) : Option (Nat × va_E))) := by
  intro sz
  refine q_into (by decide) (Nat.le_of_ble_eq_true rfl) ?_
  intro p e s m below meth c ls hsz C0 V hl
  have hx := C0.1
  have hb := C0.2.1
  have hl : lv_has ls 8 [(0, .ref qO0), (1, .ref qO1), (2, .ref qO2), (3, .int 1)] := hl
  have n_A18_O0 := q_df hA18 hO0
  have n_A18_O14 := q_df hA18 hO14
  have n_A18_O8 := q_df hA18 hO8
  have n_A19_O0 := q_df hA19 hO0
  have n_A19_O14 := q_df hA19 hO14
  have n_A19_O8 := q_df hA19 hO8
  have n_A21_O0 := q_df hA21 hO0
  have n_A21_O14 := q_df hA21 hO14
  have n_A27_A21 := Ne.symm n_A21_A27
  have n_A27_O0 := q_df hA27 hO0
  have n_A27_O8 := q_df hA27 hO8
  have n_O0_A21 := Ne.symm (q_df hA21 hO0)
  have n_O0_A27 := Ne.symm (q_df hA27 hO0)
  have n_O0_O14 := q_dc hO0 hO14 (q_pd 5 2 rfl)
  have n_O0_O8 := q_dc hO0 hO8 (q_pd 5 2 rfl)
  have n_O1_A21 := Ne.symm (q_df hA21 hO1)
  have n_O1_A27 := Ne.symm (q_df hA27 hO1)
  have n_O1_O0 := q_dc hO1 hO0 (q_pd 3 5 rfl)
  have n_O1_O14 := q_dc hO1 hO14 (q_pd 3 2 rfl)
  have n_O1_O8 := q_dc hO1 hO8 (q_pd 3 2 rfl)
  have n_O14_A21 := Ne.symm (q_df hA21 hO14)
  have n_O14_O0 := q_dc hO14 hO0 (q_pd 2 5 rfl)
  have n_O2_A21 := Ne.symm (q_df hA21 hO2)
  have n_O2_A27 := Ne.symm (q_df hA27 hO2)
  have n_O2_O0 := q_dc hO2 hO0 (q_pd 3 5 rfl)
  have n_O2_O14 := q_dc hO2 hO14 (q_pd 3 2 rfl)
  have n_O2_O8 := q_dc hO2 hO8 (q_pd 3 2 rfl)
  have n_O4_A21 := Ne.symm (q_df hA21 hO4)
  have n_O4_A27 := Ne.symm (q_df hA27 hO4)
  have n_O4_O0 := q_dc hO4 hO0 (q_pd 4 5 rfl)
  have n_O4_O14 := q_dc hO4 hO14 (q_pd 4 2 rfl)
  have n_O4_O8 := q_dc hO4 hO8 (q_pd 4 2 rfl)
  have n_O5_A21 := Ne.symm (q_df hA21 hO5)
  have n_O5_A27 := Ne.symm (q_df hA27 hO5)
  have n_O5_O0 := q_dc hO5 hO0 (q_pd 2 5 rfl)
  have n_O6_A21 := Ne.symm (q_df hA21 hO6)
  have n_O6_A27 := Ne.symm (q_df hA27 hO6)
  have n_O6_O0 := q_dc hO6 hO0 (q_pd 2 5 rfl)
  have n_O8_A27 := Ne.symm (q_df hA27 hO8)
  have n_O8_O0 := q_dc hO8 hO0 (q_pd 2 5 rfl)
  have n_O8_O14 := Ne.symm n_O14_O8
  have hF : q_un ws ws [kO0, kO8, kO14, kA21, kA27] := q_u0
  refine lv_aload_n hx hb d_4_5_0 rfl (lv_at hl 0 rfl) ?_
  refine lv_aload_n hx hb d_4_5_1 rfl (lv_at hl 1 rfl) ?_
  refine q_get (ci := 3) (j := 1) (v := .int 0) C0 V i_Dec rfl rfl hO1 (by decide) w_176 rfl d_4_5_2 ?_
  refine lv_aload_n hx hb d_4_5_5 rfl (lv_at hl 2 rfl) ?_
  refine q_get (ci := 3) (j := 1) (v := .int 0) C0 V i_Dec rfl rfl hO2 (by decide) w_176 rfl d_4_5_6 ?_
  refine q_max C0 hl.1 rfl w_1370 w_803 w_7 w_804 ⟨Nat.le_of_ble_eq_true rfl, Nat.le_of_ble_eq_true rfl⟩ ⟨Nat.le_of_ble_eq_true rfl, Nat.le_of_ble_eq_true rfl⟩ d_4_5_9 ?_
  refine q_ti (v := 0) (by decide) ?_
  refine lv_i2l hx hb d_4_5_12 rfl ?_
  refine q_tl (v := 0) (by decide) ?_
  refine q_put (ci := 5) (j := 1) (v := .long 0) (ty := .long) C0 V i_DW o_DW n_DW rfl rfl hO0 (by decide) w_212 rfl rfl rfl rfl (Nat.le_of_ble_eq_true rfl) d_4_5_13 (fun H locs w1 hu2 hO0 V => ?_)
  replace hO0 : w1[kO0]? = (some (qO0, .inr (5, [.ref qO3, .long 0, .ref qO4, .int 0])) : Option (Nat × va_E)) := hO0
  replace hF := q_us hF hu2 (.head _)
  refine lv_aload_n hx hb d_4_5_16 rfl (lv_at hl 0 rfl) ?_
  refine q_get (ci := 5) (j := 1) (v := .long 0) C0 V i_DW rfl rfl hO0 (by decide) w_212 rfl d_4_5_17 ?_
  refine lv_aload_n hx hb d_4_5_20 rfl (lv_at hl 1 rfl) ?_
  replace hO1 := (hu2 _ n_O1_O0).trans (hO1)
  refine q_get (ci := 3) (j := 1) (v := .int 0) C0 V i_Dec rfl rfl hO1 (by decide) w_176 rfl d_4_5_21 ?_
  refine lv_i2l hx hb d_4_5_24 rfl ?_
  refine q_tl (v := 0) (by decide) ?_
  refine lv_lsub hx hb d_4_5_25 ?_
  refine q_tl (v := 0) (by decide) ?_
  refine lv_lstore (lv' := [(4, .long 0), (0, .ref qO0), (1, .ref qO1), (2, .ref qO2), (3, .int 1)]) hx hb d_4_5_26 hl (by decide) rfl (fun ls hl => ?_)
  refine lv_aload_n hx hb d_4_5_28 rfl (lv_at hl 1 rfl) ?_
  refine q_get (ci := 5) (j := 1) (v := .long 0) C0 V i_DW rfl rfl hO0 (by decide) w_212 rfl d_4_5_29 ?_
  refine lv_aload_n hx hb d_4_5_32 rfl (lv_at hl 3 rfl) ?_
  replace hO2 := (hu2 _ n_O2_O0).trans (hO2)
  refine q_get (ci := 3) (j := 1) (v := .int 0) C0 V i_Dec rfl rfl hO2 (by decide) w_176 rfl d_4_5_33 ?_
  refine lv_i2l hx hb d_4_5_36 rfl ?_
  refine q_tl (v := 0) (by decide) ?_
  refine lv_lsub hx hb d_4_5_37 ?_
  refine q_tl (v := 0) (by decide) ?_
  refine lv_lstore (lv' := [(6, .long 0), (4, .long 0), (0, .ref qO0), (1, .ref qO1), (2, .ref qO2), (3, .int 1)]) hx hb d_4_5_38 hl (by decide) rfl (fun ls hl => ?_)
  refine lv_aload_n hx hb d_4_5_40 rfl (lv_at hl 3 rfl) ?_
  refine q_get (ci := 3) (j := 0) (v := .ref qO5) C0 V i_Dec rfl rfl hO1 (by decide) w_171 rfl d_4_5_41 ?_
  replace hO5 := (hu2 _ n_O5_O0).trans (hO5)
  refine q_get (ci := 2) (j := 1) (v := .int 0) C0 V i_Big rfl rfl hO5 (by decide) w_90 rfl d_4_5_44 ?_
  refine lv_if_le (tgt := 65) hx hb d_4_5_47 (by decide) (fun c3 => ?_) (fun c3 => absurd (by decide) c3)
  refine lv_aload_n hx hb d_4_5_65 rfl (lv_at hl 4 rfl) ?_
  refine q_get (ci := 3) (j := 0) (v := .ref qO6) C0 V i_Dec rfl rfl hO2 (by decide) w_171 rfl d_4_5_66 ?_
  replace hO6 := (hu2 _ n_O6_O0).trans (hO6)
  refine q_get (ci := 2) (j := 1) (v := .int 0) C0 V i_Big rfl rfl hO6 (by decide) w_90 rfl d_4_5_69 ?_
  refine lv_if_le (tgt := 92) hx hb d_4_5_72 (by decide) (fun c4 => ?_) (fun c4 => absurd (by decide) c4)
  refine lv_aload_n hx hb d_4_5_92 rfl (lv_at hl 2 rfl) ?_
  refine q_get (ci := 5) (j := 2) (v := .ref qO4) C0 V i_DW rfl rfl hO0 (by decide) w_214 rfl d_4_5_93 ?_
  replace hO4 := (hu2 _ n_O4_O0).trans (hO4)
  refine q_get (ci := 4) (j := 0) (v := .ref qO8) C0 V i_Mil rfl rfl hO4 (by decide) w_111 rfl d_4_5_96 ?_
  refine lv_aload_n hx hb d_4_5_99 rfl (lv_at hl 3 rfl) ?_
  refine q_get (ci := 3) (j := 0) (v := .ref qO5) C0 V i_Dec rfl rfl hO1 (by decide) w_171 rfl d_4_5_100 ?_
  replace hO8 := (hu2 _ n_O8_O0).trans (hO8)
  replace hA21 := (hu2 _ n_A21_O0).trans (hA21)
  replace hA18 := (hu2 _ n_A18_O0).trans (hA18)
  refine q_gov V (q_runV (As := [.ref qO5]) (rest := []) (d := 2) (mc := 0) (ms := 0) (ci := 2) C0 V rfl LV_DW_44 (c_Big_copy l D g w1 kO8 kO5 kA21 kA18 qO8 qO5 qA21 qA18 hO8 hO5 hA21 hA18 n_A18_A21 n_O5_O8 _) rfl rfl hO8 rfl hl.1 rfl (Nat.le_of_ble_eq_true rfl) ⟨by decide, by decide⟩ ⟨Nat.le_of_ble_eq_true rfl, Nat.le_of_ble_eq_true rfl⟩ d_4_5_103) (fun u6 H locs hp5 V => ?_)
  obtain ⟨hg7, hO8, hA21⟩ := hp5
  replace hF := q_uc hF hg7 (q_sc (.tail _ (.head _)) (q_sc (List.mem_of_getElem? (i := 3) rfl) (fun _ h => absurd h List.not_mem_nil)))
  refine lv_aload_n hx hb d_4_5_106 rfl (lv_at hl 2 rfl) ?_
  replace hO0 := (hg7 _ (q_nc n_O0_O8 (q_nc n_O0_A21 List.not_mem_nil))).trans (hO0)
  refine q_get (ci := 5) (j := 2) (v := .ref qO4) C0 V i_DW rfl rfl hO0 (by decide) w_214 rfl d_4_5_107 ?_
  replace hO4 := (hg7 _ (q_nc n_O4_O8 (q_nc n_O4_A21 List.not_mem_nil))).trans (hO4)
  refine q_get (ci := 4) (j := 0) (v := .ref qO8) C0 V i_Mil rfl rfl hO4 (by decide) w_111 rfl d_4_5_110 ?_
  refine lv_lload hx hb d_4_5_113 (lv_at hl 1 rfl) ?_
  refine lv_l2i hx hb d_4_5_115 rfl ?_
  refine q_ti (v := 0) (by decide) ?_
  refine q_gov V (q_runV (As := [.int 0]) (rest := []) (d := 1) (mc := 0) (ms := 0) (ci := 2) C0 V rfl LV_DW_77 (c_Big_timesTen l D g u6 qO8 _) rfl rfl hO8 rfl hl.1 rfl (Nat.le_of_ble_eq_true rfl) ⟨by decide, by decide⟩ ⟨Nat.le_of_ble_eq_true rfl, Nat.le_of_ble_eq_true rfl⟩ d_4_5_116) (fun u9 H locs hp8 V => ?_)
  obtain rfl := hp8
  refine lv_aload_n hx hb d_4_5_119 rfl (lv_at hl 2 rfl) ?_
  refine q_get (ci := 5) (j := 2) (v := .ref qO4) C0 V i_DW rfl rfl hO0 (by decide) w_214 rfl d_4_5_120 ?_
  refine q_get (ci := 4) (j := 6) (v := .ref qO14) C0 V i_Mil rfl rfl hO4 (by decide) w_126 rfl d_4_5_123 ?_
  refine lv_aload_n hx hb d_4_5_126 rfl (lv_at hl 4 rfl) ?_
  replace hO2 := (hg7 _ (q_nc n_O2_O8 (q_nc n_O2_A21 List.not_mem_nil))).trans (hO2)
  refine q_get (ci := 3) (j := 0) (v := .ref qO6) C0 V i_Dec rfl rfl hO2 (by decide) w_171 rfl d_4_5_127 ?_
  replace hO14 := (hg7 _ (q_nc n_O14_O8 (q_nc n_O14_A21 List.not_mem_nil))).trans ((hu2 _ n_O14_O0).trans (hO14))
  replace hO6 := (hg7 _ (q_nc n_O6_O8 (q_nc n_O6_A21 List.not_mem_nil))).trans (hO6)
  replace hA27 := (hg7 _ (q_nc n_A27_O8 (q_nc n_A27_A21 List.not_mem_nil))).trans ((hu2 _ n_A27_O0).trans (hA27))
  replace hA19 := (hg7 _ (q_nc n_A19_O8 (q_nc n_A19_A21 List.not_mem_nil))).trans ((hu2 _ n_A19_O0).trans (hA19))
  refine q_gov V (q_runV (As := [.ref qO6]) (rest := []) (d := 2) (mc := 0) (ms := 0) (ci := 2) C0 V rfl LV_DW_44 (c_Big_copy l D g u6 kO14 kO6 kA27 kA19 qO14 qO6 qA27 qA19 hO14 hO6 hA27 hA19 n_A19_A27 n_O6_O14 _) rfl rfl hO14 rfl hl.1 rfl (Nat.le_of_ble_eq_true rfl) ⟨by decide, by decide⟩ ⟨Nat.le_of_ble_eq_true rfl, Nat.le_of_ble_eq_true rfl⟩ d_4_5_130) (fun u12 H locs hp11 V => ?_)
  obtain ⟨hg13, hO14, hA27⟩ := hp11
  replace hF := q_uc hF hg13 (q_sc (.tail _ (.tail _ (.head _))) (q_sc (List.mem_of_getElem? (i := 4) rfl) (fun _ h => absurd h List.not_mem_nil)))
  refine lv_aload_n hx hb d_4_5_133 rfl (lv_at hl 2 rfl) ?_
  replace hO0 := (hg13 _ (q_nc n_O0_O14 (q_nc n_O0_A27 List.not_mem_nil))).trans (hO0)
  refine q_get (ci := 5) (j := 2) (v := .ref qO4) C0 V i_DW rfl rfl hO0 (by decide) w_214 rfl d_4_5_134 ?_
  replace hO4 := (hg13 _ (q_nc n_O4_O14 (q_nc n_O4_A27 List.not_mem_nil))).trans (hO4)
  refine q_get (ci := 4) (j := 6) (v := .ref qO14) C0 V i_Mil rfl rfl hO4 (by decide) w_126 rfl d_4_5_137 ?_
  refine lv_lload hx hb d_4_5_140 (lv_at hl 0 rfl) ?_
  refine lv_l2i hx hb d_4_5_142 rfl ?_
  refine q_ti (v := 0) (by decide) ?_
  refine q_gov V (q_runV (As := [.int 0]) (rest := []) (d := 1) (mc := 0) (ms := 0) (ci := 2) C0 V rfl LV_DW_77 (c_Big_timesTen l D g u12 qO14 _) rfl rfl hO14 rfl hl.1 rfl (Nat.le_of_ble_eq_true rfl) ⟨by decide, by decide⟩ ⟨Nat.le_of_ble_eq_true rfl, Nat.le_of_ble_eq_true rfl⟩ d_4_5_143) (fun u15 H locs hp14 V => ?_)
  obtain rfl := hp14
  refine lv_aload_n hx hb d_4_5_146 rfl (lv_at hl 2 rfl) ?_
  refine q_get (ci := 5) (j := 2) (v := .ref qO4) C0 V i_DW rfl rfl hO0 (by decide) w_214 rfl d_4_5_147 ?_
  refine q_get (ci := 4) (j := 0) (v := .ref qO8) C0 V i_Mil rfl rfl hO4 (by decide) w_111 rfl d_4_5_150 ?_
  refine lv_aload_n hx hb d_4_5_153 rfl (lv_at hl 2 rfl) ?_
  refine q_get (ci := 5) (j := 2) (v := .ref qO4) C0 V i_DW rfl rfl hO0 (by decide) w_214 rfl d_4_5_154 ?_
  refine q_get (ci := 4) (j := 6) (v := .ref qO14) C0 V i_Mil rfl rfl hO4 (by decide) w_126 rfl d_4_5_157 ?_
  refine lv_iload_n hx hb d_4_5_160 rfl (lv_at hl 5 rfl) ?_
  replace hO8 := (hg13 _ (q_nc n_O8_O14 (q_nc n_O8_A27 List.not_mem_nil))).trans (hO8)
  refine q_gov V (q_runV (As := [.ref qO14, .int 1]) (rest := []) (d := 1) (mc := 0) (ms := 0) (ci := 2) C0 V rfl LV_DW_90 (c_Big_addSigned_2 l D g u12 kO14 qO8 qO14 qA27 hO14 _) rfl rfl hO8 rfl hl.1 rfl (Nat.le_of_ble_eq_true rfl) ⟨by decide, by decide⟩ ⟨Nat.le_of_ble_eq_true rfl, Nat.le_of_ble_eq_true rfl⟩ d_4_5_161) (fun u18 H locs hp17 V => ?_)
  obtain rfl := hp17
  refine lv_iconst (v := 1) hx hb d_4_5_164 (by decide) ?_
  replace hA21 := (hg13 _ (q_nc n_A21_O14 (q_nc n_A21_A27 List.not_mem_nil))).trans (hA21)
  exact q_retz C0 V (rfl) (⟨rfl, hF, hO0, hO8, hO14, hA21, hA27⟩) d_4_5_165
theorem d_1_11_0 : decode prog_1_method_11_code 0 = .ok (.iload_n 1, 1) := by decide +kernel
theorem d_1_11_1 : decode prog_1_method_11_code 1 = .ok (.ifCond .lt 34, 3) := by decide +kernel
theorem d_1_11_35 : decode prog_1_method_11_code 35 = .ok (.iconst 0, 1) := by decide +kernel
theorem d_1_11_36 : decode prog_1_method_11_code 36 = .ok (.invokestatic 104, 3) := by decide +kernel
theorem d_1_11_4 : decode prog_1_method_11_code 4 = .ok (.iload_n 1, 1) := by decide +kernel
theorem d_1_11_5 : decode prog_1_method_11_code 5 = .ok (.iconst 3, 1) := by decide +kernel
theorem d_1_11_6 : decode prog_1_method_11_code 6 = .ok (.if_icmp .gt 29, 3) := by decide +kernel
theorem d_1_11_9 : decode prog_1_method_11_code 9 = .ok (.iload_n 2, 1) := by decide +kernel
theorem d_1_11_10 : decode prog_1_method_11_code 10 = .ok (.invokestatic 212, 3) := by decide +kernel
theorem d_1_11_13 : decode prog_1_method_11_code 13 = .ok (.ifCond .eq 22, 3) := by decide +kernel
theorem d_1_11_16 : decode prog_1_method_11_code 16 = .ok (.iload_n 3, 1) := by decide +kernel
theorem d_1_11_17 : decode prog_1_method_11_code 17 = .ok (.invokestatic 212, 3) := by decide +kernel
theorem d_1_11_20 : decode prog_1_method_11_code 20 = .ok (.ifCond .eq 15, 3) := by decide +kernel
theorem d_1_11_23 : decode prog_1_method_11_code 23 = .ok (.iload 4, 2) := by decide +kernel
theorem d_1_11_25 : decode prog_1_method_11_code 25 = .ok (.invokestatic 212, 3) := by decide +kernel
theorem d_1_11_28 : decode prog_1_method_11_code 28 = .ok (.ifCond .eq 7, 3) := by decide +kernel
theorem d_1_11_31 : decode prog_1_method_11_code 31 = .ok (.iconst 1, 1) := by decide +kernel
theorem d_1_11_32 : decode prog_1_method_11_code 32 = .ok (.goto 4, 3) := by decide +kernel
theorem d_1_11_39 : decode prog_1_method_11_code 39 = .ok (.aload_n 0, 1) := by decide +kernel
theorem d_1_11_40 : decode prog_1_method_11_code 40 = .ok (.getfield 29, 3) := by decide +kernel
theorem d_1_11_43 : decode prog_1_method_11_code 43 = .ok (.iload_n 2, 1) := by decide +kernel
theorem d_1_11_44 : decode prog_1_method_11_code 44 = .ok (.aaload, 1) := by decide +kernel
theorem d_1_11_45 : decode prog_1_method_11_code 45 = .ok (.astore 5, 2) := by decide +kernel
theorem d_1_11_47 : decode prog_1_method_11_code 47 = .ok (.aload_n 0, 1) := by decide +kernel
theorem d_1_11_48 : decode prog_1_method_11_code 48 = .ok (.getfield 29, 3) := by decide +kernel
theorem d_1_11_51 : decode prog_1_method_11_code 51 = .ok (.iload_n 3, 1) := by decide +kernel
theorem d_1_11_52 : decode prog_1_method_11_code 52 = .ok (.aaload, 1) := by decide +kernel
theorem d_1_11_53 : decode prog_1_method_11_code 53 = .ok (.astore 6, 2) := by decide +kernel
theorem d_1_11_55 : decode prog_1_method_11_code 55 = .ok (.iload_n 1, 1) := by decide +kernel
theorem d_1_11_56 : decode prog_1_method_11_code 56 = .ok (.iconst 1, 1) := by decide +kernel
theorem d_1_11_57 : decode prog_1_method_11_code 57 = .ok (.if_icmp .gt 30, 3) := by decide +kernel
theorem d_1_11_87 : decode prog_1_method_11_code 87 = .ok (.iload_n 1, 1) := by decide +kernel
theorem d_1_11_88 : decode prog_1_method_11_code 88 = .ok (.iconst 2, 1) := by decide +kernel
theorem d_1_11_89 : decode prog_1_method_11_code 89 = .ok (.if_icmp .ne 17, 3) := by decide +kernel
theorem d_1_11_106 : decode prog_1_method_11_code 106 = .ok (.aload 6, 2) := by decide +kernel
theorem d_1_11_108 : decode prog_1_method_11_code 108 = .ok (.getfield 277, 3) := by decide +kernel
theorem d_1_11_111 : decode prog_1_method_11_code 111 = .ok (.getfield 220, 3) := by decide +kernel
theorem d_1_11_114 : decode prog_1_method_11_code 114 = .ok (.ifCond .le 7, 3) := by decide +kernel
theorem d_1_11_121 : decode prog_1_method_11_code 121 = .ok (.iconst 0, 1) := by decide +kernel
theorem d_1_11_122 : decode prog_1_method_11_code 122 = .ok (.invokestatic 138, 3) := by decide +kernel
theorem d_1_11_92 : decode prog_1_method_11_code 92 = .ok (.aload_n 0, 1) := by decide +kernel
theorem d_1_11_93 : decode prog_1_method_11_code 93 = .ok (.getfield 52, 3) := by decide +kernel
theorem d_1_11_96 : decode prog_1_method_11_code 96 = .ok (.aload 5, 2) := by decide +kernel
theorem d_1_11_98 : decode prog_1_method_11_code 98 = .ok (.aload 6, 2) := by decide +kernel
theorem d_1_11_100 : decode prog_1_method_11_code 100 = .ok (.invokevirtual 273, 3) := by decide +kernel
theorem w_1376 : (Cond.code ({ cls := "NumberHouse$DecimalWork", name := "multiply", desc := "(LNumberHouse$Dec;LNumberHouse$Dec;)V" } : MethodName) prog_4_method_6_code (3 : Nat) (none : Option ClassFile.FieldType)) ∈ q_tbl := q_of 1376 (by decide +kernel) (by decide +kernel)
theorem w_1373 : (Cond.methodLink "NumberHouse" (273 : Nat) ({ cls := "NumberHouse$DecimalWork", name := "multiply", desc := "(LNumberHouse$Dec;LNumberHouse$Dec;)V" } : MethodName)) ∈ q_tbl := q_of 1373 (by decide +kernel) (by decide +kernel)
theorem w_1374 : (Cond.instanceMethod ({ cls := "NumberHouse$DecimalWork", name := "multiply", desc := "(LNumberHouse$Dec;LNumberHouse$Dec;)V" } : MethodName)) ∈ q_tbl := q_of 1374 (by decide +kernel) (by decide +kernel)
theorem w_1375 : (Cond.selects "NumberHouse$DecimalWork" ({ cls := "NumberHouse$DecimalWork", name := "multiply", desc := "(LNumberHouse$Dec;LNumberHouse$Dec;)V" } : MethodName) ({ cls := "NumberHouse$DecimalWork", name := "multiply", desc := "(LNumberHouse$Dec;LNumberHouse$Dec;)V" } : MethodName)) ∈ q_tbl := q_of 1375 (by decide +kernel) (by decide +kernel)
theorem LV_NH_273 : q_LV "NumberHouse" 273 y_DW_multiply prog_4_method_6_code 3 none 2 := ⟨w_1376, w_5, w_1373, w_1374, w_1375, ⟨by decide, by decide, by decide +kernel⟩⟩
theorem d_1_11_103 : decode prog_1_method_11_code 103 = .ok (.goto 33, 3) := by decide +kernel
theorem d_1_11_136 : decode prog_1_method_11_code 136 = .ok (.aload_n 0, 1) := by decide +kernel
theorem d_1_11_137 : decode prog_1_method_11_code 137 = .ok (.iload 4, 2) := by decide +kernel
theorem d_1_11_139 : decode prog_1_method_11_code 139 = .ok (.invokevirtual 281, 3) := by decide +kernel
theorem w_1394 : (Cond.code ({ cls := "NumberHouse", name := "keepDecimal", desc := "(I)V" } : MethodName) prog_1_method_29_code (2 : Nat) (none : Option ClassFile.FieldType)) ∈ q_tbl := q_of 1394 (by decide +kernel) (by decide +kernel)
theorem w_1391 : (Cond.methodLink "NumberHouse" (281 : Nat) ({ cls := "NumberHouse", name := "keepDecimal", desc := "(I)V" } : MethodName)) ∈ q_tbl := q_of 1391 (by decide +kernel) (by decide +kernel)
theorem w_1393 : (Cond.instanceMethod ({ cls := "NumberHouse", name := "keepDecimal", desc := "(I)V" } : MethodName)) ∈ q_tbl := q_of 1393 (by decide +kernel) (by decide +kernel)
theorem ws_28 : Cond.selects "NumberHouse" (⟨"NumberHouse", "keepDecimal", "(I)V"⟩ : MethodName) (⟨"NumberHouse", "keepDecimal", "(I)V"⟩ : MethodName) ∈ q_tbl := q_ofs 28 (by decide +kernel) (by decide +kernel)
theorem LV_NH_281 : q_LV "NumberHouse" 281 y_NH_keepDecimal prog_1_method_29_code 2 none 1 := ⟨w_1394, w_1, w_1391, w_1393, ws_28, ⟨by decide, by decide, by decide +kernel⟩⟩
theorem d_1_11_142 : decode prog_1_method_11_code 142 = .ok (.return_, 1) := by decide +kernel
theorem d_1_11_60 : decode prog_1_method_11_code 60 = .ok (.aload_n 0, 1) := by decide +kernel
theorem d_1_11_61 : decode prog_1_method_11_code 61 = .ok (.getfield 52, 3) := by decide +kernel
theorem d_1_11_64 : decode prog_1_method_11_code 64 = .ok (.aload 5, 2) := by decide +kernel
theorem d_1_11_66 : decode prog_1_method_11_code 66 = .ok (.aload 6, 2) := by decide +kernel
theorem d_1_11_68 : decode prog_1_method_11_code 68 = .ok (.iload_n 1, 1) := by decide +kernel
theorem d_1_11_69 : decode prog_1_method_11_code 69 = .ok (.iconst 1, 1) := by decide +kernel
theorem d_1_11_70 : decode prog_1_method_11_code 70 = .ok (.if_icmp .ne 7, 3) := by decide +kernel
theorem d_1_11_77 : decode prog_1_method_11_code 77 = .ok (.iconst 0, 1) := by decide +kernel
theorem d_1_11_78 : decode prog_1_method_11_code 78 = .ok (.invokevirtual 269, 3) := by decide +kernel
theorem w_1369 : (Cond.code ({ cls := "NumberHouse$DecimalWork", name := "sum", desc := "(LNumberHouse$Dec;LNumberHouse$Dec;Z)Z" } : MethodName) prog_4_method_5_code (8 : Nat) (some .boolean)) ∈ q_tbl := q_of 1369 (by decide +kernel) (by decide +kernel)
theorem w_1366 : (Cond.methodLink "NumberHouse" (269 : Nat) ({ cls := "NumberHouse$DecimalWork", name := "sum", desc := "(LNumberHouse$Dec;LNumberHouse$Dec;Z)Z" } : MethodName)) ∈ q_tbl := q_of 1366 (by decide +kernel) (by decide +kernel)
theorem w_1367 : (Cond.instanceMethod ({ cls := "NumberHouse$DecimalWork", name := "sum", desc := "(LNumberHouse$Dec;LNumberHouse$Dec;Z)Z" } : MethodName)) ∈ q_tbl := q_of 1367 (by decide +kernel) (by decide +kernel)
theorem w_1368 : (Cond.selects "NumberHouse$DecimalWork" ({ cls := "NumberHouse$DecimalWork", name := "sum", desc := "(LNumberHouse$Dec;LNumberHouse$Dec;Z)Z" } : MethodName) ({ cls := "NumberHouse$DecimalWork", name := "sum", desc := "(LNumberHouse$Dec;LNumberHouse$Dec;Z)Z" } : MethodName)) ∈ q_tbl := q_of 1368 (by decide +kernel) (by decide +kernel)
theorem LV_NH_269 : q_LV "NumberHouse" 269 y_DW_sum prog_4_method_5_code 8 (some .boolean) 3 := ⟨w_1369, w_5, w_1366, w_1367, w_1368, ⟨by decide, by decide, by decide +kernel⟩⟩
theorem d_1_11_81 : decode prog_1_method_11_code 81 = .ok (.invokestatic 138, 3) := by decide +kernel
theorem d_1_11_84 : decode prog_1_method_11_code 84 = .ok (.goto 52, 3) := by decide +kernel
theorem d_1_11_73 : decode prog_1_method_11_code 73 = .ok (.iconst 1, 1) := by decide +kernel
theorem d_1_11_74 : decode prog_1_method_11_code 74 = .ok (.goto 4, 3) := by decide +kernel
def y_NH_decimal : MethodName := ⟨"NumberHouse", "decimal", "(IIII)V"⟩
set_option maxRecDepth 100000 in
set_option maxHeartbeats 4000000 in
/-- decimal on a fresh object -/
theorem c_NH_decimal (l : Launch) (D : va_G) (g : Nat → ClassId) (ws : va_W) (hlt : l.stackTraces = false) ( qO0 qO1 qO2 qA3 qA4 qA5 qA6 qO7 qO8 qO9 qO10 qO11 qO12 qO13 qO14 qO17 qO18 qO19 qO20 qO21 qO22 qO23 qO24 qO25 qO26 qO27 qA35 qA41 : Nat) (x1 : Int32) (x2 : Int32) (x3 : Int32) (x4 : Int32) (f6 : Nat → Option Nat) (hO0 : ws[0]? = (some (qO0, .inr (0, [.ref qO1, .ref qO2, .ref qA3, .ref qA4, .ref qA5, .ref qA6, .ref qO7, .ref qO8, .ref qO9, .ref qO10, .ref qO11, .ref qO12, .ref qO13, .ref qO14])) : Option (Nat × va_E))) (hA4 : ws[6]? = (some (qA4, .inl (g 5, 10, .inr (.inr (.inr (.inr f6))))) : Option (Nat × va_E))) (hO7 : ws[9]? = (some (qO7, .inr (4, [.ref qO17, .ref qO18, .ref qO19, .ref qO20, .ref qO21, .ref qO22, .ref qO23, .ref qO24, .ref qO25, .ref qO26])) : Option (Nat × va_E))) (hO8 : ws[30]? = (some (qO8, .inr (5, [.ref qO27, .long 0, .ref qO7, .int 0])) : Option (Nat × va_E))) (hO17 : ws[10]? = (some (qO17, .inr (2, [.ref qA35, .int 0, .int 0])) : Option (Nat × va_E))) (hO23 : ws[22]? = (some (qO23, .inr (2, [.ref qA41, .int 0, .int 0])) : Option (Nat × va_E))) (hA35 : ws[11]? = (some (qA35, .inl (g 0, 220, .inl (fun _ => 0))) : Option (Nat × va_E))) (hA41 : ws[23]? = (some (qA41, .inl (g 0, 220, .inl (fun _ => 0))) : Option (Nat × va_E))) (qW qWL qD qDN qDL : Nat → Nat) (hfD : ∀ i, i < 10 → f6 i = some (qD i)) (FD : ∀ i, i < 10 → ws[68 + 5 * i]? = (some (qD i, .inr (3, [.ref (qDN i), .int 0, .int 1])) : Option (Nat × va_E))) (FDN : ∀ i, i < 10 → ws[69 + 5 * i]? = (some (qDN i, .inr (2, [.ref (qDL i), .int 0, .int 0])) : Option (Nat × va_E))) (FDL : ∀ i, i < 10 → ws[70 + 5 * i]? = (some (qDL i, .inl (g 0, 108, .inl (fun _ => 0))) : Option (Nat × va_E))) : q_xV l y_NH_decimal prog_1_method_11_code 7 9 3 18 D g [.ref qO0, .int x1, .int x2, .int x3, .int x4] ws (fun u => (((0 ≤ x1.toInt ∧ x1.toInt ≤ 3) ∧ (0 ≤ x2.toInt ∧ x2.toInt ≤ 9) ∧ (0 ≤ x3.toInt ∧ x3.toInt ≤ 9) ∧ (0 ≤ x4.toInt ∧ x4.toInt ≤ 9)) ∧ ¬ (x1.toInt = 3)) ∧ q_ge 116 ws u) (fun E u => (("java/lang/IllegalArgumentException" = E ∧ (¬ ((0 ≤ x1.toInt ∧ x1.toInt ≤ 3) ∧ (0 ≤ x2.toInt ∧ x2.toInt ≤ 9) ∧ (0 ≤ x3.toInt ∧ x3.toInt ≤ 9) ∧ (0 ≤ x4.toInt ∧ x4.toInt ≤ 9)))) ∨ ("java/lang/ArithmeticException" = E ∧ (((0 ≤ x1.toInt ∧ x1.toInt ≤ 3) ∧ (0 ≤ x2.toInt ∧ x2.toInt ≤ 9) ∧ (0 ≤ x3.toInt ∧ x3.toInt ≤ 9) ∧ (0 ≤ x4.toInt ∧ x4.toInt ≤ 9)) ∧ x1.toInt = 3))) ∧ q_ge 116 ws u) := by
  intro sz
  refine q_intoX (by decide) (Nat.le_of_ble_eq_true rfl) ?_
  intro p e s m below meth c ls hsz C0 V hno hl
  have hx := C0.1
  have hb := C0.2.1
  have hl : lv_has ls 7 [(0, .ref qO0), (1, .int x1), (2, .int x2), (3, .int x3), (4, .int x4)] := hl
  have hF : q_ge 116 ws ws := q_g0
  refine lv_iload_n hx hb d_1_11_0 rfl (lv_at hl 1 rfl) ?_
  refine lv_if_lt (tgt := 35) hx hb d_1_11_1 (by decide) (fun c1 => ?_) (fun c1 => ?_)
  ·
    refine lv_iconst (v := 0) hx hb d_1_11_35 (by decide) ?_
    refine q_goxv V (q_runSX (As := [.int 0]) (rest := []) (d := 7) (mc := 1) (ms := 6) C0 V rfl LS_NH_104 (c_NH_need l D g ws hlt 0 _) rfl hl.1 rfl (Nat.le_of_ble_eq_true rfl) ⟨by decide, by decide⟩ ⟨Nat.le_of_ble_eq_true rfl, Nat.le_of_ble_eq_true rfl⟩ d_1_11_36) (fun qx Ex ce u3 H locs hp2 V hce hcv hcl => ?_) (fun u3 H locs hp2 V => ?_)
    ·
      obtain ⟨c4, rfl, rfl⟩ := hp2
      exact q_outT hno C0 V (⟨Or.inl ⟨rfl, (show ¬ ((0 ≤ x1.toInt ∧ x1.toInt ≤ 3) ∧ (0 ≤ x2.toInt ∧ x2.toInt ≤ 9) ∧ (0 ≤ x3.toInt ∧ x3.toInt ≤ 9) ∧ (0 ≤ x4.toInt ∧ x4.toInt ≤ 9)) from by have t1 : x1.toInt < 0 := q_ltI c1; omega)⟩, hF⟩) hce hcv hcl (Nat.le_of_ble_eq_true rfl) (Nat.le_of_ble_eq_true rfl)
    ·
      obtain ⟨c6, rfl⟩ := hp2
      exact absurd c6 (by decide)
  ·
    refine lv_iload_n hx hb d_1_11_4 rfl (lv_at hl 1 rfl) ?_
    refine lv_iconst (v := 3) hx hb d_1_11_5 (by decide) ?_
    refine lv_icmp_gt (tgt := 35) hx hb d_1_11_6 (by decide) (fun c8 => ?_) (fun c8 => ?_)
    ·
      refine lv_iconst (v := 0) hx hb d_1_11_35 (by decide) ?_
      refine q_goxv V (q_runSX (As := [.int 0]) (rest := []) (d := 7) (mc := 1) (ms := 6) C0 V rfl LS_NH_104 (c_NH_need l D g ws hlt 0 _) rfl hl.1 rfl (Nat.le_of_ble_eq_true rfl) ⟨by decide, by decide⟩ ⟨Nat.le_of_ble_eq_true rfl, Nat.le_of_ble_eq_true rfl⟩ d_1_11_36) (fun qx Ex ce u10 H locs hp9 V hce hcv hcl => ?_) (fun u10 H locs hp9 V => ?_)
      ·
        obtain ⟨c11, rfl, rfl⟩ := hp9
        exact q_outT hno C0 V (⟨Or.inl ⟨rfl, (show ¬ ((0 ≤ x1.toInt ∧ x1.toInt ≤ 3) ∧ (0 ≤ x2.toInt ∧ x2.toInt ≤ 9) ∧ (0 ≤ x3.toInt ∧ x3.toInt ≤ 9) ∧ (0 ≤ x4.toInt ∧ x4.toInt ≤ 9)) from by have t1 : 0 ≤ x1.toInt := q_nltI c1; have t2 : 3 < x1.toInt := q_ltI c8; omega)⟩, hF⟩) hce hcv hcl (Nat.le_of_ble_eq_true rfl) (Nat.le_of_ble_eq_true rfl)
      ·
        obtain ⟨c13, rfl⟩ := hp9
        exact absurd c13 (by decide)
    ·
      refine lv_iload_n hx hb d_1_11_9 rfl (lv_at hl 2 rfl) ?_
      refine q_goi V (q_runS (As := [.int x2]) (rest := []) (d := 1) (mc := 0) (ms := 0) C0 V rfl LS_NH_212 (c_NH_isRegister l D g ws x2 _) rfl hl.1 rfl (Nat.le_of_ble_eq_true rfl) ⟨by decide, by decide⟩ ⟨Nat.le_of_ble_eq_true rfl, Nat.le_of_ble_eq_true rfl⟩ d_1_11_10) (fun v17 u16 H locs hp15 V => ?_)
      rcases hp15 with ⟨c18, rfl, rfl⟩ | ⟨c20, c21, rfl, rfl⟩ | ⟨c23, c24, rfl, rfl⟩
      ·
        refine lv_if_eq (tgt := 35) hx hb d_1_11_13 (by decide) (fun c26 => ?_) (fun c26 => absurd (by decide) c26)
        refine lv_iconst (v := 0) hx hb d_1_11_35 (by decide) ?_
        refine q_goxv V (q_runSX (As := [.int 0]) (rest := []) (d := 7) (mc := 1) (ms := 6) C0 V rfl LS_NH_104 (c_NH_need l D g ws hlt 0 _) rfl hl.1 rfl (Nat.le_of_ble_eq_true rfl) ⟨by decide, by decide⟩ ⟨Nat.le_of_ble_eq_true rfl, Nat.le_of_ble_eq_true rfl⟩ d_1_11_36) (fun qx Ex ce u28 H locs hp27 V hce hcv hcl => ?_) (fun u28 H locs hp27 V => ?_)
        ·
          obtain ⟨c29, rfl, rfl⟩ := hp27
          exact q_outT hno C0 V (⟨Or.inl ⟨rfl, (show ¬ ((0 ≤ x1.toInt ∧ x1.toInt ≤ 3) ∧ (0 ≤ x2.toInt ∧ x2.toInt ≤ 9) ∧ (0 ≤ x3.toInt ∧ x3.toInt ≤ 9) ∧ (0 ≤ x4.toInt ∧ x4.toInt ≤ 9)) from by have t1 : 0 ≤ x1.toInt := q_nltI c1; have t2 : x1.toInt ≤ 3 := q_nltI c8; have t3 : x2.toInt < 0 := q_ltI c18; omega)⟩, hF⟩) hce hcv hcl (Nat.le_of_ble_eq_true rfl) (Nat.le_of_ble_eq_true rfl)
        ·
          obtain ⟨c31, rfl⟩ := hp27
          exact absurd c31 (by decide)
      ·
        refine lv_if_eq (tgt := 35) hx hb d_1_11_13 (by decide) (fun c33 => ?_) (fun c33 => absurd (by decide) c33)
        refine lv_iconst (v := 0) hx hb d_1_11_35 (by decide) ?_
        refine q_goxv V (q_runSX (As := [.int 0]) (rest := []) (d := 7) (mc := 1) (ms := 6) C0 V rfl LS_NH_104 (c_NH_need l D g ws hlt 0 _) rfl hl.1 rfl (Nat.le_of_ble_eq_true rfl) ⟨by decide, by decide⟩ ⟨Nat.le_of_ble_eq_true rfl, Nat.le_of_ble_eq_true rfl⟩ d_1_11_36) (fun qx Ex ce u35 H locs hp34 V hce hcv hcl => ?_) (fun u35 H locs hp34 V => ?_)
        ·
          obtain ⟨c36, rfl, rfl⟩ := hp34
          exact q_outT hno C0 V (⟨Or.inl ⟨rfl, (show ¬ ((0 ≤ x1.toInt ∧ x1.toInt ≤ 3) ∧ (0 ≤ x2.toInt ∧ x2.toInt ≤ 9) ∧ (0 ≤ x3.toInt ∧ x3.toInt ≤ 9) ∧ (0 ≤ x4.toInt ∧ x4.toInt ≤ 9)) from by have t1 : 0 ≤ x1.toInt := q_nltI c1; have t2 : x1.toInt ≤ 3 := q_nltI c8; have t3 : 0 ≤ x2.toInt := q_nltI c20; have t4 : 10 ≤ x2.toInt := q_leI c21; omega)⟩, hF⟩) hce hcv hcl (Nat.le_of_ble_eq_true rfl) (Nat.le_of_ble_eq_true rfl)
        ·
          obtain ⟨c38, rfl⟩ := hp34
          exact absurd c38 (by decide)
      ·
        refine lv_if_eq (tgt := 35) hx hb d_1_11_13 (by decide) (fun c40 => absurd c40 (by decide)) (fun c40 => ?_)
        refine lv_iload_n hx hb d_1_11_16 rfl (lv_at hl 3 rfl) ?_
        refine q_goi V (q_runS (As := [.int x3]) (rest := []) (d := 1) (mc := 0) (ms := 0) C0 V rfl LS_NH_212 (c_NH_isRegister l D g ws x3 _) rfl hl.1 rfl (Nat.le_of_ble_eq_true rfl) ⟨by decide, by decide⟩ ⟨Nat.le_of_ble_eq_true rfl, Nat.le_of_ble_eq_true rfl⟩ d_1_11_17) (fun v43 u42 H locs hp41 V => ?_)
        rcases hp41 with ⟨c44, rfl, rfl⟩ | ⟨c46, c47, rfl, rfl⟩ | ⟨c49, c50, rfl, rfl⟩
        ·
          refine lv_if_eq (tgt := 35) hx hb d_1_11_20 (by decide) (fun c52 => ?_) (fun c52 => absurd (by decide) c52)
          refine lv_iconst (v := 0) hx hb d_1_11_35 (by decide) ?_
          refine q_goxv V (q_runSX (As := [.int 0]) (rest := []) (d := 7) (mc := 1) (ms := 6) C0 V rfl LS_NH_104 (c_NH_need l D g ws hlt 0 _) rfl hl.1 rfl (Nat.le_of_ble_eq_true rfl) ⟨by decide, by decide⟩ ⟨Nat.le_of_ble_eq_true rfl, Nat.le_of_ble_eq_true rfl⟩ d_1_11_36) (fun qx Ex ce u54 H locs hp53 V hce hcv hcl => ?_) (fun u54 H locs hp53 V => ?_)
          ·
            obtain ⟨c55, rfl, rfl⟩ := hp53
            exact q_outT hno C0 V (⟨Or.inl ⟨rfl, (show ¬ ((0 ≤ x1.toInt ∧ x1.toInt ≤ 3) ∧ (0 ≤ x2.toInt ∧ x2.toInt ≤ 9) ∧ (0 ≤ x3.toInt ∧ x3.toInt ≤ 9) ∧ (0 ≤ x4.toInt ∧ x4.toInt ≤ 9)) from by have t1 : 0 ≤ x1.toInt := q_nltI c1; have t2 : x1.toInt ≤ 3 := q_nltI c8; have t3 : 0 ≤ x2.toInt := q_nltI c23; have t4 : x2.toInt < 10 := q_nleI c24; have t5 : x3.toInt < 0 := q_ltI c44; omega)⟩, hF⟩) hce hcv hcl (Nat.le_of_ble_eq_true rfl) (Nat.le_of_ble_eq_true rfl)
          ·
            obtain ⟨c57, rfl⟩ := hp53
            exact absurd c57 (by decide)
        ·
          refine lv_if_eq (tgt := 35) hx hb d_1_11_20 (by decide) (fun c59 => ?_) (fun c59 => absurd (by decide) c59)
          refine lv_iconst (v := 0) hx hb d_1_11_35 (by decide) ?_
          refine q_goxv V (q_runSX (As := [.int 0]) (rest := []) (d := 7) (mc := 1) (ms := 6) C0 V rfl LS_NH_104 (c_NH_need l D g ws hlt 0 _) rfl hl.1 rfl (Nat.le_of_ble_eq_true rfl) ⟨by decide, by decide⟩ ⟨Nat.le_of_ble_eq_true rfl, Nat.le_of_ble_eq_true rfl⟩ d_1_11_36) (fun qx Ex ce u61 H locs hp60 V hce hcv hcl => ?_) (fun u61 H locs hp60 V => ?_)
          ·
            obtain ⟨c62, rfl, rfl⟩ := hp60
            exact q_outT hno C0 V (⟨Or.inl ⟨rfl, (show ¬ ((0 ≤ x1.toInt ∧ x1.toInt ≤ 3) ∧ (0 ≤ x2.toInt ∧ x2.toInt ≤ 9) ∧ (0 ≤ x3.toInt ∧ x3.toInt ≤ 9) ∧ (0 ≤ x4.toInt ∧ x4.toInt ≤ 9)) from by have t1 : 0 ≤ x1.toInt := q_nltI c1; have t2 : x1.toInt ≤ 3 := q_nltI c8; have t3 : 0 ≤ x2.toInt := q_nltI c23; have t4 : x2.toInt < 10 := q_nleI c24; have t5 : 0 ≤ x3.toInt := q_nltI c46; have t6 : 10 ≤ x3.toInt := q_leI c47; omega)⟩, hF⟩) hce hcv hcl (Nat.le_of_ble_eq_true rfl) (Nat.le_of_ble_eq_true rfl)
          ·
            obtain ⟨c64, rfl⟩ := hp60
            exact absurd c64 (by decide)
        ·
          refine lv_if_eq (tgt := 35) hx hb d_1_11_20 (by decide) (fun c66 => absurd c66 (by decide)) (fun c66 => ?_)
          refine lv_iload hx hb d_1_11_23 (lv_at hl 4 rfl) ?_
          refine q_goi V (q_runS (As := [.int x4]) (rest := []) (d := 1) (mc := 0) (ms := 0) C0 V rfl LS_NH_212 (c_NH_isRegister l D g ws x4 _) rfl hl.1 rfl (Nat.le_of_ble_eq_true rfl) ⟨by decide, by decide⟩ ⟨Nat.le_of_ble_eq_true rfl, Nat.le_of_ble_eq_true rfl⟩ d_1_11_25) (fun v69 u68 H locs hp67 V => ?_)
          rcases hp67 with ⟨c70, rfl, rfl⟩ | ⟨c72, c73, rfl, rfl⟩ | ⟨c75, c76, rfl, rfl⟩
          ·
            refine lv_if_eq (tgt := 35) hx hb d_1_11_28 (by decide) (fun c78 => ?_) (fun c78 => absurd (by decide) c78)
            refine lv_iconst (v := 0) hx hb d_1_11_35 (by decide) ?_
            refine q_goxv V (q_runSX (As := [.int 0]) (rest := []) (d := 7) (mc := 1) (ms := 6) C0 V rfl LS_NH_104 (c_NH_need l D g ws hlt 0 _) rfl hl.1 rfl (Nat.le_of_ble_eq_true rfl) ⟨by decide, by decide⟩ ⟨Nat.le_of_ble_eq_true rfl, Nat.le_of_ble_eq_true rfl⟩ d_1_11_36) (fun qx Ex ce u80 H locs hp79 V hce hcv hcl => ?_) (fun u80 H locs hp79 V => ?_)
            ·
              obtain ⟨c81, rfl, rfl⟩ := hp79
              exact q_outT hno C0 V (⟨Or.inl ⟨rfl, (show ¬ ((0 ≤ x1.toInt ∧ x1.toInt ≤ 3) ∧ (0 ≤ x2.toInt ∧ x2.toInt ≤ 9) ∧ (0 ≤ x3.toInt ∧ x3.toInt ≤ 9) ∧ (0 ≤ x4.toInt ∧ x4.toInt ≤ 9)) from by have t1 : 0 ≤ x1.toInt := q_nltI c1; have t2 : x1.toInt ≤ 3 := q_nltI c8; have t3 : 0 ≤ x2.toInt := q_nltI c23; have t4 : x2.toInt < 10 := q_nleI c24; have t5 : 0 ≤ x3.toInt := q_nltI c49; have t6 : x3.toInt < 10 := q_nleI c50; have t7 : x4.toInt < 0 := q_ltI c70; omega)⟩, hF⟩) hce hcv hcl (Nat.le_of_ble_eq_true rfl) (Nat.le_of_ble_eq_true rfl)
            ·
              obtain ⟨c83, rfl⟩ := hp79
              exact absurd c83 (by decide)
          ·
            refine lv_if_eq (tgt := 35) hx hb d_1_11_28 (by decide) (fun c85 => ?_) (fun c85 => absurd (by decide) c85)
            refine lv_iconst (v := 0) hx hb d_1_11_35 (by decide) ?_
            refine q_goxv V (q_runSX (As := [.int 0]) (rest := []) (d := 7) (mc := 1) (ms := 6) C0 V rfl LS_NH_104 (c_NH_need l D g ws hlt 0 _) rfl hl.1 rfl (Nat.le_of_ble_eq_true rfl) ⟨by decide, by decide⟩ ⟨Nat.le_of_ble_eq_true rfl, Nat.le_of_ble_eq_true rfl⟩ d_1_11_36) (fun qx Ex ce u87 H locs hp86 V hce hcv hcl => ?_) (fun u87 H locs hp86 V => ?_)
            ·
              obtain ⟨c88, rfl, rfl⟩ := hp86
              exact q_outT hno C0 V (⟨Or.inl ⟨rfl, (show ¬ ((0 ≤ x1.toInt ∧ x1.toInt ≤ 3) ∧ (0 ≤ x2.toInt ∧ x2.toInt ≤ 9) ∧ (0 ≤ x3.toInt ∧ x3.toInt ≤ 9) ∧ (0 ≤ x4.toInt ∧ x4.toInt ≤ 9)) from by have t1 : 0 ≤ x1.toInt := q_nltI c1; have t2 : x1.toInt ≤ 3 := q_nltI c8; have t3 : 0 ≤ x2.toInt := q_nltI c23; have t4 : x2.toInt < 10 := q_nleI c24; have t5 : 0 ≤ x3.toInt := q_nltI c49; have t6 : x3.toInt < 10 := q_nleI c50; have t7 : 0 ≤ x4.toInt := q_nltI c72; have t8 : 10 ≤ x4.toInt := q_leI c73; omega)⟩, hF⟩) hce hcv hcl (Nat.le_of_ble_eq_true rfl) (Nat.le_of_ble_eq_true rfl)
            ·
              obtain ⟨c90, rfl⟩ := hp86
              exact absurd c90 (by decide)
          ·
            refine lv_if_eq (tgt := 35) hx hb d_1_11_28 (by decide) (fun c92 => absurd c92 (by decide)) (fun c92 => ?_)
            refine lv_iconst (v := 1) hx hb d_1_11_31 (by decide) ?_
            refine lv_goto (tgt := 36) hx hb d_1_11_32 (by decide) ?_
            refine q_goxv V (q_runSX (As := [.int 1]) (rest := []) (d := 7) (mc := 1) (ms := 6) C0 V rfl LS_NH_104 (c_NH_need l D g ws hlt 1 _) rfl hl.1 rfl (Nat.le_of_ble_eq_true rfl) ⟨by decide, by decide⟩ ⟨Nat.le_of_ble_eq_true rfl, Nat.le_of_ble_eq_true rfl⟩ d_1_11_36) (fun qx Ex ce u94 H locs hp93 V hce hcv hcl => ?_) (fun u94 H locs hp93 V => ?_)
            ·
              obtain ⟨c95, rfl, rfl⟩ := hp93
              exact absurd c95 (by decide)
            ·
              obtain ⟨c97, rfl⟩ := hp93
              refine lv_aload_n hx hb d_1_11_39 rfl (lv_at hl 0 rfl) ?_
              refine q_get (ci := 0) (j := 3) (v := .ref qA4) C0 V i_NH rfl rfl hO0 (by decide) w_427 rfl d_1_11_40 ?_
              refine lv_iload_n hx hb d_1_11_43 rfl (lv_at hl 2 rfl) ?_
              have r99 : x2.toNatClampNeg < 10 := (q_r10 (x := x2.toInt) rfl (by have t1 : 0 ≤ x2.toInt := q_nltI c23; have t2 : x2.toInt < 10 := q_nleI c24; omega) (by have t1 : 0 ≤ x2.toInt := q_nltI c23; have t2 : x2.toInt < 10 := q_nleI c24; omega))
              have hr100 : ws[68 + 5 * x2.toNatClampNeg]? = (some (qD x2.toNatClampNeg, .inr (3, [.ref (qDN x2.toNatClampNeg), .int 0, .int 1])) : Option (Nat × va_E)) := FD _ r99
              have hr101 : ws[69 + 5 * x2.toNatClampNeg]? = (some (qDN x2.toNatClampNeg, .inr (2, [.ref (qDL x2.toNatClampNeg), .int 0, .int 0])) : Option (Nat × va_E)) := FDN _ r99
              have hr102 : ws[70 + 5 * x2.toNatClampNeg]? = (some (qDL x2.toNatClampNeg, .inl (g 0, 108, .inl (fun _ => 0))) : Option (Nat × va_E)) := FDL _ r99
              have hh : x2.toNatClampNeg < 10 := (q_r10 (x := x2.toInt) rfl (by have t1 : 0 ≤ x2.toInt := q_nltI c23; have t2 : x2.toInt < 10 := q_nleI c24; omega) (by have t1 : 0 ≤ x2.toInt := q_nltI c23; have t2 : x2.toInt < 10 := q_nleI c24; omega))
              refine q_aald (t := 5) (q := qD x2.toNatClampNeg) C0 V hA4 rfl (q_ix (x := x2.toInt) rfl (by have t1 : 0 ≤ x2.toInt := q_nltI c23; have t2 : x2.toInt < 10 := q_nleI c24; omega) (by have t1 : 0 ≤ x2.toInt := q_nltI c23; have t2 : x2.toInt < 10 := q_nleI c24; omega)) (hfD _ hh) d_1_11_44 ?_
              refine lv_astore (lv' := [(5, .ref (qD x2.toNatClampNeg)), (0, .ref qO0), (1, .int x1), (2, .int x2), (3, .int x3), (4, .int x4)]) hx hb d_1_11_45 hl (by decide) rfl (fun ls hl => ?_)
              refine lv_aload_n hx hb d_1_11_47 rfl (lv_at hl 1 rfl) ?_
              refine q_get (ci := 0) (j := 3) (v := .ref qA4) C0 V i_NH rfl rfl hO0 (by decide) w_427 rfl d_1_11_48 ?_
              refine lv_iload_n hx hb d_1_11_51 rfl (lv_at hl 4 rfl) ?_
              have r103 : x3.toNatClampNeg < 10 := (q_r10 (x := x3.toInt) rfl (by have t1 : 0 ≤ x3.toInt := q_nltI c49; have t2 : x3.toInt < 10 := q_nleI c50; omega) (by have t1 : 0 ≤ x3.toInt := q_nltI c49; have t2 : x3.toInt < 10 := q_nleI c50; omega))
              have hr104 : ws[68 + 5 * x3.toNatClampNeg]? = (some (qD x3.toNatClampNeg, .inr (3, [.ref (qDN x3.toNatClampNeg), .int 0, .int 1])) : Option (Nat × va_E)) := FD _ r103
              have hr105 : ws[69 + 5 * x3.toNatClampNeg]? = (some (qDN x3.toNatClampNeg, .inr (2, [.ref (qDL x3.toNatClampNeg), .int 0, .int 0])) : Option (Nat × va_E)) := FDN _ r103
              have hr106 : ws[70 + 5 * x3.toNatClampNeg]? = (some (qDL x3.toNatClampNeg, .inl (g 0, 108, .inl (fun _ => 0))) : Option (Nat × va_E)) := FDL _ r103
              have hh : x3.toNatClampNeg < 10 := (q_r10 (x := x3.toInt) rfl (by have t1 : 0 ≤ x3.toInt := q_nltI c49; have t2 : x3.toInt < 10 := q_nleI c50; omega) (by have t1 : 0 ≤ x3.toInt := q_nltI c49; have t2 : x3.toInt < 10 := q_nleI c50; omega))
              refine q_aald (t := 5) (q := qD x3.toNatClampNeg) C0 V hA4 rfl (q_ix (x := x3.toInt) rfl (by have t1 : 0 ≤ x3.toInt := q_nltI c49; have t2 : x3.toInt < 10 := q_nleI c50; omega) (by have t1 : 0 ≤ x3.toInt := q_nltI c49; have t2 : x3.toInt < 10 := q_nleI c50; omega)) (hfD _ hh) d_1_11_52 ?_
              refine lv_astore (lv' := [(6, .ref (qD x3.toNatClampNeg)), (5, .ref (qD x2.toNatClampNeg)), (0, .ref qO0), (1, .int x1), (2, .int x2), (3, .int x3), (4, .int x4)]) hx hb d_1_11_53 hl (by decide) rfl (fun ls hl => ?_)
              refine lv_iload_n hx hb d_1_11_55 rfl (lv_at hl 3 rfl) ?_
              refine lv_iconst (v := 1) hx hb d_1_11_56 (by decide) ?_
              refine lv_icmp_gt (tgt := 87) hx hb d_1_11_57 (by decide) (fun c107 => ?_) (fun c107 => ?_)
              ·
                refine lv_iload_n hx hb d_1_11_87 rfl (lv_at hl 3 rfl) ?_
                refine lv_iconst (v := 2) hx hb d_1_11_88 (by decide) ?_
                refine lv_icmp_ne (tgt := 106) hx hb d_1_11_89 (by decide) (fun c108 => ?_) (fun c108 => ?_)
                ·
                  refine lv_aload hx hb d_1_11_106 (lv_at hl 0 rfl) ?_
                  refine q_get (ci := 3) (j := 0) (v := .ref (qDN x3.toNatClampNeg)) C0 V i_Dec rfl rfl hr104 (by decide) w_174 rfl d_1_11_108 ?_
                  refine q_get (ci := 2) (j := 1) (v := .int 0) C0 V i_Big rfl rfl hr105 (by decide) w_91 rfl d_1_11_111 ?_
                  refine lv_if_le (tgt := 121) hx hb d_1_11_114 (by decide) (fun c109 => ?_) (fun c109 => absurd (by decide) c109)
                  refine lv_iconst (v := 0) hx hb d_1_11_121 (by decide) ?_
                  refine q_goxv V (q_runSX (As := [.int 0]) (rest := []) (d := 7) (mc := 1) (ms := 6) C0 V rfl LS_NH_138 (c_NH_canHave l D g ws hlt 0 _) rfl hl.1 rfl (Nat.le_of_ble_eq_true rfl) ⟨by decide, by decide⟩ ⟨Nat.le_of_ble_eq_true rfl, Nat.le_of_ble_eq_true rfl⟩ d_1_11_122) (fun qx Ex ce u111 H locs hp110 V hce hcv hcl => ?_) (fun u111 H locs hp110 V => ?_)
                  ·
                    obtain ⟨c112, rfl, rfl⟩ := hp110
                    exact q_outT hno C0 V (⟨Or.inr (⟨rfl, (show ((0 ≤ x1.toInt ∧ x1.toInt ≤ 3) ∧ (0 ≤ x2.toInt ∧ x2.toInt ≤ 9) ∧ (0 ≤ x3.toInt ∧ x3.toInt ≤ 9) ∧ (0 ≤ x4.toInt ∧ x4.toInt ≤ 9)) ∧ x1.toInt = 3 from by have t1 : 0 ≤ x1.toInt := q_nltI c1; have t2 : x1.toInt ≤ 3 := q_nltI c8; have t3 : 0 ≤ x2.toInt := q_nltI c23; have t4 : x2.toInt < 10 := q_nleI c24; have t5 : 0 ≤ x3.toInt := q_nltI c49; have t6 : x3.toInt < 10 := q_nleI c50; have t7 : 0 ≤ x4.toInt := q_nltI c75; have t8 : x4.toInt < 10 := q_nleI c76; have t9 : 1 < x1.toInt := q_ltI c107; have t10 : x1.toInt ≠ 2 := q_neI c108; omega)⟩), hF⟩) hce hcv hcl (Nat.le_of_ble_eq_true rfl) (Nat.le_of_ble_eq_true rfl)
                  ·
                    obtain ⟨c114, rfl⟩ := hp110
                    exact absurd c114 (by decide)
                ·
                  refine lv_aload_n hx hb d_1_11_92 rfl (lv_at hl 2 rfl) ?_
                  refine q_get (ci := 0) (j := 7) (v := .ref qO8) C0 V i_NH rfl rfl hO0 (by decide) w_431 rfl d_1_11_93 ?_
                  refine lv_aload hx hb d_1_11_96 (lv_at hl 1 rfl) ?_
                  refine lv_aload hx hb d_1_11_98 (lv_at hl 0 rfl) ?_
                  refine q_gov V (q_runV (As := [.ref (qD x2.toNatClampNeg), .ref (qD x3.toNatClampNeg)]) (rest := []) (d := 4) (mc := 0) (ms := 0) (ci := 5) C0 V rfl LV_NH_273 (c_DW_multiply l D g ws 30 (68 + 5 * x2.toNatClampNeg) (68 + 5 * x3.toNatClampNeg) 9 (69 + 5 * x2.toNatClampNeg) (69 + 5 * x3.toNatClampNeg) 10 11 qO8 (qD x2.toNatClampNeg) (qD x3.toNatClampNeg) qO27 qO7 (qDN x2.toNatClampNeg) (qDN x3.toNatClampNeg) qO17 qO18 qO19 qO20 qO21 qO22 qO23 qO24 qO25 qO26 (qDL x2.toNatClampNeg) (qDL x3.toNatClampNeg) qA35 hO8 hr100 hr104 hO7 hr101 hr105 hO17 hA35 (q_f5 rfl) (q_f5 rfl) _) rfl rfl hO8 rfl hl.1 rfl (Nat.le_of_ble_eq_true rfl) ⟨by decide, by decide⟩ ⟨Nat.le_of_ble_eq_true rfl, Nat.le_of_ble_eq_true rfl⟩ d_1_11_100) (fun u117 H locs hp116 V => ?_)
                  obtain ⟨hg118, hO8, hO17⟩ := hp116
                  replace hF := q_gc hF hg118 (q_al (Nat.le_of_ble_eq_true rfl) (q_al (Nat.le_of_ble_eq_true rfl) (fun _ h => absurd h List.not_mem_nil)))
                  refine lv_goto (tgt := 136) hx hb d_1_11_103 (by decide) ?_
                  refine lv_aload_n hx hb d_1_11_136 rfl (lv_at hl 2 rfl) ?_
                  refine lv_iload hx hb d_1_11_137 (lv_at hl 6 rfl) ?_
                  replace hO0 := (hg118 _ (q_nc (q_pd 0 30 rfl) (q_nc (q_pd 0 10 rfl) List.not_mem_nil))).trans (hO0)
                  replace hA4 := (hg118 _ (q_nc (q_pd 6 30 rfl) (q_nc (q_pd 6 10 rfl) List.not_mem_nil))).trans (hA4)
                  replace hO7 := (hg118 _ (q_nc (q_pd 9 30 rfl) (q_nc (q_pd 9 10 rfl) List.not_mem_nil))).trans (hO7)
                  replace hA35 := (hg118 _ (q_nc (q_pd 11 30 rfl) (q_nc (q_pd 11 10 rfl) List.not_mem_nil))).trans (hA35)
                  replace FD := fun (i : Nat) (hi : i < 10) => (hg118 _ (q_nc (q_f5 rfl) (q_nc (q_f5 rfl) List.not_mem_nil))).trans (FD i hi)
                  replace FDN := fun (i : Nat) (hi : i < 10) => (hg118 _ (q_nc (q_f5 rfl) (q_nc (q_f5 rfl) List.not_mem_nil))).trans (FDN i hi)
                  replace FDL := fun (i : Nat) (hi : i < 10) => (hg118 _ (q_nc (q_f5 rfl) (q_nc (q_f5 rfl) List.not_mem_nil))).trans (FDL i hi)
                  refine q_gov V (q_runV (As := [.int x4]) (rest := []) (d := 8) (mc := 1) (ms := 6) (ci := 0) C0 V rfl LV_NH_281 (c_NH_keepDecimal l D g u117 hlt qO0 qO1 qO2 qA3 qA4 qA5 qA6 qO7 qO8 qO9 qO10 qO11 qO12 qO13 qO14 qO17 qO18 qO19 qO20 qO21 qO22 qO23 qO24 qO25 qO26 qO27 qA35 x4 f6 hO0 hA4 hO7 hO8 hO17 hA35 (q_Ile (x := 0) (y := x4.toInt) (by decide) rfl (by have t1 : 0 ≤ x4.toInt := q_nltI c75; have t2 : x4.toInt < 10 := q_nleI c76; omega)) (q_Ile (x := x4.toInt) (y := 9) rfl (by decide) (by have t1 : 0 ≤ x4.toInt := q_nltI c75; have t2 : x4.toInt < 10 := q_nleI c76; omega)) qW qWL qD qDN qDL hfD FD FDN FDL _) rfl rfl hO0 rfl hl.1 rfl (Nat.le_of_ble_eq_true rfl) ⟨by decide, by decide⟩ ⟨Nat.le_of_ble_eq_true rfl, Nat.le_of_ble_eq_true rfl⟩ d_1_11_139) (fun u120 H locs hp119 V => ?_)
                  have hg121 := hp119
                  replace hF := q_gt hF hg121
                  refine W.widen (k := 3) (n := 18) (Nat.le_of_ble_eq_true rfl) (Nat.le_of_ble_eq_true rfl) ?_
                  exact q_retX (q_retv C0 V (⟨(show ((0 ≤ x1.toInt ∧ x1.toInt ≤ 3) ∧ (0 ≤ x2.toInt ∧ x2.toInt ≤ 9) ∧ (0 ≤ x3.toInt ∧ x3.toInt ≤ 9) ∧ (0 ≤ x4.toInt ∧ x4.toInt ≤ 9)) ∧ ¬ (x1.toInt = 3) from by have t1 : 0 ≤ x1.toInt := q_nltI c1; have t2 : x1.toInt ≤ 3 := q_nltI c8; have t3 : 0 ≤ x2.toInt := q_nltI c23; have t4 : x2.toInt < 10 := q_nleI c24; have t5 : 0 ≤ x3.toInt := q_nltI c49; have t6 : x3.toInt < 10 := q_nleI c50; have t7 : 0 ≤ x4.toInt := q_nltI c75; have t8 : x4.toInt < 10 := q_nleI c76; have t9 : 1 < x1.toInt := q_ltI c107; have t10 : x1.toInt = 2 := q_eqI c108; omega), hF⟩) d_1_11_142)
              ·
                refine lv_aload_n hx hb d_1_11_60 rfl (lv_at hl 2 rfl) ?_
                refine q_get (ci := 0) (j := 7) (v := .ref qO8) C0 V i_NH rfl rfl hO0 (by decide) w_431 rfl d_1_11_61 ?_
                refine lv_aload hx hb d_1_11_64 (lv_at hl 1 rfl) ?_
                refine lv_aload hx hb d_1_11_66 (lv_at hl 0 rfl) ?_
                refine lv_iload_n hx hb d_1_11_68 rfl (lv_at hl 3 rfl) ?_
                refine lv_iconst (v := 1) hx hb d_1_11_69 (by decide) ?_
                refine lv_icmp_ne (tgt := 77) hx hb d_1_11_70 (by decide) (fun c122 => ?_) (fun c122 => ?_)
                ·
                  refine lv_iconst (v := 0) hx hb d_1_11_77 (by decide) ?_
                  refine q_goi V (q_runV (As := [.ref (qD x2.toNatClampNeg), .ref (qD x3.toNatClampNeg), .int 0]) (rest := []) (d := 3) (mc := 0) (ms := 0) (ci := 5) C0 V rfl LV_NH_269 (c_DW_sum l D g ws 30 (68 + 5 * x2.toNatClampNeg) (68 + 5 * x3.toNatClampNeg) 9 (69 + 5 * x2.toNatClampNeg) (69 + 5 * x3.toNatClampNeg) 10 22 (70 + 5 * x2.toNatClampNeg) (70 + 5 * x3.toNatClampNeg) 11 23 qO8 (qD x2.toNatClampNeg) (qD x3.toNatClampNeg) qO27 qO7 (qDN x2.toNatClampNeg) (qDN x3.toNatClampNeg) qO17 qO18 qO19 qO20 qO21 qO22 qO23 qO24 qO25 qO26 (qDL x2.toNatClampNeg) (qDL x3.toNatClampNeg) qA35 qA41 hO8 hr100 hr104 hO7 hr101 hr105 hO17 hO23 hr102 hr106 hA35 hA41 (q_f5 rfl) (q_f5 rfl) (q_f5 rfl) (q_f5 rfl) (q_pd 11 23 rfl) (q_pd 22 10 rfl) (q_f5 rfl) (q_f5 rfl) (q_f5 rfl) (q_f5 rfl) _) rfl rfl hO8 rfl hl.1 rfl (Nat.le_of_ble_eq_true rfl) ⟨by decide, by decide⟩ ⟨Nat.le_of_ble_eq_true rfl, Nat.le_of_ble_eq_true rfl⟩ d_1_11_78) (fun v125 u124 H locs hp123 V => ?_)
                  obtain ⟨rfl, hg126, hO8, hO17, hO23, hA35, hA41⟩ := hp123
                  replace hF := q_gc hF hg126 (q_al (Nat.le_of_ble_eq_true rfl) (q_al (Nat.le_of_ble_eq_true rfl) (q_al (Nat.le_of_ble_eq_true rfl) (q_al (Nat.le_of_ble_eq_true rfl) (q_al (Nat.le_of_ble_eq_true rfl) (fun _ h => absurd h List.not_mem_nil))))))
                  refine q_goxv V (q_runSX (As := [.int 1]) (rest := []) (d := 7) (mc := 1) (ms := 6) C0 V rfl LS_NH_138 (c_NH_canHave l D g u124 hlt 1 _) rfl hl.1 rfl (Nat.le_of_ble_eq_true rfl) ⟨by decide, by decide⟩ ⟨Nat.le_of_ble_eq_true rfl, Nat.le_of_ble_eq_true rfl⟩ d_1_11_81) (fun qx Ex ce u128 H locs hp127 V hce hcv hcl => ?_) (fun u128 H locs hp127 V => ?_)
                  ·
                    obtain ⟨c129, rfl, rfl⟩ := hp127
                    exact absurd c129 (by decide)
                  ·
                    obtain ⟨c131, rfl⟩ := hp127
                    refine lv_goto (tgt := 136) hx hb d_1_11_84 (by decide) ?_
                    refine lv_aload_n hx hb d_1_11_136 rfl (lv_at hl 2 rfl) ?_
                    refine lv_iload hx hb d_1_11_137 (lv_at hl 6 rfl) ?_
                    replace hO0 := (hg126 _ (q_nc (q_pd 0 30 rfl) (q_nc (q_pd 0 10 rfl) (q_nc (q_pd 0 22 rfl) (q_nc (q_pd 0 11 rfl) (q_nc (q_pd 0 23 rfl) List.not_mem_nil)))))).trans (hO0)
                    replace hA4 := (hg126 _ (q_nc (q_pd 6 30 rfl) (q_nc (q_pd 6 10 rfl) (q_nc (q_pd 6 22 rfl) (q_nc (q_pd 6 11 rfl) (q_nc (q_pd 6 23 rfl) List.not_mem_nil)))))).trans (hA4)
                    replace hO7 := (hg126 _ (q_nc (q_pd 9 30 rfl) (q_nc (q_pd 9 10 rfl) (q_nc (q_pd 9 22 rfl) (q_nc (q_pd 9 11 rfl) (q_nc (q_pd 9 23 rfl) List.not_mem_nil)))))).trans (hO7)
                    replace FD := fun (i : Nat) (hi : i < 10) => (hg126 _ (q_nc (q_f5 rfl) (q_nc (q_f5 rfl) (q_nc (q_f5 rfl) (q_nc (q_f5 rfl) (q_nc (q_f5 rfl) List.not_mem_nil)))))).trans (FD i hi)
                    replace FDN := fun (i : Nat) (hi : i < 10) => (hg126 _ (q_nc (q_f5 rfl) (q_nc (q_f5 rfl) (q_nc (q_f5 rfl) (q_nc (q_f5 rfl) (q_nc (q_f5 rfl) List.not_mem_nil)))))).trans (FDN i hi)
                    replace FDL := fun (i : Nat) (hi : i < 10) => (hg126 _ (q_nc (q_f5 rfl) (q_nc (q_f5 rfl) (q_nc (q_f5 rfl) (q_nc (q_f5 rfl) (q_nc (q_f5 rfl) List.not_mem_nil)))))).trans (FDL i hi)
                    refine q_gov V (q_runV (As := [.int x4]) (rest := []) (d := 8) (mc := 1) (ms := 6) (ci := 0) C0 V rfl LV_NH_281 (c_NH_keepDecimal l D g u124 hlt qO0 qO1 qO2 qA3 qA4 qA5 qA6 qO7 qO8 qO9 qO10 qO11 qO12 qO13 qO14 qO17 qO18 qO19 qO20 qO21 qO22 qO23 qO24 qO25 qO26 qO27 qA35 x4 f6 hO0 hA4 hO7 hO8 hO17 hA35 (q_Ile (x := 0) (y := x4.toInt) (by decide) rfl (by have t1 : 0 ≤ x4.toInt := q_nltI c75; have t2 : x4.toInt < 10 := q_nleI c76; omega)) (q_Ile (x := x4.toInt) (y := 9) rfl (by decide) (by have t1 : 0 ≤ x4.toInt := q_nltI c75; have t2 : x4.toInt < 10 := q_nleI c76; omega)) qW qWL qD qDN qDL hfD FD FDN FDL _) rfl rfl hO0 rfl hl.1 rfl (Nat.le_of_ble_eq_true rfl) ⟨by decide, by decide⟩ ⟨Nat.le_of_ble_eq_true rfl, Nat.le_of_ble_eq_true rfl⟩ d_1_11_139) (fun u134 H locs hp133 V => ?_)
                    have hg135 := hp133
                    replace hF := q_gt hF hg135
                    exact q_retX (q_retv C0 V (⟨(show ((0 ≤ x1.toInt ∧ x1.toInt ≤ 3) ∧ (0 ≤ x2.toInt ∧ x2.toInt ≤ 9) ∧ (0 ≤ x3.toInt ∧ x3.toInt ≤ 9) ∧ (0 ≤ x4.toInt ∧ x4.toInt ≤ 9)) ∧ ¬ (x1.toInt = 3) from by have t1 : 0 ≤ x1.toInt := q_nltI c1; have t2 : x1.toInt ≤ 3 := q_nltI c8; have t3 : 0 ≤ x2.toInt := q_nltI c23; have t4 : x2.toInt < 10 := q_nleI c24; have t5 : 0 ≤ x3.toInt := q_nltI c49; have t6 : x3.toInt < 10 := q_nleI c50; have t7 : 0 ≤ x4.toInt := q_nltI c75; have t8 : x4.toInt < 10 := q_nleI c76; have t9 : x1.toInt ≤ 1 := q_nltI c107; have t10 : x1.toInt ≠ 1 := q_neI c122; omega), hF⟩) d_1_11_142)
                ·
                  refine lv_iconst (v := 1) hx hb d_1_11_73 (by decide) ?_
                  refine lv_goto (tgt := 78) hx hb d_1_11_74 (by decide) ?_
                  refine q_goi V (q_runV (As := [.ref (qD x2.toNatClampNeg), .ref (qD x3.toNatClampNeg), .int 1]) (rest := []) (d := 3) (mc := 0) (ms := 0) (ci := 5) C0 V rfl LV_NH_269 (c_DW_sum_2 l D g ws 30 (68 + 5 * x2.toNatClampNeg) (68 + 5 * x3.toNatClampNeg) 9 (69 + 5 * x2.toNatClampNeg) (69 + 5 * x3.toNatClampNeg) 10 22 (70 + 5 * x2.toNatClampNeg) (70 + 5 * x3.toNatClampNeg) 11 23 qO8 (qD x2.toNatClampNeg) (qD x3.toNatClampNeg) qO27 qO7 (qDN x2.toNatClampNeg) (qDN x3.toNatClampNeg) qO17 qO18 qO19 qO20 qO21 qO22 qO23 qO24 qO25 qO26 (qDL x2.toNatClampNeg) (qDL x3.toNatClampNeg) qA35 qA41 hO8 hr100 hr104 hO7 hr101 hr105 hO17 hO23 hr102 hr106 hA35 hA41 (q_f5 rfl) (q_f5 rfl) (q_f5 rfl) (q_f5 rfl) (q_pd 11 23 rfl) (q_pd 22 10 rfl) (q_f5 rfl) (q_f5 rfl) (q_f5 rfl) (q_f5 rfl) _) rfl rfl hO8 rfl hl.1 rfl (Nat.le_of_ble_eq_true rfl) ⟨by decide, by decide⟩ ⟨Nat.le_of_ble_eq_true rfl, Nat.le_of_ble_eq_true rfl⟩ d_1_11_78) (fun v138 u137 H locs hp136 V => ?_)
                  obtain ⟨rfl, hg139, hO8, hO17, hO23, hA35, hA41⟩ := hp136
                  replace hF := q_gc hF hg139 (q_al (Nat.le_of_ble_eq_true rfl) (q_al (Nat.le_of_ble_eq_true rfl) (q_al (Nat.le_of_ble_eq_true rfl) (q_al (Nat.le_of_ble_eq_true rfl) (q_al (Nat.le_of_ble_eq_true rfl) (fun _ h => absurd h List.not_mem_nil))))))
                  refine q_goxv V (q_runSX (As := [.int 1]) (rest := []) (d := 7) (mc := 1) (ms := 6) C0 V rfl LS_NH_138 (c_NH_canHave l D g u137 hlt 1 _) rfl hl.1 rfl (Nat.le_of_ble_eq_true rfl) ⟨by decide, by decide⟩ ⟨Nat.le_of_ble_eq_true rfl, Nat.le_of_ble_eq_true rfl⟩ d_1_11_81) (fun qx Ex ce u141 H locs hp140 V hce hcv hcl => ?_) (fun u141 H locs hp140 V => ?_)
                  ·
                    obtain ⟨c142, rfl, rfl⟩ := hp140
                    exact absurd c142 (by decide)
                  ·
                    obtain ⟨c144, rfl⟩ := hp140
                    refine lv_goto (tgt := 136) hx hb d_1_11_84 (by decide) ?_
                    refine lv_aload_n hx hb d_1_11_136 rfl (lv_at hl 2 rfl) ?_
                    refine lv_iload hx hb d_1_11_137 (lv_at hl 6 rfl) ?_
                    replace hO0 := (hg139 _ (q_nc (q_pd 0 30 rfl) (q_nc (q_pd 0 10 rfl) (q_nc (q_pd 0 22 rfl) (q_nc (q_pd 0 11 rfl) (q_nc (q_pd 0 23 rfl) List.not_mem_nil)))))).trans (hO0)
                    replace hA4 := (hg139 _ (q_nc (q_pd 6 30 rfl) (q_nc (q_pd 6 10 rfl) (q_nc (q_pd 6 22 rfl) (q_nc (q_pd 6 11 rfl) (q_nc (q_pd 6 23 rfl) List.not_mem_nil)))))).trans (hA4)
                    replace hO7 := (hg139 _ (q_nc (q_pd 9 30 rfl) (q_nc (q_pd 9 10 rfl) (q_nc (q_pd 9 22 rfl) (q_nc (q_pd 9 11 rfl) (q_nc (q_pd 9 23 rfl) List.not_mem_nil)))))).trans (hO7)
                    replace FD := fun (i : Nat) (hi : i < 10) => (hg139 _ (q_nc (q_f5 rfl) (q_nc (q_f5 rfl) (q_nc (q_f5 rfl) (q_nc (q_f5 rfl) (q_nc (q_f5 rfl) List.not_mem_nil)))))).trans (FD i hi)
                    replace FDN := fun (i : Nat) (hi : i < 10) => (hg139 _ (q_nc (q_f5 rfl) (q_nc (q_f5 rfl) (q_nc (q_f5 rfl) (q_nc (q_f5 rfl) (q_nc (q_f5 rfl) List.not_mem_nil)))))).trans (FDN i hi)
                    replace FDL := fun (i : Nat) (hi : i < 10) => (hg139 _ (q_nc (q_f5 rfl) (q_nc (q_f5 rfl) (q_nc (q_f5 rfl) (q_nc (q_f5 rfl) (q_nc (q_f5 rfl) List.not_mem_nil)))))).trans (FDL i hi)
                    refine q_gov V (q_runV (As := [.int x4]) (rest := []) (d := 8) (mc := 1) (ms := 6) (ci := 0) C0 V rfl LV_NH_281 (c_NH_keepDecimal l D g u137 hlt qO0 qO1 qO2 qA3 qA4 qA5 qA6 qO7 qO8 qO9 qO10 qO11 qO12 qO13 qO14 qO17 qO18 qO19 qO20 qO21 qO22 qO23 qO24 qO25 qO26 qO27 qA35 x4 f6 hO0 hA4 hO7 hO8 hO17 hA35 (q_Ile (x := 0) (y := x4.toInt) (by decide) rfl (by have t1 : 0 ≤ x4.toInt := q_nltI c75; have t2 : x4.toInt < 10 := q_nleI c76; omega)) (q_Ile (x := x4.toInt) (y := 9) rfl (by decide) (by have t1 : 0 ≤ x4.toInt := q_nltI c75; have t2 : x4.toInt < 10 := q_nleI c76; omega)) qW qWL qD qDN qDL hfD FD FDN FDL _) rfl rfl hO0 rfl hl.1 rfl (Nat.le_of_ble_eq_true rfl) ⟨by decide, by decide⟩ ⟨Nat.le_of_ble_eq_true rfl, Nat.le_of_ble_eq_true rfl⟩ d_1_11_139) (fun u147 H locs hp146 V => ?_)
                    have hg148 := hp146
                    replace hF := q_gt hF hg148
                    exact q_retX (q_retv C0 V (⟨(show ((0 ≤ x1.toInt ∧ x1.toInt ≤ 3) ∧ (0 ≤ x2.toInt ∧ x2.toInt ≤ 9) ∧ (0 ≤ x3.toInt ∧ x3.toInt ≤ 9) ∧ (0 ≤ x4.toInt ∧ x4.toInt ≤ 9)) ∧ ¬ (x1.toInt = 3) from by have t1 : 0 ≤ x1.toInt := q_nltI c1; have t2 : x1.toInt ≤ 3 := q_nltI c8; have t3 : 0 ≤ x2.toInt := q_nltI c23; have t4 : x2.toInt < 10 := q_nleI c24; have t5 : 0 ≤ x3.toInt := q_nltI c49; have t6 : x3.toInt < 10 := q_nleI c50; have t7 : 0 ≤ x4.toInt := q_nltI c75; have t8 : x4.toInt < 10 := q_nleI c76; have t9 : x1.toInt ≤ 1 := q_nltI c107; have t10 : x1.toInt = 1 := q_eqI c122; omega), hF⟩) d_1_11_142)
