/-! the reference on a fresh object: argument -/
theorem d_16_6_0 : decode prog_16_method_6_code 0 = .ok (.aload_n 0, 1) := by decide +kernel
theorem d_16_6_1 : decode prog_16_method_6_code 1 = .ok (.iconst 0, 1) := by decide +kernel
theorem d_16_6_2 : decode prog_16_method_6_code 2 = .ok (.putfield 42, 3) := by decide +kernel
theorem d_16_6_5 : decode prog_16_method_6_code 5 = .ok (.aload_n 0, 1) := by decide +kernel
theorem d_16_6_6 : decode prog_16_method_6_code 6 = .ok (.getfield 50, 3) := by decide +kernel
theorem w_2203 : (Cond.fieldLink "NumberHouseModel$DirectiveRows" (50 : Nat) "NumberHouseModel$DirectiveRows" "arguments" "I") ∈ q_tbl := q_of 2203 (by decide +kernel) (by decide +kernel)
theorem d_16_6_9 : decode prog_16_method_6_code 9 = .ok (.bipush 9, 2) := by decide +kernel
theorem d_16_6_11 : decode prog_16_method_6_code 11 = .ok (.if_icmp .ne 5, 3) := by decide +kernel
theorem d_16_6_16 : decode prog_16_method_6_code 16 = .ok (.aload_n 0, 1) := by decide +kernel
theorem d_16_6_17 : decode prog_16_method_6_code 17 = .ok (.getfield 13, 3) := by decide +kernel
theorem d_16_6_20 : decode prog_16_method_6_code 20 = .ok (.aload_n 0, 1) := by decide +kernel
theorem d_16_6_21 : decode prog_16_method_6_code 21 = .ok (.getfield 50, 3) := by decide +kernel
theorem d_16_6_24 : decode prog_16_method_6_code 24 = .ok (.iload_n 1, 1) := by decide +kernel
theorem d_16_6_25 : decode prog_16_method_6_code 25 = .ok (.iastore, 1) := by decide +kernel
theorem d_16_6_26 : decode prog_16_method_6_code 26 = .ok (.aload_n 0, 1) := by decide +kernel
theorem d_16_6_27 : decode prog_16_method_6_code 27 = .ok (.getfield 16, 3) := by decide +kernel
theorem d_16_6_30 : decode prog_16_method_6_code 30 = .ok (.aload_n 0, 1) := by decide +kernel
theorem d_16_6_31 : decode prog_16_method_6_code 31 = .ok (.getfield 50, 3) := by decide +kernel
theorem d_16_6_34 : decode prog_16_method_6_code 34 = .ok (.iload_n 2, 1) := by decide +kernel
theorem d_16_6_35 : decode prog_16_method_6_code 35 = .ok (.iastore, 1) := by decide +kernel
theorem d_16_6_36 : decode prog_16_method_6_code 36 = .ok (.aload_n 0, 1) := by decide +kernel
theorem d_16_6_37 : decode prog_16_method_6_code 37 = .ok (.getfield 19, 3) := by decide +kernel
theorem d_16_6_40 : decode prog_16_method_6_code 40 = .ok (.aload_n 0, 1) := by decide +kernel
theorem d_16_6_41 : decode prog_16_method_6_code 41 = .ok (.getfield 50, 3) := by decide +kernel
theorem d_16_6_44 : decode prog_16_method_6_code 44 = .ok (.lload_n 3, 1) := by decide +kernel
theorem d_16_6_45 : decode prog_16_method_6_code 45 = .ok (.lastore, 1) := by decide +kernel
theorem d_16_6_46 : decode prog_16_method_6_code 46 = .ok (.aload_n 0, 1) := by decide +kernel
theorem d_16_6_47 : decode prog_16_method_6_code 47 = .ok (.dup, 1) := by decide +kernel
theorem d_16_6_48 : decode prog_16_method_6_code 48 = .ok (.getfield 50, 3) := by decide +kernel
theorem d_16_6_51 : decode prog_16_method_6_code 51 = .ok (.iconst 1, 1) := by decide +kernel
theorem d_16_6_52 : decode prog_16_method_6_code 52 = .ok (.iadd, 1) := by decide +kernel
theorem d_16_6_53 : decode prog_16_method_6_code 53 = .ok (.putfield 50, 3) := by decide +kernel
theorem d_16_6_56 : decode prog_16_method_6_code 56 = .ok (.aload_n 0, 1) := by decide +kernel
theorem d_16_6_57 : decode prog_16_method_6_code 57 = .ok (.getfield 50, 3) := by decide +kernel
theorem d_16_6_60 : decode prog_16_method_6_code 60 = .ok (.ireturn, 1) := by decide +kernel
def y_VR_enter : MethodName := ⟨"NumberHouseModel$DirectiveRows", "enter", "(IIJ)I"⟩
set_option maxRecDepth 100000 in
set_option maxHeartbeats 4000000 in
theorem c_VR_enter (l : Launch) (D : va_G) (g : Nat → ClassId) (ws : va_W) (kO0 kA2 kA3 kA4 qO0 qA1 qA2 qA3 qA4 qA5 qA6 qA7 qA8 qA9 : Nat) (hO0 : ws[kO0]? = (some (qO0, .inr (17, [.int 0, .ref qA1, .int 0, .int 0, .ref qA2, .ref qA3, .ref qA4, .ref qA5, .ref qA6, .int 0, .ref qA7, .int 0, .int 0, .int (-1), .int 0, .int 0, .int 0, .int 0, .int 0, .int 0, .int 0, .int 0, .int 0, .int 0, .ref qA8, .int 0, .int 0, .int 0, .ref qA9, .int 0, .int 0])) : Option (Nat × va_E))) (hA2 : ws[kA2]? = (some (qA2, .inl (g 0, 9, .inl (fun _ => 0))) : Option (Nat × va_E))) (hA3 : ws[kA3]? = (some (qA3, .inl (g 0, 9, .inl (fun _ => 0))) : Option (Nat × va_E))) (hA4 : ws[kA4]? = (some (qA4, .inl (g 1, 9, .inr (.inl (fun _ => 0)))) : Option (Nat × va_E))) (n_A2_A3 : kA2 ≠ kA3) (n_A2_A4 : kA2 ≠ kA4) (n_A3_A4 : kA3 ≠ kA4) : q_mI l y_VR_enter prog_16_method_6_code 5 (.int) 1 0 0 D g [.ref qO0, .int 0, .int 0, .long 0] ws (fun r u => 1 = r ∧ q_un ws u [kO0, kA2, kA3, kA4] ∧ u[kO0]? = (some (qO0, .inr (17, [.int 0, .ref qA1, .int 0, .int 1, .ref qA2, .ref qA3, .ref qA4, .ref qA5, .ref qA6, .int 0, .ref qA7, .int 0, .int 0, .int (-1), .int 0, .int 0, .int 0, .int 0, .int 0, .int 0, .int 0, .int 0, .int 0, .int 0, .ref qA8, .int 0, .int 0, .int 0, .ref qA9, .int 0, .int 0])) : Option (Nat × va_E)) ∧ u[kA2]? = (some (qA2, .inl (g 0, 9, .inl (fun _ => 0))) : Option (Nat × va_E)) ∧ u[kA3]? = (some (qA3, .inl (g 0, 9, .inl (fun _ => 0))) : Option (Nat × va_E)) ∧ u[kA4]? = (some (qA4, .inl (g 1, 9, .inr (.inl (fun _ => 0)))) : Option (Nat × va_E))) := by
  intro sz
  refine q_into (by decide) (Nat.le_of_ble_eq_true rfl) ?_
  intro p e s m below meth c ls hsz C0 V hl
  have hx := C0.1
  have hb := C0.2.1
  have hl : lv_has ls 5 [(0, .ref qO0), (1, .int 0), (2, .int 0), (3, .long 0)] := hl
  have n_A2_O0 := q_df hA2 hO0
  have n_A3_A2 := Ne.symm n_A2_A3
  have n_A3_O0 := q_df hA3 hO0
  have n_A4_A2 := Ne.symm n_A2_A4
  have n_A4_A3 := Ne.symm n_A3_A4
  have n_A4_O0 := q_df hA4 hO0
  have n_O0_A2 := Ne.symm (q_df hA2 hO0)
  have n_O0_A3 := Ne.symm (q_df hA3 hO0)
  have n_O0_A4 := Ne.symm (q_df hA4 hO0)
  have hF : q_un ws ws [kO0, kA2, kA3, kA4] := q_u0
  refine lv_aload_n hx hb d_16_6_0 rfl (lv_at hl 0 rfl) ?_
  refine lv_iconst (v := 0) hx hb d_16_6_1 (by decide) ?_
  refine q_put (ci := 17) (j := 0) (v := .int 0) (ty := .int) C0 V i_VR o_VR n_VR rfl rfl hO0 (by decide) w_2198 rfl rfl rfl rfl (Nat.le_of_ble_eq_true rfl) d_16_6_2 (fun H locs w1 hu2 hO0 V => ?_)
  replace hO0 : w1[kO0]? = (some (qO0, .inr (17, [.int 0, .ref qA1, .int 0, .int 0, .ref qA2, .ref qA3, .ref qA4, .ref qA5, .ref qA6, .int 0, .ref qA7, .int 0, .int 0, .int (-1), .int 0, .int 0, .int 0, .int 0, .int 0, .int 0, .int 0, .int 0, .int 0, .int 0, .ref qA8, .int 0, .int 0, .int 0, .ref qA9, .int 0, .int 0])) : Option (Nat × va_E)) := hO0
  replace hF := q_us hF hu2 (.head _)
  refine lv_aload_n hx hb d_16_6_5 rfl (lv_at hl 0 rfl) ?_
  refine q_get (ci := 17) (j := 3) (v := .int 0) C0 V i_VR rfl rfl hO0 (by decide) w_2203 rfl d_16_6_6 ?_
  refine lv_bipush (v := 9) hx hb d_16_6_9 (by decide) ?_
  refine lv_icmp_ne (tgt := 16) hx hb d_16_6_11 (by decide) (fun c3 => ?_) (fun c3 => absurd c3 (by decide))
  refine lv_aload_n hx hb d_16_6_16 rfl (lv_at hl 0 rfl) ?_
  refine q_get (ci := 17) (j := 4) (v := .ref qA2) C0 V i_VR rfl rfl hO0 (by decide) w_2205 rfl d_16_6_17 ?_
  refine lv_aload_n hx hb d_16_6_20 rfl (lv_at hl 0 rfl) ?_
  refine q_get (ci := 17) (j := 3) (v := .int 0) C0 V i_VR rfl rfl hO0 (by decide) w_2203 rfl d_16_6_21 ?_
  refine lv_iload_n hx hb d_16_6_24 rfl (lv_at hl 1 rfl) ?_
  replace hA2 := (hu2 _ n_A2_O0).trans (hA2)
  refine q_iast C0 V hA2 (by unfold vp_in; decide) d_16_6_25 (fun H locs w4 hu5 hA2 V => ?_)
  replace hA2 := q_re (y := (qA2, .inl (g 0, 9, .inl (fun _ => 0)))) hA2 (q_eI q_upd0)
  replace hA2 : w4[kA2]? = (some (qA2, .inl (g 0, 9, .inl (fun _ => 0))) : Option (Nat × va_E)) := hA2
  replace hF := q_us hF hu5 (.tail _ (.head _))
  refine lv_aload_n hx hb d_16_6_26 rfl (lv_at hl 0 rfl) ?_
  replace hO0 := (hu5 _ n_O0_A2).trans (hO0)
  refine q_get (ci := 17) (j := 5) (v := .ref qA3) C0 V i_VR rfl rfl hO0 (by decide) w_2206 rfl d_16_6_27 ?_
  refine lv_aload_n hx hb d_16_6_30 rfl (lv_at hl 0 rfl) ?_
  refine q_get (ci := 17) (j := 3) (v := .int 0) C0 V i_VR rfl rfl hO0 (by decide) w_2203 rfl d_16_6_31 ?_
  refine lv_iload_n hx hb d_16_6_34 rfl (lv_at hl 2 rfl) ?_
  replace hA3 := (hu5 _ n_A3_A2).trans ((hu2 _ n_A3_O0).trans (hA3))
  refine q_iast C0 V hA3 (by unfold vp_in; decide) d_16_6_35 (fun H locs w6 hu7 hA3 V => ?_)
  replace hA3 := q_re (y := (qA3, .inl (g 0, 9, .inl (fun _ => 0)))) hA3 (q_eI q_upd0)
  replace hA3 : w6[kA3]? = (some (qA3, .inl (g 0, 9, .inl (fun _ => 0))) : Option (Nat × va_E)) := hA3
  replace hF := q_us hF hu7 (.tail _ (.tail _ (.head _)))
  refine lv_aload_n hx hb d_16_6_36 rfl (lv_at hl 0 rfl) ?_
  replace hO0 := (hu7 _ n_O0_A3).trans (hO0)
  refine q_get (ci := 17) (j := 6) (v := .ref qA4) C0 V i_VR rfl rfl hO0 (by decide) w_2207 rfl d_16_6_37 ?_
  refine lv_aload_n hx hb d_16_6_40 rfl (lv_at hl 0 rfl) ?_
  refine q_get (ci := 17) (j := 3) (v := .int 0) C0 V i_VR rfl rfl hO0 (by decide) w_2203 rfl d_16_6_41 ?_
  refine lv_lload_n hx hb d_16_6_44 rfl (lv_at hl 3 rfl) ?_
  replace hA4 := (hu7 _ n_A4_A3).trans ((hu5 _ n_A4_A2).trans ((hu2 _ n_A4_O0).trans (hA4)))
  refine q_last C0 V hA4 (by unfold vp_in; decide) d_16_6_45 (fun H locs w8 hu9 hA4 V => ?_)
  replace hA4 := q_re (y := (qA4, .inl (g 1, 9, .inr (.inl (fun _ => 0))))) hA4 (q_eL q_updL0)
  replace hA4 : w8[kA4]? = (some (qA4, .inl (g 1, 9, .inr (.inl (fun _ => 0)))) : Option (Nat × va_E)) := hA4
  replace hF := q_us hF hu9 (List.mem_of_getElem? (i := 3) rfl)
  refine lv_aload_n hx hb d_16_6_46 rfl (lv_at hl 0 rfl) ?_
  refine lv_dup hx hb d_16_6_47 rfl ?_
  replace hO0 := (hu9 _ n_O0_A4).trans (hO0)
  refine q_get (ci := 17) (j := 3) (v := .int 0) C0 V i_VR rfl rfl hO0 (by decide) w_2203 rfl d_16_6_48 ?_
  refine lv_iconst (v := 1) hx hb d_16_6_51 (by decide) ?_
  refine lv_iadd hx hb d_16_6_52 ?_
  refine q_ti (v := 1) (by decide) ?_
  refine q_put (ci := 17) (j := 3) (v := .int 1) (ty := .int) C0 V i_VR o_VR n_VR rfl rfl hO0 (by decide) w_2203 rfl rfl rfl rfl (Nat.le_of_ble_eq_true rfl) d_16_6_53 (fun H locs w10 hu11 hO0 V => ?_)
  replace hO0 : w10[kO0]? = (some (qO0, .inr (17, [.int 0, .ref qA1, .int 0, .int 1, .ref qA2, .ref qA3, .ref qA4, .ref qA5, .ref qA6, .int 0, .ref qA7, .int 0, .int 0, .int (-1), .int 0, .int 0, .int 0, .int 0, .int 0, .int 0, .int 0, .int 0, .int 0, .int 0, .ref qA8, .int 0, .int 0, .int 0, .ref qA9, .int 0, .int 0])) : Option (Nat × va_E)) := hO0
  replace hF := q_us hF hu11 (.head _)
  refine lv_aload_n hx hb d_16_6_56 rfl (lv_at hl 0 rfl) ?_
  refine q_get (ci := 17) (j := 3) (v := .int 1) C0 V i_VR rfl rfl hO0 (by decide) w_2203 rfl d_16_6_57 ?_
  replace hA2 := (hu11 _ n_A2_O0).trans ((hu9 _ n_A2_A4).trans ((hu7 _ n_A2_A3).trans (hA2)))
  replace hA3 := (hu11 _ n_A3_O0).trans ((hu9 _ n_A3_A4).trans (hA3))
  replace hA4 := (hu11 _ n_A4_O0).trans (hA4)
  exact q_reti C0 V (⟨rfl, hF, hO0, hA2, hA3, hA4⟩) d_16_6_60
theorem d_16_7_0 : decode prog_16_method_7_code 0 = .ok (.aload_n 0, 1) := by decide +kernel
theorem d_16_7_1 : decode prog_16_method_7_code 1 = .ok (.iconst 0, 1) := by decide +kernel
theorem d_16_7_2 : decode prog_16_method_7_code 2 = .ok (.iconst 0, 1) := by decide +kernel
theorem d_16_7_3 : decode prog_16_method_7_code 3 = .ok (.lconst 0, 1) := by decide +kernel
theorem d_16_7_4 : decode prog_16_method_7_code 4 = .ok (.invokevirtual 53, 3) := by decide +kernel
theorem w_3081 : (Cond.code ({ cls := "NumberHouseModel$DirectiveRows", name := "enter", desc := "(IIJ)I" } : MethodName) prog_16_method_6_code (5 : Nat) (some .int)) ∈ q_tbl := q_of 3081 (by decide +kernel) (by decide +kernel)
theorem w_3078 : (Cond.methodLink "NumberHouseModel$DirectiveRows" (53 : Nat) ({ cls := "NumberHouseModel$DirectiveRows", name := "enter", desc := "(IIJ)I" } : MethodName)) ∈ q_tbl := q_of 3078 (by decide +kernel) (by decide +kernel)
theorem w_3080 : (Cond.instanceMethod ({ cls := "NumberHouseModel$DirectiveRows", name := "enter", desc := "(IIJ)I" } : MethodName)) ∈ q_tbl := q_of 3080 (by decide +kernel) (by decide +kernel)
theorem ws_149 : Cond.selects "NumberHouseModel$DirectiveRows" (⟨"NumberHouseModel$DirectiveRows", "enter", "(IIJ)I"⟩ : MethodName) (⟨"NumberHouseModel$DirectiveRows", "enter", "(IIJ)I"⟩ : MethodName) ∈ q_tbl := q_ofs 149 (by decide +kernel) (by decide +kernel)
theorem LV_VR_53 : q_LV "NumberHouseModel$DirectiveRows" 53 y_VR_enter prog_16_method_6_code 5 (some .int) 3 := ⟨w_3081, w_19, w_3078, w_3080, ws_149, ⟨by decide, by decide, by decide +kernel⟩⟩
theorem d_16_7_7 : decode prog_16_method_7_code 7 = .ok (.ireturn, 1) := by decide +kernel
def y_VR_nothing : MethodName := ⟨"NumberHouseModel$DirectiveRows", "nothing", "()I"⟩
set_option maxRecDepth 100000 in
set_option maxHeartbeats 4000000 in
theorem c_VR_nothing (l : Launch) (D : va_G) (g : Nat → ClassId) (ws : va_W) (kO0 kA2 kA3 kA4 qO0 qA1 qA2 qA3 qA4 qA5 qA6 qA7 qA8 qA9 : Nat) (hO0 : ws[kO0]? = (some (qO0, .inr (17, [.int 0, .ref qA1, .int 0, .int 0, .ref qA2, .ref qA3, .ref qA4, .ref qA5, .ref qA6, .int 0, .ref qA7, .int 0, .int 0, .int (-1), .int 0, .int 0, .int 0, .int 0, .int 0, .int 0, .int 0, .int 0, .int 0, .int 0, .ref qA8, .int 0, .int 0, .int 0, .ref qA9, .int 0, .int 0])) : Option (Nat × va_E))) (hA2 : ws[kA2]? = (some (qA2, .inl (g 0, 9, .inl (fun _ => 0))) : Option (Nat × va_E))) (hA3 : ws[kA3]? = (some (qA3, .inl (g 0, 9, .inl (fun _ => 0))) : Option (Nat × va_E))) (hA4 : ws[kA4]? = (some (qA4, .inl (g 1, 9, .inr (.inl (fun _ => 0)))) : Option (Nat × va_E))) (n_A2_A3 : kA2 ≠ kA3) (n_A2_A4 : kA2 ≠ kA4) (n_A3_A4 : kA3 ≠ kA4) : q_mI l y_VR_nothing prog_16_method_7_code 1 (.int) 2 0 0 D g [.ref qO0] ws (fun r u => 1 = r ∧ q_un ws u [kO0, kA2, kA3, kA4] ∧ u[kO0]? = (some (qO0, .inr (17, [.int 0, .ref qA1, .int 0, .int 1, .ref qA2, .ref qA3, .ref qA4, .ref qA5, .ref qA6, .int 0, .ref qA7, .int 0, .int 0, .int (-1), .int 0, .int 0, .int 0, .int 0, .int 0, .int 0, .int 0, .int 0, .int 0, .int 0, .ref qA8, .int 0, .int 0, .int 0, .ref qA9, .int 0, .int 0])) : Option (Nat × va_E)) ∧ u[kA2]? = (some (qA2, .inl (g 0, 9, .inl (fun _ => 0))) : Option (Nat × va_E)) ∧ u[kA3]? = (some (qA3, .inl (g 0, 9, .inl (fun _ => 0))) : Option (Nat × va_E)) ∧ u[kA4]? = (some (qA4, .inl (g 1, 9, .inr (.inl (fun _ => 0)))) : Option (Nat × va_E))) := by
  intro sz
  refine q_into (by decide) (Nat.le_of_ble_eq_true rfl) ?_
  intro p e s m below meth c ls hsz C0 V hl
  have hx := C0.1
  have hb := C0.2.1
  have hl : lv_has ls 1 [(0, .ref qO0)] := hl
  have hF : q_un ws ws [kO0, kA2, kA3, kA4] := q_u0
  refine lv_aload_n hx hb d_16_7_0 rfl (lv_at hl 0 rfl) ?_
  refine lv_iconst (v := 0) hx hb d_16_7_1 (by decide) ?_
  refine lv_iconst (v := 0) hx hb d_16_7_2 (by decide) ?_
  refine lv_lconst (v := 0) hx hb d_16_7_3 (by decide) ?_
  refine q_goi V (q_runV (As := [.int 0, .int 0, .long 0]) (rest := []) (d := 1) (mc := 0) (ms := 0) (ci := 17) C0 V rfl LV_VR_53 (c_VR_enter l D g ws kO0 kA2 kA3 kA4 qO0 qA1 qA2 qA3 qA4 qA5 qA6 qA7 qA8 qA9 hO0 hA2 hA3 hA4 n_A2_A3 n_A2_A4 n_A3_A4 _) rfl rfl hO0 rfl hl.1 rfl (Nat.le_of_ble_eq_true rfl) ⟨by decide, by decide⟩ ⟨Nat.le_of_ble_eq_true rfl, Nat.le_of_ble_eq_true rfl⟩ d_16_7_4) (fun v3 u2 H locs hp1 V => ?_)
  obtain ⟨rfl, hg4, hO0, hA2, hA3, hA4⟩ := hp1
  replace hF := q_uc hF hg4 (q_sc (.head _) (q_sc (.tail _ (.head _)) (q_sc (.tail _ (.tail _ (.head _))) (q_sc (List.mem_of_getElem? (i := 3) rfl) (fun _ h => absurd h List.not_mem_nil)))))
  exact q_reti C0 V (⟨rfl, hF, hO0, hA2, hA3, hA4⟩) d_16_7_7
set_option maxRecDepth 100000 in
set_option maxHeartbeats 4000000 in
theorem c_VR_enter_2 (l : Launch) (D : va_G) (g : Nat → ClassId) (ws : va_W) (kO0 kA2 kA3 kA4 qO0 qA1 qA2 qA3 qA4 qA5 qA6 qA7 qA8 qA9 : Nat) (hO0 : ws[kO0]? = (some (qO0, .inr (17, [.int 0, .ref qA1, .int 0, .int 0, .ref qA2, .ref qA3, .ref qA4, .ref qA5, .ref qA6, .int 0, .ref qA7, .int 0, .int 0, .int (-1), .int 0, .int 0, .int 0, .int 0, .int 0, .int 0, .int 0, .int 0, .int 0, .int 0, .ref qA8, .int 0, .int 0, .int 0, .ref qA9, .int 0, .int 0])) : Option (Nat × va_E))) (hA2 : ws[kA2]? = (some (qA2, .inl (g 0, 9, .inl (fun _ => 0))) : Option (Nat × va_E))) (hA3 : ws[kA3]? = (some (qA3, .inl (g 0, 9, .inl (fun _ => 0))) : Option (Nat × va_E))) (hA4 : ws[kA4]? = (some (qA4, .inl (g 1, 9, .inr (.inl (fun _ => 0)))) : Option (Nat × va_E))) (n_A2_A3 : kA2 ≠ kA3) (n_A2_A4 : kA2 ≠ kA4) (n_A3_A4 : kA3 ≠ kA4) : q_mI l y_VR_enter prog_16_method_6_code 5 (.int) 1 0 0 D g [.ref qO0, .int 1, .int 0, .long 0] ws (fun r u => 1 = r ∧ q_un ws u [kO0, kA2, kA3, kA4] ∧ u[kO0]? = (some (qO0, .inr (17, [.int 0, .ref qA1, .int 0, .int 1, .ref qA2, .ref qA3, .ref qA4, .ref qA5, .ref qA6, .int 0, .ref qA7, .int 0, .int 0, .int (-1), .int 0, .int 0, .int 0, .int 0, .int 0, .int 0, .int 0, .int 0, .int 0, .int 0, .ref qA8, .int 0, .int 0, .int 0, .ref qA9, .int 0, .int 0])) : Option (Nat × va_E)) ∧ u[kA2]? = (some (qA2, .inl (g 0, 9, .inl (upd (fun _ => 0) 0 1))) : Option (Nat × va_E)) ∧ u[kA3]? = (some (qA3, .inl (g 0, 9, .inl (fun _ => 0))) : Option (Nat × va_E)) ∧ u[kA4]? = (some (qA4, .inl (g 1, 9, .inr (.inl (fun _ => 0)))) : Option (Nat × va_E))) := by
  intro sz
  refine q_into (by decide) (Nat.le_of_ble_eq_true rfl) ?_
  intro p e s m below meth c ls hsz C0 V hl
  have hx := C0.1
  have hb := C0.2.1
  have hl : lv_has ls 5 [(0, .ref qO0), (1, .int 1), (2, .int 0), (3, .long 0)] := hl
  have n_A2_O0 := q_df hA2 hO0
  have n_A3_A2 := Ne.symm n_A2_A3
  have n_A3_O0 := q_df hA3 hO0
  have n_A4_A2 := Ne.symm n_A2_A4
  have n_A4_A3 := Ne.symm n_A3_A4
  have n_A4_O0 := q_df hA4 hO0
  have n_O0_A2 := Ne.symm (q_df hA2 hO0)
  have n_O0_A3 := Ne.symm (q_df hA3 hO0)
  have n_O0_A4 := Ne.symm (q_df hA4 hO0)
  have hF : q_un ws ws [kO0, kA2, kA3, kA4] := q_u0
  refine lv_aload_n hx hb d_16_6_0 rfl (lv_at hl 0 rfl) ?_
  refine lv_iconst (v := 0) hx hb d_16_6_1 (by decide) ?_
  refine q_put (ci := 17) (j := 0) (v := .int 0) (ty := .int) C0 V i_VR o_VR n_VR rfl rfl hO0 (by decide) w_2198 rfl rfl rfl rfl (Nat.le_of_ble_eq_true rfl) d_16_6_2 (fun H locs w1 hu2 hO0 V => ?_)
  replace hO0 : w1[kO0]? = (some (qO0, .inr (17, [.int 0, .ref qA1, .int 0, .int 0, .ref qA2, .ref qA3, .ref qA4, .ref qA5, .ref qA6, .int 0, .ref qA7, .int 0, .int 0, .int (-1), .int 0, .int 0, .int 0, .int 0, .int 0, .int 0, .int 0, .int 0, .int 0, .int 0, .ref qA8, .int 0, .int 0, .int 0, .ref qA9, .int 0, .int 0])) : Option (Nat × va_E)) := hO0
  replace hF := q_us hF hu2 (.head _)
  refine lv_aload_n hx hb d_16_6_5 rfl (lv_at hl 0 rfl) ?_
  refine q_get (ci := 17) (j := 3) (v := .int 0) C0 V i_VR rfl rfl hO0 (by decide) w_2203 rfl d_16_6_6 ?_
  refine lv_bipush (v := 9) hx hb d_16_6_9 (by decide) ?_
  refine lv_icmp_ne (tgt := 16) hx hb d_16_6_11 (by decide) (fun c3 => ?_) (fun c3 => absurd c3 (by decide))
  refine lv_aload_n hx hb d_16_6_16 rfl (lv_at hl 0 rfl) ?_
  refine q_get (ci := 17) (j := 4) (v := .ref qA2) C0 V i_VR rfl rfl hO0 (by decide) w_2205 rfl d_16_6_17 ?_
  refine lv_aload_n hx hb d_16_6_20 rfl (lv_at hl 0 rfl) ?_
  refine q_get (ci := 17) (j := 3) (v := .int 0) C0 V i_VR rfl rfl hO0 (by decide) w_2203 rfl d_16_6_21 ?_
  refine lv_iload_n hx hb d_16_6_24 rfl (lv_at hl 1 rfl) ?_
  replace hA2 := (hu2 _ n_A2_O0).trans (hA2)
  refine q_iast C0 V hA2 (by unfold vp_in; decide) d_16_6_25 (fun H locs w4 hu5 hA2 V => ?_)
  replace hA2 : w4[kA2]? = (some (qA2, .inl (g 0, 9, .inl (upd (fun _ => 0) 0 1))) : Option (Nat × va_E)) := hA2
  replace hF := q_us hF hu5 (.tail _ (.head _))
  refine lv_aload_n hx hb d_16_6_26 rfl (lv_at hl 0 rfl) ?_
  replace hO0 := (hu5 _ n_O0_A2).trans (hO0)
  refine q_get (ci := 17) (j := 5) (v := .ref qA3) C0 V i_VR rfl rfl hO0 (by decide) w_2206 rfl d_16_6_27 ?_
  refine lv_aload_n hx hb d_16_6_30 rfl (lv_at hl 0 rfl) ?_
  refine q_get (ci := 17) (j := 3) (v := .int 0) C0 V i_VR rfl rfl hO0 (by decide) w_2203 rfl d_16_6_31 ?_
  refine lv_iload_n hx hb d_16_6_34 rfl (lv_at hl 2 rfl) ?_
  replace hA3 := (hu5 _ n_A3_A2).trans ((hu2 _ n_A3_O0).trans (hA3))
  refine q_iast C0 V hA3 (by unfold vp_in; decide) d_16_6_35 (fun H locs w6 hu7 hA3 V => ?_)
  replace hA3 := q_re (y := (qA3, .inl (g 0, 9, .inl (fun _ => 0)))) hA3 (q_eI q_upd0)
  replace hA3 : w6[kA3]? = (some (qA3, .inl (g 0, 9, .inl (fun _ => 0))) : Option (Nat × va_E)) := hA3
  replace hF := q_us hF hu7 (.tail _ (.tail _ (.head _)))
  refine lv_aload_n hx hb d_16_6_36 rfl (lv_at hl 0 rfl) ?_
  replace hO0 := (hu7 _ n_O0_A3).trans (hO0)
  refine q_get (ci := 17) (j := 6) (v := .ref qA4) C0 V i_VR rfl rfl hO0 (by decide) w_2207 rfl d_16_6_37 ?_
  refine lv_aload_n hx hb d_16_6_40 rfl (lv_at hl 0 rfl) ?_
  refine q_get (ci := 17) (j := 3) (v := .int 0) C0 V i_VR rfl rfl hO0 (by decide) w_2203 rfl d_16_6_41 ?_
  refine lv_lload_n hx hb d_16_6_44 rfl (lv_at hl 3 rfl) ?_
  replace hA4 := (hu7 _ n_A4_A3).trans ((hu5 _ n_A4_A2).trans ((hu2 _ n_A4_O0).trans (hA4)))
  refine q_last C0 V hA4 (by unfold vp_in; decide) d_16_6_45 (fun H locs w8 hu9 hA4 V => ?_)
  replace hA4 := q_re (y := (qA4, .inl (g 1, 9, .inr (.inl (fun _ => 0))))) hA4 (q_eL q_updL0)
  replace hA4 : w8[kA4]? = (some (qA4, .inl (g 1, 9, .inr (.inl (fun _ => 0)))) : Option (Nat × va_E)) := hA4
  replace hF := q_us hF hu9 (List.mem_of_getElem? (i := 3) rfl)
  refine lv_aload_n hx hb d_16_6_46 rfl (lv_at hl 0 rfl) ?_
  refine lv_dup hx hb d_16_6_47 rfl ?_
  replace hO0 := (hu9 _ n_O0_A4).trans (hO0)
  refine q_get (ci := 17) (j := 3) (v := .int 0) C0 V i_VR rfl rfl hO0 (by decide) w_2203 rfl d_16_6_48 ?_
  refine lv_iconst (v := 1) hx hb d_16_6_51 (by decide) ?_
  refine lv_iadd hx hb d_16_6_52 ?_
  refine q_ti (v := 1) (by decide) ?_
  refine q_put (ci := 17) (j := 3) (v := .int 1) (ty := .int) C0 V i_VR o_VR n_VR rfl rfl hO0 (by decide) w_2203 rfl rfl rfl rfl (Nat.le_of_ble_eq_true rfl) d_16_6_53 (fun H locs w10 hu11 hO0 V => ?_)
  replace hO0 : w10[kO0]? = (some (qO0, .inr (17, [.int 0, .ref qA1, .int 0, .int 1, .ref qA2, .ref qA3, .ref qA4, .ref qA5, .ref qA6, .int 0, .ref qA7, .int 0, .int 0, .int (-1), .int 0, .int 0, .int 0, .int 0, .int 0, .int 0, .int 0, .int 0, .int 0, .int 0, .ref qA8, .int 0, .int 0, .int 0, .ref qA9, .int 0, .int 0])) : Option (Nat × va_E)) := hO0
  replace hF := q_us hF hu11 (.head _)
  refine lv_aload_n hx hb d_16_6_56 rfl (lv_at hl 0 rfl) ?_
  refine q_get (ci := 17) (j := 3) (v := .int 1) C0 V i_VR rfl rfl hO0 (by decide) w_2203 rfl d_16_6_57 ?_
  replace hA2 := (hu11 _ n_A2_O0).trans ((hu9 _ n_A2_A4).trans ((hu7 _ n_A2_A3).trans (hA2)))
  replace hA3 := (hu11 _ n_A3_O0).trans ((hu9 _ n_A3_A4).trans (hA3))
  replace hA4 := (hu11 _ n_A4_O0).trans (hA4)
  exact q_reti C0 V (⟨rfl, hF, hO0, hA2, hA3, hA4⟩) d_16_6_60
theorem d_16_8_0 : decode prog_16_method_8_code 0 = .ok (.aload_n 0, 1) := by decide +kernel
theorem d_16_8_1 : decode prog_16_method_8_code 1 = .ok (.iconst 1, 1) := by decide +kernel
theorem d_16_8_2 : decode prog_16_method_8_code 2 = .ok (.iconst 0, 1) := by decide +kernel
theorem d_16_8_3 : decode prog_16_method_8_code 3 = .ok (.iload_n 1, 1) := by decide +kernel
theorem d_16_8_4 : decode prog_16_method_8_code 4 = .ok (.ifCond .eq 7, 3) := by decide +kernel
theorem d_16_8_11 : decode prog_16_method_8_code 11 = .ok (.lconst 0, 1) := by decide +kernel
theorem d_16_8_12 : decode prog_16_method_8_code 12 = .ok (.invokevirtual 53, 3) := by decide +kernel
theorem d_16_8_15 : decode prog_16_method_8_code 15 = .ok (.ireturn, 1) := by decide +kernel
def y_VR_truth : MethodName := ⟨"NumberHouseModel$DirectiveRows", "truth", "(Z)I"⟩
set_option maxRecDepth 100000 in
set_option maxHeartbeats 4000000 in
theorem c_VR_truth (l : Launch) (D : va_G) (g : Nat → ClassId) (ws : va_W) (kO0 kA2 kA3 kA4 qO0 qA1 qA2 qA3 qA4 qA5 qA6 qA7 qA8 qA9 : Nat) (hO0 : ws[kO0]? = (some (qO0, .inr (17, [.int 0, .ref qA1, .int 0, .int 0, .ref qA2, .ref qA3, .ref qA4, .ref qA5, .ref qA6, .int 0, .ref qA7, .int 0, .int 0, .int (-1), .int 0, .int 0, .int 0, .int 0, .int 0, .int 0, .int 0, .int 0, .int 0, .int 0, .ref qA8, .int 0, .int 0, .int 0, .ref qA9, .int 0, .int 0])) : Option (Nat × va_E))) (hA2 : ws[kA2]? = (some (qA2, .inl (g 0, 9, .inl (fun _ => 0))) : Option (Nat × va_E))) (hA3 : ws[kA3]? = (some (qA3, .inl (g 0, 9, .inl (fun _ => 0))) : Option (Nat × va_E))) (hA4 : ws[kA4]? = (some (qA4, .inl (g 1, 9, .inr (.inl (fun _ => 0)))) : Option (Nat × va_E))) (n_A2_A3 : kA2 ≠ kA3) (n_A2_A4 : kA2 ≠ kA4) (n_A3_A4 : kA3 ≠ kA4) : q_mI l y_VR_truth prog_16_method_8_code 2 (.int) 2 0 0 D g [.ref qO0, .int 0] ws (fun r u => 1 = r ∧ q_un ws u [kO0, kA2, kA3, kA4] ∧ u[kO0]? = (some (qO0, .inr (17, [.int 0, .ref qA1, .int 0, .int 1, .ref qA2, .ref qA3, .ref qA4, .ref qA5, .ref qA6, .int 0, .ref qA7, .int 0, .int 0, .int (-1), .int 0, .int 0, .int 0, .int 0, .int 0, .int 0, .int 0, .int 0, .int 0, .int 0, .ref qA8, .int 0, .int 0, .int 0, .ref qA9, .int 0, .int 0])) : Option (Nat × va_E)) ∧ u[kA2]? = (some (qA2, .inl (g 0, 9, .inl (upd (fun _ => 0) 0 1))) : Option (Nat × va_E)) ∧ u[kA3]? = (some (qA3, .inl (g 0, 9, .inl (fun _ => 0))) : Option (Nat × va_E)) ∧ u[kA4]? = (some (qA4, .inl (g 1, 9, .inr (.inl (fun _ => 0)))) : Option (Nat × va_E))) := by
  intro sz
  refine q_into (by decide) (Nat.le_of_ble_eq_true rfl) ?_
  intro p e s m below meth c ls hsz C0 V hl
  have hx := C0.1
  have hb := C0.2.1
  have hl : lv_has ls 2 [(0, .ref qO0), (1, .int 0)] := hl
  have hF : q_un ws ws [kO0, kA2, kA3, kA4] := q_u0
  refine lv_aload_n hx hb d_16_8_0 rfl (lv_at hl 0 rfl) ?_
  refine lv_iconst (v := 1) hx hb d_16_8_1 (by decide) ?_
  refine lv_iconst (v := 0) hx hb d_16_8_2 (by decide) ?_
  refine lv_iload_n hx hb d_16_8_3 rfl (lv_at hl 1 rfl) ?_
  refine lv_if_eq (tgt := 11) hx hb d_16_8_4 (by decide) (fun c1 => ?_) (fun c1 => absurd (by decide) c1)
  refine lv_lconst (v := 0) hx hb d_16_8_11 (by decide) ?_
  refine q_goi V (q_runV (As := [.int 1, .int 0, .long 0]) (rest := []) (d := 1) (mc := 0) (ms := 0) (ci := 17) C0 V rfl LV_VR_53 (c_VR_enter_2 l D g ws kO0 kA2 kA3 kA4 qO0 qA1 qA2 qA3 qA4 qA5 qA6 qA7 qA8 qA9 hO0 hA2 hA3 hA4 n_A2_A3 n_A2_A4 n_A3_A4 _) rfl rfl hO0 rfl hl.1 rfl (Nat.le_of_ble_eq_true rfl) ⟨by decide, by decide⟩ ⟨Nat.le_of_ble_eq_true rfl, Nat.le_of_ble_eq_true rfl⟩ d_16_8_12) (fun v4 u3 H locs hp2 V => ?_)
  obtain ⟨rfl, hg5, hO0, hA2, hA3, hA4⟩ := hp2
  replace hF := q_uc hF hg5 (q_sc (.head _) (q_sc (.tail _ (.head _)) (q_sc (.tail _ (.tail _ (.head _))) (q_sc (List.mem_of_getElem? (i := 3) rfl) (fun _ h => absurd h List.not_mem_nil)))))
  exact q_reti C0 V (⟨rfl, hF, hO0, hA2, hA3, hA4⟩) d_16_8_15
set_option maxRecDepth 100000 in
set_option maxHeartbeats 4000000 in
theorem c_VR_enter_3 (l : Launch) (D : va_G) (g : Nat → ClassId) (ws : va_W) (kO0 kA2 kA3 kA4 qO0 qA1 qA2 qA3 qA4 qA5 qA6 qA7 qA8 qA9 : Nat) (hO0 : ws[kO0]? = (some (qO0, .inr (17, [.int 0, .ref qA1, .int 0, .int 0, .ref qA2, .ref qA3, .ref qA4, .ref qA5, .ref qA6, .int 0, .ref qA7, .int 0, .int 0, .int (-1), .int 0, .int 0, .int 0, .int 0, .int 0, .int 0, .int 0, .int 0, .int 0, .int 0, .ref qA8, .int 0, .int 0, .int 0, .ref qA9, .int 0, .int 0])) : Option (Nat × va_E))) (hA2 : ws[kA2]? = (some (qA2, .inl (g 0, 9, .inl (fun _ => 0))) : Option (Nat × va_E))) (hA3 : ws[kA3]? = (some (qA3, .inl (g 0, 9, .inl (fun _ => 0))) : Option (Nat × va_E))) (hA4 : ws[kA4]? = (some (qA4, .inl (g 1, 9, .inr (.inl (fun _ => 0)))) : Option (Nat × va_E))) (n_A2_A3 : kA2 ≠ kA3) (n_A2_A4 : kA2 ≠ kA4) (n_A3_A4 : kA3 ≠ kA4) : q_mI l y_VR_enter prog_16_method_6_code 5 (.int) 1 0 0 D g [.ref qO0, .int 1, .int 0, .long 1] ws (fun r u => 1 = r ∧ q_un ws u [kO0, kA2, kA3, kA4] ∧ u[kO0]? = (some (qO0, .inr (17, [.int 0, .ref qA1, .int 0, .int 1, .ref qA2, .ref qA3, .ref qA4, .ref qA5, .ref qA6, .int 0, .ref qA7, .int 0, .int 0, .int (-1), .int 0, .int 0, .int 0, .int 0, .int 0, .int 0, .int 0, .int 0, .int 0, .int 0, .ref qA8, .int 0, .int 0, .int 0, .ref qA9, .int 0, .int 0])) : Option (Nat × va_E)) ∧ u[kA2]? = (some (qA2, .inl (g 0, 9, .inl (upd (fun _ => 0) 0 1))) : Option (Nat × va_E)) ∧ u[kA3]? = (some (qA3, .inl (g 0, 9, .inl (fun _ => 0))) : Option (Nat × va_E)) ∧ u[kA4]? = (some (qA4, .inl (g 1, 9, .inr (.inl (vp_updL (fun _ => 0) 0 1)))) : Option (Nat × va_E))) := by
  intro sz
  refine q_into (by decide) (Nat.le_of_ble_eq_true rfl) ?_
  intro p e s m below meth c ls hsz C0 V hl
  have hx := C0.1
  have hb := C0.2.1
  have hl : lv_has ls 5 [(0, .ref qO0), (1, .int 1), (2, .int 0), (3, .long 1)] := hl
  have n_A2_O0 := q_df hA2 hO0
  have n_A3_A2 := Ne.symm n_A2_A3
  have n_A3_O0 := q_df hA3 hO0
  have n_A4_A2 := Ne.symm n_A2_A4
  have n_A4_A3 := Ne.symm n_A3_A4
  have n_A4_O0 := q_df hA4 hO0
  have n_O0_A2 := Ne.symm (q_df hA2 hO0)
  have n_O0_A3 := Ne.symm (q_df hA3 hO0)
  have n_O0_A4 := Ne.symm (q_df hA4 hO0)
  have hF : q_un ws ws [kO0, kA2, kA3, kA4] := q_u0
  refine lv_aload_n hx hb d_16_6_0 rfl (lv_at hl 0 rfl) ?_
  refine lv_iconst (v := 0) hx hb d_16_6_1 (by decide) ?_
  refine q_put (ci := 17) (j := 0) (v := .int 0) (ty := .int) C0 V i_VR o_VR n_VR rfl rfl hO0 (by decide) w_2198 rfl rfl rfl rfl (Nat.le_of_ble_eq_true rfl) d_16_6_2 (fun H locs w1 hu2 hO0 V => ?_)
  replace hO0 : w1[kO0]? = (some (qO0, .inr (17, [.int 0, .ref qA1, .int 0, .int 0, .ref qA2, .ref qA3, .ref qA4, .ref qA5, .ref qA6, .int 0, .ref qA7, .int 0, .int 0, .int (-1), .int 0, .int 0, .int 0, .int 0, .int 0, .int 0, .int 0, .int 0, .int 0, .int 0, .ref qA8, .int 0, .int 0, .int 0, .ref qA9, .int 0, .int 0])) : Option (Nat × va_E)) := hO0
  replace hF := q_us hF hu2 (.head _)
  refine lv_aload_n hx hb d_16_6_5 rfl (lv_at hl 0 rfl) ?_
  refine q_get (ci := 17) (j := 3) (v := .int 0) C0 V i_VR rfl rfl hO0 (by decide) w_2203 rfl d_16_6_6 ?_
  refine lv_bipush (v := 9) hx hb d_16_6_9 (by decide) ?_
  refine lv_icmp_ne (tgt := 16) hx hb d_16_6_11 (by decide) (fun c3 => ?_) (fun c3 => absurd c3 (by decide))
  refine lv_aload_n hx hb d_16_6_16 rfl (lv_at hl 0 rfl) ?_
  refine q_get (ci := 17) (j := 4) (v := .ref qA2) C0 V i_VR rfl rfl hO0 (by decide) w_2205 rfl d_16_6_17 ?_
  refine lv_aload_n hx hb d_16_6_20 rfl (lv_at hl 0 rfl) ?_
  refine q_get (ci := 17) (j := 3) (v := .int 0) C0 V i_VR rfl rfl hO0 (by decide) w_2203 rfl d_16_6_21 ?_
  refine lv_iload_n hx hb d_16_6_24 rfl (lv_at hl 1 rfl) ?_
  replace hA2 := (hu2 _ n_A2_O0).trans (hA2)
  refine q_iast C0 V hA2 (by unfold vp_in; decide) d_16_6_25 (fun H locs w4 hu5 hA2 V => ?_)
  replace hA2 : w4[kA2]? = (some (qA2, .inl (g 0, 9, .inl (upd (fun _ => 0) 0 1))) : Option (Nat × va_E)) := hA2
  replace hF := q_us hF hu5 (.tail _ (.head _))
  refine lv_aload_n hx hb d_16_6_26 rfl (lv_at hl 0 rfl) ?_
  replace hO0 := (hu5 _ n_O0_A2).trans (hO0)
  refine q_get (ci := 17) (j := 5) (v := .ref qA3) C0 V i_VR rfl rfl hO0 (by decide) w_2206 rfl d_16_6_27 ?_
  refine lv_aload_n hx hb d_16_6_30 rfl (lv_at hl 0 rfl) ?_
  refine q_get (ci := 17) (j := 3) (v := .int 0) C0 V i_VR rfl rfl hO0 (by decide) w_2203 rfl d_16_6_31 ?_
  refine lv_iload_n hx hb d_16_6_34 rfl (lv_at hl 2 rfl) ?_
  replace hA3 := (hu5 _ n_A3_A2).trans ((hu2 _ n_A3_O0).trans (hA3))
  refine q_iast C0 V hA3 (by unfold vp_in; decide) d_16_6_35 (fun H locs w6 hu7 hA3 V => ?_)
  replace hA3 := q_re (y := (qA3, .inl (g 0, 9, .inl (fun _ => 0)))) hA3 (q_eI q_upd0)
  replace hA3 : w6[kA3]? = (some (qA3, .inl (g 0, 9, .inl (fun _ => 0))) : Option (Nat × va_E)) := hA3
  replace hF := q_us hF hu7 (.tail _ (.tail _ (.head _)))
  refine lv_aload_n hx hb d_16_6_36 rfl (lv_at hl 0 rfl) ?_
  replace hO0 := (hu7 _ n_O0_A3).trans (hO0)
  refine q_get (ci := 17) (j := 6) (v := .ref qA4) C0 V i_VR rfl rfl hO0 (by decide) w_2207 rfl d_16_6_37 ?_
  refine lv_aload_n hx hb d_16_6_40 rfl (lv_at hl 0 rfl) ?_
  refine q_get (ci := 17) (j := 3) (v := .int 0) C0 V i_VR rfl rfl hO0 (by decide) w_2203 rfl d_16_6_41 ?_
  refine lv_lload_n hx hb d_16_6_44 rfl (lv_at hl 3 rfl) ?_
  replace hA4 := (hu7 _ n_A4_A3).trans ((hu5 _ n_A4_A2).trans ((hu2 _ n_A4_O0).trans (hA4)))
  refine q_last C0 V hA4 (by unfold vp_in; decide) d_16_6_45 (fun H locs w8 hu9 hA4 V => ?_)
  replace hA4 : w8[kA4]? = (some (qA4, .inl (g 1, 9, .inr (.inl (vp_updL (fun _ => 0) 0 1)))) : Option (Nat × va_E)) := hA4
  replace hF := q_us hF hu9 (List.mem_of_getElem? (i := 3) rfl)
  refine lv_aload_n hx hb d_16_6_46 rfl (lv_at hl 0 rfl) ?_
  refine lv_dup hx hb d_16_6_47 rfl ?_
  replace hO0 := (hu9 _ n_O0_A4).trans (hO0)
  refine q_get (ci := 17) (j := 3) (v := .int 0) C0 V i_VR rfl rfl hO0 (by decide) w_2203 rfl d_16_6_48 ?_
  refine lv_iconst (v := 1) hx hb d_16_6_51 (by decide) ?_
  refine lv_iadd hx hb d_16_6_52 ?_
  refine q_ti (v := 1) (by decide) ?_
  refine q_put (ci := 17) (j := 3) (v := .int 1) (ty := .int) C0 V i_VR o_VR n_VR rfl rfl hO0 (by decide) w_2203 rfl rfl rfl rfl (Nat.le_of_ble_eq_true rfl) d_16_6_53 (fun H locs w10 hu11 hO0 V => ?_)
  replace hO0 : w10[kO0]? = (some (qO0, .inr (17, [.int 0, .ref qA1, .int 0, .int 1, .ref qA2, .ref qA3, .ref qA4, .ref qA5, .ref qA6, .int 0, .ref qA7, .int 0, .int 0, .int (-1), .int 0, .int 0, .int 0, .int 0, .int 0, .int 0, .int 0, .int 0, .int 0, .int 0, .ref qA8, .int 0, .int 0, .int 0, .ref qA9, .int 0, .int 0])) : Option (Nat × va_E)) := hO0
  replace hF := q_us hF hu11 (.head _)
  refine lv_aload_n hx hb d_16_6_56 rfl (lv_at hl 0 rfl) ?_
  refine q_get (ci := 17) (j := 3) (v := .int 1) C0 V i_VR rfl rfl hO0 (by decide) w_2203 rfl d_16_6_57 ?_
  replace hA2 := (hu11 _ n_A2_O0).trans ((hu9 _ n_A2_A4).trans ((hu7 _ n_A2_A3).trans (hA2)))
  replace hA3 := (hu11 _ n_A3_O0).trans ((hu9 _ n_A3_A4).trans (hA3))
  replace hA4 := (hu11 _ n_A4_O0).trans (hA4)
  exact q_reti C0 V (⟨rfl, hF, hO0, hA2, hA3, hA4⟩) d_16_6_60
theorem d_16_8_7 : decode prog_16_method_8_code 7 = .ok (.lconst 1, 1) := by decide +kernel
theorem d_16_8_8 : decode prog_16_method_8_code 8 = .ok (.goto 4, 3) := by decide +kernel
set_option maxRecDepth 100000 in
set_option maxHeartbeats 4000000 in
theorem c_VR_truth_2 (l : Launch) (D : va_G) (g : Nat → ClassId) (ws : va_W) (kO0 kA2 kA3 kA4 qO0 qA1 qA2 qA3 qA4 qA5 qA6 qA7 qA8 qA9 : Nat) (hO0 : ws[kO0]? = (some (qO0, .inr (17, [.int 0, .ref qA1, .int 0, .int 0, .ref qA2, .ref qA3, .ref qA4, .ref qA5, .ref qA6, .int 0, .ref qA7, .int 0, .int 0, .int (-1), .int 0, .int 0, .int 0, .int 0, .int 0, .int 0, .int 0, .int 0, .int 0, .int 0, .ref qA8, .int 0, .int 0, .int 0, .ref qA9, .int 0, .int 0])) : Option (Nat × va_E))) (hA2 : ws[kA2]? = (some (qA2, .inl (g 0, 9, .inl (fun _ => 0))) : Option (Nat × va_E))) (hA3 : ws[kA3]? = (some (qA3, .inl (g 0, 9, .inl (fun _ => 0))) : Option (Nat × va_E))) (hA4 : ws[kA4]? = (some (qA4, .inl (g 1, 9, .inr (.inl (fun _ => 0)))) : Option (Nat × va_E))) (n_A2_A3 : kA2 ≠ kA3) (n_A2_A4 : kA2 ≠ kA4) (n_A3_A4 : kA3 ≠ kA4) : q_mI l y_VR_truth prog_16_method_8_code 2 (.int) 2 0 0 D g [.ref qO0, .int 1] ws (fun r u => 1 = r ∧ q_un ws u [kO0, kA2, kA3, kA4] ∧ u[kO0]? = (some (qO0, .inr (17, [.int 0, .ref qA1, .int 0, .int 1, .ref qA2, .ref qA3, .ref qA4, .ref qA5, .ref qA6, .int 0, .ref qA7, .int 0, .int 0, .int (-1), .int 0, .int 0, .int 0, .int 0, .int 0, .int 0, .int 0, .int 0, .int 0, .int 0, .ref qA8, .int 0, .int 0, .int 0, .ref qA9, .int 0, .int 0])) : Option (Nat × va_E)) ∧ u[kA2]? = (some (qA2, .inl (g 0, 9, .inl (upd (fun _ => 0) 0 1))) : Option (Nat × va_E)) ∧ u[kA3]? = (some (qA3, .inl (g 0, 9, .inl (fun _ => 0))) : Option (Nat × va_E)) ∧ u[kA4]? = (some (qA4, .inl (g 1, 9, .inr (.inl (vp_updL (fun _ => 0) 0 1)))) : Option (Nat × va_E))) := by
  intro sz
  refine q_into (by decide) (Nat.le_of_ble_eq_true rfl) ?_
  intro p e s m below meth c ls hsz C0 V hl
  have hx := C0.1
  have hb := C0.2.1
  have hl : lv_has ls 2 [(0, .ref qO0), (1, .int 1)] := hl
  have hF : q_un ws ws [kO0, kA2, kA3, kA4] := q_u0
  refine lv_aload_n hx hb d_16_8_0 rfl (lv_at hl 0 rfl) ?_
  refine lv_iconst (v := 1) hx hb d_16_8_1 (by decide) ?_
  refine lv_iconst (v := 0) hx hb d_16_8_2 (by decide) ?_
  refine lv_iload_n hx hb d_16_8_3 rfl (lv_at hl 1 rfl) ?_
  refine lv_if_eq (tgt := 11) hx hb d_16_8_4 (by decide) (fun c1 => absurd c1 (by decide)) (fun c1 => ?_)
  refine lv_lconst (v := 1) hx hb d_16_8_7 (by decide) ?_
  refine lv_goto (tgt := 12) hx hb d_16_8_8 (by decide) ?_
  refine q_goi V (q_runV (As := [.int 1, .int 0, .long 1]) (rest := []) (d := 1) (mc := 0) (ms := 0) (ci := 17) C0 V rfl LV_VR_53 (c_VR_enter_3 l D g ws kO0 kA2 kA3 kA4 qO0 qA1 qA2 qA3 qA4 qA5 qA6 qA7 qA8 qA9 hO0 hA2 hA3 hA4 n_A2_A3 n_A2_A4 n_A3_A4 _) rfl rfl hO0 rfl hl.1 rfl (Nat.le_of_ble_eq_true rfl) ⟨by decide, by decide⟩ ⟨Nat.le_of_ble_eq_true rfl, Nat.le_of_ble_eq_true rfl⟩ d_16_8_12) (fun v4 u3 H locs hp2 V => ?_)
  obtain ⟨rfl, hg5, hO0, hA2, hA3, hA4⟩ := hp2
  replace hF := q_uc hF hg5 (q_sc (.head _) (q_sc (.tail _ (.head _)) (q_sc (.tail _ (.tail _ (.head _))) (q_sc (List.mem_of_getElem? (i := 3) rfl) (fun _ h => absurd h List.not_mem_nil)))))
  exact q_reti C0 V (⟨rfl, hF, hO0, hA2, hA3, hA4⟩) d_16_8_15
set_option maxRecDepth 100000 in
set_option maxHeartbeats 4000000 in
theorem c_VR_enter_4 (l : Launch) (D : va_G) (g : Nat → ClassId) (ws : va_W) (kO0 kA2 kA3 kA4 qO0 qA1 qA2 qA3 qA4 qA5 qA6 qA7 qA8 qA9 : Nat) (hO0 : ws[kO0]? = (some (qO0, .inr (17, [.int 0, .ref qA1, .int 0, .int 0, .ref qA2, .ref qA3, .ref qA4, .ref qA5, .ref qA6, .int 0, .ref qA7, .int 0, .int 0, .int (-1), .int 0, .int 0, .int 0, .int 0, .int 0, .int 0, .int 0, .int 0, .int 0, .int 0, .ref qA8, .int 0, .int 0, .int 0, .ref qA9, .int 0, .int 0])) : Option (Nat × va_E))) (hA2 : ws[kA2]? = (some (qA2, .inl (g 0, 9, .inl (fun _ => 0))) : Option (Nat × va_E))) (hA3 : ws[kA3]? = (some (qA3, .inl (g 0, 9, .inl (fun _ => 0))) : Option (Nat × va_E))) (hA4 : ws[kA4]? = (some (qA4, .inl (g 1, 9, .inr (.inl (fun _ => 0)))) : Option (Nat × va_E))) (n_A2_A3 : kA2 ≠ kA3) (n_A2_A4 : kA2 ≠ kA4) (n_A3_A4 : kA3 ≠ kA4) : q_mI l y_VR_enter prog_16_method_6_code 5 (.int) 1 0 0 D g [.ref qO0, .int 4, .int 0, .long 0] ws (fun r u => 1 = r ∧ q_un ws u [kO0, kA2, kA3, kA4] ∧ u[kO0]? = (some (qO0, .inr (17, [.int 0, .ref qA1, .int 0, .int 1, .ref qA2, .ref qA3, .ref qA4, .ref qA5, .ref qA6, .int 0, .ref qA7, .int 0, .int 0, .int (-1), .int 0, .int 0, .int 0, .int 0, .int 0, .int 0, .int 0, .int 0, .int 0, .int 0, .ref qA8, .int 0, .int 0, .int 0, .ref qA9, .int 0, .int 0])) : Option (Nat × va_E)) ∧ u[kA2]? = (some (qA2, .inl (g 0, 9, .inl (upd (fun _ => 0) 0 4))) : Option (Nat × va_E)) ∧ u[kA3]? = (some (qA3, .inl (g 0, 9, .inl (fun _ => 0))) : Option (Nat × va_E)) ∧ u[kA4]? = (some (qA4, .inl (g 1, 9, .inr (.inl (fun _ => 0)))) : Option (Nat × va_E))) := by
  intro sz
  refine q_into (by decide) (Nat.le_of_ble_eq_true rfl) ?_
  intro p e s m below meth c ls hsz C0 V hl
  have hx := C0.1
  have hb := C0.2.1
  have hl : lv_has ls 5 [(0, .ref qO0), (1, .int 4), (2, .int 0), (3, .long 0)] := hl
  have n_A2_O0 := q_df hA2 hO0
  have n_A3_A2 := Ne.symm n_A2_A3
  have n_A3_O0 := q_df hA3 hO0
  have n_A4_A2 := Ne.symm n_A2_A4
  have n_A4_A3 := Ne.symm n_A3_A4
  have n_A4_O0 := q_df hA4 hO0
  have n_O0_A2 := Ne.symm (q_df hA2 hO0)
  have n_O0_A3 := Ne.symm (q_df hA3 hO0)
  have n_O0_A4 := Ne.symm (q_df hA4 hO0)
  have hF : q_un ws ws [kO0, kA2, kA3, kA4] := q_u0
  refine lv_aload_n hx hb d_16_6_0 rfl (lv_at hl 0 rfl) ?_
  refine lv_iconst (v := 0) hx hb d_16_6_1 (by decide) ?_
  refine q_put (ci := 17) (j := 0) (v := .int 0) (ty := .int) C0 V i_VR o_VR n_VR rfl rfl hO0 (by decide) w_2198 rfl rfl rfl rfl (Nat.le_of_ble_eq_true rfl) d_16_6_2 (fun H locs w1 hu2 hO0 V => ?_)
  replace hO0 : w1[kO0]? = (some (qO0, .inr (17, [.int 0, .ref qA1, .int 0, .int 0, .ref qA2, .ref qA3, .ref qA4, .ref qA5, .ref qA6, .int 0, .ref qA7, .int 0, .int 0, .int (-1), .int 0, .int 0, .int 0, .int 0, .int 0, .int 0, .int 0, .int 0, .int 0, .int 0, .ref qA8, .int 0, .int 0, .int 0, .ref qA9, .int 0, .int 0])) : Option (Nat × va_E)) := hO0
  replace hF := q_us hF hu2 (.head _)
  refine lv_aload_n hx hb d_16_6_5 rfl (lv_at hl 0 rfl) ?_
  refine q_get (ci := 17) (j := 3) (v := .int 0) C0 V i_VR rfl rfl hO0 (by decide) w_2203 rfl d_16_6_6 ?_
  refine lv_bipush (v := 9) hx hb d_16_6_9 (by decide) ?_
  refine lv_icmp_ne (tgt := 16) hx hb d_16_6_11 (by decide) (fun c3 => ?_) (fun c3 => absurd c3 (by decide))
  refine lv_aload_n hx hb d_16_6_16 rfl (lv_at hl 0 rfl) ?_
  refine q_get (ci := 17) (j := 4) (v := .ref qA2) C0 V i_VR rfl rfl hO0 (by decide) w_2205 rfl d_16_6_17 ?_
  refine lv_aload_n hx hb d_16_6_20 rfl (lv_at hl 0 rfl) ?_
  refine q_get (ci := 17) (j := 3) (v := .int 0) C0 V i_VR rfl rfl hO0 (by decide) w_2203 rfl d_16_6_21 ?_
  refine lv_iload_n hx hb d_16_6_24 rfl (lv_at hl 1 rfl) ?_
  replace hA2 := (hu2 _ n_A2_O0).trans (hA2)
  refine q_iast C0 V hA2 (by unfold vp_in; decide) d_16_6_25 (fun H locs w4 hu5 hA2 V => ?_)
  replace hA2 : w4[kA2]? = (some (qA2, .inl (g 0, 9, .inl (upd (fun _ => 0) 0 4))) : Option (Nat × va_E)) := hA2
  replace hF := q_us hF hu5 (.tail _ (.head _))
  refine lv_aload_n hx hb d_16_6_26 rfl (lv_at hl 0 rfl) ?_
  replace hO0 := (hu5 _ n_O0_A2).trans (hO0)
  refine q_get (ci := 17) (j := 5) (v := .ref qA3) C0 V i_VR rfl rfl hO0 (by decide) w_2206 rfl d_16_6_27 ?_
  refine lv_aload_n hx hb d_16_6_30 rfl (lv_at hl 0 rfl) ?_
  refine q_get (ci := 17) (j := 3) (v := .int 0) C0 V i_VR rfl rfl hO0 (by decide) w_2203 rfl d_16_6_31 ?_
  refine lv_iload_n hx hb d_16_6_34 rfl (lv_at hl 2 rfl) ?_
  replace hA3 := (hu5 _ n_A3_A2).trans ((hu2 _ n_A3_O0).trans (hA3))
  refine q_iast C0 V hA3 (by unfold vp_in; decide) d_16_6_35 (fun H locs w6 hu7 hA3 V => ?_)
  replace hA3 := q_re (y := (qA3, .inl (g 0, 9, .inl (fun _ => 0)))) hA3 (q_eI q_upd0)
  replace hA3 : w6[kA3]? = (some (qA3, .inl (g 0, 9, .inl (fun _ => 0))) : Option (Nat × va_E)) := hA3
  replace hF := q_us hF hu7 (.tail _ (.tail _ (.head _)))
  refine lv_aload_n hx hb d_16_6_36 rfl (lv_at hl 0 rfl) ?_
  replace hO0 := (hu7 _ n_O0_A3).trans (hO0)
  refine q_get (ci := 17) (j := 6) (v := .ref qA4) C0 V i_VR rfl rfl hO0 (by decide) w_2207 rfl d_16_6_37 ?_
  refine lv_aload_n hx hb d_16_6_40 rfl (lv_at hl 0 rfl) ?_
  refine q_get (ci := 17) (j := 3) (v := .int 0) C0 V i_VR rfl rfl hO0 (by decide) w_2203 rfl d_16_6_41 ?_
  refine lv_lload_n hx hb d_16_6_44 rfl (lv_at hl 3 rfl) ?_
  replace hA4 := (hu7 _ n_A4_A3).trans ((hu5 _ n_A4_A2).trans ((hu2 _ n_A4_O0).trans (hA4)))
  refine q_last C0 V hA4 (by unfold vp_in; decide) d_16_6_45 (fun H locs w8 hu9 hA4 V => ?_)
  replace hA4 := q_re (y := (qA4, .inl (g 1, 9, .inr (.inl (fun _ => 0))))) hA4 (q_eL q_updL0)
  replace hA4 : w8[kA4]? = (some (qA4, .inl (g 1, 9, .inr (.inl (fun _ => 0)))) : Option (Nat × va_E)) := hA4
  replace hF := q_us hF hu9 (List.mem_of_getElem? (i := 3) rfl)
  refine lv_aload_n hx hb d_16_6_46 rfl (lv_at hl 0 rfl) ?_
  refine lv_dup hx hb d_16_6_47 rfl ?_
  replace hO0 := (hu9 _ n_O0_A4).trans (hO0)
  refine q_get (ci := 17) (j := 3) (v := .int 0) C0 V i_VR rfl rfl hO0 (by decide) w_2203 rfl d_16_6_48 ?_
  refine lv_iconst (v := 1) hx hb d_16_6_51 (by decide) ?_
  refine lv_iadd hx hb d_16_6_52 ?_
  refine q_ti (v := 1) (by decide) ?_
  refine q_put (ci := 17) (j := 3) (v := .int 1) (ty := .int) C0 V i_VR o_VR n_VR rfl rfl hO0 (by decide) w_2203 rfl rfl rfl rfl (Nat.le_of_ble_eq_true rfl) d_16_6_53 (fun H locs w10 hu11 hO0 V => ?_)
  replace hO0 : w10[kO0]? = (some (qO0, .inr (17, [.int 0, .ref qA1, .int 0, .int 1, .ref qA2, .ref qA3, .ref qA4, .ref qA5, .ref qA6, .int 0, .ref qA7, .int 0, .int 0, .int (-1), .int 0, .int 0, .int 0, .int 0, .int 0, .int 0, .int 0, .int 0, .int 0, .int 0, .ref qA8, .int 0, .int 0, .int 0, .ref qA9, .int 0, .int 0])) : Option (Nat × va_E)) := hO0
  replace hF := q_us hF hu11 (.head _)
  refine lv_aload_n hx hb d_16_6_56 rfl (lv_at hl 0 rfl) ?_
  refine q_get (ci := 17) (j := 3) (v := .int 1) C0 V i_VR rfl rfl hO0 (by decide) w_2203 rfl d_16_6_57 ?_
  replace hA2 := (hu11 _ n_A2_O0).trans ((hu9 _ n_A2_A4).trans ((hu7 _ n_A2_A3).trans (hA2)))
  replace hA3 := (hu11 _ n_A3_O0).trans ((hu9 _ n_A3_A4).trans (hA3))
  replace hA4 := (hu11 _ n_A4_O0).trans (hA4)
  exact q_reti C0 V (⟨rfl, hF, hO0, hA2, hA3, hA4⟩) d_16_6_60
theorem d_16_11_0 : decode prog_16_method_11_code 0 = .ok (.aload_n 0, 1) := by decide +kernel
theorem d_16_11_1 : decode prog_16_method_11_code 1 = .ok (.getfield 45, 3) := by decide +kernel
theorem d_16_11_4 : decode prog_16_method_11_code 4 = .ok (.bipush 64, 2) := by decide +kernel
theorem d_16_11_6 : decode prog_16_method_11_code 6 = .ok (.if_icmp .le 10, 3) := by decide +kernel
theorem d_16_11_16 : decode prog_16_method_11_code 16 = .ok (.aload_n 0, 1) := by decide +kernel
theorem d_16_11_17 : decode prog_16_method_11_code 17 = .ok (.iconst 4, 1) := by decide +kernel
theorem d_16_11_18 : decode prog_16_method_11_code 18 = .ok (.aload_n 0, 1) := by decide +kernel
theorem d_16_11_19 : decode prog_16_method_11_code 19 = .ok (.getfield 45, 3) := by decide +kernel
theorem d_16_11_22 : decode prog_16_method_11_code 22 = .ok (.lconst 0, 1) := by decide +kernel
theorem d_16_11_23 : decode prog_16_method_11_code 23 = .ok (.invokevirtual 53, 3) := by decide +kernel
theorem d_16_11_26 : decode prog_16_method_11_code 26 = .ok (.istore_n 1, 1) := by decide +kernel
theorem d_16_11_27 : decode prog_16_method_11_code 27 = .ok (.iload_n 1, 1) := by decide +kernel
theorem d_16_11_28 : decode prog_16_method_11_code 28 = .ok (.ifCond .le 43, 3) := by decide +kernel
theorem d_16_11_31 : decode prog_16_method_11_code 31 = .ok (.iconst 0, 1) := by decide +kernel
theorem d_16_11_32 : decode prog_16_method_11_code 32 = .ok (.istore_n 2, 1) := by decide +kernel
theorem d_16_11_33 : decode prog_16_method_11_code 33 = .ok (.iload_n 2, 1) := by decide +kernel
theorem d_16_11_34 : decode prog_16_method_11_code 34 = .ok (.aload_n 0, 1) := by decide +kernel
theorem d_16_11_35 : decode prog_16_method_11_code 35 = .ok (.getfield 45, 3) := by decide +kernel
theorem d_16_11_38 : decode prog_16_method_11_code 38 = .ok (.if_icmp .ge 28, 3) := by decide +kernel
theorem d_16_11_66 : decode prog_16_method_11_code 66 = .ok (.aload_n 0, 1) := by decide +kernel
theorem d_16_11_67 : decode prog_16_method_11_code 67 = .ok (.iconst 0, 1) := by decide +kernel
theorem d_16_11_68 : decode prog_16_method_11_code 68 = .ok (.putfield 45, 3) := by decide +kernel
theorem d_16_11_71 : decode prog_16_method_11_code 71 = .ok (.iload_n 1, 1) := by decide +kernel
theorem d_16_11_72 : decode prog_16_method_11_code 72 = .ok (.ireturn, 1) := by decide +kernel
def y_VR_text : MethodName := ⟨"NumberHouseModel$DirectiveRows", "text", "()I"⟩
set_option maxRecDepth 100000 in
set_option maxHeartbeats 4000000 in
theorem c_VR_text (l : Launch) (D : va_G) (g : Nat → ClassId) (ws : va_W) (kO0 kA2 kA3 kA4 qO0 qA1 qA2 qA3 qA4 qA5 qA6 qA7 qA8 qA9 : Nat) (hO0 : ws[kO0]? = (some (qO0, .inr (17, [.int 0, .ref qA1, .int 0, .int 0, .ref qA2, .ref qA3, .ref qA4, .ref qA5, .ref qA6, .int 0, .ref qA7, .int 0, .int 0, .int (-1), .int 0, .int 0, .int 0, .int 0, .int 0, .int 0, .int 0, .int 0, .int 0, .int 0, .ref qA8, .int 0, .int 0, .int 0, .ref qA9, .int 0, .int 0])) : Option (Nat × va_E))) (hA2 : ws[kA2]? = (some (qA2, .inl (g 0, 9, .inl (fun _ => 0))) : Option (Nat × va_E))) (hA3 : ws[kA3]? = (some (qA3, .inl (g 0, 9, .inl (fun _ => 0))) : Option (Nat × va_E))) (hA4 : ws[kA4]? = (some (qA4, .inl (g 1, 9, .inr (.inl (fun _ => 0)))) : Option (Nat × va_E))) (n_A2_A3 : kA2 ≠ kA3) (n_A2_A4 : kA2 ≠ kA4) (n_A3_A4 : kA3 ≠ kA4) : q_mI l y_VR_text prog_16_method_11_code 3 (.int) 2 0 0 D g [.ref qO0] ws (fun r u => 1 = r ∧ q_un ws u [kO0, kA2, kA3, kA4] ∧ u[kO0]? = (some (qO0, .inr (17, [.int 0, .ref qA1, .int 0, .int 1, .ref qA2, .ref qA3, .ref qA4, .ref qA5, .ref qA6, .int 0, .ref qA7, .int 0, .int 0, .int (-1), .int 0, .int 0, .int 0, .int 0, .int 0, .int 0, .int 0, .int 0, .int 0, .int 0, .ref qA8, .int 0, .int 0, .int 0, .ref qA9, .int 0, .int 0])) : Option (Nat × va_E)) ∧ u[kA2]? = (some (qA2, .inl (g 0, 9, .inl (upd (fun _ => 0) 0 4))) : Option (Nat × va_E)) ∧ u[kA3]? = (some (qA3, .inl (g 0, 9, .inl (fun _ => 0))) : Option (Nat × va_E)) ∧ u[kA4]? = (some (qA4, .inl (g 1, 9, .inr (.inl (fun _ => 0)))) : Option (Nat × va_E))) := by
  intro sz
  refine q_into (by decide) (Nat.le_of_ble_eq_true rfl) ?_
  intro p e s m below meth c ls hsz C0 V hl
  have hx := C0.1
  have hb := C0.2.1
  have hl : lv_has ls 3 [(0, .ref qO0)] := hl
  have n_A2_O0 := q_df hA2 hO0
  have n_A3_O0 := q_df hA3 hO0
  have n_A4_O0 := q_df hA4 hO0
  have hF : q_un ws ws [kO0, kA2, kA3, kA4] := q_u0
  refine lv_aload_n hx hb d_16_11_0 rfl (lv_at hl 0 rfl) ?_
  refine q_get (ci := 17) (j := 2) (v := .int 0) C0 V i_VR rfl rfl hO0 (by decide) w_2201 rfl d_16_11_1 ?_
  refine lv_bipush (v := 64) hx hb d_16_11_4 (by decide) ?_
  refine lv_icmp_le (tgt := 16) hx hb d_16_11_6 (by decide) (fun c1 => ?_) (fun c1 => absurd (by decide) c1)
  refine lv_aload_n hx hb d_16_11_16 rfl (lv_at hl 0 rfl) ?_
  refine lv_iconst (v := 4) hx hb d_16_11_17 (by decide) ?_
  refine lv_aload_n hx hb d_16_11_18 rfl (lv_at hl 0 rfl) ?_
  refine q_get (ci := 17) (j := 2) (v := .int 0) C0 V i_VR rfl rfl hO0 (by decide) w_2201 rfl d_16_11_19 ?_
  refine lv_lconst (v := 0) hx hb d_16_11_22 (by decide) ?_
  refine q_goi V (q_runV (As := [.int 4, .int 0, .long 0]) (rest := []) (d := 1) (mc := 0) (ms := 0) (ci := 17) C0 V rfl LV_VR_53 (c_VR_enter_4 l D g ws kO0 kA2 kA3 kA4 qO0 qA1 qA2 qA3 qA4 qA5 qA6 qA7 qA8 qA9 hO0 hA2 hA3 hA4 n_A2_A3 n_A2_A4 n_A3_A4 _) rfl rfl hO0 rfl hl.1 rfl (Nat.le_of_ble_eq_true rfl) ⟨by decide, by decide⟩ ⟨Nat.le_of_ble_eq_true rfl, Nat.le_of_ble_eq_true rfl⟩ d_16_11_23) (fun v4 u3 H locs hp2 V => ?_)
  obtain ⟨rfl, hg5, hO0, hA2, hA3, hA4⟩ := hp2
  replace hF := q_uc hF hg5 (q_sc (.head _) (q_sc (.tail _ (.head _)) (q_sc (.tail _ (.tail _ (.head _))) (q_sc (List.mem_of_getElem? (i := 3) rfl) (fun _ h => absurd h List.not_mem_nil)))))
  refine lv_istore_n (lv' := [(1, .int 1), (0, .ref qO0)]) hx hb d_16_11_26 rfl hl (by decide) rfl (fun ls hl => ?_)
  refine lv_iload_n hx hb d_16_11_27 rfl (lv_at hl 0 rfl) ?_
  refine lv_if_le (tgt := 71) hx hb d_16_11_28 (by decide) (fun c6 => absurd c6 (by decide)) (fun c6 => ?_)
  refine lv_iconst (v := 0) hx hb d_16_11_31 (by decide) ?_
  refine lv_istore_n (lv' := [(2, .int 0), (1, .int 1), (0, .ref qO0)]) hx hb d_16_11_32 rfl hl (by decide) rfl (fun ls hl => ?_)
  refine lv_iload_n hx hb d_16_11_33 rfl (lv_at hl 0 rfl) ?_
  refine lv_aload_n hx hb d_16_11_34 rfl (lv_at hl 2 rfl) ?_
  refine q_get (ci := 17) (j := 2) (v := .int 0) C0 V i_VR rfl rfl hO0 (by decide) w_2201 rfl d_16_11_35 ?_
  refine lv_icmp_ge (tgt := 66) hx hb d_16_11_38 (by decide) (fun c7 => ?_) (fun c7 => absurd (by decide) c7)
  refine lv_aload_n hx hb d_16_11_66 rfl (lv_at hl 2 rfl) ?_
  refine lv_iconst (v := 0) hx hb d_16_11_67 (by decide) ?_
  refine q_put (ci := 17) (j := 2) (v := .int 0) (ty := .int) C0 V i_VR o_VR n_VR rfl rfl hO0 (by decide) w_2201 rfl rfl rfl rfl (Nat.le_of_ble_eq_true rfl) d_16_11_68 (fun H locs w8 hu9 hO0 V => ?_)
  replace hO0 : w8[kO0]? = (some (qO0, .inr (17, [.int 0, .ref qA1, .int 0, .int 1, .ref qA2, .ref qA3, .ref qA4, .ref qA5, .ref qA6, .int 0, .ref qA7, .int 0, .int 0, .int (-1), .int 0, .int 0, .int 0, .int 0, .int 0, .int 0, .int 0, .int 0, .int 0, .int 0, .ref qA8, .int 0, .int 0, .int 0, .ref qA9, .int 0, .int 0])) : Option (Nat × va_E)) := hO0
  replace hF := q_us hF hu9 (.head _)
  refine lv_iload_n hx hb d_16_11_71 rfl (lv_at hl 1 rfl) ?_
  replace hA2 := (hu9 _ n_A2_O0).trans (hA2)
  replace hA3 := (hu9 _ n_A3_O0).trans (hA3)
  replace hA4 := (hu9 _ n_A4_O0).trans (hA4)
  exact q_reti C0 V (⟨rfl, hF, hO0, hA2, hA3, hA4⟩) d_16_11_72
set_option maxRecDepth 100000 in
set_option maxHeartbeats 4000000 in
theorem c_VR_enter_5 (l : Launch) (D : va_G) (g : Nat → ClassId) (ws : va_W) (kO0 kA2 kA3 kA4 qO0 qA1 qA2 qA3 qA4 qA5 qA6 qA7 qA8 qA9 : Nat) (x1 : Int64) (hO0 : ws[kO0]? = (some (qO0, .inr (17, [.int 0, .ref qA1, .int 0, .int 0, .ref qA2, .ref qA3, .ref qA4, .ref qA5, .ref qA6, .int 0, .ref qA7, .int 0, .int 0, .int (-1), .int 0, .int 0, .int 0, .int 0, .int 0, .int 0, .int 0, .int 0, .int 0, .int 0, .ref qA8, .int 0, .int 0, .int 0, .ref qA9, .int 0, .int 0])) : Option (Nat × va_E))) (hA2 : ws[kA2]? = (some (qA2, .inl (g 0, 9, .inl (fun _ => 0))) : Option (Nat × va_E))) (hA3 : ws[kA3]? = (some (qA3, .inl (g 0, 9, .inl (fun _ => 0))) : Option (Nat × va_E))) (hA4 : ws[kA4]? = (some (qA4, .inl (g 1, 9, .inr (.inl (fun _ => 0)))) : Option (Nat × va_E))) (n_A2_A3 : kA2 ≠ kA3) (n_A2_A4 : kA2 ≠ kA4) (n_A3_A4 : kA3 ≠ kA4) : q_mI l y_VR_enter prog_16_method_6_code 5 (.int) 1 0 0 D g [.ref qO0, .int 2, .int 0, .long x1] ws (fun r u => 1 = r ∧ q_un ws u [kO0, kA2, kA3, kA4] ∧ u[kO0]? = (some (qO0, .inr (17, [.int 0, .ref qA1, .int 0, .int 1, .ref qA2, .ref qA3, .ref qA4, .ref qA5, .ref qA6, .int 0, .ref qA7, .int 0, .int 0, .int (-1), .int 0, .int 0, .int 0, .int 0, .int 0, .int 0, .int 0, .int 0, .int 0, .int 0, .ref qA8, .int 0, .int 0, .int 0, .ref qA9, .int 0, .int 0])) : Option (Nat × va_E)) ∧ u[kA2]? = (some (qA2, .inl (g 0, 9, .inl (upd (fun _ => 0) 0 2))) : Option (Nat × va_E)) ∧ u[kA3]? = (some (qA3, .inl (g 0, 9, .inl (fun _ => 0))) : Option (Nat × va_E)) ∧ u[kA4]? = (some (qA4, .inl (g 1, 9, .inr (.inl (vp_updL (fun _ => 0) 0 x1)))) : Option (Nat × va_E))) := by
  intro sz
  refine q_into (by decide) (Nat.le_of_ble_eq_true rfl) ?_
  intro p e s m below meth c ls hsz C0 V hl
  have hx := C0.1
  have hb := C0.2.1
  have hl : lv_has ls 5 [(0, .ref qO0), (1, .int 2), (2, .int 0), (3, .long x1)] := hl
  have n_A2_O0 := q_df hA2 hO0
  have n_A3_A2 := Ne.symm n_A2_A3
  have n_A3_O0 := q_df hA3 hO0
  have n_A4_A2 := Ne.symm n_A2_A4
  have n_A4_A3 := Ne.symm n_A3_A4
  have n_A4_O0 := q_df hA4 hO0
  have n_O0_A2 := Ne.symm (q_df hA2 hO0)
  have n_O0_A3 := Ne.symm (q_df hA3 hO0)
  have n_O0_A4 := Ne.symm (q_df hA4 hO0)
  have hF : q_un ws ws [kO0, kA2, kA3, kA4] := q_u0
  refine lv_aload_n hx hb d_16_6_0 rfl (lv_at hl 0 rfl) ?_
  refine lv_iconst (v := 0) hx hb d_16_6_1 (by decide) ?_
  refine q_put (ci := 17) (j := 0) (v := .int 0) (ty := .int) C0 V i_VR o_VR n_VR rfl rfl hO0 (by decide) w_2198 rfl rfl rfl rfl (Nat.le_of_ble_eq_true rfl) d_16_6_2 (fun H locs w1 hu2 hO0 V => ?_)
  replace hO0 : w1[kO0]? = (some (qO0, .inr (17, [.int 0, .ref qA1, .int 0, .int 0, .ref qA2, .ref qA3, .ref qA4, .ref qA5, .ref qA6, .int 0, .ref qA7, .int 0, .int 0, .int (-1), .int 0, .int 0, .int 0, .int 0, .int 0, .int 0, .int 0, .int 0, .int 0, .int 0, .ref qA8, .int 0, .int 0, .int 0, .ref qA9, .int 0, .int 0])) : Option (Nat × va_E)) := hO0
  replace hF := q_us hF hu2 (.head _)
  refine lv_aload_n hx hb d_16_6_5 rfl (lv_at hl 0 rfl) ?_
  refine q_get (ci := 17) (j := 3) (v := .int 0) C0 V i_VR rfl rfl hO0 (by decide) w_2203 rfl d_16_6_6 ?_
  refine lv_bipush (v := 9) hx hb d_16_6_9 (by decide) ?_
  refine lv_icmp_ne (tgt := 16) hx hb d_16_6_11 (by decide) (fun c3 => ?_) (fun c3 => absurd c3 (by decide))
  refine lv_aload_n hx hb d_16_6_16 rfl (lv_at hl 0 rfl) ?_
  refine q_get (ci := 17) (j := 4) (v := .ref qA2) C0 V i_VR rfl rfl hO0 (by decide) w_2205 rfl d_16_6_17 ?_
  refine lv_aload_n hx hb d_16_6_20 rfl (lv_at hl 0 rfl) ?_
  refine q_get (ci := 17) (j := 3) (v := .int 0) C0 V i_VR rfl rfl hO0 (by decide) w_2203 rfl d_16_6_21 ?_
  refine lv_iload_n hx hb d_16_6_24 rfl (lv_at hl 1 rfl) ?_
  replace hA2 := (hu2 _ n_A2_O0).trans (hA2)
  refine q_iast C0 V hA2 (by unfold vp_in; decide) d_16_6_25 (fun H locs w4 hu5 hA2 V => ?_)
  replace hA2 : w4[kA2]? = (some (qA2, .inl (g 0, 9, .inl (upd (fun _ => 0) 0 2))) : Option (Nat × va_E)) := hA2
  replace hF := q_us hF hu5 (.tail _ (.head _))
  refine lv_aload_n hx hb d_16_6_26 rfl (lv_at hl 0 rfl) ?_
  replace hO0 := (hu5 _ n_O0_A2).trans (hO0)
  refine q_get (ci := 17) (j := 5) (v := .ref qA3) C0 V i_VR rfl rfl hO0 (by decide) w_2206 rfl d_16_6_27 ?_
  refine lv_aload_n hx hb d_16_6_30 rfl (lv_at hl 0 rfl) ?_
  refine q_get (ci := 17) (j := 3) (v := .int 0) C0 V i_VR rfl rfl hO0 (by decide) w_2203 rfl d_16_6_31 ?_
  refine lv_iload_n hx hb d_16_6_34 rfl (lv_at hl 2 rfl) ?_
  replace hA3 := (hu5 _ n_A3_A2).trans ((hu2 _ n_A3_O0).trans (hA3))
  refine q_iast C0 V hA3 (by unfold vp_in; decide) d_16_6_35 (fun H locs w6 hu7 hA3 V => ?_)
  replace hA3 := q_re (y := (qA3, .inl (g 0, 9, .inl (fun _ => 0)))) hA3 (q_eI q_upd0)
  replace hA3 : w6[kA3]? = (some (qA3, .inl (g 0, 9, .inl (fun _ => 0))) : Option (Nat × va_E)) := hA3
  replace hF := q_us hF hu7 (.tail _ (.tail _ (.head _)))
  refine lv_aload_n hx hb d_16_6_36 rfl (lv_at hl 0 rfl) ?_
  replace hO0 := (hu7 _ n_O0_A3).trans (hO0)
  refine q_get (ci := 17) (j := 6) (v := .ref qA4) C0 V i_VR rfl rfl hO0 (by decide) w_2207 rfl d_16_6_37 ?_
  refine lv_aload_n hx hb d_16_6_40 rfl (lv_at hl 0 rfl) ?_
  refine q_get (ci := 17) (j := 3) (v := .int 0) C0 V i_VR rfl rfl hO0 (by decide) w_2203 rfl d_16_6_41 ?_
  refine lv_lload_n hx hb d_16_6_44 rfl (lv_at hl 3 rfl) ?_
  replace hA4 := (hu7 _ n_A4_A3).trans ((hu5 _ n_A4_A2).trans ((hu2 _ n_A4_O0).trans (hA4)))
  refine q_last C0 V hA4 (by unfold vp_in; decide) d_16_6_45 (fun H locs w8 hu9 hA4 V => ?_)
  replace hA4 : w8[kA4]? = (some (qA4, .inl (g 1, 9, .inr (.inl (vp_updL (fun _ => 0) 0 x1)))) : Option (Nat × va_E)) := hA4
  replace hF := q_us hF hu9 (List.mem_of_getElem? (i := 3) rfl)
  refine lv_aload_n hx hb d_16_6_46 rfl (lv_at hl 0 rfl) ?_
  refine lv_dup hx hb d_16_6_47 rfl ?_
  replace hO0 := (hu9 _ n_O0_A4).trans (hO0)
  refine q_get (ci := 17) (j := 3) (v := .int 0) C0 V i_VR rfl rfl hO0 (by decide) w_2203 rfl d_16_6_48 ?_
  refine lv_iconst (v := 1) hx hb d_16_6_51 (by decide) ?_
  refine lv_iadd hx hb d_16_6_52 ?_
  refine q_ti (v := 1) (by decide) ?_
  refine q_put (ci := 17) (j := 3) (v := .int 1) (ty := .int) C0 V i_VR o_VR n_VR rfl rfl hO0 (by decide) w_2203 rfl rfl rfl rfl (Nat.le_of_ble_eq_true rfl) d_16_6_53 (fun H locs w10 hu11 hO0 V => ?_)
  replace hO0 : w10[kO0]? = (some (qO0, .inr (17, [.int 0, .ref qA1, .int 0, .int 1, .ref qA2, .ref qA3, .ref qA4, .ref qA5, .ref qA6, .int 0, .ref qA7, .int 0, .int 0, .int (-1), .int 0, .int 0, .int 0, .int 0, .int 0, .int 0, .int 0, .int 0, .int 0, .int 0, .ref qA8, .int 0, .int 0, .int 0, .ref qA9, .int 0, .int 0])) : Option (Nat × va_E)) := hO0
  replace hF := q_us hF hu11 (.head _)
  refine lv_aload_n hx hb d_16_6_56 rfl (lv_at hl 0 rfl) ?_
  refine q_get (ci := 17) (j := 3) (v := .int 1) C0 V i_VR rfl rfl hO0 (by decide) w_2203 rfl d_16_6_57 ?_
  replace hA2 := (hu11 _ n_A2_O0).trans ((hu9 _ n_A2_A4).trans ((hu7 _ n_A2_A3).trans (hA2)))
  replace hA3 := (hu11 _ n_A3_O0).trans ((hu9 _ n_A3_A4).trans (hA3))
  replace hA4 := (hu11 _ n_A4_O0).trans (hA4)
  exact q_reti C0 V (⟨rfl, hF, hO0, hA2, hA3, hA4⟩) d_16_6_60
theorem d_16_9_0 : decode prog_16_method_9_code 0 = .ok (.iload_n 1, 1) := by decide +kernel
theorem d_16_9_1 : decode prog_16_method_9_code 1 = .ok (.ifCond .lt 10, 3) := by decide +kernel
theorem d_16_9_4 : decode prog_16_method_9_code 4 = .ok (.iload_n 1, 1) := by decide +kernel
theorem d_16_9_5 : decode prog_16_method_9_code 5 = .ok (.sipush 255, 3) := by decide +kernel
theorem d_16_9_8 : decode prog_16_method_9_code 8 = .ok (.if_icmp .le 10, 3) := by decide +kernel
theorem d_16_9_18 : decode prog_16_method_9_code 18 = .ok (.aload_n 0, 1) := by decide +kernel
theorem d_16_9_19 : decode prog_16_method_9_code 19 = .ok (.iconst 2, 1) := by decide +kernel
theorem d_16_9_20 : decode prog_16_method_9_code 20 = .ok (.iconst 0, 1) := by decide +kernel
theorem d_16_9_21 : decode prog_16_method_9_code 21 = .ok (.iload_n 1, 1) := by decide +kernel
theorem d_16_9_22 : decode prog_16_method_9_code 22 = .ok (.i2l, 1) := by decide +kernel
theorem d_16_9_23 : decode prog_16_method_9_code 23 = .ok (.invokevirtual 53, 3) := by decide +kernel
theorem d_16_9_26 : decode prog_16_method_9_code 26 = .ok (.ireturn, 1) := by decide +kernel
def y_VR_symbol : MethodName := ⟨"NumberHouseModel$DirectiveRows", "symbol", "(I)I"⟩
set_option maxRecDepth 100000 in
set_option maxHeartbeats 4000000 in
theorem c_VR_symbol (l : Launch) (D : va_G) (g : Nat → ClassId) (ws : va_W) (kO0 kA2 kA3 kA4 qO0 qA1 qA2 qA3 qA4 qA5 qA6 qA7 qA8 qA9 : Nat) (x1 : Int32) (hO0 : ws[kO0]? = (some (qO0, .inr (17, [.int 0, .ref qA1, .int 0, .int 0, .ref qA2, .ref qA3, .ref qA4, .ref qA5, .ref qA6, .int 0, .ref qA7, .int 0, .int 0, .int (-1), .int 0, .int 0, .int 0, .int 0, .int 0, .int 0, .int 0, .int 0, .int 0, .int 0, .ref qA8, .int 0, .int 0, .int 0, .ref qA9, .int 0, .int 0])) : Option (Nat × va_E))) (hA2 : ws[kA2]? = (some (qA2, .inl (g 0, 9, .inl (fun _ => 0))) : Option (Nat × va_E))) (hA3 : ws[kA3]? = (some (qA3, .inl (g 0, 9, .inl (fun _ => 0))) : Option (Nat × va_E))) (hA4 : ws[kA4]? = (some (qA4, .inl (g 1, 9, .inr (.inl (fun _ => 0)))) : Option (Nat × va_E))) (n_A2_A3 : kA2 ≠ kA3) (n_A2_A4 : kA2 ≠ kA4) (n_A3_A4 : kA3 ≠ kA4) (x1lo : 0 ≤ x1) (x1hi : x1 ≤ 255) : q_mI l y_VR_symbol prog_16_method_9_code 2 (.int) 2 0 0 D g [.ref qO0, .int x1] ws (fun r u => 1 = r ∧ q_un ws u [kO0, kA2, kA3, kA4] ∧ u[kO0]? = (some (qO0, .inr (17, [.int 0, .ref qA1, .int 0, .int 1, .ref qA2, .ref qA3, .ref qA4, .ref qA5, .ref qA6, .int 0, .ref qA7, .int 0, .int 0, .int (-1), .int 0, .int 0, .int 0, .int 0, .int 0, .int 0, .int 0, .int 0, .int 0, .int 0, .ref qA8, .int 0, .int 0, .int 0, .ref qA9, .int 0, .int 0])) : Option (Nat × va_E)) ∧ u[kA2]? = (some (qA2, .inl (g 0, 9, .inl (upd (fun _ => 0) 0 2))) : Option (Nat × va_E)) ∧ u[kA3]? = (some (qA3, .inl (g 0, 9, .inl (fun _ => 0))) : Option (Nat × va_E)) ∧ u[kA4]? = (some (qA4, .inl (g 1, 9, .inr (.inl (vp_updL (fun _ => 0) 0 x1.toInt64)))) : Option (Nat × va_E))) := by
  intro sz
  refine q_into (by decide) (Nat.le_of_ble_eq_true rfl) ?_
  intro p e s m below meth c ls hsz C0 V hl
  have hx := C0.1
  have hb := C0.2.1
  have hl : lv_has ls 2 [(0, .ref qO0), (1, .int x1)] := hl
  have hF : q_un ws ws [kO0, kA2, kA3, kA4] := q_u0
  refine lv_iload_n hx hb d_16_9_0 rfl (lv_at hl 1 rfl) ?_
  refine lv_if_lt (tgt := 11) hx hb d_16_9_1 (by decide) (fun c1 => absurd c1 (Int32.not_lt.mpr x1lo)) (fun c1 => ?_)
  refine lv_iload_n hx hb d_16_9_4 rfl (lv_at hl 1 rfl) ?_
  refine lv_sipush (v := 255) hx hb d_16_9_5 (by decide) ?_
  refine lv_icmp_le (tgt := 18) hx hb d_16_9_8 (by decide) (fun c2 => ?_) (fun c2 => absurd x1hi c2)
  refine lv_aload_n hx hb d_16_9_18 rfl (lv_at hl 0 rfl) ?_
  refine lv_iconst (v := 2) hx hb d_16_9_19 (by decide) ?_
  refine lv_iconst (v := 0) hx hb d_16_9_20 (by decide) ?_
  refine lv_iload_n hx hb d_16_9_21 rfl (lv_at hl 1 rfl) ?_
  refine lv_i2l hx hb d_16_9_22 rfl ?_
  refine q_goi V (q_runV (As := [.int 2, .int 0, .long x1.toInt64]) (rest := []) (d := 1) (mc := 0) (ms := 0) (ci := 17) C0 V rfl LV_VR_53 (c_VR_enter_5 l D g ws kO0 kA2 kA3 kA4 qO0 qA1 qA2 qA3 qA4 qA5 qA6 qA7 qA8 qA9 x1.toInt64 hO0 hA2 hA3 hA4 n_A2_A3 n_A2_A4 n_A3_A4 _) rfl rfl hO0 rfl hl.1 rfl (Nat.le_of_ble_eq_true rfl) ⟨by decide, by decide⟩ ⟨Nat.le_of_ble_eq_true rfl, Nat.le_of_ble_eq_true rfl⟩ d_16_9_23) (fun v5 u4 H locs hp3 V => ?_)
  obtain ⟨rfl, hg6, hO0, hA2, hA3, hA4⟩ := hp3
  replace hF := q_uc hF hg6 (q_sc (.head _) (q_sc (.tail _ (.head _)) (q_sc (.tail _ (.tail _ (.head _))) (q_sc (List.mem_of_getElem? (i := 3) rfl) (fun _ h => absurd h List.not_mem_nil)))))
  exact q_reti C0 V (⟨rfl, hF, hO0, hA2, hA3, hA4⟩) d_16_9_26
set_option maxRecDepth 100000 in
set_option maxHeartbeats 4000000 in
theorem c_VR_enter_6 (l : Launch) (D : va_G) (g : Nat → ClassId) (ws : va_W) (kO0 kA2 kA3 kA4 qO0 qA1 qA2 qA3 qA4 qA5 qA6 qA7 qA8 qA9 : Nat) (hO0 : ws[kO0]? = (some (qO0, .inr (17, [.int 0, .ref qA1, .int 0, .int 0, .ref qA2, .ref qA3, .ref qA4, .ref qA5, .ref qA6, .int 0, .ref qA7, .int 0, .int 0, .int (-1), .int 0, .int 0, .int 0, .int 0, .int 0, .int 0, .int 0, .int 0, .int 0, .int 0, .ref qA8, .int 0, .int 0, .int 0, .ref qA9, .int 0, .int 0])) : Option (Nat × va_E))) (hA2 : ws[kA2]? = (some (qA2, .inl (g 0, 9, .inl (fun _ => 0))) : Option (Nat × va_E))) (hA3 : ws[kA3]? = (some (qA3, .inl (g 0, 9, .inl (fun _ => 0))) : Option (Nat × va_E))) (hA4 : ws[kA4]? = (some (qA4, .inl (g 1, 9, .inr (.inl (fun _ => 0)))) : Option (Nat × va_E))) (n_A2_A3 : kA2 ≠ kA3) (n_A2_A4 : kA2 ≠ kA4) (n_A3_A4 : kA3 ≠ kA4) : q_mI l y_VR_enter prog_16_method_6_code 5 (.int) 1 0 0 D g [.ref qO0, .int 3, .int 64, .long 0] ws (fun r u => 1 = r ∧ q_un ws u [kO0, kA2, kA3, kA4] ∧ u[kO0]? = (some (qO0, .inr (17, [.int 0, .ref qA1, .int 0, .int 1, .ref qA2, .ref qA3, .ref qA4, .ref qA5, .ref qA6, .int 0, .ref qA7, .int 0, .int 0, .int (-1), .int 0, .int 0, .int 0, .int 0, .int 0, .int 0, .int 0, .int 0, .int 0, .int 0, .ref qA8, .int 0, .int 0, .int 0, .ref qA9, .int 0, .int 0])) : Option (Nat × va_E)) ∧ u[kA2]? = (some (qA2, .inl (g 0, 9, .inl (upd (fun _ => 0) 0 3))) : Option (Nat × va_E)) ∧ u[kA3]? = (some (qA3, .inl (g 0, 9, .inl (upd (fun _ => 0) 0 64))) : Option (Nat × va_E)) ∧ u[kA4]? = (some (qA4, .inl (g 1, 9, .inr (.inl (fun _ => 0)))) : Option (Nat × va_E))) := by
  intro sz
  refine q_into (by decide) (Nat.le_of_ble_eq_true rfl) ?_
  intro p e s m below meth c ls hsz C0 V hl
  have hx := C0.1
  have hb := C0.2.1
  have hl : lv_has ls 5 [(0, .ref qO0), (1, .int 3), (2, .int 64), (3, .long 0)] := hl
  have n_A2_O0 := q_df hA2 hO0
  have n_A3_A2 := Ne.symm n_A2_A3
  have n_A3_O0 := q_df hA3 hO0
  have n_A4_A2 := Ne.symm n_A2_A4
  have n_A4_A3 := Ne.symm n_A3_A4
  have n_A4_O0 := q_df hA4 hO0
  have n_O0_A2 := Ne.symm (q_df hA2 hO0)
  have n_O0_A3 := Ne.symm (q_df hA3 hO0)
  have n_O0_A4 := Ne.symm (q_df hA4 hO0)
  have hF : q_un ws ws [kO0, kA2, kA3, kA4] := q_u0
  refine lv_aload_n hx hb d_16_6_0 rfl (lv_at hl 0 rfl) ?_
  refine lv_iconst (v := 0) hx hb d_16_6_1 (by decide) ?_
  refine q_put (ci := 17) (j := 0) (v := .int 0) (ty := .int) C0 V i_VR o_VR n_VR rfl rfl hO0 (by decide) w_2198 rfl rfl rfl rfl (Nat.le_of_ble_eq_true rfl) d_16_6_2 (fun H locs w1 hu2 hO0 V => ?_)
  replace hO0 : w1[kO0]? = (some (qO0, .inr (17, [.int 0, .ref qA1, .int 0, .int 0, .ref qA2, .ref qA3, .ref qA4, .ref qA5, .ref qA6, .int 0, .ref qA7, .int 0, .int 0, .int (-1), .int 0, .int 0, .int 0, .int 0, .int 0, .int 0, .int 0, .int 0, .int 0, .int 0, .ref qA8, .int 0, .int 0, .int 0, .ref qA9, .int 0, .int 0])) : Option (Nat × va_E)) := hO0
  replace hF := q_us hF hu2 (.head _)
  refine lv_aload_n hx hb d_16_6_5 rfl (lv_at hl 0 rfl) ?_
  refine q_get (ci := 17) (j := 3) (v := .int 0) C0 V i_VR rfl rfl hO0 (by decide) w_2203 rfl d_16_6_6 ?_
  refine lv_bipush (v := 9) hx hb d_16_6_9 (by decide) ?_
  refine lv_icmp_ne (tgt := 16) hx hb d_16_6_11 (by decide) (fun c3 => ?_) (fun c3 => absurd c3 (by decide))
  refine lv_aload_n hx hb d_16_6_16 rfl (lv_at hl 0 rfl) ?_
  refine q_get (ci := 17) (j := 4) (v := .ref qA2) C0 V i_VR rfl rfl hO0 (by decide) w_2205 rfl d_16_6_17 ?_
  refine lv_aload_n hx hb d_16_6_20 rfl (lv_at hl 0 rfl) ?_
  refine q_get (ci := 17) (j := 3) (v := .int 0) C0 V i_VR rfl rfl hO0 (by decide) w_2203 rfl d_16_6_21 ?_
  refine lv_iload_n hx hb d_16_6_24 rfl (lv_at hl 1 rfl) ?_
  replace hA2 := (hu2 _ n_A2_O0).trans (hA2)
  refine q_iast C0 V hA2 (by unfold vp_in; decide) d_16_6_25 (fun H locs w4 hu5 hA2 V => ?_)
  replace hA2 : w4[kA2]? = (some (qA2, .inl (g 0, 9, .inl (upd (fun _ => 0) 0 3))) : Option (Nat × va_E)) := hA2
  replace hF := q_us hF hu5 (.tail _ (.head _))
  refine lv_aload_n hx hb d_16_6_26 rfl (lv_at hl 0 rfl) ?_
  replace hO0 := (hu5 _ n_O0_A2).trans (hO0)
  refine q_get (ci := 17) (j := 5) (v := .ref qA3) C0 V i_VR rfl rfl hO0 (by decide) w_2206 rfl d_16_6_27 ?_
  refine lv_aload_n hx hb d_16_6_30 rfl (lv_at hl 0 rfl) ?_
  refine q_get (ci := 17) (j := 3) (v := .int 0) C0 V i_VR rfl rfl hO0 (by decide) w_2203 rfl d_16_6_31 ?_
  refine lv_iload_n hx hb d_16_6_34 rfl (lv_at hl 2 rfl) ?_
  replace hA3 := (hu5 _ n_A3_A2).trans ((hu2 _ n_A3_O0).trans (hA3))
  refine q_iast C0 V hA3 (by unfold vp_in; decide) d_16_6_35 (fun H locs w6 hu7 hA3 V => ?_)
  replace hA3 : w6[kA3]? = (some (qA3, .inl (g 0, 9, .inl (upd (fun _ => 0) 0 64))) : Option (Nat × va_E)) := hA3
  replace hF := q_us hF hu7 (.tail _ (.tail _ (.head _)))
  refine lv_aload_n hx hb d_16_6_36 rfl (lv_at hl 0 rfl) ?_
  replace hO0 := (hu7 _ n_O0_A3).trans (hO0)
  refine q_get (ci := 17) (j := 6) (v := .ref qA4) C0 V i_VR rfl rfl hO0 (by decide) w_2207 rfl d_16_6_37 ?_
  refine lv_aload_n hx hb d_16_6_40 rfl (lv_at hl 0 rfl) ?_
  refine q_get (ci := 17) (j := 3) (v := .int 0) C0 V i_VR rfl rfl hO0 (by decide) w_2203 rfl d_16_6_41 ?_
  refine lv_lload_n hx hb d_16_6_44 rfl (lv_at hl 3 rfl) ?_
  replace hA4 := (hu7 _ n_A4_A3).trans ((hu5 _ n_A4_A2).trans ((hu2 _ n_A4_O0).trans (hA4)))
  refine q_last C0 V hA4 (by unfold vp_in; decide) d_16_6_45 (fun H locs w8 hu9 hA4 V => ?_)
  replace hA4 := q_re (y := (qA4, .inl (g 1, 9, .inr (.inl (fun _ => 0))))) hA4 (q_eL q_updL0)
  replace hA4 : w8[kA4]? = (some (qA4, .inl (g 1, 9, .inr (.inl (fun _ => 0)))) : Option (Nat × va_E)) := hA4
  replace hF := q_us hF hu9 (List.mem_of_getElem? (i := 3) rfl)
  refine lv_aload_n hx hb d_16_6_46 rfl (lv_at hl 0 rfl) ?_
  refine lv_dup hx hb d_16_6_47 rfl ?_
  replace hO0 := (hu9 _ n_O0_A4).trans (hO0)
  refine q_get (ci := 17) (j := 3) (v := .int 0) C0 V i_VR rfl rfl hO0 (by decide) w_2203 rfl d_16_6_48 ?_
  refine lv_iconst (v := 1) hx hb d_16_6_51 (by decide) ?_
  refine lv_iadd hx hb d_16_6_52 ?_
  refine q_ti (v := 1) (by decide) ?_
  refine q_put (ci := 17) (j := 3) (v := .int 1) (ty := .int) C0 V i_VR o_VR n_VR rfl rfl hO0 (by decide) w_2203 rfl rfl rfl rfl (Nat.le_of_ble_eq_true rfl) d_16_6_53 (fun H locs w10 hu11 hO0 V => ?_)
  replace hO0 : w10[kO0]? = (some (qO0, .inr (17, [.int 0, .ref qA1, .int 0, .int 1, .ref qA2, .ref qA3, .ref qA4, .ref qA5, .ref qA6, .int 0, .ref qA7, .int 0, .int 0, .int (-1), .int 0, .int 0, .int 0, .int 0, .int 0, .int 0, .int 0, .int 0, .int 0, .int 0, .ref qA8, .int 0, .int 0, .int 0, .ref qA9, .int 0, .int 0])) : Option (Nat × va_E)) := hO0
  replace hF := q_us hF hu11 (.head _)
  refine lv_aload_n hx hb d_16_6_56 rfl (lv_at hl 0 rfl) ?_
  refine q_get (ci := 17) (j := 3) (v := .int 1) C0 V i_VR rfl rfl hO0 (by decide) w_2203 rfl d_16_6_57 ?_
  replace hA2 := (hu11 _ n_A2_O0).trans ((hu9 _ n_A2_A4).trans ((hu7 _ n_A2_A3).trans (hA2)))
  replace hA3 := (hu11 _ n_A3_O0).trans ((hu9 _ n_A3_A4).trans (hA3))
  replace hA4 := (hu11 _ n_A4_O0).trans (hA4)
  exact q_reti C0 V (⟨rfl, hF, hO0, hA2, hA3, hA4⟩) d_16_6_60
theorem d_16_10_0 : decode prog_16_method_10_code 0 = .ok (.iload_n 1, 1) := by decide +kernel
theorem d_16_10_1 : decode prog_16_method_10_code 1 = .ok (.bipush 8, 2) := by decide +kernel
theorem d_16_10_3 : decode prog_16_method_10_code 3 = .ok (.if_icmp .eq 28, 3) := by decide +kernel
theorem d_16_10_6 : decode prog_16_method_10_code 6 = .ok (.iload_n 1, 1) := by decide +kernel
theorem d_16_10_7 : decode prog_16_method_10_code 7 = .ok (.bipush 16, 2) := by decide +kernel
theorem d_16_10_9 : decode prog_16_method_10_code 9 = .ok (.if_icmp .eq 22, 3) := by decide +kernel
theorem d_16_10_12 : decode prog_16_method_10_code 12 = .ok (.iload_n 1, 1) := by decide +kernel
theorem d_16_10_13 : decode prog_16_method_10_code 13 = .ok (.bipush 32, 2) := by decide +kernel
theorem d_16_10_15 : decode prog_16_method_10_code 15 = .ok (.if_icmp .eq 16, 3) := by decide +kernel
theorem d_16_10_18 : decode prog_16_method_10_code 18 = .ok (.iload_n 1, 1) := by decide +kernel
theorem d_16_10_19 : decode prog_16_method_10_code 19 = .ok (.bipush 64, 2) := by decide +kernel
theorem d_16_10_21 : decode prog_16_method_10_code 21 = .ok (.if_icmp .eq 10, 3) := by decide +kernel
theorem d_16_10_31 : decode prog_16_method_10_code 31 = .ok (.aload_n 0, 1) := by decide +kernel
theorem d_16_10_32 : decode prog_16_method_10_code 32 = .ok (.iconst 3, 1) := by decide +kernel
theorem d_16_10_33 : decode prog_16_method_10_code 33 = .ok (.iload_n 1, 1) := by decide +kernel
theorem d_16_10_34 : decode prog_16_method_10_code 34 = .ok (.lload_n 2, 1) := by decide +kernel
theorem d_16_10_35 : decode prog_16_method_10_code 35 = .ok (.bipush 64, 2) := by decide +kernel
theorem d_16_10_37 : decode prog_16_method_10_code 37 = .ok (.iload_n 1, 1) := by decide +kernel
theorem d_16_10_38 : decode prog_16_method_10_code 38 = .ok (.isub, 1) := by decide +kernel
theorem d_16_10_39 : decode prog_16_method_10_code 39 = .ok (.lshl, 1) := by decide +kernel
theorem d_16_10_40 : decode prog_16_method_10_code 40 = .ok (.bipush 64, 2) := by decide +kernel
theorem d_16_10_42 : decode prog_16_method_10_code 42 = .ok (.iload_n 1, 1) := by decide +kernel
theorem d_16_10_43 : decode prog_16_method_10_code 43 = .ok (.isub, 1) := by decide +kernel
theorem d_16_10_44 : decode prog_16_method_10_code 44 = .ok (.lshr, 1) := by decide +kernel
theorem d_16_10_45 : decode prog_16_method_10_code 45 = .ok (.invokevirtual 53, 3) := by decide +kernel
theorem d_16_10_48 : decode prog_16_method_10_code 48 = .ok (.ireturn, 1) := by decide +kernel
def y_VR_whole : MethodName := ⟨"NumberHouseModel$DirectiveRows", "whole", "(IJ)I"⟩
set_option maxRecDepth 100000 in
set_option maxHeartbeats 4000000 in
theorem c_VR_whole (l : Launch) (D : va_G) (g : Nat → ClassId) (ws : va_W) (kO0 kA2 kA3 kA4 qO0 qA1 qA2 qA3 qA4 qA5 qA6 qA7 qA8 qA9 : Nat) (hO0 : ws[kO0]? = (some (qO0, .inr (17, [.int 0, .ref qA1, .int 0, .int 0, .ref qA2, .ref qA3, .ref qA4, .ref qA5, .ref qA6, .int 0, .ref qA7, .int 0, .int 0, .int (-1), .int 0, .int 0, .int 0, .int 0, .int 0, .int 0, .int 0, .int 0, .int 0, .int 0, .ref qA8, .int 0, .int 0, .int 0, .ref qA9, .int 0, .int 0])) : Option (Nat × va_E))) (hA2 : ws[kA2]? = (some (qA2, .inl (g 0, 9, .inl (fun _ => 0))) : Option (Nat × va_E))) (hA3 : ws[kA3]? = (some (qA3, .inl (g 0, 9, .inl (fun _ => 0))) : Option (Nat × va_E))) (hA4 : ws[kA4]? = (some (qA4, .inl (g 1, 9, .inr (.inl (fun _ => 0)))) : Option (Nat × va_E))) (n_A2_A3 : kA2 ≠ kA3) (n_A2_A4 : kA2 ≠ kA4) (n_A3_A4 : kA3 ≠ kA4) : q_mI l y_VR_whole prog_16_method_10_code 4 (.int) 2 0 0 D g [.ref qO0, .int 64, .long 0] ws (fun r u => 1 = r ∧ q_un ws u [kO0, kA2, kA3, kA4] ∧ u[kO0]? = (some (qO0, .inr (17, [.int 0, .ref qA1, .int 0, .int 1, .ref qA2, .ref qA3, .ref qA4, .ref qA5, .ref qA6, .int 0, .ref qA7, .int 0, .int 0, .int (-1), .int 0, .int 0, .int 0, .int 0, .int 0, .int 0, .int 0, .int 0, .int 0, .int 0, .ref qA8, .int 0, .int 0, .int 0, .ref qA9, .int 0, .int 0])) : Option (Nat × va_E)) ∧ u[kA2]? = (some (qA2, .inl (g 0, 9, .inl (upd (fun _ => 0) 0 3))) : Option (Nat × va_E)) ∧ u[kA3]? = (some (qA3, .inl (g 0, 9, .inl (upd (fun _ => 0) 0 64))) : Option (Nat × va_E)) ∧ u[kA4]? = (some (qA4, .inl (g 1, 9, .inr (.inl (fun _ => 0)))) : Option (Nat × va_E))) := by
  intro sz
  refine q_into (by decide) (Nat.le_of_ble_eq_true rfl) ?_
  intro p e s m below meth c ls hsz C0 V hl
  have hx := C0.1
  have hb := C0.2.1
  have hl : lv_has ls 4 [(0, .ref qO0), (1, .int 64), (2, .long 0)] := hl
  have hF : q_un ws ws [kO0, kA2, kA3, kA4] := q_u0
  refine lv_iload_n hx hb d_16_10_0 rfl (lv_at hl 1 rfl) ?_
  refine lv_bipush (v := 8) hx hb d_16_10_1 (by decide) ?_
  refine lv_icmp_eq (tgt := 31) hx hb d_16_10_3 (by decide) (fun c1 => absurd c1 (by decide)) (fun c1 => ?_)
  refine lv_iload_n hx hb d_16_10_6 rfl (lv_at hl 1 rfl) ?_
  refine lv_bipush (v := 16) hx hb d_16_10_7 (by decide) ?_
  refine lv_icmp_eq (tgt := 31) hx hb d_16_10_9 (by decide) (fun c2 => absurd c2 (by decide)) (fun c2 => ?_)
  refine lv_iload_n hx hb d_16_10_12 rfl (lv_at hl 1 rfl) ?_
  refine lv_bipush (v := 32) hx hb d_16_10_13 (by decide) ?_
  refine lv_icmp_eq (tgt := 31) hx hb d_16_10_15 (by decide) (fun c3 => absurd c3 (by decide)) (fun c3 => ?_)
  refine lv_iload_n hx hb d_16_10_18 rfl (lv_at hl 1 rfl) ?_
  refine lv_bipush (v := 64) hx hb d_16_10_19 (by decide) ?_
  refine lv_icmp_eq (tgt := 31) hx hb d_16_10_21 (by decide) (fun c4 => ?_) (fun c4 => absurd (by decide) c4)
  refine lv_aload_n hx hb d_16_10_31 rfl (lv_at hl 0 rfl) ?_
  refine lv_iconst (v := 3) hx hb d_16_10_32 (by decide) ?_
  refine lv_iload_n hx hb d_16_10_33 rfl (lv_at hl 1 rfl) ?_
  refine lv_lload_n hx hb d_16_10_34 rfl (lv_at hl 2 rfl) ?_
  refine lv_bipush (v := 64) hx hb d_16_10_35 (by decide) ?_
  refine lv_iload_n hx hb d_16_10_37 rfl (lv_at hl 1 rfl) ?_
  refine lv_isub hx hb d_16_10_38 ?_
  refine q_ti (v := 0) (by decide) ?_
  refine lv_lshl hx hb d_16_10_39 rfl ?_
  refine q_tl (v := 0) (by decide) ?_
  refine lv_bipush (v := 64) hx hb d_16_10_40 (by decide) ?_
  refine lv_iload_n hx hb d_16_10_42 rfl (lv_at hl 1 rfl) ?_
  refine lv_isub hx hb d_16_10_43 ?_
  refine q_ti (v := 0) (by decide) ?_
  refine lv_lshr hx hb d_16_10_44 rfl ?_
  refine q_tl (v := 0) (by decide) ?_
  refine q_goi V (q_runV (As := [.int 3, .int 64, .long 0]) (rest := []) (d := 1) (mc := 0) (ms := 0) (ci := 17) C0 V rfl LV_VR_53 (c_VR_enter_6 l D g ws kO0 kA2 kA3 kA4 qO0 qA1 qA2 qA3 qA4 qA5 qA6 qA7 qA8 qA9 hO0 hA2 hA3 hA4 n_A2_A3 n_A2_A4 n_A3_A4 _) rfl rfl hO0 rfl hl.1 rfl (Nat.le_of_ble_eq_true rfl) ⟨by decide, by decide⟩ ⟨Nat.le_of_ble_eq_true rfl, Nat.le_of_ble_eq_true rfl⟩ d_16_10_45) (fun v7 u6 H locs hp5 V => ?_)
  obtain ⟨rfl, hg8, hO0, hA2, hA3, hA4⟩ := hp5
  replace hF := q_uc hF hg8 (q_sc (.head _) (q_sc (.tail _ (.head _)) (q_sc (.tail _ (.tail _ (.head _))) (q_sc (List.mem_of_getElem? (i := 3) rfl) (fun _ h => absurd h List.not_mem_nil)))))
  exact q_reti C0 V (⟨rfl, hF, hO0, hA2, hA3, hA4⟩) d_16_10_48
theorem d_14_36_0 : decode prog_14_method_36_code 0 = .ok (.iload_n 1, 1) := by decide +kernel
theorem d_14_36_1 : decode prog_14_method_36_code 1 = .ok (.ifCond .ne 58, 3) := by decide +kernel
theorem d_14_36_4 : decode prog_14_method_36_code 4 = .ok (.aload_n 0, 1) := by decide +kernel
theorem d_14_36_5 : decode prog_14_method_36_code 5 = .ok (.aload_n 0, 1) := by decide +kernel
theorem d_14_36_6 : decode prog_14_method_36_code 6 = .ok (.getfield 19, 3) := by decide +kernel
theorem d_14_36_9 : decode prog_14_method_36_code 9 = .ok (.iload_n 2, 1) := by decide +kernel
theorem d_14_36_10 : decode prog_14_method_36_code 10 = .ok (.iconst 2, 1) := by decide +kernel
theorem d_14_36_11 : decode prog_14_method_36_code 11 = .ok (.invokevirtual 131, 3) := by decide +kernel
theorem d_14_36_14 : decode prog_14_method_36_code 14 = .ok (.ldc2_w 297, 3) := by decide +kernel
theorem w_3073 : (Cond.constantLong "NumberHouseModel" (297 : Nat) (63 : Int64)) ∈ q_tbl := q_of 3073 (by decide +kernel) (by decide +kernel)
theorem d_14_36_17 : decode prog_14_method_36_code 17 = .ok (.lcmp, 1) := by decide +kernel
theorem d_14_36_18 : decode prog_14_method_36_code 18 = .ok (.ifCond .le 7, 3) := by decide +kernel
theorem d_14_36_25 : decode prog_14_method_36_code 25 = .ok (.iconst 0, 1) := by decide +kernel
theorem d_14_36_26 : decode prog_14_method_36_code 26 = .ok (.putfield 58, 3) := by decide +kernel
theorem d_14_36_29 : decode prog_14_method_36_code 29 = .ok (.aload_n 0, 1) := by decide +kernel
theorem d_14_36_30 : decode prog_14_method_36_code 30 = .ok (.getfield 58, 3) := by decide +kernel
theorem d_14_36_33 : decode prog_14_method_36_code 33 = .ok (.ifCond .le 7, 3) := by decide +kernel
theorem d_14_36_40 : decode prog_14_method_36_code 40 = .ok (.aload_n 0, 1) := by decide +kernel
theorem d_14_36_41 : decode prog_14_method_36_code 41 = .ok (.getfield 47, 3) := by decide +kernel
theorem d_14_36_44 : decode prog_14_method_36_code 44 = .ok (.bipush 64, 2) := by decide +kernel
theorem d_14_36_46 : decode prog_14_method_36_code 46 = .ok (.aload_n 0, 1) := by decide +kernel
theorem d_14_36_47 : decode prog_14_method_36_code 47 = .ok (.getfield 19, 3) := by decide +kernel
theorem d_14_36_50 : decode prog_14_method_36_code 50 = .ok (.iload_n 2, 1) := by decide +kernel
theorem d_14_36_51 : decode prog_14_method_36_code 51 = .ok (.iconst 0, 1) := by decide +kernel
theorem d_14_36_52 : decode prog_14_method_36_code 52 = .ok (.invokevirtual 131, 3) := by decide +kernel
theorem d_14_36_55 : decode prog_14_method_36_code 55 = .ok (.invokevirtual 299, 3) := by decide +kernel
theorem w_3077 : (Cond.code ({ cls := "NumberHouseModel$DirectiveRows", name := "whole", desc := "(IJ)I" } : MethodName) prog_16_method_10_code (4 : Nat) (some .int)) ∈ q_tbl := q_of 3077 (by decide +kernel) (by decide +kernel)
theorem w_3074 : (Cond.methodLink "NumberHouseModel" (299 : Nat) ({ cls := "NumberHouseModel$DirectiveRows", name := "whole", desc := "(IJ)I" } : MethodName)) ∈ q_tbl := q_of 3074 (by decide +kernel) (by decide +kernel)
theorem w_3075 : (Cond.instanceMethod ({ cls := "NumberHouseModel$DirectiveRows", name := "whole", desc := "(IJ)I" } : MethodName)) ∈ q_tbl := q_of 3075 (by decide +kernel) (by decide +kernel)
theorem w_3076 : (Cond.selects "NumberHouseModel$DirectiveRows" ({ cls := "NumberHouseModel$DirectiveRows", name := "whole", desc := "(IJ)I" } : MethodName) ({ cls := "NumberHouseModel$DirectiveRows", name := "whole", desc := "(IJ)I" } : MethodName)) ∈ q_tbl := q_of 3076 (by decide +kernel) (by decide +kernel)
theorem LV_NM_299 : q_LV "NumberHouseModel" 299 y_VR_whole prog_16_method_10_code 4 (some .int) 2 := ⟨w_3077, w_19, w_3074, w_3075, w_3076, ⟨by decide, by decide, by decide +kernel⟩⟩
theorem d_14_36_58 : decode prog_14_method_36_code 58 = .ok (.ireturn, 1) := by decide +kernel
def y_NM_numeral : MethodName := ⟨"NumberHouseModel", "numeral", "(II)I"⟩
set_option maxRecDepth 100000 in
set_option maxHeartbeats 4000000 in
theorem c_NM_numeral (l : Launch) (D : va_G) (g : Nat → ClassId) (ws : va_W) ( qO0 qA1 qA2 qO3 qO4 qO5 qO6 qO7 qA8 qA9 qA10 qA11 qA12 qA13 qA14 qA15 qA16 qA17 qA18 qA19 qA20 qA21 qA22 qA23 qA44 qA45 qA46 qA47 qA48 qA49 qA50 qA51 qA52 : Nat) (x1 : Int32) (hO0 : ws[116]? = (some (qO0, .inr (12, [.int 0, .ref qA1, .int 0, .ref qA2, .int 0, .ref qO3, .ref qO4, .ref qO5, .ref qO6, .ref qO7, .ref qA8, .ref qA9])) : Option (Nat × va_E))) (hO3 : ws[119]? = (some (qO3, .inr (13, [.int 0, .int 0, .ref qA10, .int 0, .ref qA11, .ref qA12, .ref qA13, .int 0, .ref qA14, .ref qA15, .ref qA16, .ref qA17, .ref qA18, .ref qA19, .ref qA20, .ref qA21, .int 0, .int 0, .ref qA22, .ref qA23, .int 0])) : Option (Nat × va_E))) (hO7 : ws[157]? = (some (qO7, .inr (17, [.int 0, .ref qA44, .int 0, .int 0, .ref qA45, .ref qA46, .ref qA47, .ref qA48, .ref qA49, .int 0, .ref qA50, .int 0, .int 0, .int (-1), .int 0, .int 0, .int 0, .int 0, .int 0, .int 0, .int 0, .int 0, .int 0, .int 0, .ref qA51, .int 0, .int 0, .int 0, .ref qA52, .int 0, .int 0])) : Option (Nat × va_E))) (hA11 : ws[121]? = (some (qA11, .inl (g 0, 1408, .inl (fun _ => 0))) : Option (Nat × va_E))) (hA12 : ws[122]? = (some (qA12, .inl (g 3, 11, .inl (fun _ => 0))) : Option (Nat × va_E))) (hA45 : ws[159]? = (some (qA45, .inl (g 0, 9, .inl (fun _ => 0))) : Option (Nat × va_E))) (hA46 : ws[160]? = (some (qA46, .inl (g 0, 9, .inl (fun _ => 0))) : Option (Nat × va_E))) (hA47 : ws[161]? = (some (qA47, .inl (g 1, 9, .inr (.inl (fun _ => 0)))) : Option (Nat × va_E))) (x1lo : 0 ≤ x1) (x1hi : x1 ≤ 9) : q_mI l y_NM_numeral prog_14_method_36_code 4 (.int) 3 0 0 D g [.ref qO0, .int 0, .int x1] ws (fun r u => 1 = r ∧ q_un ws u [116, 119, 157, 159, 160, 161] ∧ u[116]? = (some (qO0, .inr (12, [.int 0, .ref qA1, .int 0, .ref qA2, .int 0, .ref qO3, .ref qO4, .ref qO5, .ref qO6, .ref qO7, .ref qA8, .ref qA9])) : Option (Nat × va_E)) ∧ u[119]? = (some (qO3, .inr (13, [.int 0, .int 0, .ref qA10, .int 0, .ref qA11, .ref qA12, .ref qA13, .int 0, .ref qA14, .ref qA15, .ref qA16, .ref qA17, .ref qA18, .ref qA19, .ref qA20, .ref qA21, .int 0, .int 0, .ref qA22, .ref qA23, .int 0])) : Option (Nat × va_E)) ∧ u[157]? = (some (qO7, .inr (17, [.int 0, .ref qA44, .int 0, .int 1, .ref qA45, .ref qA46, .ref qA47, .ref qA48, .ref qA49, .int 0, .ref qA50, .int 0, .int 0, .int (-1), .int 0, .int 0, .int 0, .int 0, .int 0, .int 0, .int 0, .int 0, .int 0, .int 0, .ref qA51, .int 0, .int 0, .int 0, .ref qA52, .int 0, .int 0])) : Option (Nat × va_E)) ∧ u[159]? = (some (qA45, .inl (g 0, 9, .inl (upd (fun _ => 0) 0 3))) : Option (Nat × va_E)) ∧ u[160]? = (some (qA46, .inl (g 0, 9, .inl (upd (fun _ => 0) 0 64))) : Option (Nat × va_E)) ∧ u[161]? = (some (qA47, .inl (g 1, 9, .inr (.inl (fun _ => 0)))) : Option (Nat × va_E))) := by
  intro sz
  refine q_into (by decide) (Nat.le_of_ble_eq_true rfl) ?_
  intro p e s m below meth c ls hsz C0 V hl
  have hx := C0.1
  have hb := C0.2.1
  have hl : lv_has ls 4 [(0, .ref qO0), (1, .int 0), (2, .int x1)] := hl
  have hF : q_un ws ws [116, 119, 157, 159, 160, 161] := q_u0
  refine lv_iload_n hx hb d_14_36_0 rfl (lv_at hl 1 rfl) ?_
  refine lv_if_ne (tgt := 59) hx hb d_14_36_1 (by decide) (fun c1 => absurd (by decide) c1) (fun c1 => ?_)
  refine lv_aload_n hx hb d_14_36_4 rfl (lv_at hl 0 rfl) ?_
  refine lv_aload_n hx hb d_14_36_5 rfl (lv_at hl 0 rfl) ?_
  refine q_get (ci := 12) (j := 5) (v := .ref qO3) C0 V i_NM rfl rfl hO0 (by decide) w_2303 rfl d_14_36_6 ?_
  refine lv_iload_n hx hb d_14_36_9 rfl (lv_at hl 2 rfl) ?_
  refine lv_iconst (v := 2) hx hb d_14_36_10 (by decide) ?_
  refine q_gol V (q_runV (As := [.int x1, .int 2]) (rest := [.ref qO0]) (d := 2) (mc := 0) (ms := 0) (ci := 13) C0 V rfl LV_NM_131 (c_WR_told l D g ws 119 121 122 qO3 qA10 qA11 qA12 qA13 qA14 qA15 qA16 qA17 qA18 qA19 qA20 qA21 qA22 qA23 x1 2 hO3 hA11 hA12 x1lo x1hi _) rfl rfl hO3 rfl hl.1 rfl (Nat.le_of_ble_eq_true rfl) ⟨by decide, by decide⟩ ⟨Nat.le_of_ble_eq_true rfl, Nat.le_of_ble_eq_true rfl⟩ d_14_36_11) (fun v4 u3 H locs hp2 V => ?_)
  rcases hp2 with ⟨c5, rfl, hg6, hO3⟩ | ⟨c7, c8, c9, c10, c11, c12, rfl, hg13, hO3⟩ | ⟨c14, c15, c16, c17, c18, c19, rfl, hg20, hO3⟩ | ⟨c21, c22, c23, c24, c25, rfl, hg26, hO3⟩ | ⟨c27, c28, c29, c30, rfl, hg31, hO3⟩ | ⟨c32, c33, c34, rfl, hg35, hO3⟩ | ⟨c36, c37, rfl, hg38, hO3⟩
  ·
    exact absurd c5 (by decide)
  ·
    exact absurd c11 (by decide)
  ·
    exact absurd c18 (by decide)
  ·
    replace hF := q_uc hF hg26 (q_sc (.tail _ (.head _)) (fun _ h => absurd h List.not_mem_nil))
    refine q_ldc2 C0 rfl w_3073 d_14_36_14 ?_
    refine W.lcmp hx hb d_14_36_17 ?_
    refine q_ti (v := (-1)) (by decide) ?_
    refine lv_if_le (tgt := 25) hx hb d_14_36_18 (by decide) (fun c39 => ?_) (fun c39 => absurd (by decide) c39)
    refine lv_iconst (v := 0) hx hb d_14_36_25 (by decide) ?_
    replace hO0 := (hg26 _ (q_nc (q_pd 116 119 rfl) List.not_mem_nil)).trans (hO0)
    refine q_put (ci := 12) (j := 0) (v := .int 0) (ty := .int) C0 V i_NM o_NM n_NM rfl rfl hO0 (by decide) w_2298 rfl rfl rfl rfl (Nat.le_of_ble_eq_true rfl) d_14_36_26 (fun H locs w40 hu41 hO0 V => ?_)
    replace hO0 : w40[116]? = (some (qO0, .inr (12, [.int 0, .ref qA1, .int 0, .ref qA2, .int 0, .ref qO3, .ref qO4, .ref qO5, .ref qO6, .ref qO7, .ref qA8, .ref qA9])) : Option (Nat × va_E)) := hO0
    replace hF := q_us hF hu41 (.head _)
    refine lv_aload_n hx hb d_14_36_29 rfl (lv_at hl 0 rfl) ?_
    refine q_get (ci := 12) (j := 0) (v := .int 0) C0 V i_NM rfl rfl hO0 (by decide) w_2298 rfl d_14_36_30 ?_
    refine lv_if_le (tgt := 40) hx hb d_14_36_33 (by decide) (fun c42 => ?_) (fun c42 => absurd (by decide) c42)
    refine lv_aload_n hx hb d_14_36_40 rfl (lv_at hl 0 rfl) ?_
    refine q_get (ci := 12) (j := 9) (v := .ref qO7) C0 V i_NM rfl rfl hO0 (by decide) w_2307 rfl d_14_36_41 ?_
    refine lv_bipush (v := 64) hx hb d_14_36_44 (by decide) ?_
    refine lv_aload_n hx hb d_14_36_46 rfl (lv_at hl 0 rfl) ?_
    refine q_get (ci := 12) (j := 5) (v := .ref qO3) C0 V i_NM rfl rfl hO0 (by decide) w_2303 rfl d_14_36_47 ?_
    refine lv_iload_n hx hb d_14_36_50 rfl (lv_at hl 2 rfl) ?_
    refine lv_iconst (v := 0) hx hb d_14_36_51 (by decide) ?_
    replace hO3 := (hu41 _ (q_pd 119 116 rfl)).trans (hO3)
    replace hA11 := (hu41 _ (q_pd 121 116 rfl)).trans ((hg26 _ (q_nc (q_pd 121 119 rfl) List.not_mem_nil)).trans (hA11))
    replace hA12 := (hu41 _ (q_pd 122 116 rfl)).trans ((hg26 _ (q_nc (q_pd 122 119 rfl) List.not_mem_nil)).trans (hA12))
    refine q_gol V (q_runV (As := [.int x1, .int 0]) (rest := [.int 64, .ref qO7]) (d := 2) (mc := 0) (ms := 0) (ci := 13) C0 V rfl LV_NM_131 (c_WR_told l D g w40 119 121 122 qO3 qA10 qA11 qA12 qA13 qA14 qA15 qA16 qA17 qA18 qA19 qA20 qA21 qA22 qA23 x1 0 hO3 hA11 hA12 x1lo x1hi _) rfl rfl hO3 rfl hl.1 rfl (Nat.le_of_ble_eq_true rfl) ⟨by decide, by decide⟩ ⟨Nat.le_of_ble_eq_true rfl, Nat.le_of_ble_eq_true rfl⟩ d_14_36_52) (fun v45 u44 H locs hp43 V => ?_)
    rcases hp43 with ⟨c46, rfl, hg47, hO3⟩ | ⟨c48, c49, c50, c51, c52, c53, rfl, hg54, hO3⟩ | ⟨c55, c56, c57, c58, c59, c60, rfl, hg61, hO3⟩ | ⟨c62, c63, c64, c65, c66, rfl, hg67, hO3⟩ | ⟨c68, c69, c70, c71, rfl, hg72, hO3⟩ | ⟨c73, c74, c75, rfl, hg76, hO3⟩ | ⟨c77, c78, rfl, hg79, hO3⟩
    ·
      exact absurd c46 (by decide)
    ·
      exact absurd c50 (by decide)
    ·
      exact absurd c57 (by decide)
    ·
      exact absurd c64 (by decide)
    ·
      exact absurd c70 (by decide)
    ·
      replace hF := q_uc hF hg76 (q_sc (.tail _ (.head _)) (fun _ h => absurd h List.not_mem_nil))
      replace hO7 := (hg76 _ (q_nc (q_pd 157 119 rfl) List.not_mem_nil)).trans ((hu41 _ (q_pd 157 116 rfl)).trans ((hg26 _ (q_nc (q_pd 157 119 rfl) List.not_mem_nil)).trans (hO7)))
      replace hA45 := (hg76 _ (q_nc (q_pd 159 119 rfl) List.not_mem_nil)).trans ((hu41 _ (q_pd 159 116 rfl)).trans ((hg26 _ (q_nc (q_pd 159 119 rfl) List.not_mem_nil)).trans (hA45)))
      replace hA46 := (hg76 _ (q_nc (q_pd 160 119 rfl) List.not_mem_nil)).trans ((hu41 _ (q_pd 160 116 rfl)).trans ((hg26 _ (q_nc (q_pd 160 119 rfl) List.not_mem_nil)).trans (hA46)))
      replace hA47 := (hg76 _ (q_nc (q_pd 161 119 rfl) List.not_mem_nil)).trans ((hu41 _ (q_pd 161 116 rfl)).trans ((hg26 _ (q_nc (q_pd 161 119 rfl) List.not_mem_nil)).trans (hA47)))
      refine q_goi V (q_runV (As := [.int 64, .long 0]) (rest := []) (d := 2) (mc := 0) (ms := 0) (ci := 17) C0 V rfl LV_NM_299 (c_VR_whole l D g u44 157 159 160 161 qO7 qA44 qA45 qA46 qA47 qA48 qA49 qA50 qA51 qA52 hO7 hA45 hA46 hA47 (q_pd 159 160 rfl) (q_pd 159 161 rfl) (q_pd 160 161 rfl) _) rfl rfl hO7 rfl hl.1 rfl (Nat.le_of_ble_eq_true rfl) ⟨by decide, by decide⟩ ⟨Nat.le_of_ble_eq_true rfl, Nat.le_of_ble_eq_true rfl⟩ d_14_36_55) (fun v82 u81 H locs hp80 V => ?_)
      obtain ⟨rfl, hg83, hO7, hA45, hA46, hA47⟩ := hp80
      replace hF := q_uc hF hg83 (q_sc (.tail _ (.tail _ (.head _))) (q_sc (List.mem_of_getElem? (i := 3) rfl) (q_sc (List.mem_of_getElem? (i := 4) rfl) (q_sc (List.mem_of_getElem? (i := 5) rfl) (fun _ h => absurd h List.not_mem_nil)))))
      replace hO0 := (hg83 _ (q_nc (q_pd 116 157 rfl) (q_nc (q_pd 116 159 rfl) (q_nc (q_pd 116 160 rfl) (q_nc (q_pd 116 161 rfl) List.not_mem_nil))))).trans ((hg76 _ (q_nc (q_pd 116 119 rfl) List.not_mem_nil)).trans (hO0))
      replace hO3 := (hg83 _ (q_nc (q_pd 119 157 rfl) (q_nc (q_pd 119 159 rfl) (q_nc (q_pd 119 160 rfl) (q_nc (q_pd 119 161 rfl) List.not_mem_nil))))).trans (hO3)
      exact q_reti C0 V (⟨rfl, hF, hO0, hO3, hO7, hA45, hA46, hA47⟩) d_14_36_58
    ·
      exact absurd c78 (by decide)
  ·
    exact absurd c30 (by decide)
  ·
    exact absurd c34 (by decide)
  ·
    exact absurd c37 (by decide)
theorem d_14_35_0 : decode prog_14_method_35_code 0 = .ok (.lconst 0, 1) := by decide +kernel
theorem d_14_35_1 : decode prog_14_method_35_code 1 = .ok (.lstore_n 3, 1) := by decide +kernel
theorem d_14_35_2 : decode prog_14_method_35_code 2 = .ok (.aload_n 0, 1) := by decide +kernel
theorem d_14_35_3 : decode prog_14_method_35_code 3 = .ok (.getfield 26, 3) := by decide +kernel
theorem d_14_35_6 : decode prog_14_method_35_code 6 = .ok (.getfield 283, 3) := by decide +kernel
theorem wo_2005 : (Cond.fieldLinkNest "NumberHouseModel" (283 : Nat) "NumberHouseModel$DecimalRows" "many" "[I" "NumberHouseModel") ∈ q_odd := q_oo 2005 (by decide +kernel) (by decide +kernel)
theorem d_14_35_9 : decode prog_14_method_35_code 9 = .ok (.iload_n 1, 1) := by decide +kernel
theorem d_14_35_10 : decode prog_14_method_35_code 10 = .ok (.iaload, 1) := by decide +kernel
theorem d_14_35_11 : decode prog_14_method_35_code 11 = .ok (.bipush 19, 2) := by decide +kernel
theorem d_14_35_13 : decode prog_14_method_35_code 13 = .ok (.if_icmp .gt 7, 3) := by decide +kernel
theorem d_14_35_16 : decode prog_14_method_35_code 16 = .ok (.iconst 1, 1) := by decide +kernel
theorem d_14_35_17 : decode prog_14_method_35_code 17 = .ok (.goto 4, 3) := by decide +kernel
theorem d_14_35_21 : decode prog_14_method_35_code 21 = .ok (.istore 5, 2) := by decide +kernel
theorem d_14_35_23 : decode prog_14_method_35_code 23 = .ok (.iconst 0, 1) := by decide +kernel
theorem d_14_35_24 : decode prog_14_method_35_code 24 = .ok (.istore 6, 2) := by decide +kernel
theorem d_14_35_26 : decode prog_14_method_35_code 26 = .ok (.iload 6, 2) := by decide +kernel
theorem d_14_35_28 : decode prog_14_method_35_code 28 = .ok (.aload_n 0, 1) := by decide +kernel
theorem d_14_35_29 : decode prog_14_method_35_code 29 = .ok (.getfield 26, 3) := by decide +kernel
theorem d_14_35_32 : decode prog_14_method_35_code 32 = .ok (.getfield 283, 3) := by decide +kernel
theorem d_14_35_35 : decode prog_14_method_35_code 35 = .ok (.iload_n 1, 1) := by decide +kernel
theorem d_14_35_36 : decode prog_14_method_35_code 36 = .ok (.iaload, 1) := by decide +kernel
theorem d_14_35_37 : decode prog_14_method_35_code 37 = .ok (.if_icmp .ge 72, 3) := by decide +kernel
theorem d_14_35_40 : decode prog_14_method_35_code 40 = .ok (.iload 5, 2) := by decide +kernel
theorem d_14_35_42 : decode prog_14_method_35_code 42 = .ok (.ifCond .eq 67, 3) := by decide +kernel
theorem d_14_35_45 : decode prog_14_method_35_code 45 = .ok (.aload_n 0, 1) := by decide +kernel
theorem d_14_35_46 : decode prog_14_method_35_code 46 = .ok (.getfield 26, 3) := by decide +kernel
theorem d_14_35_49 : decode prog_14_method_35_code 49 = .ok (.getfield 286, 3) := by decide +kernel
theorem wo_2003 : (Cond.fieldLinkNest "NumberHouseModel" (286 : Nat) "NumberHouseModel$DecimalRows" "kept" "[I" "NumberHouseModel") ∈ q_odd := q_oo 2003 (by decide +kernel) (by decide +kernel)
theorem d_14_35_52 : decode prog_14_method_35_code 52 = .ok (.sipush 1000, 3) := by decide +kernel
theorem d_14_35_55 : decode prog_14_method_35_code 55 = .ok (.iload_n 1, 1) := by decide +kernel
theorem d_14_35_56 : decode prog_14_method_35_code 56 = .ok (.imul, 1) := by decide +kernel
theorem d_14_35_57 : decode prog_14_method_35_code 57 = .ok (.iload 6, 2) := by decide +kernel
theorem d_14_35_59 : decode prog_14_method_35_code 59 = .ok (.iadd, 1) := by decide +kernel
theorem d_14_35_60 : decode prog_14_method_35_code 60 = .ok (.iaload, 1) := by decide +kernel
theorem d_14_35_61 : decode prog_14_method_35_code 61 = .ok (.istore 7, 2) := by decide +kernel
theorem d_14_35_63 : decode prog_14_method_35_code 63 = .ok (.lload_n 3, 1) := by decide +kernel
theorem d_14_35_64 : decode prog_14_method_35_code 64 = .ok (.ldc2_w 289, 3) := by decide +kernel
theorem w_3086 : (Cond.constantLong "NumberHouseModel" (289 : Nat) (-922337203685477580 : Int64)) ∈ q_tbl := q_of 3086 (by decide +kernel) (by decide +kernel)
theorem d_14_35_67 : decode prog_14_method_35_code 67 = .ok (.lcmp, 1) := by decide +kernel
theorem d_14_35_68 : decode prog_14_method_35_code 68 = .ok (.ifCond .gt 18, 3) := by decide +kernel
theorem d_14_35_86 : decode prog_14_method_35_code 86 = .ok (.iconst 1, 1) := by decide +kernel
theorem d_14_35_87 : decode prog_14_method_35_code 87 = .ok (.goto 4, 3) := by decide +kernel
theorem d_14_35_91 : decode prog_14_method_35_code 91 = .ok (.istore 5, 2) := by decide +kernel
theorem d_14_35_93 : decode prog_14_method_35_code 93 = .ok (.ldc2_w 291, 3) := by decide +kernel
theorem w_3087 : (Cond.constantLong "NumberHouseModel" (291 : Nat) (10 : Int64)) ∈ q_tbl := q_of 3087 (by decide +kernel) (by decide +kernel)
theorem d_14_35_96 : decode prog_14_method_35_code 96 = .ok (.lload_n 3, 1) := by decide +kernel
theorem d_14_35_97 : decode prog_14_method_35_code 97 = .ok (.lmul, 1) := by decide +kernel
theorem d_14_35_98 : decode prog_14_method_35_code 98 = .ok (.iload 7, 2) := by decide +kernel
theorem d_14_35_100 : decode prog_14_method_35_code 100 = .ok (.i2l, 1) := by decide +kernel
theorem d_14_35_101 : decode prog_14_method_35_code 101 = .ok (.lsub, 1) := by decide +kernel
theorem d_14_35_102 : decode prog_14_method_35_code 102 = .ok (.lstore_n 3, 1) := by decide +kernel
theorem d_14_35_103 : decode prog_14_method_35_code 103 = .ok (.iinc 6 1, 3) := by decide +kernel
theorem d_14_35_106 : decode prog_14_method_35_code 106 = .ok (.goto (-80), 3) := by decide +kernel
theorem d_14_35_109 : decode prog_14_method_35_code 109 = .ok (.iload 5, 2) := by decide +kernel
theorem d_14_35_111 : decode prog_14_method_35_code 111 = .ok (.ifCond .eq 27, 3) := by decide +kernel
theorem d_14_35_114 : decode prog_14_method_35_code 114 = .ok (.aload_n 0, 1) := by decide +kernel
theorem d_14_35_115 : decode prog_14_method_35_code 115 = .ok (.getfield 26, 3) := by decide +kernel
theorem d_14_35_118 : decode prog_14_method_35_code 118 = .ok (.getfield 293, 3) := by decide +kernel
theorem wo_2007 : (Cond.fieldLinkNest "NumberHouseModel" (293 : Nat) "NumberHouseModel$DecimalRows" "minus" "[Z" "NumberHouseModel") ∈ q_odd := q_oo 2007 (by decide +kernel) (by decide +kernel)
theorem d_14_35_121 : decode prog_14_method_35_code 121 = .ok (.iload_n 1, 1) := by decide +kernel
theorem d_14_35_122 : decode prog_14_method_35_code 122 = .ok (.baload, 1) := by decide +kernel
theorem d_14_35_123 : decode prog_14_method_35_code 123 = .ok (.ifCond .ne 11, 3) := by decide +kernel
theorem d_14_35_126 : decode prog_14_method_35_code 126 = .ok (.lload_n 3, 1) := by decide +kernel
theorem d_14_35_127 : decode prog_14_method_35_code 127 = .ok (.ldc2_w 153, 3) := by decide +kernel
theorem d_14_35_130 : decode prog_14_method_35_code 130 = .ok (.lcmp, 1) := by decide +kernel
theorem d_14_35_131 : decode prog_14_method_35_code 131 = .ok (.ifCond .eq 7, 3) := by decide +kernel
theorem d_14_35_134 : decode prog_14_method_35_code 134 = .ok (.iconst 1, 1) := by decide +kernel
theorem d_14_35_135 : decode prog_14_method_35_code 135 = .ok (.goto 4, 3) := by decide +kernel
theorem d_14_35_139 : decode prog_14_method_35_code 139 = .ok (.istore 5, 2) := by decide +kernel
theorem d_14_35_141 : decode prog_14_method_35_code 141 = .ok (.aload_n 2, 1) := by decide +kernel
theorem d_14_35_142 : decode prog_14_method_35_code 142 = .ok (.iconst 0, 1) := by decide +kernel
theorem d_14_35_143 : decode prog_14_method_35_code 143 = .ok (.aload_n 0, 1) := by decide +kernel
theorem d_14_35_144 : decode prog_14_method_35_code 144 = .ok (.getfield 26, 3) := by decide +kernel
theorem d_14_35_147 : decode prog_14_method_35_code 147 = .ok (.getfield 293, 3) := by decide +kernel
theorem d_14_35_150 : decode prog_14_method_35_code 150 = .ok (.iload_n 1, 1) := by decide +kernel
theorem d_14_35_151 : decode prog_14_method_35_code 151 = .ok (.baload, 1) := by decide +kernel
theorem d_14_35_152 : decode prog_14_method_35_code 152 = .ok (.ifCond .eq 7, 3) := by decide +kernel
theorem d_14_35_159 : decode prog_14_method_35_code 159 = .ok (.lload_n 3, 1) := by decide +kernel
theorem d_14_35_160 : decode prog_14_method_35_code 160 = .ok (.lneg, 1) := by decide +kernel
theorem d_14_35_161 : decode prog_14_method_35_code 161 = .ok (.lastore, 1) := by decide +kernel
theorem d_14_35_162 : decode prog_14_method_35_code 162 = .ok (.iload 5, 2) := by decide +kernel
theorem d_14_35_164 : decode prog_14_method_35_code 164 = .ok (.ireturn, 1) := by decide +kernel
def y_NM_isLong : MethodName := ⟨"NumberHouseModel", "isLong", "(I[J)Z"⟩
set_option maxRecDepth 100000 in
set_option maxHeartbeats 4000000 in
theorem c_NM_isLong (l : Launch) (D : va_G) (g : Nat → ClassId) (ws : va_W) ( qO0 qA1 qA2 qA3 qO4 qO5 qO6 qO7 qO8 qA9 qA24 qA25 qA26 qA27 qA28 qA29 qA30 qA31 qA32 qA33 : Nat) (x1 : Int32) (hO0 : ws[116]? = (some (qO0, .inr (12, [.int 0, .ref qA2, .int 0, .ref qA3, .int 0, .ref qO4, .ref qO5, .ref qO6, .ref qO7, .ref qO8, .ref qA9, .ref qA1])) : Option (Nat × va_E))) (hA1 : ws[168]? = (some (qA1, .inl (g 1, 1, .inr (.inl (fun _ => 0)))) : Option (Nat × va_E))) (hO5 : ws[134]? = (some (qO5, .inr (14, [.int 0, .ref qA24, .int 0, .ref qA25, .ref qA26, .ref qA27, .ref qA28, .ref qA29, .int 0, .long 0, .int 0, .int 0, .ref qA30, .int 0, .ref qA31, .int 0, .ref qA32, .int 0, .ref qA33, .int 0, .int 0])) : Option (Nat × va_E))) (hA25 : ws[136]? = (some (qA25, .inl (g 0, 10000, .inl (fun _ => 0))) : Option (Nat × va_E))) (hA26 : ws[137]? = (some (qA26, .inl (g 0, 10, .inl (upd (upd (upd (upd (upd (upd (upd (upd (upd (upd (fun _ => 0) 0 1) 1 1) 2 1) 3 1) 4 1) 5 1) 6 1) 7 1) 8 1) 9 1))) : Option (Nat × va_E))) (hA27 : ws[138]? = (some (qA27, .inl (g 3, 10, .inl (fun _ => 0))) : Option (Nat × va_E))) (x1lo : 0 ≤ x1) (x1hi : x1 ≤ 9) : q_mI l y_NM_isLong prog_14_method_35_code 8 (.boolean) 1 0 0 D g [.ref qO0, .int x1, .ref qA1] ws (fun r u => 1 = r ∧ q_un ws u [168] ∧ u[168]? = (some (qA1, .inl (g 1, 1, .inr (.inl (fun _ => 0)))) : Option (Nat × va_E))) := by
  intro sz
  refine q_into (by decide) (Nat.le_of_ble_eq_true rfl) ?_
  intro p e s m below meth c ls hsz C0 V hl
  have hx := C0.1
  have hb := C0.2.1
  have hl : lv_has ls 8 [(0, .ref qO0), (1, .int x1), (2, .ref qA1)] := hl
  have hF : q_un ws ws [168] := q_u0
  refine lv_lconst (v := 0) hx hb d_14_35_0 (by decide) ?_
  refine lv_lstore_n (lv' := [(3, .long 0), (0, .ref qO0), (1, .int x1), (2, .ref qA1)]) hx hb d_14_35_1 rfl hl (by decide) rfl (fun ls hl => ?_)
  refine lv_aload_n hx hb d_14_35_2 rfl (lv_at hl 1 rfl) ?_
  refine q_get (ci := 12) (j := 6) (v := .ref qO5) C0 V i_NM rfl rfl hO0 (by decide) w_2304 rfl d_14_35_3 ?_
  refine q_getN (ci := 14) (j := 4) (v := .ref qA26) C0 V i_DR rfl rfl hO5 (by decide) wo_2005 rfl d_14_35_6 ?_
  refine lv_iload_n hx hb d_14_35_9 rfl (lv_at hl 2 rfl) ?_
  refine q_iald C0 V hA26 (q_ix (x := x1.toInt) rfl (by have t1 : 0 ≤ x1.toInt := q_leI x1lo; have t2 : x1.toInt ≤ 9 := q_leI x1hi; omega) (by have t1 : 0 ≤ x1.toInt := q_leI x1lo; have t2 : x1.toInt ≤ 9 := q_leI x1hi; omega)) d_14_35_10 ?_
  refine q_ti (v := 1) (by have hj := q_clI (x := x1.toInt) rfl (by have t1 : 0 ≤ x1.toInt := q_leI x1lo; have t2 : x1.toInt ≤ 9 := q_leI x1hi; omega); have hk : x1.toNatClampNeg < 10 ∧ 0 ≤ x1.toNatClampNeg := (by have t1 : 0 ≤ x1.toInt := q_leI x1lo; have t2 : x1.toInt ≤ 9 := q_leI x1hi; omega); clear hj; generalize x1.toNatClampNeg = j at hk ⊢; rcases (show j = 0 ∨ j = 1 ∨ j = 2 ∨ j = 3 ∨ j = 4 ∨ j = 5 ∨ j = 6 ∨ j = 7 ∨ j = 8 ∨ j = 9 by omega) with rfl | rfl | rfl | rfl | rfl | rfl | rfl | rfl | rfl | rfl <;> rfl) ?_
  refine lv_bipush (v := 19) hx hb d_14_35_11 (by decide) ?_
  refine lv_icmp_gt (tgt := 20) hx hb d_14_35_13 (by decide) (fun c1 => absurd c1 (by decide)) (fun c1 => ?_)
  refine lv_iconst (v := 1) hx hb d_14_35_16 (by decide) ?_
  refine lv_goto (tgt := 21) hx hb d_14_35_17 (by decide) ?_
  refine lv_istore (lv' := [(5, .int 1), (3, .long 0), (0, .ref qO0), (1, .int x1), (2, .ref qA1)]) hx hb d_14_35_21 hl (by decide) rfl (fun ls hl => ?_)
  refine lv_iconst (v := 0) hx hb d_14_35_23 (by decide) ?_
  refine lv_istore (lv' := [(6, .int 0), (5, .int 1), (3, .long 0), (0, .ref qO0), (1, .int x1), (2, .ref qA1)]) hx hb d_14_35_24 hl (by decide) rfl (fun ls hl => ?_)
  refine lv_iload hx hb d_14_35_26 (lv_at hl 0 rfl) ?_
  refine lv_aload_n hx hb d_14_35_28 rfl (lv_at hl 3 rfl) ?_
  refine q_get (ci := 12) (j := 6) (v := .ref qO5) C0 V i_NM rfl rfl hO0 (by decide) w_2304 rfl d_14_35_29 ?_
  refine q_getN (ci := 14) (j := 4) (v := .ref qA26) C0 V i_DR rfl rfl hO5 (by decide) wo_2005 rfl d_14_35_32 ?_
  refine lv_iload_n hx hb d_14_35_35 rfl (lv_at hl 4 rfl) ?_
  refine q_iald C0 V hA26 (q_ix (x := x1.toInt) rfl (by have t1 : 0 ≤ x1.toInt := q_leI x1lo; have t2 : x1.toInt ≤ 9 := q_leI x1hi; omega) (by have t1 : 0 ≤ x1.toInt := q_leI x1lo; have t2 : x1.toInt ≤ 9 := q_leI x1hi; omega)) d_14_35_36 ?_
  refine q_ti (v := 1) (by have hj := q_clI (x := x1.toInt) rfl (by have t1 : 0 ≤ x1.toInt := q_leI x1lo; have t2 : x1.toInt ≤ 9 := q_leI x1hi; omega); have hk : x1.toNatClampNeg < 10 ∧ 0 ≤ x1.toNatClampNeg := (by have t1 : 0 ≤ x1.toInt := q_leI x1lo; have t2 : x1.toInt ≤ 9 := q_leI x1hi; omega); clear hj; generalize x1.toNatClampNeg = j at hk ⊢; rcases (show j = 0 ∨ j = 1 ∨ j = 2 ∨ j = 3 ∨ j = 4 ∨ j = 5 ∨ j = 6 ∨ j = 7 ∨ j = 8 ∨ j = 9 by omega) with rfl | rfl | rfl | rfl | rfl | rfl | rfl | rfl | rfl | rfl <;> rfl) ?_
  refine lv_icmp_ge (tgt := 109) hx hb d_14_35_37 (by decide) (fun c2 => absurd c2 (by decide)) (fun c2 => ?_)
  refine lv_iload hx hb d_14_35_40 (lv_at hl 1 rfl) ?_
  refine lv_if_eq (tgt := 109) hx hb d_14_35_42 (by decide) (fun c3 => absurd c3 (by decide)) (fun c3 => ?_)
  refine lv_aload_n hx hb d_14_35_45 rfl (lv_at hl 3 rfl) ?_
  refine q_get (ci := 12) (j := 6) (v := .ref qO5) C0 V i_NM rfl rfl hO0 (by decide) w_2304 rfl d_14_35_46 ?_
  refine q_getN (ci := 14) (j := 3) (v := .ref qA25) C0 V i_DR rfl rfl hO5 (by decide) wo_2003 rfl d_14_35_49 ?_
  refine lv_sipush (v := 1000) hx hb d_14_35_52 (by decide) ?_
  refine lv_iload_n hx hb d_14_35_55 rfl (lv_at hl 4 rfl) ?_
  refine lv_imul hx hb d_14_35_56 ?_
  refine lv_iload hx hb d_14_35_57 (lv_at hl 0 rfl) ?_
  refine lv_iadd hx hb d_14_35_59 ?_
  refine q_ti (v := 1000 * x1) (by simp) ?_
  refine q_iald C0 V hA25 (q_ix (x := (1000 * x1.toInt)) (q_mulI (x := 1000) (y := x1.toInt) (by decide) rfl (by have t1 : 0 ≤ x1.toInt := q_leI x1lo; have t2 : x1.toInt ≤ 9 := q_leI x1hi; omega) (by have t1 : 0 ≤ x1.toInt := q_leI x1lo; have t2 : x1.toInt ≤ 9 := q_leI x1hi; omega)) (by have t1 : 0 ≤ x1.toInt := q_leI x1lo; have t2 : x1.toInt ≤ 9 := q_leI x1hi; omega) (by have t1 : 0 ≤ x1.toInt := q_leI x1lo; have t2 : x1.toInt ≤ 9 := q_leI x1hi; omega)) d_14_35_60 ?_
  refine q_ti (v := 0) (by first | rfl | decide | simp [upd, vp_updL, sb_cl0]) ?_
  refine lv_istore (lv' := [(7, .int 0), (6, .int 0), (5, .int 1), (3, .long 0), (0, .ref qO0), (1, .int x1), (2, .ref qA1)]) hx hb d_14_35_61 hl (by decide) rfl (fun ls hl => ?_)
  refine lv_lload_n hx hb d_14_35_63 rfl (lv_at hl 3 rfl) ?_
  refine q_ldc2 C0 rfl w_3086 d_14_35_64 ?_
  refine W.lcmp hx hb d_14_35_67 ?_
  refine q_ti (v := 1) (by decide) ?_
  refine lv_if_gt (tgt := 86) hx hb d_14_35_68 (by decide) (fun c4 => ?_) (fun c4 => absurd (by decide) c4)
  refine lv_iconst (v := 1) hx hb d_14_35_86 (by decide) ?_
  refine lv_goto (tgt := 91) hx hb d_14_35_87 (by decide) ?_
  refine lv_istore (lv' := [(5, .int 1), (7, .int 0), (6, .int 0), (3, .long 0), (0, .ref qO0), (1, .int x1), (2, .ref qA1)]) hx hb d_14_35_91 hl (by decide) rfl (fun ls hl => ?_)
  refine q_ldc2 C0 rfl w_3087 d_14_35_93 ?_
  refine lv_lload_n hx hb d_14_35_96 rfl (lv_at hl 3 rfl) ?_
  refine lv_lmul hx hb d_14_35_97 ?_
  refine q_tl (v := 0) (by decide) ?_
  refine lv_iload hx hb d_14_35_98 (lv_at hl 1 rfl) ?_
  refine lv_i2l hx hb d_14_35_100 rfl ?_
  refine q_tl (v := 0) (by decide) ?_
  refine lv_lsub hx hb d_14_35_101 ?_
  refine q_tl (v := 0) (by decide) ?_
  refine lv_lstore_n (lv' := [(3, .long 0), (5, .int 1), (7, .int 0), (6, .int 0), (0, .ref qO0), (1, .int x1), (2, .ref qA1)]) hx hb d_14_35_102 rfl hl (by decide) rfl (fun ls hl => ?_)
  refine lv_iinc (v := 1) (lv' := [(6, .int 1), (3, .long 0), (5, .int 1), (7, .int 0), (0, .ref qO0), (1, .int x1), (2, .ref qA1)]) hx hb d_14_35_103 hl (k := 3) rfl (by decide) (by decide) rfl (fun ls hl => ?_)
  refine lv_goto (tgt := 26) hx hb d_14_35_106 (by decide) ?_
  refine lv_iload hx hb d_14_35_26 (lv_at hl 0 rfl) ?_
  refine lv_aload_n hx hb d_14_35_28 rfl (lv_at hl 4 rfl) ?_
  refine q_get (ci := 12) (j := 6) (v := .ref qO5) C0 V i_NM rfl rfl hO0 (by decide) w_2304 rfl d_14_35_29 ?_
  refine q_getN (ci := 14) (j := 4) (v := .ref qA26) C0 V i_DR rfl rfl hO5 (by decide) wo_2005 rfl d_14_35_32 ?_
  refine lv_iload_n hx hb d_14_35_35 rfl (lv_at hl 5 rfl) ?_
  refine q_iald C0 V hA26 (q_ix (x := x1.toInt) rfl (by have t1 : 0 ≤ x1.toInt := q_leI x1lo; have t2 : x1.toInt ≤ 9 := q_leI x1hi; omega) (by have t1 : 0 ≤ x1.toInt := q_leI x1lo; have t2 : x1.toInt ≤ 9 := q_leI x1hi; omega)) d_14_35_36 ?_
  refine q_ti (v := 1) (by have hj := q_clI (x := x1.toInt) rfl (by have t1 : 0 ≤ x1.toInt := q_leI x1lo; have t2 : x1.toInt ≤ 9 := q_leI x1hi; omega); have hk : x1.toNatClampNeg < 10 ∧ 0 ≤ x1.toNatClampNeg := (by have t1 : 0 ≤ x1.toInt := q_leI x1lo; have t2 : x1.toInt ≤ 9 := q_leI x1hi; omega); clear hj; generalize x1.toNatClampNeg = j at hk ⊢; rcases (show j = 0 ∨ j = 1 ∨ j = 2 ∨ j = 3 ∨ j = 4 ∨ j = 5 ∨ j = 6 ∨ j = 7 ∨ j = 8 ∨ j = 9 by omega) with rfl | rfl | rfl | rfl | rfl | rfl | rfl | rfl | rfl | rfl <;> rfl) ?_
  refine lv_icmp_ge (tgt := 109) hx hb d_14_35_37 (by decide) (fun c5 => ?_) (fun c5 => absurd (by decide) c5)
  refine lv_iload hx hb d_14_35_109 (lv_at hl 2 rfl) ?_
  refine lv_if_eq (tgt := 138) hx hb d_14_35_111 (by decide) (fun c6 => absurd c6 (by decide)) (fun c6 => ?_)
  refine lv_aload_n hx hb d_14_35_114 rfl (lv_at hl 4 rfl) ?_
  refine q_get (ci := 12) (j := 6) (v := .ref qO5) C0 V i_NM rfl rfl hO0 (by decide) w_2304 rfl d_14_35_115 ?_
  refine q_getN (ci := 14) (j := 5) (v := .ref qA27) C0 V i_DR rfl rfl hO5 (by decide) wo_2007 rfl d_14_35_118 ?_
  refine lv_iload_n hx hb d_14_35_121 rfl (lv_at hl 5 rfl) ?_
  refine q_zald C0 V hA27 (q_ix (x := x1.toInt) rfl (by have t1 : 0 ≤ x1.toInt := q_leI x1lo; have t2 : x1.toInt ≤ 9 := q_leI x1hi; omega) (by have t1 : 0 ≤ x1.toInt := q_leI x1lo; have t2 : x1.toInt ≤ 9 := q_leI x1hi; omega)) d_14_35_122 ?_
  refine q_ti (v := 0) (by first | rfl | decide | simp [upd, vp_updL, sb_cl0]) ?_
  refine lv_if_ne (tgt := 134) hx hb d_14_35_123 (by decide) (fun c7 => absurd (by decide) c7) (fun c7 => ?_)
  refine lv_lload_n hx hb d_14_35_126 rfl (lv_at hl 1 rfl) ?_
  refine q_ldc2 C0 rfl w_2676 d_14_35_127 ?_
  refine W.lcmp hx hb d_14_35_130 ?_
  refine q_ti (v := 1) (by decide) ?_
  refine lv_if_eq (tgt := 138) hx hb d_14_35_131 (by decide) (fun c8 => absurd c8 (by decide)) (fun c8 => ?_)
  refine lv_iconst (v := 1) hx hb d_14_35_134 (by decide) ?_
  refine lv_goto (tgt := 139) hx hb d_14_35_135 (by decide) ?_
  refine lv_istore (lv' := [(5, .int 1), (6, .int 1), (3, .long 0), (7, .int 0), (0, .ref qO0), (1, .int x1), (2, .ref qA1)]) hx hb d_14_35_139 hl (by decide) rfl (fun ls hl => ?_)
  refine lv_aload_n hx hb d_14_35_141 rfl (lv_at hl 6 rfl) ?_
  refine lv_iconst (v := 0) hx hb d_14_35_142 (by decide) ?_
  refine lv_aload_n hx hb d_14_35_143 rfl (lv_at hl 4 rfl) ?_
  refine q_get (ci := 12) (j := 6) (v := .ref qO5) C0 V i_NM rfl rfl hO0 (by decide) w_2304 rfl d_14_35_144 ?_
  refine q_getN (ci := 14) (j := 5) (v := .ref qA27) C0 V i_DR rfl rfl hO5 (by decide) wo_2007 rfl d_14_35_147 ?_
  refine lv_iload_n hx hb d_14_35_150 rfl (lv_at hl 5 rfl) ?_
  refine q_zald C0 V hA27 (q_ix (x := x1.toInt) rfl (by have t1 : 0 ≤ x1.toInt := q_leI x1lo; have t2 : x1.toInt ≤ 9 := q_leI x1hi; omega) (by have t1 : 0 ≤ x1.toInt := q_leI x1lo; have t2 : x1.toInt ≤ 9 := q_leI x1hi; omega)) d_14_35_151 ?_
  refine q_ti (v := 0) (by first | rfl | decide | simp [upd, vp_updL, sb_cl0]) ?_
  refine lv_if_eq (tgt := 159) hx hb d_14_35_152 (by decide) (fun c9 => ?_) (fun c9 => absurd (by decide) c9)
  refine lv_lload_n hx hb d_14_35_159 rfl (lv_at hl 2 rfl) ?_
  refine lv_lneg hx hb d_14_35_160 ?_
  refine q_tl (v := 0) (by decide) ?_
  refine q_last C0 V hA1 (by unfold vp_in; decide) d_14_35_161 (fun H locs w10 hu11 hA1 V => ?_)
  replace hA1 := q_re (y := (qA1, .inl (g 1, 1, .inr (.inl (fun _ => 0))))) hA1 (q_eL q_updL0)
  replace hA1 : w10[168]? = (some (qA1, .inl (g 1, 1, .inr (.inl (fun _ => 0)))) : Option (Nat × va_E)) := hA1
  replace hF := q_us hF hu11 (.head _)
  refine lv_iload hx hb d_14_35_162 (lv_at hl 0 rfl) ?_
  exact q_retz C0 V (rfl) (⟨rfl, hF, hA1⟩) d_14_35_164
set_option maxRecDepth 100000 in
set_option maxHeartbeats 4000000 in
theorem c_VR_enter_7 (l : Launch) (D : va_G) (g : Nat → ClassId) (ws : va_W) (kO0 kA2 kA3 kA4 qO0 qA1 qA2 qA3 qA4 qA5 qA6 qA7 qA8 qA9 : Nat) (hO0 : ws[kO0]? = (some (qO0, .inr (17, [.int 0, .ref qA1, .int 0, .int 0, .ref qA2, .ref qA3, .ref qA4, .ref qA5, .ref qA6, .int 0, .ref qA7, .int 0, .int 0, .int (-1), .int 0, .int 0, .int 0, .int 0, .int 0, .int 0, .int 0, .int 0, .int 0, .int 0, .ref qA8, .int 0, .int 0, .int 0, .ref qA9, .int 0, .int 0])) : Option (Nat × va_E))) (hA2 : ws[kA2]? = (some (qA2, .inl (g 0, 9, .inl (fun _ => 0))) : Option (Nat × va_E))) (hA3 : ws[kA3]? = (some (qA3, .inl (g 0, 9, .inl (fun _ => 0))) : Option (Nat × va_E))) (hA4 : ws[kA4]? = (some (qA4, .inl (g 1, 9, .inr (.inl (fun _ => 0)))) : Option (Nat × va_E))) (n_A2_A3 : kA2 ≠ kA3) (n_A2_A4 : kA2 ≠ kA4) (n_A3_A4 : kA3 ≠ kA4) : q_mI l y_VR_enter prog_16_method_6_code 5 (.int) 1 0 0 D g [.ref qO0, .int 5, .int 0, .long 0] ws (fun r u => 1 = r ∧ q_un ws u [kO0, kA2, kA3, kA4] ∧ u[kO0]? = (some (qO0, .inr (17, [.int 0, .ref qA1, .int 0, .int 1, .ref qA2, .ref qA3, .ref qA4, .ref qA5, .ref qA6, .int 0, .ref qA7, .int 0, .int 0, .int (-1), .int 0, .int 0, .int 0, .int 0, .int 0, .int 0, .int 0, .int 0, .int 0, .int 0, .ref qA8, .int 0, .int 0, .int 0, .ref qA9, .int 0, .int 0])) : Option (Nat × va_E)) ∧ u[kA2]? = (some (qA2, .inl (g 0, 9, .inl (upd (fun _ => 0) 0 5))) : Option (Nat × va_E)) ∧ u[kA3]? = (some (qA3, .inl (g 0, 9, .inl (fun _ => 0))) : Option (Nat × va_E)) ∧ u[kA4]? = (some (qA4, .inl (g 1, 9, .inr (.inl (fun _ => 0)))) : Option (Nat × va_E))) := by
  intro sz
  refine q_into (by decide) (Nat.le_of_ble_eq_true rfl) ?_
  intro p e s m below meth c ls hsz C0 V hl
  have hx := C0.1
  have hb := C0.2.1
  have hl : lv_has ls 5 [(0, .ref qO0), (1, .int 5), (2, .int 0), (3, .long 0)] := hl
  have n_A2_O0 := q_df hA2 hO0
  have n_A3_A2 := Ne.symm n_A2_A3
  have n_A3_O0 := q_df hA3 hO0
  have n_A4_A2 := Ne.symm n_A2_A4
  have n_A4_A3 := Ne.symm n_A3_A4
  have n_A4_O0 := q_df hA4 hO0
  have n_O0_A2 := Ne.symm (q_df hA2 hO0)
  have n_O0_A3 := Ne.symm (q_df hA3 hO0)
  have n_O0_A4 := Ne.symm (q_df hA4 hO0)
  have hF : q_un ws ws [kO0, kA2, kA3, kA4] := q_u0
  refine lv_aload_n hx hb d_16_6_0 rfl (lv_at hl 0 rfl) ?_
  refine lv_iconst (v := 0) hx hb d_16_6_1 (by decide) ?_
  refine q_put (ci := 17) (j := 0) (v := .int 0) (ty := .int) C0 V i_VR o_VR n_VR rfl rfl hO0 (by decide) w_2198 rfl rfl rfl rfl (Nat.le_of_ble_eq_true rfl) d_16_6_2 (fun H locs w1 hu2 hO0 V => ?_)
  replace hO0 : w1[kO0]? = (some (qO0, .inr (17, [.int 0, .ref qA1, .int 0, .int 0, .ref qA2, .ref qA3, .ref qA4, .ref qA5, .ref qA6, .int 0, .ref qA7, .int 0, .int 0, .int (-1), .int 0, .int 0, .int 0, .int 0, .int 0, .int 0, .int 0, .int 0, .int 0, .int 0, .ref qA8, .int 0, .int 0, .int 0, .ref qA9, .int 0, .int 0])) : Option (Nat × va_E)) := hO0
  replace hF := q_us hF hu2 (.head _)
  refine lv_aload_n hx hb d_16_6_5 rfl (lv_at hl 0 rfl) ?_
  refine q_get (ci := 17) (j := 3) (v := .int 0) C0 V i_VR rfl rfl hO0 (by decide) w_2203 rfl d_16_6_6 ?_
  refine lv_bipush (v := 9) hx hb d_16_6_9 (by decide) ?_
  refine lv_icmp_ne (tgt := 16) hx hb d_16_6_11 (by decide) (fun c3 => ?_) (fun c3 => absurd c3 (by decide))
  refine lv_aload_n hx hb d_16_6_16 rfl (lv_at hl 0 rfl) ?_
  refine q_get (ci := 17) (j := 4) (v := .ref qA2) C0 V i_VR rfl rfl hO0 (by decide) w_2205 rfl d_16_6_17 ?_
  refine lv_aload_n hx hb d_16_6_20 rfl (lv_at hl 0 rfl) ?_
  refine q_get (ci := 17) (j := 3) (v := .int 0) C0 V i_VR rfl rfl hO0 (by decide) w_2203 rfl d_16_6_21 ?_
  refine lv_iload_n hx hb d_16_6_24 rfl (lv_at hl 1 rfl) ?_
  replace hA2 := (hu2 _ n_A2_O0).trans (hA2)
  refine q_iast C0 V hA2 (by unfold vp_in; decide) d_16_6_25 (fun H locs w4 hu5 hA2 V => ?_)
  replace hA2 : w4[kA2]? = (some (qA2, .inl (g 0, 9, .inl (upd (fun _ => 0) 0 5))) : Option (Nat × va_E)) := hA2
  replace hF := q_us hF hu5 (.tail _ (.head _))
  refine lv_aload_n hx hb d_16_6_26 rfl (lv_at hl 0 rfl) ?_
  replace hO0 := (hu5 _ n_O0_A2).trans (hO0)
  refine q_get (ci := 17) (j := 5) (v := .ref qA3) C0 V i_VR rfl rfl hO0 (by decide) w_2206 rfl d_16_6_27 ?_
  refine lv_aload_n hx hb d_16_6_30 rfl (lv_at hl 0 rfl) ?_
  refine q_get (ci := 17) (j := 3) (v := .int 0) C0 V i_VR rfl rfl hO0 (by decide) w_2203 rfl d_16_6_31 ?_
  refine lv_iload_n hx hb d_16_6_34 rfl (lv_at hl 2 rfl) ?_
  replace hA3 := (hu5 _ n_A3_A2).trans ((hu2 _ n_A3_O0).trans (hA3))
  refine q_iast C0 V hA3 (by unfold vp_in; decide) d_16_6_35 (fun H locs w6 hu7 hA3 V => ?_)
  replace hA3 := q_re (y := (qA3, .inl (g 0, 9, .inl (fun _ => 0)))) hA3 (q_eI q_upd0)
  replace hA3 : w6[kA3]? = (some (qA3, .inl (g 0, 9, .inl (fun _ => 0))) : Option (Nat × va_E)) := hA3
  replace hF := q_us hF hu7 (.tail _ (.tail _ (.head _)))
  refine lv_aload_n hx hb d_16_6_36 rfl (lv_at hl 0 rfl) ?_
  replace hO0 := (hu7 _ n_O0_A3).trans (hO0)
  refine q_get (ci := 17) (j := 6) (v := .ref qA4) C0 V i_VR rfl rfl hO0 (by decide) w_2207 rfl d_16_6_37 ?_
  refine lv_aload_n hx hb d_16_6_40 rfl (lv_at hl 0 rfl) ?_
  refine q_get (ci := 17) (j := 3) (v := .int 0) C0 V i_VR rfl rfl hO0 (by decide) w_2203 rfl d_16_6_41 ?_
  refine lv_lload_n hx hb d_16_6_44 rfl (lv_at hl 3 rfl) ?_
  replace hA4 := (hu7 _ n_A4_A3).trans ((hu5 _ n_A4_A2).trans ((hu2 _ n_A4_O0).trans (hA4)))
  refine q_last C0 V hA4 (by unfold vp_in; decide) d_16_6_45 (fun H locs w8 hu9 hA4 V => ?_)
  replace hA4 := q_re (y := (qA4, .inl (g 1, 9, .inr (.inl (fun _ => 0))))) hA4 (q_eL q_updL0)
  replace hA4 : w8[kA4]? = (some (qA4, .inl (g 1, 9, .inr (.inl (fun _ => 0)))) : Option (Nat × va_E)) := hA4
  replace hF := q_us hF hu9 (List.mem_of_getElem? (i := 3) rfl)
  refine lv_aload_n hx hb d_16_6_46 rfl (lv_at hl 0 rfl) ?_
  refine lv_dup hx hb d_16_6_47 rfl ?_
  replace hO0 := (hu9 _ n_O0_A4).trans (hO0)
  refine q_get (ci := 17) (j := 3) (v := .int 0) C0 V i_VR rfl rfl hO0 (by decide) w_2203 rfl d_16_6_48 ?_
  refine lv_iconst (v := 1) hx hb d_16_6_51 (by decide) ?_
  refine lv_iadd hx hb d_16_6_52 ?_
  refine q_ti (v := 1) (by decide) ?_
  refine q_put (ci := 17) (j := 3) (v := .int 1) (ty := .int) C0 V i_VR o_VR n_VR rfl rfl hO0 (by decide) w_2203 rfl rfl rfl rfl (Nat.le_of_ble_eq_true rfl) d_16_6_53 (fun H locs w10 hu11 hO0 V => ?_)
  replace hO0 : w10[kO0]? = (some (qO0, .inr (17, [.int 0, .ref qA1, .int 0, .int 1, .ref qA2, .ref qA3, .ref qA4, .ref qA5, .ref qA6, .int 0, .ref qA7, .int 0, .int 0, .int (-1), .int 0, .int 0, .int 0, .int 0, .int 0, .int 0, .int 0, .int 0, .int 0, .int 0, .ref qA8, .int 0, .int 0, .int 0, .ref qA9, .int 0, .int 0])) : Option (Nat × va_E)) := hO0
  replace hF := q_us hF hu11 (.head _)
  refine lv_aload_n hx hb d_16_6_56 rfl (lv_at hl 0 rfl) ?_
  refine q_get (ci := 17) (j := 3) (v := .int 1) C0 V i_VR rfl rfl hO0 (by decide) w_2203 rfl d_16_6_57 ?_
  replace hA2 := (hu11 _ n_A2_O0).trans ((hu9 _ n_A2_A4).trans ((hu7 _ n_A2_A3).trans (hA2)))
  replace hA3 := (hu11 _ n_A3_O0).trans ((hu9 _ n_A3_A4).trans (hA3))
  replace hA4 := (hu11 _ n_A4_O0).trans (hA4)
  exact q_reti C0 V (⟨rfl, hF, hO0, hA2, hA3, hA4⟩) d_16_6_60
theorem d_16_12_0 : decode prog_16_method_12_code 0 = .ok (.iload_n 3, 1) := by decide +kernel
theorem d_16_12_1 : decode prog_16_method_12_code 1 = .ok (.ifCond .lt 9, 3) := by decide +kernel
theorem d_16_12_4 : decode prog_16_method_12_code 4 = .ok (.iload_n 3, 1) := by decide +kernel
theorem d_16_12_5 : decode prog_16_method_12_code 5 = .ok (.bipush 40, 2) := by decide +kernel
theorem d_16_12_7 : decode prog_16_method_12_code 7 = .ok (.if_icmp .le 10, 3) := by decide +kernel
theorem d_16_12_17 : decode prog_16_method_12_code 17 = .ok (.aload_n 0, 1) := by decide +kernel
theorem d_16_12_18 : decode prog_16_method_12_code 18 = .ok (.iconst 5, 1) := by decide +kernel
theorem d_16_12_19 : decode prog_16_method_12_code 19 = .ok (.iload_n 3, 1) := by decide +kernel
theorem d_16_12_20 : decode prog_16_method_12_code 20 = .ok (.lload_n 1, 1) := by decide +kernel
theorem d_16_12_21 : decode prog_16_method_12_code 21 = .ok (.invokevirtual 53, 3) := by decide +kernel
theorem d_16_12_24 : decode prog_16_method_12_code 24 = .ok (.ireturn, 1) := by decide +kernel
def y_VR_decimal_JII : MethodName := ⟨"NumberHouseModel$DirectiveRows", "decimal", "(JI)I"⟩
set_option maxRecDepth 100000 in
set_option maxHeartbeats 4000000 in
theorem c_VR_decimal_JII (l : Launch) (D : va_G) (g : Nat → ClassId) (ws : va_W) (kO0 kA2 kA3 kA4 qO0 qA1 qA2 qA3 qA4 qA5 qA6 qA7 qA8 qA9 : Nat) (hO0 : ws[kO0]? = (some (qO0, .inr (17, [.int 0, .ref qA1, .int 0, .int 0, .ref qA2, .ref qA3, .ref qA4, .ref qA5, .ref qA6, .int 0, .ref qA7, .int 0, .int 0, .int (-1), .int 0, .int 0, .int 0, .int 0, .int 0, .int 0, .int 0, .int 0, .int 0, .int 0, .ref qA8, .int 0, .int 0, .int 0, .ref qA9, .int 0, .int 0])) : Option (Nat × va_E))) (hA2 : ws[kA2]? = (some (qA2, .inl (g 0, 9, .inl (fun _ => 0))) : Option (Nat × va_E))) (hA3 : ws[kA3]? = (some (qA3, .inl (g 0, 9, .inl (fun _ => 0))) : Option (Nat × va_E))) (hA4 : ws[kA4]? = (some (qA4, .inl (g 1, 9, .inr (.inl (fun _ => 0)))) : Option (Nat × va_E))) (n_A2_A3 : kA2 ≠ kA3) (n_A2_A4 : kA2 ≠ kA4) (n_A3_A4 : kA3 ≠ kA4) : q_mI l y_VR_decimal_JII prog_16_method_12_code 4 (.int) 2 0 0 D g [.ref qO0, .long 0, .int 0] ws (fun r u => 1 = r ∧ q_un ws u [kO0, kA2, kA3, kA4] ∧ u[kO0]? = (some (qO0, .inr (17, [.int 0, .ref qA1, .int 0, .int 1, .ref qA2, .ref qA3, .ref qA4, .ref qA5, .ref qA6, .int 0, .ref qA7, .int 0, .int 0, .int (-1), .int 0, .int 0, .int 0, .int 0, .int 0, .int 0, .int 0, .int 0, .int 0, .int 0, .ref qA8, .int 0, .int 0, .int 0, .ref qA9, .int 0, .int 0])) : Option (Nat × va_E)) ∧ u[kA2]? = (some (qA2, .inl (g 0, 9, .inl (upd (fun _ => 0) 0 5))) : Option (Nat × va_E)) ∧ u[kA3]? = (some (qA3, .inl (g 0, 9, .inl (fun _ => 0))) : Option (Nat × va_E)) ∧ u[kA4]? = (some (qA4, .inl (g 1, 9, .inr (.inl (fun _ => 0)))) : Option (Nat × va_E))) := by
  intro sz
  refine q_into (by decide) (Nat.le_of_ble_eq_true rfl) ?_
  intro p e s m below meth c ls hsz C0 V hl
  have hx := C0.1
  have hb := C0.2.1
  have hl : lv_has ls 4 [(0, .ref qO0), (1, .long 0), (3, .int 0)] := hl
  have hF : q_un ws ws [kO0, kA2, kA3, kA4] := q_u0
  refine lv_iload_n hx hb d_16_12_0 rfl (lv_at hl 2 rfl) ?_
  refine lv_if_lt (tgt := 10) hx hb d_16_12_1 (by decide) (fun c1 => absurd c1 (by decide)) (fun c1 => ?_)
  refine lv_iload_n hx hb d_16_12_4 rfl (lv_at hl 2 rfl) ?_
  refine lv_bipush (v := 40) hx hb d_16_12_5 (by decide) ?_
  refine lv_icmp_le (tgt := 17) hx hb d_16_12_7 (by decide) (fun c2 => ?_) (fun c2 => absurd (by decide) c2)
  refine lv_aload_n hx hb d_16_12_17 rfl (lv_at hl 0 rfl) ?_
  refine lv_iconst (v := 5) hx hb d_16_12_18 (by decide) ?_
  refine lv_iload_n hx hb d_16_12_19 rfl (lv_at hl 2 rfl) ?_
  refine lv_lload_n hx hb d_16_12_20 rfl (lv_at hl 1 rfl) ?_
  refine q_goi V (q_runV (As := [.int 5, .int 0, .long 0]) (rest := []) (d := 1) (mc := 0) (ms := 0) (ci := 17) C0 V rfl LV_VR_53 (c_VR_enter_7 l D g ws kO0 kA2 kA3 kA4 qO0 qA1 qA2 qA3 qA4 qA5 qA6 qA7 qA8 qA9 hO0 hA2 hA3 hA4 n_A2_A3 n_A2_A4 n_A3_A4 _) rfl rfl hO0 rfl hl.1 rfl (Nat.le_of_ble_eq_true rfl) ⟨by decide, by decide⟩ ⟨Nat.le_of_ble_eq_true rfl, Nat.le_of_ble_eq_true rfl⟩ d_16_12_21) (fun v5 u4 H locs hp3 V => ?_)
  obtain ⟨rfl, hg6, hO0, hA2, hA3, hA4⟩ := hp3
  replace hF := q_uc hF hg6 (q_sc (.head _) (q_sc (.tail _ (.head _)) (q_sc (.tail _ (.tail _ (.head _))) (q_sc (List.mem_of_getElem? (i := 3) rfl) (fun _ h => absurd h List.not_mem_nil)))))
  exact q_reti C0 V (⟨rfl, hF, hO0, hA2, hA3, hA4⟩) d_16_12_24
theorem d_14_36_59 : decode prog_14_method_36_code 59 = .ok (.aload_n 0, 1) := by decide +kernel
theorem d_14_36_60 : decode prog_14_method_36_code 60 = .ok (.getfield 26, 3) := by decide +kernel
theorem d_14_36_63 : decode prog_14_method_36_code 63 = .ok (.getfield 232, 3) := by decide +kernel
theorem wo_2009 : (Cond.fieldLinkNest "NumberHouseModel" (232 : Nat) "NumberHouseModel$DecimalRows" "scales" "[I" "NumberHouseModel") ∈ q_odd := q_oo 2009 (by decide +kernel) (by decide +kernel)
theorem d_14_36_66 : decode prog_14_method_36_code 66 = .ok (.iload_n 2, 1) := by decide +kernel
theorem d_14_36_67 : decode prog_14_method_36_code 67 = .ok (.iaload, 1) := by decide +kernel
theorem d_14_36_68 : decode prog_14_method_36_code 68 = .ok (.istore_n 3, 1) := by decide +kernel
theorem d_14_36_69 : decode prog_14_method_36_code 69 = .ok (.aload_n 0, 1) := by decide +kernel
theorem d_14_36_70 : decode prog_14_method_36_code 70 = .ok (.aload_n 0, 1) := by decide +kernel
theorem d_14_36_71 : decode prog_14_method_36_code 71 = .ok (.iload_n 2, 1) := by decide +kernel
theorem d_14_36_72 : decode prog_14_method_36_code 72 = .ok (.aload_n 0, 1) := by decide +kernel
theorem d_14_36_73 : decode prog_14_method_36_code 73 = .ok (.getfield 55, 3) := by decide +kernel
theorem d_14_36_76 : decode prog_14_method_36_code 76 = .ok (.invokevirtual 303, 3) := by decide +kernel
theorem w_3085 : (Cond.code ({ cls := "NumberHouseModel", name := "isLong", desc := "(I[J)Z" } : MethodName) prog_14_method_35_code (8 : Nat) (some .boolean)) ∈ q_tbl := q_of 3085 (by decide +kernel) (by decide +kernel)
theorem w_3082 : (Cond.methodLink "NumberHouseModel" (303 : Nat) ({ cls := "NumberHouseModel", name := "isLong", desc := "(I[J)Z" } : MethodName)) ∈ q_tbl := q_of 3082 (by decide +kernel) (by decide +kernel)
theorem w_3084 : (Cond.instanceMethod ({ cls := "NumberHouseModel", name := "isLong", desc := "(I[J)Z" } : MethodName)) ∈ q_tbl := q_of 3084 (by decide +kernel) (by decide +kernel)
theorem ws_150 : Cond.selects "NumberHouseModel" (⟨"NumberHouseModel", "isLong", "(I[J)Z"⟩ : MethodName) (⟨"NumberHouseModel", "isLong", "(I[J)Z"⟩ : MethodName) ∈ q_tbl := q_ofs 150 (by decide +kernel) (by decide +kernel)
theorem LV_NM_303 : q_LV "NumberHouseModel" 303 y_NM_isLong prog_14_method_35_code 8 (some .boolean) 2 := ⟨w_3085, w_14, w_3082, w_3084, ws_150, ⟨by decide, by decide, by decide +kernel⟩⟩
theorem d_14_36_79 : decode prog_14_method_36_code 79 = .ok (.ifCond .eq 13, 3) := by decide +kernel
theorem d_14_36_82 : decode prog_14_method_36_code 82 = .ok (.iload_n 3, 1) := by decide +kernel
theorem d_14_36_83 : decode prog_14_method_36_code 83 = .ok (.ifCond .lt 9, 3) := by decide +kernel
theorem d_14_36_86 : decode prog_14_method_36_code 86 = .ok (.iload_n 3, 1) := by decide +kernel
theorem d_14_36_87 : decode prog_14_method_36_code 87 = .ok (.bipush 40, 2) := by decide +kernel
theorem d_14_36_89 : decode prog_14_method_36_code 89 = .ok (.if_icmp .le 7, 3) := by decide +kernel
theorem d_14_36_96 : decode prog_14_method_36_code 96 = .ok (.iconst 0, 1) := by decide +kernel
theorem d_14_36_97 : decode prog_14_method_36_code 97 = .ok (.putfield 58, 3) := by decide +kernel
theorem d_14_36_100 : decode prog_14_method_36_code 100 = .ok (.aload_n 0, 1) := by decide +kernel
theorem d_14_36_101 : decode prog_14_method_36_code 101 = .ok (.getfield 58, 3) := by decide +kernel
theorem d_14_36_104 : decode prog_14_method_36_code 104 = .ok (.ifCond .le 7, 3) := by decide +kernel
theorem d_14_36_111 : decode prog_14_method_36_code 111 = .ok (.aload_n 0, 1) := by decide +kernel
theorem d_14_36_112 : decode prog_14_method_36_code 112 = .ok (.getfield 47, 3) := by decide +kernel
theorem d_14_36_115 : decode prog_14_method_36_code 115 = .ok (.aload_n 0, 1) := by decide +kernel
theorem d_14_36_116 : decode prog_14_method_36_code 116 = .ok (.getfield 55, 3) := by decide +kernel
theorem d_14_36_119 : decode prog_14_method_36_code 119 = .ok (.iconst 0, 1) := by decide +kernel
theorem d_14_36_120 : decode prog_14_method_36_code 120 = .ok (.laload, 1) := by decide +kernel
theorem d_14_36_121 : decode prog_14_method_36_code 121 = .ok (.iload_n 3, 1) := by decide +kernel
theorem d_14_36_122 : decode prog_14_method_36_code 122 = .ok (.invokevirtual 307, 3) := by decide +kernel
theorem w_3091 : (Cond.code ({ cls := "NumberHouseModel$DirectiveRows", name := "decimal", desc := "(JI)I" } : MethodName) prog_16_method_12_code (4 : Nat) (some .int)) ∈ q_tbl := q_of 3091 (by decide +kernel) (by decide +kernel)
theorem w_3088 : (Cond.methodLink "NumberHouseModel" (307 : Nat) ({ cls := "NumberHouseModel$DirectiveRows", name := "decimal", desc := "(JI)I" } : MethodName)) ∈ q_tbl := q_of 3088 (by decide +kernel) (by decide +kernel)
theorem w_3089 : (Cond.instanceMethod ({ cls := "NumberHouseModel$DirectiveRows", name := "decimal", desc := "(JI)I" } : MethodName)) ∈ q_tbl := q_of 3089 (by decide +kernel) (by decide +kernel)
theorem w_3090 : (Cond.selects "NumberHouseModel$DirectiveRows" ({ cls := "NumberHouseModel$DirectiveRows", name := "decimal", desc := "(JI)I" } : MethodName) ({ cls := "NumberHouseModel$DirectiveRows", name := "decimal", desc := "(JI)I" } : MethodName)) ∈ q_tbl := q_of 3090 (by decide +kernel) (by decide +kernel)
theorem LV_NM_307 : q_LV "NumberHouseModel" 307 y_VR_decimal_JII prog_16_method_12_code 4 (some .int) 2 := ⟨w_3091, w_19, w_3088, w_3089, w_3090, ⟨by decide, by decide, by decide +kernel⟩⟩
theorem d_14_36_125 : decode prog_14_method_36_code 125 = .ok (.ireturn, 1) := by decide +kernel
set_option maxRecDepth 100000 in
set_option maxHeartbeats 4000000 in
theorem c_NM_numeral_2 (l : Launch) (D : va_G) (g : Nat → ClassId) (ws : va_W) ( qO0 qA1 qA2 qO3 qO4 qO5 qO6 qO7 qA8 qA9 qA24 qA25 qA26 qA27 qA28 qA29 qA30 qA31 qA32 qA33 qA44 qA45 qA46 qA47 qA48 qA49 qA50 qA51 qA52 : Nat) (x1 : Int32) (hO0 : ws[116]? = (some (qO0, .inr (12, [.int 0, .ref qA1, .int 0, .ref qA2, .int 0, .ref qO3, .ref qO4, .ref qO5, .ref qO6, .ref qO7, .ref qA8, .ref qA9])) : Option (Nat × va_E))) (hO4 : ws[134]? = (some (qO4, .inr (14, [.int 0, .ref qA24, .int 0, .ref qA25, .ref qA26, .ref qA27, .ref qA28, .ref qA29, .int 0, .long 0, .int 0, .int 0, .ref qA30, .int 0, .ref qA31, .int 0, .ref qA32, .int 0, .ref qA33, .int 0, .int 0])) : Option (Nat × va_E))) (hO7 : ws[157]? = (some (qO7, .inr (17, [.int 0, .ref qA44, .int 0, .int 0, .ref qA45, .ref qA46, .ref qA47, .ref qA48, .ref qA49, .int 0, .ref qA50, .int 0, .int 0, .int (-1), .int 0, .int 0, .int 0, .int 0, .int 0, .int 0, .int 0, .int 0, .int 0, .int 0, .ref qA51, .int 0, .int 0, .int 0, .ref qA52, .int 0, .int 0])) : Option (Nat × va_E))) (hA9 : ws[168]? = (some (qA9, .inl (g 1, 1, .inr (.inl (fun _ => 0)))) : Option (Nat × va_E))) (hA25 : ws[136]? = (some (qA25, .inl (g 0, 10000, .inl (fun _ => 0))) : Option (Nat × va_E))) (hA26 : ws[137]? = (some (qA26, .inl (g 0, 10, .inl (upd (upd (upd (upd (upd (upd (upd (upd (upd (upd (fun _ => 0) 0 1) 1 1) 2 1) 3 1) 4 1) 5 1) 6 1) 7 1) 8 1) 9 1))) : Option (Nat × va_E))) (hA27 : ws[138]? = (some (qA27, .inl (g 3, 10, .inl (fun _ => 0))) : Option (Nat × va_E))) (hA28 : ws[139]? = (some (qA28, .inl (g 0, 10, .inl (fun _ => 0))) : Option (Nat × va_E))) (hA45 : ws[159]? = (some (qA45, .inl (g 0, 9, .inl (fun _ => 0))) : Option (Nat × va_E))) (hA46 : ws[160]? = (some (qA46, .inl (g 0, 9, .inl (fun _ => 0))) : Option (Nat × va_E))) (hA47 : ws[161]? = (some (qA47, .inl (g 1, 9, .inr (.inl (fun _ => 0)))) : Option (Nat × va_E))) (x1lo : 0 ≤ x1) (x1hi : x1 ≤ 9) : q_mI l y_NM_numeral prog_14_method_36_code 4 (.int) 3 0 0 D g [.ref qO0, .int 1, .int x1] ws (fun r u => 1 = r ∧ q_un ws u [116, 157, 168, 159, 160, 161] ∧ u[116]? = (some (qO0, .inr (12, [.int 0, .ref qA1, .int 0, .ref qA2, .int 0, .ref qO3, .ref qO4, .ref qO5, .ref qO6, .ref qO7, .ref qA8, .ref qA9])) : Option (Nat × va_E)) ∧ u[157]? = (some (qO7, .inr (17, [.int 0, .ref qA44, .int 0, .int 1, .ref qA45, .ref qA46, .ref qA47, .ref qA48, .ref qA49, .int 0, .ref qA50, .int 0, .int 0, .int (-1), .int 0, .int 0, .int 0, .int 0, .int 0, .int 0, .int 0, .int 0, .int 0, .int 0, .ref qA51, .int 0, .int 0, .int 0, .ref qA52, .int 0, .int 0])) : Option (Nat × va_E)) ∧ u[168]? = (some (qA9, .inl (g 1, 1, .inr (.inl (fun _ => 0)))) : Option (Nat × va_E)) ∧ u[159]? = (some (qA45, .inl (g 0, 9, .inl (upd (fun _ => 0) 0 5))) : Option (Nat × va_E)) ∧ u[160]? = (some (qA46, .inl (g 0, 9, .inl (fun _ => 0))) : Option (Nat × va_E)) ∧ u[161]? = (some (qA47, .inl (g 1, 9, .inr (.inl (fun _ => 0)))) : Option (Nat × va_E))) := by
  intro sz
  refine q_into (by decide) (Nat.le_of_ble_eq_true rfl) ?_
  intro p e s m below meth c ls hsz C0 V hl
  have hx := C0.1
  have hb := C0.2.1
  have hl : lv_has ls 4 [(0, .ref qO0), (1, .int 1), (2, .int x1)] := hl
  have hF : q_un ws ws [116, 157, 168, 159, 160, 161] := q_u0
  refine lv_iload_n hx hb d_14_36_0 rfl (lv_at hl 1 rfl) ?_
  refine lv_if_ne (tgt := 59) hx hb d_14_36_1 (by decide) (fun c1 => ?_) (fun c1 => absurd c1 (by decide))
  refine lv_aload_n hx hb d_14_36_59 rfl (lv_at hl 0 rfl) ?_
  refine q_get (ci := 12) (j := 6) (v := .ref qO4) C0 V i_NM rfl rfl hO0 (by decide) w_2304 rfl d_14_36_60 ?_
  refine q_getN (ci := 14) (j := 6) (v := .ref qA28) C0 V i_DR rfl rfl hO4 (by decide) wo_2009 rfl d_14_36_63 ?_
  refine lv_iload_n hx hb d_14_36_66 rfl (lv_at hl 2 rfl) ?_
  refine q_iald C0 V hA28 (q_ix (x := x1.toInt) rfl (by have t1 : 0 ≤ x1.toInt := q_leI x1lo; have t2 : x1.toInt ≤ 9 := q_leI x1hi; omega) (by have t1 : 0 ≤ x1.toInt := q_leI x1lo; have t2 : x1.toInt ≤ 9 := q_leI x1hi; omega)) d_14_36_67 ?_
  refine q_ti (v := 0) (by first | rfl | decide | simp [upd, vp_updL, sb_cl0]) ?_
  refine lv_istore_n (lv' := [(3, .int 0), (0, .ref qO0), (1, .int 1), (2, .int x1)]) hx hb d_14_36_68 rfl hl (by decide) rfl (fun ls hl => ?_)
  refine lv_aload_n hx hb d_14_36_69 rfl (lv_at hl 1 rfl) ?_
  refine lv_aload_n hx hb d_14_36_70 rfl (lv_at hl 1 rfl) ?_
  refine lv_iload_n hx hb d_14_36_71 rfl (lv_at hl 3 rfl) ?_
  refine lv_aload_n hx hb d_14_36_72 rfl (lv_at hl 1 rfl) ?_
  refine q_get (ci := 12) (j := 11) (v := .ref qA9) C0 V i_NM rfl rfl hO0 (by decide) w_2309 rfl d_14_36_73 ?_
  refine q_goi V (q_runV (As := [.int x1, .ref qA9]) (rest := [.ref qO0]) (d := 1) (mc := 0) (ms := 0) (ci := 12) C0 V rfl LV_NM_303 (c_NM_isLong l D g ws qO0 qA9 qA1 qA2 qO3 qO4 qO5 qO6 qO7 qA8 qA24 qA25 qA26 qA27 qA28 qA29 qA30 qA31 qA32 qA33 x1 hO0 hA9 hO4 hA25 hA26 hA27 x1lo x1hi _) rfl rfl hO0 rfl hl.1 rfl (Nat.le_of_ble_eq_true rfl) ⟨by decide, by decide⟩ ⟨Nat.le_of_ble_eq_true rfl, Nat.le_of_ble_eq_true rfl⟩ d_14_36_76) (fun v4 u3 H locs hp2 V => ?_)
  obtain ⟨rfl, hg5, hA9⟩ := hp2
  replace hF := q_uc hF hg5 (q_sc (.tail _ (.tail _ (.head _))) (fun _ h => absurd h List.not_mem_nil))
  refine lv_if_eq (tgt := 92) hx hb d_14_36_79 (by decide) (fun c6 => absurd c6 (by decide)) (fun c6 => ?_)
  refine lv_iload_n hx hb d_14_36_82 rfl (lv_at hl 0 rfl) ?_
  refine lv_if_lt (tgt := 92) hx hb d_14_36_83 (by decide) (fun c7 => absurd c7 (by decide)) (fun c7 => ?_)
  refine lv_iload_n hx hb d_14_36_86 rfl (lv_at hl 0 rfl) ?_
  refine lv_bipush (v := 40) hx hb d_14_36_87 (by decide) ?_
  refine lv_icmp_le (tgt := 96) hx hb d_14_36_89 (by decide) (fun c8 => ?_) (fun c8 => absurd (by decide) c8)
  refine lv_iconst (v := 0) hx hb d_14_36_96 (by decide) ?_
  replace hO0 := (hg5 _ (q_nc (q_pd 116 168 rfl) List.not_mem_nil)).trans (hO0)
  refine q_put (ci := 12) (j := 0) (v := .int 0) (ty := .int) C0 V i_NM o_NM n_NM rfl rfl hO0 (by decide) w_2298 rfl rfl rfl rfl (Nat.le_of_ble_eq_true rfl) d_14_36_97 (fun H locs w9 hu10 hO0 V => ?_)
  replace hO0 : w9[116]? = (some (qO0, .inr (12, [.int 0, .ref qA1, .int 0, .ref qA2, .int 0, .ref qO3, .ref qO4, .ref qO5, .ref qO6, .ref qO7, .ref qA8, .ref qA9])) : Option (Nat × va_E)) := hO0
  replace hF := q_us hF hu10 (.head _)
  refine lv_aload_n hx hb d_14_36_100 rfl (lv_at hl 1 rfl) ?_
  refine q_get (ci := 12) (j := 0) (v := .int 0) C0 V i_NM rfl rfl hO0 (by decide) w_2298 rfl d_14_36_101 ?_
  refine lv_if_le (tgt := 111) hx hb d_14_36_104 (by decide) (fun c11 => ?_) (fun c11 => absurd (by decide) c11)
  refine lv_aload_n hx hb d_14_36_111 rfl (lv_at hl 1 rfl) ?_
  refine q_get (ci := 12) (j := 9) (v := .ref qO7) C0 V i_NM rfl rfl hO0 (by decide) w_2307 rfl d_14_36_112 ?_
  refine lv_aload_n hx hb d_14_36_115 rfl (lv_at hl 1 rfl) ?_
  refine q_get (ci := 12) (j := 11) (v := .ref qA9) C0 V i_NM rfl rfl hO0 (by decide) w_2309 rfl d_14_36_116 ?_
  refine lv_iconst (v := 0) hx hb d_14_36_119 (by decide) ?_
  replace hA9 := (hu10 _ (q_pd 168 116 rfl)).trans (hA9)
  refine q_lald C0 V hA9 (by unfold vp_in; decide) d_14_36_120 ?_
  refine q_tl (v := 0) (by first | rfl | decide | simp [upd, vp_updL, sb_cl0]) ?_
  refine lv_iload_n hx hb d_14_36_121 rfl (lv_at hl 0 rfl) ?_
  replace hO7 := (hu10 _ (q_pd 157 116 rfl)).trans ((hg5 _ (q_nc (q_pd 157 168 rfl) List.not_mem_nil)).trans (hO7))
  replace hA45 := (hu10 _ (q_pd 159 116 rfl)).trans ((hg5 _ (q_nc (q_pd 159 168 rfl) List.not_mem_nil)).trans (hA45))
  replace hA46 := (hu10 _ (q_pd 160 116 rfl)).trans ((hg5 _ (q_nc (q_pd 160 168 rfl) List.not_mem_nil)).trans (hA46))
  replace hA47 := (hu10 _ (q_pd 161 116 rfl)).trans ((hg5 _ (q_nc (q_pd 161 168 rfl) List.not_mem_nil)).trans (hA47))
  refine q_goi V (q_runV (As := [.long 0, .int 0]) (rest := []) (d := 2) (mc := 0) (ms := 0) (ci := 17) C0 V rfl LV_NM_307 (c_VR_decimal_JII l D g w9 157 159 160 161 qO7 qA44 qA45 qA46 qA47 qA48 qA49 qA50 qA51 qA52 hO7 hA45 hA46 hA47 (q_pd 159 160 rfl) (q_pd 159 161 rfl) (q_pd 160 161 rfl) _) rfl rfl hO7 rfl hl.1 rfl (Nat.le_of_ble_eq_true rfl) ⟨by decide, by decide⟩ ⟨Nat.le_of_ble_eq_true rfl, Nat.le_of_ble_eq_true rfl⟩ d_14_36_122) (fun v14 u13 H locs hp12 V => ?_)
  obtain ⟨rfl, hg15, hO7, hA45, hA46, hA47⟩ := hp12
  replace hF := q_uc hF hg15 (q_sc (.tail _ (.head _)) (q_sc (List.mem_of_getElem? (i := 3) rfl) (q_sc (List.mem_of_getElem? (i := 4) rfl) (q_sc (List.mem_of_getElem? (i := 5) rfl) (fun _ h => absurd h List.not_mem_nil)))))
  replace hO0 := (hg15 _ (q_nc (q_pd 116 157 rfl) (q_nc (q_pd 116 159 rfl) (q_nc (q_pd 116 160 rfl) (q_nc (q_pd 116 161 rfl) List.not_mem_nil))))).trans (hO0)
  replace hA9 := (hg15 _ (q_nc (q_pd 168 157 rfl) (q_nc (q_pd 168 159 rfl) (q_nc (q_pd 168 160 rfl) (q_nc (q_pd 168 161 rfl) List.not_mem_nil))))).trans (hA9)
  exact q_reti C0 V (⟨rfl, hF, hO0, hO7, hA9, hA45, hA46, hA47⟩) d_14_36_125
theorem d_14_37_0 : decode prog_14_method_37_code 0 = .ok (.iload_n 1, 1) := by decide +kernel
theorem d_14_37_1 : decode prog_14_method_37_code 1 = .ok (.ifCond .lt 48, 3) := by decide +kernel
theorem d_14_37_49 : decode prog_14_method_37_code 49 = .ok (.iconst 1, 1) := by decide +kernel
theorem d_14_37_50 : decode prog_14_method_37_code 50 = .ok (.goto 4, 3) := by decide +kernel
theorem d_14_37_54 : decode prog_14_method_37_code 54 = .ok (.istore_n 3, 1) := by decide +kernel
theorem d_14_37_55 : decode prog_14_method_37_code 55 = .ok (.aload_n 0, 1) := by decide +kernel
theorem d_14_37_56 : decode prog_14_method_37_code 56 = .ok (.iload_n 3, 1) := by decide +kernel
theorem d_14_37_57 : decode prog_14_method_37_code 57 = .ok (.ifCond .eq 7, 3) := by decide +kernel
theorem d_14_37_60 : decode prog_14_method_37_code 60 = .ok (.iconst 1, 1) := by decide +kernel
theorem d_14_37_61 : decode prog_14_method_37_code 61 = .ok (.goto 23, 3) := by decide +kernel
theorem d_14_37_84 : decode prog_14_method_37_code 84 = .ok (.putfield 58, 3) := by decide +kernel
theorem d_14_37_87 : decode prog_14_method_37_code 87 = .ok (.aload_n 0, 1) := by decide +kernel
theorem d_14_37_88 : decode prog_14_method_37_code 88 = .ok (.getfield 58, 3) := by decide +kernel
theorem d_14_37_91 : decode prog_14_method_37_code 91 = .ok (.ifCond .le 5, 3) := by decide +kernel
theorem d_14_37_94 : decode prog_14_method_37_code 94 = .ok (.iconst 0, 1) := by decide +kernel
theorem d_14_37_95 : decode prog_14_method_37_code 95 = .ok (.ireturn, 1) := by decide +kernel
theorem d_14_37_4 : decode prog_14_method_37_code 4 = .ok (.iload_n 1, 1) := by decide +kernel
theorem d_14_37_5 : decode prog_14_method_37_code 5 = .ok (.bipush 8, 2) := by decide +kernel
theorem d_14_37_7 : decode prog_14_method_37_code 7 = .ok (.if_icmp .gt 42, 3) := by decide +kernel
theorem d_14_37_10 : decode prog_14_method_37_code 10 = .ok (.iload_n 1, 1) := by decide +kernel
theorem d_14_37_11 : decode prog_14_method_37_code 11 = .ok (.iconst 2, 1) := by decide +kernel
theorem d_14_37_12 : decode prog_14_method_37_code 12 = .ok (.if_icmp .eq 37, 3) := by decide +kernel
theorem d_14_37_15 : decode prog_14_method_37_code 15 = .ok (.iload_n 1, 1) := by decide +kernel
theorem d_14_37_16 : decode prog_14_method_37_code 16 = .ok (.iconst 3, 1) := by decide +kernel
theorem d_14_37_17 : decode prog_14_method_37_code 17 = .ok (.if_icmp .eq 32, 3) := by decide +kernel
theorem d_14_37_20 : decode prog_14_method_37_code 20 = .ok (.iload_n 1, 1) := by decide +kernel
theorem d_14_37_21 : decode prog_14_method_37_code 21 = .ok (.iconst 2, 1) := by decide +kernel
theorem d_14_37_22 : decode prog_14_method_37_code 22 = .ok (.if_icmp .ge 10, 3) := by decide +kernel
theorem d_14_37_32 : decode prog_14_method_37_code 32 = .ok (.iload_n 1, 1) := by decide +kernel
theorem d_14_37_33 : decode prog_14_method_37_code 33 = .ok (.bipush 6, 2) := by decide +kernel
theorem d_14_37_35 : decode prog_14_method_37_code 35 = .ok (.if_icmp .ne 18, 3) := by decide +kernel
theorem d_14_37_53 : decode prog_14_method_37_code 53 = .ok (.iconst 0, 1) := by decide +kernel
theorem d_14_37_64 : decode prog_14_method_37_code 64 = .ok (.iload_n 1, 1) := by decide +kernel
theorem d_14_37_65 : decode prog_14_method_37_code 65 = .ok (.bipush 7, 2) := by decide +kernel
theorem d_14_37_67 : decode prog_14_method_37_code 67 = .ok (.if_icmp .ne 16, 3) := by decide +kernel
theorem d_14_37_83 : decode prog_14_method_37_code 83 = .ok (.iconst 0, 1) := by decide +kernel
theorem d_14_37_96 : decode prog_14_method_37_code 96 = .ok (.iload_n 1, 1) := by decide +kernel
theorem d_14_37_97 : decode prog_14_method_37_code 97 = .ok (.tableswitch 150 0 7 #[47, 47, 150, 150, 54, 62, 79, 88], 47) := by decide +kernel
theorem d_14_37_151 : decode prog_14_method_37_code 151 = .ok (.aload_n 0, 1) := by decide +kernel
theorem d_14_37_152 : decode prog_14_method_37_code 152 = .ok (.getfield 47, 3) := by decide +kernel
theorem d_14_37_155 : decode prog_14_method_37_code 155 = .ok (.invokevirtual 314, 3) := by decide +kernel
theorem w_3095 : (Cond.code ({ cls := "NumberHouseModel$DirectiveRows", name := "nothing", desc := "()I" } : MethodName) prog_16_method_7_code (1 : Nat) (some .int)) ∈ q_tbl := q_of 3095 (by decide +kernel) (by decide +kernel)
theorem w_3092 : (Cond.methodLink "NumberHouseModel" (314 : Nat) ({ cls := "NumberHouseModel$DirectiveRows", name := "nothing", desc := "()I" } : MethodName)) ∈ q_tbl := q_of 3092 (by decide +kernel) (by decide +kernel)
theorem w_3093 : (Cond.instanceMethod ({ cls := "NumberHouseModel$DirectiveRows", name := "nothing", desc := "()I" } : MethodName)) ∈ q_tbl := q_of 3093 (by decide +kernel) (by decide +kernel)
theorem w_3094 : (Cond.selects "NumberHouseModel$DirectiveRows" ({ cls := "NumberHouseModel$DirectiveRows", name := "nothing", desc := "()I" } : MethodName) ({ cls := "NumberHouseModel$DirectiveRows", name := "nothing", desc := "()I" } : MethodName)) ∈ q_tbl := q_of 3094 (by decide +kernel) (by decide +kernel)
theorem LV_NM_314 : q_LV "NumberHouseModel" 314 y_VR_nothing prog_16_method_7_code 1 (some .int) 0 := ⟨w_3095, w_19, w_3092, w_3093, w_3094, ⟨by decide, by decide, by decide +kernel⟩⟩
theorem d_14_37_158 : decode prog_14_method_37_code 158 = .ok (.ireturn, 1) := by decide +kernel
theorem d_14_37_159 : decode prog_14_method_37_code 159 = .ok (.aload_n 0, 1) := by decide +kernel
theorem d_14_37_160 : decode prog_14_method_37_code 160 = .ok (.getfield 47, 3) := by decide +kernel
theorem d_14_37_163 : decode prog_14_method_37_code 163 = .ok (.iload_n 2, 1) := by decide +kernel
theorem d_14_37_164 : decode prog_14_method_37_code 164 = .ok (.ifCond .eq 7, 3) := by decide +kernel
theorem d_14_37_171 : decode prog_14_method_37_code 171 = .ok (.iconst 0, 1) := by decide +kernel
theorem d_14_37_172 : decode prog_14_method_37_code 172 = .ok (.invokevirtual 317, 3) := by decide +kernel
theorem w_3099 : (Cond.code ({ cls := "NumberHouseModel$DirectiveRows", name := "truth", desc := "(Z)I" } : MethodName) prog_16_method_8_code (2 : Nat) (some .int)) ∈ q_tbl := q_of 3099 (by decide +kernel) (by decide +kernel)
theorem w_3096 : (Cond.methodLink "NumberHouseModel" (317 : Nat) ({ cls := "NumberHouseModel$DirectiveRows", name := "truth", desc := "(Z)I" } : MethodName)) ∈ q_tbl := q_of 3096 (by decide +kernel) (by decide +kernel)
theorem w_3097 : (Cond.instanceMethod ({ cls := "NumberHouseModel$DirectiveRows", name := "truth", desc := "(Z)I" } : MethodName)) ∈ q_tbl := q_of 3097 (by decide +kernel) (by decide +kernel)
theorem w_3098 : (Cond.selects "NumberHouseModel$DirectiveRows" ({ cls := "NumberHouseModel$DirectiveRows", name := "truth", desc := "(Z)I" } : MethodName) ({ cls := "NumberHouseModel$DirectiveRows", name := "truth", desc := "(Z)I" } : MethodName)) ∈ q_tbl := q_of 3098 (by decide +kernel) (by decide +kernel)
theorem LV_NM_317 : q_LV "NumberHouseModel" 317 y_VR_truth prog_16_method_8_code 2 (some .int) 1 := ⟨w_3099, w_19, w_3096, w_3097, w_3098, ⟨by decide, by decide, by decide +kernel⟩⟩
theorem d_14_37_175 : decode prog_14_method_37_code 175 = .ok (.ireturn, 1) := by decide +kernel
theorem d_14_37_167 : decode prog_14_method_37_code 167 = .ok (.iconst 1, 1) := by decide +kernel
theorem d_14_37_168 : decode prog_14_method_37_code 168 = .ok (.goto 4, 3) := by decide +kernel
theorem d_14_37_247 : decode prog_14_method_37_code 247 = .ok (.aload_n 0, 1) := by decide +kernel
theorem d_14_37_248 : decode prog_14_method_37_code 248 = .ok (.getfield 47, 3) := by decide +kernel
theorem d_14_37_251 : decode prog_14_method_37_code 251 = .ok (.iconst 0, 1) := by decide +kernel
theorem d_14_37_252 : decode prog_14_method_37_code 252 = .ok (.putfield 331, 3) := by decide +kernel
theorem wo_2204 : (Cond.fieldLinkNest "NumberHouseModel" (331 : Nat) "NumberHouseModel$DirectiveRows" "arguments" "I" "NumberHouseModel") ∈ q_odd := q_oo 2204 (by decide +kernel) (by decide +kernel)
theorem d_14_37_255 : decode prog_14_method_37_code 255 = .ok (.iconst 0, 1) := by decide +kernel
theorem d_14_37_256 : decode prog_14_method_37_code 256 = .ok (.ireturn, 1) := by decide +kernel
theorem d_14_37_70 : decode prog_14_method_37_code 70 = .ok (.aload_n 0, 1) := by decide +kernel
theorem d_14_37_71 : decode prog_14_method_37_code 71 = .ok (.getfield 62, 3) := by decide +kernel
theorem d_14_37_74 : decode prog_14_method_37_code 74 = .ok (.bipush 64, 2) := by decide +kernel
theorem d_14_37_76 : decode prog_14_method_37_code 76 = .ok (.if_icmp .le 7, 3) := by decide +kernel
theorem d_14_37_185 : decode prog_14_method_37_code 185 = .ok (.aload_n 0, 1) := by decide +kernel
theorem d_14_37_186 : decode prog_14_method_37_code 186 = .ok (.getfield 47, 3) := by decide +kernel
theorem d_14_37_189 : decode prog_14_method_37_code 189 = .ok (.aload_n 0, 1) := by decide +kernel
theorem d_14_37_190 : decode prog_14_method_37_code 190 = .ok (.getfield 7, 3) := by decide +kernel
theorem d_14_37_193 : decode prog_14_method_37_code 193 = .ok (.aload_n 0, 1) := by decide +kernel
theorem d_14_37_194 : decode prog_14_method_37_code 194 = .ok (.getfield 62, 3) := by decide +kernel
theorem d_14_37_197 : decode prog_14_method_37_code 197 = .ok (.aload_n 0, 1) := by decide +kernel
theorem d_14_37_198 : decode prog_14_method_37_code 198 = .ok (.getfield 47, 3) := by decide +kernel
theorem d_14_37_201 : decode prog_14_method_37_code 201 = .ok (.getfield 325, 3) := by decide +kernel
theorem d_14_37_204 : decode prog_14_method_37_code 204 = .ok (.invokestatic 90, 3) := by decide +kernel
theorem d_14_37_207 : decode prog_14_method_37_code 207 = .ok (.putfield 328, 3) := by decide +kernel
theorem d_14_37_210 : decode prog_14_method_37_code 210 = .ok (.aload_n 0, 1) := by decide +kernel
theorem d_14_37_211 : decode prog_14_method_37_code 211 = .ok (.getfield 47, 3) := by decide +kernel
theorem d_14_37_214 : decode prog_14_method_37_code 214 = .ok (.invokevirtual 329, 3) := by decide +kernel
theorem w_3107 : (Cond.code ({ cls := "NumberHouseModel$DirectiveRows", name := "text", desc := "()I" } : MethodName) prog_16_method_11_code (3 : Nat) (some .int)) ∈ q_tbl := q_of 3107 (by decide +kernel) (by decide +kernel)
theorem w_3104 : (Cond.methodLink "NumberHouseModel" (329 : Nat) ({ cls := "NumberHouseModel$DirectiveRows", name := "text", desc := "()I" } : MethodName)) ∈ q_tbl := q_of 3104 (by decide +kernel) (by decide +kernel)
theorem w_3105 : (Cond.instanceMethod ({ cls := "NumberHouseModel$DirectiveRows", name := "text", desc := "()I" } : MethodName)) ∈ q_tbl := q_of 3105 (by decide +kernel) (by decide +kernel)
theorem w_3106 : (Cond.selects "NumberHouseModel$DirectiveRows" ({ cls := "NumberHouseModel$DirectiveRows", name := "text", desc := "()I" } : MethodName) ({ cls := "NumberHouseModel$DirectiveRows", name := "text", desc := "()I" } : MethodName)) ∈ q_tbl := q_of 3106 (by decide +kernel) (by decide +kernel)
theorem LV_NM_329 : q_LV "NumberHouseModel" 329 y_VR_text prog_16_method_11_code 3 (some .int) 0 := ⟨w_3107, w_19, w_3104, w_3105, w_3106, ⟨by decide, by decide, by decide +kernel⟩⟩
theorem d_14_37_217 : decode prog_14_method_37_code 217 = .ok (.istore 4, 2) := by decide +kernel
theorem d_14_37_219 : decode prog_14_method_37_code 219 = .ok (.aload_n 0, 1) := by decide +kernel
theorem d_14_37_220 : decode prog_14_method_37_code 220 = .ok (.getfield 47, 3) := by decide +kernel
theorem d_14_37_223 : decode prog_14_method_37_code 223 = .ok (.iconst 0, 1) := by decide +kernel
theorem d_14_37_224 : decode prog_14_method_37_code 224 = .ok (.putfield 328, 3) := by decide +kernel
theorem d_14_37_227 : decode prog_14_method_37_code 227 = .ok (.aload_n 0, 1) := by decide +kernel
theorem d_14_37_228 : decode prog_14_method_37_code 228 = .ok (.iload 4, 2) := by decide +kernel
theorem d_14_37_230 : decode prog_14_method_37_code 230 = .ok (.ifCond .le 7, 3) := by decide +kernel
theorem d_14_37_233 : decode prog_14_method_37_code 233 = .ok (.iconst 0, 1) := by decide +kernel
theorem d_14_37_234 : decode prog_14_method_37_code 234 = .ok (.goto 7, 3) := by decide +kernel
theorem d_14_37_241 : decode prog_14_method_37_code 241 = .ok (.putfield 62, 3) := by decide +kernel
theorem d_14_37_244 : decode prog_14_method_37_code 244 = .ok (.iload 4, 2) := by decide +kernel
theorem d_14_37_246 : decode prog_14_method_37_code 246 = .ok (.ireturn, 1) := by decide +kernel
theorem d_14_37_38 : decode prog_14_method_37_code 38 = .ok (.iload_n 2, 1) := by decide +kernel
theorem d_14_37_39 : decode prog_14_method_37_code 39 = .ok (.ifCond .lt 10, 3) := by decide +kernel
theorem d_14_37_42 : decode prog_14_method_37_code 42 = .ok (.iload_n 2, 1) := by decide +kernel
theorem d_14_37_43 : decode prog_14_method_37_code 43 = .ok (.sipush 255, 3) := by decide +kernel
theorem d_14_37_46 : decode prog_14_method_37_code 46 = .ok (.if_icmp .le 7, 3) := by decide +kernel
theorem d_14_37_176 : decode prog_14_method_37_code 176 = .ok (.aload_n 0, 1) := by decide +kernel
theorem d_14_37_177 : decode prog_14_method_37_code 177 = .ok (.getfield 47, 3) := by decide +kernel
theorem d_14_37_180 : decode prog_14_method_37_code 180 = .ok (.iload_n 2, 1) := by decide +kernel
theorem d_14_37_181 : decode prog_14_method_37_code 181 = .ok (.invokevirtual 321, 3) := by decide +kernel
theorem w_3103 : (Cond.code ({ cls := "NumberHouseModel$DirectiveRows", name := "symbol", desc := "(I)I" } : MethodName) prog_16_method_9_code (2 : Nat) (some .int)) ∈ q_tbl := q_of 3103 (by decide +kernel) (by decide +kernel)
theorem w_3100 : (Cond.methodLink "NumberHouseModel" (321 : Nat) ({ cls := "NumberHouseModel$DirectiveRows", name := "symbol", desc := "(I)I" } : MethodName)) ∈ q_tbl := q_of 3100 (by decide +kernel) (by decide +kernel)
theorem w_3101 : (Cond.instanceMethod ({ cls := "NumberHouseModel$DirectiveRows", name := "symbol", desc := "(I)I" } : MethodName)) ∈ q_tbl := q_of 3101 (by decide +kernel) (by decide +kernel)
theorem w_3102 : (Cond.selects "NumberHouseModel$DirectiveRows" ({ cls := "NumberHouseModel$DirectiveRows", name := "symbol", desc := "(I)I" } : MethodName) ({ cls := "NumberHouseModel$DirectiveRows", name := "symbol", desc := "(I)I" } : MethodName)) ∈ q_tbl := q_of 3102 (by decide +kernel) (by decide +kernel)
theorem LV_NM_321 : q_LV "NumberHouseModel" 321 y_VR_symbol prog_16_method_9_code 2 (some .int) 1 := ⟨w_3103, w_19, w_3100, w_3101, w_3102, ⟨by decide, by decide, by decide +kernel⟩⟩
theorem d_14_37_184 : decode prog_14_method_37_code 184 = .ok (.ireturn, 1) := by decide +kernel
theorem d_14_37_25 : decode prog_14_method_37_code 25 = .ok (.iload_n 2, 1) := by decide +kernel
theorem d_14_37_26 : decode prog_14_method_37_code 26 = .ok (.invokestatic 70, 3) := by decide +kernel
theorem d_14_37_29 : decode prog_14_method_37_code 29 = .ok (.ifCond .ne 20, 3) := by decide +kernel
theorem d_14_37_144 : decode prog_14_method_37_code 144 = .ok (.aload_n 0, 1) := by decide +kernel
theorem d_14_37_145 : decode prog_14_method_37_code 145 = .ok (.iload_n 1, 1) := by decide +kernel
theorem d_14_37_146 : decode prog_14_method_37_code 146 = .ok (.iload_n 2, 1) := by decide +kernel
theorem d_14_37_147 : decode prog_14_method_37_code 147 = .ok (.invokevirtual 311, 3) := by decide +kernel
theorem w_3072 : (Cond.code ({ cls := "NumberHouseModel", name := "numeral", desc := "(II)I" } : MethodName) prog_14_method_36_code (4 : Nat) (some .int)) ∈ q_tbl := q_of 3072 (by decide +kernel) (by decide +kernel)
theorem w_3069 : (Cond.methodLink "NumberHouseModel" (311 : Nat) ({ cls := "NumberHouseModel", name := "numeral", desc := "(II)I" } : MethodName)) ∈ q_tbl := q_of 3069 (by decide +kernel) (by decide +kernel)
theorem w_3071 : (Cond.instanceMethod ({ cls := "NumberHouseModel", name := "numeral", desc := "(II)I" } : MethodName)) ∈ q_tbl := q_of 3071 (by decide +kernel) (by decide +kernel)
theorem ws_148 : Cond.selects "NumberHouseModel" (⟨"NumberHouseModel", "numeral", "(II)I"⟩ : MethodName) (⟨"NumberHouseModel", "numeral", "(II)I"⟩ : MethodName) ∈ q_tbl := q_ofs 148 (by decide +kernel) (by decide +kernel)
theorem LV_NM_311 : q_LV "NumberHouseModel" 311 y_NM_numeral prog_14_method_36_code 4 (some .int) 2 := ⟨w_3072, w_14, w_3069, w_3071, ws_148, ⟨by decide, by decide, by decide +kernel⟩⟩
theorem d_14_37_150 : decode prog_14_method_37_code 150 = .ok (.ireturn, 1) := by decide +kernel
def y_NM_argument : MethodName := ⟨"NumberHouseModel", "argument", "(II)I"⟩
set_option maxRecDepth 100000 in
set_option maxHeartbeats 4000000 in
/-- argument on a fresh object -/
theorem c_NM_argument (l : Launch) (D : va_G) (g : Nat → ClassId) (ws : va_W) ( qO0 qA1 qA2 qO3 qO4 qO5 qO6 qO7 qA8 qA9 qA10 qA11 qA12 qA13 qA14 qA15 qA16 qA17 qA18 qA19 qA20 qA21 qA22 qA23 qA24 qA25 qA26 qA27 qA28 qA29 qA30 qA31 qA32 qA33 qA44 qA45 qA46 qA47 qA48 qA49 qA50 qA51 qA52 : Nat) (x1 : Int32) (x2 : Int32) (hO0 : ws[116]? = (some (qO0, .inr (12, [.int 0, .ref qA1, .int 0, .ref qA2, .int 0, .ref qO3, .ref qO4, .ref qO5, .ref qO6, .ref qO7, .ref qA8, .ref qA9])) : Option (Nat × va_E))) (hO3 : ws[119]? = (some (qO3, .inr (13, [.int 0, .int 0, .ref qA10, .int 0, .ref qA11, .ref qA12, .ref qA13, .int 0, .ref qA14, .ref qA15, .ref qA16, .ref qA17, .ref qA18, .ref qA19, .ref qA20, .ref qA21, .int 0, .int 0, .ref qA22, .ref qA23, .int 0])) : Option (Nat × va_E))) (hO4 : ws[134]? = (some (qO4, .inr (14, [.int 0, .ref qA24, .int 0, .ref qA25, .ref qA26, .ref qA27, .ref qA28, .ref qA29, .int 0, .long 0, .int 0, .int 0, .ref qA30, .int 0, .ref qA31, .int 0, .ref qA32, .int 0, .ref qA33, .int 0, .int 0])) : Option (Nat × va_E))) (hO7 : ws[157]? = (some (qO7, .inr (17, [.int 0, .ref qA44, .int 0, .int 0, .ref qA45, .ref qA46, .ref qA47, .ref qA48, .ref qA49, .int 0, .ref qA50, .int 0, .int 0, .int (-1), .int 0, .int 0, .int 0, .int 0, .int 0, .int 0, .int 0, .int 0, .int 0, .int 0, .ref qA51, .int 0, .int 0, .int 0, .ref qA52, .int 0, .int 0])) : Option (Nat × va_E))) (hA9 : ws[168]? = (some (qA9, .inl (g 1, 1, .inr (.inl (fun _ => 0)))) : Option (Nat × va_E))) (hA11 : ws[121]? = (some (qA11, .inl (g 0, 1408, .inl (fun _ => 0))) : Option (Nat × va_E))) (hA12 : ws[122]? = (some (qA12, .inl (g 3, 11, .inl (fun _ => 0))) : Option (Nat × va_E))) (hA25 : ws[136]? = (some (qA25, .inl (g 0, 10000, .inl (fun _ => 0))) : Option (Nat × va_E))) (hA26 : ws[137]? = (some (qA26, .inl (g 0, 10, .inl (upd (upd (upd (upd (upd (upd (upd (upd (upd (upd (fun _ => 0) 0 1) 1 1) 2 1) 3 1) 4 1) 5 1) 6 1) 7 1) 8 1) 9 1))) : Option (Nat × va_E))) (hA27 : ws[138]? = (some (qA27, .inl (g 3, 10, .inl (fun _ => 0))) : Option (Nat × va_E))) (hA28 : ws[139]? = (some (qA28, .inl (g 0, 10, .inl (fun _ => 0))) : Option (Nat × va_E))) (hA45 : ws[159]? = (some (qA45, .inl (g 0, 9, .inl (fun _ => 0))) : Option (Nat × va_E))) (hA46 : ws[160]? = (some (qA46, .inl (g 0, 9, .inl (fun _ => 0))) : Option (Nat × va_E))) (hA47 : ws[161]? = (some (qA47, .inl (g 1, 9, .inr (.inl (fun _ => 0)))) : Option (Nat × va_E))) : q_mI l y_NM_argument prog_14_method_37_code 5 (.int) 4 0 0 D g [.ref qO0, .int x1, .int x2] ws (fun r u => ∃ (t0 z2 z4 : Int32), u[116]? = (some (qO0, .inr (12, [.int t0, .ref qA1, .int z2, .ref qA2, .int z4, .ref qO3, .ref qO4, .ref qO5, .ref qO6, .ref qO7, .ref qA8, .ref qA9])) : Option (Nat × va_E)) ∧ ((t0.toInt = 0 ∧ ((0 ≤ x1.toInt ∧ x1.toInt ≤ 8) ∧ x1.toInt ≠ 2 ∧ x1.toInt ≠ 3 ∧ (x1.toInt ≤ 1 → (0 ≤ x2.toInt ∧ x2.toInt ≤ 9)) ∧ (x1.toInt = 6 → (0 ≤ x2.toInt ∧ x2.toInt ≤ 255))) ∧ ((x1.toInt = 8 ∧ r.toInt = 0) ∨ (x1.toInt ≠ 8 ∧ r.toInt = 1))) ∨ (t0.toInt = 1 ∧ ¬ ((0 ≤ x1.toInt ∧ x1.toInt ≤ 8) ∧ x1.toInt ≠ 2 ∧ x1.toInt ≠ 3 ∧ (x1.toInt ≤ 1 → (0 ≤ x2.toInt ∧ x2.toInt ≤ 9)) ∧ (x1.toInt = 6 → (0 ≤ x2.toInt ∧ x2.toInt ≤ 255))))) ∧ q_ge 169 ws u) := by
  intro sz
  refine q_into (by decide) (Nat.le_of_ble_eq_true rfl) ?_
  intro p e s m below meth c ls hsz C0 V hl
  have hx := C0.1
  have hb := C0.2.1
  have hl : lv_has ls 5 [(0, .ref qO0), (1, .int x1), (2, .int x2)] := hl
  have hF : q_ge 169 ws ws := q_g0
  refine lv_iload_n hx hb d_14_37_0 rfl (lv_at hl 1 rfl) ?_
  refine lv_if_lt (tgt := 49) hx hb d_14_37_1 (by decide) (fun c1 => ?_) (fun c1 => ?_)
  ·
    refine lv_iconst (v := 1) hx hb d_14_37_49 (by decide) ?_
    refine lv_goto (tgt := 54) hx hb d_14_37_50 (by decide) ?_
    refine lv_istore_n (lv' := [(3, .int 1), (0, .ref qO0), (1, .int x1), (2, .int x2)]) hx hb d_14_37_54 rfl hl (by decide) rfl (fun ls hl => ?_)
    refine lv_aload_n hx hb d_14_37_55 rfl (lv_at hl 1 rfl) ?_
    refine lv_iload_n hx hb d_14_37_56 rfl (lv_at hl 0 rfl) ?_
    refine lv_if_eq (tgt := 64) hx hb d_14_37_57 (by decide) (fun c2 => absurd c2 (by decide)) (fun c2 => ?_)
    refine lv_iconst (v := 1) hx hb d_14_37_60 (by decide) ?_
    refine lv_goto (tgt := 84) hx hb d_14_37_61 (by decide) ?_
    refine q_put (ci := 12) (j := 0) (v := .int 1) (ty := .int) C0 V i_NM o_NM n_NM rfl rfl hO0 (by decide) w_2298 rfl rfl rfl rfl (Nat.le_of_ble_eq_true rfl) d_14_37_84 (fun H locs w3 hu4 hO0 V => ?_)
    replace hO0 : w3[116]? = (some (qO0, .inr (12, [.int 1, .ref qA1, .int 0, .ref qA2, .int 0, .ref qO3, .ref qO4, .ref qO5, .ref qO6, .ref qO7, .ref qA8, .ref qA9])) : Option (Nat × va_E)) := hO0
    replace hF := q_gs hF hu4 (Nat.le_of_ble_eq_true rfl)
    refine lv_aload_n hx hb d_14_37_87 rfl (lv_at hl 1 rfl) ?_
    refine q_get (ci := 12) (j := 0) (v := .int 1) C0 V i_NM rfl rfl hO0 (by decide) w_2298 rfl d_14_37_88 ?_
    refine lv_if_le (tgt := 96) hx hb d_14_37_91 (by decide) (fun c5 => absurd c5 (by decide)) (fun c5 => ?_)
    refine lv_iconst (v := 0) hx hb d_14_37_94 (by decide) ?_
    exact q_reti C0 V (⟨1, 0, 0, hO0, (show ((1 : Int32).toInt = 0 ∧ ((0 ≤ x1.toInt ∧ x1.toInt ≤ 8) ∧ x1.toInt ≠ 2 ∧ x1.toInt ≠ 3 ∧ (x1.toInt ≤ 1 → (0 ≤ x2.toInt ∧ x2.toInt ≤ 9)) ∧ (x1.toInt = 6 → (0 ≤ x2.toInt ∧ x2.toInt ≤ 255))) ∧ ((x1.toInt = 8 ∧ (0 : Int32).toInt = 0) ∨ (x1.toInt ≠ 8 ∧ (0 : Int32).toInt = 1))) ∨ ((1 : Int32).toInt = 1 ∧ ¬ ((0 ≤ x1.toInt ∧ x1.toInt ≤ 8) ∧ x1.toInt ≠ 2 ∧ x1.toInt ≠ 3 ∧ (x1.toInt ≤ 1 → (0 ≤ x2.toInt ∧ x2.toInt ≤ 9)) ∧ (x1.toInt = 6 → (0 ≤ x2.toInt ∧ x2.toInt ≤ 255)))) from by have t1 : x1.toInt < 0 := q_ltI c1; have e0 : (1 : Int32).toInt = 1 := (by decide); have e1 : (0 : Int32).toInt = 0 := (by decide); omega), hF⟩) d_14_37_95
  ·
    refine lv_iload_n hx hb d_14_37_4 rfl (lv_at hl 1 rfl) ?_
    refine lv_bipush (v := 8) hx hb d_14_37_5 (by decide) ?_
    refine lv_icmp_gt (tgt := 49) hx hb d_14_37_7 (by decide) (fun c6 => ?_) (fun c6 => ?_)
    ·
      refine lv_iconst (v := 1) hx hb d_14_37_49 (by decide) ?_
      refine lv_goto (tgt := 54) hx hb d_14_37_50 (by decide) ?_
      refine lv_istore_n (lv' := [(3, .int 1), (0, .ref qO0), (1, .int x1), (2, .int x2)]) hx hb d_14_37_54 rfl hl (by decide) rfl (fun ls hl => ?_)
      refine lv_aload_n hx hb d_14_37_55 rfl (lv_at hl 1 rfl) ?_
      refine lv_iload_n hx hb d_14_37_56 rfl (lv_at hl 0 rfl) ?_
      refine lv_if_eq (tgt := 64) hx hb d_14_37_57 (by decide) (fun c7 => absurd c7 (by decide)) (fun c7 => ?_)
      refine lv_iconst (v := 1) hx hb d_14_37_60 (by decide) ?_
      refine lv_goto (tgt := 84) hx hb d_14_37_61 (by decide) ?_
      refine q_put (ci := 12) (j := 0) (v := .int 1) (ty := .int) C0 V i_NM o_NM n_NM rfl rfl hO0 (by decide) w_2298 rfl rfl rfl rfl (Nat.le_of_ble_eq_true rfl) d_14_37_84 (fun H locs w8 hu9 hO0 V => ?_)
      replace hO0 : w8[116]? = (some (qO0, .inr (12, [.int 1, .ref qA1, .int 0, .ref qA2, .int 0, .ref qO3, .ref qO4, .ref qO5, .ref qO6, .ref qO7, .ref qA8, .ref qA9])) : Option (Nat × va_E)) := hO0
      replace hF := q_gs hF hu9 (Nat.le_of_ble_eq_true rfl)
      refine lv_aload_n hx hb d_14_37_87 rfl (lv_at hl 1 rfl) ?_
      refine q_get (ci := 12) (j := 0) (v := .int 1) C0 V i_NM rfl rfl hO0 (by decide) w_2298 rfl d_14_37_88 ?_
      refine lv_if_le (tgt := 96) hx hb d_14_37_91 (by decide) (fun c10 => absurd c10 (by decide)) (fun c10 => ?_)
      refine lv_iconst (v := 0) hx hb d_14_37_94 (by decide) ?_
      exact q_reti C0 V (⟨1, 0, 0, hO0, (show ((1 : Int32).toInt = 0 ∧ ((0 ≤ x1.toInt ∧ x1.toInt ≤ 8) ∧ x1.toInt ≠ 2 ∧ x1.toInt ≠ 3 ∧ (x1.toInt ≤ 1 → (0 ≤ x2.toInt ∧ x2.toInt ≤ 9)) ∧ (x1.toInt = 6 → (0 ≤ x2.toInt ∧ x2.toInt ≤ 255))) ∧ ((x1.toInt = 8 ∧ (0 : Int32).toInt = 0) ∨ (x1.toInt ≠ 8 ∧ (0 : Int32).toInt = 1))) ∨ ((1 : Int32).toInt = 1 ∧ ¬ ((0 ≤ x1.toInt ∧ x1.toInt ≤ 8) ∧ x1.toInt ≠ 2 ∧ x1.toInt ≠ 3 ∧ (x1.toInt ≤ 1 → (0 ≤ x2.toInt ∧ x2.toInt ≤ 9)) ∧ (x1.toInt = 6 → (0 ≤ x2.toInt ∧ x2.toInt ≤ 255)))) from by have t1 : 0 ≤ x1.toInt := q_nltI c1; have t2 : 8 < x1.toInt := q_ltI c6; have e0 : (1 : Int32).toInt = 1 := (by decide); have e1 : (0 : Int32).toInt = 0 := (by decide); omega), hF⟩) d_14_37_95
    ·
      refine lv_iload_n hx hb d_14_37_10 rfl (lv_at hl 1 rfl) ?_
      refine lv_iconst (v := 2) hx hb d_14_37_11 (by decide) ?_
      refine lv_icmp_eq (tgt := 49) hx hb d_14_37_12 (by decide) (fun c11 => ?_) (fun c11 => ?_)
      ·
        refine lv_iconst (v := 1) hx hb d_14_37_49 (by decide) ?_
        refine lv_goto (tgt := 54) hx hb d_14_37_50 (by decide) ?_
        refine lv_istore_n (lv' := [(3, .int 1), (0, .ref qO0), (1, .int x1), (2, .int x2)]) hx hb d_14_37_54 rfl hl (by decide) rfl (fun ls hl => ?_)
        refine lv_aload_n hx hb d_14_37_55 rfl (lv_at hl 1 rfl) ?_
        refine lv_iload_n hx hb d_14_37_56 rfl (lv_at hl 0 rfl) ?_
        refine lv_if_eq (tgt := 64) hx hb d_14_37_57 (by decide) (fun c12 => absurd c12 (by decide)) (fun c12 => ?_)
        refine lv_iconst (v := 1) hx hb d_14_37_60 (by decide) ?_
        refine lv_goto (tgt := 84) hx hb d_14_37_61 (by decide) ?_
        refine q_put (ci := 12) (j := 0) (v := .int 1) (ty := .int) C0 V i_NM o_NM n_NM rfl rfl hO0 (by decide) w_2298 rfl rfl rfl rfl (Nat.le_of_ble_eq_true rfl) d_14_37_84 (fun H locs w13 hu14 hO0 V => ?_)
        replace hO0 : w13[116]? = (some (qO0, .inr (12, [.int 1, .ref qA1, .int 0, .ref qA2, .int 0, .ref qO3, .ref qO4, .ref qO5, .ref qO6, .ref qO7, .ref qA8, .ref qA9])) : Option (Nat × va_E)) := hO0
        replace hF := q_gs hF hu14 (Nat.le_of_ble_eq_true rfl)
        refine lv_aload_n hx hb d_14_37_87 rfl (lv_at hl 1 rfl) ?_
        refine q_get (ci := 12) (j := 0) (v := .int 1) C0 V i_NM rfl rfl hO0 (by decide) w_2298 rfl d_14_37_88 ?_
        refine lv_if_le (tgt := 96) hx hb d_14_37_91 (by decide) (fun c15 => absurd c15 (by decide)) (fun c15 => ?_)
        refine lv_iconst (v := 0) hx hb d_14_37_94 (by decide) ?_
        exact q_reti C0 V (⟨1, 0, 0, hO0, (show ((1 : Int32).toInt = 0 ∧ ((0 ≤ x1.toInt ∧ x1.toInt ≤ 8) ∧ x1.toInt ≠ 2 ∧ x1.toInt ≠ 3 ∧ (x1.toInt ≤ 1 → (0 ≤ x2.toInt ∧ x2.toInt ≤ 9)) ∧ (x1.toInt = 6 → (0 ≤ x2.toInt ∧ x2.toInt ≤ 255))) ∧ ((x1.toInt = 8 ∧ (0 : Int32).toInt = 0) ∨ (x1.toInt ≠ 8 ∧ (0 : Int32).toInt = 1))) ∨ ((1 : Int32).toInt = 1 ∧ ¬ ((0 ≤ x1.toInt ∧ x1.toInt ≤ 8) ∧ x1.toInt ≠ 2 ∧ x1.toInt ≠ 3 ∧ (x1.toInt ≤ 1 → (0 ≤ x2.toInt ∧ x2.toInt ≤ 9)) ∧ (x1.toInt = 6 → (0 ≤ x2.toInt ∧ x2.toInt ≤ 255)))) from by have t1 : 0 ≤ x1.toInt := q_nltI c1; have t2 : x1.toInt ≤ 8 := q_nltI c6; have t3 : x1.toInt = 2 := q_eqI c11; have e0 : (1 : Int32).toInt = 1 := (by decide); have e1 : (0 : Int32).toInt = 0 := (by decide); omega), hF⟩) d_14_37_95
      ·
        refine lv_iload_n hx hb d_14_37_15 rfl (lv_at hl 1 rfl) ?_
        refine lv_iconst (v := 3) hx hb d_14_37_16 (by decide) ?_
        refine lv_icmp_eq (tgt := 49) hx hb d_14_37_17 (by decide) (fun c16 => ?_) (fun c16 => ?_)
        ·
          refine lv_iconst (v := 1) hx hb d_14_37_49 (by decide) ?_
          refine lv_goto (tgt := 54) hx hb d_14_37_50 (by decide) ?_
          refine lv_istore_n (lv' := [(3, .int 1), (0, .ref qO0), (1, .int x1), (2, .int x2)]) hx hb d_14_37_54 rfl hl (by decide) rfl (fun ls hl => ?_)
          refine lv_aload_n hx hb d_14_37_55 rfl (lv_at hl 1 rfl) ?_
          refine lv_iload_n hx hb d_14_37_56 rfl (lv_at hl 0 rfl) ?_
          refine lv_if_eq (tgt := 64) hx hb d_14_37_57 (by decide) (fun c17 => absurd c17 (by decide)) (fun c17 => ?_)
          refine lv_iconst (v := 1) hx hb d_14_37_60 (by decide) ?_
          refine lv_goto (tgt := 84) hx hb d_14_37_61 (by decide) ?_
          refine q_put (ci := 12) (j := 0) (v := .int 1) (ty := .int) C0 V i_NM o_NM n_NM rfl rfl hO0 (by decide) w_2298 rfl rfl rfl rfl (Nat.le_of_ble_eq_true rfl) d_14_37_84 (fun H locs w18 hu19 hO0 V => ?_)
          replace hO0 : w18[116]? = (some (qO0, .inr (12, [.int 1, .ref qA1, .int 0, .ref qA2, .int 0, .ref qO3, .ref qO4, .ref qO5, .ref qO6, .ref qO7, .ref qA8, .ref qA9])) : Option (Nat × va_E)) := hO0
          replace hF := q_gs hF hu19 (Nat.le_of_ble_eq_true rfl)
          refine lv_aload_n hx hb d_14_37_87 rfl (lv_at hl 1 rfl) ?_
          refine q_get (ci := 12) (j := 0) (v := .int 1) C0 V i_NM rfl rfl hO0 (by decide) w_2298 rfl d_14_37_88 ?_
          refine lv_if_le (tgt := 96) hx hb d_14_37_91 (by decide) (fun c20 => absurd c20 (by decide)) (fun c20 => ?_)
          refine lv_iconst (v := 0) hx hb d_14_37_94 (by decide) ?_
          exact q_reti C0 V (⟨1, 0, 0, hO0, (show ((1 : Int32).toInt = 0 ∧ ((0 ≤ x1.toInt ∧ x1.toInt ≤ 8) ∧ x1.toInt ≠ 2 ∧ x1.toInt ≠ 3 ∧ (x1.toInt ≤ 1 → (0 ≤ x2.toInt ∧ x2.toInt ≤ 9)) ∧ (x1.toInt = 6 → (0 ≤ x2.toInt ∧ x2.toInt ≤ 255))) ∧ ((x1.toInt = 8 ∧ (0 : Int32).toInt = 0) ∨ (x1.toInt ≠ 8 ∧ (0 : Int32).toInt = 1))) ∨ ((1 : Int32).toInt = 1 ∧ ¬ ((0 ≤ x1.toInt ∧ x1.toInt ≤ 8) ∧ x1.toInt ≠ 2 ∧ x1.toInt ≠ 3 ∧ (x1.toInt ≤ 1 → (0 ≤ x2.toInt ∧ x2.toInt ≤ 9)) ∧ (x1.toInt = 6 → (0 ≤ x2.toInt ∧ x2.toInt ≤ 255)))) from by have t1 : 0 ≤ x1.toInt := q_nltI c1; have t2 : x1.toInt ≤ 8 := q_nltI c6; have t3 : x1.toInt ≠ 2 := q_neI c11; have t4 : x1.toInt = 3 := q_eqI c16; have e0 : (1 : Int32).toInt = 1 := (by decide); have e1 : (0 : Int32).toInt = 0 := (by decide); omega), hF⟩) d_14_37_95
        ·
          refine lv_iload_n hx hb d_14_37_20 rfl (lv_at hl 1 rfl) ?_
          refine lv_iconst (v := 2) hx hb d_14_37_21 (by decide) ?_
          refine lv_icmp_ge (tgt := 32) hx hb d_14_37_22 (by decide) (fun c21 => ?_) (fun c21 => ?_)
          ·
            refine lv_iload_n hx hb d_14_37_32 rfl (lv_at hl 1 rfl) ?_
            refine lv_bipush (v := 6) hx hb d_14_37_33 (by decide) ?_
            refine lv_icmp_ne (tgt := 53) hx hb d_14_37_35 (by decide) (fun c22 => ?_) (fun c22 => ?_)
            ·
              refine lv_iconst (v := 0) hx hb d_14_37_53 (by decide) ?_
              refine lv_istore_n (lv' := [(3, .int 0), (0, .ref qO0), (1, .int x1), (2, .int x2)]) hx hb d_14_37_54 rfl hl (by decide) rfl (fun ls hl => ?_)
              refine lv_aload_n hx hb d_14_37_55 rfl (lv_at hl 1 rfl) ?_
              refine lv_iload_n hx hb d_14_37_56 rfl (lv_at hl 0 rfl) ?_
              refine lv_if_eq (tgt := 64) hx hb d_14_37_57 (by decide) (fun c23 => ?_) (fun c23 => absurd (by decide) c23)
              refine lv_iload_n hx hb d_14_37_64 rfl (lv_at hl 2 rfl) ?_
              refine lv_bipush (v := 7) hx hb d_14_37_65 (by decide) ?_
              refine lv_icmp_ne (tgt := 83) hx hb d_14_37_67 (by decide) (fun c24 => ?_) (fun c24 => ?_)
              ·
                refine lv_iconst (v := 0) hx hb d_14_37_83 (by decide) ?_
                refine q_put (ci := 12) (j := 0) (v := .int 0) (ty := .int) C0 V i_NM o_NM n_NM rfl rfl hO0 (by decide) w_2298 rfl rfl rfl rfl (Nat.le_of_ble_eq_true rfl) d_14_37_84 (fun H locs w25 hu26 hO0 V => ?_)
                replace hO0 : w25[116]? = (some (qO0, .inr (12, [.int 0, .ref qA1, .int 0, .ref qA2, .int 0, .ref qO3, .ref qO4, .ref qO5, .ref qO6, .ref qO7, .ref qA8, .ref qA9])) : Option (Nat × va_E)) := hO0
                replace hF := q_gs hF hu26 (Nat.le_of_ble_eq_true rfl)
                refine lv_aload_n hx hb d_14_37_87 rfl (lv_at hl 1 rfl) ?_
                refine q_get (ci := 12) (j := 0) (v := .int 0) C0 V i_NM rfl rfl hO0 (by decide) w_2298 rfl d_14_37_88 ?_
                refine lv_if_le (tgt := 96) hx hb d_14_37_91 (by decide) (fun c27 => ?_) (fun c27 => absurd (by decide) c27)
                refine lv_iload_n hx hb d_14_37_96 rfl (lv_at hl 2 rfl) ?_
                by_cases c28 : x1 = 4
                ·
                  refine q_ti (v := 4) c28 ?_
                  refine lv_tableIn (tgt := 151) (off := 54) hx hb d_14_37_97 (by decide) (by decide) (by decide) (by decide) ?_
                  refine lv_aload_n hx hb d_14_37_151 rfl (lv_at hl 1 rfl) ?_
                  refine q_get (ci := 12) (j := 9) (v := .ref qO7) C0 V i_NM rfl rfl hO0 (by decide) w_2307 rfl d_14_37_152 ?_
                  replace hO7 := (hu26 _ (q_pd 157 116 rfl)).trans (hO7)
                  replace hA45 := (hu26 _ (q_pd 159 116 rfl)).trans (hA45)
                  replace hA46 := (hu26 _ (q_pd 160 116 rfl)).trans (hA46)
                  replace hA47 := (hu26 _ (q_pd 161 116 rfl)).trans (hA47)
                  refine q_goi V (q_runV (As := []) (rest := []) (d := 2) (mc := 0) (ms := 0) (ci := 17) C0 V rfl LV_NM_314 (c_VR_nothing l D g w25 157 159 160 161 qO7 qA44 qA45 qA46 qA47 qA48 qA49 qA50 qA51 qA52 hO7 hA45 hA46 hA47 (q_pd 159 160 rfl) (q_pd 159 161 rfl) (q_pd 160 161 rfl) _) rfl rfl hO7 rfl hl.1 rfl (Nat.le_of_ble_eq_true rfl) ⟨by decide, by decide⟩ ⟨Nat.le_of_ble_eq_true rfl, Nat.le_of_ble_eq_true rfl⟩ d_14_37_155) (fun v31 u30 H locs hp29 V => ?_)
                  obtain ⟨rfl, hg32, hO7, hA45, hA46, hA47⟩ := hp29
                  replace hF := q_gc hF hg32 (q_al (Nat.le_of_ble_eq_true rfl) (q_al (Nat.le_of_ble_eq_true rfl) (q_al (Nat.le_of_ble_eq_true rfl) (q_al (Nat.le_of_ble_eq_true rfl) (fun _ h => absurd h List.not_mem_nil)))))
                  replace hO0 := (hg32 _ (q_nc (q_pd 116 157 rfl) (q_nc (q_pd 116 159 rfl) (q_nc (q_pd 116 160 rfl) (q_nc (q_pd 116 161 rfl) List.not_mem_nil))))).trans (hO0)
                  exact q_reti C0 V (⟨0, 0, 0, hO0, (show ((0 : Int32).toInt = 0 ∧ ((0 ≤ x1.toInt ∧ x1.toInt ≤ 8) ∧ x1.toInt ≠ 2 ∧ x1.toInt ≠ 3 ∧ (x1.toInt ≤ 1 → (0 ≤ x2.toInt ∧ x2.toInt ≤ 9)) ∧ (x1.toInt = 6 → (0 ≤ x2.toInt ∧ x2.toInt ≤ 255))) ∧ ((x1.toInt = 8 ∧ (1 : Int32).toInt = 0) ∨ (x1.toInt ≠ 8 ∧ (1 : Int32).toInt = 1))) ∨ ((0 : Int32).toInt = 1 ∧ ¬ ((0 ≤ x1.toInt ∧ x1.toInt ≤ 8) ∧ x1.toInt ≠ 2 ∧ x1.toInt ≠ 3 ∧ (x1.toInt ≤ 1 → (0 ≤ x2.toInt ∧ x2.toInt ≤ 9)) ∧ (x1.toInt = 6 → (0 ≤ x2.toInt ∧ x2.toInt ≤ 255)))) from by have t1 : 0 ≤ x1.toInt := q_nltI c1; have t2 : x1.toInt ≤ 8 := q_nltI c6; have t3 : x1.toInt ≠ 2 := q_neI c11; have t4 : x1.toInt ≠ 3 := q_neI c16; have t5 : 2 ≤ x1.toInt := q_leI c21; have t6 : x1.toInt ≠ 6 := q_neI c22; have t7 : x1.toInt ≠ 7 := q_neI c24; have t8 : x1.toInt = 4 := q_eqI c28; have e0 : (0 : Int32).toInt = 0 := (by decide); have e1 : (1 : Int32).toInt = 1 := (by decide); omega), hF⟩) d_14_37_158
                by_cases c33 : x1 = 5
                ·
                  refine q_ti (v := 5) c33 ?_
                  refine lv_tableIn (tgt := 159) (off := 62) hx hb d_14_37_97 (by decide) (by decide) (by decide) (by decide) ?_
                  refine lv_aload_n hx hb d_14_37_159 rfl (lv_at hl 1 rfl) ?_
                  refine q_get (ci := 12) (j := 9) (v := .ref qO7) C0 V i_NM rfl rfl hO0 (by decide) w_2307 rfl d_14_37_160 ?_
                  refine lv_iload_n hx hb d_14_37_163 rfl (lv_at hl 3 rfl) ?_
                  refine lv_if_eq (tgt := 171) hx hb d_14_37_164 (by decide) (fun c34 => ?_) (fun c34 => ?_)
                  ·
                    refine lv_iconst (v := 0) hx hb d_14_37_171 (by decide) ?_
                    replace hO7 := (hu26 _ (q_pd 157 116 rfl)).trans (hO7)
                    replace hA45 := (hu26 _ (q_pd 159 116 rfl)).trans (hA45)
                    replace hA46 := (hu26 _ (q_pd 160 116 rfl)).trans (hA46)
                    replace hA47 := (hu26 _ (q_pd 161 116 rfl)).trans (hA47)
                    refine q_goi V (q_runV (As := [.int 0]) (rest := []) (d := 2) (mc := 0) (ms := 0) (ci := 17) C0 V rfl LV_NM_317 (c_VR_truth l D g w25 157 159 160 161 qO7 qA44 qA45 qA46 qA47 qA48 qA49 qA50 qA51 qA52 hO7 hA45 hA46 hA47 (q_pd 159 160 rfl) (q_pd 159 161 rfl) (q_pd 160 161 rfl) _) rfl rfl hO7 rfl hl.1 rfl (Nat.le_of_ble_eq_true rfl) ⟨by decide, by decide⟩ ⟨Nat.le_of_ble_eq_true rfl, Nat.le_of_ble_eq_true rfl⟩ d_14_37_172) (fun v37 u36 H locs hp35 V => ?_)
                    obtain ⟨rfl, hg38, hO7, hA45, hA46, hA47⟩ := hp35
                    replace hF := q_gc hF hg38 (q_al (Nat.le_of_ble_eq_true rfl) (q_al (Nat.le_of_ble_eq_true rfl) (q_al (Nat.le_of_ble_eq_true rfl) (q_al (Nat.le_of_ble_eq_true rfl) (fun _ h => absurd h List.not_mem_nil)))))
                    replace hO0 := (hg38 _ (q_nc (q_pd 116 157 rfl) (q_nc (q_pd 116 159 rfl) (q_nc (q_pd 116 160 rfl) (q_nc (q_pd 116 161 rfl) List.not_mem_nil))))).trans (hO0)
                    exact q_reti C0 V (⟨0, 0, 0, hO0, (show ((0 : Int32).toInt = 0 ∧ ((0 ≤ x1.toInt ∧ x1.toInt ≤ 8) ∧ x1.toInt ≠ 2 ∧ x1.toInt ≠ 3 ∧ (x1.toInt ≤ 1 → (0 ≤ x2.toInt ∧ x2.toInt ≤ 9)) ∧ (x1.toInt = 6 → (0 ≤ x2.toInt ∧ x2.toInt ≤ 255))) ∧ ((x1.toInt = 8 ∧ (1 : Int32).toInt = 0) ∨ (x1.toInt ≠ 8 ∧ (1 : Int32).toInt = 1))) ∨ ((0 : Int32).toInt = 1 ∧ ¬ ((0 ≤ x1.toInt ∧ x1.toInt ≤ 8) ∧ x1.toInt ≠ 2 ∧ x1.toInt ≠ 3 ∧ (x1.toInt ≤ 1 → (0 ≤ x2.toInt ∧ x2.toInt ≤ 9)) ∧ (x1.toInt = 6 → (0 ≤ x2.toInt ∧ x2.toInt ≤ 255)))) from by have t1 : 0 ≤ x1.toInt := q_nltI c1; have t2 : x1.toInt ≤ 8 := q_nltI c6; have t3 : x1.toInt ≠ 2 := q_neI c11; have t4 : x1.toInt ≠ 3 := q_neI c16; have t5 : 2 ≤ x1.toInt := q_leI c21; have t6 : x1.toInt ≠ 6 := q_neI c22; have t7 : x1.toInt ≠ 7 := q_neI c24; have t8 : x1.toInt ≠ 4 := q_neI c28; have t9 : x1.toInt = 5 := q_eqI c33; have t10 : x2.toInt = 0 := q_eqI c34; have e0 : (0 : Int32).toInt = 0 := (by decide); have e1 : (1 : Int32).toInt = 1 := (by decide); omega), hF⟩) d_14_37_175
                  ·
                    refine lv_iconst (v := 1) hx hb d_14_37_167 (by decide) ?_
                    refine lv_goto (tgt := 172) hx hb d_14_37_168 (by decide) ?_
                    replace hO7 := (hu26 _ (q_pd 157 116 rfl)).trans (hO7)
                    replace hA45 := (hu26 _ (q_pd 159 116 rfl)).trans (hA45)
                    replace hA46 := (hu26 _ (q_pd 160 116 rfl)).trans (hA46)
                    replace hA47 := (hu26 _ (q_pd 161 116 rfl)).trans (hA47)
                    refine q_goi V (q_runV (As := [.int 1]) (rest := []) (d := 2) (mc := 0) (ms := 0) (ci := 17) C0 V rfl LV_NM_317 (c_VR_truth_2 l D g w25 157 159 160 161 qO7 qA44 qA45 qA46 qA47 qA48 qA49 qA50 qA51 qA52 hO7 hA45 hA46 hA47 (q_pd 159 160 rfl) (q_pd 159 161 rfl) (q_pd 160 161 rfl) _) rfl rfl hO7 rfl hl.1 rfl (Nat.le_of_ble_eq_true rfl) ⟨by decide, by decide⟩ ⟨Nat.le_of_ble_eq_true rfl, Nat.le_of_ble_eq_true rfl⟩ d_14_37_172) (fun v41 u40 H locs hp39 V => ?_)
                    obtain ⟨rfl, hg42, hO7, hA45, hA46, hA47⟩ := hp39
                    replace hF := q_gc hF hg42 (q_al (Nat.le_of_ble_eq_true rfl) (q_al (Nat.le_of_ble_eq_true rfl) (q_al (Nat.le_of_ble_eq_true rfl) (q_al (Nat.le_of_ble_eq_true rfl) (fun _ h => absurd h List.not_mem_nil)))))
                    replace hO0 := (hg42 _ (q_nc (q_pd 116 157 rfl) (q_nc (q_pd 116 159 rfl) (q_nc (q_pd 116 160 rfl) (q_nc (q_pd 116 161 rfl) List.not_mem_nil))))).trans (hO0)
                    exact q_reti C0 V (⟨0, 0, 0, hO0, (show ((0 : Int32).toInt = 0 ∧ ((0 ≤ x1.toInt ∧ x1.toInt ≤ 8) ∧ x1.toInt ≠ 2 ∧ x1.toInt ≠ 3 ∧ (x1.toInt ≤ 1 → (0 ≤ x2.toInt ∧ x2.toInt ≤ 9)) ∧ (x1.toInt = 6 → (0 ≤ x2.toInt ∧ x2.toInt ≤ 255))) ∧ ((x1.toInt = 8 ∧ (1 : Int32).toInt = 0) ∨ (x1.toInt ≠ 8 ∧ (1 : Int32).toInt = 1))) ∨ ((0 : Int32).toInt = 1 ∧ ¬ ((0 ≤ x1.toInt ∧ x1.toInt ≤ 8) ∧ x1.toInt ≠ 2 ∧ x1.toInt ≠ 3 ∧ (x1.toInt ≤ 1 → (0 ≤ x2.toInt ∧ x2.toInt ≤ 9)) ∧ (x1.toInt = 6 → (0 ≤ x2.toInt ∧ x2.toInt ≤ 255)))) from by have t1 : 0 ≤ x1.toInt := q_nltI c1; have t2 : x1.toInt ≤ 8 := q_nltI c6; have t3 : x1.toInt ≠ 2 := q_neI c11; have t4 : x1.toInt ≠ 3 := q_neI c16; have t5 : 2 ≤ x1.toInt := q_leI c21; have t6 : x1.toInt ≠ 6 := q_neI c22; have t7 : x1.toInt ≠ 7 := q_neI c24; have t8 : x1.toInt ≠ 4 := q_neI c28; have t9 : x1.toInt = 5 := q_eqI c33; have t10 : x2.toInt ≠ 0 := q_neI c34; have e0 : (0 : Int32).toInt = 0 := (by decide); have e1 : (1 : Int32).toInt = 1 := (by decide); omega), hF⟩) d_14_37_175
                refine lv_tableOut (tgt := 247) hx hb d_14_37_97 (by have z0 : x1.toInt ≠ 0 := q_neI (show ¬ x1 = (0 : Int32) from (q_Ine (x := x1.toInt) (y := 0) rfl (by decide) (by have t1 : 0 ≤ x1.toInt := q_nltI c1; have t2 : x1.toInt ≤ 8 := q_nltI c6; have t3 : x1.toInt ≠ 2 := q_neI c11; have t4 : x1.toInt ≠ 3 := q_neI c16; have t5 : 2 ≤ x1.toInt := q_leI c21; have t6 : x1.toInt ≠ 6 := q_neI c22; have t7 : x1.toInt ≠ 7 := q_neI c24; omega))); have z1 : x1.toInt ≠ 1 := q_neI (show ¬ x1 = (1 : Int32) from (q_Ine (x := x1.toInt) (y := 1) rfl (by decide) (by have t1 : 0 ≤ x1.toInt := q_nltI c1; have t2 : x1.toInt ≤ 8 := q_nltI c6; have t3 : x1.toInt ≠ 2 := q_neI c11; have t4 : x1.toInt ≠ 3 := q_neI c16; have t5 : 2 ≤ x1.toInt := q_leI c21; have t6 : x1.toInt ≠ 6 := q_neI c22; have t7 : x1.toInt ≠ 7 := q_neI c24; omega))); have z2 : x1.toInt ≠ 2 := q_neI (show ¬ x1 = (2 : Int32) from (q_Ine (x := x1.toInt) (y := 2) rfl (by decide) (by have t1 : 0 ≤ x1.toInt := q_nltI c1; have t2 : x1.toInt ≤ 8 := q_nltI c6; have t3 : x1.toInt ≠ 2 := q_neI c11; have t4 : x1.toInt ≠ 3 := q_neI c16; have t5 : 2 ≤ x1.toInt := q_leI c21; have t6 : x1.toInt ≠ 6 := q_neI c22; have t7 : x1.toInt ≠ 7 := q_neI c24; omega))); have z3 : x1.toInt ≠ 3 := q_neI (show ¬ x1 = (3 : Int32) from (q_Ine (x := x1.toInt) (y := 3) rfl (by decide) (by have t1 : 0 ≤ x1.toInt := q_nltI c1; have t2 : x1.toInt ≤ 8 := q_nltI c6; have t3 : x1.toInt ≠ 2 := q_neI c11; have t4 : x1.toInt ≠ 3 := q_neI c16; have t5 : 2 ≤ x1.toInt := q_leI c21; have t6 : x1.toInt ≠ 6 := q_neI c22; have t7 : x1.toInt ≠ 7 := q_neI c24; omega))); have z4 : x1.toInt ≠ 4 := q_neI c28; have z5 : x1.toInt ≠ 5 := q_neI c33; have z6 : x1.toInt ≠ 6 := q_neI (show ¬ x1 = (6 : Int32) from (q_Ine (x := x1.toInt) (y := 6) rfl (by decide) (by have t1 : 0 ≤ x1.toInt := q_nltI c1; have t2 : x1.toInt ≤ 8 := q_nltI c6; have t3 : x1.toInt ≠ 2 := q_neI c11; have t4 : x1.toInt ≠ 3 := q_neI c16; have t5 : 2 ≤ x1.toInt := q_leI c21; have t6 : x1.toInt ≠ 6 := q_neI c22; have t7 : x1.toInt ≠ 7 := q_neI c24; have t8 : x1.toInt ≠ 4 := q_neI c28; have t9 : x1.toInt ≠ 5 := q_neI c33; omega))); have z7 : x1.toInt ≠ 7 := q_neI (show ¬ x1 = (7 : Int32) from (q_Ine (x := x1.toInt) (y := 7) rfl (by decide) (by have t1 : 0 ≤ x1.toInt := q_nltI c1; have t2 : x1.toInt ≤ 8 := q_nltI c6; have t3 : x1.toInt ≠ 2 := q_neI c11; have t4 : x1.toInt ≠ 3 := q_neI c16; have t5 : 2 ≤ x1.toInt := q_leI c21; have t6 : x1.toInt ≠ 6 := q_neI c22; have t7 : x1.toInt ≠ 7 := q_neI c24; have t8 : x1.toInt ≠ 4 := q_neI c28; have t9 : x1.toInt ≠ 5 := q_neI c33; omega))); omega) (by decide) ?_
                refine lv_aload_n hx hb d_14_37_247 rfl (lv_at hl 1 rfl) ?_
                refine q_get (ci := 12) (j := 9) (v := .ref qO7) C0 V i_NM rfl rfl hO0 (by decide) w_2307 rfl d_14_37_248 ?_
                refine lv_iconst (v := 0) hx hb d_14_37_251 (by decide) ?_
                replace hO7 := (hu26 _ (q_pd 157 116 rfl)).trans (hO7)
                refine q_putN (ci := 17) (j := 3) (v := .int 0) (ty := .int) C0 V i_VR o_VR n_VR rfl rfl hO7 (by decide) wo_2204 rfl rfl rfl rfl (Nat.le_of_ble_eq_true rfl) d_14_37_252 (fun H locs w43 hu44 hO7 V => ?_)
                replace hO7 : w43[157]? = (some (qO7, .inr (17, [.int 0, .ref qA44, .int 0, .int 0, .ref qA45, .ref qA46, .ref qA47, .ref qA48, .ref qA49, .int 0, .ref qA50, .int 0, .int 0, .int (-1), .int 0, .int 0, .int 0, .int 0, .int 0, .int 0, .int 0, .int 0, .int 0, .int 0, .ref qA51, .int 0, .int 0, .int 0, .ref qA52, .int 0, .int 0])) : Option (Nat × va_E)) := hO7
                replace hF := q_gs hF hu44 (Nat.le_of_ble_eq_true rfl)
                refine lv_iconst (v := 0) hx hb d_14_37_255 (by decide) ?_
                replace hO0 := (hu44 _ (q_pd 116 157 rfl)).trans (hO0)
                exact q_reti C0 V (⟨0, 0, 0, hO0, (show ((0 : Int32).toInt = 0 ∧ ((0 ≤ x1.toInt ∧ x1.toInt ≤ 8) ∧ x1.toInt ≠ 2 ∧ x1.toInt ≠ 3 ∧ (x1.toInt ≤ 1 → (0 ≤ x2.toInt ∧ x2.toInt ≤ 9)) ∧ (x1.toInt = 6 → (0 ≤ x2.toInt ∧ x2.toInt ≤ 255))) ∧ ((x1.toInt = 8 ∧ (0 : Int32).toInt = 0) ∨ (x1.toInt ≠ 8 ∧ (0 : Int32).toInt = 1))) ∨ ((0 : Int32).toInt = 1 ∧ ¬ ((0 ≤ x1.toInt ∧ x1.toInt ≤ 8) ∧ x1.toInt ≠ 2 ∧ x1.toInt ≠ 3 ∧ (x1.toInt ≤ 1 → (0 ≤ x2.toInt ∧ x2.toInt ≤ 9)) ∧ (x1.toInt = 6 → (0 ≤ x2.toInt ∧ x2.toInt ≤ 255)))) from by have t1 : 0 ≤ x1.toInt := q_nltI c1; have t2 : x1.toInt ≤ 8 := q_nltI c6; have t3 : x1.toInt ≠ 2 := q_neI c11; have t4 : x1.toInt ≠ 3 := q_neI c16; have t5 : 2 ≤ x1.toInt := q_leI c21; have t6 : x1.toInt ≠ 6 := q_neI c22; have t7 : x1.toInt ≠ 7 := q_neI c24; have t8 : x1.toInt ≠ 4 := q_neI c28; have t9 : x1.toInt ≠ 5 := q_neI c33; have e0 : (0 : Int32).toInt = 0 := (by decide); have e1 : (0 : Int32).toInt = 0 := (by decide); omega), hF⟩) d_14_37_256
              ·
                refine lv_aload_n hx hb d_14_37_70 rfl (lv_at hl 1 rfl) ?_
                refine q_get (ci := 12) (j := 2) (v := .int 0) C0 V i_NM rfl rfl hO0 (by decide) w_2300 rfl d_14_37_71 ?_
                refine lv_bipush (v := 64) hx hb d_14_37_74 (by decide) ?_
                refine lv_icmp_le (tgt := 83) hx hb d_14_37_76 (by decide) (fun c45 => ?_) (fun c45 => absurd (by decide) c45)
                refine lv_iconst (v := 0) hx hb d_14_37_83 (by decide) ?_
                refine q_put (ci := 12) (j := 0) (v := .int 0) (ty := .int) C0 V i_NM o_NM n_NM rfl rfl hO0 (by decide) w_2298 rfl rfl rfl rfl (Nat.le_of_ble_eq_true rfl) d_14_37_84 (fun H locs w46 hu47 hO0 V => ?_)
                replace hO0 : w46[116]? = (some (qO0, .inr (12, [.int 0, .ref qA1, .int 0, .ref qA2, .int 0, .ref qO3, .ref qO4, .ref qO5, .ref qO6, .ref qO7, .ref qA8, .ref qA9])) : Option (Nat × va_E)) := hO0
                replace hF := q_gs hF hu47 (Nat.le_of_ble_eq_true rfl)
                refine lv_aload_n hx hb d_14_37_87 rfl (lv_at hl 1 rfl) ?_
                refine q_get (ci := 12) (j := 0) (v := .int 0) C0 V i_NM rfl rfl hO0 (by decide) w_2298 rfl d_14_37_88 ?_
                refine lv_if_le (tgt := 96) hx hb d_14_37_91 (by decide) (fun c48 => ?_) (fun c48 => absurd (by decide) c48)
                refine lv_iload_n hx hb d_14_37_96 rfl (lv_at hl 2 rfl) ?_
                refine q_ti (v := 7) c24 ?_
                refine lv_tableIn (tgt := 185) (off := 88) hx hb d_14_37_97 (by decide) (by decide) (by decide) (by decide) ?_
                refine lv_aload_n hx hb d_14_37_185 rfl (lv_at hl 1 rfl) ?_
                refine q_get (ci := 12) (j := 9) (v := .ref qO7) C0 V i_NM rfl rfl hO0 (by decide) w_2307 rfl d_14_37_186 ?_
                refine lv_aload_n hx hb d_14_37_189 rfl (lv_at hl 1 rfl) ?_
                refine q_get (ci := 12) (j := 1) (v := .ref qA1) C0 V i_NM rfl rfl hO0 (by decide) w_2299 rfl d_14_37_190 ?_
                refine lv_aload_n hx hb d_14_37_193 rfl (lv_at hl 1 rfl) ?_
                refine q_get (ci := 12) (j := 2) (v := .int 0) C0 V i_NM rfl rfl hO0 (by decide) w_2300 rfl d_14_37_194 ?_
                refine lv_aload_n hx hb d_14_37_197 rfl (lv_at hl 1 rfl) ?_
                refine q_get (ci := 12) (j := 9) (v := .ref qO7) C0 V i_NM rfl rfl hO0 (by decide) w_2307 rfl d_14_37_198 ?_
                replace hO7 := (hu47 _ (q_pd 157 116 rfl)).trans (hO7)
                refine q_getN (ci := 17) (j := 1) (v := .ref qA44) C0 V i_VR rfl rfl hO7 (by decide) wo_2200 rfl d_14_37_201 ?_
                refine q_goi V (q_runS (As := [.ref qA1, .int 0, .ref qA44]) (rest := [.ref qO7]) (d := 1) (mc := 0) (ms := 0) C0 V rfl LS_NM_90 (c_NM_load l D g w46 qA1 qA44 _) rfl hl.1 rfl (Nat.le_of_ble_eq_true rfl) ⟨by decide, by decide⟩ ⟨Nat.le_of_ble_eq_true rfl, Nat.le_of_ble_eq_true rfl⟩ d_14_37_204) (fun v51 u50 H locs hp49 V => ?_)
                obtain ⟨rfl, rfl⟩ := hp49
                refine q_putN (ci := 17) (j := 2) (v := .int 0) (ty := .int) C0 V i_VR o_VR n_VR rfl rfl hO7 (by decide) wo_2202 rfl rfl rfl rfl (Nat.le_of_ble_eq_true rfl) d_14_37_207 (fun H locs w53 hu54 hO7 V => ?_)
                replace hO7 : w53[157]? = (some (qO7, .inr (17, [.int 0, .ref qA44, .int 0, .int 0, .ref qA45, .ref qA46, .ref qA47, .ref qA48, .ref qA49, .int 0, .ref qA50, .int 0, .int 0, .int (-1), .int 0, .int 0, .int 0, .int 0, .int 0, .int 0, .int 0, .int 0, .int 0, .int 0, .ref qA51, .int 0, .int 0, .int 0, .ref qA52, .int 0, .int 0])) : Option (Nat × va_E)) := hO7
                replace hF := q_gs hF hu54 (Nat.le_of_ble_eq_true rfl)
                refine lv_aload_n hx hb d_14_37_210 rfl (lv_at hl 1 rfl) ?_
                replace hO0 := (hu54 _ (q_pd 116 157 rfl)).trans (hO0)
                refine q_get (ci := 12) (j := 9) (v := .ref qO7) C0 V i_NM rfl rfl hO0 (by decide) w_2307 rfl d_14_37_211 ?_
                replace hA45 := (hu54 _ (q_pd 159 157 rfl)).trans ((hu47 _ (q_pd 159 116 rfl)).trans (hA45))
                replace hA46 := (hu54 _ (q_pd 160 157 rfl)).trans ((hu47 _ (q_pd 160 116 rfl)).trans (hA46))
                replace hA47 := (hu54 _ (q_pd 161 157 rfl)).trans ((hu47 _ (q_pd 161 116 rfl)).trans (hA47))
                refine q_goi V (q_runV (As := []) (rest := []) (d := 2) (mc := 0) (ms := 0) (ci := 17) C0 V rfl LV_NM_329 (c_VR_text l D g w53 157 159 160 161 qO7 qA44 qA45 qA46 qA47 qA48 qA49 qA50 qA51 qA52 hO7 hA45 hA46 hA47 (q_pd 159 160 rfl) (q_pd 159 161 rfl) (q_pd 160 161 rfl) _) rfl rfl hO7 rfl hl.1 rfl (Nat.le_of_ble_eq_true rfl) ⟨by decide, by decide⟩ ⟨Nat.le_of_ble_eq_true rfl, Nat.le_of_ble_eq_true rfl⟩ d_14_37_214) (fun v57 u56 H locs hp55 V => ?_)
                obtain ⟨rfl, hg58, hO7, hA45, hA46, hA47⟩ := hp55
                replace hF := q_gc hF hg58 (q_al (Nat.le_of_ble_eq_true rfl) (q_al (Nat.le_of_ble_eq_true rfl) (q_al (Nat.le_of_ble_eq_true rfl) (q_al (Nat.le_of_ble_eq_true rfl) (fun _ h => absurd h List.not_mem_nil)))))
                refine lv_istore (lv' := [(4, .int 1), (3, .int 0), (0, .ref qO0), (1, .int x1), (2, .int x2)]) hx hb d_14_37_217 hl (by decide) rfl (fun ls hl => ?_)
                refine lv_aload_n hx hb d_14_37_219 rfl (lv_at hl 2 rfl) ?_
                replace hO0 := (hg58 _ (q_nc (q_pd 116 157 rfl) (q_nc (q_pd 116 159 rfl) (q_nc (q_pd 116 160 rfl) (q_nc (q_pd 116 161 rfl) List.not_mem_nil))))).trans (hO0)
                refine q_get (ci := 12) (j := 9) (v := .ref qO7) C0 V i_NM rfl rfl hO0 (by decide) w_2307 rfl d_14_37_220 ?_
                refine lv_iconst (v := 0) hx hb d_14_37_223 (by decide) ?_
                refine q_putN (ci := 17) (j := 2) (v := .int 0) (ty := .int) C0 V i_VR o_VR n_VR rfl rfl hO7 (by decide) wo_2202 rfl rfl rfl rfl (Nat.le_of_ble_eq_true rfl) d_14_37_224 (fun H locs w59 hu60 hO7 V => ?_)
                replace hO7 : w59[157]? = (some (qO7, .inr (17, [.int 0, .ref qA44, .int 0, .int 1, .ref qA45, .ref qA46, .ref qA47, .ref qA48, .ref qA49, .int 0, .ref qA50, .int 0, .int 0, .int (-1), .int 0, .int 0, .int 0, .int 0, .int 0, .int 0, .int 0, .int 0, .int 0, .int 0, .ref qA51, .int 0, .int 0, .int 0, .ref qA52, .int 0, .int 0])) : Option (Nat × va_E)) := hO7
                replace hF := q_gs hF hu60 (Nat.le_of_ble_eq_true rfl)
                refine lv_aload_n hx hb d_14_37_227 rfl (lv_at hl 2 rfl) ?_
                refine lv_iload hx hb d_14_37_228 (lv_at hl 0 rfl) ?_
                refine lv_if_le (tgt := 237) hx hb d_14_37_230 (by decide) (fun c61 => absurd c61 (by decide)) (fun c61 => ?_)
                refine lv_iconst (v := 0) hx hb d_14_37_233 (by decide) ?_
                refine lv_goto (tgt := 241) hx hb d_14_37_234 (by decide) ?_
                replace hO0 := (hu60 _ (q_pd 116 157 rfl)).trans (hO0)
                refine q_put (ci := 12) (j := 2) (v := .int 0) (ty := .int) C0 V i_NM o_NM n_NM rfl rfl hO0 (by decide) w_2300 rfl rfl rfl rfl (Nat.le_of_ble_eq_true rfl) d_14_37_241 (fun H locs w62 hu63 hO0 V => ?_)
                replace hO0 : w62[116]? = (some (qO0, .inr (12, [.int 0, .ref qA1, .int 0, .ref qA2, .int 0, .ref qO3, .ref qO4, .ref qO5, .ref qO6, .ref qO7, .ref qA8, .ref qA9])) : Option (Nat × va_E)) := hO0
                replace hF := q_gs hF hu63 (Nat.le_of_ble_eq_true rfl)
                refine lv_iload hx hb d_14_37_244 (lv_at hl 0 rfl) ?_
                exact q_reti C0 V (⟨0, 0, 0, hO0, (show ((0 : Int32).toInt = 0 ∧ ((0 ≤ x1.toInt ∧ x1.toInt ≤ 8) ∧ x1.toInt ≠ 2 ∧ x1.toInt ≠ 3 ∧ (x1.toInt ≤ 1 → (0 ≤ x2.toInt ∧ x2.toInt ≤ 9)) ∧ (x1.toInt = 6 → (0 ≤ x2.toInt ∧ x2.toInt ≤ 255))) ∧ ((x1.toInt = 8 ∧ (1 : Int32).toInt = 0) ∨ (x1.toInt ≠ 8 ∧ (1 : Int32).toInt = 1))) ∨ ((0 : Int32).toInt = 1 ∧ ¬ ((0 ≤ x1.toInt ∧ x1.toInt ≤ 8) ∧ x1.toInt ≠ 2 ∧ x1.toInt ≠ 3 ∧ (x1.toInt ≤ 1 → (0 ≤ x2.toInt ∧ x2.toInt ≤ 9)) ∧ (x1.toInt = 6 → (0 ≤ x2.toInt ∧ x2.toInt ≤ 255)))) from by have t1 : 0 ≤ x1.toInt := q_nltI c1; have t2 : x1.toInt ≤ 8 := q_nltI c6; have t3 : x1.toInt ≠ 2 := q_neI c11; have t4 : x1.toInt ≠ 3 := q_neI c16; have t5 : 2 ≤ x1.toInt := q_leI c21; have t6 : x1.toInt ≠ 6 := q_neI c22; have t7 : x1.toInt = 7 := q_eqI c24; have e0 : (0 : Int32).toInt = 0 := (by decide); have e1 : (1 : Int32).toInt = 1 := (by decide); omega), hF⟩) d_14_37_246
            ·
              refine lv_iload_n hx hb d_14_37_38 rfl (lv_at hl 2 rfl) ?_
              refine lv_if_lt (tgt := 49) hx hb d_14_37_39 (by decide) (fun c64 => ?_) (fun c64 => ?_)
              ·
                refine lv_iconst (v := 1) hx hb d_14_37_49 (by decide) ?_
                refine lv_goto (tgt := 54) hx hb d_14_37_50 (by decide) ?_
                refine lv_istore_n (lv' := [(3, .int 1), (0, .ref qO0), (1, .int x1), (2, .int x2)]) hx hb d_14_37_54 rfl hl (by decide) rfl (fun ls hl => ?_)
                refine lv_aload_n hx hb d_14_37_55 rfl (lv_at hl 1 rfl) ?_
                refine lv_iload_n hx hb d_14_37_56 rfl (lv_at hl 0 rfl) ?_
                refine lv_if_eq (tgt := 64) hx hb d_14_37_57 (by decide) (fun c65 => absurd c65 (by decide)) (fun c65 => ?_)
                refine lv_iconst (v := 1) hx hb d_14_37_60 (by decide) ?_
                refine lv_goto (tgt := 84) hx hb d_14_37_61 (by decide) ?_
                refine q_put (ci := 12) (j := 0) (v := .int 1) (ty := .int) C0 V i_NM o_NM n_NM rfl rfl hO0 (by decide) w_2298 rfl rfl rfl rfl (Nat.le_of_ble_eq_true rfl) d_14_37_84 (fun H locs w66 hu67 hO0 V => ?_)
                replace hO0 : w66[116]? = (some (qO0, .inr (12, [.int 1, .ref qA1, .int 0, .ref qA2, .int 0, .ref qO3, .ref qO4, .ref qO5, .ref qO6, .ref qO7, .ref qA8, .ref qA9])) : Option (Nat × va_E)) := hO0
                replace hF := q_gs hF hu67 (Nat.le_of_ble_eq_true rfl)
                refine lv_aload_n hx hb d_14_37_87 rfl (lv_at hl 1 rfl) ?_
                refine q_get (ci := 12) (j := 0) (v := .int 1) C0 V i_NM rfl rfl hO0 (by decide) w_2298 rfl d_14_37_88 ?_
                refine lv_if_le (tgt := 96) hx hb d_14_37_91 (by decide) (fun c68 => absurd c68 (by decide)) (fun c68 => ?_)
                refine lv_iconst (v := 0) hx hb d_14_37_94 (by decide) ?_
                exact q_reti C0 V (⟨1, 0, 0, hO0, (show ((1 : Int32).toInt = 0 ∧ ((0 ≤ x1.toInt ∧ x1.toInt ≤ 8) ∧ x1.toInt ≠ 2 ∧ x1.toInt ≠ 3 ∧ (x1.toInt ≤ 1 → (0 ≤ x2.toInt ∧ x2.toInt ≤ 9)) ∧ (x1.toInt = 6 → (0 ≤ x2.toInt ∧ x2.toInt ≤ 255))) ∧ ((x1.toInt = 8 ∧ (0 : Int32).toInt = 0) ∨ (x1.toInt ≠ 8 ∧ (0 : Int32).toInt = 1))) ∨ ((1 : Int32).toInt = 1 ∧ ¬ ((0 ≤ x1.toInt ∧ x1.toInt ≤ 8) ∧ x1.toInt ≠ 2 ∧ x1.toInt ≠ 3 ∧ (x1.toInt ≤ 1 → (0 ≤ x2.toInt ∧ x2.toInt ≤ 9)) ∧ (x1.toInt = 6 → (0 ≤ x2.toInt ∧ x2.toInt ≤ 255)))) from by have t1 : 0 ≤ x1.toInt := q_nltI c1; have t2 : x1.toInt ≤ 8 := q_nltI c6; have t3 : x1.toInt ≠ 2 := q_neI c11; have t4 : x1.toInt ≠ 3 := q_neI c16; have t5 : 2 ≤ x1.toInt := q_leI c21; have t6 : x1.toInt = 6 := q_eqI c22; have t7 : x2.toInt < 0 := q_ltI c64; have e0 : (1 : Int32).toInt = 1 := (by decide); have e1 : (0 : Int32).toInt = 0 := (by decide); omega), hF⟩) d_14_37_95
              ·
                refine lv_iload_n hx hb d_14_37_42 rfl (lv_at hl 2 rfl) ?_
                refine lv_sipush (v := 255) hx hb d_14_37_43 (by decide) ?_
                refine lv_icmp_le (tgt := 53) hx hb d_14_37_46 (by decide) (fun c69 => ?_) (fun c69 => ?_)
                ·
                  refine lv_iconst (v := 0) hx hb d_14_37_53 (by decide) ?_
                  refine lv_istore_n (lv' := [(3, .int 0), (0, .ref qO0), (1, .int x1), (2, .int x2)]) hx hb d_14_37_54 rfl hl (by decide) rfl (fun ls hl => ?_)
                  refine lv_aload_n hx hb d_14_37_55 rfl (lv_at hl 1 rfl) ?_
                  refine lv_iload_n hx hb d_14_37_56 rfl (lv_at hl 0 rfl) ?_
                  refine lv_if_eq (tgt := 64) hx hb d_14_37_57 (by decide) (fun c70 => ?_) (fun c70 => absurd (by decide) c70)
                  refine lv_iload_n hx hb d_14_37_64 rfl (lv_at hl 2 rfl) ?_
                  refine q_ti (v := 6) c22 ?_
                  refine lv_bipush (v := 7) hx hb d_14_37_65 (by decide) ?_
                  refine lv_icmp_ne (tgt := 83) hx hb d_14_37_67 (by decide) (fun c71 => ?_) (fun c71 => absurd c71 (by decide))
                  refine lv_iconst (v := 0) hx hb d_14_37_83 (by decide) ?_
                  refine q_put (ci := 12) (j := 0) (v := .int 0) (ty := .int) C0 V i_NM o_NM n_NM rfl rfl hO0 (by decide) w_2298 rfl rfl rfl rfl (Nat.le_of_ble_eq_true rfl) d_14_37_84 (fun H locs w72 hu73 hO0 V => ?_)
                  replace hO0 : w72[116]? = (some (qO0, .inr (12, [.int 0, .ref qA1, .int 0, .ref qA2, .int 0, .ref qO3, .ref qO4, .ref qO5, .ref qO6, .ref qO7, .ref qA8, .ref qA9])) : Option (Nat × va_E)) := hO0
                  replace hF := q_gs hF hu73 (Nat.le_of_ble_eq_true rfl)
                  refine lv_aload_n hx hb d_14_37_87 rfl (lv_at hl 1 rfl) ?_
                  refine q_get (ci := 12) (j := 0) (v := .int 0) C0 V i_NM rfl rfl hO0 (by decide) w_2298 rfl d_14_37_88 ?_
                  refine lv_if_le (tgt := 96) hx hb d_14_37_91 (by decide) (fun c74 => ?_) (fun c74 => absurd (by decide) c74)
                  refine lv_iload_n hx hb d_14_37_96 rfl (lv_at hl 2 rfl) ?_
                  refine q_ti (v := 6) c22 ?_
                  refine lv_tableIn (tgt := 176) (off := 79) hx hb d_14_37_97 (by decide) (by decide) (by decide) (by decide) ?_
                  refine lv_aload_n hx hb d_14_37_176 rfl (lv_at hl 1 rfl) ?_
                  refine q_get (ci := 12) (j := 9) (v := .ref qO7) C0 V i_NM rfl rfl hO0 (by decide) w_2307 rfl d_14_37_177 ?_
                  refine lv_iload_n hx hb d_14_37_180 rfl (lv_at hl 3 rfl) ?_
                  replace hO7 := (hu73 _ (q_pd 157 116 rfl)).trans (hO7)
                  replace hA45 := (hu73 _ (q_pd 159 116 rfl)).trans (hA45)
                  replace hA46 := (hu73 _ (q_pd 160 116 rfl)).trans (hA46)
                  replace hA47 := (hu73 _ (q_pd 161 116 rfl)).trans (hA47)
                  refine q_goi V (q_runV (As := [.int x2]) (rest := []) (d := 2) (mc := 0) (ms := 0) (ci := 17) C0 V rfl LV_NM_321 (c_VR_symbol l D g w72 157 159 160 161 qO7 qA44 qA45 qA46 qA47 qA48 qA49 qA50 qA51 qA52 x2 hO7 hA45 hA46 hA47 (q_pd 159 160 rfl) (q_pd 159 161 rfl) (q_pd 160 161 rfl) (q_Ile (x := 0) (y := x2.toInt) (by decide) rfl (by have t1 : 0 ≤ x2.toInt := q_nltI c64; have t2 : x2.toInt ≤ 255 := q_leI c69; omega)) c69 _) rfl rfl hO7 rfl hl.1 rfl (Nat.le_of_ble_eq_true rfl) ⟨by decide, by decide⟩ ⟨Nat.le_of_ble_eq_true rfl, Nat.le_of_ble_eq_true rfl⟩ d_14_37_181) (fun v77 u76 H locs hp75 V => ?_)
                  obtain ⟨rfl, hg78, hO7, hA45, hA46, hA47⟩ := hp75
                  replace hF := q_gc hF hg78 (q_al (Nat.le_of_ble_eq_true rfl) (q_al (Nat.le_of_ble_eq_true rfl) (q_al (Nat.le_of_ble_eq_true rfl) (q_al (Nat.le_of_ble_eq_true rfl) (fun _ h => absurd h List.not_mem_nil)))))
                  replace hO0 := (hg78 _ (q_nc (q_pd 116 157 rfl) (q_nc (q_pd 116 159 rfl) (q_nc (q_pd 116 160 rfl) (q_nc (q_pd 116 161 rfl) List.not_mem_nil))))).trans (hO0)
                  exact q_reti C0 V (⟨0, 0, 0, hO0, (show ((0 : Int32).toInt = 0 ∧ ((0 ≤ x1.toInt ∧ x1.toInt ≤ 8) ∧ x1.toInt ≠ 2 ∧ x1.toInt ≠ 3 ∧ (x1.toInt ≤ 1 → (0 ≤ x2.toInt ∧ x2.toInt ≤ 9)) ∧ (x1.toInt = 6 → (0 ≤ x2.toInt ∧ x2.toInt ≤ 255))) ∧ ((x1.toInt = 8 ∧ (1 : Int32).toInt = 0) ∨ (x1.toInt ≠ 8 ∧ (1 : Int32).toInt = 1))) ∨ ((0 : Int32).toInt = 1 ∧ ¬ ((0 ≤ x1.toInt ∧ x1.toInt ≤ 8) ∧ x1.toInt ≠ 2 ∧ x1.toInt ≠ 3 ∧ (x1.toInt ≤ 1 → (0 ≤ x2.toInt ∧ x2.toInt ≤ 9)) ∧ (x1.toInt = 6 → (0 ≤ x2.toInt ∧ x2.toInt ≤ 255)))) from by have t1 : 0 ≤ x1.toInt := q_nltI c1; have t2 : x1.toInt ≤ 8 := q_nltI c6; have t3 : x1.toInt ≠ 2 := q_neI c11; have t4 : x1.toInt ≠ 3 := q_neI c16; have t5 : 2 ≤ x1.toInt := q_leI c21; have t6 : x1.toInt = 6 := q_eqI c22; have t7 : 0 ≤ x2.toInt := q_nltI c64; have t8 : x2.toInt ≤ 255 := q_leI c69; have e0 : (0 : Int32).toInt = 0 := (by decide); have e1 : (1 : Int32).toInt = 1 := (by decide); omega), hF⟩) d_14_37_184
                ·
                  refine lv_iconst (v := 1) hx hb d_14_37_49 (by decide) ?_
                  refine lv_goto (tgt := 54) hx hb d_14_37_50 (by decide) ?_
                  refine lv_istore_n (lv' := [(3, .int 1), (0, .ref qO0), (1, .int x1), (2, .int x2)]) hx hb d_14_37_54 rfl hl (by decide) rfl (fun ls hl => ?_)
                  refine lv_aload_n hx hb d_14_37_55 rfl (lv_at hl 1 rfl) ?_
                  refine lv_iload_n hx hb d_14_37_56 rfl (lv_at hl 0 rfl) ?_
                  refine lv_if_eq (tgt := 64) hx hb d_14_37_57 (by decide) (fun c79 => absurd c79 (by decide)) (fun c79 => ?_)
                  refine lv_iconst (v := 1) hx hb d_14_37_60 (by decide) ?_
                  refine lv_goto (tgt := 84) hx hb d_14_37_61 (by decide) ?_
                  refine q_put (ci := 12) (j := 0) (v := .int 1) (ty := .int) C0 V i_NM o_NM n_NM rfl rfl hO0 (by decide) w_2298 rfl rfl rfl rfl (Nat.le_of_ble_eq_true rfl) d_14_37_84 (fun H locs w80 hu81 hO0 V => ?_)
                  replace hO0 : w80[116]? = (some (qO0, .inr (12, [.int 1, .ref qA1, .int 0, .ref qA2, .int 0, .ref qO3, .ref qO4, .ref qO5, .ref qO6, .ref qO7, .ref qA8, .ref qA9])) : Option (Nat × va_E)) := hO0
                  replace hF := q_gs hF hu81 (Nat.le_of_ble_eq_true rfl)
                  refine lv_aload_n hx hb d_14_37_87 rfl (lv_at hl 1 rfl) ?_
                  refine q_get (ci := 12) (j := 0) (v := .int 1) C0 V i_NM rfl rfl hO0 (by decide) w_2298 rfl d_14_37_88 ?_
                  refine lv_if_le (tgt := 96) hx hb d_14_37_91 (by decide) (fun c82 => absurd c82 (by decide)) (fun c82 => ?_)
                  refine lv_iconst (v := 0) hx hb d_14_37_94 (by decide) ?_
                  exact q_reti C0 V (⟨1, 0, 0, hO0, (show ((1 : Int32).toInt = 0 ∧ ((0 ≤ x1.toInt ∧ x1.toInt ≤ 8) ∧ x1.toInt ≠ 2 ∧ x1.toInt ≠ 3 ∧ (x1.toInt ≤ 1 → (0 ≤ x2.toInt ∧ x2.toInt ≤ 9)) ∧ (x1.toInt = 6 → (0 ≤ x2.toInt ∧ x2.toInt ≤ 255))) ∧ ((x1.toInt = 8 ∧ (0 : Int32).toInt = 0) ∨ (x1.toInt ≠ 8 ∧ (0 : Int32).toInt = 1))) ∨ ((1 : Int32).toInt = 1 ∧ ¬ ((0 ≤ x1.toInt ∧ x1.toInt ≤ 8) ∧ x1.toInt ≠ 2 ∧ x1.toInt ≠ 3 ∧ (x1.toInt ≤ 1 → (0 ≤ x2.toInt ∧ x2.toInt ≤ 9)) ∧ (x1.toInt = 6 → (0 ≤ x2.toInt ∧ x2.toInt ≤ 255)))) from by have t1 : 0 ≤ x1.toInt := q_nltI c1; have t2 : x1.toInt ≤ 8 := q_nltI c6; have t3 : x1.toInt ≠ 2 := q_neI c11; have t4 : x1.toInt ≠ 3 := q_neI c16; have t5 : 2 ≤ x1.toInt := q_leI c21; have t6 : x1.toInt = 6 := q_eqI c22; have t7 : 0 ≤ x2.toInt := q_nltI c64; have t8 : 255 < x2.toInt := q_nleI c69; have e0 : (1 : Int32).toInt = 1 := (by decide); have e1 : (0 : Int32).toInt = 0 := (by decide); omega), hF⟩) d_14_37_95
          ·
            refine lv_iload_n hx hb d_14_37_25 rfl (lv_at hl 2 rfl) ?_
            refine q_goi V (q_runS (As := [.int x2]) (rest := []) (d := 1) (mc := 0) (ms := 0) C0 V rfl LS_NM_70 (c_NM_no_IZ l D g ws x2 _) rfl hl.1 rfl (Nat.le_of_ble_eq_true rfl) ⟨by decide, by decide⟩ ⟨Nat.le_of_ble_eq_true rfl, Nat.le_of_ble_eq_true rfl⟩ d_14_37_26) (fun v85 u84 H locs hp83 V => ?_)
            rcases hp83 with ⟨c86, rfl, rfl⟩ | ⟨c88, c89, rfl, rfl⟩ | ⟨c91, c92, rfl, rfl⟩
            ·
              refine lv_if_ne (tgt := 49) hx hb d_14_37_29 (by decide) (fun c94 => ?_) (fun c94 => absurd c94 (by decide))
              refine lv_iconst (v := 1) hx hb d_14_37_49 (by decide) ?_
              refine lv_goto (tgt := 54) hx hb d_14_37_50 (by decide) ?_
              refine lv_istore_n (lv' := [(3, .int 1), (0, .ref qO0), (1, .int x1), (2, .int x2)]) hx hb d_14_37_54 rfl hl (by decide) rfl (fun ls hl => ?_)
              refine lv_aload_n hx hb d_14_37_55 rfl (lv_at hl 1 rfl) ?_
              refine lv_iload_n hx hb d_14_37_56 rfl (lv_at hl 0 rfl) ?_
              refine lv_if_eq (tgt := 64) hx hb d_14_37_57 (by decide) (fun c95 => absurd c95 (by decide)) (fun c95 => ?_)
              refine lv_iconst (v := 1) hx hb d_14_37_60 (by decide) ?_
              refine lv_goto (tgt := 84) hx hb d_14_37_61 (by decide) ?_
              refine q_put (ci := 12) (j := 0) (v := .int 1) (ty := .int) C0 V i_NM o_NM n_NM rfl rfl hO0 (by decide) w_2298 rfl rfl rfl rfl (Nat.le_of_ble_eq_true rfl) d_14_37_84 (fun H locs w96 hu97 hO0 V => ?_)
              replace hO0 : w96[116]? = (some (qO0, .inr (12, [.int 1, .ref qA1, .int 0, .ref qA2, .int 0, .ref qO3, .ref qO4, .ref qO5, .ref qO6, .ref qO7, .ref qA8, .ref qA9])) : Option (Nat × va_E)) := hO0
              replace hF := q_gs hF hu97 (Nat.le_of_ble_eq_true rfl)
              refine lv_aload_n hx hb d_14_37_87 rfl (lv_at hl 1 rfl) ?_
              refine q_get (ci := 12) (j := 0) (v := .int 1) C0 V i_NM rfl rfl hO0 (by decide) w_2298 rfl d_14_37_88 ?_
              refine lv_if_le (tgt := 96) hx hb d_14_37_91 (by decide) (fun c98 => absurd c98 (by decide)) (fun c98 => ?_)
              refine lv_iconst (v := 0) hx hb d_14_37_94 (by decide) ?_
              exact q_reti C0 V (⟨1, 0, 0, hO0, (show ((1 : Int32).toInt = 0 ∧ ((0 ≤ x1.toInt ∧ x1.toInt ≤ 8) ∧ x1.toInt ≠ 2 ∧ x1.toInt ≠ 3 ∧ (x1.toInt ≤ 1 → (0 ≤ x2.toInt ∧ x2.toInt ≤ 9)) ∧ (x1.toInt = 6 → (0 ≤ x2.toInt ∧ x2.toInt ≤ 255))) ∧ ((x1.toInt = 8 ∧ (0 : Int32).toInt = 0) ∨ (x1.toInt ≠ 8 ∧ (0 : Int32).toInt = 1))) ∨ ((1 : Int32).toInt = 1 ∧ ¬ ((0 ≤ x1.toInt ∧ x1.toInt ≤ 8) ∧ x1.toInt ≠ 2 ∧ x1.toInt ≠ 3 ∧ (x1.toInt ≤ 1 → (0 ≤ x2.toInt ∧ x2.toInt ≤ 9)) ∧ (x1.toInt = 6 → (0 ≤ x2.toInt ∧ x2.toInt ≤ 255)))) from by have t1 : 0 ≤ x1.toInt := q_nltI c1; have t2 : x1.toInt ≤ 8 := q_nltI c6; have t3 : x1.toInt ≠ 2 := q_neI c11; have t4 : x1.toInt ≠ 3 := q_neI c16; have t5 : x1.toInt < 2 := q_nleI c21; have t6 : x2.toInt < 0 := q_ltI c86; have e0 : (1 : Int32).toInt = 1 := (by decide); have e1 : (0 : Int32).toInt = 0 := (by decide); omega), hF⟩) d_14_37_95
            ·
              refine lv_if_ne (tgt := 49) hx hb d_14_37_29 (by decide) (fun c99 => absurd (by decide) c99) (fun c99 => ?_)
              refine lv_iload_n hx hb d_14_37_32 rfl (lv_at hl 1 rfl) ?_
              refine lv_bipush (v := 6) hx hb d_14_37_33 (by decide) ?_
              refine lv_icmp_ne (tgt := 53) hx hb d_14_37_35 (by decide) (fun c100 => ?_) (fun c100 => absurd c100 (q_Ine (x := x1.toInt) (y := 6) rfl (by decide) (by have t1 : 0 ≤ x1.toInt := q_nltI c1; have t2 : x1.toInt ≤ 8 := q_nltI c6; have t3 : x1.toInt ≠ 2 := q_neI c11; have t4 : x1.toInt ≠ 3 := q_neI c16; have t5 : x1.toInt < 2 := q_nleI c21; omega)))
              refine lv_iconst (v := 0) hx hb d_14_37_53 (by decide) ?_
              refine lv_istore_n (lv' := [(3, .int 0), (0, .ref qO0), (1, .int x1), (2, .int x2)]) hx hb d_14_37_54 rfl hl (by decide) rfl (fun ls hl => ?_)
              refine lv_aload_n hx hb d_14_37_55 rfl (lv_at hl 1 rfl) ?_
              refine lv_iload_n hx hb d_14_37_56 rfl (lv_at hl 0 rfl) ?_
              refine lv_if_eq (tgt := 64) hx hb d_14_37_57 (by decide) (fun c101 => ?_) (fun c101 => absurd (by decide) c101)
              refine lv_iload_n hx hb d_14_37_64 rfl (lv_at hl 2 rfl) ?_
              refine lv_bipush (v := 7) hx hb d_14_37_65 (by decide) ?_
              refine lv_icmp_ne (tgt := 83) hx hb d_14_37_67 (by decide) (fun c102 => ?_) (fun c102 => absurd c102 (q_Ine (x := x1.toInt) (y := 7) rfl (by decide) (by have t1 : 0 ≤ x1.toInt := q_nltI c1; have t2 : x1.toInt ≤ 8 := q_nltI c6; have t3 : x1.toInt ≠ 2 := q_neI c11; have t4 : x1.toInt ≠ 3 := q_neI c16; have t5 : x1.toInt < 2 := q_nleI c21; omega)))
              refine lv_iconst (v := 0) hx hb d_14_37_83 (by decide) ?_
              refine q_put (ci := 12) (j := 0) (v := .int 0) (ty := .int) C0 V i_NM o_NM n_NM rfl rfl hO0 (by decide) w_2298 rfl rfl rfl rfl (Nat.le_of_ble_eq_true rfl) d_14_37_84 (fun H locs w103 hu104 hO0 V => ?_)
              replace hO0 : w103[116]? = (some (qO0, .inr (12, [.int 0, .ref qA1, .int 0, .ref qA2, .int 0, .ref qO3, .ref qO4, .ref qO5, .ref qO6, .ref qO7, .ref qA8, .ref qA9])) : Option (Nat × va_E)) := hO0
              replace hF := q_gs hF hu104 (Nat.le_of_ble_eq_true rfl)
              refine lv_aload_n hx hb d_14_37_87 rfl (lv_at hl 1 rfl) ?_
              refine q_get (ci := 12) (j := 0) (v := .int 0) C0 V i_NM rfl rfl hO0 (by decide) w_2298 rfl d_14_37_88 ?_
              refine lv_if_le (tgt := 96) hx hb d_14_37_91 (by decide) (fun c105 => ?_) (fun c105 => absurd (by decide) c105)
              refine lv_iload_n hx hb d_14_37_96 rfl (lv_at hl 2 rfl) ?_
              by_cases c106 : x1 = 0
              ·
                refine q_ti (v := 0) c106 ?_
                refine lv_tableIn (tgt := 144) (off := 47) hx hb d_14_37_97 (by decide) (by decide) (by decide) (by decide) ?_
                refine lv_aload_n hx hb d_14_37_144 rfl (lv_at hl 1 rfl) ?_
                refine lv_iload_n hx hb d_14_37_145 rfl (lv_at hl 2 rfl) ?_
                refine q_ti (v := 0) c106 ?_
                refine lv_iload_n hx hb d_14_37_146 rfl (lv_at hl 3 rfl) ?_
                replace hO3 := (hu104 _ (q_pd 119 116 rfl)).trans (hO3)
                replace hO7 := (hu104 _ (q_pd 157 116 rfl)).trans (hO7)
                replace hA11 := (hu104 _ (q_pd 121 116 rfl)).trans (hA11)
                replace hA12 := (hu104 _ (q_pd 122 116 rfl)).trans (hA12)
                replace hA45 := (hu104 _ (q_pd 159 116 rfl)).trans (hA45)
                replace hA46 := (hu104 _ (q_pd 160 116 rfl)).trans (hA46)
                replace hA47 := (hu104 _ (q_pd 161 116 rfl)).trans (hA47)
                refine q_goi V (q_runV (As := [.int 0, .int x2]) (rest := []) (d := 3) (mc := 0) (ms := 0) (ci := 12) C0 V rfl LV_NM_311 (c_NM_numeral l D g w103 qO0 qA1 qA2 qO3 qO4 qO5 qO6 qO7 qA8 qA9 qA10 qA11 qA12 qA13 qA14 qA15 qA16 qA17 qA18 qA19 qA20 qA21 qA22 qA23 qA44 qA45 qA46 qA47 qA48 qA49 qA50 qA51 qA52 x2 hO0 hO3 hO7 hA11 hA12 hA45 hA46 hA47 (q_Ile (x := 0) (y := x2.toInt) (by decide) rfl (by have t1 : 0 ≤ x2.toInt := q_nltI c88; have t2 : x2.toInt ≤ 9 := q_leI c89; omega)) c89 _) rfl rfl hO0 rfl hl.1 rfl (Nat.le_of_ble_eq_true rfl) ⟨by decide, by decide⟩ ⟨Nat.le_of_ble_eq_true rfl, Nat.le_of_ble_eq_true rfl⟩ d_14_37_147) (fun v109 u108 H locs hp107 V => ?_)
                obtain ⟨rfl, hg110, hO0, hO3, hO7, hA45, hA46, hA47⟩ := hp107
                replace hF := q_gc hF hg110 (q_al (Nat.le_of_ble_eq_true rfl) (q_al (Nat.le_of_ble_eq_true rfl) (q_al (Nat.le_of_ble_eq_true rfl) (q_al (Nat.le_of_ble_eq_true rfl) (q_al (Nat.le_of_ble_eq_true rfl) (q_al (Nat.le_of_ble_eq_true rfl) (fun _ h => absurd h List.not_mem_nil)))))))
                exact q_reti C0 V (⟨0, 0, 0, hO0, (show ((0 : Int32).toInt = 0 ∧ ((0 ≤ x1.toInt ∧ x1.toInt ≤ 8) ∧ x1.toInt ≠ 2 ∧ x1.toInt ≠ 3 ∧ (x1.toInt ≤ 1 → (0 ≤ x2.toInt ∧ x2.toInt ≤ 9)) ∧ (x1.toInt = 6 → (0 ≤ x2.toInt ∧ x2.toInt ≤ 255))) ∧ ((x1.toInt = 8 ∧ (1 : Int32).toInt = 0) ∨ (x1.toInt ≠ 8 ∧ (1 : Int32).toInt = 1))) ∨ ((0 : Int32).toInt = 1 ∧ ¬ ((0 ≤ x1.toInt ∧ x1.toInt ≤ 8) ∧ x1.toInt ≠ 2 ∧ x1.toInt ≠ 3 ∧ (x1.toInt ≤ 1 → (0 ≤ x2.toInt ∧ x2.toInt ≤ 9)) ∧ (x1.toInt = 6 → (0 ≤ x2.toInt ∧ x2.toInt ≤ 255)))) from by have t1 : 0 ≤ x1.toInt := q_nltI c1; have t2 : x1.toInt ≤ 8 := q_nltI c6; have t3 : x1.toInt ≠ 2 := q_neI c11; have t4 : x1.toInt ≠ 3 := q_neI c16; have t5 : x1.toInt < 2 := q_nleI c21; have t6 : 0 ≤ x2.toInt := q_nltI c88; have t7 : x2.toInt ≤ 9 := q_leI c89; have t8 : x1.toInt = 0 := q_eqI c106; have e0 : (0 : Int32).toInt = 0 := (by decide); have e1 : (1 : Int32).toInt = 1 := (by decide); omega), hF⟩) d_14_37_150
              by_cases c111 : x1 = 1
              ·
                refine q_ti (v := 1) c111 ?_
                refine lv_tableIn (tgt := 144) (off := 47) hx hb d_14_37_97 (by decide) (by decide) (by decide) (by decide) ?_
                refine lv_aload_n hx hb d_14_37_144 rfl (lv_at hl 1 rfl) ?_
                refine lv_iload_n hx hb d_14_37_145 rfl (lv_at hl 2 rfl) ?_
                refine q_ti (v := 1) c111 ?_
                refine lv_iload_n hx hb d_14_37_146 rfl (lv_at hl 3 rfl) ?_
                replace hO4 := (hu104 _ (q_pd 134 116 rfl)).trans (hO4)
                replace hO7 := (hu104 _ (q_pd 157 116 rfl)).trans (hO7)
                replace hA9 := (hu104 _ (q_pd 168 116 rfl)).trans (hA9)
                replace hA25 := (hu104 _ (q_pd 136 116 rfl)).trans (hA25)
                replace hA26 := (hu104 _ (q_pd 137 116 rfl)).trans (hA26)
                replace hA27 := (hu104 _ (q_pd 138 116 rfl)).trans (hA27)
                replace hA28 := (hu104 _ (q_pd 139 116 rfl)).trans (hA28)
                replace hA45 := (hu104 _ (q_pd 159 116 rfl)).trans (hA45)
                replace hA46 := (hu104 _ (q_pd 160 116 rfl)).trans (hA46)
                replace hA47 := (hu104 _ (q_pd 161 116 rfl)).trans (hA47)
                refine q_goi V (q_runV (As := [.int 1, .int x2]) (rest := []) (d := 3) (mc := 0) (ms := 0) (ci := 12) C0 V rfl LV_NM_311 (c_NM_numeral_2 l D g w103 qO0 qA1 qA2 qO3 qO4 qO5 qO6 qO7 qA8 qA9 qA24 qA25 qA26 qA27 qA28 qA29 qA30 qA31 qA32 qA33 qA44 qA45 qA46 qA47 qA48 qA49 qA50 qA51 qA52 x2 hO0 hO4 hO7 hA9 hA25 hA26 hA27 hA28 hA45 hA46 hA47 (q_Ile (x := 0) (y := x2.toInt) (by decide) rfl (by have t1 : 0 ≤ x2.toInt := q_nltI c88; have t2 : x2.toInt ≤ 9 := q_leI c89; omega)) c89 _) rfl rfl hO0 rfl hl.1 rfl (Nat.le_of_ble_eq_true rfl) ⟨by decide, by decide⟩ ⟨Nat.le_of_ble_eq_true rfl, Nat.le_of_ble_eq_true rfl⟩ d_14_37_147) (fun v114 u113 H locs hp112 V => ?_)
                obtain ⟨rfl, hg115, hO0, hO7, hA9, hA45, hA46, hA47⟩ := hp112
                replace hF := q_gc hF hg115 (q_al (Nat.le_of_ble_eq_true rfl) (q_al (Nat.le_of_ble_eq_true rfl) (q_al (Nat.le_of_ble_eq_true rfl) (q_al (Nat.le_of_ble_eq_true rfl) (q_al (Nat.le_of_ble_eq_true rfl) (q_al (Nat.le_of_ble_eq_true rfl) (fun _ h => absurd h List.not_mem_nil)))))))
                exact q_reti C0 V (⟨0, 0, 0, hO0, (show ((0 : Int32).toInt = 0 ∧ ((0 ≤ x1.toInt ∧ x1.toInt ≤ 8) ∧ x1.toInt ≠ 2 ∧ x1.toInt ≠ 3 ∧ (x1.toInt ≤ 1 → (0 ≤ x2.toInt ∧ x2.toInt ≤ 9)) ∧ (x1.toInt = 6 → (0 ≤ x2.toInt ∧ x2.toInt ≤ 255))) ∧ ((x1.toInt = 8 ∧ (1 : Int32).toInt = 0) ∨ (x1.toInt ≠ 8 ∧ (1 : Int32).toInt = 1))) ∨ ((0 : Int32).toInt = 1 ∧ ¬ ((0 ≤ x1.toInt ∧ x1.toInt ≤ 8) ∧ x1.toInt ≠ 2 ∧ x1.toInt ≠ 3 ∧ (x1.toInt ≤ 1 → (0 ≤ x2.toInt ∧ x2.toInt ≤ 9)) ∧ (x1.toInt = 6 → (0 ≤ x2.toInt ∧ x2.toInt ≤ 255)))) from by have t1 : 0 ≤ x1.toInt := q_nltI c1; have t2 : x1.toInt ≤ 8 := q_nltI c6; have t3 : x1.toInt ≠ 2 := q_neI c11; have t4 : x1.toInt ≠ 3 := q_neI c16; have t5 : x1.toInt < 2 := q_nleI c21; have t6 : 0 ≤ x2.toInt := q_nltI c88; have t7 : x2.toInt ≤ 9 := q_leI c89; have t8 : x1.toInt ≠ 0 := q_neI c106; have t9 : x1.toInt = 1 := q_eqI c111; have e0 : (0 : Int32).toInt = 0 := (by decide); have e1 : (1 : Int32).toInt = 1 := (by decide); omega), hF⟩) d_14_37_150
              exfalso; have t1 : 0 ≤ x1.toInt := q_nltI c1; have t2 : x1.toInt ≤ 8 := q_nltI c6; have t3 : x1.toInt ≠ 2 := q_neI c11; have t4 : x1.toInt ≠ 3 := q_neI c16; have t5 : x1.toInt < 2 := q_nleI c21; have t6 : x1.toInt ≠ 0 := q_neI c106; have t7 : x1.toInt ≠ 1 := q_neI c111; omega
            ·
              refine lv_if_ne (tgt := 49) hx hb d_14_37_29 (by decide) (fun c116 => ?_) (fun c116 => absurd c116 (by decide))
              refine lv_iconst (v := 1) hx hb d_14_37_49 (by decide) ?_
              refine lv_goto (tgt := 54) hx hb d_14_37_50 (by decide) ?_
              refine lv_istore_n (lv' := [(3, .int 1), (0, .ref qO0), (1, .int x1), (2, .int x2)]) hx hb d_14_37_54 rfl hl (by decide) rfl (fun ls hl => ?_)
              refine lv_aload_n hx hb d_14_37_55 rfl (lv_at hl 1 rfl) ?_
              refine lv_iload_n hx hb d_14_37_56 rfl (lv_at hl 0 rfl) ?_
              refine lv_if_eq (tgt := 64) hx hb d_14_37_57 (by decide) (fun c117 => absurd c117 (by decide)) (fun c117 => ?_)
              refine lv_iconst (v := 1) hx hb d_14_37_60 (by decide) ?_
              refine lv_goto (tgt := 84) hx hb d_14_37_61 (by decide) ?_
              refine q_put (ci := 12) (j := 0) (v := .int 1) (ty := .int) C0 V i_NM o_NM n_NM rfl rfl hO0 (by decide) w_2298 rfl rfl rfl rfl (Nat.le_of_ble_eq_true rfl) d_14_37_84 (fun H locs w118 hu119 hO0 V => ?_)
              replace hO0 : w118[116]? = (some (qO0, .inr (12, [.int 1, .ref qA1, .int 0, .ref qA2, .int 0, .ref qO3, .ref qO4, .ref qO5, .ref qO6, .ref qO7, .ref qA8, .ref qA9])) : Option (Nat × va_E)) := hO0
              replace hF := q_gs hF hu119 (Nat.le_of_ble_eq_true rfl)
              refine lv_aload_n hx hb d_14_37_87 rfl (lv_at hl 1 rfl) ?_
              refine q_get (ci := 12) (j := 0) (v := .int 1) C0 V i_NM rfl rfl hO0 (by decide) w_2298 rfl d_14_37_88 ?_
              refine lv_if_le (tgt := 96) hx hb d_14_37_91 (by decide) (fun c120 => absurd c120 (by decide)) (fun c120 => ?_)
              refine lv_iconst (v := 0) hx hb d_14_37_94 (by decide) ?_
              exact q_reti C0 V (⟨1, 0, 0, hO0, (show ((1 : Int32).toInt = 0 ∧ ((0 ≤ x1.toInt ∧ x1.toInt ≤ 8) ∧ x1.toInt ≠ 2 ∧ x1.toInt ≠ 3 ∧ (x1.toInt ≤ 1 → (0 ≤ x2.toInt ∧ x2.toInt ≤ 9)) ∧ (x1.toInt = 6 → (0 ≤ x2.toInt ∧ x2.toInt ≤ 255))) ∧ ((x1.toInt = 8 ∧ (0 : Int32).toInt = 0) ∨ (x1.toInt ≠ 8 ∧ (0 : Int32).toInt = 1))) ∨ ((1 : Int32).toInt = 1 ∧ ¬ ((0 ≤ x1.toInt ∧ x1.toInt ≤ 8) ∧ x1.toInt ≠ 2 ∧ x1.toInt ≠ 3 ∧ (x1.toInt ≤ 1 → (0 ≤ x2.toInt ∧ x2.toInt ≤ 9)) ∧ (x1.toInt = 6 → (0 ≤ x2.toInt ∧ x2.toInt ≤ 255)))) from by have t1 : 0 ≤ x1.toInt := q_nltI c1; have t2 : x1.toInt ≤ 8 := q_nltI c6; have t3 : x1.toInt ≠ 2 := q_neI c11; have t4 : x1.toInt ≠ 3 := q_neI c16; have t5 : x1.toInt < 2 := q_nleI c21; have t6 : 0 ≤ x2.toInt := q_nltI c91; have t7 : 9 < x2.toInt := q_nleI c92; have e0 : (1 : Int32).toInt = 1 := (by decide); have e1 : (0 : Int32).toInt = 0 := (by decide); omega), hF⟩) d_14_37_95
