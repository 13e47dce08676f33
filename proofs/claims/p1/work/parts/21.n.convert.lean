/-! the class on a fresh object: convert -/
theorem d_7_16_0 : decode prog_7_method_16_code 0 = .ok (.aload_n 3, 1) := by decide +kernel
theorem d_7_16_1 : decode prog_7_method_16_code 1 = .ok (.aload_n 0, 1) := by decide +kernel
theorem d_7_16_2 : decode prog_7_method_16_code 2 = .ok (.if_acmp .ne 5, 3) := by decide +kernel
theorem d_7_16_5 : decode prog_7_method_16_code 5 = .ok (.lload_n 1, 1) := by decide +kernel
theorem d_7_16_6 : decode prog_7_method_16_code 6 = .ok (.lreturn, 1) := by decide +kernel
def y_Flo_changed : MethodName := ⟨"NumberHouse$Floats", "changed", "(JLNumberHouse$Floats;)J"⟩
set_option maxRecDepth 100000 in
set_option maxHeartbeats 4000000 in
theorem c_Flo_changed (l : Launch) (D : va_G) (g : Nat → ClassId) (ws : va_W) ( qO0 : Nat) : q_mL l y_Flo_changed prog_7_method_16_code 6 1 0 0 D g [.ref qO0, .long 0, .ref qO0] ws (fun r u => 0 = r ∧ ws = u) := by
  intro sz
  refine q_into (by decide) (Nat.le_of_ble_eq_true rfl) ?_
  intro p e s m below meth c ls hsz C0 V hl
  have hx := C0.1
  have hb := C0.2.1
  have hl : lv_has ls 6 [(0, .ref qO0), (1, .long 0), (3, .ref qO0)] := hl
  refine lv_aload_n hx hb d_7_16_0 rfl (lv_at hl 2 rfl) ?_
  refine lv_aload_n hx hb d_7_16_1 rfl (lv_at hl 0 rfl) ?_
  refine lv_acmp_ne (rx := some qO0) (ry := some qO0) (tgt := 7) hx hb d_7_16_2 (by decide) (fun c1 => absurd rfl c1) (fun _ => ?_)
  refine lv_lload_n hx hb d_7_16_5 rfl (lv_at hl 1 rfl) ?_
  exact q_retl C0 V (⟨rfl, rfl⟩) d_7_16_6
theorem d_7_8_19 : decode prog_7_method_8_code 19 = .ok (.lconst 0, 1) := by decide +kernel
set_option maxRecDepth 100000 in
set_option maxHeartbeats 4000000 in
theorem c_Flo_signBit_3 (l : Launch) (D : va_G) (g : Nat → ClassId) (ws : va_W) ( qO0 : Nat) : q_mL l y_Flo_signBit prog_7_method_8_code 2 1 0 0 D g [.ref qO0, .int 0] ws (fun r u => 0 = r ∧ ws = u) := by
  intro sz
  refine q_into (by decide) (Nat.le_of_ble_eq_true rfl) ?_
  intro p e s m below meth c ls hsz C0 V hl
  have hx := C0.1
  have hb := C0.2.1
  have hl : lv_has ls 2 [(0, .ref qO0), (1, .int 0)] := hl
  refine lv_iload_n hx hb d_7_8_0 rfl (lv_at hl 1 rfl) ?_
  refine lv_if_eq (tgt := 19) hx hb d_7_8_1 (by decide) (fun c1 => ?_) (fun c1 => absurd (by decide) c1)
  refine lv_lconst (v := 0) hx hb d_7_8_19 (by decide) ?_
  exact q_retl C0 V (⟨rfl, rfl⟩) d_7_8_20
theorem d_7_12_0 : decode prog_7_method_12_code 0 = .ok (.aload_n 0, 1) := by decide +kernel
theorem d_7_12_1 : decode prog_7_method_12_code 1 = .ok (.lload_n 1, 1) := by decide +kernel
theorem d_7_12_2 : decode prog_7_method_12_code 2 = .ok (.invokevirtual 27, 3) := by decide +kernel
theorem d_7_12_5 : decode prog_7_method_12_code 5 = .ok (.ifCond .ne 11, 3) := by decide +kernel
theorem d_7_12_8 : decode prog_7_method_12_code 8 = .ok (.aload_n 0, 1) := by decide +kernel
theorem d_7_12_9 : decode prog_7_method_12_code 9 = .ok (.lload_n 1, 1) := by decide +kernel
theorem d_7_12_10 : decode prog_7_method_12_code 10 = .ok (.invokevirtual 35, 3) := by decide +kernel
theorem d_7_12_13 : decode prog_7_method_12_code 13 = .ok (.goto 15, 3) := by decide +kernel
theorem d_7_12_28 : decode prog_7_method_12_code 28 = .ok (.lreturn, 1) := by decide +kernel
def y_Flo_number : MethodName := ⟨"NumberHouse$Floats", "number", "(J)J"⟩
set_option maxRecDepth 100000 in
set_option maxHeartbeats 4000000 in
theorem c_Flo_number (l : Launch) (D : va_G) (g : Nat → ClassId) (ws : va_W) (kO0 qO0 qO1 : Nat) (hO0 : ws[kO0]? = (some (qO0, .inr (6, [.int 52, .int 1075, .int 2047, .long 0, .int 0, .ref qO1, .int 0])) : Option (Nat × va_E))) : q_mL l y_Flo_number prog_7_method_12_code 3 2 0 0 D g [.ref qO0, .long 0] ws (fun r u => 0 = r ∧ ws = u) := by
  intro sz
  refine q_into (by decide) (Nat.le_of_ble_eq_true rfl) ?_
  intro p e s m below meth c ls hsz C0 V hl
  have hx := C0.1
  have hb := C0.2.1
  have hl : lv_has ls 3 [(0, .ref qO0), (1, .long 0)] := hl
  refine lv_aload_n hx hb d_7_12_0 rfl (lv_at hl 0 rfl) ?_
  refine lv_lload_n hx hb d_7_12_1 rfl (lv_at hl 1 rfl) ?_
  refine q_goi V (q_runV (As := [.long 0]) (rest := []) (d := 1) (mc := 0) (ms := 0) (ci := 6) C0 V rfl LV_Flo_27 (c_Flo_exponent_2 l D g ws kO0 qO0 qO1 hO0 _) rfl rfl hO0 rfl hl.1 rfl (Nat.le_of_ble_eq_true rfl) ⟨by decide, by decide⟩ ⟨Nat.le_of_ble_eq_true rfl, Nat.le_of_ble_eq_true rfl⟩ d_7_12_2) (fun v3 u2 H locs hp1 V => ?_)
  obtain ⟨rfl, rfl⟩ := hp1
  refine lv_if_ne (tgt := 16) hx hb d_7_12_5 (by decide) (fun c5 => absurd (by decide) c5) (fun c5 => ?_)
  refine lv_aload_n hx hb d_7_12_8 rfl (lv_at hl 0 rfl) ?_
  refine lv_lload_n hx hb d_7_12_9 rfl (lv_at hl 1 rfl) ?_
  refine q_gol V (q_runV (As := [.long 0]) (rest := []) (d := 1) (mc := 0) (ms := 0) (ci := 6) C0 V rfl LV_Flo_35 (c_Flo_fraction_2 l D g ws kO0 qO0 qO1 hO0 _) rfl rfl hO0 rfl hl.1 rfl (Nat.le_of_ble_eq_true rfl) ⟨by decide, by decide⟩ ⟨Nat.le_of_ble_eq_true rfl, Nat.le_of_ble_eq_true rfl⟩ d_7_12_10) (fun v8 u7 H locs hp6 V => ?_)
  obtain ⟨rfl, rfl⟩ := hp6
  refine lv_goto (tgt := 28) hx hb d_7_12_13 (by decide) ?_
  exact q_retl C0 V (⟨rfl, rfl⟩) d_7_12_28
set_option maxRecDepth 100000 in
set_option maxHeartbeats 4000000 in
theorem c_Big_push_5 (l : Launch) (D : va_G) (g : Nat → ClassId) (ws : va_W) (kO0 kA1 qO0 qA1 : Nat) (hO0 : ws[kO0]? = (some (qO0, .inr (2, [.ref qA1, .int 1, .int 0])) : Option (Nat × va_E))) (hA1 : ws[kA1]? = (some (qA1, .inl (g 0, 220, .inl (fun _ => 0))) : Option (Nat × va_E))) : q_mV l y_Big_push prog_2_method_6_code 2 1 0 0 D g [.ref qO0, .int 0] ws (fun u => q_un ws u [kO0, kA1] ∧ u[kO0]? = (some (qO0, .inr (2, [.ref qA1, .int 2, .int 0])) : Option (Nat × va_E)) ∧ u[kA1]? = (some (qA1, .inl (g 0, 220, .inl (fun _ => 0))) : Option (Nat × va_E))) := by
  intro sz
  refine q_into (by decide) (Nat.le_of_ble_eq_true rfl) ?_
  intro p e s m below meth c ls hsz C0 V hl
  have hx := C0.1
  have hb := C0.2.1
  have hl : lv_has ls 2 [(0, .ref qO0), (1, .int 0)] := hl
  have n_A1_O0 := q_df hA1 hO0
  have n_O0_A1 := Ne.symm (q_df hA1 hO0)
  have hF : q_un ws ws [kO0, kA1] := q_u0
  refine lv_aload_n hx hb d_2_6_0 rfl (lv_at hl 0 rfl) ?_
  refine q_get (ci := 2) (j := 1) (v := .int 1) C0 V i_Big rfl rfl hO0 (by decide) w_85 rfl d_2_6_1 ?_
  refine lv_aload_n hx hb d_2_6_4 rfl (lv_at hl 0 rfl) ?_
  refine q_get (ci := 2) (j := 0) (v := .ref qA1) C0 V i_Big rfl rfl hO0 (by decide) w_84 rfl d_2_6_5 ?_
  refine q_alen (t := 0) (v := 220) C0 V hA1 rfl (by first | rfl | decide) d_2_6_8 ?_
  refine lv_icmp_ge (tgt := 32) hx hb d_2_6_9 (by decide) (fun c1 => absurd c1 (by decide)) (fun c1 => ?_)
  refine lv_aload_n hx hb d_2_6_12 rfl (lv_at hl 0 rfl) ?_
  refine q_get (ci := 2) (j := 0) (v := .ref qA1) C0 V i_Big rfl rfl hO0 (by decide) w_84 rfl d_2_6_13 ?_
  refine lv_aload_n hx hb d_2_6_16 rfl (lv_at hl 0 rfl) ?_
  refine q_get (ci := 2) (j := 1) (v := .int 1) C0 V i_Big rfl rfl hO0 (by decide) w_85 rfl d_2_6_17 ?_
  refine lv_iload_n hx hb d_2_6_20 rfl (lv_at hl 1 rfl) ?_
  refine q_iast C0 V hA1 (by unfold vp_in; decide) d_2_6_21 (fun H locs w2 hu3 hA1 V => ?_)
  replace hA1 := q_re (y := (qA1, .inl (g 0, 220, .inl (fun _ => 0)))) hA1 (q_eI q_upd0)
  replace hA1 : w2[kA1]? = (some (qA1, .inl (g 0, 220, .inl (fun _ => 0))) : Option (Nat × va_E)) := hA1
  replace hF := q_us hF hu3 (.tail _ (.head _))
  refine lv_aload_n hx hb d_2_6_22 rfl (lv_at hl 0 rfl) ?_
  refine lv_dup hx hb d_2_6_23 rfl ?_
  replace hO0 := (hu3 _ n_O0_A1).trans (hO0)
  refine q_get (ci := 2) (j := 1) (v := .int 1) C0 V i_Big rfl rfl hO0 (by decide) w_85 rfl d_2_6_24 ?_
  refine lv_iconst (v := 1) hx hb d_2_6_27 (by decide) ?_
  refine lv_iadd hx hb d_2_6_28 ?_
  refine q_ti (v := 2) (by decide) ?_
  refine q_put (ci := 2) (j := 1) (v := .int 2) (ty := .int) C0 V i_Big o_Big n_Big rfl rfl hO0 (by decide) w_85 rfl rfl rfl rfl (Nat.le_of_ble_eq_true rfl) d_2_6_29 (fun H locs w4 hu5 hO0 V => ?_)
  replace hO0 : w4[kO0]? = (some (qO0, .inr (2, [.ref qA1, .int 2, .int 0])) : Option (Nat × va_E)) := hO0
  replace hF := q_us hF hu5 (.head _)
  replace hA1 := (hu5 _ n_A1_O0).trans (hA1)
  exact q_retv C0 V (⟨hF, hO0, hA1⟩) d_2_6_32
set_option maxRecDepth 100000 in
set_option maxHeartbeats 4000000 in
theorem c_Big_push_6 (l : Launch) (D : va_G) (g : Nat → ClassId) (ws : va_W) (kO0 kA1 qO0 qA1 : Nat) (hO0 : ws[kO0]? = (some (qO0, .inr (2, [.ref qA1, .int 2, .int 0])) : Option (Nat × va_E))) (hA1 : ws[kA1]? = (some (qA1, .inl (g 0, 220, .inl (fun _ => 0))) : Option (Nat × va_E))) : q_mV l y_Big_push prog_2_method_6_code 2 1 0 0 D g [.ref qO0, .int 0] ws (fun u => q_un ws u [kO0, kA1] ∧ u[kO0]? = (some (qO0, .inr (2, [.ref qA1, .int 3, .int 0])) : Option (Nat × va_E)) ∧ u[kA1]? = (some (qA1, .inl (g 0, 220, .inl (fun _ => 0))) : Option (Nat × va_E))) := by
  intro sz
  refine q_into (by decide) (Nat.le_of_ble_eq_true rfl) ?_
  intro p e s m below meth c ls hsz C0 V hl
  have hx := C0.1
  have hb := C0.2.1
  have hl : lv_has ls 2 [(0, .ref qO0), (1, .int 0)] := hl
  have n_A1_O0 := q_df hA1 hO0
  have n_O0_A1 := Ne.symm (q_df hA1 hO0)
  have hF : q_un ws ws [kO0, kA1] := q_u0
  refine lv_aload_n hx hb d_2_6_0 rfl (lv_at hl 0 rfl) ?_
  refine q_get (ci := 2) (j := 1) (v := .int 2) C0 V i_Big rfl rfl hO0 (by decide) w_85 rfl d_2_6_1 ?_
  refine lv_aload_n hx hb d_2_6_4 rfl (lv_at hl 0 rfl) ?_
  refine q_get (ci := 2) (j := 0) (v := .ref qA1) C0 V i_Big rfl rfl hO0 (by decide) w_84 rfl d_2_6_5 ?_
  refine q_alen (t := 0) (v := 220) C0 V hA1 rfl (by first | rfl | decide) d_2_6_8 ?_
  refine lv_icmp_ge (tgt := 32) hx hb d_2_6_9 (by decide) (fun c1 => absurd c1 (by decide)) (fun c1 => ?_)
  refine lv_aload_n hx hb d_2_6_12 rfl (lv_at hl 0 rfl) ?_
  refine q_get (ci := 2) (j := 0) (v := .ref qA1) C0 V i_Big rfl rfl hO0 (by decide) w_84 rfl d_2_6_13 ?_
  refine lv_aload_n hx hb d_2_6_16 rfl (lv_at hl 0 rfl) ?_
  refine q_get (ci := 2) (j := 1) (v := .int 2) C0 V i_Big rfl rfl hO0 (by decide) w_85 rfl d_2_6_17 ?_
  refine lv_iload_n hx hb d_2_6_20 rfl (lv_at hl 1 rfl) ?_
  refine q_iast C0 V hA1 (by unfold vp_in; decide) d_2_6_21 (fun H locs w2 hu3 hA1 V => ?_)
  replace hA1 := q_re (y := (qA1, .inl (g 0, 220, .inl (fun _ => 0)))) hA1 (q_eI q_upd0)
  replace hA1 : w2[kA1]? = (some (qA1, .inl (g 0, 220, .inl (fun _ => 0))) : Option (Nat × va_E)) := hA1
  replace hF := q_us hF hu3 (.tail _ (.head _))
  refine lv_aload_n hx hb d_2_6_22 rfl (lv_at hl 0 rfl) ?_
  refine lv_dup hx hb d_2_6_23 rfl ?_
  replace hO0 := (hu3 _ n_O0_A1).trans (hO0)
  refine q_get (ci := 2) (j := 1) (v := .int 2) C0 V i_Big rfl rfl hO0 (by decide) w_85 rfl d_2_6_24 ?_
  refine lv_iconst (v := 1) hx hb d_2_6_27 (by decide) ?_
  refine lv_iadd hx hb d_2_6_28 ?_
  refine q_ti (v := 3) (by decide) ?_
  refine q_put (ci := 2) (j := 1) (v := .int 3) (ty := .int) C0 V i_Big o_Big n_Big rfl rfl hO0 (by decide) w_85 rfl rfl rfl rfl (Nat.le_of_ble_eq_true rfl) d_2_6_29 (fun H locs w4 hu5 hO0 V => ?_)
  replace hO0 : w4[kO0]? = (some (qO0, .inr (2, [.ref qA1, .int 3, .int 0])) : Option (Nat × va_E)) := hO0
  replace hF := q_us hF hu5 (.head _)
  replace hA1 := (hu5 _ n_A1_O0).trans (hA1)
  exact q_retv C0 V (⟨hF, hO0, hA1⟩) d_2_6_32
set_option maxRecDepth 100000 in
set_option maxHeartbeats 4000000 in
theorem c_Big_trim_4 (l : Launch) (D : va_G) (g : Nat → ClassId) (ws : va_W) (kO0 kA1 qO0 qA1 : Nat) (hO0 : ws[kO0]? = (some (qO0, .inr (2, [.ref qA1, .int 3, .int 0])) : Option (Nat × va_E))) (hA1 : ws[kA1]? = (some (qA1, .inl (g 0, 220, .inl (fun _ => 0))) : Option (Nat × va_E))) : q_mV l y_Big_trim prog_2_method_7_code 2 1 0 0 D g [.ref qO0] ws (fun u => q_un ws u [kO0] ∧ u[kO0]? = (some (qO0, .inr (2, [.ref qA1, .int 0, .int 0])) : Option (Nat × va_E))) := by
  intro sz
  refine q_into (by decide) (Nat.le_of_ble_eq_true rfl) ?_
  intro p e s m below meth c ls hsz C0 V hl
  have hx := C0.1
  have hb := C0.2.1
  have hl : lv_has ls 2 [(0, .ref qO0)] := hl
  have n_A1_O0 := q_df hA1 hO0
  have hF : q_un ws ws [kO0] := q_u0
  refine lv_aload_n hx hb d_2_7_0 rfl (lv_at hl 0 rfl) ?_
  refine q_get (ci := 2) (j := 1) (v := .int 3) C0 V i_Big rfl rfl hO0 (by decide) w_85 rfl d_2_7_1 ?_
  refine lv_istore_n (lv' := [(1, .int 3), (0, .ref qO0)]) hx hb d_2_7_4 rfl hl (by decide) rfl (fun ls hl => ?_)
  refine lv_iload_n hx hb d_2_7_5 rfl (lv_at hl 0 rfl) ?_
  refine lv_if_le (tgt := 26) hx hb d_2_7_6 (by decide) (fun c1 => absurd c1 (by decide)) (fun c1 => ?_)
  refine lv_aload_n hx hb d_2_7_9 rfl (lv_at hl 1 rfl) ?_
  refine q_get (ci := 2) (j := 0) (v := .ref qA1) C0 V i_Big rfl rfl hO0 (by decide) w_84 rfl d_2_7_10 ?_
  refine lv_iload_n hx hb d_2_7_13 rfl (lv_at hl 0 rfl) ?_
  refine lv_iconst (v := 1) hx hb d_2_7_14 (by decide) ?_
  refine lv_isub hx hb d_2_7_15 ?_
  refine q_ti (v := 2) (by decide) ?_
  refine q_iald C0 V hA1 (by unfold vp_in; decide) d_2_7_16 ?_
  refine q_ti (v := 0) (by first | rfl | decide | simp [upd, vp_updL, sb_cl0]) ?_
  refine lv_if_ne (tgt := 26) hx hb d_2_7_17 (by decide) (fun c2 => absurd (by decide) c2) (fun c2 => ?_)
  refine lv_iinc (v := 2) (lv' := [(1, .int 2), (0, .ref qO0)]) hx hb d_2_7_20 hl (k := 0) rfl (by decide) (by decide) rfl (fun ls hl => ?_)
  refine lv_goto (tgt := 5) hx hb d_2_7_23 (by decide) ?_
  refine lv_iload_n hx hb d_2_7_5 rfl (lv_at hl 0 rfl) ?_
  refine lv_if_le (tgt := 26) hx hb d_2_7_6 (by decide) (fun c3 => absurd c3 (by decide)) (fun c3 => ?_)
  refine lv_aload_n hx hb d_2_7_9 rfl (lv_at hl 1 rfl) ?_
  refine q_get (ci := 2) (j := 0) (v := .ref qA1) C0 V i_Big rfl rfl hO0 (by decide) w_84 rfl d_2_7_10 ?_
  refine lv_iload_n hx hb d_2_7_13 rfl (lv_at hl 0 rfl) ?_
  refine lv_iconst (v := 1) hx hb d_2_7_14 (by decide) ?_
  refine lv_isub hx hb d_2_7_15 ?_
  refine q_ti (v := 1) (by decide) ?_
  refine q_iald C0 V hA1 (by unfold vp_in; decide) d_2_7_16 ?_
  refine q_ti (v := 0) (by first | rfl | decide | simp [upd, vp_updL, sb_cl0]) ?_
  refine lv_if_ne (tgt := 26) hx hb d_2_7_17 (by decide) (fun c4 => absurd (by decide) c4) (fun c4 => ?_)
  refine lv_iinc (v := 1) (lv' := [(1, .int 1), (0, .ref qO0)]) hx hb d_2_7_20 hl (k := 0) rfl (by decide) (by decide) rfl (fun ls hl => ?_)
  refine lv_goto (tgt := 5) hx hb d_2_7_23 (by decide) ?_
  refine lv_iload_n hx hb d_2_7_5 rfl (lv_at hl 0 rfl) ?_
  refine lv_if_le (tgt := 26) hx hb d_2_7_6 (by decide) (fun c5 => absurd c5 (by decide)) (fun c5 => ?_)
  refine lv_aload_n hx hb d_2_7_9 rfl (lv_at hl 1 rfl) ?_
  refine q_get (ci := 2) (j := 0) (v := .ref qA1) C0 V i_Big rfl rfl hO0 (by decide) w_84 rfl d_2_7_10 ?_
  refine lv_iload_n hx hb d_2_7_13 rfl (lv_at hl 0 rfl) ?_
  refine lv_iconst (v := 1) hx hb d_2_7_14 (by decide) ?_
  refine lv_isub hx hb d_2_7_15 ?_
  refine q_ti (v := 0) (by decide) ?_
  refine q_iald C0 V hA1 (by unfold vp_in; decide) d_2_7_16 ?_
  refine q_ti (v := 0) (by first | rfl | decide | simp [upd, vp_updL, sb_cl0]) ?_
  refine lv_if_ne (tgt := 26) hx hb d_2_7_17 (by decide) (fun c6 => absurd (by decide) c6) (fun c6 => ?_)
  refine lv_iinc (v := 0) (lv' := [(1, .int 0), (0, .ref qO0)]) hx hb d_2_7_20 hl (k := 0) rfl (by decide) (by decide) rfl (fun ls hl => ?_)
  refine lv_goto (tgt := 5) hx hb d_2_7_23 (by decide) ?_
  refine lv_iload_n hx hb d_2_7_5 rfl (lv_at hl 0 rfl) ?_
  refine lv_if_le (tgt := 26) hx hb d_2_7_6 (by decide) (fun c7 => ?_) (fun c7 => absurd (by decide) c7)
  refine lv_aload_n hx hb d_2_7_26 rfl (lv_at hl 1 rfl) ?_
  refine lv_iload_n hx hb d_2_7_27 rfl (lv_at hl 0 rfl) ?_
  refine q_put (ci := 2) (j := 1) (v := .int 0) (ty := .int) C0 V i_Big o_Big n_Big rfl rfl hO0 (by decide) w_85 rfl rfl rfl rfl (Nat.le_of_ble_eq_true rfl) d_2_7_28 (fun H locs w8 hu9 hO0 V => ?_)
  replace hO0 : w8[kO0]? = (some (qO0, .inr (2, [.ref qA1, .int 0, .int 0])) : Option (Nat × va_E)) := hO0
  replace hF := q_us hF hu9 (.head _)
  refine lv_aload_n hx hb d_2_7_31 rfl (lv_at hl 1 rfl) ?_
  refine lv_aload_n hx hb d_2_7_32 rfl (lv_at hl 1 rfl) ?_
  refine q_get (ci := 2) (j := 2) (v := .int 0) C0 V i_Big rfl rfl hO0 (by decide) w_94 rfl d_2_7_33 ?_
  refine lv_if_eq (tgt := 47) hx hb d_2_7_36 (by decide) (fun c10 => ?_) (fun c10 => absurd (by decide) c10)
  refine lv_iconst (v := 0) hx hb d_2_7_47 (by decide) ?_
  refine q_put (ci := 2) (j := 2) (v := .int 0) (ty := .boolean) C0 V i_Big o_Big n_Big rfl rfl hO0 (by decide) w_94 rfl rfl rfl rfl (Nat.le_of_ble_eq_true rfl) d_2_7_48 (fun H locs w11 hu12 hO0 V => ?_)
  replace hO0 : w11[kO0]? = (some (qO0, .inr (2, [.ref qA1, .int 0, .int 0])) : Option (Nat × va_E)) := hO0
  replace hF := q_us hF hu12 (.head _)
  exact q_retv C0 V (⟨hF, hO0⟩) d_2_7_51
set_option maxRecDepth 100000 in
set_option maxHeartbeats 4000000 in
theorem c_Big_setLong_2 (l : Launch) (D : va_G) (g : Nat → ClassId) (ws : va_W) (kO0 kA1 qO0 qA1 : Nat) (hO0 : ws[kO0]? = (some (qO0, .inr (2, [.ref qA1, .int 0, .int 0])) : Option (Nat × va_E))) (hA1 : ws[kA1]? = (some (qA1, .inl (g 0, 220, .inl (fun _ => 0))) : Option (Nat × va_E))) : q_mV l y_Big_setLong prog_2_method_3_code 6 2 0 0 D g [.ref qO0, .long 0] ws (fun u => q_un ws u [kO0, kA1] ∧ u[kO0]? = (some (qO0, .inr (2, [.ref qA1, .int 0, .int 0])) : Option (Nat × va_E)) ∧ u[kA1]? = (some (qA1, .inl (g 0, 220, .inl (fun _ => 0))) : Option (Nat × va_E))) := by
  intro sz
  refine q_into (by decide) (Nat.le_of_ble_eq_true rfl) ?_
  intro p e s m below meth c ls hsz C0 V hl
  have hx := C0.1
  have hb := C0.2.1
  have hl : lv_has ls 6 [(0, .ref qO0), (1, .long 0)] := hl
  have n_A1_O0 := q_df hA1 hO0
  have hF : q_un ws ws [kO0, kA1] := q_u0
  refine lv_aload_n hx hb d_2_3_0 rfl (lv_at hl 0 rfl) ?_
  refine q_gov V (q_runV (As := []) (rest := []) (d := 1) (mc := 0) (ms := 0) (ci := 2) C0 V rfl LV_Big_21 (c_Big_clear l D g ws kO0 qO0 qA1 0 0 hO0 _) rfl rfl hO0 rfl hl.1 rfl (Nat.le_of_ble_eq_true rfl) ⟨by decide, by decide⟩ ⟨Nat.le_of_ble_eq_true rfl, Nat.le_of_ble_eq_true rfl⟩ d_2_3_1) (fun u2 H locs hp1 V => ?_)
  obtain ⟨hg3, hO0⟩ := hp1
  replace hF := q_uc hF hg3 (q_sc (.head _) (fun _ h => absurd h List.not_mem_nil))
  refine lv_lload_n hx hb d_2_3_4 rfl (lv_at hl 1 rfl) ?_
  refine q_absl C0 hl.1 rfl w_198 w_199 w_7 w_200 ⟨Nat.le_of_ble_eq_true rfl, Nat.le_of_ble_eq_true rfl⟩ ⟨Nat.le_of_ble_eq_true rfl, Nat.le_of_ble_eq_true rfl⟩ d_2_3_5 ?_
  refine q_tl (v := 0) (by decide) ?_
  refine lv_lstore_n (lv' := [(3, .long 0), (0, .ref qO0), (1, .long 0)]) hx hb d_2_3_8 rfl hl (by decide) rfl (fun ls hl => ?_)
  refine lv_iconst (v := 0) hx hb d_2_3_9 (by decide) ?_
  refine lv_istore (lv' := [(5, .int 0), (3, .long 0), (0, .ref qO0), (1, .long 0)]) hx hb d_2_3_10 hl (by decide) rfl (fun ls hl => ?_)
  refine lv_iload hx hb d_2_3_12 (lv_at hl 0 rfl) ?_
  refine lv_iconst (v := 3) hx hb d_2_3_14 (by decide) ?_
  refine lv_icmp_ge (tgt := 39) hx hb d_2_3_15 (by decide) (fun c4 => absurd c4 (by decide)) (fun c4 => ?_)
  refine lv_aload_n hx hb d_2_3_18 rfl (lv_at hl 2 rfl) ?_
  refine lv_lload_n hx hb d_2_3_19 rfl (lv_at hl 1 rfl) ?_
  refine q_ldc2 C0 rfl w_201 d_2_3_20 ?_
  refine lv_land hx hb d_2_3_23 ?_
  refine q_tl (v := 0) (by decide) ?_
  refine lv_l2i hx hb d_2_3_24 rfl ?_
  refine q_ti (v := 0) (by decide) ?_
  replace hA1 := (hg3 _ (q_nc n_A1_O0 List.not_mem_nil)).trans (hA1)
  refine q_gov V (q_runV (As := [.int 0]) (rest := []) (d := 1) (mc := 0) (ms := 0) (ci := 2) C0 V rfl LV_Big_32 (c_Big_push_4 l D g u2 kO0 kA1 qO0 qA1 hO0 hA1 _) rfl rfl hO0 rfl hl.1 rfl (Nat.le_of_ble_eq_true rfl) ⟨by decide, by decide⟩ ⟨Nat.le_of_ble_eq_true rfl, Nat.le_of_ble_eq_true rfl⟩ d_2_3_25) (fun u6 H locs hp5 V => ?_)
  obtain ⟨hg7, hO0, hA1⟩ := hp5
  replace hF := q_uc hF hg7 (q_sc (.head _) (q_sc (.tail _ (.head _)) (fun _ h => absurd h List.not_mem_nil)))
  refine lv_lload_n hx hb d_2_3_28 rfl (lv_at hl 1 rfl) ?_
  refine lv_bipush (v := 31) hx hb d_2_3_29 (by decide) ?_
  refine lv_lushr hx hb d_2_3_31 rfl ?_
  refine q_tl (v := 0) (by decide) ?_
  refine lv_lstore_n (lv' := [(3, .long 0), (5, .int 0), (0, .ref qO0), (1, .long 0)]) hx hb d_2_3_32 rfl hl (by decide) rfl (fun ls hl => ?_)
  refine lv_iinc (v := 1) (lv' := [(5, .int 1), (3, .long 0), (0, .ref qO0), (1, .long 0)]) hx hb d_2_3_33 hl (k := 1) rfl (by decide) (by decide) rfl (fun ls hl => ?_)
  refine lv_goto (tgt := 12) hx hb d_2_3_36 (by decide) ?_
  refine lv_iload hx hb d_2_3_12 (lv_at hl 0 rfl) ?_
  refine lv_iconst (v := 3) hx hb d_2_3_14 (by decide) ?_
  refine lv_icmp_ge (tgt := 39) hx hb d_2_3_15 (by decide) (fun c8 => absurd c8 (by decide)) (fun c8 => ?_)
  refine lv_aload_n hx hb d_2_3_18 rfl (lv_at hl 2 rfl) ?_
  refine lv_lload_n hx hb d_2_3_19 rfl (lv_at hl 1 rfl) ?_
  refine q_ldc2 C0 rfl w_201 d_2_3_20 ?_
  refine lv_land hx hb d_2_3_23 ?_
  refine q_tl (v := 0) (by decide) ?_
  refine lv_l2i hx hb d_2_3_24 rfl ?_
  refine q_ti (v := 0) (by decide) ?_
  refine q_gov V (q_runV (As := [.int 0]) (rest := []) (d := 1) (mc := 0) (ms := 0) (ci := 2) C0 V rfl LV_Big_32 (c_Big_push_5 l D g u6 kO0 kA1 qO0 qA1 hO0 hA1 _) rfl rfl hO0 rfl hl.1 rfl (Nat.le_of_ble_eq_true rfl) ⟨by decide, by decide⟩ ⟨Nat.le_of_ble_eq_true rfl, Nat.le_of_ble_eq_true rfl⟩ d_2_3_25) (fun u10 H locs hp9 V => ?_)
  obtain ⟨hg11, hO0, hA1⟩ := hp9
  replace hF := q_uc hF hg11 (q_sc (.head _) (q_sc (.tail _ (.head _)) (fun _ h => absurd h List.not_mem_nil)))
  refine lv_lload_n hx hb d_2_3_28 rfl (lv_at hl 1 rfl) ?_
  refine lv_bipush (v := 31) hx hb d_2_3_29 (by decide) ?_
  refine lv_lushr hx hb d_2_3_31 rfl ?_
  refine q_tl (v := 0) (by decide) ?_
  refine lv_lstore_n (lv' := [(3, .long 0), (5, .int 1), (0, .ref qO0), (1, .long 0)]) hx hb d_2_3_32 rfl hl (by decide) rfl (fun ls hl => ?_)
  refine lv_iinc (v := 2) (lv' := [(5, .int 2), (3, .long 0), (0, .ref qO0), (1, .long 0)]) hx hb d_2_3_33 hl (k := 1) rfl (by decide) (by decide) rfl (fun ls hl => ?_)
  refine lv_goto (tgt := 12) hx hb d_2_3_36 (by decide) ?_
  refine lv_iload hx hb d_2_3_12 (lv_at hl 0 rfl) ?_
  refine lv_iconst (v := 3) hx hb d_2_3_14 (by decide) ?_
  refine lv_icmp_ge (tgt := 39) hx hb d_2_3_15 (by decide) (fun c12 => absurd c12 (by decide)) (fun c12 => ?_)
  refine lv_aload_n hx hb d_2_3_18 rfl (lv_at hl 2 rfl) ?_
  refine lv_lload_n hx hb d_2_3_19 rfl (lv_at hl 1 rfl) ?_
  refine q_ldc2 C0 rfl w_201 d_2_3_20 ?_
  refine lv_land hx hb d_2_3_23 ?_
  refine q_tl (v := 0) (by decide) ?_
  refine lv_l2i hx hb d_2_3_24 rfl ?_
  refine q_ti (v := 0) (by decide) ?_
  refine q_gov V (q_runV (As := [.int 0]) (rest := []) (d := 1) (mc := 0) (ms := 0) (ci := 2) C0 V rfl LV_Big_32 (c_Big_push_6 l D g u10 kO0 kA1 qO0 qA1 hO0 hA1 _) rfl rfl hO0 rfl hl.1 rfl (Nat.le_of_ble_eq_true rfl) ⟨by decide, by decide⟩ ⟨Nat.le_of_ble_eq_true rfl, Nat.le_of_ble_eq_true rfl⟩ d_2_3_25) (fun u14 H locs hp13 V => ?_)
  obtain ⟨hg15, hO0, hA1⟩ := hp13
  replace hF := q_uc hF hg15 (q_sc (.head _) (q_sc (.tail _ (.head _)) (fun _ h => absurd h List.not_mem_nil)))
  refine lv_lload_n hx hb d_2_3_28 rfl (lv_at hl 1 rfl) ?_
  refine lv_bipush (v := 31) hx hb d_2_3_29 (by decide) ?_
  refine lv_lushr hx hb d_2_3_31 rfl ?_
  refine q_tl (v := 0) (by decide) ?_
  refine lv_lstore_n (lv' := [(3, .long 0), (5, .int 2), (0, .ref qO0), (1, .long 0)]) hx hb d_2_3_32 rfl hl (by decide) rfl (fun ls hl => ?_)
  refine lv_iinc (v := 3) (lv' := [(5, .int 3), (3, .long 0), (0, .ref qO0), (1, .long 0)]) hx hb d_2_3_33 hl (k := 1) rfl (by decide) (by decide) rfl (fun ls hl => ?_)
  refine lv_goto (tgt := 12) hx hb d_2_3_36 (by decide) ?_
  refine lv_iload hx hb d_2_3_12 (lv_at hl 0 rfl) ?_
  refine lv_iconst (v := 3) hx hb d_2_3_14 (by decide) ?_
  refine lv_icmp_ge (tgt := 39) hx hb d_2_3_15 (by decide) (fun c16 => ?_) (fun c16 => absurd (by decide) c16)
  refine lv_aload_n hx hb d_2_3_39 rfl (lv_at hl 2 rfl) ?_
  refine q_gov V (q_runV (As := []) (rest := []) (d := 1) (mc := 0) (ms := 0) (ci := 2) C0 V rfl LV_Big_36 (c_Big_trim_4 l D g u14 kO0 kA1 qO0 qA1 hO0 hA1 _) rfl rfl hO0 rfl hl.1 rfl (Nat.le_of_ble_eq_true rfl) ⟨by decide, by decide⟩ ⟨Nat.le_of_ble_eq_true rfl, Nat.le_of_ble_eq_true rfl⟩ d_2_3_40) (fun u18 H locs hp17 V => ?_)
  obtain ⟨hg19, hO0⟩ := hp17
  replace hF := q_uc hF hg19 (q_sc (.head _) (fun _ h => absurd h List.not_mem_nil))
  refine lv_aload_n hx hb d_2_3_43 rfl (lv_at hl 2 rfl) ?_
  refine lv_lload_n hx hb d_2_3_44 rfl (lv_at hl 3 rfl) ?_
  refine lv_lconst (v := 0) hx hb d_2_3_45 (by decide) ?_
  refine W.lcmp hx hb d_2_3_46 ?_
  refine q_ti (v := 0) (by decide) ?_
  refine lv_if_ge (tgt := 54) hx hb d_2_3_47 (by decide) (fun c20 => ?_) (fun c20 => absurd (by decide) c20)
  refine lv_iconst (v := 0) hx hb d_2_3_54 (by decide) ?_
  refine q_put (ci := 2) (j := 2) (v := .int 0) (ty := .boolean) C0 V i_Big o_Big n_Big rfl rfl hO0 (by decide) w_94 rfl rfl rfl rfl (Nat.le_of_ble_eq_true rfl) d_2_3_55 (fun H locs w21 hu22 hO0 V => ?_)
  replace hO0 : w21[kO0]? = (some (qO0, .inr (2, [.ref qA1, .int 0, .int 0])) : Option (Nat × va_E)) := hO0
  replace hF := q_us hF hu22 (.head _)
  replace hA1 := (hu22 _ n_A1_O0).trans ((hg19 _ (q_nc n_A1_O0 List.not_mem_nil)).trans (hA1))
  exact q_retv C0 V (⟨hF, hO0, hA1⟩) d_2_3_58
theorem d_7_13_0 : decode prog_7_method_13_code 0 = .ok (.aload_n 0, 1) := by decide +kernel
theorem d_7_13_1 : decode prog_7_method_13_code 1 = .ok (.lload_n 1, 1) := by decide +kernel
theorem d_7_13_2 : decode prog_7_method_13_code 2 = .ok (.invokevirtual 27, 3) := by decide +kernel
theorem d_7_13_5 : decode prog_7_method_13_code 5 = .ok (.iconst 1, 1) := by decide +kernel
theorem d_7_13_6 : decode prog_7_method_13_code 6 = .ok (.invokestatic 46, 3) := by decide +kernel
theorem w_802 : (Cond.methodLink "NumberHouse$Floats" (46 : Nat) ({ cls := "java/lang/Math", name := "max", desc := "(II)I" } : MethodName)) ∈ q_tbl := q_of 802 (by decide +kernel) (by decide +kernel)
theorem d_7_13_9 : decode prog_7_method_13_code 9 = .ok (.aload_n 0, 1) := by decide +kernel
theorem d_7_13_10 : decode prog_7_method_13_code 10 = .ok (.getfield 13, 3) := by decide +kernel
theorem d_7_13_13 : decode prog_7_method_13_code 13 = .ok (.isub, 1) := by decide +kernel
theorem d_7_13_14 : decode prog_7_method_13_code 14 = .ok (.ireturn, 1) := by decide +kernel
def y_Flo_power : MethodName := ⟨"NumberHouse$Floats", "power", "(J)I"⟩
set_option maxRecDepth 100000 in
set_option maxHeartbeats 4000000 in
theorem c_Flo_power (l : Launch) (D : va_G) (g : Nat → ClassId) (ws : va_W) (kO0 qO0 qO1 : Nat) (hO0 : ws[kO0]? = (some (qO0, .inr (6, [.int 52, .int 1075, .int 2047, .long 0, .int 0, .ref qO1, .int 0])) : Option (Nat × va_E))) : q_mI l y_Flo_power prog_7_method_13_code 3 (.int) 2 0 0 D g [.ref qO0, .long 0] ws (fun r u => (-1074) = r ∧ ws = u) := by
  intro sz
  refine q_into (by decide) (Nat.le_of_ble_eq_true rfl) ?_
  intro p e s m below meth c ls hsz C0 V hl
  have hx := C0.1
  have hb := C0.2.1
  have hl : lv_has ls 3 [(0, .ref qO0), (1, .long 0)] := hl
  refine lv_aload_n hx hb d_7_13_0 rfl (lv_at hl 0 rfl) ?_
  refine lv_lload_n hx hb d_7_13_1 rfl (lv_at hl 1 rfl) ?_
  refine q_goi V (q_runV (As := [.long 0]) (rest := []) (d := 1) (mc := 0) (ms := 0) (ci := 6) C0 V rfl LV_Flo_27 (c_Flo_exponent_2 l D g ws kO0 qO0 qO1 hO0 _) rfl rfl hO0 rfl hl.1 rfl (Nat.le_of_ble_eq_true rfl) ⟨by decide, by decide⟩ ⟨Nat.le_of_ble_eq_true rfl, Nat.le_of_ble_eq_true rfl⟩ d_7_13_2) (fun v3 u2 H locs hp1 V => ?_)
  obtain ⟨rfl, rfl⟩ := hp1
  refine lv_iconst (v := 1) hx hb d_7_13_5 (by decide) ?_
  refine q_max C0 hl.1 rfl w_802 w_803 w_7 w_804 ⟨Nat.le_of_ble_eq_true rfl, Nat.le_of_ble_eq_true rfl⟩ ⟨Nat.le_of_ble_eq_true rfl, Nat.le_of_ble_eq_true rfl⟩ d_7_13_6 ?_
  refine q_ti (v := 1) (by decide) ?_
  refine lv_aload_n hx hb d_7_13_9 rfl (lv_at hl 0 rfl) ?_
  refine q_get (ci := 6) (j := 1) (v := .int 1075) C0 V i_Flo rfl rfl hO0 (by decide) w_233 rfl d_7_13_10 ?_
  refine lv_isub hx hb d_7_13_13 ?_
  refine q_ti (v := (-1074)) (by decide) ?_
  exact q_reti C0 V (⟨rfl, rfl⟩) d_7_13_14
theorem d_7_17_0 : decode prog_7_method_17_code 0 = .ok (.aload_n 1, 1) := by decide +kernel
theorem d_7_17_1 : decode prog_7_method_17_code 1 = .ok (.invokevirtual 104, 3) := by decide +kernel
theorem w_738 : (Cond.methodLink "NumberHouse$Floats" (104 : Nat) ({ cls := "NumberHouse$Big", name := "bitLength", desc := "()I" } : MethodName)) ∈ q_tbl := q_of 738 (by decide +kernel) (by decide +kernel)
theorem LV_Flo_104 : q_LV "NumberHouse$Floats" 104 y_Big_bitLength prog_2_method_12_code 1 (some .int) 0 := ⟨w_610, w_4, w_738, w_608, w_609, ⟨by decide, by decide, by decide +kernel⟩⟩
theorem d_7_17_4 : decode prog_7_method_17_code 4 = .ok (.istore 5, 2) := by decide +kernel
theorem d_7_17_6 : decode prog_7_method_17_code 6 = .ok (.iload 5, 2) := by decide +kernel
theorem d_7_17_8 : decode prog_7_method_17_code 8 = .ok (.ifCond .eq 15, 3) := by decide +kernel
theorem d_7_17_23 : decode prog_7_method_17_code 23 = .ok (.lconst 0, 1) := by decide +kernel
theorem d_7_17_24 : decode prog_7_method_17_code 24 = .ok (.lreturn, 1) := by decide +kernel
def y_Flo_nearest : MethodName := ⟨"NumberHouse$Floats", "nearest", "(LNumberHouse$Big;JZ)J"⟩
set_option maxRecDepth 100000 in
set_option maxHeartbeats 4000000 in
theorem c_Flo_nearest (l : Launch) (D : va_G) (g : Nat → ClassId) (ws : va_W) (kO1 qO0 qO1 qA3 : Nat) (hO1 : ws[kO1]? = (some (qO1, .inr (2, [.ref qA3, .int 0, .int 0])) : Option (Nat × va_E))) : q_mL l y_Flo_nearest prog_7_method_17_code 12 2 0 0 D g [.ref qO0, .ref qO1, .long (-1074), .int 0] ws (fun r u => 0 = r ∧ ws = u) := by
  intro sz
  refine q_into (by decide) (Nat.le_of_ble_eq_true rfl) ?_
  intro p e s m below meth c ls hsz C0 V hl
  have hx := C0.1
  have hb := C0.2.1
  have hl : lv_has ls 12 [(0, .ref qO0), (1, .ref qO1), (2, .long (-1074)), (4, .int 0)] := hl
  refine lv_aload_n hx hb d_7_17_0 rfl (lv_at hl 1 rfl) ?_
  refine q_goi V (q_runV (As := []) (rest := []) (d := 1) (mc := 0) (ms := 0) (ci := 2) C0 V rfl LV_Flo_104 (c_Big_bitLength l D g ws kO1 qO1 qA3 hO1 _) rfl rfl hO1 rfl hl.1 rfl (Nat.le_of_ble_eq_true rfl) ⟨by decide, by decide⟩ ⟨Nat.le_of_ble_eq_true rfl, Nat.le_of_ble_eq_true rfl⟩ d_7_17_1) (fun v3 u2 H locs hp1 V => ?_)
  obtain ⟨rfl, rfl⟩ := hp1
  refine lv_istore (lv' := [(5, .int 0), (0, .ref qO0), (1, .ref qO1), (2, .long (-1074)), (4, .int 0)]) hx hb d_7_17_4 hl (by decide) rfl (fun ls hl => ?_)
  refine lv_iload hx hb d_7_17_6 (lv_at hl 0 rfl) ?_
  refine lv_if_eq (tgt := 23) hx hb d_7_17_8 (by decide) (fun c5 => ?_) (fun c5 => absurd (by decide) c5)
  refine lv_lconst (v := 0) hx hb d_7_17_23 (by decide) ?_
  exact q_retl C0 V (⟨rfl, rfl⟩) d_7_17_24
theorem d_7_16_7 : decode prog_7_method_16_code 7 = .ok (.aload_n 3, 1) := by decide +kernel
theorem d_7_16_8 : decode prog_7_method_16_code 8 = .ok (.lload_n 1, 1) := by decide +kernel
theorem d_7_16_9 : decode prog_7_method_16_code 9 = .ok (.invokevirtual 94, 3) := by decide +kernel
theorem w_1528 : (Cond.methodLink "NumberHouse$Floats" (94 : Nat) ({ cls := "NumberHouse$Floats", name := "isNoNumber", desc := "(J)Z" } : MethodName)) ∈ q_tbl := q_of 1528 (by decide +kernel) (by decide +kernel)
theorem LV_Flo_94 : q_LV "NumberHouse$Floats" 94 y_Flo_isNoNumber prog_7_method_6_code 3 (some .boolean) 1 := ⟨w_1234, w_8, w_1528, w_1232, w_1233, ⟨by decide, by decide, by decide +kernel⟩⟩
theorem d_7_16_12 : decode prog_7_method_16_code 12 = .ok (.ifCond .eq 8, 3) := by decide +kernel
theorem d_7_16_20 : decode prog_7_method_16_code 20 = .ok (.aload_n 0, 1) := by decide +kernel
theorem d_7_16_21 : decode prog_7_method_16_code 21 = .ok (.aload_n 3, 1) := by decide +kernel
theorem d_7_16_22 : decode prog_7_method_16_code 22 = .ok (.lload_n 1, 1) := by decide +kernel
theorem d_7_16_23 : decode prog_7_method_16_code 23 = .ok (.invokevirtual 43, 3) := by decide +kernel
theorem d_7_16_26 : decode prog_7_method_16_code 26 = .ok (.invokevirtual 23, 3) := by decide +kernel
theorem d_7_16_29 : decode prog_7_method_16_code 29 = .ok (.lstore 4, 2) := by decide +kernel
theorem d_7_16_31 : decode prog_7_method_16_code 31 = .ok (.aload_n 3, 1) := by decide +kernel
theorem d_7_16_32 : decode prog_7_method_16_code 32 = .ok (.lload_n 1, 1) := by decide +kernel
theorem d_7_16_33 : decode prog_7_method_16_code 33 = .ok (.invokevirtual 31, 3) := by decide +kernel
theorem d_7_16_36 : decode prog_7_method_16_code 36 = .ok (.ifCond .ne 11, 3) := by decide +kernel
theorem d_7_16_47 : decode prog_7_method_16_code 47 = .ok (.aload_n 0, 1) := by decide +kernel
theorem d_7_16_48 : decode prog_7_method_16_code 48 = .ok (.getfield 19, 3) := by decide +kernel
theorem d_7_16_51 : decode prog_7_method_16_code 51 = .ok (.getfield 55, 3) := by decide +kernel
theorem w_113 : (Cond.fieldLink "NumberHouse$Floats" (55 : Nat) "NumberHouse$Mill" "number" "LNumberHouse$Big;") ∈ q_tbl := q_of 113 (by decide +kernel) (by decide +kernel)
theorem d_7_16_54 : decode prog_7_method_16_code 54 = .ok (.aload_n 3, 1) := by decide +kernel
theorem d_7_16_55 : decode prog_7_method_16_code 55 = .ok (.lload_n 1, 1) := by decide +kernel
theorem d_7_16_56 : decode prog_7_method_16_code 56 = .ok (.invokevirtual 61, 3) := by decide +kernel
theorem w_1183 : (Cond.code ({ cls := "NumberHouse$Floats", name := "number", desc := "(J)J" } : MethodName) prog_7_method_12_code (3 : Nat) (some .long)) ∈ q_tbl := q_of 1183 (by decide +kernel) (by decide +kernel)
theorem w_1180 : (Cond.methodLink "NumberHouse$Floats" (61 : Nat) ({ cls := "NumberHouse$Floats", name := "number", desc := "(J)J" } : MethodName)) ∈ q_tbl := q_of 1180 (by decide +kernel) (by decide +kernel)
theorem w_1181 : (Cond.instanceMethod ({ cls := "NumberHouse$Floats", name := "number", desc := "(J)J" } : MethodName)) ∈ q_tbl := q_of 1181 (by decide +kernel) (by decide +kernel)
theorem w_1182 : (Cond.selects "NumberHouse$Floats" ({ cls := "NumberHouse$Floats", name := "number", desc := "(J)J" } : MethodName) ({ cls := "NumberHouse$Floats", name := "number", desc := "(J)J" } : MethodName)) ∈ q_tbl := q_of 1182 (by decide +kernel) (by decide +kernel)
theorem LV_Flo_61 : q_LV "NumberHouse$Floats" 61 y_Flo_number prog_7_method_12_code 3 (some .long) 1 := ⟨w_1183, w_8, w_1180, w_1181, w_1182, ⟨by decide, by decide, by decide +kernel⟩⟩
theorem d_7_16_59 : decode prog_7_method_16_code 59 = .ok (.invokevirtual 63, 3) := by decide +kernel
theorem w_801 : (Cond.methodLink "NumberHouse$Floats" (63 : Nat) ({ cls := "NumberHouse$Big", name := "setLong", desc := "(J)V" } : MethodName)) ∈ q_tbl := q_of 801 (by decide +kernel) (by decide +kernel)
theorem LV_Flo_63 : q_LV "NumberHouse$Floats" 63 y_Big_setLong prog_2_method_3_code 6 none 1 := ⟨w_193, w_4, w_801, w_191, w_192, ⟨by decide, by decide, by decide +kernel⟩⟩
theorem d_7_16_62 : decode prog_7_method_16_code 62 = .ok (.aload_n 0, 1) := by decide +kernel
theorem d_7_16_63 : decode prog_7_method_16_code 63 = .ok (.aload_n 0, 1) := by decide +kernel
theorem d_7_16_64 : decode prog_7_method_16_code 64 = .ok (.getfield 19, 3) := by decide +kernel
theorem d_7_16_67 : decode prog_7_method_16_code 67 = .ok (.getfield 55, 3) := by decide +kernel
theorem d_7_16_70 : decode prog_7_method_16_code 70 = .ok (.aload_n 3, 1) := by decide +kernel
theorem d_7_16_71 : decode prog_7_method_16_code 71 = .ok (.lload_n 1, 1) := by decide +kernel
theorem d_7_16_72 : decode prog_7_method_16_code 72 = .ok (.invokevirtual 52, 3) := by decide +kernel
theorem w_1179 : (Cond.code ({ cls := "NumberHouse$Floats", name := "power", desc := "(J)I" } : MethodName) prog_7_method_13_code (3 : Nat) (some .int)) ∈ q_tbl := q_of 1179 (by decide +kernel) (by decide +kernel)
theorem w_1176 : (Cond.methodLink "NumberHouse$Floats" (52 : Nat) ({ cls := "NumberHouse$Floats", name := "power", desc := "(J)I" } : MethodName)) ∈ q_tbl := q_of 1176 (by decide +kernel) (by decide +kernel)
theorem w_1177 : (Cond.instanceMethod ({ cls := "NumberHouse$Floats", name := "power", desc := "(J)I" } : MethodName)) ∈ q_tbl := q_of 1177 (by decide +kernel) (by decide +kernel)
theorem w_1178 : (Cond.selects "NumberHouse$Floats" ({ cls := "NumberHouse$Floats", name := "power", desc := "(J)I" } : MethodName) ({ cls := "NumberHouse$Floats", name := "power", desc := "(J)I" } : MethodName)) ∈ q_tbl := q_of 1178 (by decide +kernel) (by decide +kernel)
theorem LV_Flo_52 : q_LV "NumberHouse$Floats" 52 y_Flo_power prog_7_method_13_code 3 (some .int) 1 := ⟨w_1179, w_8, w_1176, w_1177, w_1178, ⟨by decide, by decide, by decide +kernel⟩⟩
theorem d_7_16_75 : decode prog_7_method_16_code 75 = .ok (.i2l, 1) := by decide +kernel
theorem d_7_16_76 : decode prog_7_method_16_code 76 = .ok (.iconst 0, 1) := by decide +kernel
theorem d_7_16_77 : decode prog_7_method_16_code 77 = .ok (.invokevirtual 100, 3) := by decide +kernel
theorem w_737 : (Cond.code ({ cls := "NumberHouse$Floats", name := "nearest", desc := "(LNumberHouse$Big;JZ)J" } : MethodName) prog_7_method_17_code (12 : Nat) (some .long)) ∈ q_tbl := q_of 737 (by decide +kernel) (by decide +kernel)
theorem w_800 : (Cond.methodLink "NumberHouse$Floats" (100 : Nat) ({ cls := "NumberHouse$Floats", name := "nearest", desc := "(LNumberHouse$Big;JZ)J" } : MethodName)) ∈ q_tbl := q_of 800 (by decide +kernel) (by decide +kernel)
theorem w_735 : (Cond.instanceMethod ({ cls := "NumberHouse$Floats", name := "nearest", desc := "(LNumberHouse$Big;JZ)J" } : MethodName)) ∈ q_tbl := q_of 735 (by decide +kernel) (by decide +kernel)
theorem w_736 : (Cond.selects "NumberHouse$Floats" ({ cls := "NumberHouse$Floats", name := "nearest", desc := "(LNumberHouse$Big;JZ)J" } : MethodName) ({ cls := "NumberHouse$Floats", name := "nearest", desc := "(LNumberHouse$Big;JZ)J" } : MethodName)) ∈ q_tbl := q_of 736 (by decide +kernel) (by decide +kernel)
theorem LV_Flo_100 : q_LV "NumberHouse$Floats" 100 y_Flo_nearest prog_7_method_17_code 12 (some .long) 3 := ⟨w_737, w_8, w_800, w_735, w_736, ⟨by decide, by decide, by decide +kernel⟩⟩
theorem d_7_16_80 : decode prog_7_method_16_code 80 = .ok (.lload 4, 2) := by decide +kernel
theorem d_7_16_82 : decode prog_7_method_16_code 82 = .ok (.lor, 1) := by decide +kernel
theorem d_7_16_83 : decode prog_7_method_16_code 83 = .ok (.lreturn, 1) := by decide +kernel
set_option maxRecDepth 100000 in
set_option maxHeartbeats 4000000 in
theorem c_Flo_changed_2 (l : Launch) (D : va_G) (g : Nat → ClassId) (ws : va_W) (kO0 kO1 kO2 kO3 kA13 qO0 qO1 qO2 qO3 qO4 qO5 qO6 qO7 qO8 qO9 qO10 qO11 qO12 qA13 : Nat) (hO0 : ws[kO0]? = (some (qO0, .inr (6, [.int 23, .int 150, .int 255, .long 0, .int 0, .ref qO2, .int 0])) : Option (Nat × va_E))) (hO1 : ws[kO1]? = (some (qO1, .inr (6, [.int 52, .int 1075, .int 2047, .long 0, .int 0, .ref qO2, .int 0])) : Option (Nat × va_E))) (hO2 : ws[kO2]? = (some (qO2, .inr (4, [.ref qO3, .ref qO4, .ref qO5, .ref qO6, .ref qO7, .ref qO8, .ref qO9, .ref qO10, .ref qO11, .ref qO12])) : Option (Nat × va_E))) (hO3 : ws[kO3]? = (some (qO3, .inr (2, [.ref qA13, .int 0, .int 0])) : Option (Nat × va_E))) (hA13 : ws[kA13]? = (some (qA13, .inl (g 0, 220, .inl (fun _ => 0))) : Option (Nat × va_E))) (n_O1_O0 : kO1 ≠ kO0) : q_mL l y_Flo_changed prog_7_method_16_code 6 4 0 0 D g [.ref qO0, .long 0, .ref qO1] ws (fun r u => 0 = r ∧ q_un ws u [kO3, kA13] ∧ u[kO3]? = (some (qO3, .inr (2, [.ref qA13, .int 0, .int 0])) : Option (Nat × va_E)) ∧ u[kA13]? = (some (qA13, .inl (g 0, 220, .inl (fun _ => 0))) : Option (Nat × va_E))) := by
  intro sz
  refine q_into (by decide) (Nat.le_of_ble_eq_true rfl) ?_
  intro p e s m below meth c ls hsz C0 V hl
  have hx := C0.1
  have hb := C0.2.1
  have hl : lv_has ls 6 [(0, .ref qO0), (1, .long 0), (3, .ref qO1)] := hl
  have n_O0_A13 := Ne.symm (q_df hA13 hO0)
  have n_O0_O3 := q_dc hO0 hO3 (q_pd 6 2 rfl)
  have n_O1_A13 := Ne.symm (q_df hA13 hO1)
  have n_O1_O3 := q_dc hO1 hO3 (q_pd 6 2 rfl)
  have n_O2_A13 := Ne.symm (q_df hA13 hO2)
  have n_O2_O3 := q_dc hO2 hO3 (q_pd 4 2 rfl)
  have hF : q_un ws ws [kO3, kA13] := q_u0
  refine lv_aload_n hx hb d_7_16_0 rfl (lv_at hl 2 rfl) ?_
  refine lv_aload_n hx hb d_7_16_1 rfl (lv_at hl 0 rfl) ?_
  refine lv_acmp_ne (rx := some qO1) (ry := some qO0) (tgt := 7) hx hb d_7_16_2 (by decide) (fun _ => ?_) (fun c1 => absurd c1 (fun e => absurd (V.2.1.1 _ _ _ _ hO1 hO0 (Option.some.inj e)) n_O1_O0))
  refine lv_aload_n hx hb d_7_16_7 rfl (lv_at hl 2 rfl) ?_
  refine lv_lload_n hx hb d_7_16_8 rfl (lv_at hl 1 rfl) ?_
  refine q_goi V (q_runV (As := [.long 0]) (rest := []) (d := 3) (mc := 0) (ms := 0) (ci := 6) C0 V rfl LV_Flo_94 (c_Flo_isNoNumber_2 l D g ws kO1 qO1 qO2 hO1 _) rfl rfl hO1 rfl hl.1 rfl (Nat.le_of_ble_eq_true rfl) ⟨by decide, by decide⟩ ⟨Nat.le_of_ble_eq_true rfl, Nat.le_of_ble_eq_true rfl⟩ d_7_16_9) (fun v4 u3 H locs hp2 V => ?_)
  obtain ⟨rfl, rfl⟩ := hp2
  refine lv_if_eq (tgt := 20) hx hb d_7_16_12 (by decide) (fun c6 => ?_) (fun c6 => absurd (by decide) c6)
  refine lv_aload_n hx hb d_7_16_20 rfl (lv_at hl 0 rfl) ?_
  refine lv_aload_n hx hb d_7_16_21 rfl (lv_at hl 2 rfl) ?_
  refine lv_lload_n hx hb d_7_16_22 rfl (lv_at hl 1 rfl) ?_
  refine q_goi V (q_runV (As := [.long 0]) (rest := [.ref qO0]) (d := 2) (mc := 0) (ms := 0) (ci := 6) C0 V rfl LV_Flo_43 (c_Flo_isNegative_2 l D g ws kO1 qO1 qO2 hO1 _) rfl rfl hO1 rfl hl.1 rfl (Nat.le_of_ble_eq_true rfl) ⟨by decide, by decide⟩ ⟨Nat.le_of_ble_eq_true rfl, Nat.le_of_ble_eq_true rfl⟩ d_7_16_23) (fun v9 u8 H locs hp7 V => ?_)
  obtain ⟨rfl, rfl⟩ := hp7
  refine q_gol V (q_runV (As := [.int 0]) (rest := []) (d := 1) (mc := 0) (ms := 0) (ci := 6) C0 V rfl LV_Flo_23 (c_Flo_signBit_3 l D g ws qO0 _) rfl rfl hO0 rfl hl.1 rfl (Nat.le_of_ble_eq_true rfl) ⟨by decide, by decide⟩ ⟨Nat.le_of_ble_eq_true rfl, Nat.le_of_ble_eq_true rfl⟩ d_7_16_26) (fun v13 u12 H locs hp11 V => ?_)
  obtain ⟨rfl, rfl⟩ := hp11
  refine lv_lstore (lv' := [(4, .long 0), (0, .ref qO0), (1, .long 0), (3, .ref qO1)]) hx hb d_7_16_29 hl (by decide) rfl (fun ls hl => ?_)
  refine lv_aload_n hx hb d_7_16_31 rfl (lv_at hl 3 rfl) ?_
  refine lv_lload_n hx hb d_7_16_32 rfl (lv_at hl 2 rfl) ?_
  refine q_goi V (q_runV (As := [.long 0]) (rest := []) (d := 2) (mc := 0) (ms := 0) (ci := 6) C0 V rfl LV_Flo_31 (c_Flo_isFinite_2 l D g ws kO1 qO1 qO2 hO1 _) rfl rfl hO1 rfl hl.1 rfl (Nat.le_of_ble_eq_true rfl) ⟨by decide, by decide⟩ ⟨Nat.le_of_ble_eq_true rfl, Nat.le_of_ble_eq_true rfl⟩ d_7_16_33) (fun v17 u16 H locs hp15 V => ?_)
  obtain ⟨rfl, rfl⟩ := hp15
  refine lv_if_ne (tgt := 47) hx hb d_7_16_36 (by decide) (fun c19 => ?_) (fun c19 => absurd c19 (by decide))
  refine lv_aload_n hx hb d_7_16_47 rfl (lv_at hl 1 rfl) ?_
  refine q_get (ci := 6) (j := 5) (v := .ref qO2) C0 V i_Flo rfl rfl hO0 (by decide) w_241 rfl d_7_16_48 ?_
  refine q_get (ci := 4) (j := 0) (v := .ref qO3) C0 V i_Mil rfl rfl hO2 (by decide) w_113 rfl d_7_16_51 ?_
  refine lv_aload_n hx hb d_7_16_54 rfl (lv_at hl 3 rfl) ?_
  refine lv_lload_n hx hb d_7_16_55 rfl (lv_at hl 2 rfl) ?_
  refine q_gol V (q_runV (As := [.long 0]) (rest := [.ref qO3]) (d := 2) (mc := 0) (ms := 0) (ci := 6) C0 V rfl LV_Flo_61 (c_Flo_number l D g ws kO1 qO1 qO2 hO1 _) rfl rfl hO1 rfl hl.1 rfl (Nat.le_of_ble_eq_true rfl) ⟨by decide, by decide⟩ ⟨Nat.le_of_ble_eq_true rfl, Nat.le_of_ble_eq_true rfl⟩ d_7_16_56) (fun v22 u21 H locs hp20 V => ?_)
  obtain ⟨rfl, rfl⟩ := hp20
  refine q_gov V (q_runV (As := [.long 0]) (rest := []) (d := 2) (mc := 0) (ms := 0) (ci := 2) C0 V rfl LV_Flo_63 (c_Big_setLong_2 l D g ws kO3 kA13 qO3 qA13 hO3 hA13 _) rfl rfl hO3 rfl hl.1 rfl (Nat.le_of_ble_eq_true rfl) ⟨by decide, by decide⟩ ⟨Nat.le_of_ble_eq_true rfl, Nat.le_of_ble_eq_true rfl⟩ d_7_16_59) (fun u25 H locs hp24 V => ?_)
  obtain ⟨hg26, hO3, hA13⟩ := hp24
  replace hF := q_uc hF hg26 (q_sc (.head _) (q_sc (.tail _ (.head _)) (fun _ h => absurd h List.not_mem_nil)))
  refine lv_aload_n hx hb d_7_16_62 rfl (lv_at hl 1 rfl) ?_
  refine lv_aload_n hx hb d_7_16_63 rfl (lv_at hl 1 rfl) ?_
  replace hO0 := (hg26 _ (q_nc n_O0_O3 (q_nc n_O0_A13 List.not_mem_nil))).trans (hO0)
  refine q_get (ci := 6) (j := 5) (v := .ref qO2) C0 V i_Flo rfl rfl hO0 (by decide) w_241 rfl d_7_16_64 ?_
  replace hO2 := (hg26 _ (q_nc n_O2_O3 (q_nc n_O2_A13 List.not_mem_nil))).trans (hO2)
  refine q_get (ci := 4) (j := 0) (v := .ref qO3) C0 V i_Mil rfl rfl hO2 (by decide) w_113 rfl d_7_16_67 ?_
  refine lv_aload_n hx hb d_7_16_70 rfl (lv_at hl 3 rfl) ?_
  refine lv_lload_n hx hb d_7_16_71 rfl (lv_at hl 2 rfl) ?_
  replace hO1 := (hg26 _ (q_nc n_O1_O3 (q_nc n_O1_A13 List.not_mem_nil))).trans (hO1)
  refine q_goi V (q_runV (As := [.long 0]) (rest := [.ref qO3, .ref qO0]) (d := 2) (mc := 0) (ms := 0) (ci := 6) C0 V rfl LV_Flo_52 (c_Flo_power l D g u25 kO1 qO1 qO2 hO1 _) rfl rfl hO1 rfl hl.1 rfl (Nat.le_of_ble_eq_true rfl) ⟨by decide, by decide⟩ ⟨Nat.le_of_ble_eq_true rfl, Nat.le_of_ble_eq_true rfl⟩ d_7_16_72) (fun v29 u28 H locs hp27 V => ?_)
  obtain ⟨rfl, rfl⟩ := hp27
  refine lv_i2l hx hb d_7_16_75 rfl ?_
  refine q_tl (v := (-1074)) (by decide) ?_
  refine lv_iconst (v := 0) hx hb d_7_16_76 (by decide) ?_
  refine q_gol V (q_runV (As := [.ref qO3, .long (-1074), .int 0]) (rest := []) (d := 2) (mc := 0) (ms := 0) (ci := 6) C0 V rfl LV_Flo_100 (c_Flo_nearest l D g u25 kO3 qO0 qO3 qA13 hO3 _) rfl rfl hO0 rfl hl.1 rfl (Nat.le_of_ble_eq_true rfl) ⟨by decide, by decide⟩ ⟨Nat.le_of_ble_eq_true rfl, Nat.le_of_ble_eq_true rfl⟩ d_7_16_77) (fun v33 u32 H locs hp31 V => ?_)
  obtain ⟨rfl, rfl⟩ := hp31
  refine lv_lload hx hb d_7_16_80 (lv_at hl 0 rfl) ?_
  refine lv_lor hx hb d_7_16_82 ?_
  refine q_tl (v := 0) (by decide) ?_
  exact q_retl C0 V (⟨rfl, hF, hO3, hA13⟩) d_7_16_83
theorem d_7_18_0 : decode prog_7_method_18_code 0 = .ok (.aload_n 1, 1) := by decide +kernel
theorem d_7_18_1 : decode prog_7_method_18_code 1 = .ok (.getfield 77, 3) := by decide +kernel
theorem w_92 : (Cond.fieldLink "NumberHouse$Floats" (77 : Nat) "NumberHouse$Big" "size" "I") ∈ q_tbl := q_of 92 (by decide +kernel) (by decide +kernel)
theorem d_7_18_4 : decode prog_7_method_18_code 4 = .ok (.ifCond .ne 5, 3) := by decide +kernel
theorem d_7_18_7 : decode prog_7_method_18_code 7 = .ok (.lconst 0, 1) := by decide +kernel
theorem d_7_18_8 : decode prog_7_method_18_code 8 = .ok (.lreturn, 1) := by decide +kernel
def y_Flo_nearestDecimal : MethodName := ⟨"NumberHouse$Floats", "nearestDecimal", "(LNumberHouse$Big;J)J"⟩
set_option maxRecDepth 100000 in
set_option maxHeartbeats 4000000 in
theorem c_Flo_nearestDecimal (l : Launch) (D : va_G) (g : Nat → ClassId) (ws : va_W) (kO1 qO0 qO1 qA3 : Nat) (hO1 : ws[kO1]? = (some (qO1, .inr (2, [.ref qA3, .int 0, .int 0])) : Option (Nat × va_E))) : q_mL l y_Flo_nearestDecimal prog_7_method_18_code 9 1 0 0 D g [.ref qO0, .ref qO1, .long 0] ws (fun r u => 0 = r ∧ ws = u) := by
  intro sz
  refine q_into (by decide) (Nat.le_of_ble_eq_true rfl) ?_
  intro p e s m below meth c ls hsz C0 V hl
  have hx := C0.1
  have hb := C0.2.1
  have hl : lv_has ls 9 [(0, .ref qO0), (1, .ref qO1), (2, .long 0)] := hl
  refine lv_aload_n hx hb d_7_18_0 rfl (lv_at hl 1 rfl) ?_
  refine q_get (ci := 2) (j := 1) (v := .int 0) C0 V i_Big rfl rfl hO1 (by decide) w_92 rfl d_7_18_1 ?_
  refine lv_if_ne (tgt := 9) hx hb d_7_18_4 (by decide) (fun c1 => absurd (by decide) c1) (fun c1 => ?_)
  refine lv_lconst (v := 0) hx hb d_7_18_7 (by decide) ?_
  exact q_retl C0 V (⟨rfl, rfl⟩) d_7_18_8
set_option maxRecDepth 100000 in
set_option maxHeartbeats 4000000 in
theorem c_Flo_nearest_2 (l : Launch) (D : va_G) (g : Nat → ClassId) (ws : va_W) (kO1 qO0 qO1 qA3 : Nat) (hO1 : ws[kO1]? = (some (qO1, .inr (2, [.ref qA3, .int 0, .int 0])) : Option (Nat × va_E))) : q_mL l y_Flo_nearest prog_7_method_17_code 12 2 0 0 D g [.ref qO0, .ref qO1, .long 0, .int 0] ws (fun r u => 0 = r ∧ ws = u) := by
  intro sz
  refine q_into (by decide) (Nat.le_of_ble_eq_true rfl) ?_
  intro p e s m below meth c ls hsz C0 V hl
  have hx := C0.1
  have hb := C0.2.1
  have hl : lv_has ls 12 [(0, .ref qO0), (1, .ref qO1), (2, .long 0), (4, .int 0)] := hl
  refine lv_aload_n hx hb d_7_17_0 rfl (lv_at hl 1 rfl) ?_
  refine q_goi V (q_runV (As := []) (rest := []) (d := 1) (mc := 0) (ms := 0) (ci := 2) C0 V rfl LV_Flo_104 (c_Big_bitLength l D g ws kO1 qO1 qA3 hO1 _) rfl rfl hO1 rfl hl.1 rfl (Nat.le_of_ble_eq_true rfl) ⟨by decide, by decide⟩ ⟨Nat.le_of_ble_eq_true rfl, Nat.le_of_ble_eq_true rfl⟩ d_7_17_1) (fun v3 u2 H locs hp1 V => ?_)
  obtain ⟨rfl, rfl⟩ := hp1
  refine lv_istore (lv' := [(5, .int 0), (0, .ref qO0), (1, .ref qO1), (2, .long 0), (4, .int 0)]) hx hb d_7_17_4 hl (by decide) rfl (fun ls hl => ?_)
  refine lv_iload hx hb d_7_17_6 (lv_at hl 0 rfl) ?_
  refine lv_if_eq (tgt := 23) hx hb d_7_17_8 (by decide) (fun c5 => ?_) (fun c5 => absurd (by decide) c5)
  refine lv_lconst (v := 0) hx hb d_7_17_23 (by decide) ?_
  exact q_retl C0 V (⟨rfl, rfl⟩) d_7_17_24
theorem d_1_27_0 : decode prog_1_method_27_code 0 = .ok (.iload_n 1, 1) := by decide +kernel
theorem d_1_27_1 : decode prog_1_method_27_code 1 = .ok (.ifCond .ne 30, 3) := by decide +kernel
theorem d_1_27_31 : decode prog_1_method_27_code 31 = .ok (.iload_n 1, 1) := by decide +kernel
theorem d_1_27_32 : decode prog_1_method_27_code 32 = .ok (.iconst 1, 1) := by decide +kernel
theorem d_1_27_33 : decode prog_1_method_27_code 33 = .ok (.if_icmp .ne 40, 3) := by decide +kernel
theorem d_1_27_73 : decode prog_1_method_27_code 73 = .ok (.aload_n 3, 1) := by decide +kernel
theorem d_1_27_74 : decode prog_1_method_27_code 74 = .ok (.aload_n 0, 1) := by decide +kernel
theorem d_1_27_75 : decode prog_1_method_27_code 75 = .ok (.iload_n 1, 1) := by decide +kernel
theorem d_1_27_76 : decode prog_1_method_27_code 76 = .ok (.invokevirtual 157, 3) := by decide +kernel
theorem d_1_27_79 : decode prog_1_method_27_code 79 = .ok (.iload_n 2, 1) := by decide +kernel
theorem d_1_27_80 : decode prog_1_method_27_code 80 = .ok (.laload, 1) := by decide +kernel
theorem d_1_27_81 : decode prog_1_method_27_code 81 = .ok (.aload_n 0, 1) := by decide +kernel
theorem d_1_27_82 : decode prog_1_method_27_code 82 = .ok (.iload_n 1, 1) := by decide +kernel
theorem d_1_27_83 : decode prog_1_method_27_code 83 = .ok (.invokevirtual 130, 3) := by decide +kernel
theorem d_1_27_86 : decode prog_1_method_27_code 86 = .ok (.invokevirtual 420, 3) := by decide +kernel
theorem w_1527 : (Cond.code ({ cls := "NumberHouse$Floats", name := "changed", desc := "(JLNumberHouse$Floats;)J" } : MethodName) prog_7_method_16_code (6 : Nat) (some .long)) ∈ q_tbl := q_of 1527 (by decide +kernel) (by decide +kernel)
theorem w_1524 : (Cond.methodLink "NumberHouse" (420 : Nat) ({ cls := "NumberHouse$Floats", name := "changed", desc := "(JLNumberHouse$Floats;)J" } : MethodName)) ∈ q_tbl := q_of 1524 (by decide +kernel) (by decide +kernel)
theorem w_1525 : (Cond.instanceMethod ({ cls := "NumberHouse$Floats", name := "changed", desc := "(JLNumberHouse$Floats;)J" } : MethodName)) ∈ q_tbl := q_of 1525 (by decide +kernel) (by decide +kernel)
theorem w_1526 : (Cond.selects "NumberHouse$Floats" ({ cls := "NumberHouse$Floats", name := "changed", desc := "(JLNumberHouse$Floats;)J" } : MethodName) ({ cls := "NumberHouse$Floats", name := "changed", desc := "(JLNumberHouse$Floats;)J" } : MethodName)) ∈ q_tbl := q_of 1526 (by decide +kernel) (by decide +kernel)
theorem LV_NH_420 : q_LV "NumberHouse" 420 y_Flo_changed prog_7_method_16_code 6 (some .long) 2 := ⟨w_1527, w_8, w_1524, w_1525, w_1526, ⟨by decide, by decide, by decide +kernel⟩⟩
theorem d_1_27_89 : decode prog_1_method_27_code 89 = .ok (.lreturn, 1) := by decide +kernel
theorem d_1_27_36 : decode prog_1_method_27_code 36 = .ok (.aload_n 0, 1) := by decide +kernel
theorem d_1_27_37 : decode prog_1_method_27_code 37 = .ok (.getfield 29, 3) := by decide +kernel
theorem d_1_27_40 : decode prog_1_method_27_code 40 = .ok (.iload_n 2, 1) := by decide +kernel
theorem d_1_27_41 : decode prog_1_method_27_code 41 = .ok (.aaload, 1) := by decide +kernel
theorem d_1_27_42 : decode prog_1_method_27_code 42 = .ok (.astore 4, 2) := by decide +kernel
theorem d_1_27_44 : decode prog_1_method_27_code 44 = .ok (.aload_n 3, 1) := by decide +kernel
theorem d_1_27_45 : decode prog_1_method_27_code 45 = .ok (.aload 4, 2) := by decide +kernel
theorem d_1_27_47 : decode prog_1_method_27_code 47 = .ok (.getfield 277, 3) := by decide +kernel
theorem d_1_27_50 : decode prog_1_method_27_code 50 = .ok (.aload 4, 2) := by decide +kernel
theorem d_1_27_52 : decode prog_1_method_27_code 52 = .ok (.getfield 378, 3) := by decide +kernel
theorem d_1_27_55 : decode prog_1_method_27_code 55 = .ok (.i2l, 1) := by decide +kernel
theorem d_1_27_56 : decode prog_1_method_27_code 56 = .ok (.invokevirtual 416, 3) := by decide +kernel
theorem w_758 : (Cond.code ({ cls := "NumberHouse$Floats", name := "nearestDecimal", desc := "(LNumberHouse$Big;J)J" } : MethodName) prog_7_method_18_code (9 : Nat) (some .long)) ∈ q_tbl := q_of 758 (by decide +kernel) (by decide +kernel)
theorem w_1523 : (Cond.methodLink "NumberHouse" (416 : Nat) ({ cls := "NumberHouse$Floats", name := "nearestDecimal", desc := "(LNumberHouse$Big;J)J" } : MethodName)) ∈ q_tbl := q_of 1523 (by decide +kernel) (by decide +kernel)
theorem w_756 : (Cond.instanceMethod ({ cls := "NumberHouse$Floats", name := "nearestDecimal", desc := "(LNumberHouse$Big;J)J" } : MethodName)) ∈ q_tbl := q_of 756 (by decide +kernel) (by decide +kernel)
theorem w_757 : (Cond.selects "NumberHouse$Floats" ({ cls := "NumberHouse$Floats", name := "nearestDecimal", desc := "(LNumberHouse$Big;J)J" } : MethodName) ({ cls := "NumberHouse$Floats", name := "nearestDecimal", desc := "(LNumberHouse$Big;J)J" } : MethodName)) ∈ q_tbl := q_of 757 (by decide +kernel) (by decide +kernel)
theorem LV_NH_416 : q_LV "NumberHouse" 416 y_Flo_nearestDecimal prog_7_method_18_code 9 (some .long) 2 := ⟨w_758, w_8, w_1523, w_756, w_757, ⟨by decide, by decide, by decide +kernel⟩⟩
theorem d_1_27_59 : decode prog_1_method_27_code 59 = .ok (.aload_n 3, 1) := by decide +kernel
theorem d_1_27_60 : decode prog_1_method_27_code 60 = .ok (.aload 4, 2) := by decide +kernel
theorem d_1_27_62 : decode prog_1_method_27_code 62 = .ok (.getfield 277, 3) := by decide +kernel
theorem d_1_27_65 : decode prog_1_method_27_code 65 = .ok (.getfield 262, 3) := by decide +kernel
theorem w_98 : (Cond.fieldLink "NumberHouse" (262 : Nat) "NumberHouse$Big" "negative" "Z") ∈ q_tbl := q_of 98 (by decide +kernel) (by decide +kernel)
theorem d_1_27_68 : decode prog_1_method_27_code 68 = .ok (.invokevirtual 412, 3) := by decide +kernel
theorem w_1522 : (Cond.methodLink "NumberHouse" (412 : Nat) ({ cls := "NumberHouse$Floats", name := "signBit", desc := "(Z)J" } : MethodName)) ∈ q_tbl := q_of 1522 (by decide +kernel) (by decide +kernel)
theorem LV_NH_412 : q_LV "NumberHouse" 412 y_Flo_signBit prog_7_method_8_code 2 (some .long) 1 := ⟨w_714, w_8, w_1522, w_712, w_713, ⟨by decide, by decide, by decide +kernel⟩⟩
theorem d_1_27_71 : decode prog_1_method_27_code 71 = .ok (.lor, 1) := by decide +kernel
theorem d_1_27_72 : decode prog_1_method_27_code 72 = .ok (.lreturn, 1) := by decide +kernel
theorem d_1_27_4 : decode prog_1_method_27_code 4 = .ok (.aload_n 3, 1) := by decide +kernel
theorem d_1_27_5 : decode prog_1_method_27_code 5 = .ok (.aload_n 0, 1) := by decide +kernel
theorem d_1_27_6 : decode prog_1_method_27_code 6 = .ok (.getfield 23, 3) := by decide +kernel
theorem d_1_27_9 : decode prog_1_method_27_code 9 = .ok (.iload_n 2, 1) := by decide +kernel
theorem d_1_27_10 : decode prog_1_method_27_code 10 = .ok (.aaload, 1) := by decide +kernel
theorem d_1_27_11 : decode prog_1_method_27_code 11 = .ok (.lconst 0, 1) := by decide +kernel
theorem d_1_27_12 : decode prog_1_method_27_code 12 = .ok (.iconst 0, 1) := by decide +kernel
theorem d_1_27_13 : decode prog_1_method_27_code 13 = .ok (.invokevirtual 408, 3) := by decide +kernel
theorem w_1521 : (Cond.methodLink "NumberHouse" (408 : Nat) ({ cls := "NumberHouse$Floats", name := "nearest", desc := "(LNumberHouse$Big;JZ)J" } : MethodName)) ∈ q_tbl := q_of 1521 (by decide +kernel) (by decide +kernel)
theorem LV_NH_408 : q_LV "NumberHouse" 408 y_Flo_nearest prog_7_method_17_code 12 (some .long) 3 := ⟨w_737, w_8, w_1521, w_735, w_736, ⟨by decide, by decide, by decide +kernel⟩⟩
theorem d_1_27_16 : decode prog_1_method_27_code 16 = .ok (.aload_n 3, 1) := by decide +kernel
theorem d_1_27_17 : decode prog_1_method_27_code 17 = .ok (.aload_n 0, 1) := by decide +kernel
theorem d_1_27_18 : decode prog_1_method_27_code 18 = .ok (.getfield 23, 3) := by decide +kernel
theorem d_1_27_21 : decode prog_1_method_27_code 21 = .ok (.iload_n 2, 1) := by decide +kernel
theorem d_1_27_22 : decode prog_1_method_27_code 22 = .ok (.aaload, 1) := by decide +kernel
theorem d_1_27_23 : decode prog_1_method_27_code 23 = .ok (.getfield 262, 3) := by decide +kernel
theorem d_1_27_26 : decode prog_1_method_27_code 26 = .ok (.invokevirtual 412, 3) := by decide +kernel
theorem d_1_27_29 : decode prog_1_method_27_code 29 = .ok (.lor, 1) := by decide +kernel
theorem d_1_27_30 : decode prog_1_method_27_code 30 = .ok (.lreturn, 1) := by decide +kernel
def y_NH_madeFloat : MethodName := ⟨"NumberHouse", "madeFloat", "(IILNumberHouse$Floats;)J"⟩
set_option maxRecDepth 100000 in
set_option maxHeartbeats 4000000 in
theorem c_NH_madeFloat (l : Launch) (D : va_G) (g : Nat → ClassId) (ws : va_W) ( qO0 qO1 qO2 qO3 qA4 qA5 qA6 qA7 qO8 qO9 qO10 qO11 qO12 qO13 qO14 qO17 qO18 qO19 qO20 qO21 qO22 qO23 qO24 qO25 qO26 qA35 : Nat) (x1 : Int32) (x2 : Int32) (f3 : Nat → Option Nat) (f4 : Nat → Option Nat) (hO0 : ws[0]? = (some (qO0, .inr (0, [.ref qO2, .ref qO3, .ref qA4, .ref qA5, .ref qA6, .ref qA7, .ref qO8, .ref qO9, .ref qO10, .ref qO1, .ref qO11, .ref qO12, .ref qO13, .ref qO14])) : Option (Nat × va_E))) (hO1 : ws[35]? = (some (qO1, .inr (6, [.int 23, .int 150, .int 255, .long 0, .int 0, .ref qO8, .int 0])) : Option (Nat × va_E))) (hA4 : ws[5]? = (some (qA4, .inl (g 4, 10, .inr (.inr (.inr (.inr f3))))) : Option (Nat × va_E))) (hA5 : ws[6]? = (some (qA5, .inl (g 5, 10, .inr (.inr (.inr (.inr f4))))) : Option (Nat × va_E))) (hA6 : ws[7]? = (some (qA6, .inl (g 1, 10, .inr (.inl (fun _ => 0)))) : Option (Nat × va_E))) (hA7 : ws[8]? = (some (qA7, .inl (g 1, 10, .inr (.inl (fun _ => 0)))) : Option (Nat × va_E))) (hO8 : ws[9]? = (some (qO8, .inr (4, [.ref qO17, .ref qO18, .ref qO19, .ref qO20, .ref qO21, .ref qO22, .ref qO23, .ref qO24, .ref qO25, .ref qO26])) : Option (Nat × va_E))) (hO10 : ws[34]? = (some (qO10, .inr (6, [.int 52, .int 1075, .int 2047, .long 0, .int 0, .ref qO8, .int 0])) : Option (Nat × va_E))) (hO17 : ws[10]? = (some (qO17, .inr (2, [.ref qA35, .int 0, .int 0])) : Option (Nat × va_E))) (hA35 : ws[11]? = (some (qA35, .inl (g 0, 220, .inl (fun _ => 0))) : Option (Nat × va_E))) (x1lo : 0 ≤ x1) (x1hi : x1 ≤ 3) (x2lo : 0 ≤ x2) (x2hi : x2 ≤ 9) (qW qWL qD qDN qDL : Nat → Nat) (hfW : ∀ i, i < 10 → f3 i = some (qW i)) (FW : ∀ i, i < 10 → ws[66 + 5 * i]? = (some (qW i, .inr (2, [.ref (qWL i), .int 0, .int 0])) : Option (Nat × va_E))) (FWL : ∀ i, i < 10 → ws[67 + 5 * i]? = (some (qWL i, .inl (g 0, 68, .inl (fun _ => 0))) : Option (Nat × va_E))) (hfD : ∀ i, i < 10 → f4 i = some (qD i)) (FD : ∀ i, i < 10 → ws[68 + 5 * i]? = (some (qD i, .inr (3, [.ref (qDN i), .int 0, .int 1])) : Option (Nat × va_E))) (FDN : ∀ i, i < 10 → ws[69 + 5 * i]? = (some (qDN i, .inr (2, [.ref (qDL i), .int 0, .int 0])) : Option (Nat × va_E))) (FDL : ∀ i, i < 10 → ws[70 + 5 * i]? = (some (qDL i, .inl (g 0, 108, .inl (fun _ => 0))) : Option (Nat × va_E))) : q_mL l y_NH_madeFloat prog_1_method_27_code 5 5 0 0 D g [.ref qO0, .int x1, .int x2, .ref qO1] ws (fun r u => 0 = r ∧ q_un ws u [10, 11] ∧ u[10]? = (some (qO17, .inr (2, [.ref qA35, .int 0, .int 0])) : Option (Nat × va_E)) ∧ u[11]? = (some (qA35, .inl (g 0, 220, .inl (fun _ => 0))) : Option (Nat × va_E))) := by
  intro sz
  refine q_into (by decide) (Nat.le_of_ble_eq_true rfl) ?_
  intro p e s m below meth c ls hsz C0 V hl
  have hx := C0.1
  have hb := C0.2.1
  have hl : lv_has ls 5 [(0, .ref qO0), (1, .int x1), (2, .int x2), (3, .ref qO1)] := hl
  have hF : q_un ws ws [10, 11] := q_u0
  refine lv_iload_n hx hb d_1_27_0 rfl (lv_at hl 1 rfl) ?_
  refine lv_if_ne (tgt := 31) hx hb d_1_27_1 (by decide) (fun c1 => ?_) (fun c1 => ?_)
  ·
    refine lv_iload_n hx hb d_1_27_31 rfl (lv_at hl 1 rfl) ?_
    refine lv_iconst (v := 1) hx hb d_1_27_32 (by decide) ?_
    refine lv_icmp_ne (tgt := 73) hx hb d_1_27_33 (by decide) (fun c2 => ?_) (fun c2 => ?_)
    ·
      refine lv_aload_n hx hb d_1_27_73 rfl (lv_at hl 3 rfl) ?_
      refine lv_aload_n hx hb d_1_27_74 rfl (lv_at hl 0 rfl) ?_
      refine lv_iload_n hx hb d_1_27_75 rfl (lv_at hl 1 rfl) ?_
      refine q_gor (post := fun r u => (¬ x1 = 2 ∧ qA7 = r ∧ ws = u) ∨ (x1 = 2 ∧ qA6 = r ∧ ws = u)) V (q_runV (As := [.int x1]) (rest := [.ref qO1]) (d := 1) (mc := 0) (ms := 0) (ci := 0) C0 V rfl LV_NH_157 (c_NH_floatRow_3 l D g ws qO0 qO2 qO3 qA4 qA5 qA6 qA7 qO8 qO9 qO10 qO1 qO11 qO12 qO13 qO14 x1 hO0 (q_Ile (x := 2) (y := x1.toInt) (by decide) rfl (by have t1 : 0 ≤ x1.toInt := q_leI x1lo; have t2 : x1.toInt ≤ 3 := q_leI x1hi; have t3 : x1.toInt ≠ 0 := q_neI c1; have t4 : x1.toInt ≠ 1 := q_neI c2; omega)) x1hi _) rfl rfl hO0 rfl hl.1 rfl (Nat.le_of_ble_eq_true rfl) ⟨by decide, by decide⟩ ⟨Nat.le_of_ble_eq_true rfl, Nat.le_of_ble_eq_true rfl⟩ d_1_27_76) (fun v5 u4 H locs hp3 V => ?_)
      rcases hp3 with ⟨c6, rfl, rfl⟩ | ⟨c8, rfl, rfl⟩
      ·
        refine lv_iload_n hx hb d_1_27_79 rfl (lv_at hl 2 rfl) ?_
        refine q_lald C0 V hA7 (q_ix (x := x2.toInt) rfl (by have t1 : 0 ≤ x2.toInt := q_leI x2lo; have t2 : x2.toInt ≤ 9 := q_leI x2hi; omega) (by have t1 : 0 ≤ x2.toInt := q_leI x2lo; have t2 : x2.toInt ≤ 9 := q_leI x2hi; omega)) d_1_27_80 ?_
        refine q_tl (v := 0) (by first | rfl | decide | simp [upd, vp_updL, sb_cl0]) ?_
        refine lv_aload_n hx hb d_1_27_81 rfl (lv_at hl 0 rfl) ?_
        refine lv_iload_n hx hb d_1_27_82 rfl (lv_at hl 1 rfl) ?_
        refine q_ti (v := 3) (q_Ieq (x := x1.toInt) (y := 3) rfl (by decide) (by have t1 : 0 ≤ x1.toInt := q_leI x1lo; have t2 : x1.toInt ≤ 3 := q_leI x1hi; have t3 : x1.toInt ≠ 0 := q_neI c1; have t4 : x1.toInt ≠ 1 := q_neI c2; have t5 : x1.toInt ≠ 2 := q_neI c6; omega)) ?_
        refine q_gor (post := fun r u => (¬ 3 = 2 ∧ qO1 = r ∧ ws = u) ∨ (3 = 2 ∧ qO10 = r ∧ ws = u)) V (q_runV (As := [.int 3]) (rest := [.long 0, .ref qO1]) (d := 1) (mc := 0) (ms := 0) (ci := 0) C0 V rfl LV_NH_130 (c_NH_floatsOf l D g ws qO0 qO2 qO3 qA4 qA5 qA6 qA7 qO8 qO9 qO10 qO1 qO11 qO12 qO13 qO14 3 hO0 (q_Ile (x := 2) (y := 3) (by decide) (by decide) (by omega)) (q_Ile (x := 3) (y := 3) (by decide) (by decide) (by omega)) _) rfl rfl hO0 rfl hl.1 rfl (Nat.le_of_ble_eq_true rfl) ⟨by decide, by decide⟩ ⟨Nat.le_of_ble_eq_true rfl, Nat.le_of_ble_eq_true rfl⟩ d_1_27_83) (fun v12 u11 H locs hp10 V => ?_)
        rcases hp10 with ⟨c13, rfl, rfl⟩ | ⟨c15, rfl, rfl⟩
        ·
          refine q_gol V (q_runV (As := [.long 0, .ref qO1]) (rest := []) (d := 1) (mc := 0) (ms := 0) (ci := 6) C0 V rfl LV_NH_420 (c_Flo_changed l D g ws qO1 _) rfl rfl hO1 rfl hl.1 rfl (Nat.le_of_ble_eq_true rfl) ⟨by decide, by decide⟩ ⟨Nat.le_of_ble_eq_true rfl, Nat.le_of_ble_eq_true rfl⟩ d_1_27_86) (fun v19 u18 H locs hp17 V => ?_)
          obtain ⟨rfl, rfl⟩ := hp17
          exact q_retl C0 V (⟨rfl, hF, hO17, hA35⟩) d_1_27_89
        ·
          exact absurd c15 (by decide)
      ·
        refine lv_iload_n hx hb d_1_27_79 rfl (lv_at hl 2 rfl) ?_
        refine q_lald C0 V hA6 (q_ix (x := x2.toInt) rfl (by have t1 : 0 ≤ x2.toInt := q_leI x2lo; have t2 : x2.toInt ≤ 9 := q_leI x2hi; omega) (by have t1 : 0 ≤ x2.toInt := q_leI x2lo; have t2 : x2.toInt ≤ 9 := q_leI x2hi; omega)) d_1_27_80 ?_
        refine q_tl (v := 0) (by first | rfl | decide | simp [upd, vp_updL, sb_cl0]) ?_
        refine lv_aload_n hx hb d_1_27_81 rfl (lv_at hl 0 rfl) ?_
        refine lv_iload_n hx hb d_1_27_82 rfl (lv_at hl 1 rfl) ?_
        refine q_ti (v := 2) c8 ?_
        refine q_gor (post := fun r u => (¬ 2 = 2 ∧ qO1 = r ∧ ws = u) ∨ (2 = 2 ∧ qO10 = r ∧ ws = u)) V (q_runV (As := [.int 2]) (rest := [.long 0, .ref qO1]) (d := 1) (mc := 0) (ms := 0) (ci := 0) C0 V rfl LV_NH_130 (c_NH_floatsOf l D g ws qO0 qO2 qO3 qA4 qA5 qA6 qA7 qO8 qO9 qO10 qO1 qO11 qO12 qO13 qO14 2 hO0 (q_Ile (x := 2) (y := 2) (by decide) (by decide) (by omega)) (q_Ile (x := 2) (y := 3) (by decide) (by decide) (by omega)) _) rfl rfl hO0 rfl hl.1 rfl (Nat.le_of_ble_eq_true rfl) ⟨by decide, by decide⟩ ⟨Nat.le_of_ble_eq_true rfl, Nat.le_of_ble_eq_true rfl⟩ d_1_27_83) (fun v23 u22 H locs hp21 V => ?_)
        rcases hp21 with ⟨c24, rfl, rfl⟩ | ⟨c26, rfl, rfl⟩
        ·
          exact absurd c24 (by decide)
        ·
          refine q_gol V (q_runV (As := [.long 0, .ref qO10]) (rest := []) (d := 4) (mc := 0) (ms := 0) (ci := 6) C0 V rfl LV_NH_420 (c_Flo_changed_2 l D g ws 35 34 9 10 11 qO1 qO10 qO8 qO17 qO18 qO19 qO20 qO21 qO22 qO23 qO24 qO25 qO26 qA35 hO1 hO10 hO8 hO17 hA35 (q_pd 34 35 rfl) _) rfl rfl hO1 rfl hl.1 rfl (Nat.le_of_ble_eq_true rfl) ⟨by decide, by decide⟩ ⟨Nat.le_of_ble_eq_true rfl, Nat.le_of_ble_eq_true rfl⟩ d_1_27_86) (fun v30 u29 H locs hp28 V => ?_)
          obtain ⟨rfl, hg31, hO17, hA35⟩ := hp28
          replace hF := q_uc hF hg31 (q_sc (.head _) (q_sc (.tail _ (.head _)) (fun _ h => absurd h List.not_mem_nil)))
          exact q_retl C0 V (⟨rfl, hF, hO17, hA35⟩) d_1_27_89
    ·
      refine lv_aload_n hx hb d_1_27_36 rfl (lv_at hl 0 rfl) ?_
      refine q_get (ci := 0) (j := 3) (v := .ref qA5) C0 V i_NH rfl rfl hO0 (by decide) w_427 rfl d_1_27_37 ?_
      refine lv_iload_n hx hb d_1_27_40 rfl (lv_at hl 2 rfl) ?_
      have r32 : x2.toNatClampNeg < 10 := (q_r10 (x := x2.toInt) rfl (by have t1 : 0 ≤ x2.toInt := q_leI x2lo; have t2 : x2.toInt ≤ 9 := q_leI x2hi; omega) (by have t1 : 0 ≤ x2.toInt := q_leI x2lo; have t2 : x2.toInt ≤ 9 := q_leI x2hi; omega))
      have hr33 : ws[68 + 5 * x2.toNatClampNeg]? = (some (qD x2.toNatClampNeg, .inr (3, [.ref (qDN x2.toNatClampNeg), .int 0, .int 1])) : Option (Nat × va_E)) := FD _ r32
      have hr34 : ws[69 + 5 * x2.toNatClampNeg]? = (some (qDN x2.toNatClampNeg, .inr (2, [.ref (qDL x2.toNatClampNeg), .int 0, .int 0])) : Option (Nat × va_E)) := FDN _ r32
      have hr35 : ws[70 + 5 * x2.toNatClampNeg]? = (some (qDL x2.toNatClampNeg, .inl (g 0, 108, .inl (fun _ => 0))) : Option (Nat × va_E)) := FDL _ r32
      have hh : x2.toNatClampNeg < 10 := (q_r10 (x := x2.toInt) rfl (by have t1 : 0 ≤ x2.toInt := q_leI x2lo; have t2 : x2.toInt ≤ 9 := q_leI x2hi; omega) (by have t1 : 0 ≤ x2.toInt := q_leI x2lo; have t2 : x2.toInt ≤ 9 := q_leI x2hi; omega))
      refine q_aald (t := 5) (q := qD x2.toNatClampNeg) C0 V hA5 rfl (q_ix (x := x2.toInt) rfl (by have t1 : 0 ≤ x2.toInt := q_leI x2lo; have t2 : x2.toInt ≤ 9 := q_leI x2hi; omega) (by have t1 : 0 ≤ x2.toInt := q_leI x2lo; have t2 : x2.toInt ≤ 9 := q_leI x2hi; omega)) (hfD _ hh) d_1_27_41 ?_
      refine lv_astore (lv' := [(4, .ref (qD x2.toNatClampNeg)), (0, .ref qO0), (1, .int x1), (2, .int x2), (3, .ref qO1)]) hx hb d_1_27_42 hl (by decide) rfl (fun ls hl => ?_)
      refine lv_aload_n hx hb d_1_27_44 rfl (lv_at hl 4 rfl) ?_
      refine lv_aload hx hb d_1_27_45 (lv_at hl 0 rfl) ?_
      refine q_get (ci := 3) (j := 0) (v := .ref (qDN x2.toNatClampNeg)) C0 V i_Dec rfl rfl hr33 (by decide) w_174 rfl d_1_27_47 ?_
      refine lv_aload hx hb d_1_27_50 (lv_at hl 0 rfl) ?_
      refine q_get (ci := 3) (j := 1) (v := .int 0) C0 V i_Dec rfl rfl hr33 (by decide) w_178 rfl d_1_27_52 ?_
      refine lv_i2l hx hb d_1_27_55 rfl ?_
      refine q_tl (v := 0) (by decide) ?_
      refine q_gol V (q_runV (As := [.ref (qDN x2.toNatClampNeg), .long 0]) (rest := []) (d := 1) (mc := 0) (ms := 0) (ci := 6) C0 V rfl LV_NH_416 (c_Flo_nearestDecimal l D g ws (69 + 5 * x2.toNatClampNeg) qO1 (qDN x2.toNatClampNeg) (qDL x2.toNatClampNeg) hr34 _) rfl rfl hO1 rfl hl.1 rfl (Nat.le_of_ble_eq_true rfl) ⟨by decide, by decide⟩ ⟨Nat.le_of_ble_eq_true rfl, Nat.le_of_ble_eq_true rfl⟩ d_1_27_56) (fun v38 u37 H locs hp36 V => ?_)
      obtain ⟨rfl, rfl⟩ := hp36
      refine lv_aload_n hx hb d_1_27_59 rfl (lv_at hl 4 rfl) ?_
      refine lv_aload hx hb d_1_27_60 (lv_at hl 0 rfl) ?_
      refine q_get (ci := 3) (j := 0) (v := .ref (qDN x2.toNatClampNeg)) C0 V i_Dec rfl rfl hr33 (by decide) w_174 rfl d_1_27_62 ?_
      refine q_get (ci := 2) (j := 2) (v := .int 0) C0 V i_Big rfl rfl hr34 (by decide) w_98 rfl d_1_27_65 ?_
      refine q_gol V (q_runV (As := [.int 0]) (rest := [.long 0]) (d := 1) (mc := 0) (ms := 0) (ci := 6) C0 V rfl LV_NH_412 (c_Flo_signBit_3 l D g ws qO1 _) rfl rfl hO1 rfl hl.1 rfl (Nat.le_of_ble_eq_true rfl) ⟨by decide, by decide⟩ ⟨Nat.le_of_ble_eq_true rfl, Nat.le_of_ble_eq_true rfl⟩ d_1_27_68) (fun v42 u41 H locs hp40 V => ?_)
      obtain ⟨rfl, rfl⟩ := hp40
      refine lv_lor hx hb d_1_27_71 ?_
      refine q_tl (v := 0) (by decide) ?_
      exact q_retl C0 V (⟨rfl, hF, hO17, hA35⟩) d_1_27_72
  ·
    refine lv_aload_n hx hb d_1_27_4 rfl (lv_at hl 3 rfl) ?_
    refine lv_aload_n hx hb d_1_27_5 rfl (lv_at hl 0 rfl) ?_
    refine q_get (ci := 0) (j := 2) (v := .ref qA4) C0 V i_NH rfl rfl hO0 (by decide) w_426 rfl d_1_27_6 ?_
    refine lv_iload_n hx hb d_1_27_9 rfl (lv_at hl 2 rfl) ?_
    have r44 : x2.toNatClampNeg < 10 := (q_r10 (x := x2.toInt) rfl (by have t1 : 0 ≤ x2.toInt := q_leI x2lo; have t2 : x2.toInt ≤ 9 := q_leI x2hi; omega) (by have t1 : 0 ≤ x2.toInt := q_leI x2lo; have t2 : x2.toInt ≤ 9 := q_leI x2hi; omega))
    have hr45 : ws[66 + 5 * x2.toNatClampNeg]? = (some (qW x2.toNatClampNeg, .inr (2, [.ref (qWL x2.toNatClampNeg), .int 0, .int 0])) : Option (Nat × va_E)) := FW _ r44
    have hr46 : ws[67 + 5 * x2.toNatClampNeg]? = (some (qWL x2.toNatClampNeg, .inl (g 0, 68, .inl (fun _ => 0))) : Option (Nat × va_E)) := FWL _ r44
    have hh : x2.toNatClampNeg < 10 := (q_r10 (x := x2.toInt) rfl (by have t1 : 0 ≤ x2.toInt := q_leI x2lo; have t2 : x2.toInt ≤ 9 := q_leI x2hi; omega) (by have t1 : 0 ≤ x2.toInt := q_leI x2lo; have t2 : x2.toInt ≤ 9 := q_leI x2hi; omega))
    refine q_aald (t := 4) (q := qW x2.toNatClampNeg) C0 V hA4 rfl (q_ix (x := x2.toInt) rfl (by have t1 : 0 ≤ x2.toInt := q_leI x2lo; have t2 : x2.toInt ≤ 9 := q_leI x2hi; omega) (by have t1 : 0 ≤ x2.toInt := q_leI x2lo; have t2 : x2.toInt ≤ 9 := q_leI x2hi; omega)) (hfW _ hh) d_1_27_10 ?_
    refine lv_lconst (v := 0) hx hb d_1_27_11 (by decide) ?_
    refine lv_iconst (v := 0) hx hb d_1_27_12 (by decide) ?_
    refine q_gol V (q_runV (As := [.ref (qW x2.toNatClampNeg), .long 0, .int 0]) (rest := []) (d := 2) (mc := 0) (ms := 0) (ci := 6) C0 V rfl LV_NH_408 (c_Flo_nearest_2 l D g ws (66 + 5 * x2.toNatClampNeg) qO1 (qW x2.toNatClampNeg) (qWL x2.toNatClampNeg) hr45 _) rfl rfl hO1 rfl hl.1 rfl (Nat.le_of_ble_eq_true rfl) ⟨by decide, by decide⟩ ⟨Nat.le_of_ble_eq_true rfl, Nat.le_of_ble_eq_true rfl⟩ d_1_27_13) (fun v49 u48 H locs hp47 V => ?_)
    obtain ⟨rfl, rfl⟩ := hp47
    refine lv_aload_n hx hb d_1_27_16 rfl (lv_at hl 3 rfl) ?_
    refine lv_aload_n hx hb d_1_27_17 rfl (lv_at hl 0 rfl) ?_
    refine q_get (ci := 0) (j := 2) (v := .ref qA4) C0 V i_NH rfl rfl hO0 (by decide) w_426 rfl d_1_27_18 ?_
    refine lv_iload_n hx hb d_1_27_21 rfl (lv_at hl 2 rfl) ?_
    have hh : x2.toNatClampNeg < 10 := (q_r10 (x := x2.toInt) rfl (by have t1 : 0 ≤ x2.toInt := q_leI x2lo; have t2 : x2.toInt ≤ 9 := q_leI x2hi; omega) (by have t1 : 0 ≤ x2.toInt := q_leI x2lo; have t2 : x2.toInt ≤ 9 := q_leI x2hi; omega))
    refine q_aald (t := 4) (q := qW x2.toNatClampNeg) C0 V hA4 rfl (q_ix (x := x2.toInt) rfl (by have t1 : 0 ≤ x2.toInt := q_leI x2lo; have t2 : x2.toInt ≤ 9 := q_leI x2hi; omega) (by have t1 : 0 ≤ x2.toInt := q_leI x2lo; have t2 : x2.toInt ≤ 9 := q_leI x2hi; omega)) (hfW _ hh) d_1_27_22 ?_
    refine q_get (ci := 2) (j := 2) (v := .int 0) C0 V i_Big rfl rfl hr45 (by decide) w_98 rfl d_1_27_23 ?_
    refine q_gol V (q_runV (As := [.int 0]) (rest := [.long 0]) (d := 1) (mc := 0) (ms := 0) (ci := 6) C0 V rfl LV_NH_412 (c_Flo_signBit_3 l D g ws qO1 _) rfl rfl hO1 rfl hl.1 rfl (Nat.le_of_ble_eq_true rfl) ⟨by decide, by decide⟩ ⟨Nat.le_of_ble_eq_true rfl, Nat.le_of_ble_eq_true rfl⟩ d_1_27_26) (fun v53 u52 H locs hp51 V => ?_)
    obtain ⟨rfl, rfl⟩ := hp51
    refine lv_lor hx hb d_1_27_29 ?_
    refine q_tl (v := 0) (by decide) ?_
    exact q_retl C0 V (⟨rfl, hF, hO17, hA35⟩) d_1_27_30
set_option maxRecDepth 100000 in
set_option maxHeartbeats 4000000 in
theorem c_Flo_number_2 (l : Launch) (D : va_G) (g : Nat → ClassId) (ws : va_W) (kO0 qO0 qO1 : Nat) (hO0 : ws[kO0]? = (some (qO0, .inr (6, [.int 23, .int 150, .int 255, .long 0, .int 0, .ref qO1, .int 0])) : Option (Nat × va_E))) : q_mL l y_Flo_number prog_7_method_12_code 3 2 0 0 D g [.ref qO0, .long 0] ws (fun r u => 0 = r ∧ ws = u) := by
  intro sz
  refine q_into (by decide) (Nat.le_of_ble_eq_true rfl) ?_
  intro p e s m below meth c ls hsz C0 V hl
  have hx := C0.1
  have hb := C0.2.1
  have hl : lv_has ls 3 [(0, .ref qO0), (1, .long 0)] := hl
  refine lv_aload_n hx hb d_7_12_0 rfl (lv_at hl 0 rfl) ?_
  refine lv_lload_n hx hb d_7_12_1 rfl (lv_at hl 1 rfl) ?_
  refine q_goi V (q_runV (As := [.long 0]) (rest := []) (d := 1) (mc := 0) (ms := 0) (ci := 6) C0 V rfl LV_Flo_27 (c_Flo_exponent l D g ws kO0 qO0 qO1 hO0 _) rfl rfl hO0 rfl hl.1 rfl (Nat.le_of_ble_eq_true rfl) ⟨by decide, by decide⟩ ⟨Nat.le_of_ble_eq_true rfl, Nat.le_of_ble_eq_true rfl⟩ d_7_12_2) (fun v3 u2 H locs hp1 V => ?_)
  obtain ⟨rfl, rfl⟩ := hp1
  refine lv_if_ne (tgt := 16) hx hb d_7_12_5 (by decide) (fun c5 => absurd (by decide) c5) (fun c5 => ?_)
  refine lv_aload_n hx hb d_7_12_8 rfl (lv_at hl 0 rfl) ?_
  refine lv_lload_n hx hb d_7_12_9 rfl (lv_at hl 1 rfl) ?_
  refine q_gol V (q_runV (As := [.long 0]) (rest := []) (d := 1) (mc := 0) (ms := 0) (ci := 6) C0 V rfl LV_Flo_35 (c_Flo_fraction l D g ws kO0 qO0 qO1 hO0 _) rfl rfl hO0 rfl hl.1 rfl (Nat.le_of_ble_eq_true rfl) ⟨by decide, by decide⟩ ⟨Nat.le_of_ble_eq_true rfl, Nat.le_of_ble_eq_true rfl⟩ d_7_12_10) (fun v8 u7 H locs hp6 V => ?_)
  obtain ⟨rfl, rfl⟩ := hp6
  refine lv_goto (tgt := 28) hx hb d_7_12_13 (by decide) ?_
  exact q_retl C0 V (⟨rfl, rfl⟩) d_7_12_28
set_option maxRecDepth 100000 in
set_option maxHeartbeats 4000000 in
theorem c_Flo_power_2 (l : Launch) (D : va_G) (g : Nat → ClassId) (ws : va_W) (kO0 qO0 qO1 : Nat) (hO0 : ws[kO0]? = (some (qO0, .inr (6, [.int 23, .int 150, .int 255, .long 0, .int 0, .ref qO1, .int 0])) : Option (Nat × va_E))) : q_mI l y_Flo_power prog_7_method_13_code 3 (.int) 2 0 0 D g [.ref qO0, .long 0] ws (fun r u => (-149) = r ∧ ws = u) := by
  intro sz
  refine q_into (by decide) (Nat.le_of_ble_eq_true rfl) ?_
  intro p e s m below meth c ls hsz C0 V hl
  have hx := C0.1
  have hb := C0.2.1
  have hl : lv_has ls 3 [(0, .ref qO0), (1, .long 0)] := hl
  refine lv_aload_n hx hb d_7_13_0 rfl (lv_at hl 0 rfl) ?_
  refine lv_lload_n hx hb d_7_13_1 rfl (lv_at hl 1 rfl) ?_
  refine q_goi V (q_runV (As := [.long 0]) (rest := []) (d := 1) (mc := 0) (ms := 0) (ci := 6) C0 V rfl LV_Flo_27 (c_Flo_exponent l D g ws kO0 qO0 qO1 hO0 _) rfl rfl hO0 rfl hl.1 rfl (Nat.le_of_ble_eq_true rfl) ⟨by decide, by decide⟩ ⟨Nat.le_of_ble_eq_true rfl, Nat.le_of_ble_eq_true rfl⟩ d_7_13_2) (fun v3 u2 H locs hp1 V => ?_)
  obtain ⟨rfl, rfl⟩ := hp1
  refine lv_iconst (v := 1) hx hb d_7_13_5 (by decide) ?_
  refine q_max C0 hl.1 rfl w_802 w_803 w_7 w_804 ⟨Nat.le_of_ble_eq_true rfl, Nat.le_of_ble_eq_true rfl⟩ ⟨Nat.le_of_ble_eq_true rfl, Nat.le_of_ble_eq_true rfl⟩ d_7_13_6 ?_
  refine q_ti (v := 1) (by decide) ?_
  refine lv_aload_n hx hb d_7_13_9 rfl (lv_at hl 0 rfl) ?_
  refine q_get (ci := 6) (j := 1) (v := .int 150) C0 V i_Flo rfl rfl hO0 (by decide) w_233 rfl d_7_13_10 ?_
  refine lv_isub hx hb d_7_13_13 ?_
  refine q_ti (v := (-149)) (by decide) ?_
  exact q_reti C0 V (⟨rfl, rfl⟩) d_7_13_14
set_option maxRecDepth 100000 in
set_option maxHeartbeats 4000000 in
theorem c_Flo_nearest_3 (l : Launch) (D : va_G) (g : Nat → ClassId) (ws : va_W) (kO1 qO0 qO1 qA3 : Nat) (hO1 : ws[kO1]? = (some (qO1, .inr (2, [.ref qA3, .int 0, .int 0])) : Option (Nat × va_E))) : q_mL l y_Flo_nearest prog_7_method_17_code 12 2 0 0 D g [.ref qO0, .ref qO1, .long (-149), .int 0] ws (fun r u => 0 = r ∧ ws = u) := by
  intro sz
  refine q_into (by decide) (Nat.le_of_ble_eq_true rfl) ?_
  intro p e s m below meth c ls hsz C0 V hl
  have hx := C0.1
  have hb := C0.2.1
  have hl : lv_has ls 12 [(0, .ref qO0), (1, .ref qO1), (2, .long (-149)), (4, .int 0)] := hl
  refine lv_aload_n hx hb d_7_17_0 rfl (lv_at hl 1 rfl) ?_
  refine q_goi V (q_runV (As := []) (rest := []) (d := 1) (mc := 0) (ms := 0) (ci := 2) C0 V rfl LV_Flo_104 (c_Big_bitLength l D g ws kO1 qO1 qA3 hO1 _) rfl rfl hO1 rfl hl.1 rfl (Nat.le_of_ble_eq_true rfl) ⟨by decide, by decide⟩ ⟨Nat.le_of_ble_eq_true rfl, Nat.le_of_ble_eq_true rfl⟩ d_7_17_1) (fun v3 u2 H locs hp1 V => ?_)
  obtain ⟨rfl, rfl⟩ := hp1
  refine lv_istore (lv' := [(5, .int 0), (0, .ref qO0), (1, .ref qO1), (2, .long (-149)), (4, .int 0)]) hx hb d_7_17_4 hl (by decide) rfl (fun ls hl => ?_)
  refine lv_iload hx hb d_7_17_6 (lv_at hl 0 rfl) ?_
  refine lv_if_eq (tgt := 23) hx hb d_7_17_8 (by decide) (fun c5 => ?_) (fun c5 => absurd (by decide) c5)
  refine lv_lconst (v := 0) hx hb d_7_17_23 (by decide) ?_
  exact q_retl C0 V (⟨rfl, rfl⟩) d_7_17_24
set_option maxRecDepth 100000 in
set_option maxHeartbeats 4000000 in
theorem c_Flo_changed_3 (l : Launch) (D : va_G) (g : Nat → ClassId) (ws : va_W) (kO0 kO1 kO2 kO3 kA13 qO0 qO1 qO2 qO3 qO4 qO5 qO6 qO7 qO8 qO9 qO10 qO11 qO12 qA13 : Nat) (hO0 : ws[kO0]? = (some (qO0, .inr (6, [.int 52, .int 1075, .int 2047, .long 0, .int 0, .ref qO2, .int 0])) : Option (Nat × va_E))) (hO1 : ws[kO1]? = (some (qO1, .inr (6, [.int 23, .int 150, .int 255, .long 0, .int 0, .ref qO2, .int 0])) : Option (Nat × va_E))) (hO2 : ws[kO2]? = (some (qO2, .inr (4, [.ref qO3, .ref qO4, .ref qO5, .ref qO6, .ref qO7, .ref qO8, .ref qO9, .ref qO10, .ref qO11, .ref qO12])) : Option (Nat × va_E))) (hO3 : ws[kO3]? = (some (qO3, .inr (2, [.ref qA13, .int 0, .int 0])) : Option (Nat × va_E))) (hA13 : ws[kA13]? = (some (qA13, .inl (g 0, 220, .inl (fun _ => 0))) : Option (Nat × va_E))) (n_O1_O0 : kO1 ≠ kO0) : q_mL l y_Flo_changed prog_7_method_16_code 6 4 0 0 D g [.ref qO0, .long 0, .ref qO1] ws (fun r u => 0 = r ∧ q_un ws u [kO3, kA13] ∧ u[kO3]? = (some (qO3, .inr (2, [.ref qA13, .int 0, .int 0])) : Option (Nat × va_E)) ∧ u[kA13]? = (some (qA13, .inl (g 0, 220, .inl (fun _ => 0))) : Option (Nat × va_E))) := by
  intro sz
  refine q_into (by decide) (Nat.le_of_ble_eq_true rfl) ?_
  intro p e s m below meth c ls hsz C0 V hl
  have hx := C0.1
  have hb := C0.2.1
  have hl : lv_has ls 6 [(0, .ref qO0), (1, .long 0), (3, .ref qO1)] := hl
  have n_O0_A13 := Ne.symm (q_df hA13 hO0)
  have n_O0_O3 := q_dc hO0 hO3 (q_pd 6 2 rfl)
  have n_O1_A13 := Ne.symm (q_df hA13 hO1)
  have n_O1_O3 := q_dc hO1 hO3 (q_pd 6 2 rfl)
  have n_O2_A13 := Ne.symm (q_df hA13 hO2)
  have n_O2_O3 := q_dc hO2 hO3 (q_pd 4 2 rfl)
  have hF : q_un ws ws [kO3, kA13] := q_u0
  refine lv_aload_n hx hb d_7_16_0 rfl (lv_at hl 2 rfl) ?_
  refine lv_aload_n hx hb d_7_16_1 rfl (lv_at hl 0 rfl) ?_
  refine lv_acmp_ne (rx := some qO1) (ry := some qO0) (tgt := 7) hx hb d_7_16_2 (by decide) (fun _ => ?_) (fun c1 => absurd c1 (fun e => absurd (V.2.1.1 _ _ _ _ hO1 hO0 (Option.some.inj e)) n_O1_O0))
  refine lv_aload_n hx hb d_7_16_7 rfl (lv_at hl 2 rfl) ?_
  refine lv_lload_n hx hb d_7_16_8 rfl (lv_at hl 1 rfl) ?_
  refine q_goi V (q_runV (As := [.long 0]) (rest := []) (d := 3) (mc := 0) (ms := 0) (ci := 6) C0 V rfl LV_Flo_94 (c_Flo_isNoNumber l D g ws kO1 qO1 qO2 hO1 _) rfl rfl hO1 rfl hl.1 rfl (Nat.le_of_ble_eq_true rfl) ⟨by decide, by decide⟩ ⟨Nat.le_of_ble_eq_true rfl, Nat.le_of_ble_eq_true rfl⟩ d_7_16_9) (fun v4 u3 H locs hp2 V => ?_)
  obtain ⟨rfl, rfl⟩ := hp2
  refine lv_if_eq (tgt := 20) hx hb d_7_16_12 (by decide) (fun c6 => ?_) (fun c6 => absurd (by decide) c6)
  refine lv_aload_n hx hb d_7_16_20 rfl (lv_at hl 0 rfl) ?_
  refine lv_aload_n hx hb d_7_16_21 rfl (lv_at hl 2 rfl) ?_
  refine lv_lload_n hx hb d_7_16_22 rfl (lv_at hl 1 rfl) ?_
  refine q_goi V (q_runV (As := [.long 0]) (rest := [.ref qO0]) (d := 2) (mc := 0) (ms := 0) (ci := 6) C0 V rfl LV_Flo_43 (c_Flo_isNegative l D g ws kO1 qO1 qO2 hO1 _) rfl rfl hO1 rfl hl.1 rfl (Nat.le_of_ble_eq_true rfl) ⟨by decide, by decide⟩ ⟨Nat.le_of_ble_eq_true rfl, Nat.le_of_ble_eq_true rfl⟩ d_7_16_23) (fun v9 u8 H locs hp7 V => ?_)
  obtain ⟨rfl, rfl⟩ := hp7
  refine q_gol V (q_runV (As := [.int 0]) (rest := []) (d := 1) (mc := 0) (ms := 0) (ci := 6) C0 V rfl LV_Flo_23 (c_Flo_signBit_3 l D g ws qO0 _) rfl rfl hO0 rfl hl.1 rfl (Nat.le_of_ble_eq_true rfl) ⟨by decide, by decide⟩ ⟨Nat.le_of_ble_eq_true rfl, Nat.le_of_ble_eq_true rfl⟩ d_7_16_26) (fun v13 u12 H locs hp11 V => ?_)
  obtain ⟨rfl, rfl⟩ := hp11
  refine lv_lstore (lv' := [(4, .long 0), (0, .ref qO0), (1, .long 0), (3, .ref qO1)]) hx hb d_7_16_29 hl (by decide) rfl (fun ls hl => ?_)
  refine lv_aload_n hx hb d_7_16_31 rfl (lv_at hl 3 rfl) ?_
  refine lv_lload_n hx hb d_7_16_32 rfl (lv_at hl 2 rfl) ?_
  refine q_goi V (q_runV (As := [.long 0]) (rest := []) (d := 2) (mc := 0) (ms := 0) (ci := 6) C0 V rfl LV_Flo_31 (c_Flo_isFinite l D g ws kO1 qO1 qO2 hO1 _) rfl rfl hO1 rfl hl.1 rfl (Nat.le_of_ble_eq_true rfl) ⟨by decide, by decide⟩ ⟨Nat.le_of_ble_eq_true rfl, Nat.le_of_ble_eq_true rfl⟩ d_7_16_33) (fun v17 u16 H locs hp15 V => ?_)
  obtain ⟨rfl, rfl⟩ := hp15
  refine lv_if_ne (tgt := 47) hx hb d_7_16_36 (by decide) (fun c19 => ?_) (fun c19 => absurd c19 (by decide))
  refine lv_aload_n hx hb d_7_16_47 rfl (lv_at hl 1 rfl) ?_
  refine q_get (ci := 6) (j := 5) (v := .ref qO2) C0 V i_Flo rfl rfl hO0 (by decide) w_241 rfl d_7_16_48 ?_
  refine q_get (ci := 4) (j := 0) (v := .ref qO3) C0 V i_Mil rfl rfl hO2 (by decide) w_113 rfl d_7_16_51 ?_
  refine lv_aload_n hx hb d_7_16_54 rfl (lv_at hl 3 rfl) ?_
  refine lv_lload_n hx hb d_7_16_55 rfl (lv_at hl 2 rfl) ?_
  refine q_gol V (q_runV (As := [.long 0]) (rest := [.ref qO3]) (d := 2) (mc := 0) (ms := 0) (ci := 6) C0 V rfl LV_Flo_61 (c_Flo_number_2 l D g ws kO1 qO1 qO2 hO1 _) rfl rfl hO1 rfl hl.1 rfl (Nat.le_of_ble_eq_true rfl) ⟨by decide, by decide⟩ ⟨Nat.le_of_ble_eq_true rfl, Nat.le_of_ble_eq_true rfl⟩ d_7_16_56) (fun v22 u21 H locs hp20 V => ?_)
  obtain ⟨rfl, rfl⟩ := hp20
  refine q_gov V (q_runV (As := [.long 0]) (rest := []) (d := 2) (mc := 0) (ms := 0) (ci := 2) C0 V rfl LV_Flo_63 (c_Big_setLong_2 l D g ws kO3 kA13 qO3 qA13 hO3 hA13 _) rfl rfl hO3 rfl hl.1 rfl (Nat.le_of_ble_eq_true rfl) ⟨by decide, by decide⟩ ⟨Nat.le_of_ble_eq_true rfl, Nat.le_of_ble_eq_true rfl⟩ d_7_16_59) (fun u25 H locs hp24 V => ?_)
  obtain ⟨hg26, hO3, hA13⟩ := hp24
  replace hF := q_uc hF hg26 (q_sc (.head _) (q_sc (.tail _ (.head _)) (fun _ h => absurd h List.not_mem_nil)))
  refine lv_aload_n hx hb d_7_16_62 rfl (lv_at hl 1 rfl) ?_
  refine lv_aload_n hx hb d_7_16_63 rfl (lv_at hl 1 rfl) ?_
  replace hO0 := (hg26 _ (q_nc n_O0_O3 (q_nc n_O0_A13 List.not_mem_nil))).trans (hO0)
  refine q_get (ci := 6) (j := 5) (v := .ref qO2) C0 V i_Flo rfl rfl hO0 (by decide) w_241 rfl d_7_16_64 ?_
  replace hO2 := (hg26 _ (q_nc n_O2_O3 (q_nc n_O2_A13 List.not_mem_nil))).trans (hO2)
  refine q_get (ci := 4) (j := 0) (v := .ref qO3) C0 V i_Mil rfl rfl hO2 (by decide) w_113 rfl d_7_16_67 ?_
  refine lv_aload_n hx hb d_7_16_70 rfl (lv_at hl 3 rfl) ?_
  refine lv_lload_n hx hb d_7_16_71 rfl (lv_at hl 2 rfl) ?_
  replace hO1 := (hg26 _ (q_nc n_O1_O3 (q_nc n_O1_A13 List.not_mem_nil))).trans (hO1)
  refine q_goi V (q_runV (As := [.long 0]) (rest := [.ref qO3, .ref qO0]) (d := 2) (mc := 0) (ms := 0) (ci := 6) C0 V rfl LV_Flo_52 (c_Flo_power_2 l D g u25 kO1 qO1 qO2 hO1 _) rfl rfl hO1 rfl hl.1 rfl (Nat.le_of_ble_eq_true rfl) ⟨by decide, by decide⟩ ⟨Nat.le_of_ble_eq_true rfl, Nat.le_of_ble_eq_true rfl⟩ d_7_16_72) (fun v29 u28 H locs hp27 V => ?_)
  obtain ⟨rfl, rfl⟩ := hp27
  refine lv_i2l hx hb d_7_16_75 rfl ?_
  refine q_tl (v := (-149)) (by decide) ?_
  refine lv_iconst (v := 0) hx hb d_7_16_76 (by decide) ?_
  refine q_gol V (q_runV (As := [.ref qO3, .long (-149), .int 0]) (rest := []) (d := 2) (mc := 0) (ms := 0) (ci := 6) C0 V rfl LV_Flo_100 (c_Flo_nearest_3 l D g u25 kO3 qO0 qO3 qA13 hO3 _) rfl rfl hO0 rfl hl.1 rfl (Nat.le_of_ble_eq_true rfl) ⟨by decide, by decide⟩ ⟨Nat.le_of_ble_eq_true rfl, Nat.le_of_ble_eq_true rfl⟩ d_7_16_77) (fun v33 u32 H locs hp31 V => ?_)
  obtain ⟨rfl, rfl⟩ := hp31
  refine lv_lload hx hb d_7_16_80 (lv_at hl 0 rfl) ?_
  refine lv_lor hx hb d_7_16_82 ?_
  refine q_tl (v := 0) (by decide) ?_
  exact q_retl C0 V (⟨rfl, hF, hO3, hA13⟩) d_7_16_83
set_option maxRecDepth 100000 in
set_option maxHeartbeats 4000000 in
theorem c_NH_madeFloat_2 (l : Launch) (D : va_G) (g : Nat → ClassId) (ws : va_W) ( qO0 qO1 qO2 qO3 qA4 qA5 qA6 qA7 qO8 qO9 qO10 qO11 qO12 qO13 qO14 qO17 qO18 qO19 qO20 qO21 qO22 qO23 qO24 qO25 qO26 qA35 : Nat) (x1 : Int32) (x2 : Int32) (f3 : Nat → Option Nat) (f4 : Nat → Option Nat) (hO0 : ws[0]? = (some (qO0, .inr (0, [.ref qO2, .ref qO3, .ref qA4, .ref qA5, .ref qA6, .ref qA7, .ref qO8, .ref qO9, .ref qO1, .ref qO10, .ref qO11, .ref qO12, .ref qO13, .ref qO14])) : Option (Nat × va_E))) (hO1 : ws[34]? = (some (qO1, .inr (6, [.int 52, .int 1075, .int 2047, .long 0, .int 0, .ref qO8, .int 0])) : Option (Nat × va_E))) (hA4 : ws[5]? = (some (qA4, .inl (g 4, 10, .inr (.inr (.inr (.inr f3))))) : Option (Nat × va_E))) (hA5 : ws[6]? = (some (qA5, .inl (g 5, 10, .inr (.inr (.inr (.inr f4))))) : Option (Nat × va_E))) (hA6 : ws[7]? = (some (qA6, .inl (g 1, 10, .inr (.inl (fun _ => 0)))) : Option (Nat × va_E))) (hA7 : ws[8]? = (some (qA7, .inl (g 1, 10, .inr (.inl (fun _ => 0)))) : Option (Nat × va_E))) (hO8 : ws[9]? = (some (qO8, .inr (4, [.ref qO17, .ref qO18, .ref qO19, .ref qO20, .ref qO21, .ref qO22, .ref qO23, .ref qO24, .ref qO25, .ref qO26])) : Option (Nat × va_E))) (hO10 : ws[35]? = (some (qO10, .inr (6, [.int 23, .int 150, .int 255, .long 0, .int 0, .ref qO8, .int 0])) : Option (Nat × va_E))) (hO17 : ws[10]? = (some (qO17, .inr (2, [.ref qA35, .int 0, .int 0])) : Option (Nat × va_E))) (hA35 : ws[11]? = (some (qA35, .inl (g 0, 220, .inl (fun _ => 0))) : Option (Nat × va_E))) (x1lo : 0 ≤ x1) (x1hi : x1 ≤ 3) (x2lo : 0 ≤ x2) (x2hi : x2 ≤ 9) (qW qWL qD qDN qDL : Nat → Nat) (hfW : ∀ i, i < 10 → f3 i = some (qW i)) (FW : ∀ i, i < 10 → ws[66 + 5 * i]? = (some (qW i, .inr (2, [.ref (qWL i), .int 0, .int 0])) : Option (Nat × va_E))) (FWL : ∀ i, i < 10 → ws[67 + 5 * i]? = (some (qWL i, .inl (g 0, 68, .inl (fun _ => 0))) : Option (Nat × va_E))) (hfD : ∀ i, i < 10 → f4 i = some (qD i)) (FD : ∀ i, i < 10 → ws[68 + 5 * i]? = (some (qD i, .inr (3, [.ref (qDN i), .int 0, .int 1])) : Option (Nat × va_E))) (FDN : ∀ i, i < 10 → ws[69 + 5 * i]? = (some (qDN i, .inr (2, [.ref (qDL i), .int 0, .int 0])) : Option (Nat × va_E))) (FDL : ∀ i, i < 10 → ws[70 + 5 * i]? = (some (qDL i, .inl (g 0, 108, .inl (fun _ => 0))) : Option (Nat × va_E))) : q_mL l y_NH_madeFloat prog_1_method_27_code 5 5 0 0 D g [.ref qO0, .int x1, .int x2, .ref qO1] ws (fun r u => 0 = r ∧ q_un ws u [10, 11] ∧ u[10]? = (some (qO17, .inr (2, [.ref qA35, .int 0, .int 0])) : Option (Nat × va_E)) ∧ u[11]? = (some (qA35, .inl (g 0, 220, .inl (fun _ => 0))) : Option (Nat × va_E))) := by
  intro sz
  refine q_into (by decide) (Nat.le_of_ble_eq_true rfl) ?_
  intro p e s m below meth c ls hsz C0 V hl
  have hx := C0.1
  have hb := C0.2.1
  have hl : lv_has ls 5 [(0, .ref qO0), (1, .int x1), (2, .int x2), (3, .ref qO1)] := hl
  have hF : q_un ws ws [10, 11] := q_u0
  refine lv_iload_n hx hb d_1_27_0 rfl (lv_at hl 1 rfl) ?_
  refine lv_if_ne (tgt := 31) hx hb d_1_27_1 (by decide) (fun c1 => ?_) (fun c1 => ?_)
  ·
    refine lv_iload_n hx hb d_1_27_31 rfl (lv_at hl 1 rfl) ?_
    refine lv_iconst (v := 1) hx hb d_1_27_32 (by decide) ?_
    refine lv_icmp_ne (tgt := 73) hx hb d_1_27_33 (by decide) (fun c2 => ?_) (fun c2 => ?_)
    ·
      refine lv_aload_n hx hb d_1_27_73 rfl (lv_at hl 3 rfl) ?_
      refine lv_aload_n hx hb d_1_27_74 rfl (lv_at hl 0 rfl) ?_
      refine lv_iload_n hx hb d_1_27_75 rfl (lv_at hl 1 rfl) ?_
      refine q_gor (post := fun r u => (¬ x1 = 2 ∧ qA7 = r ∧ ws = u) ∨ (x1 = 2 ∧ qA6 = r ∧ ws = u)) V (q_runV (As := [.int x1]) (rest := [.ref qO1]) (d := 1) (mc := 0) (ms := 0) (ci := 0) C0 V rfl LV_NH_157 (c_NH_floatRow_3 l D g ws qO0 qO2 qO3 qA4 qA5 qA6 qA7 qO8 qO9 qO1 qO10 qO11 qO12 qO13 qO14 x1 hO0 (q_Ile (x := 2) (y := x1.toInt) (by decide) rfl (by have t1 : 0 ≤ x1.toInt := q_leI x1lo; have t2 : x1.toInt ≤ 3 := q_leI x1hi; have t3 : x1.toInt ≠ 0 := q_neI c1; have t4 : x1.toInt ≠ 1 := q_neI c2; omega)) x1hi _) rfl rfl hO0 rfl hl.1 rfl (Nat.le_of_ble_eq_true rfl) ⟨by decide, by decide⟩ ⟨Nat.le_of_ble_eq_true rfl, Nat.le_of_ble_eq_true rfl⟩ d_1_27_76) (fun v5 u4 H locs hp3 V => ?_)
      rcases hp3 with ⟨c6, rfl, rfl⟩ | ⟨c8, rfl, rfl⟩
      ·
        refine lv_iload_n hx hb d_1_27_79 rfl (lv_at hl 2 rfl) ?_
        refine q_lald C0 V hA7 (q_ix (x := x2.toInt) rfl (by have t1 : 0 ≤ x2.toInt := q_leI x2lo; have t2 : x2.toInt ≤ 9 := q_leI x2hi; omega) (by have t1 : 0 ≤ x2.toInt := q_leI x2lo; have t2 : x2.toInt ≤ 9 := q_leI x2hi; omega)) d_1_27_80 ?_
        refine q_tl (v := 0) (by first | rfl | decide | simp [upd, vp_updL, sb_cl0]) ?_
        refine lv_aload_n hx hb d_1_27_81 rfl (lv_at hl 0 rfl) ?_
        refine lv_iload_n hx hb d_1_27_82 rfl (lv_at hl 1 rfl) ?_
        refine q_ti (v := 3) (q_Ieq (x := x1.toInt) (y := 3) rfl (by decide) (by have t1 : 0 ≤ x1.toInt := q_leI x1lo; have t2 : x1.toInt ≤ 3 := q_leI x1hi; have t3 : x1.toInt ≠ 0 := q_neI c1; have t4 : x1.toInt ≠ 1 := q_neI c2; have t5 : x1.toInt ≠ 2 := q_neI c6; omega)) ?_
        refine q_gor (post := fun r u => (¬ 3 = 2 ∧ qO10 = r ∧ ws = u) ∨ (3 = 2 ∧ qO1 = r ∧ ws = u)) V (q_runV (As := [.int 3]) (rest := [.long 0, .ref qO1]) (d := 1) (mc := 0) (ms := 0) (ci := 0) C0 V rfl LV_NH_130 (c_NH_floatsOf l D g ws qO0 qO2 qO3 qA4 qA5 qA6 qA7 qO8 qO9 qO1 qO10 qO11 qO12 qO13 qO14 3 hO0 (q_Ile (x := 2) (y := 3) (by decide) (by decide) (by omega)) (q_Ile (x := 3) (y := 3) (by decide) (by decide) (by omega)) _) rfl rfl hO0 rfl hl.1 rfl (Nat.le_of_ble_eq_true rfl) ⟨by decide, by decide⟩ ⟨Nat.le_of_ble_eq_true rfl, Nat.le_of_ble_eq_true rfl⟩ d_1_27_83) (fun v12 u11 H locs hp10 V => ?_)
        rcases hp10 with ⟨c13, rfl, rfl⟩ | ⟨c15, rfl, rfl⟩
        ·
          refine q_gol V (q_runV (As := [.long 0, .ref qO10]) (rest := []) (d := 4) (mc := 0) (ms := 0) (ci := 6) C0 V rfl LV_NH_420 (c_Flo_changed_3 l D g ws 34 35 9 10 11 qO1 qO10 qO8 qO17 qO18 qO19 qO20 qO21 qO22 qO23 qO24 qO25 qO26 qA35 hO1 hO10 hO8 hO17 hA35 (q_pd 35 34 rfl) _) rfl rfl hO1 rfl hl.1 rfl (Nat.le_of_ble_eq_true rfl) ⟨by decide, by decide⟩ ⟨Nat.le_of_ble_eq_true rfl, Nat.le_of_ble_eq_true rfl⟩ d_1_27_86) (fun v19 u18 H locs hp17 V => ?_)
          obtain ⟨rfl, hg20, hO17, hA35⟩ := hp17
          replace hF := q_uc hF hg20 (q_sc (.head _) (q_sc (.tail _ (.head _)) (fun _ h => absurd h List.not_mem_nil)))
          exact q_retl C0 V (⟨rfl, hF, hO17, hA35⟩) d_1_27_89
        ·
          exact absurd c15 (by decide)
      ·
        refine lv_iload_n hx hb d_1_27_79 rfl (lv_at hl 2 rfl) ?_
        refine q_lald C0 V hA6 (q_ix (x := x2.toInt) rfl (by have t1 : 0 ≤ x2.toInt := q_leI x2lo; have t2 : x2.toInt ≤ 9 := q_leI x2hi; omega) (by have t1 : 0 ≤ x2.toInt := q_leI x2lo; have t2 : x2.toInt ≤ 9 := q_leI x2hi; omega)) d_1_27_80 ?_
        refine q_tl (v := 0) (by first | rfl | decide | simp [upd, vp_updL, sb_cl0]) ?_
        refine lv_aload_n hx hb d_1_27_81 rfl (lv_at hl 0 rfl) ?_
        refine lv_iload_n hx hb d_1_27_82 rfl (lv_at hl 1 rfl) ?_
        refine q_ti (v := 2) c8 ?_
        refine q_gor (post := fun r u => (¬ 2 = 2 ∧ qO10 = r ∧ ws = u) ∨ (2 = 2 ∧ qO1 = r ∧ ws = u)) V (q_runV (As := [.int 2]) (rest := [.long 0, .ref qO1]) (d := 1) (mc := 0) (ms := 0) (ci := 0) C0 V rfl LV_NH_130 (c_NH_floatsOf l D g ws qO0 qO2 qO3 qA4 qA5 qA6 qA7 qO8 qO9 qO1 qO10 qO11 qO12 qO13 qO14 2 hO0 (q_Ile (x := 2) (y := 2) (by decide) (by decide) (by omega)) (q_Ile (x := 2) (y := 3) (by decide) (by decide) (by omega)) _) rfl rfl hO0 rfl hl.1 rfl (Nat.le_of_ble_eq_true rfl) ⟨by decide, by decide⟩ ⟨Nat.le_of_ble_eq_true rfl, Nat.le_of_ble_eq_true rfl⟩ d_1_27_83) (fun v23 u22 H locs hp21 V => ?_)
        rcases hp21 with ⟨c24, rfl, rfl⟩ | ⟨c26, rfl, rfl⟩
        ·
          exact absurd c24 (by decide)
        ·
          refine q_gol V (q_runV (As := [.long 0, .ref qO1]) (rest := []) (d := 1) (mc := 0) (ms := 0) (ci := 6) C0 V rfl LV_NH_420 (c_Flo_changed l D g ws qO1 _) rfl rfl hO1 rfl hl.1 rfl (Nat.le_of_ble_eq_true rfl) ⟨by decide, by decide⟩ ⟨Nat.le_of_ble_eq_true rfl, Nat.le_of_ble_eq_true rfl⟩ d_1_27_86) (fun v30 u29 H locs hp28 V => ?_)
          obtain ⟨rfl, rfl⟩ := hp28
          exact q_retl C0 V (⟨rfl, hF, hO17, hA35⟩) d_1_27_89
    ·
      refine lv_aload_n hx hb d_1_27_36 rfl (lv_at hl 0 rfl) ?_
      refine q_get (ci := 0) (j := 3) (v := .ref qA5) C0 V i_NH rfl rfl hO0 (by decide) w_427 rfl d_1_27_37 ?_
      refine lv_iload_n hx hb d_1_27_40 rfl (lv_at hl 2 rfl) ?_
      have r32 : x2.toNatClampNeg < 10 := (q_r10 (x := x2.toInt) rfl (by have t1 : 0 ≤ x2.toInt := q_leI x2lo; have t2 : x2.toInt ≤ 9 := q_leI x2hi; omega) (by have t1 : 0 ≤ x2.toInt := q_leI x2lo; have t2 : x2.toInt ≤ 9 := q_leI x2hi; omega))
      have hr33 : ws[68 + 5 * x2.toNatClampNeg]? = (some (qD x2.toNatClampNeg, .inr (3, [.ref (qDN x2.toNatClampNeg), .int 0, .int 1])) : Option (Nat × va_E)) := FD _ r32
      have hr34 : ws[69 + 5 * x2.toNatClampNeg]? = (some (qDN x2.toNatClampNeg, .inr (2, [.ref (qDL x2.toNatClampNeg), .int 0, .int 0])) : Option (Nat × va_E)) := FDN _ r32
      have hr35 : ws[70 + 5 * x2.toNatClampNeg]? = (some (qDL x2.toNatClampNeg, .inl (g 0, 108, .inl (fun _ => 0))) : Option (Nat × va_E)) := FDL _ r32
      have hh : x2.toNatClampNeg < 10 := (q_r10 (x := x2.toInt) rfl (by have t1 : 0 ≤ x2.toInt := q_leI x2lo; have t2 : x2.toInt ≤ 9 := q_leI x2hi; omega) (by have t1 : 0 ≤ x2.toInt := q_leI x2lo; have t2 : x2.toInt ≤ 9 := q_leI x2hi; omega))
      refine q_aald (t := 5) (q := qD x2.toNatClampNeg) C0 V hA5 rfl (q_ix (x := x2.toInt) rfl (by have t1 : 0 ≤ x2.toInt := q_leI x2lo; have t2 : x2.toInt ≤ 9 := q_leI x2hi; omega) (by have t1 : 0 ≤ x2.toInt := q_leI x2lo; have t2 : x2.toInt ≤ 9 := q_leI x2hi; omega)) (hfD _ hh) d_1_27_41 ?_
      refine lv_astore (lv' := [(4, .ref (qD x2.toNatClampNeg)), (0, .ref qO0), (1, .int x1), (2, .int x2), (3, .ref qO1)]) hx hb d_1_27_42 hl (by decide) rfl (fun ls hl => ?_)
      refine lv_aload_n hx hb d_1_27_44 rfl (lv_at hl 4 rfl) ?_
      refine lv_aload hx hb d_1_27_45 (lv_at hl 0 rfl) ?_
      refine q_get (ci := 3) (j := 0) (v := .ref (qDN x2.toNatClampNeg)) C0 V i_Dec rfl rfl hr33 (by decide) w_174 rfl d_1_27_47 ?_
      refine lv_aload hx hb d_1_27_50 (lv_at hl 0 rfl) ?_
      refine q_get (ci := 3) (j := 1) (v := .int 0) C0 V i_Dec rfl rfl hr33 (by decide) w_178 rfl d_1_27_52 ?_
      refine lv_i2l hx hb d_1_27_55 rfl ?_
      refine q_tl (v := 0) (by decide) ?_
      refine q_gol V (q_runV (As := [.ref (qDN x2.toNatClampNeg), .long 0]) (rest := []) (d := 1) (mc := 0) (ms := 0) (ci := 6) C0 V rfl LV_NH_416 (c_Flo_nearestDecimal l D g ws (69 + 5 * x2.toNatClampNeg) qO1 (qDN x2.toNatClampNeg) (qDL x2.toNatClampNeg) hr34 _) rfl rfl hO1 rfl hl.1 rfl (Nat.le_of_ble_eq_true rfl) ⟨by decide, by decide⟩ ⟨Nat.le_of_ble_eq_true rfl, Nat.le_of_ble_eq_true rfl⟩ d_1_27_56) (fun v38 u37 H locs hp36 V => ?_)
      obtain ⟨rfl, rfl⟩ := hp36
      refine lv_aload_n hx hb d_1_27_59 rfl (lv_at hl 4 rfl) ?_
      refine lv_aload hx hb d_1_27_60 (lv_at hl 0 rfl) ?_
      refine q_get (ci := 3) (j := 0) (v := .ref (qDN x2.toNatClampNeg)) C0 V i_Dec rfl rfl hr33 (by decide) w_174 rfl d_1_27_62 ?_
      refine q_get (ci := 2) (j := 2) (v := .int 0) C0 V i_Big rfl rfl hr34 (by decide) w_98 rfl d_1_27_65 ?_
      refine q_gol V (q_runV (As := [.int 0]) (rest := [.long 0]) (d := 1) (mc := 0) (ms := 0) (ci := 6) C0 V rfl LV_NH_412 (c_Flo_signBit_3 l D g ws qO1 _) rfl rfl hO1 rfl hl.1 rfl (Nat.le_of_ble_eq_true rfl) ⟨by decide, by decide⟩ ⟨Nat.le_of_ble_eq_true rfl, Nat.le_of_ble_eq_true rfl⟩ d_1_27_68) (fun v42 u41 H locs hp40 V => ?_)
      obtain ⟨rfl, rfl⟩ := hp40
      refine lv_lor hx hb d_1_27_71 ?_
      refine q_tl (v := 0) (by decide) ?_
      exact q_retl C0 V (⟨rfl, hF, hO17, hA35⟩) d_1_27_72
  ·
    refine lv_aload_n hx hb d_1_27_4 rfl (lv_at hl 3 rfl) ?_
    refine lv_aload_n hx hb d_1_27_5 rfl (lv_at hl 0 rfl) ?_
    refine q_get (ci := 0) (j := 2) (v := .ref qA4) C0 V i_NH rfl rfl hO0 (by decide) w_426 rfl d_1_27_6 ?_
    refine lv_iload_n hx hb d_1_27_9 rfl (lv_at hl 2 rfl) ?_
    have r44 : x2.toNatClampNeg < 10 := (q_r10 (x := x2.toInt) rfl (by have t1 : 0 ≤ x2.toInt := q_leI x2lo; have t2 : x2.toInt ≤ 9 := q_leI x2hi; omega) (by have t1 : 0 ≤ x2.toInt := q_leI x2lo; have t2 : x2.toInt ≤ 9 := q_leI x2hi; omega))
    have hr45 : ws[66 + 5 * x2.toNatClampNeg]? = (some (qW x2.toNatClampNeg, .inr (2, [.ref (qWL x2.toNatClampNeg), .int 0, .int 0])) : Option (Nat × va_E)) := FW _ r44
    have hr46 : ws[67 + 5 * x2.toNatClampNeg]? = (some (qWL x2.toNatClampNeg, .inl (g 0, 68, .inl (fun _ => 0))) : Option (Nat × va_E)) := FWL _ r44
    have hh : x2.toNatClampNeg < 10 := (q_r10 (x := x2.toInt) rfl (by have t1 : 0 ≤ x2.toInt := q_leI x2lo; have t2 : x2.toInt ≤ 9 := q_leI x2hi; omega) (by have t1 : 0 ≤ x2.toInt := q_leI x2lo; have t2 : x2.toInt ≤ 9 := q_leI x2hi; omega))
    refine q_aald (t := 4) (q := qW x2.toNatClampNeg) C0 V hA4 rfl (q_ix (x := x2.toInt) rfl (by have t1 : 0 ≤ x2.toInt := q_leI x2lo; have t2 : x2.toInt ≤ 9 := q_leI x2hi; omega) (by have t1 : 0 ≤ x2.toInt := q_leI x2lo; have t2 : x2.toInt ≤ 9 := q_leI x2hi; omega)) (hfW _ hh) d_1_27_10 ?_
    refine lv_lconst (v := 0) hx hb d_1_27_11 (by decide) ?_
    refine lv_iconst (v := 0) hx hb d_1_27_12 (by decide) ?_
    refine q_gol V (q_runV (As := [.ref (qW x2.toNatClampNeg), .long 0, .int 0]) (rest := []) (d := 2) (mc := 0) (ms := 0) (ci := 6) C0 V rfl LV_NH_408 (c_Flo_nearest_2 l D g ws (66 + 5 * x2.toNatClampNeg) qO1 (qW x2.toNatClampNeg) (qWL x2.toNatClampNeg) hr45 _) rfl rfl hO1 rfl hl.1 rfl (Nat.le_of_ble_eq_true rfl) ⟨by decide, by decide⟩ ⟨Nat.le_of_ble_eq_true rfl, Nat.le_of_ble_eq_true rfl⟩ d_1_27_13) (fun v49 u48 H locs hp47 V => ?_)
    obtain ⟨rfl, rfl⟩ := hp47
    refine lv_aload_n hx hb d_1_27_16 rfl (lv_at hl 3 rfl) ?_
    refine lv_aload_n hx hb d_1_27_17 rfl (lv_at hl 0 rfl) ?_
    refine q_get (ci := 0) (j := 2) (v := .ref qA4) C0 V i_NH rfl rfl hO0 (by decide) w_426 rfl d_1_27_18 ?_
    refine lv_iload_n hx hb d_1_27_21 rfl (lv_at hl 2 rfl) ?_
    have hh : x2.toNatClampNeg < 10 := (q_r10 (x := x2.toInt) rfl (by have t1 : 0 ≤ x2.toInt := q_leI x2lo; have t2 : x2.toInt ≤ 9 := q_leI x2hi; omega) (by have t1 : 0 ≤ x2.toInt := q_leI x2lo; have t2 : x2.toInt ≤ 9 := q_leI x2hi; omega))
    refine q_aald (t := 4) (q := qW x2.toNatClampNeg) C0 V hA4 rfl (q_ix (x := x2.toInt) rfl (by have t1 : 0 ≤ x2.toInt := q_leI x2lo; have t2 : x2.toInt ≤ 9 := q_leI x2hi; omega) (by have t1 : 0 ≤ x2.toInt := q_leI x2lo; have t2 : x2.toInt ≤ 9 := q_leI x2hi; omega)) (hfW _ hh) d_1_27_22 ?_
    refine q_get (ci := 2) (j := 2) (v := .int 0) C0 V i_Big rfl rfl hr45 (by decide) w_98 rfl d_1_27_23 ?_
    refine q_gol V (q_runV (As := [.int 0]) (rest := [.long 0]) (d := 1) (mc := 0) (ms := 0) (ci := 6) C0 V rfl LV_NH_412 (c_Flo_signBit_3 l D g ws qO1 _) rfl rfl hO1 rfl hl.1 rfl (Nat.le_of_ble_eq_true rfl) ⟨by decide, by decide⟩ ⟨Nat.le_of_ble_eq_true rfl, Nat.le_of_ble_eq_true rfl⟩ d_1_27_26) (fun v53 u52 H locs hp51 V => ?_)
    obtain ⟨rfl, rfl⟩ := hp51
    refine lv_lor hx hb d_1_27_29 ?_
    refine q_tl (v := 0) (by decide) ?_
    exact q_retl C0 V (⟨rfl, hF, hO17, hA35⟩) d_1_27_30
theorem d_7_15_0 : decode prog_7_method_15_code 0 = .ok (.aload_n 0, 1) := by decide +kernel
theorem d_7_15_1 : decode prog_7_method_15_code 1 = .ok (.lload_n 1, 1) := by decide +kernel
theorem d_7_15_2 : decode prog_7_method_15_code 2 = .ok (.invokevirtual 52, 3) := by decide +kernel
theorem d_7_15_5 : decode prog_7_method_15_code 5 = .ok (.istore_n 3, 1) := by decide +kernel
theorem d_7_15_6 : decode prog_7_method_15_code 6 = .ok (.aload_n 0, 1) := by decide +kernel
theorem d_7_15_7 : decode prog_7_method_15_code 7 = .ok (.getfield 19, 3) := by decide +kernel
theorem d_7_15_10 : decode prog_7_method_15_code 10 = .ok (.getfield 55, 3) := by decide +kernel
theorem d_7_15_13 : decode prog_7_method_15_code 13 = .ok (.astore 4, 2) := by decide +kernel
theorem d_7_15_15 : decode prog_7_method_15_code 15 = .ok (.aload 4, 2) := by decide +kernel
theorem d_7_15_17 : decode prog_7_method_15_code 17 = .ok (.aload_n 0, 1) := by decide +kernel
theorem d_7_15_18 : decode prog_7_method_15_code 18 = .ok (.lload_n 1, 1) := by decide +kernel
theorem d_7_15_19 : decode prog_7_method_15_code 19 = .ok (.invokevirtual 61, 3) := by decide +kernel
theorem d_7_15_22 : decode prog_7_method_15_code 22 = .ok (.invokevirtual 63, 3) := by decide +kernel
theorem d_7_15_25 : decode prog_7_method_15_code 25 = .ok (.aload 4, 2) := by decide +kernel
theorem d_7_15_27 : decode prog_7_method_15_code 27 = .ok (.getfield 77, 3) := by decide +kernel
theorem d_7_15_30 : decode prog_7_method_15_code 30 = .ok (.ifCond .ne 5, 3) := by decide +kernel
theorem d_7_15_33 : decode prog_7_method_15_code 33 = .ok (.iconst 0, 1) := by decide +kernel
theorem d_7_15_34 : decode prog_7_method_15_code 34 = .ok (.ireturn, 1) := by decide +kernel
def y_Flo_exactly : MethodName := ⟨"NumberHouse$Floats", "exactly", "(J)I"⟩
set_option maxRecDepth 100000 in
set_option maxHeartbeats 4000000 in
theorem c_Flo_exactly (l : Launch) (D : va_G) (g : Nat → ClassId) (ws : va_W) (kO0 kO1 kO2 kA12 qO0 qO1 qO2 qO3 qO4 qO5 qO6 qO7 qO8 qO9 qO10 qO11 qA12 : Nat) (hO0 : ws[kO0]? = (some (qO0, .inr (6, [.int 23, .int 150, .int 255, .long 0, .int 0, .ref qO1, .int 0])) : Option (Nat × va_E))) (hO1 : ws[kO1]? = (some (qO1, .inr (4, [.ref qO2, .ref qO3, .ref qO4, .ref qO5, .ref qO6, .ref qO7, .ref qO8, .ref qO9, .ref qO10, .ref qO11])) : Option (Nat × va_E))) (hO2 : ws[kO2]? = (some (qO2, .inr (2, [.ref qA12, .int 0, .int 0])) : Option (Nat × va_E))) (hA12 : ws[kA12]? = (some (qA12, .inl (g 0, 220, .inl (fun _ => 0))) : Option (Nat × va_E))) : q_mI l y_Flo_exactly prog_7_method_15_code 7 (.int) 3 0 0 D g [.ref qO0, .long 0] ws (fun r u => 0 = r ∧ q_un ws u [kO2, kA12] ∧ u[kO2]? = (some (qO2, .inr (2, [.ref qA12, .int 0, .int 0])) : Option (Nat × va_E)) ∧ u[kA12]? = (some (qA12, .inl (g 0, 220, .inl (fun _ => 0))) : Option (Nat × va_E))) := by
  intro sz
  refine q_into (by decide) (Nat.le_of_ble_eq_true rfl) ?_
  intro p e s m below meth c ls hsz C0 V hl
  have hx := C0.1
  have hb := C0.2.1
  have hl : lv_has ls 7 [(0, .ref qO0), (1, .long 0)] := hl
  have n_O0_A12 := Ne.symm (q_df hA12 hO0)
  have n_O0_O2 := q_dc hO0 hO2 (q_pd 6 2 rfl)
  have n_O1_A12 := Ne.symm (q_df hA12 hO1)
  have n_O1_O2 := q_dc hO1 hO2 (q_pd 4 2 rfl)
  have hF : q_un ws ws [kO2, kA12] := q_u0
  refine lv_aload_n hx hb d_7_15_0 rfl (lv_at hl 0 rfl) ?_
  refine lv_lload_n hx hb d_7_15_1 rfl (lv_at hl 1 rfl) ?_
  refine q_goi V (q_runV (As := [.long 0]) (rest := []) (d := 2) (mc := 0) (ms := 0) (ci := 6) C0 V rfl LV_Flo_52 (c_Flo_power_2 l D g ws kO0 qO0 qO1 hO0 _) rfl rfl hO0 rfl hl.1 rfl (Nat.le_of_ble_eq_true rfl) ⟨by decide, by decide⟩ ⟨Nat.le_of_ble_eq_true rfl, Nat.le_of_ble_eq_true rfl⟩ d_7_15_2) (fun v3 u2 H locs hp1 V => ?_)
  obtain ⟨rfl, rfl⟩ := hp1
  refine lv_istore_n (lv' := [(3, .int (-149)), (0, .ref qO0), (1, .long 0)]) hx hb d_7_15_5 rfl hl (by decide) rfl (fun ls hl => ?_)
  refine lv_aload_n hx hb d_7_15_6 rfl (lv_at hl 1 rfl) ?_
  refine q_get (ci := 6) (j := 5) (v := .ref qO1) C0 V i_Flo rfl rfl hO0 (by decide) w_241 rfl d_7_15_7 ?_
  refine q_get (ci := 4) (j := 0) (v := .ref qO2) C0 V i_Mil rfl rfl hO1 (by decide) w_113 rfl d_7_15_10 ?_
  refine lv_astore (lv' := [(4, .ref qO2), (3, .int (-149)), (0, .ref qO0), (1, .long 0)]) hx hb d_7_15_13 hl (by decide) rfl (fun ls hl => ?_)
  refine lv_aload hx hb d_7_15_15 (lv_at hl 0 rfl) ?_
  refine lv_aload_n hx hb d_7_15_17 rfl (lv_at hl 2 rfl) ?_
  refine lv_lload_n hx hb d_7_15_18 rfl (lv_at hl 3 rfl) ?_
  refine q_gol V (q_runV (As := [.long 0]) (rest := [.ref qO2]) (d := 2) (mc := 0) (ms := 0) (ci := 6) C0 V rfl LV_Flo_61 (c_Flo_number_2 l D g ws kO0 qO0 qO1 hO0 _) rfl rfl hO0 rfl hl.1 rfl (Nat.le_of_ble_eq_true rfl) ⟨by decide, by decide⟩ ⟨Nat.le_of_ble_eq_true rfl, Nat.le_of_ble_eq_true rfl⟩ d_7_15_19) (fun v7 u6 H locs hp5 V => ?_)
  obtain ⟨rfl, rfl⟩ := hp5
  refine q_gov V (q_runV (As := [.long 0]) (rest := []) (d := 2) (mc := 0) (ms := 0) (ci := 2) C0 V rfl LV_Flo_63 (c_Big_setLong_2 l D g ws kO2 kA12 qO2 qA12 hO2 hA12 _) rfl rfl hO2 rfl hl.1 rfl (Nat.le_of_ble_eq_true rfl) ⟨by decide, by decide⟩ ⟨Nat.le_of_ble_eq_true rfl, Nat.le_of_ble_eq_true rfl⟩ d_7_15_22) (fun u10 H locs hp9 V => ?_)
  obtain ⟨hg11, hO2, hA12⟩ := hp9
  replace hF := q_uc hF hg11 (q_sc (.head _) (q_sc (.tail _ (.head _)) (fun _ h => absurd h List.not_mem_nil)))
  refine lv_aload hx hb d_7_15_25 (lv_at hl 0 rfl) ?_
  refine q_get (ci := 2) (j := 1) (v := .int 0) C0 V i_Big rfl rfl hO2 (by decide) w_92 rfl d_7_15_27 ?_
  refine lv_if_ne (tgt := 35) hx hb d_7_15_30 (by decide) (fun c12 => absurd (by decide) c12) (fun c12 => ?_)
  refine lv_iconst (v := 0) hx hb d_7_15_33 (by decide) ?_
  exact q_reti C0 V (⟨rfl, hF, hO2, hA12⟩) d_7_15_34
set_option maxRecDepth 100000 in
set_option maxHeartbeats 4000000 in
theorem c_Flo_exactly_2 (l : Launch) (D : va_G) (g : Nat → ClassId) (ws : va_W) (kO0 kO1 kO2 kA12 qO0 qO1 qO2 qO3 qO4 qO5 qO6 qO7 qO8 qO9 qO10 qO11 qA12 : Nat) (hO0 : ws[kO0]? = (some (qO0, .inr (6, [.int 52, .int 1075, .int 2047, .long 0, .int 0, .ref qO1, .int 0])) : Option (Nat × va_E))) (hO1 : ws[kO1]? = (some (qO1, .inr (4, [.ref qO2, .ref qO3, .ref qO4, .ref qO5, .ref qO6, .ref qO7, .ref qO8, .ref qO9, .ref qO10, .ref qO11])) : Option (Nat × va_E))) (hO2 : ws[kO2]? = (some (qO2, .inr (2, [.ref qA12, .int 0, .int 0])) : Option (Nat × va_E))) (hA12 : ws[kA12]? = (some (qA12, .inl (g 0, 220, .inl (fun _ => 0))) : Option (Nat × va_E))) : q_mI l y_Flo_exactly prog_7_method_15_code 7 (.int) 3 0 0 D g [.ref qO0, .long 0] ws (fun r u => 0 = r ∧ q_un ws u [kO2, kA12] ∧ u[kO2]? = (some (qO2, .inr (2, [.ref qA12, .int 0, .int 0])) : Option (Nat × va_E)) ∧ u[kA12]? = (some (qA12, .inl (g 0, 220, .inl (fun _ => 0))) : Option (Nat × va_E))) := by
  intro sz
  refine q_into (by decide) (Nat.le_of_ble_eq_true rfl) ?_
  intro p e s m below meth c ls hsz C0 V hl
  have hx := C0.1
  have hb := C0.2.1
  have hl : lv_has ls 7 [(0, .ref qO0), (1, .long 0)] := hl
  have n_O0_A12 := Ne.symm (q_df hA12 hO0)
  have n_O0_O2 := q_dc hO0 hO2 (q_pd 6 2 rfl)
  have n_O1_A12 := Ne.symm (q_df hA12 hO1)
  have n_O1_O2 := q_dc hO1 hO2 (q_pd 4 2 rfl)
  have hF : q_un ws ws [kO2, kA12] := q_u0
  refine lv_aload_n hx hb d_7_15_0 rfl (lv_at hl 0 rfl) ?_
  refine lv_lload_n hx hb d_7_15_1 rfl (lv_at hl 1 rfl) ?_
  refine q_goi V (q_runV (As := [.long 0]) (rest := []) (d := 2) (mc := 0) (ms := 0) (ci := 6) C0 V rfl LV_Flo_52 (c_Flo_power l D g ws kO0 qO0 qO1 hO0 _) rfl rfl hO0 rfl hl.1 rfl (Nat.le_of_ble_eq_true rfl) ⟨by decide, by decide⟩ ⟨Nat.le_of_ble_eq_true rfl, Nat.le_of_ble_eq_true rfl⟩ d_7_15_2) (fun v3 u2 H locs hp1 V => ?_)
  obtain ⟨rfl, rfl⟩ := hp1
  refine lv_istore_n (lv' := [(3, .int (-1074)), (0, .ref qO0), (1, .long 0)]) hx hb d_7_15_5 rfl hl (by decide) rfl (fun ls hl => ?_)
  refine lv_aload_n hx hb d_7_15_6 rfl (lv_at hl 1 rfl) ?_
  refine q_get (ci := 6) (j := 5) (v := .ref qO1) C0 V i_Flo rfl rfl hO0 (by decide) w_241 rfl d_7_15_7 ?_
  refine q_get (ci := 4) (j := 0) (v := .ref qO2) C0 V i_Mil rfl rfl hO1 (by decide) w_113 rfl d_7_15_10 ?_
  refine lv_astore (lv' := [(4, .ref qO2), (3, .int (-1074)), (0, .ref qO0), (1, .long 0)]) hx hb d_7_15_13 hl (by decide) rfl (fun ls hl => ?_)
  refine lv_aload hx hb d_7_15_15 (lv_at hl 0 rfl) ?_
  refine lv_aload_n hx hb d_7_15_17 rfl (lv_at hl 2 rfl) ?_
  refine lv_lload_n hx hb d_7_15_18 rfl (lv_at hl 3 rfl) ?_
  refine q_gol V (q_runV (As := [.long 0]) (rest := [.ref qO2]) (d := 2) (mc := 0) (ms := 0) (ci := 6) C0 V rfl LV_Flo_61 (c_Flo_number l D g ws kO0 qO0 qO1 hO0 _) rfl rfl hO0 rfl hl.1 rfl (Nat.le_of_ble_eq_true rfl) ⟨by decide, by decide⟩ ⟨Nat.le_of_ble_eq_true rfl, Nat.le_of_ble_eq_true rfl⟩ d_7_15_19) (fun v7 u6 H locs hp5 V => ?_)
  obtain ⟨rfl, rfl⟩ := hp5
  refine q_gov V (q_runV (As := [.long 0]) (rest := []) (d := 2) (mc := 0) (ms := 0) (ci := 2) C0 V rfl LV_Flo_63 (c_Big_setLong_2 l D g ws kO2 kA12 qO2 qA12 hO2 hA12 _) rfl rfl hO2 rfl hl.1 rfl (Nat.le_of_ble_eq_true rfl) ⟨by decide, by decide⟩ ⟨Nat.le_of_ble_eq_true rfl, Nat.le_of_ble_eq_true rfl⟩ d_7_15_22) (fun u10 H locs hp9 V => ?_)
  obtain ⟨hg11, hO2, hA12⟩ := hp9
  replace hF := q_uc hF hg11 (q_sc (.head _) (q_sc (.tail _ (.head _)) (fun _ h => absurd h List.not_mem_nil)))
  refine lv_aload hx hb d_7_15_25 (lv_at hl 0 rfl) ?_
  refine q_get (ci := 2) (j := 1) (v := .int 0) C0 V i_Big rfl rfl hO2 (by decide) w_92 rfl d_7_15_27 ?_
  refine lv_if_ne (tgt := 35) hx hb d_7_15_30 (by decide) (fun c12 => absurd (by decide) c12) (fun c12 => ?_)
  refine lv_iconst (v := 0) hx hb d_7_15_33 (by decide) ?_
  exact q_reti C0 V (⟨rfl, hF, hO2, hA12⟩) d_7_15_34
theorem d_4_3_0 : decode prog_4_method_3_code 0 = .ok (.aload_n 0, 1) := by decide +kernel
theorem d_4_3_1 : decode prog_4_method_3_code 1 = .ok (.getfield 20, 3) := by decide +kernel
theorem d_4_3_4 : decode prog_4_method_3_code 4 = .ok (.getfield 55, 3) := by decide +kernel
theorem d_4_3_7 : decode prog_4_method_3_code 7 = .ok (.aload_n 1, 1) := by decide +kernel
theorem d_4_3_8 : decode prog_4_method_3_code 8 = .ok (.getfield 24, 3) := by decide +kernel
theorem d_4_3_11 : decode prog_4_method_3_code 11 = .ok (.invokevirtual 44, 3) := by decide +kernel
theorem d_4_3_14 : decode prog_4_method_3_code 14 = .ok (.aload_n 0, 1) := by decide +kernel
theorem d_4_3_15 : decode prog_4_method_3_code 15 = .ok (.aload_n 1, 1) := by decide +kernel
theorem d_4_3_16 : decode prog_4_method_3_code 16 = .ok (.getfield 48, 3) := by decide +kernel
theorem d_4_3_19 : decode prog_4_method_3_code 19 = .ok (.i2l, 1) := by decide +kernel
theorem d_4_3_20 : decode prog_4_method_3_code 20 = .ok (.putfield 56, 3) := by decide +kernel
theorem d_4_3_23 : decode prog_4_method_3_code 23 = .ok (.return_, 1) := by decide +kernel
def y_DW_take : MethodName := ⟨"NumberHouse$DecimalWork", "take", "(LNumberHouse$Dec;)V"⟩
set_option maxRecDepth 100000 in
set_option maxHeartbeats 4000000 in
theorem c_DW_take (l : Launch) (D : va_G) (g : Nat → ClassId) (ws : va_W) (kO0 kO1 kO3 kO4 kO6 kA16 kA18 qO0 qO1 qO2 qO3 qO4 qO6 qO7 qO8 qO9 qO10 qO11 qO12 qO13 qO14 qO15 qA16 qA18 : Nat) (hO0 : ws[kO0]? = (some (qO0, .inr (5, [.ref qO2, .long 0, .ref qO3, .int 0])) : Option (Nat × va_E))) (hO1 : ws[kO1]? = (some (qO1, .inr (3, [.ref qO4, .int 0, .int 1])) : Option (Nat × va_E))) (hO3 : ws[kO3]? = (some (qO3, .inr (4, [.ref qO6, .ref qO7, .ref qO8, .ref qO9, .ref qO10, .ref qO11, .ref qO12, .ref qO13, .ref qO14, .ref qO15])) : Option (Nat × va_E))) (hO4 : ws[kO4]? = (some (qO4, .inr (2, [.ref qA16, .int 0, .int 0])) : Option (Nat × va_E))) (hO6 : ws[kO6]? = (some (qO6, .inr (2, [.ref qA18, .int 0, .int 0])) : Option (Nat × va_E))) (hA16 : ws[kA16]? = (some (qA16, .inl (g 0, 108, .inl (fun _ => 0))) : Option (Nat × va_E))) (hA18 : ws[kA18]? = (some (qA18, .inl (g 0, 220, .inl (fun _ => 0))) : Option (Nat × va_E))) (n_A16_A18 : kA16 ≠ kA18) (n_O4_O6 : kO4 ≠ kO6) : q_mV l y_DW_take prog_4_method_3_code 2 3 0 0 D g [.ref qO0, .ref qO1] ws (fun u => q_un ws u [kO0, kO6, kA18] ∧ u[kO0]? = (some (qO0, .inr (5, [.ref qO2, .long 0, .ref qO3, .int 0])) : Option (Nat × va_E)) ∧ u[kO6]? = (some (qO6, .inr (2, [.ref qA18, .int 0, .int 0])) : Option (Nat × va_E)) ∧ u[kA18]? = (some (qA18, .inl (g 0, 220, .inl (fun _ => 0))) : Option (Nat × va_E))) := by
  intro sz
  refine q_into (by decide) (Nat.le_of_ble_eq_true rfl) ?_
  intro p e s m below meth c ls hsz C0 V hl
  have hx := C0.1
  have hb := C0.2.1
  have hl : lv_has ls 2 [(0, .ref qO0), (1, .ref qO1)] := hl
  have n_A16_O0 := q_df hA16 hO0
  have n_A16_O6 := q_df hA16 hO6
  have n_A18_O0 := q_df hA18 hO0
  have n_O0_A18 := Ne.symm (q_df hA18 hO0)
  have n_O0_O6 := q_dc hO0 hO6 (q_pd 5 2 rfl)
  have n_O1_A18 := Ne.symm (q_df hA18 hO1)
  have n_O1_O0 := q_dc hO1 hO0 (q_pd 3 5 rfl)
  have n_O1_O6 := q_dc hO1 hO6 (q_pd 3 2 rfl)
  have n_O3_A18 := Ne.symm (q_df hA18 hO3)
  have n_O3_O0 := q_dc hO3 hO0 (q_pd 4 5 rfl)
  have n_O3_O6 := q_dc hO3 hO6 (q_pd 4 2 rfl)
  have n_O4_A18 := Ne.symm (q_df hA18 hO4)
  have n_O4_O0 := q_dc hO4 hO0 (q_pd 2 5 rfl)
  have n_O6_O0 := q_dc hO6 hO0 (q_pd 2 5 rfl)
  have hF : q_un ws ws [kO0, kO6, kA18] := q_u0
  refine lv_aload_n hx hb d_4_3_0 rfl (lv_at hl 0 rfl) ?_
  refine q_get (ci := 5) (j := 2) (v := .ref qO3) C0 V i_DW rfl rfl hO0 (by decide) w_214 rfl d_4_3_1 ?_
  refine q_get (ci := 4) (j := 0) (v := .ref qO6) C0 V i_Mil rfl rfl hO3 (by decide) w_111 rfl d_4_3_4 ?_
  refine lv_aload_n hx hb d_4_3_7 rfl (lv_at hl 1 rfl) ?_
  refine q_get (ci := 3) (j := 0) (v := .ref qO4) C0 V i_Dec rfl rfl hO1 (by decide) w_171 rfl d_4_3_8 ?_
  refine q_gov V (q_runV (As := [.ref qO4]) (rest := []) (d := 2) (mc := 0) (ms := 0) (ci := 2) C0 V rfl LV_DW_44 (c_Big_copy l D g ws kO6 kO4 kA18 kA16 qO6 qO4 qA18 qA16 hO6 hO4 hA18 hA16 n_A16_A18 n_O4_O6 _) rfl rfl hO6 rfl hl.1 rfl (Nat.le_of_ble_eq_true rfl) ⟨by decide, by decide⟩ ⟨Nat.le_of_ble_eq_true rfl, Nat.le_of_ble_eq_true rfl⟩ d_4_3_11) (fun u2 H locs hp1 V => ?_)
  obtain ⟨hg3, hO6, hA18⟩ := hp1
  replace hF := q_uc hF hg3 (q_sc (.tail _ (.head _)) (q_sc (.tail _ (.tail _ (.head _))) (fun _ h => absurd h List.not_mem_nil)))
  refine lv_aload_n hx hb d_4_3_14 rfl (lv_at hl 0 rfl) ?_
  refine lv_aload_n hx hb d_4_3_15 rfl (lv_at hl 1 rfl) ?_
  replace hO1 := (hg3 _ (q_nc n_O1_O6 (q_nc n_O1_A18 List.not_mem_nil))).trans (hO1)
  refine q_get (ci := 3) (j := 1) (v := .int 0) C0 V i_Dec rfl rfl hO1 (by decide) w_176 rfl d_4_3_16 ?_
  refine lv_i2l hx hb d_4_3_19 rfl ?_
  refine q_tl (v := 0) (by decide) ?_
  replace hO0 := (hg3 _ (q_nc n_O0_O6 (q_nc n_O0_A18 List.not_mem_nil))).trans (hO0)
  refine q_put (ci := 5) (j := 1) (v := .long 0) (ty := .long) C0 V i_DW o_DW n_DW rfl rfl hO0 (by decide) w_212 rfl rfl rfl rfl (Nat.le_of_ble_eq_true rfl) d_4_3_20 (fun H locs w4 hu5 hO0 V => ?_)
  replace hO0 : w4[kO0]? = (some (qO0, .inr (5, [.ref qO2, .long 0, .ref qO3, .int 0])) : Option (Nat × va_E)) := hO0
  replace hF := q_us hF hu5 (.head _)
  replace hO6 := (hu5 _ n_O6_O0).trans (hO6)
  replace hA18 := (hu5 _ n_A18_O0).trans (hA18)
  exact q_retv C0 V (⟨hF, hO0, hO6, hA18⟩) d_4_3_23
theorem d_1_26_0 : decode prog_1_method_26_code 0 = .ok (.iload_n 1, 1) := by decide +kernel
theorem d_1_26_1 : decode prog_1_method_26_code 1 = .ok (.iconst 1, 1) := by decide +kernel
theorem d_1_26_2 : decode prog_1_method_26_code 2 = .ok (.if_icmp .ne 19, 3) := by decide +kernel
theorem d_1_26_21 : decode prog_1_method_26_code 21 = .ok (.iload_n 1, 1) := by decide +kernel
theorem d_1_26_22 : decode prog_1_method_26_code 22 = .ok (.ifCond .ne 30, 3) := by decide +kernel
theorem d_1_26_52 : decode prog_1_method_26_code 52 = .ok (.aload_n 0, 1) := by decide +kernel
theorem d_1_26_53 : decode prog_1_method_26_code 53 = .ok (.iload_n 1, 1) := by decide +kernel
theorem d_1_26_54 : decode prog_1_method_26_code 54 = .ok (.invokevirtual 130, 3) := by decide +kernel
theorem d_1_26_57 : decode prog_1_method_26_code 57 = .ok (.astore_n 3, 1) := by decide +kernel
theorem d_1_26_58 : decode prog_1_method_26_code 58 = .ok (.aload_n 0, 1) := by decide +kernel
theorem d_1_26_59 : decode prog_1_method_26_code 59 = .ok (.iload_n 1, 1) := by decide +kernel
theorem d_1_26_60 : decode prog_1_method_26_code 60 = .ok (.invokevirtual 157, 3) := by decide +kernel
theorem d_1_26_63 : decode prog_1_method_26_code 63 = .ok (.iload_n 2, 1) := by decide +kernel
theorem d_1_26_64 : decode prog_1_method_26_code 64 = .ok (.laload, 1) := by decide +kernel
theorem d_1_26_65 : decode prog_1_method_26_code 65 = .ok (.lstore 4, 2) := by decide +kernel
theorem d_1_26_67 : decode prog_1_method_26_code 67 = .ok (.aload_n 3, 1) := by decide +kernel
theorem d_1_26_68 : decode prog_1_method_26_code 68 = .ok (.lload 4, 2) := by decide +kernel
theorem d_1_26_70 : decode prog_1_method_26_code 70 = .ok (.invokevirtual 179, 3) := by decide +kernel
theorem d_1_26_73 : decode prog_1_method_26_code 73 = .ok (.invokestatic 138, 3) := by decide +kernel
theorem d_1_26_76 : decode prog_1_method_26_code 76 = .ok (.aload_n 0, 1) := by decide +kernel
theorem d_1_26_77 : decode prog_1_method_26_code 77 = .ok (.getfield 52, 3) := by decide +kernel
theorem d_1_26_80 : decode prog_1_method_26_code 80 = .ok (.aload_n 3, 1) := by decide +kernel
theorem d_1_26_81 : decode prog_1_method_26_code 81 = .ok (.lload 4, 2) := by decide +kernel
theorem d_1_26_83 : decode prog_1_method_26_code 83 = .ok (.invokevirtual 405, 3) := by decide +kernel
theorem w_1515 : (Cond.code ({ cls := "NumberHouse$Floats", name := "exactly", desc := "(J)I" } : MethodName) prog_7_method_15_code (7 : Nat) (some .int)) ∈ q_tbl := q_of 1515 (by decide +kernel) (by decide +kernel)
theorem w_1512 : (Cond.methodLink "NumberHouse" (405 : Nat) ({ cls := "NumberHouse$Floats", name := "exactly", desc := "(J)I" } : MethodName)) ∈ q_tbl := q_of 1512 (by decide +kernel) (by decide +kernel)
theorem w_1513 : (Cond.instanceMethod ({ cls := "NumberHouse$Floats", name := "exactly", desc := "(J)I" } : MethodName)) ∈ q_tbl := q_of 1513 (by decide +kernel) (by decide +kernel)
theorem w_1514 : (Cond.selects "NumberHouse$Floats" ({ cls := "NumberHouse$Floats", name := "exactly", desc := "(J)I" } : MethodName) ({ cls := "NumberHouse$Floats", name := "exactly", desc := "(J)I" } : MethodName)) ∈ q_tbl := q_of 1514 (by decide +kernel) (by decide +kernel)
theorem LV_NH_405 : q_LV "NumberHouse" 405 y_Flo_exactly prog_7_method_15_code 7 (some .int) 1 := ⟨w_1515, w_8, w_1512, w_1513, w_1514, ⟨by decide, by decide, by decide +kernel⟩⟩
theorem d_1_26_86 : decode prog_1_method_26_code 86 = .ok (.i2l, 1) := by decide +kernel
theorem d_1_26_87 : decode prog_1_method_26_code 87 = .ok (.putfield 292, 3) := by decide +kernel
theorem d_1_26_90 : decode prog_1_method_26_code 90 = .ok (.return_, 1) := by decide +kernel
theorem d_1_26_25 : decode prog_1_method_26_code 25 = .ok (.aload_n 0, 1) := by decide +kernel
theorem d_1_26_26 : decode prog_1_method_26_code 26 = .ok (.getfield 43, 3) := by decide +kernel
theorem d_1_26_29 : decode prog_1_method_26_code 29 = .ok (.getfield 141, 3) := by decide +kernel
theorem d_1_26_32 : decode prog_1_method_26_code 32 = .ok (.aload_n 0, 1) := by decide +kernel
theorem d_1_26_33 : decode prog_1_method_26_code 33 = .ok (.getfield 23, 3) := by decide +kernel
theorem d_1_26_36 : decode prog_1_method_26_code 36 = .ok (.iload_n 2, 1) := by decide +kernel
theorem d_1_26_37 : decode prog_1_method_26_code 37 = .ok (.aaload, 1) := by decide +kernel
theorem d_1_26_38 : decode prog_1_method_26_code 38 = .ok (.invokevirtual 145, 3) := by decide +kernel
theorem d_1_26_41 : decode prog_1_method_26_code 41 = .ok (.aload_n 0, 1) := by decide +kernel
theorem d_1_26_42 : decode prog_1_method_26_code 42 = .ok (.getfield 52, 3) := by decide +kernel
theorem d_1_26_45 : decode prog_1_method_26_code 45 = .ok (.lconst 0, 1) := by decide +kernel
theorem d_1_26_46 : decode prog_1_method_26_code 46 = .ok (.putfield 292, 3) := by decide +kernel
theorem d_1_26_49 : decode prog_1_method_26_code 49 = .ok (.goto 41, 3) := by decide +kernel
theorem d_1_26_5 : decode prog_1_method_26_code 5 = .ok (.aload_n 0, 1) := by decide +kernel
theorem d_1_26_6 : decode prog_1_method_26_code 6 = .ok (.getfield 52, 3) := by decide +kernel
theorem d_1_26_9 : decode prog_1_method_26_code 9 = .ok (.aload_n 0, 1) := by decide +kernel
theorem d_1_26_10 : decode prog_1_method_26_code 10 = .ok (.getfield 29, 3) := by decide +kernel
theorem d_1_26_13 : decode prog_1_method_26_code 13 = .ok (.iload_n 2, 1) := by decide +kernel
theorem d_1_26_14 : decode prog_1_method_26_code 14 = .ok (.aaload, 1) := by decide +kernel
theorem d_1_26_15 : decode prog_1_method_26_code 15 = .ok (.invokevirtual 288, 3) := by decide +kernel
theorem w_1410 : (Cond.code ({ cls := "NumberHouse$DecimalWork", name := "take", desc := "(LNumberHouse$Dec;)V" } : MethodName) prog_4_method_3_code (2 : Nat) (none : Option ClassFile.FieldType)) ∈ q_tbl := q_of 1410 (by decide +kernel) (by decide +kernel)
theorem w_1407 : (Cond.methodLink "NumberHouse" (288 : Nat) ({ cls := "NumberHouse$DecimalWork", name := "take", desc := "(LNumberHouse$Dec;)V" } : MethodName)) ∈ q_tbl := q_of 1407 (by decide +kernel) (by decide +kernel)
theorem w_1408 : (Cond.instanceMethod ({ cls := "NumberHouse$DecimalWork", name := "take", desc := "(LNumberHouse$Dec;)V" } : MethodName)) ∈ q_tbl := q_of 1408 (by decide +kernel) (by decide +kernel)
theorem w_1409 : (Cond.selects "NumberHouse$DecimalWork" ({ cls := "NumberHouse$DecimalWork", name := "take", desc := "(LNumberHouse$Dec;)V" } : MethodName) ({ cls := "NumberHouse$DecimalWork", name := "take", desc := "(LNumberHouse$Dec;)V" } : MethodName)) ∈ q_tbl := q_of 1409 (by decide +kernel) (by decide +kernel)
theorem LV_NH_288 : q_LV "NumberHouse" 288 y_DW_take prog_4_method_3_code 2 none 1 := ⟨w_1410, w_5, w_1407, w_1408, w_1409, ⟨by decide, by decide, by decide +kernel⟩⟩
theorem d_1_26_18 : decode prog_1_method_26_code 18 = .ok (.goto 72, 3) := by decide +kernel
def y_NH_makeDecimal : MethodName := ⟨"NumberHouse", "makeDecimal", "(II)V"⟩
set_option maxRecDepth 100000 in
set_option maxHeartbeats 4000000 in
theorem c_NH_makeDecimal (l : Launch) (D : va_G) (g : Nat → ClassId) (ws : va_W) (hlt : l.stackTraces = false) ( qO0 qO1 qO2 qA3 qA4 qA5 qA6 qO7 qO8 qO9 qO10 qO11 qO12 qO13 qO14 qO17 qO18 qO19 qO20 qO21 qO22 qO23 qO24 qO25 qO26 qO27 qA35 : Nat) (x1 : Int32) (x2 : Int32) (f3 : Nat → Option Nat) (f4 : Nat → Option Nat) (hO0 : ws[0]? = (some (qO0, .inr (0, [.ref qO1, .ref qO2, .ref qA3, .ref qA4, .ref qA5, .ref qA6, .ref qO7, .ref qO8, .ref qO9, .ref qO10, .ref qO11, .ref qO12, .ref qO13, .ref qO14])) : Option (Nat × va_E))) (hA3 : ws[5]? = (some (qA3, .inl (g 4, 10, .inr (.inr (.inr (.inr f3))))) : Option (Nat × va_E))) (hA4 : ws[6]? = (some (qA4, .inl (g 5, 10, .inr (.inr (.inr (.inr f4))))) : Option (Nat × va_E))) (hA5 : ws[7]? = (some (qA5, .inl (g 1, 10, .inr (.inl (fun _ => 0)))) : Option (Nat × va_E))) (hA6 : ws[8]? = (some (qA6, .inl (g 1, 10, .inr (.inl (fun _ => 0)))) : Option (Nat × va_E))) (hO7 : ws[9]? = (some (qO7, .inr (4, [.ref qO17, .ref qO18, .ref qO19, .ref qO20, .ref qO21, .ref qO22, .ref qO23, .ref qO24, .ref qO25, .ref qO26])) : Option (Nat × va_E))) (hO8 : ws[30]? = (some (qO8, .inr (5, [.ref qO27, .long 0, .ref qO7, .int 0])) : Option (Nat × va_E))) (hO9 : ws[34]? = (some (qO9, .inr (6, [.int 52, .int 1075, .int 2047, .long 0, .int 0, .ref qO7, .int 0])) : Option (Nat × va_E))) (hO10 : ws[35]? = (some (qO10, .inr (6, [.int 23, .int 150, .int 255, .long 0, .int 0, .ref qO7, .int 0])) : Option (Nat × va_E))) (hO17 : ws[10]? = (some (qO17, .inr (2, [.ref qA35, .int 0, .int 0])) : Option (Nat × va_E))) (hA35 : ws[11]? = (some (qA35, .inl (g 0, 220, .inl (fun _ => 0))) : Option (Nat × va_E))) (x1lo : 0 ≤ x1) (x1hi : x1 ≤ 3) (x2lo : 0 ≤ x2) (x2hi : x2 ≤ 9) (qW qWL qD qDN qDL : Nat → Nat) (hfW : ∀ i, i < 10 → f3 i = some (qW i)) (FW : ∀ i, i < 10 → ws[66 + 5 * i]? = (some (qW i, .inr (2, [.ref (qWL i), .int 0, .int 0])) : Option (Nat × va_E))) (FWL : ∀ i, i < 10 → ws[67 + 5 * i]? = (some (qWL i, .inl (g 0, 68, .inl (fun _ => 0))) : Option (Nat × va_E))) (hfD : ∀ i, i < 10 → f4 i = some (qD i)) (FD : ∀ i, i < 10 → ws[68 + 5 * i]? = (some (qD i, .inr (3, [.ref (qDN i), .int 0, .int 1])) : Option (Nat × va_E))) (FDN : ∀ i, i < 10 → ws[69 + 5 * i]? = (some (qDN i, .inr (2, [.ref (qDL i), .int 0, .int 0])) : Option (Nat × va_E))) (FDL : ∀ i, i < 10 → ws[70 + 5 * i]? = (some (qDL i, .inl (g 0, 108, .inl (fun _ => 0))) : Option (Nat × va_E))) : q_mV l y_NH_makeDecimal prog_1_method_26_code 6 8 1 6 D g [.ref qO0, .int x1, .int x2] ws (fun u => q_un ws u [30, 10, 11] ∧ u[30]? = (some (qO8, .inr (5, [.ref qO27, .long 0, .ref qO7, .int 0])) : Option (Nat × va_E)) ∧ u[10]? = (some (qO17, .inr (2, [.ref qA35, .int 0, .int 0])) : Option (Nat × va_E)) ∧ u[11]? = (some (qA35, .inl (g 0, 220, .inl (fun _ => 0))) : Option (Nat × va_E))) := by
  intro sz
  refine q_into (by decide) (Nat.le_of_ble_eq_true rfl) ?_
  intro p e s m below meth c ls hsz C0 V hl
  have hx := C0.1
  have hb := C0.2.1
  have hl : lv_has ls 6 [(0, .ref qO0), (1, .int x1), (2, .int x2)] := hl
  have hF : q_un ws ws [30, 10, 11] := q_u0
  refine lv_iload_n hx hb d_1_26_0 rfl (lv_at hl 1 rfl) ?_
  refine lv_iconst (v := 1) hx hb d_1_26_1 (by decide) ?_
  refine lv_icmp_ne (tgt := 21) hx hb d_1_26_2 (by decide) (fun c1 => ?_) (fun c1 => ?_)
  ·
    refine lv_iload_n hx hb d_1_26_21 rfl (lv_at hl 1 rfl) ?_
    refine lv_if_ne (tgt := 52) hx hb d_1_26_22 (by decide) (fun c2 => ?_) (fun c2 => ?_)
    ·
      refine lv_aload_n hx hb d_1_26_52 rfl (lv_at hl 0 rfl) ?_
      refine lv_iload_n hx hb d_1_26_53 rfl (lv_at hl 1 rfl) ?_
      refine q_gor (post := fun r u => (¬ x1 = 2 ∧ qO10 = r ∧ ws = u) ∨ (x1 = 2 ∧ qO9 = r ∧ ws = u)) V (q_runV (As := [.int x1]) (rest := []) (d := 1) (mc := 0) (ms := 0) (ci := 0) C0 V rfl LV_NH_130 (c_NH_floatsOf l D g ws qO0 qO1 qO2 qA3 qA4 qA5 qA6 qO7 qO8 qO9 qO10 qO11 qO12 qO13 qO14 x1 hO0 (q_Ile (x := 2) (y := x1.toInt) (by decide) rfl (by have t1 : 0 ≤ x1.toInt := q_leI x1lo; have t2 : x1.toInt ≤ 3 := q_leI x1hi; have t3 : x1.toInt ≠ 1 := q_neI c1; have t4 : x1.toInt ≠ 0 := q_neI c2; omega)) x1hi _) rfl rfl hO0 rfl hl.1 rfl (Nat.le_of_ble_eq_true rfl) ⟨by decide, by decide⟩ ⟨Nat.le_of_ble_eq_true rfl, Nat.le_of_ble_eq_true rfl⟩ d_1_26_54) (fun v5 u4 H locs hp3 V => ?_)
      rcases hp3 with ⟨c6, rfl, rfl⟩ | ⟨c8, rfl, rfl⟩
      ·
        refine lv_astore_n (lv' := [(3, .ref qO10), (0, .ref qO0), (1, .int x1), (2, .int x2)]) hx hb d_1_26_57 rfl hl (by decide) rfl (fun ls hl => ?_)
        refine lv_aload_n hx hb d_1_26_58 rfl (lv_at hl 1 rfl) ?_
        refine lv_iload_n hx hb d_1_26_59 rfl (lv_at hl 2 rfl) ?_
        refine q_ti (v := 3) (q_Ieq (x := x1.toInt) (y := 3) rfl (by decide) (by have t1 : 0 ≤ x1.toInt := q_leI x1lo; have t2 : x1.toInt ≤ 3 := q_leI x1hi; have t3 : x1.toInt ≠ 1 := q_neI c1; have t4 : x1.toInt ≠ 0 := q_neI c2; have t5 : x1.toInt ≠ 2 := q_neI c6; omega)) ?_
        refine q_gor (post := fun r u => qA6 = r ∧ ws = u) V (q_runV (As := [.int 3]) (rest := []) (d := 1) (mc := 0) (ms := 0) (ci := 0) C0 V rfl LV_NH_157 (c_NH_floatRow l D g ws qO0 qO1 qO2 qA3 qA4 qA5 qA6 qO7 qO8 qO9 qO10 qO11 qO12 qO13 qO14 hO0 _) rfl rfl hO0 rfl hl.1 rfl (Nat.le_of_ble_eq_true rfl) ⟨by decide, by decide⟩ ⟨Nat.le_of_ble_eq_true rfl, Nat.le_of_ble_eq_true rfl⟩ d_1_26_60) (fun v12 u11 H locs hp10 V => ?_)
        obtain ⟨rfl, rfl⟩ := hp10
        refine lv_iload_n hx hb d_1_26_63 rfl (lv_at hl 3 rfl) ?_
        refine q_lald C0 V hA6 (q_ix (x := x2.toInt) rfl (by have t1 : 0 ≤ x2.toInt := q_leI x2lo; have t2 : x2.toInt ≤ 9 := q_leI x2hi; omega) (by have t1 : 0 ≤ x2.toInt := q_leI x2lo; have t2 : x2.toInt ≤ 9 := q_leI x2hi; omega)) d_1_26_64 ?_
        refine q_tl (v := 0) (by first | rfl | decide | simp [upd, vp_updL, sb_cl0]) ?_
        refine lv_lstore (lv' := [(4, .long 0), (3, .ref qO10), (0, .ref qO0), (1, .int x1), (2, .int x2)]) hx hb d_1_26_65 hl (by decide) rfl (fun ls hl => ?_)
        refine lv_aload_n hx hb d_1_26_67 rfl (lv_at hl 1 rfl) ?_
        refine lv_lload hx hb d_1_26_68 (lv_at hl 0 rfl) ?_
        refine q_goi V (q_runV (As := [.long 0]) (rest := []) (d := 2) (mc := 0) (ms := 0) (ci := 6) C0 V rfl LV_NH_179 (c_Flo_isFinite l D g ws 35 qO10 qO7 hO10 _) rfl rfl hO10 rfl hl.1 rfl (Nat.le_of_ble_eq_true rfl) ⟨by decide, by decide⟩ ⟨Nat.le_of_ble_eq_true rfl, Nat.le_of_ble_eq_true rfl⟩ d_1_26_70) (fun v16 u15 H locs hp14 V => ?_)
        obtain ⟨rfl, rfl⟩ := hp14
        refine q_goxv V (q_runSX (As := [.int 1]) (rest := []) (d := 7) (mc := 1) (ms := 6) C0 V rfl LS_NH_138 (c_NH_canHave l D g ws hlt 1 _) rfl hl.1 rfl (Nat.le_of_ble_eq_true rfl) ⟨by decide, by decide⟩ ⟨Nat.le_of_ble_eq_true rfl, Nat.le_of_ble_eq_true rfl⟩ d_1_26_73) (fun qx Ex ce u19 H locs hp18 V hce hcv hcl => ?_) (fun u19 H locs hp18 V => ?_)
        ·
          obtain ⟨c20, rfl, rfl⟩ := hp18
          exact absurd c20 (by decide)
        ·
          obtain ⟨c22, rfl⟩ := hp18
          refine lv_aload_n hx hb d_1_26_76 rfl (lv_at hl 2 rfl) ?_
          refine q_get (ci := 0) (j := 7) (v := .ref qO8) C0 V i_NH rfl rfl hO0 (by decide) w_431 rfl d_1_26_77 ?_
          refine lv_aload_n hx hb d_1_26_80 rfl (lv_at hl 1 rfl) ?_
          refine lv_lload hx hb d_1_26_81 (lv_at hl 0 rfl) ?_
          refine q_goi V (q_runV (As := [.long 0]) (rest := [.ref qO8]) (d := 3) (mc := 0) (ms := 0) (ci := 6) C0 V rfl LV_NH_405 (c_Flo_exactly l D g ws 35 9 10 11 qO10 qO7 qO17 qO18 qO19 qO20 qO21 qO22 qO23 qO24 qO25 qO26 qA35 hO10 hO7 hO17 hA35 _) rfl rfl hO10 rfl hl.1 rfl (Nat.le_of_ble_eq_true rfl) ⟨by decide, by decide⟩ ⟨Nat.le_of_ble_eq_true rfl, Nat.le_of_ble_eq_true rfl⟩ d_1_26_83) (fun v26 u25 H locs hp24 V => ?_)
          obtain ⟨rfl, hg27, hO17, hA35⟩ := hp24
          replace hF := q_uc hF hg27 (q_sc (.tail _ (.head _)) (q_sc (.tail _ (.tail _ (.head _))) (fun _ h => absurd h List.not_mem_nil)))
          refine lv_i2l hx hb d_1_26_86 rfl ?_
          refine q_tl (v := 0) (by decide) ?_
          replace hO8 := (hg27 _ (q_nc (q_pd 30 10 rfl) (q_nc (q_pd 30 11 rfl) List.not_mem_nil))).trans (hO8)
          refine q_put (ci := 5) (j := 1) (v := .long 0) (ty := .long) C0 V i_DW o_DW n_DW rfl rfl hO8 (by decide) w_213 rfl rfl rfl rfl (Nat.le_of_ble_eq_true rfl) d_1_26_87 (fun H locs w28 hu29 hO8 V => ?_)
          replace hO8 : w28[30]? = (some (qO8, .inr (5, [.ref qO27, .long 0, .ref qO7, .int 0])) : Option (Nat × va_E)) := hO8
          replace hF := q_us hF hu29 (.head _)
          replace hO17 := (hu29 _ (q_pd 10 30 rfl)).trans (hO17)
          replace hA35 := (hu29 _ (q_pd 11 30 rfl)).trans (hA35)
          exact q_retv C0 V (⟨hF, hO8, hO17, hA35⟩) d_1_26_90
      ·
        refine lv_astore_n (lv' := [(3, .ref qO9), (0, .ref qO0), (1, .int x1), (2, .int x2)]) hx hb d_1_26_57 rfl hl (by decide) rfl (fun ls hl => ?_)
        refine lv_aload_n hx hb d_1_26_58 rfl (lv_at hl 1 rfl) ?_
        refine lv_iload_n hx hb d_1_26_59 rfl (lv_at hl 2 rfl) ?_
        refine q_ti (v := 2) c8 ?_
        refine q_gor (post := fun r u => qA5 = r ∧ ws = u) V (q_runV (As := [.int 2]) (rest := []) (d := 1) (mc := 0) (ms := 0) (ci := 0) C0 V rfl LV_NH_157 (c_NH_floatRow_2 l D g ws qO0 qO1 qO2 qA3 qA4 qA5 qA6 qO7 qO8 qO9 qO10 qO11 qO12 qO13 qO14 hO0 _) rfl rfl hO0 rfl hl.1 rfl (Nat.le_of_ble_eq_true rfl) ⟨by decide, by decide⟩ ⟨Nat.le_of_ble_eq_true rfl, Nat.le_of_ble_eq_true rfl⟩ d_1_26_60) (fun v32 u31 H locs hp30 V => ?_)
        obtain ⟨rfl, rfl⟩ := hp30
        refine lv_iload_n hx hb d_1_26_63 rfl (lv_at hl 3 rfl) ?_
        refine q_lald C0 V hA5 (q_ix (x := x2.toInt) rfl (by have t1 : 0 ≤ x2.toInt := q_leI x2lo; have t2 : x2.toInt ≤ 9 := q_leI x2hi; omega) (by have t1 : 0 ≤ x2.toInt := q_leI x2lo; have t2 : x2.toInt ≤ 9 := q_leI x2hi; omega)) d_1_26_64 ?_
        refine q_tl (v := 0) (by first | rfl | decide | simp [upd, vp_updL, sb_cl0]) ?_
        refine lv_lstore (lv' := [(4, .long 0), (3, .ref qO9), (0, .ref qO0), (1, .int x1), (2, .int x2)]) hx hb d_1_26_65 hl (by decide) rfl (fun ls hl => ?_)
        refine lv_aload_n hx hb d_1_26_67 rfl (lv_at hl 1 rfl) ?_
        refine lv_lload hx hb d_1_26_68 (lv_at hl 0 rfl) ?_
        refine q_goi V (q_runV (As := [.long 0]) (rest := []) (d := 2) (mc := 0) (ms := 0) (ci := 6) C0 V rfl LV_NH_179 (c_Flo_isFinite_2 l D g ws 34 qO9 qO7 hO9 _) rfl rfl hO9 rfl hl.1 rfl (Nat.le_of_ble_eq_true rfl) ⟨by decide, by decide⟩ ⟨Nat.le_of_ble_eq_true rfl, Nat.le_of_ble_eq_true rfl⟩ d_1_26_70) (fun v36 u35 H locs hp34 V => ?_)
        obtain ⟨rfl, rfl⟩ := hp34
        refine q_goxv V (q_runSX (As := [.int 1]) (rest := []) (d := 7) (mc := 1) (ms := 6) C0 V rfl LS_NH_138 (c_NH_canHave l D g ws hlt 1 _) rfl hl.1 rfl (Nat.le_of_ble_eq_true rfl) ⟨by decide, by decide⟩ ⟨Nat.le_of_ble_eq_true rfl, Nat.le_of_ble_eq_true rfl⟩ d_1_26_73) (fun qx Ex ce u39 H locs hp38 V hce hcv hcl => ?_) (fun u39 H locs hp38 V => ?_)
        ·
          obtain ⟨c40, rfl, rfl⟩ := hp38
          exact absurd c40 (by decide)
        ·
          obtain ⟨c42, rfl⟩ := hp38
          refine lv_aload_n hx hb d_1_26_76 rfl (lv_at hl 2 rfl) ?_
          refine q_get (ci := 0) (j := 7) (v := .ref qO8) C0 V i_NH rfl rfl hO0 (by decide) w_431 rfl d_1_26_77 ?_
          refine lv_aload_n hx hb d_1_26_80 rfl (lv_at hl 1 rfl) ?_
          refine lv_lload hx hb d_1_26_81 (lv_at hl 0 rfl) ?_
          refine q_goi V (q_runV (As := [.long 0]) (rest := [.ref qO8]) (d := 3) (mc := 0) (ms := 0) (ci := 6) C0 V rfl LV_NH_405 (c_Flo_exactly_2 l D g ws 34 9 10 11 qO9 qO7 qO17 qO18 qO19 qO20 qO21 qO22 qO23 qO24 qO25 qO26 qA35 hO9 hO7 hO17 hA35 _) rfl rfl hO9 rfl hl.1 rfl (Nat.le_of_ble_eq_true rfl) ⟨by decide, by decide⟩ ⟨Nat.le_of_ble_eq_true rfl, Nat.le_of_ble_eq_true rfl⟩ d_1_26_83) (fun v46 u45 H locs hp44 V => ?_)
          obtain ⟨rfl, hg47, hO17, hA35⟩ := hp44
          replace hF := q_uc hF hg47 (q_sc (.tail _ (.head _)) (q_sc (.tail _ (.tail _ (.head _))) (fun _ h => absurd h List.not_mem_nil)))
          refine lv_i2l hx hb d_1_26_86 rfl ?_
          refine q_tl (v := 0) (by decide) ?_
          replace hO8 := (hg47 _ (q_nc (q_pd 30 10 rfl) (q_nc (q_pd 30 11 rfl) List.not_mem_nil))).trans (hO8)
          refine q_put (ci := 5) (j := 1) (v := .long 0) (ty := .long) C0 V i_DW o_DW n_DW rfl rfl hO8 (by decide) w_213 rfl rfl rfl rfl (Nat.le_of_ble_eq_true rfl) d_1_26_87 (fun H locs w48 hu49 hO8 V => ?_)
          replace hO8 : w48[30]? = (some (qO8, .inr (5, [.ref qO27, .long 0, .ref qO7, .int 0])) : Option (Nat × va_E)) := hO8
          replace hF := q_us hF hu49 (.head _)
          replace hO17 := (hu49 _ (q_pd 10 30 rfl)).trans (hO17)
          replace hA35 := (hu49 _ (q_pd 11 30 rfl)).trans (hA35)
          exact q_retv C0 V (⟨hF, hO8, hO17, hA35⟩) d_1_26_90
    ·
      refine lv_aload_n hx hb d_1_26_25 rfl (lv_at hl 0 rfl) ?_
      refine q_get (ci := 0) (j := 6) (v := .ref qO7) C0 V i_NH rfl rfl hO0 (by decide) w_430 rfl d_1_26_26 ?_
      refine q_get (ci := 4) (j := 0) (v := .ref qO17) C0 V i_Mil rfl rfl hO7 (by decide) w_112 rfl d_1_26_29 ?_
      refine lv_aload_n hx hb d_1_26_32 rfl (lv_at hl 0 rfl) ?_
      refine q_get (ci := 0) (j := 2) (v := .ref qA3) C0 V i_NH rfl rfl hO0 (by decide) w_426 rfl d_1_26_33 ?_
      refine lv_iload_n hx hb d_1_26_36 rfl (lv_at hl 2 rfl) ?_
      have r50 : x2.toNatClampNeg < 10 := (q_r10 (x := x2.toInt) rfl (by have t1 : 0 ≤ x2.toInt := q_leI x2lo; have t2 : x2.toInt ≤ 9 := q_leI x2hi; omega) (by have t1 : 0 ≤ x2.toInt := q_leI x2lo; have t2 : x2.toInt ≤ 9 := q_leI x2hi; omega))
      have hr51 : ws[66 + 5 * x2.toNatClampNeg]? = (some (qW x2.toNatClampNeg, .inr (2, [.ref (qWL x2.toNatClampNeg), .int 0, .int 0])) : Option (Nat × va_E)) := FW _ r50
      have hr52 : ws[67 + 5 * x2.toNatClampNeg]? = (some (qWL x2.toNatClampNeg, .inl (g 0, 68, .inl (fun _ => 0))) : Option (Nat × va_E)) := FWL _ r50
      have hh : x2.toNatClampNeg < 10 := (q_r10 (x := x2.toInt) rfl (by have t1 : 0 ≤ x2.toInt := q_leI x2lo; have t2 : x2.toInt ≤ 9 := q_leI x2hi; omega) (by have t1 : 0 ≤ x2.toInt := q_leI x2lo; have t2 : x2.toInt ≤ 9 := q_leI x2hi; omega))
      refine q_aald (t := 4) (q := qW x2.toNatClampNeg) C0 V hA3 rfl (q_ix (x := x2.toInt) rfl (by have t1 : 0 ≤ x2.toInt := q_leI x2lo; have t2 : x2.toInt ≤ 9 := q_leI x2hi; omega) (by have t1 : 0 ≤ x2.toInt := q_leI x2lo; have t2 : x2.toInt ≤ 9 := q_leI x2hi; omega)) (hfW _ hh) d_1_26_37 ?_
      refine q_gov V (q_runV (As := [.ref (qW x2.toNatClampNeg)]) (rest := []) (d := 2) (mc := 0) (ms := 0) (ci := 2) C0 V rfl LV_NH_145 (c_Big_copy_3 l D g ws 10 (66 + 5 * x2.toNatClampNeg) 11 (67 + 5 * x2.toNatClampNeg) qO17 (qW x2.toNatClampNeg) qA35 (qWL x2.toNatClampNeg) hO17 hr51 hA35 hr52 (q_f5 rfl) (q_f5 rfl) _) rfl rfl hO17 rfl hl.1 rfl (Nat.le_of_ble_eq_true rfl) ⟨by decide, by decide⟩ ⟨Nat.le_of_ble_eq_true rfl, Nat.le_of_ble_eq_true rfl⟩ d_1_26_38) (fun u54 H locs hp53 V => ?_)
      obtain ⟨hg55, hO17, hA35⟩ := hp53
      replace hF := q_uc hF hg55 (q_sc (.tail _ (.head _)) (q_sc (.tail _ (.tail _ (.head _))) (fun _ h => absurd h List.not_mem_nil)))
      refine lv_aload_n hx hb d_1_26_41 rfl (lv_at hl 0 rfl) ?_
      replace hO0 := (hg55 _ (q_nc (q_pd 0 10 rfl) (q_nc (q_pd 0 11 rfl) List.not_mem_nil))).trans (hO0)
      refine q_get (ci := 0) (j := 7) (v := .ref qO8) C0 V i_NH rfl rfl hO0 (by decide) w_431 rfl d_1_26_42 ?_
      refine lv_lconst (v := 0) hx hb d_1_26_45 (by decide) ?_
      replace hO8 := (hg55 _ (q_nc (q_pd 30 10 rfl) (q_nc (q_pd 30 11 rfl) List.not_mem_nil))).trans (hO8)
      refine q_put (ci := 5) (j := 1) (v := .long 0) (ty := .long) C0 V i_DW o_DW n_DW rfl rfl hO8 (by decide) w_213 rfl rfl rfl rfl (Nat.le_of_ble_eq_true rfl) d_1_26_46 (fun H locs w56 hu57 hO8 V => ?_)
      replace hO8 : w56[30]? = (some (qO8, .inr (5, [.ref qO27, .long 0, .ref qO7, .int 0])) : Option (Nat × va_E)) := hO8
      replace hF := q_us hF hu57 (.head _)
      refine lv_goto (tgt := 90) hx hb d_1_26_49 (by decide) ?_
      replace hO17 := (hu57 _ (q_pd 10 30 rfl)).trans (hO17)
      replace hA35 := (hu57 _ (q_pd 11 30 rfl)).trans (hA35)
      refine W.widen (k := 1) (n := 6) (Nat.le_of_ble_eq_true rfl) (Nat.le_of_ble_eq_true rfl) ?_
      exact q_retv C0 V (⟨hF, hO8, hO17, hA35⟩) d_1_26_90
  ·
    refine lv_aload_n hx hb d_1_26_5 rfl (lv_at hl 0 rfl) ?_
    refine q_get (ci := 0) (j := 7) (v := .ref qO8) C0 V i_NH rfl rfl hO0 (by decide) w_431 rfl d_1_26_6 ?_
    refine lv_aload_n hx hb d_1_26_9 rfl (lv_at hl 0 rfl) ?_
    refine q_get (ci := 0) (j := 3) (v := .ref qA4) C0 V i_NH rfl rfl hO0 (by decide) w_427 rfl d_1_26_10 ?_
    refine lv_iload_n hx hb d_1_26_13 rfl (lv_at hl 2 rfl) ?_
    have r58 : x2.toNatClampNeg < 10 := (q_r10 (x := x2.toInt) rfl (by have t1 : 0 ≤ x2.toInt := q_leI x2lo; have t2 : x2.toInt ≤ 9 := q_leI x2hi; omega) (by have t1 : 0 ≤ x2.toInt := q_leI x2lo; have t2 : x2.toInt ≤ 9 := q_leI x2hi; omega))
    have hr59 : ws[68 + 5 * x2.toNatClampNeg]? = (some (qD x2.toNatClampNeg, .inr (3, [.ref (qDN x2.toNatClampNeg), .int 0, .int 1])) : Option (Nat × va_E)) := FD _ r58
    have hr60 : ws[69 + 5 * x2.toNatClampNeg]? = (some (qDN x2.toNatClampNeg, .inr (2, [.ref (qDL x2.toNatClampNeg), .int 0, .int 0])) : Option (Nat × va_E)) := FDN _ r58
    have hr61 : ws[70 + 5 * x2.toNatClampNeg]? = (some (qDL x2.toNatClampNeg, .inl (g 0, 108, .inl (fun _ => 0))) : Option (Nat × va_E)) := FDL _ r58
    have hh : x2.toNatClampNeg < 10 := (q_r10 (x := x2.toInt) rfl (by have t1 : 0 ≤ x2.toInt := q_leI x2lo; have t2 : x2.toInt ≤ 9 := q_leI x2hi; omega) (by have t1 : 0 ≤ x2.toInt := q_leI x2lo; have t2 : x2.toInt ≤ 9 := q_leI x2hi; omega))
    refine q_aald (t := 5) (q := qD x2.toNatClampNeg) C0 V hA4 rfl (q_ix (x := x2.toInt) rfl (by have t1 : 0 ≤ x2.toInt := q_leI x2lo; have t2 : x2.toInt ≤ 9 := q_leI x2hi; omega) (by have t1 : 0 ≤ x2.toInt := q_leI x2lo; have t2 : x2.toInt ≤ 9 := q_leI x2hi; omega)) (hfD _ hh) d_1_26_14 ?_
    refine q_gov V (q_runV (As := [.ref (qD x2.toNatClampNeg)]) (rest := []) (d := 3) (mc := 0) (ms := 0) (ci := 5) C0 V rfl LV_NH_288 (c_DW_take l D g ws 30 (68 + 5 * x2.toNatClampNeg) 9 (69 + 5 * x2.toNatClampNeg) 10 (70 + 5 * x2.toNatClampNeg) 11 qO8 (qD x2.toNatClampNeg) qO27 qO7 (qDN x2.toNatClampNeg) qO17 qO18 qO19 qO20 qO21 qO22 qO23 qO24 qO25 qO26 (qDL x2.toNatClampNeg) qA35 hO8 hr59 hO7 hr60 hO17 hr61 hA35 (q_f5 rfl) (q_f5 rfl) _) rfl rfl hO8 rfl hl.1 rfl (Nat.le_of_ble_eq_true rfl) ⟨by decide, by decide⟩ ⟨Nat.le_of_ble_eq_true rfl, Nat.le_of_ble_eq_true rfl⟩ d_1_26_15) (fun u63 H locs hp62 V => ?_)
    obtain ⟨hg64, hO8, hO17, hA35⟩ := hp62
    replace hF := q_uc hF hg64 (q_sc (.head _) (q_sc (.tail _ (.head _)) (q_sc (.tail _ (.tail _ (.head _))) (fun _ h => absurd h List.not_mem_nil))))
    refine lv_goto (tgt := 90) hx hb d_1_26_18 (by decide) ?_
    refine W.widen (k := 1) (n := 6) (Nat.le_of_ble_eq_true rfl) (Nat.le_of_ble_eq_true rfl) ?_
    exact q_retv C0 V (⟨hF, hO8, hO17, hA35⟩) d_1_26_90
theorem d_2_32_0 : decode prog_2_method_32_code 0 = .ok (.iload_n 1, 1) := by decide +kernel
theorem d_2_32_1 : decode prog_2_method_32_code 1 = .ok (.bipush 31, 2) := by decide +kernel
theorem d_2_32_3 : decode prog_2_method_32_code 3 = .ok (.idiv, 1) := by decide +kernel
theorem d_2_32_4 : decode prog_2_method_32_code 4 = .ok (.istore_n 2, 1) := by decide +kernel
theorem d_2_32_5 : decode prog_2_method_32_code 5 = .ok (.iload_n 1, 1) := by decide +kernel
theorem d_2_32_6 : decode prog_2_method_32_code 6 = .ok (.bipush 31, 2) := by decide +kernel
theorem d_2_32_8 : decode prog_2_method_32_code 8 = .ok (.irem, 1) := by decide +kernel
theorem d_2_32_9 : decode prog_2_method_32_code 9 = .ok (.istore_n 3, 1) := by decide +kernel
theorem d_2_32_10 : decode prog_2_method_32_code 10 = .ok (.iload_n 1, 1) := by decide +kernel
theorem d_2_32_11 : decode prog_2_method_32_code 11 = .ok (.ifCond .le 19, 3) := by decide +kernel
theorem d_2_32_30 : decode prog_2_method_32_code 30 = .ok (.return_, 1) := by decide +kernel
def y_Big_shiftLeft : MethodName := ⟨"NumberHouse$Big", "shiftLeft", "(I)V"⟩
set_option maxRecDepth 100000 in
set_option maxHeartbeats 4000000 in
theorem c_Big_shiftLeft (l : Launch) (D : va_G) (g : Nat → ClassId) (ws : va_W) ( qO0 : Nat) : q_mV l y_Big_shiftLeft prog_2_method_32_code 6 1 0 0 D g [.ref qO0, .int (-149)] ws (fun u => ws = u) := by
  intro sz
  refine q_into (by decide) (Nat.le_of_ble_eq_true rfl) ?_
  intro p e s m below meth c ls hsz C0 V hl
  have hx := C0.1
  have hb := C0.2.1
  have hl : lv_has ls 6 [(0, .ref qO0), (1, .int (-149))] := hl
  refine lv_iload_n hx hb d_2_32_0 rfl (lv_at hl 1 rfl) ?_
  refine lv_bipush (v := 31) hx hb d_2_32_1 (by decide) ?_
  refine lv_idiv hx hb d_2_32_3 (by decide) ?_
  refine q_ti (v := (-4)) (by decide) ?_
  refine lv_istore_n (lv' := [(2, .int (-4)), (0, .ref qO0), (1, .int (-149))]) hx hb d_2_32_4 rfl hl (by decide) rfl (fun ls hl => ?_)
  refine lv_iload_n hx hb d_2_32_5 rfl (lv_at hl 2 rfl) ?_
  refine lv_bipush (v := 31) hx hb d_2_32_6 (by decide) ?_
  refine lv_irem hx hb d_2_32_8 (by decide) ?_
  refine q_ti (v := (-25)) (by decide) ?_
  refine lv_istore_n (lv' := [(3, .int (-25)), (2, .int (-4)), (0, .ref qO0), (1, .int (-149))]) hx hb d_2_32_9 rfl hl (by decide) rfl (fun ls hl => ?_)
  refine lv_iload_n hx hb d_2_32_10 rfl (lv_at hl 3 rfl) ?_
  refine lv_if_le (tgt := 30) hx hb d_2_32_11 (by decide) (fun c1 => ?_) (fun c1 => absurd (by decide) c1)
  exact q_retv C0 V (rfl) d_2_32_30
theorem d_2_33_0 : decode prog_2_method_33_code 0 = .ok (.iload_n 1, 1) := by decide +kernel
theorem d_2_33_1 : decode prog_2_method_33_code 1 = .ok (.ifCond .le 10, 3) := by decide +kernel
theorem d_2_33_4 : decode prog_2_method_33_code 4 = .ok (.aload_n 0, 1) := by decide +kernel
theorem d_2_33_5 : decode prog_2_method_33_code 5 = .ok (.getfield 13, 3) := by decide +kernel
theorem d_2_33_8 : decode prog_2_method_33_code 8 = .ok (.ifCond .ne 5, 3) := by decide +kernel
theorem d_2_33_11 : decode prog_2_method_33_code 11 = .ok (.iconst 0, 1) := by decide +kernel
theorem d_2_33_12 : decode prog_2_method_33_code 12 = .ok (.ireturn, 1) := by decide +kernel
def y_Big_shiftRight : MethodName := ⟨"NumberHouse$Big", "shiftRight", "(I)Z"⟩
set_option maxRecDepth 100000 in
set_option maxHeartbeats 4000000 in
theorem c_Big_shiftRight (l : Launch) (D : va_G) (g : Nat → ClassId) (ws : va_W) (kO0 qO0 qA1 : Nat) (hO0 : ws[kO0]? = (some (qO0, .inr (2, [.ref qA1, .int 0, .int 0])) : Option (Nat × va_E))) : q_mI l y_Big_shiftRight prog_2_method_33_code 7 (.boolean) 1 0 0 D g [.ref qO0, .int 149] ws (fun r u => 0 = r ∧ ws = u) := by
  intro sz
  refine q_into (by decide) (Nat.le_of_ble_eq_true rfl) ?_
  intro p e s m below meth c ls hsz C0 V hl
  have hx := C0.1
  have hb := C0.2.1
  have hl : lv_has ls 7 [(0, .ref qO0), (1, .int 149)] := hl
  refine lv_iload_n hx hb d_2_33_0 rfl (lv_at hl 1 rfl) ?_
  refine lv_if_le (tgt := 11) hx hb d_2_33_1 (by decide) (fun c1 => absurd c1 (by decide)) (fun c1 => ?_)
  refine lv_aload_n hx hb d_2_33_4 rfl (lv_at hl 0 rfl) ?_
  refine q_get (ci := 2) (j := 1) (v := .int 0) C0 V i_Big rfl rfl hO0 (by decide) w_85 rfl d_2_33_5 ?_
  refine lv_if_ne (tgt := 13) hx hb d_2_33_8 (by decide) (fun c2 => absurd (by decide) c2) (fun c2 => ?_)
  refine lv_iconst (v := 0) hx hb d_2_33_11 (by decide) ?_
  exact q_retz C0 V (rfl) (⟨rfl, rfl⟩) d_2_33_12
theorem d_7_14_0 : decode prog_7_method_14_code 0 = .ok (.aload_n 0, 1) := by decide +kernel
theorem d_7_14_1 : decode prog_7_method_14_code 1 = .ok (.lload_n 1, 1) := by decide +kernel
theorem d_7_14_2 : decode prog_7_method_14_code 2 = .ok (.invokevirtual 52, 3) := by decide +kernel
theorem d_7_14_5 : decode prog_7_method_14_code 5 = .ok (.istore_n 3, 1) := by decide +kernel
theorem d_7_14_6 : decode prog_7_method_14_code 6 = .ok (.aload_n 0, 1) := by decide +kernel
theorem d_7_14_7 : decode prog_7_method_14_code 7 = .ok (.getfield 19, 3) := by decide +kernel
theorem d_7_14_10 : decode prog_7_method_14_code 10 = .ok (.getfield 55, 3) := by decide +kernel
theorem d_7_14_13 : decode prog_7_method_14_code 13 = .ok (.aload_n 0, 1) := by decide +kernel
theorem d_7_14_14 : decode prog_7_method_14_code 14 = .ok (.lload_n 1, 1) := by decide +kernel
theorem d_7_14_15 : decode prog_7_method_14_code 15 = .ok (.invokevirtual 61, 3) := by decide +kernel
theorem d_7_14_18 : decode prog_7_method_14_code 18 = .ok (.invokevirtual 63, 3) := by decide +kernel
theorem d_7_14_21 : decode prog_7_method_14_code 21 = .ok (.aload_n 0, 1) := by decide +kernel
theorem d_7_14_22 : decode prog_7_method_14_code 22 = .ok (.getfield 19, 3) := by decide +kernel
theorem d_7_14_25 : decode prog_7_method_14_code 25 = .ok (.getfield 55, 3) := by decide +kernel
theorem d_7_14_28 : decode prog_7_method_14_code 28 = .ok (.iload_n 3, 1) := by decide +kernel
theorem d_7_14_29 : decode prog_7_method_14_code 29 = .ok (.invokevirtual 69, 3) := by decide +kernel
theorem w_808 : (Cond.code ({ cls := "NumberHouse$Big", name := "shiftLeft", desc := "(I)V" } : MethodName) prog_2_method_32_code (6 : Nat) (none : Option ClassFile.FieldType)) ∈ q_tbl := q_of 808 (by decide +kernel) (by decide +kernel)
theorem w_805 : (Cond.methodLink "NumberHouse$Floats" (69 : Nat) ({ cls := "NumberHouse$Big", name := "shiftLeft", desc := "(I)V" } : MethodName)) ∈ q_tbl := q_of 805 (by decide +kernel) (by decide +kernel)
theorem w_806 : (Cond.instanceMethod ({ cls := "NumberHouse$Big", name := "shiftLeft", desc := "(I)V" } : MethodName)) ∈ q_tbl := q_of 806 (by decide +kernel) (by decide +kernel)
theorem w_807 : (Cond.selects "NumberHouse$Big" ({ cls := "NumberHouse$Big", name := "shiftLeft", desc := "(I)V" } : MethodName) ({ cls := "NumberHouse$Big", name := "shiftLeft", desc := "(I)V" } : MethodName)) ∈ q_tbl := q_of 807 (by decide +kernel) (by decide +kernel)
theorem LV_Flo_69 : q_LV "NumberHouse$Floats" 69 y_Big_shiftLeft prog_2_method_32_code 6 none 1 := ⟨w_808, w_4, w_805, w_806, w_807, ⟨by decide, by decide, by decide +kernel⟩⟩
theorem d_7_14_32 : decode prog_7_method_14_code 32 = .ok (.aload_n 0, 1) := by decide +kernel
theorem d_7_14_33 : decode prog_7_method_14_code 33 = .ok (.getfield 19, 3) := by decide +kernel
theorem d_7_14_36 : decode prog_7_method_14_code 36 = .ok (.getfield 55, 3) := by decide +kernel
theorem d_7_14_39 : decode prog_7_method_14_code 39 = .ok (.iload_n 3, 1) := by decide +kernel
theorem d_7_14_40 : decode prog_7_method_14_code 40 = .ok (.ineg, 1) := by decide +kernel
theorem d_7_14_41 : decode prog_7_method_14_code 41 = .ok (.invokevirtual 73, 3) := by decide +kernel
theorem w_1062 : (Cond.code ({ cls := "NumberHouse$Big", name := "shiftRight", desc := "(I)Z" } : MethodName) prog_2_method_33_code (7 : Nat) (some .boolean)) ∈ q_tbl := q_of 1062 (by decide +kernel) (by decide +kernel)
theorem w_1190 : (Cond.methodLink "NumberHouse$Floats" (73 : Nat) ({ cls := "NumberHouse$Big", name := "shiftRight", desc := "(I)Z" } : MethodName)) ∈ q_tbl := q_of 1190 (by decide +kernel) (by decide +kernel)
theorem w_1060 : (Cond.instanceMethod ({ cls := "NumberHouse$Big", name := "shiftRight", desc := "(I)Z" } : MethodName)) ∈ q_tbl := q_of 1060 (by decide +kernel) (by decide +kernel)
theorem w_1061 : (Cond.selects "NumberHouse$Big" ({ cls := "NumberHouse$Big", name := "shiftRight", desc := "(I)Z" } : MethodName) ({ cls := "NumberHouse$Big", name := "shiftRight", desc := "(I)Z" } : MethodName)) ∈ q_tbl := q_of 1061 (by decide +kernel) (by decide +kernel)
theorem LV_Flo_73 : q_LV "NumberHouse$Floats" 73 y_Big_shiftRight prog_2_method_33_code 7 (some .boolean) 1 := ⟨w_1062, w_4, w_1190, w_1060, w_1061, ⟨by decide, by decide, by decide +kernel⟩⟩
theorem d_7_14_44 : decode prog_7_method_14_code 44 = .ok (.pop, 1) := by decide +kernel
theorem d_7_14_45 : decode prog_7_method_14_code 45 = .ok (.aload_n 0, 1) := by decide +kernel
theorem d_7_14_46 : decode prog_7_method_14_code 46 = .ok (.getfield 19, 3) := by decide +kernel
theorem d_7_14_49 : decode prog_7_method_14_code 49 = .ok (.getfield 55, 3) := by decide +kernel
theorem d_7_14_52 : decode prog_7_method_14_code 52 = .ok (.aload_n 0, 1) := by decide +kernel
theorem d_7_14_53 : decode prog_7_method_14_code 53 = .ok (.getfield 19, 3) := by decide +kernel
theorem d_7_14_56 : decode prog_7_method_14_code 56 = .ok (.getfield 55, 3) := by decide +kernel
theorem d_7_14_59 : decode prog_7_method_14_code 59 = .ok (.getfield 77, 3) := by decide +kernel
theorem d_7_14_62 : decode prog_7_method_14_code 62 = .ok (.ifCond .le 15, 3) := by decide +kernel
theorem d_7_14_77 : decode prog_7_method_14_code 77 = .ok (.iconst 0, 1) := by decide +kernel
theorem d_7_14_78 : decode prog_7_method_14_code 78 = .ok (.putfield 80, 3) := by decide +kernel
theorem w_99 : (Cond.fieldLink "NumberHouse$Floats" (80 : Nat) "NumberHouse$Big" "negative" "Z") ∈ q_tbl := q_of 99 (by decide +kernel) (by decide +kernel)
theorem d_7_14_81 : decode prog_7_method_14_code 81 = .ok (.return_, 1) := by decide +kernel
def y_Flo_towardsZero : MethodName := ⟨"NumberHouse$Floats", "towardsZero", "(J)V"⟩
set_option maxRecDepth 100000 in
set_option maxHeartbeats 4000000 in
theorem c_Flo_towardsZero (l : Launch) (D : va_G) (g : Nat → ClassId) (ws : va_W) (kO0 kO1 kO2 kA12 qO0 qO1 qO2 qO3 qO4 qO5 qO6 qO7 qO8 qO9 qO10 qO11 qA12 : Nat) (hO0 : ws[kO0]? = (some (qO0, .inr (6, [.int 23, .int 150, .int 255, .long 0, .int 0, .ref qO1, .int 0])) : Option (Nat × va_E))) (hO1 : ws[kO1]? = (some (qO1, .inr (4, [.ref qO2, .ref qO3, .ref qO4, .ref qO5, .ref qO6, .ref qO7, .ref qO8, .ref qO9, .ref qO10, .ref qO11])) : Option (Nat × va_E))) (hO2 : ws[kO2]? = (some (qO2, .inr (2, [.ref qA12, .int 0, .int 0])) : Option (Nat × va_E))) (hA12 : ws[kA12]? = (some (qA12, .inl (g 0, 220, .inl (fun _ => 0))) : Option (Nat × va_E))) : q_mV l y_Flo_towardsZero prog_7_method_14_code 4 3 0 0 D g [.ref qO0, .long 0] ws (fun u => q_un ws u [kO2, kA12] ∧ u[kO2]? = (some (qO2, .inr (2, [.ref qA12, .int 0, .int 0])) : Option (Nat × va_E)) ∧ u[kA12]? = (some (qA12, .inl (g 0, 220, .inl (fun _ => 0))) : Option (Nat × va_E))) := by
  intro sz
  refine q_into (by decide) (Nat.le_of_ble_eq_true rfl) ?_
  intro p e s m below meth c ls hsz C0 V hl
  have hx := C0.1
  have hb := C0.2.1
  have hl : lv_has ls 4 [(0, .ref qO0), (1, .long 0)] := hl
  have n_A12_O2 := q_df hA12 hO2
  have n_O0_A12 := Ne.symm (q_df hA12 hO0)
  have n_O0_O2 := q_dc hO0 hO2 (q_pd 6 2 rfl)
  have n_O1_A12 := Ne.symm (q_df hA12 hO1)
  have n_O1_O2 := q_dc hO1 hO2 (q_pd 4 2 rfl)
  have hF : q_un ws ws [kO2, kA12] := q_u0
  refine lv_aload_n hx hb d_7_14_0 rfl (lv_at hl 0 rfl) ?_
  refine lv_lload_n hx hb d_7_14_1 rfl (lv_at hl 1 rfl) ?_
  refine q_goi V (q_runV (As := [.long 0]) (rest := []) (d := 2) (mc := 0) (ms := 0) (ci := 6) C0 V rfl LV_Flo_52 (c_Flo_power_2 l D g ws kO0 qO0 qO1 hO0 _) rfl rfl hO0 rfl hl.1 rfl (Nat.le_of_ble_eq_true rfl) ⟨by decide, by decide⟩ ⟨Nat.le_of_ble_eq_true rfl, Nat.le_of_ble_eq_true rfl⟩ d_7_14_2) (fun v3 u2 H locs hp1 V => ?_)
  obtain ⟨rfl, rfl⟩ := hp1
  refine lv_istore_n (lv' := [(3, .int (-149)), (0, .ref qO0), (1, .long 0)]) hx hb d_7_14_5 rfl hl (by decide) rfl (fun ls hl => ?_)
  refine lv_aload_n hx hb d_7_14_6 rfl (lv_at hl 1 rfl) ?_
  refine q_get (ci := 6) (j := 5) (v := .ref qO1) C0 V i_Flo rfl rfl hO0 (by decide) w_241 rfl d_7_14_7 ?_
  refine q_get (ci := 4) (j := 0) (v := .ref qO2) C0 V i_Mil rfl rfl hO1 (by decide) w_113 rfl d_7_14_10 ?_
  refine lv_aload_n hx hb d_7_14_13 rfl (lv_at hl 1 rfl) ?_
  refine lv_lload_n hx hb d_7_14_14 rfl (lv_at hl 2 rfl) ?_
  refine q_gol V (q_runV (As := [.long 0]) (rest := [.ref qO2]) (d := 2) (mc := 0) (ms := 0) (ci := 6) C0 V rfl LV_Flo_61 (c_Flo_number_2 l D g ws kO0 qO0 qO1 hO0 _) rfl rfl hO0 rfl hl.1 rfl (Nat.le_of_ble_eq_true rfl) ⟨by decide, by decide⟩ ⟨Nat.le_of_ble_eq_true rfl, Nat.le_of_ble_eq_true rfl⟩ d_7_14_15) (fun v7 u6 H locs hp5 V => ?_)
  obtain ⟨rfl, rfl⟩ := hp5
  refine q_gov V (q_runV (As := [.long 0]) (rest := []) (d := 2) (mc := 0) (ms := 0) (ci := 2) C0 V rfl LV_Flo_63 (c_Big_setLong_2 l D g ws kO2 kA12 qO2 qA12 hO2 hA12 _) rfl rfl hO2 rfl hl.1 rfl (Nat.le_of_ble_eq_true rfl) ⟨by decide, by decide⟩ ⟨Nat.le_of_ble_eq_true rfl, Nat.le_of_ble_eq_true rfl⟩ d_7_14_18) (fun u10 H locs hp9 V => ?_)
  obtain ⟨hg11, hO2, hA12⟩ := hp9
  replace hF := q_uc hF hg11 (q_sc (.head _) (q_sc (.tail _ (.head _)) (fun _ h => absurd h List.not_mem_nil)))
  refine lv_aload_n hx hb d_7_14_21 rfl (lv_at hl 1 rfl) ?_
  replace hO0 := (hg11 _ (q_nc n_O0_O2 (q_nc n_O0_A12 List.not_mem_nil))).trans (hO0)
  refine q_get (ci := 6) (j := 5) (v := .ref qO1) C0 V i_Flo rfl rfl hO0 (by decide) w_241 rfl d_7_14_22 ?_
  replace hO1 := (hg11 _ (q_nc n_O1_O2 (q_nc n_O1_A12 List.not_mem_nil))).trans (hO1)
  refine q_get (ci := 4) (j := 0) (v := .ref qO2) C0 V i_Mil rfl rfl hO1 (by decide) w_113 rfl d_7_14_25 ?_
  refine lv_iload_n hx hb d_7_14_28 rfl (lv_at hl 0 rfl) ?_
  refine q_gov V (q_runV (As := [.int (-149)]) (rest := []) (d := 1) (mc := 0) (ms := 0) (ci := 2) C0 V rfl LV_Flo_69 (c_Big_shiftLeft l D g u10 qO2 _) rfl rfl hO2 rfl hl.1 rfl (Nat.le_of_ble_eq_true rfl) ⟨by decide, by decide⟩ ⟨Nat.le_of_ble_eq_true rfl, Nat.le_of_ble_eq_true rfl⟩ d_7_14_29) (fun u13 H locs hp12 V => ?_)
  obtain rfl := hp12
  refine lv_aload_n hx hb d_7_14_32 rfl (lv_at hl 1 rfl) ?_
  refine q_get (ci := 6) (j := 5) (v := .ref qO1) C0 V i_Flo rfl rfl hO0 (by decide) w_241 rfl d_7_14_33 ?_
  refine q_get (ci := 4) (j := 0) (v := .ref qO2) C0 V i_Mil rfl rfl hO1 (by decide) w_113 rfl d_7_14_36 ?_
  refine lv_iload_n hx hb d_7_14_39 rfl (lv_at hl 0 rfl) ?_
  refine lv_ineg hx hb d_7_14_40 ?_
  refine q_ti (v := 149) (by decide) ?_
  refine q_goi V (q_runV (As := [.int 149]) (rest := []) (d := 1) (mc := 0) (ms := 0) (ci := 2) C0 V rfl LV_Flo_73 (c_Big_shiftRight l D g u10 kO2 qO2 qA12 hO2 _) rfl rfl hO2 rfl hl.1 rfl (Nat.le_of_ble_eq_true rfl) ⟨by decide, by decide⟩ ⟨Nat.le_of_ble_eq_true rfl, Nat.le_of_ble_eq_true rfl⟩ d_7_14_41) (fun v17 u16 H locs hp15 V => ?_)
  obtain ⟨rfl, rfl⟩ := hp15
  refine lv_pop hx hb d_7_14_44 rfl ?_
  refine lv_aload_n hx hb d_7_14_45 rfl (lv_at hl 1 rfl) ?_
  refine q_get (ci := 6) (j := 5) (v := .ref qO1) C0 V i_Flo rfl rfl hO0 (by decide) w_241 rfl d_7_14_46 ?_
  refine q_get (ci := 4) (j := 0) (v := .ref qO2) C0 V i_Mil rfl rfl hO1 (by decide) w_113 rfl d_7_14_49 ?_
  refine lv_aload_n hx hb d_7_14_52 rfl (lv_at hl 1 rfl) ?_
  refine q_get (ci := 6) (j := 5) (v := .ref qO1) C0 V i_Flo rfl rfl hO0 (by decide) w_241 rfl d_7_14_53 ?_
  refine q_get (ci := 4) (j := 0) (v := .ref qO2) C0 V i_Mil rfl rfl hO1 (by decide) w_113 rfl d_7_14_56 ?_
  refine q_get (ci := 2) (j := 1) (v := .int 0) C0 V i_Big rfl rfl hO2 (by decide) w_92 rfl d_7_14_59 ?_
  refine lv_if_le (tgt := 77) hx hb d_7_14_62 (by decide) (fun c19 => ?_) (fun c19 => absurd (by decide) c19)
  refine lv_iconst (v := 0) hx hb d_7_14_77 (by decide) ?_
  refine q_put (ci := 2) (j := 2) (v := .int 0) (ty := .boolean) C0 V i_Big o_Big n_Big rfl rfl hO2 (by decide) w_99 rfl rfl rfl rfl (Nat.le_of_ble_eq_true rfl) d_7_14_78 (fun H locs w20 hu21 hO2 V => ?_)
  replace hO2 : w20[kO2]? = (some (qO2, .inr (2, [.ref qA12, .int 0, .int 0])) : Option (Nat × va_E)) := hO2
  replace hF := q_us hF hu21 (.head _)
  replace hA12 := (hu21 _ n_A12_O2).trans (hA12)
  exact q_retv C0 V (⟨hF, hO2, hA12⟩) d_7_14_81
set_option maxRecDepth 100000 in
set_option maxHeartbeats 4000000 in
theorem c_Big_shiftLeft_2 (l : Launch) (D : va_G) (g : Nat → ClassId) (ws : va_W) ( qO0 : Nat) : q_mV l y_Big_shiftLeft prog_2_method_32_code 6 1 0 0 D g [.ref qO0, .int (-1074)] ws (fun u => ws = u) := by
  intro sz
  refine q_into (by decide) (Nat.le_of_ble_eq_true rfl) ?_
  intro p e s m below meth c ls hsz C0 V hl
  have hx := C0.1
  have hb := C0.2.1
  have hl : lv_has ls 6 [(0, .ref qO0), (1, .int (-1074))] := hl
  refine lv_iload_n hx hb d_2_32_0 rfl (lv_at hl 1 rfl) ?_
  refine lv_bipush (v := 31) hx hb d_2_32_1 (by decide) ?_
  refine lv_idiv hx hb d_2_32_3 (by decide) ?_
  refine q_ti (v := (-34)) (by decide) ?_
  refine lv_istore_n (lv' := [(2, .int (-34)), (0, .ref qO0), (1, .int (-1074))]) hx hb d_2_32_4 rfl hl (by decide) rfl (fun ls hl => ?_)
  refine lv_iload_n hx hb d_2_32_5 rfl (lv_at hl 2 rfl) ?_
  refine lv_bipush (v := 31) hx hb d_2_32_6 (by decide) ?_
  refine lv_irem hx hb d_2_32_8 (by decide) ?_
  refine q_ti (v := (-20)) (by decide) ?_
  refine lv_istore_n (lv' := [(3, .int (-20)), (2, .int (-34)), (0, .ref qO0), (1, .int (-1074))]) hx hb d_2_32_9 rfl hl (by decide) rfl (fun ls hl => ?_)
  refine lv_iload_n hx hb d_2_32_10 rfl (lv_at hl 3 rfl) ?_
  refine lv_if_le (tgt := 30) hx hb d_2_32_11 (by decide) (fun c1 => ?_) (fun c1 => absurd (by decide) c1)
  exact q_retv C0 V (rfl) d_2_32_30
set_option maxRecDepth 100000 in
set_option maxHeartbeats 4000000 in
theorem c_Big_shiftRight_2 (l : Launch) (D : va_G) (g : Nat → ClassId) (ws : va_W) (kO0 qO0 qA1 : Nat) (hO0 : ws[kO0]? = (some (qO0, .inr (2, [.ref qA1, .int 0, .int 0])) : Option (Nat × va_E))) : q_mI l y_Big_shiftRight prog_2_method_33_code 7 (.boolean) 1 0 0 D g [.ref qO0, .int 1074] ws (fun r u => 0 = r ∧ ws = u) := by
  intro sz
  refine q_into (by decide) (Nat.le_of_ble_eq_true rfl) ?_
  intro p e s m below meth c ls hsz C0 V hl
  have hx := C0.1
  have hb := C0.2.1
  have hl : lv_has ls 7 [(0, .ref qO0), (1, .int 1074)] := hl
  refine lv_iload_n hx hb d_2_33_0 rfl (lv_at hl 1 rfl) ?_
  refine lv_if_le (tgt := 11) hx hb d_2_33_1 (by decide) (fun c1 => absurd c1 (by decide)) (fun c1 => ?_)
  refine lv_aload_n hx hb d_2_33_4 rfl (lv_at hl 0 rfl) ?_
  refine q_get (ci := 2) (j := 1) (v := .int 0) C0 V i_Big rfl rfl hO0 (by decide) w_85 rfl d_2_33_5 ?_
  refine lv_if_ne (tgt := 13) hx hb d_2_33_8 (by decide) (fun c2 => absurd (by decide) c2) (fun c2 => ?_)
  refine lv_iconst (v := 0) hx hb d_2_33_11 (by decide) ?_
  exact q_retz C0 V (rfl) (⟨rfl, rfl⟩) d_2_33_12
set_option maxRecDepth 100000 in
set_option maxHeartbeats 4000000 in
theorem c_Flo_towardsZero_2 (l : Launch) (D : va_G) (g : Nat → ClassId) (ws : va_W) (kO0 kO1 kO2 kA12 qO0 qO1 qO2 qO3 qO4 qO5 qO6 qO7 qO8 qO9 qO10 qO11 qA12 : Nat) (hO0 : ws[kO0]? = (some (qO0, .inr (6, [.int 52, .int 1075, .int 2047, .long 0, .int 0, .ref qO1, .int 0])) : Option (Nat × va_E))) (hO1 : ws[kO1]? = (some (qO1, .inr (4, [.ref qO2, .ref qO3, .ref qO4, .ref qO5, .ref qO6, .ref qO7, .ref qO8, .ref qO9, .ref qO10, .ref qO11])) : Option (Nat × va_E))) (hO2 : ws[kO2]? = (some (qO2, .inr (2, [.ref qA12, .int 0, .int 0])) : Option (Nat × va_E))) (hA12 : ws[kA12]? = (some (qA12, .inl (g 0, 220, .inl (fun _ => 0))) : Option (Nat × va_E))) : q_mV l y_Flo_towardsZero prog_7_method_14_code 4 3 0 0 D g [.ref qO0, .long 0] ws (fun u => q_un ws u [kO2, kA12] ∧ u[kO2]? = (some (qO2, .inr (2, [.ref qA12, .int 0, .int 0])) : Option (Nat × va_E)) ∧ u[kA12]? = (some (qA12, .inl (g 0, 220, .inl (fun _ => 0))) : Option (Nat × va_E))) := by
  intro sz
  refine q_into (by decide) (Nat.le_of_ble_eq_true rfl) ?_
  intro p e s m below meth c ls hsz C0 V hl
  have hx := C0.1
  have hb := C0.2.1
  have hl : lv_has ls 4 [(0, .ref qO0), (1, .long 0)] := hl
  have n_A12_O2 := q_df hA12 hO2
  have n_O0_A12 := Ne.symm (q_df hA12 hO0)
  have n_O0_O2 := q_dc hO0 hO2 (q_pd 6 2 rfl)
  have n_O1_A12 := Ne.symm (q_df hA12 hO1)
  have n_O1_O2 := q_dc hO1 hO2 (q_pd 4 2 rfl)
  have hF : q_un ws ws [kO2, kA12] := q_u0
  refine lv_aload_n hx hb d_7_14_0 rfl (lv_at hl 0 rfl) ?_
  refine lv_lload_n hx hb d_7_14_1 rfl (lv_at hl 1 rfl) ?_
  refine q_goi V (q_runV (As := [.long 0]) (rest := []) (d := 2) (mc := 0) (ms := 0) (ci := 6) C0 V rfl LV_Flo_52 (c_Flo_power l D g ws kO0 qO0 qO1 hO0 _) rfl rfl hO0 rfl hl.1 rfl (Nat.le_of_ble_eq_true rfl) ⟨by decide, by decide⟩ ⟨Nat.le_of_ble_eq_true rfl, Nat.le_of_ble_eq_true rfl⟩ d_7_14_2) (fun v3 u2 H locs hp1 V => ?_)
  obtain ⟨rfl, rfl⟩ := hp1
  refine lv_istore_n (lv' := [(3, .int (-1074)), (0, .ref qO0), (1, .long 0)]) hx hb d_7_14_5 rfl hl (by decide) rfl (fun ls hl => ?_)
  refine lv_aload_n hx hb d_7_14_6 rfl (lv_at hl 1 rfl) ?_
  refine q_get (ci := 6) (j := 5) (v := .ref qO1) C0 V i_Flo rfl rfl hO0 (by decide) w_241 rfl d_7_14_7 ?_
  refine q_get (ci := 4) (j := 0) (v := .ref qO2) C0 V i_Mil rfl rfl hO1 (by decide) w_113 rfl d_7_14_10 ?_
  refine lv_aload_n hx hb d_7_14_13 rfl (lv_at hl 1 rfl) ?_
  refine lv_lload_n hx hb d_7_14_14 rfl (lv_at hl 2 rfl) ?_
  refine q_gol V (q_runV (As := [.long 0]) (rest := [.ref qO2]) (d := 2) (mc := 0) (ms := 0) (ci := 6) C0 V rfl LV_Flo_61 (c_Flo_number l D g ws kO0 qO0 qO1 hO0 _) rfl rfl hO0 rfl hl.1 rfl (Nat.le_of_ble_eq_true rfl) ⟨by decide, by decide⟩ ⟨Nat.le_of_ble_eq_true rfl, Nat.le_of_ble_eq_true rfl⟩ d_7_14_15) (fun v7 u6 H locs hp5 V => ?_)
  obtain ⟨rfl, rfl⟩ := hp5
  refine q_gov V (q_runV (As := [.long 0]) (rest := []) (d := 2) (mc := 0) (ms := 0) (ci := 2) C0 V rfl LV_Flo_63 (c_Big_setLong_2 l D g ws kO2 kA12 qO2 qA12 hO2 hA12 _) rfl rfl hO2 rfl hl.1 rfl (Nat.le_of_ble_eq_true rfl) ⟨by decide, by decide⟩ ⟨Nat.le_of_ble_eq_true rfl, Nat.le_of_ble_eq_true rfl⟩ d_7_14_18) (fun u10 H locs hp9 V => ?_)
  obtain ⟨hg11, hO2, hA12⟩ := hp9
  replace hF := q_uc hF hg11 (q_sc (.head _) (q_sc (.tail _ (.head _)) (fun _ h => absurd h List.not_mem_nil)))
  refine lv_aload_n hx hb d_7_14_21 rfl (lv_at hl 1 rfl) ?_
  replace hO0 := (hg11 _ (q_nc n_O0_O2 (q_nc n_O0_A12 List.not_mem_nil))).trans (hO0)
  refine q_get (ci := 6) (j := 5) (v := .ref qO1) C0 V i_Flo rfl rfl hO0 (by decide) w_241 rfl d_7_14_22 ?_
  replace hO1 := (hg11 _ (q_nc n_O1_O2 (q_nc n_O1_A12 List.not_mem_nil))).trans (hO1)
  refine q_get (ci := 4) (j := 0) (v := .ref qO2) C0 V i_Mil rfl rfl hO1 (by decide) w_113 rfl d_7_14_25 ?_
  refine lv_iload_n hx hb d_7_14_28 rfl (lv_at hl 0 rfl) ?_
  refine q_gov V (q_runV (As := [.int (-1074)]) (rest := []) (d := 1) (mc := 0) (ms := 0) (ci := 2) C0 V rfl LV_Flo_69 (c_Big_shiftLeft_2 l D g u10 qO2 _) rfl rfl hO2 rfl hl.1 rfl (Nat.le_of_ble_eq_true rfl) ⟨by decide, by decide⟩ ⟨Nat.le_of_ble_eq_true rfl, Nat.le_of_ble_eq_true rfl⟩ d_7_14_29) (fun u13 H locs hp12 V => ?_)
  obtain rfl := hp12
  refine lv_aload_n hx hb d_7_14_32 rfl (lv_at hl 1 rfl) ?_
  refine q_get (ci := 6) (j := 5) (v := .ref qO1) C0 V i_Flo rfl rfl hO0 (by decide) w_241 rfl d_7_14_33 ?_
  refine q_get (ci := 4) (j := 0) (v := .ref qO2) C0 V i_Mil rfl rfl hO1 (by decide) w_113 rfl d_7_14_36 ?_
  refine lv_iload_n hx hb d_7_14_39 rfl (lv_at hl 0 rfl) ?_
  refine lv_ineg hx hb d_7_14_40 ?_
  refine q_ti (v := 1074) (by decide) ?_
  refine q_goi V (q_runV (As := [.int 1074]) (rest := []) (d := 1) (mc := 0) (ms := 0) (ci := 2) C0 V rfl LV_Flo_73 (c_Big_shiftRight_2 l D g u10 kO2 qO2 qA12 hO2 _) rfl rfl hO2 rfl hl.1 rfl (Nat.le_of_ble_eq_true rfl) ⟨by decide, by decide⟩ ⟨Nat.le_of_ble_eq_true rfl, Nat.le_of_ble_eq_true rfl⟩ d_7_14_41) (fun v17 u16 H locs hp15 V => ?_)
  obtain ⟨rfl, rfl⟩ := hp15
  refine lv_pop hx hb d_7_14_44 rfl ?_
  refine lv_aload_n hx hb d_7_14_45 rfl (lv_at hl 1 rfl) ?_
  refine q_get (ci := 6) (j := 5) (v := .ref qO1) C0 V i_Flo rfl rfl hO0 (by decide) w_241 rfl d_7_14_46 ?_
  refine q_get (ci := 4) (j := 0) (v := .ref qO2) C0 V i_Mil rfl rfl hO1 (by decide) w_113 rfl d_7_14_49 ?_
  refine lv_aload_n hx hb d_7_14_52 rfl (lv_at hl 1 rfl) ?_
  refine q_get (ci := 6) (j := 5) (v := .ref qO1) C0 V i_Flo rfl rfl hO0 (by decide) w_241 rfl d_7_14_53 ?_
  refine q_get (ci := 4) (j := 0) (v := .ref qO2) C0 V i_Mil rfl rfl hO1 (by decide) w_113 rfl d_7_14_56 ?_
  refine q_get (ci := 2) (j := 1) (v := .int 0) C0 V i_Big rfl rfl hO2 (by decide) w_92 rfl d_7_14_59 ?_
  refine lv_if_le (tgt := 77) hx hb d_7_14_62 (by decide) (fun c19 => ?_) (fun c19 => absurd (by decide) c19)
  refine lv_iconst (v := 0) hx hb d_7_14_77 (by decide) ?_
  refine q_put (ci := 2) (j := 2) (v := .int 0) (ty := .boolean) C0 V i_Big o_Big n_Big rfl rfl hO2 (by decide) w_99 rfl rfl rfl rfl (Nat.le_of_ble_eq_true rfl) d_7_14_78 (fun H locs w20 hu21 hO2 V => ?_)
  replace hO2 : w20[kO2]? = (some (qO2, .inr (2, [.ref qA12, .int 0, .int 0])) : Option (Nat × va_E)) := hO2
  replace hF := q_us hF hu21 (.head _)
  replace hA12 := (hu21 _ n_A12_O2).trans (hA12)
  exact q_retv C0 V (⟨hF, hO2, hA12⟩) d_7_14_81
theorem d_4_14_0 : decode prog_4_method_14_code 0 = .ok (.aload_n 0, 1) := by decide +kernel
theorem d_4_14_1 : decode prog_4_method_14_code 1 = .ok (.getfield 20, 3) := by decide +kernel
theorem d_4_14_4 : decode prog_4_method_14_code 4 = .ok (.getfield 55, 3) := by decide +kernel
theorem d_4_14_7 : decode prog_4_method_14_code 7 = .ok (.aload_n 1, 1) := by decide +kernel
theorem d_4_14_8 : decode prog_4_method_14_code 8 = .ok (.getfield 24, 3) := by decide +kernel
theorem d_4_14_11 : decode prog_4_method_14_code 11 = .ok (.invokevirtual 44, 3) := by decide +kernel
theorem d_4_14_14 : decode prog_4_method_14_code 14 = .ok (.aload_n 1, 1) := by decide +kernel
theorem d_4_14_15 : decode prog_4_method_14_code 15 = .ok (.getfield 24, 3) := by decide +kernel
theorem d_4_14_18 : decode prog_4_method_14_code 18 = .ok (.getfield 63, 3) := by decide +kernel
theorem d_4_14_21 : decode prog_4_method_14_code 21 = .ok (.ifCond .le 20, 3) := by decide +kernel
theorem d_4_14_41 : decode prog_4_method_14_code 41 = .ok (.aload_n 1, 1) := by decide +kernel
theorem d_4_14_42 : decode prog_4_method_14_code 42 = .ok (.getfield 24, 3) := by decide +kernel
theorem d_4_14_45 : decode prog_4_method_14_code 45 = .ok (.getfield 63, 3) := by decide +kernel
theorem d_4_14_48 : decode prog_4_method_14_code 48 = .ok (.ifCond .le 33, 3) := by decide +kernel
theorem d_4_14_81 : decode prog_4_method_14_code 81 = .ok (.iconst 1, 1) := by decide +kernel
theorem d_4_14_82 : decode prog_4_method_14_code 82 = .ok (.ireturn, 1) := by decide +kernel
def y_DW_towardsZero : MethodName := ⟨"NumberHouse$DecimalWork", "towardsZero", "(LNumberHouse$Dec;)Z"⟩
set_option maxRecDepth 100000 in
set_option maxHeartbeats 4000000 in
theorem c_DW_towardsZero (l : Launch) (D : va_G) (g : Nat → ClassId) (ws : va_W) (kO0 kO1 kO3 kO4 kO6 kA16 kA18 qO0 qO1 qO2 qO3 qO4 qO6 qO7 qO8 qO9 qO10 qO11 qO12 qO13 qO14 qO15 qA16 qA18 : Nat) (hO0 : ws[kO0]? = (some (qO0, .inr (5, [.ref qO2, .long 0, .ref qO3, .int 0])) : Option (Nat × va_E))) (hO1 : ws[kO1]? = (some (qO1, .inr (3, [.ref qO4, .int 0, .int 1])) : Option (Nat × va_E))) (hO3 : ws[kO3]? = (some (qO3, .inr (4, [.ref qO6, .ref qO7, .ref qO8, .ref qO9, .ref qO10, .ref qO11, .ref qO12, .ref qO13, .ref qO14, .ref qO15])) : Option (Nat × va_E))) (hO4 : ws[kO4]? = (some (qO4, .inr (2, [.ref qA16, .int 0, .int 0])) : Option (Nat × va_E))) (hO6 : ws[kO6]? = (some (qO6, .inr (2, [.ref qA18, .int 0, .int 0])) : Option (Nat × va_E))) (hA16 : ws[kA16]? = (some (qA16, .inl (g 0, 108, .inl (fun _ => 0))) : Option (Nat × va_E))) (hA18 : ws[kA18]? = (some (qA18, .inl (g 0, 220, .inl (fun _ => 0))) : Option (Nat × va_E))) (n_A16_A18 : kA16 ≠ kA18) (n_O4_O6 : kO4 ≠ kO6) : q_mI l y_DW_towardsZero prog_4_method_14_code 2 (.boolean) 3 0 0 D g [.ref qO0, .ref qO1] ws (fun r u => 1 = r ∧ q_un ws u [kO6, kA18] ∧ u[kO6]? = (some (qO6, .inr (2, [.ref qA18, .int 0, .int 0])) : Option (Nat × va_E)) ∧ u[kA18]? = (some (qA18, .inl (g 0, 220, .inl (fun _ => 0))) : Option (Nat × va_E))) := by
  intro sz
  refine q_into (by decide) (Nat.le_of_ble_eq_true rfl) ?_
  intro p e s m below meth c ls hsz C0 V hl
  have hx := C0.1
  have hb := C0.2.1
  have hl : lv_has ls 2 [(0, .ref qO0), (1, .ref qO1)] := hl
  have n_A16_O6 := q_df hA16 hO6
  have n_O0_A18 := Ne.symm (q_df hA18 hO0)
  have n_O0_O6 := q_dc hO0 hO6 (q_pd 5 2 rfl)
  have n_O1_A18 := Ne.symm (q_df hA18 hO1)
  have n_O1_O6 := q_dc hO1 hO6 (q_pd 3 2 rfl)
  have n_O3_A18 := Ne.symm (q_df hA18 hO3)
  have n_O3_O6 := q_dc hO3 hO6 (q_pd 4 2 rfl)
  have n_O4_A18 := Ne.symm (q_df hA18 hO4)
  have hF : q_un ws ws [kO6, kA18] := q_u0
  refine lv_aload_n hx hb d_4_14_0 rfl (lv_at hl 0 rfl) ?_
  refine q_get (ci := 5) (j := 2) (v := .ref qO3) C0 V i_DW rfl rfl hO0 (by decide) w_214 rfl d_4_14_1 ?_
  refine q_get (ci := 4) (j := 0) (v := .ref qO6) C0 V i_Mil rfl rfl hO3 (by decide) w_111 rfl d_4_14_4 ?_
  refine lv_aload_n hx hb d_4_14_7 rfl (lv_at hl 1 rfl) ?_
  refine q_get (ci := 3) (j := 0) (v := .ref qO4) C0 V i_Dec rfl rfl hO1 (by decide) w_171 rfl d_4_14_8 ?_
  refine q_gov V (q_runV (As := [.ref qO4]) (rest := []) (d := 2) (mc := 0) (ms := 0) (ci := 2) C0 V rfl LV_DW_44 (c_Big_copy l D g ws kO6 kO4 kA18 kA16 qO6 qO4 qA18 qA16 hO6 hO4 hA18 hA16 n_A16_A18 n_O4_O6 _) rfl rfl hO6 rfl hl.1 rfl (Nat.le_of_ble_eq_true rfl) ⟨by decide, by decide⟩ ⟨Nat.le_of_ble_eq_true rfl, Nat.le_of_ble_eq_true rfl⟩ d_4_14_11) (fun u2 H locs hp1 V => ?_)
  obtain ⟨hg3, hO6, hA18⟩ := hp1
  replace hF := q_uc hF hg3 (q_sc (.head _) (q_sc (.tail _ (.head _)) (fun _ h => absurd h List.not_mem_nil)))
  refine lv_aload_n hx hb d_4_14_14 rfl (lv_at hl 1 rfl) ?_
  replace hO1 := (hg3 _ (q_nc n_O1_O6 (q_nc n_O1_A18 List.not_mem_nil))).trans (hO1)
  refine q_get (ci := 3) (j := 0) (v := .ref qO4) C0 V i_Dec rfl rfl hO1 (by decide) w_171 rfl d_4_14_15 ?_
  replace hO4 := (hg3 _ (q_nc n_O4_O6 (q_nc n_O4_A18 List.not_mem_nil))).trans (hO4)
  refine q_get (ci := 2) (j := 1) (v := .int 0) C0 V i_Big rfl rfl hO4 (by decide) w_90 rfl d_4_14_18 ?_
  refine lv_if_le (tgt := 41) hx hb d_4_14_21 (by decide) (fun c4 => ?_) (fun c4 => absurd (by decide) c4)
  refine lv_aload_n hx hb d_4_14_41 rfl (lv_at hl 1 rfl) ?_
  refine q_get (ci := 3) (j := 0) (v := .ref qO4) C0 V i_Dec rfl rfl hO1 (by decide) w_171 rfl d_4_14_42 ?_
  refine q_get (ci := 2) (j := 1) (v := .int 0) C0 V i_Big rfl rfl hO4 (by decide) w_90 rfl d_4_14_45 ?_
  refine lv_if_le (tgt := 81) hx hb d_4_14_48 (by decide) (fun c5 => ?_) (fun c5 => absurd (by decide) c5)
  refine lv_iconst (v := 1) hx hb d_4_14_81 (by decide) ?_
  exact q_retz C0 V (rfl) (⟨rfl, hF, hO6, hA18⟩) d_4_14_82
theorem d_1_25_0 : decode prog_1_method_25_code 0 = .ok (.iload_n 1, 1) := by decide +kernel
theorem d_1_25_1 : decode prog_1_method_25_code 1 = .ok (.ifCond .ne 22, 3) := by decide +kernel
theorem d_1_25_23 : decode prog_1_method_25_code 23 = .ok (.iload_n 1, 1) := by decide +kernel
theorem d_1_25_24 : decode prog_1_method_25_code 24 = .ok (.iconst 1, 1) := by decide +kernel
theorem d_1_25_25 : decode prog_1_method_25_code 25 = .ok (.if_icmp .ne 22, 3) := by decide +kernel
theorem d_1_25_47 : decode prog_1_method_25_code 47 = .ok (.aload_n 0, 1) := by decide +kernel
theorem d_1_25_48 : decode prog_1_method_25_code 48 = .ok (.iload_n 1, 1) := by decide +kernel
theorem d_1_25_49 : decode prog_1_method_25_code 49 = .ok (.invokevirtual 130, 3) := by decide +kernel
theorem d_1_25_52 : decode prog_1_method_25_code 52 = .ok (.astore_n 3, 1) := by decide +kernel
theorem d_1_25_53 : decode prog_1_method_25_code 53 = .ok (.aload_n 0, 1) := by decide +kernel
theorem d_1_25_54 : decode prog_1_method_25_code 54 = .ok (.iload_n 1, 1) := by decide +kernel
theorem d_1_25_55 : decode prog_1_method_25_code 55 = .ok (.invokevirtual 157, 3) := by decide +kernel
theorem d_1_25_58 : decode prog_1_method_25_code 58 = .ok (.iload_n 2, 1) := by decide +kernel
theorem d_1_25_59 : decode prog_1_method_25_code 59 = .ok (.laload, 1) := by decide +kernel
theorem d_1_25_60 : decode prog_1_method_25_code 60 = .ok (.lstore 4, 2) := by decide +kernel
theorem d_1_25_62 : decode prog_1_method_25_code 62 = .ok (.aload_n 3, 1) := by decide +kernel
theorem d_1_25_63 : decode prog_1_method_25_code 63 = .ok (.lload 4, 2) := by decide +kernel
theorem d_1_25_65 : decode prog_1_method_25_code 65 = .ok (.invokevirtual 179, 3) := by decide +kernel
theorem d_1_25_68 : decode prog_1_method_25_code 68 = .ok (.invokestatic 138, 3) := by decide +kernel
theorem d_1_25_71 : decode prog_1_method_25_code 71 = .ok (.aload_n 3, 1) := by decide +kernel
theorem d_1_25_72 : decode prog_1_method_25_code 72 = .ok (.lload 4, 2) := by decide +kernel
theorem d_1_25_74 : decode prog_1_method_25_code 74 = .ok (.invokevirtual 403, 3) := by decide +kernel
theorem w_1507 : (Cond.code ({ cls := "NumberHouse$Floats", name := "towardsZero", desc := "(J)V" } : MethodName) prog_7_method_14_code (4 : Nat) (none : Option ClassFile.FieldType)) ∈ q_tbl := q_of 1507 (by decide +kernel) (by decide +kernel)
theorem w_1504 : (Cond.methodLink "NumberHouse" (403 : Nat) ({ cls := "NumberHouse$Floats", name := "towardsZero", desc := "(J)V" } : MethodName)) ∈ q_tbl := q_of 1504 (by decide +kernel) (by decide +kernel)
theorem w_1505 : (Cond.instanceMethod ({ cls := "NumberHouse$Floats", name := "towardsZero", desc := "(J)V" } : MethodName)) ∈ q_tbl := q_of 1505 (by decide +kernel) (by decide +kernel)
theorem w_1506 : (Cond.selects "NumberHouse$Floats" ({ cls := "NumberHouse$Floats", name := "towardsZero", desc := "(J)V" } : MethodName) ({ cls := "NumberHouse$Floats", name := "towardsZero", desc := "(J)V" } : MethodName)) ∈ q_tbl := q_of 1506 (by decide +kernel) (by decide +kernel)
theorem LV_NH_403 : q_LV "NumberHouse" 403 y_Flo_towardsZero prog_7_method_14_code 4 none 1 := ⟨w_1507, w_8, w_1504, w_1505, w_1506, ⟨by decide, by decide, by decide +kernel⟩⟩
theorem d_1_25_77 : decode prog_1_method_25_code 77 = .ok (.return_, 1) := by decide +kernel
theorem d_1_25_28 : decode prog_1_method_25_code 28 = .ok (.aload_n 0, 1) := by decide +kernel
theorem d_1_25_29 : decode prog_1_method_25_code 29 = .ok (.getfield 52, 3) := by decide +kernel
theorem d_1_25_32 : decode prog_1_method_25_code 32 = .ok (.aload_n 0, 1) := by decide +kernel
theorem d_1_25_33 : decode prog_1_method_25_code 33 = .ok (.getfield 29, 3) := by decide +kernel
theorem d_1_25_36 : decode prog_1_method_25_code 36 = .ok (.iload_n 2, 1) := by decide +kernel
theorem d_1_25_37 : decode prog_1_method_25_code 37 = .ok (.aaload, 1) := by decide +kernel
theorem d_1_25_38 : decode prog_1_method_25_code 38 = .ok (.invokevirtual 400, 3) := by decide +kernel
theorem w_1503 : (Cond.code ({ cls := "NumberHouse$DecimalWork", name := "towardsZero", desc := "(LNumberHouse$Dec;)Z" } : MethodName) prog_4_method_14_code (2 : Nat) (some .boolean)) ∈ q_tbl := q_of 1503 (by decide +kernel) (by decide +kernel)
theorem w_1500 : (Cond.methodLink "NumberHouse" (400 : Nat) ({ cls := "NumberHouse$DecimalWork", name := "towardsZero", desc := "(LNumberHouse$Dec;)Z" } : MethodName)) ∈ q_tbl := q_of 1500 (by decide +kernel) (by decide +kernel)
theorem w_1501 : (Cond.instanceMethod ({ cls := "NumberHouse$DecimalWork", name := "towardsZero", desc := "(LNumberHouse$Dec;)Z" } : MethodName)) ∈ q_tbl := q_of 1501 (by decide +kernel) (by decide +kernel)
theorem w_1502 : (Cond.selects "NumberHouse$DecimalWork" ({ cls := "NumberHouse$DecimalWork", name := "towardsZero", desc := "(LNumberHouse$Dec;)Z" } : MethodName) ({ cls := "NumberHouse$DecimalWork", name := "towardsZero", desc := "(LNumberHouse$Dec;)Z" } : MethodName)) ∈ q_tbl := q_of 1502 (by decide +kernel) (by decide +kernel)
theorem LV_NH_400 : q_LV "NumberHouse" 400 y_DW_towardsZero prog_4_method_14_code 2 (some .boolean) 1 := ⟨w_1503, w_5, w_1500, w_1501, w_1502, ⟨by decide, by decide, by decide +kernel⟩⟩
theorem d_1_25_41 : decode prog_1_method_25_code 41 = .ok (.invokestatic 138, 3) := by decide +kernel
theorem d_1_25_44 : decode prog_1_method_25_code 44 = .ok (.goto 33, 3) := by decide +kernel
theorem d_1_25_4 : decode prog_1_method_25_code 4 = .ok (.aload_n 0, 1) := by decide +kernel
theorem d_1_25_5 : decode prog_1_method_25_code 5 = .ok (.getfield 43, 3) := by decide +kernel
theorem d_1_25_8 : decode prog_1_method_25_code 8 = .ok (.getfield 141, 3) := by decide +kernel
theorem d_1_25_11 : decode prog_1_method_25_code 11 = .ok (.aload_n 0, 1) := by decide +kernel
theorem d_1_25_12 : decode prog_1_method_25_code 12 = .ok (.getfield 23, 3) := by decide +kernel
theorem d_1_25_15 : decode prog_1_method_25_code 15 = .ok (.iload_n 2, 1) := by decide +kernel
theorem d_1_25_16 : decode prog_1_method_25_code 16 = .ok (.aaload, 1) := by decide +kernel
theorem d_1_25_17 : decode prog_1_method_25_code 17 = .ok (.invokevirtual 145, 3) := by decide +kernel
theorem d_1_25_20 : decode prog_1_method_25_code 20 = .ok (.goto 57, 3) := by decide +kernel
def y_NH_makeWhole : MethodName := ⟨"NumberHouse", "makeWhole", "(II)V"⟩
set_option maxRecDepth 100000 in
set_option maxHeartbeats 4000000 in
theorem c_NH_makeWhole (l : Launch) (D : va_G) (g : Nat → ClassId) (ws : va_W) (hlt : l.stackTraces = false) ( qO0 qO1 qO2 qA3 qA4 qA5 qA6 qO7 qO8 qO9 qO10 qO11 qO12 qO13 qO14 qO17 qO18 qO19 qO20 qO21 qO22 qO23 qO24 qO25 qO26 qO27 qA35 : Nat) (x1 : Int32) (x2 : Int32) (f3 : Nat → Option Nat) (f4 : Nat → Option Nat) (hO0 : ws[0]? = (some (qO0, .inr (0, [.ref qO1, .ref qO2, .ref qA3, .ref qA4, .ref qA5, .ref qA6, .ref qO7, .ref qO8, .ref qO9, .ref qO10, .ref qO11, .ref qO12, .ref qO13, .ref qO14])) : Option (Nat × va_E))) (hA3 : ws[5]? = (some (qA3, .inl (g 4, 10, .inr (.inr (.inr (.inr f3))))) : Option (Nat × va_E))) (hA4 : ws[6]? = (some (qA4, .inl (g 5, 10, .inr (.inr (.inr (.inr f4))))) : Option (Nat × va_E))) (hA5 : ws[7]? = (some (qA5, .inl (g 1, 10, .inr (.inl (fun _ => 0)))) : Option (Nat × va_E))) (hA6 : ws[8]? = (some (qA6, .inl (g 1, 10, .inr (.inl (fun _ => 0)))) : Option (Nat × va_E))) (hO7 : ws[9]? = (some (qO7, .inr (4, [.ref qO17, .ref qO18, .ref qO19, .ref qO20, .ref qO21, .ref qO22, .ref qO23, .ref qO24, .ref qO25, .ref qO26])) : Option (Nat × va_E))) (hO8 : ws[30]? = (some (qO8, .inr (5, [.ref qO27, .long 0, .ref qO7, .int 0])) : Option (Nat × va_E))) (hO9 : ws[34]? = (some (qO9, .inr (6, [.int 52, .int 1075, .int 2047, .long 0, .int 0, .ref qO7, .int 0])) : Option (Nat × va_E))) (hO10 : ws[35]? = (some (qO10, .inr (6, [.int 23, .int 150, .int 255, .long 0, .int 0, .ref qO7, .int 0])) : Option (Nat × va_E))) (hO17 : ws[10]? = (some (qO17, .inr (2, [.ref qA35, .int 0, .int 0])) : Option (Nat × va_E))) (hA35 : ws[11]? = (some (qA35, .inl (g 0, 220, .inl (fun _ => 0))) : Option (Nat × va_E))) (x1lo : 0 ≤ x1) (x1hi : x1 ≤ 3) (x2lo : 0 ≤ x2) (x2hi : x2 ≤ 9) (qW qWL qD qDN qDL : Nat → Nat) (hfW : ∀ i, i < 10 → f3 i = some (qW i)) (FW : ∀ i, i < 10 → ws[66 + 5 * i]? = (some (qW i, .inr (2, [.ref (qWL i), .int 0, .int 0])) : Option (Nat × va_E))) (FWL : ∀ i, i < 10 → ws[67 + 5 * i]? = (some (qWL i, .inl (g 0, 68, .inl (fun _ => 0))) : Option (Nat × va_E))) (hfD : ∀ i, i < 10 → f4 i = some (qD i)) (FD : ∀ i, i < 10 → ws[68 + 5 * i]? = (some (qD i, .inr (3, [.ref (qDN i), .int 0, .int 1])) : Option (Nat × va_E))) (FDN : ∀ i, i < 10 → ws[69 + 5 * i]? = (some (qDN i, .inr (2, [.ref (qDL i), .int 0, .int 0])) : Option (Nat × va_E))) (FDL : ∀ i, i < 10 → ws[70 + 5 * i]? = (some (qDL i, .inl (g 0, 108, .inl (fun _ => 0))) : Option (Nat × va_E))) : q_mV l y_NH_makeWhole prog_1_method_25_code 6 8 1 6 D g [.ref qO0, .int x1, .int x2] ws (fun u => q_un ws u [10, 11] ∧ u[10]? = (some (qO17, .inr (2, [.ref qA35, .int 0, .int 0])) : Option (Nat × va_E)) ∧ u[11]? = (some (qA35, .inl (g 0, 220, .inl (fun _ => 0))) : Option (Nat × va_E))) := by
  intro sz
  refine q_into (by decide) (Nat.le_of_ble_eq_true rfl) ?_
  intro p e s m below meth c ls hsz C0 V hl
  have hx := C0.1
  have hb := C0.2.1
  have hl : lv_has ls 6 [(0, .ref qO0), (1, .int x1), (2, .int x2)] := hl
  have hF : q_un ws ws [10, 11] := q_u0
  refine lv_iload_n hx hb d_1_25_0 rfl (lv_at hl 1 rfl) ?_
  refine lv_if_ne (tgt := 23) hx hb d_1_25_1 (by decide) (fun c1 => ?_) (fun c1 => ?_)
  ·
    refine lv_iload_n hx hb d_1_25_23 rfl (lv_at hl 1 rfl) ?_
    refine lv_iconst (v := 1) hx hb d_1_25_24 (by decide) ?_
    refine lv_icmp_ne (tgt := 47) hx hb d_1_25_25 (by decide) (fun c2 => ?_) (fun c2 => ?_)
    ·
      refine lv_aload_n hx hb d_1_25_47 rfl (lv_at hl 0 rfl) ?_
      refine lv_iload_n hx hb d_1_25_48 rfl (lv_at hl 1 rfl) ?_
      refine q_gor (post := fun r u => (¬ x1 = 2 ∧ qO10 = r ∧ ws = u) ∨ (x1 = 2 ∧ qO9 = r ∧ ws = u)) V (q_runV (As := [.int x1]) (rest := []) (d := 1) (mc := 0) (ms := 0) (ci := 0) C0 V rfl LV_NH_130 (c_NH_floatsOf l D g ws qO0 qO1 qO2 qA3 qA4 qA5 qA6 qO7 qO8 qO9 qO10 qO11 qO12 qO13 qO14 x1 hO0 (q_Ile (x := 2) (y := x1.toInt) (by decide) rfl (by have t1 : 0 ≤ x1.toInt := q_leI x1lo; have t2 : x1.toInt ≤ 3 := q_leI x1hi; have t3 : x1.toInt ≠ 0 := q_neI c1; have t4 : x1.toInt ≠ 1 := q_neI c2; omega)) x1hi _) rfl rfl hO0 rfl hl.1 rfl (Nat.le_of_ble_eq_true rfl) ⟨by decide, by decide⟩ ⟨Nat.le_of_ble_eq_true rfl, Nat.le_of_ble_eq_true rfl⟩ d_1_25_49) (fun v5 u4 H locs hp3 V => ?_)
      rcases hp3 with ⟨c6, rfl, rfl⟩ | ⟨c8, rfl, rfl⟩
      ·
        refine lv_astore_n (lv' := [(3, .ref qO10), (0, .ref qO0), (1, .int x1), (2, .int x2)]) hx hb d_1_25_52 rfl hl (by decide) rfl (fun ls hl => ?_)
        refine lv_aload_n hx hb d_1_25_53 rfl (lv_at hl 1 rfl) ?_
        refine lv_iload_n hx hb d_1_25_54 rfl (lv_at hl 2 rfl) ?_
        refine q_ti (v := 3) (q_Ieq (x := x1.toInt) (y := 3) rfl (by decide) (by have t1 : 0 ≤ x1.toInt := q_leI x1lo; have t2 : x1.toInt ≤ 3 := q_leI x1hi; have t3 : x1.toInt ≠ 0 := q_neI c1; have t4 : x1.toInt ≠ 1 := q_neI c2; have t5 : x1.toInt ≠ 2 := q_neI c6; omega)) ?_
        refine q_gor (post := fun r u => qA6 = r ∧ ws = u) V (q_runV (As := [.int 3]) (rest := []) (d := 1) (mc := 0) (ms := 0) (ci := 0) C0 V rfl LV_NH_157 (c_NH_floatRow l D g ws qO0 qO1 qO2 qA3 qA4 qA5 qA6 qO7 qO8 qO9 qO10 qO11 qO12 qO13 qO14 hO0 _) rfl rfl hO0 rfl hl.1 rfl (Nat.le_of_ble_eq_true rfl) ⟨by decide, by decide⟩ ⟨Nat.le_of_ble_eq_true rfl, Nat.le_of_ble_eq_true rfl⟩ d_1_25_55) (fun v12 u11 H locs hp10 V => ?_)
        obtain ⟨rfl, rfl⟩ := hp10
        refine lv_iload_n hx hb d_1_25_58 rfl (lv_at hl 3 rfl) ?_
        refine q_lald C0 V hA6 (q_ix (x := x2.toInt) rfl (by have t1 : 0 ≤ x2.toInt := q_leI x2lo; have t2 : x2.toInt ≤ 9 := q_leI x2hi; omega) (by have t1 : 0 ≤ x2.toInt := q_leI x2lo; have t2 : x2.toInt ≤ 9 := q_leI x2hi; omega)) d_1_25_59 ?_
        refine q_tl (v := 0) (by first | rfl | decide | simp [upd, vp_updL, sb_cl0]) ?_
        refine lv_lstore (lv' := [(4, .long 0), (3, .ref qO10), (0, .ref qO0), (1, .int x1), (2, .int x2)]) hx hb d_1_25_60 hl (by decide) rfl (fun ls hl => ?_)
        refine lv_aload_n hx hb d_1_25_62 rfl (lv_at hl 1 rfl) ?_
        refine lv_lload hx hb d_1_25_63 (lv_at hl 0 rfl) ?_
        refine q_goi V (q_runV (As := [.long 0]) (rest := []) (d := 2) (mc := 0) (ms := 0) (ci := 6) C0 V rfl LV_NH_179 (c_Flo_isFinite l D g ws 35 qO10 qO7 hO10 _) rfl rfl hO10 rfl hl.1 rfl (Nat.le_of_ble_eq_true rfl) ⟨by decide, by decide⟩ ⟨Nat.le_of_ble_eq_true rfl, Nat.le_of_ble_eq_true rfl⟩ d_1_25_65) (fun v16 u15 H locs hp14 V => ?_)
        obtain ⟨rfl, rfl⟩ := hp14
        refine q_goxv V (q_runSX (As := [.int 1]) (rest := []) (d := 7) (mc := 1) (ms := 6) C0 V rfl LS_NH_138 (c_NH_canHave l D g ws hlt 1 _) rfl hl.1 rfl (Nat.le_of_ble_eq_true rfl) ⟨by decide, by decide⟩ ⟨Nat.le_of_ble_eq_true rfl, Nat.le_of_ble_eq_true rfl⟩ d_1_25_68) (fun qx Ex ce u19 H locs hp18 V hce hcv hcl => ?_) (fun u19 H locs hp18 V => ?_)
        ·
          obtain ⟨c20, rfl, rfl⟩ := hp18
          exact absurd c20 (by decide)
        ·
          obtain ⟨c22, rfl⟩ := hp18
          refine lv_aload_n hx hb d_1_25_71 rfl (lv_at hl 1 rfl) ?_
          refine lv_lload hx hb d_1_25_72 (lv_at hl 0 rfl) ?_
          refine q_gov V (q_runV (As := [.long 0]) (rest := []) (d := 3) (mc := 0) (ms := 0) (ci := 6) C0 V rfl LV_NH_403 (c_Flo_towardsZero l D g ws 35 9 10 11 qO10 qO7 qO17 qO18 qO19 qO20 qO21 qO22 qO23 qO24 qO25 qO26 qA35 hO10 hO7 hO17 hA35 _) rfl rfl hO10 rfl hl.1 rfl (Nat.le_of_ble_eq_true rfl) ⟨by decide, by decide⟩ ⟨Nat.le_of_ble_eq_true rfl, Nat.le_of_ble_eq_true rfl⟩ d_1_25_74) (fun u25 H locs hp24 V => ?_)
          obtain ⟨hg26, hO17, hA35⟩ := hp24
          replace hF := q_uc hF hg26 (q_sc (.head _) (q_sc (.tail _ (.head _)) (fun _ h => absurd h List.not_mem_nil)))
          exact q_retv C0 V (⟨hF, hO17, hA35⟩) d_1_25_77
      ·
        refine lv_astore_n (lv' := [(3, .ref qO9), (0, .ref qO0), (1, .int x1), (2, .int x2)]) hx hb d_1_25_52 rfl hl (by decide) rfl (fun ls hl => ?_)
        refine lv_aload_n hx hb d_1_25_53 rfl (lv_at hl 1 rfl) ?_
        refine lv_iload_n hx hb d_1_25_54 rfl (lv_at hl 2 rfl) ?_
        refine q_ti (v := 2) c8 ?_
        refine q_gor (post := fun r u => qA5 = r ∧ ws = u) V (q_runV (As := [.int 2]) (rest := []) (d := 1) (mc := 0) (ms := 0) (ci := 0) C0 V rfl LV_NH_157 (c_NH_floatRow_2 l D g ws qO0 qO1 qO2 qA3 qA4 qA5 qA6 qO7 qO8 qO9 qO10 qO11 qO12 qO13 qO14 hO0 _) rfl rfl hO0 rfl hl.1 rfl (Nat.le_of_ble_eq_true rfl) ⟨by decide, by decide⟩ ⟨Nat.le_of_ble_eq_true rfl, Nat.le_of_ble_eq_true rfl⟩ d_1_25_55) (fun v29 u28 H locs hp27 V => ?_)
        obtain ⟨rfl, rfl⟩ := hp27
        refine lv_iload_n hx hb d_1_25_58 rfl (lv_at hl 3 rfl) ?_
        refine q_lald C0 V hA5 (q_ix (x := x2.toInt) rfl (by have t1 : 0 ≤ x2.toInt := q_leI x2lo; have t2 : x2.toInt ≤ 9 := q_leI x2hi; omega) (by have t1 : 0 ≤ x2.toInt := q_leI x2lo; have t2 : x2.toInt ≤ 9 := q_leI x2hi; omega)) d_1_25_59 ?_
        refine q_tl (v := 0) (by first | rfl | decide | simp [upd, vp_updL, sb_cl0]) ?_
        refine lv_lstore (lv' := [(4, .long 0), (3, .ref qO9), (0, .ref qO0), (1, .int x1), (2, .int x2)]) hx hb d_1_25_60 hl (by decide) rfl (fun ls hl => ?_)
        refine lv_aload_n hx hb d_1_25_62 rfl (lv_at hl 1 rfl) ?_
        refine lv_lload hx hb d_1_25_63 (lv_at hl 0 rfl) ?_
        refine q_goi V (q_runV (As := [.long 0]) (rest := []) (d := 2) (mc := 0) (ms := 0) (ci := 6) C0 V rfl LV_NH_179 (c_Flo_isFinite_2 l D g ws 34 qO9 qO7 hO9 _) rfl rfl hO9 rfl hl.1 rfl (Nat.le_of_ble_eq_true rfl) ⟨by decide, by decide⟩ ⟨Nat.le_of_ble_eq_true rfl, Nat.le_of_ble_eq_true rfl⟩ d_1_25_65) (fun v33 u32 H locs hp31 V => ?_)
        obtain ⟨rfl, rfl⟩ := hp31
        refine q_goxv V (q_runSX (As := [.int 1]) (rest := []) (d := 7) (mc := 1) (ms := 6) C0 V rfl LS_NH_138 (c_NH_canHave l D g ws hlt 1 _) rfl hl.1 rfl (Nat.le_of_ble_eq_true rfl) ⟨by decide, by decide⟩ ⟨Nat.le_of_ble_eq_true rfl, Nat.le_of_ble_eq_true rfl⟩ d_1_25_68) (fun qx Ex ce u36 H locs hp35 V hce hcv hcl => ?_) (fun u36 H locs hp35 V => ?_)
        ·
          obtain ⟨c37, rfl, rfl⟩ := hp35
          exact absurd c37 (by decide)
        ·
          obtain ⟨c39, rfl⟩ := hp35
          refine lv_aload_n hx hb d_1_25_71 rfl (lv_at hl 1 rfl) ?_
          refine lv_lload hx hb d_1_25_72 (lv_at hl 0 rfl) ?_
          refine q_gov V (q_runV (As := [.long 0]) (rest := []) (d := 3) (mc := 0) (ms := 0) (ci := 6) C0 V rfl LV_NH_403 (c_Flo_towardsZero_2 l D g ws 34 9 10 11 qO9 qO7 qO17 qO18 qO19 qO20 qO21 qO22 qO23 qO24 qO25 qO26 qA35 hO9 hO7 hO17 hA35 _) rfl rfl hO9 rfl hl.1 rfl (Nat.le_of_ble_eq_true rfl) ⟨by decide, by decide⟩ ⟨Nat.le_of_ble_eq_true rfl, Nat.le_of_ble_eq_true rfl⟩ d_1_25_74) (fun u42 H locs hp41 V => ?_)
          obtain ⟨hg43, hO17, hA35⟩ := hp41
          replace hF := q_uc hF hg43 (q_sc (.head _) (q_sc (.tail _ (.head _)) (fun _ h => absurd h List.not_mem_nil)))
          exact q_retv C0 V (⟨hF, hO17, hA35⟩) d_1_25_77
    ·
      refine lv_aload_n hx hb d_1_25_28 rfl (lv_at hl 0 rfl) ?_
      refine q_get (ci := 0) (j := 7) (v := .ref qO8) C0 V i_NH rfl rfl hO0 (by decide) w_431 rfl d_1_25_29 ?_
      refine lv_aload_n hx hb d_1_25_32 rfl (lv_at hl 0 rfl) ?_
      refine q_get (ci := 0) (j := 3) (v := .ref qA4) C0 V i_NH rfl rfl hO0 (by decide) w_427 rfl d_1_25_33 ?_
      refine lv_iload_n hx hb d_1_25_36 rfl (lv_at hl 2 rfl) ?_
      have r44 : x2.toNatClampNeg < 10 := (q_r10 (x := x2.toInt) rfl (by have t1 : 0 ≤ x2.toInt := q_leI x2lo; have t2 : x2.toInt ≤ 9 := q_leI x2hi; omega) (by have t1 : 0 ≤ x2.toInt := q_leI x2lo; have t2 : x2.toInt ≤ 9 := q_leI x2hi; omega))
      have hr45 : ws[68 + 5 * x2.toNatClampNeg]? = (some (qD x2.toNatClampNeg, .inr (3, [.ref (qDN x2.toNatClampNeg), .int 0, .int 1])) : Option (Nat × va_E)) := FD _ r44
      have hr46 : ws[69 + 5 * x2.toNatClampNeg]? = (some (qDN x2.toNatClampNeg, .inr (2, [.ref (qDL x2.toNatClampNeg), .int 0, .int 0])) : Option (Nat × va_E)) := FDN _ r44
      have hr47 : ws[70 + 5 * x2.toNatClampNeg]? = (some (qDL x2.toNatClampNeg, .inl (g 0, 108, .inl (fun _ => 0))) : Option (Nat × va_E)) := FDL _ r44
      have hh : x2.toNatClampNeg < 10 := (q_r10 (x := x2.toInt) rfl (by have t1 : 0 ≤ x2.toInt := q_leI x2lo; have t2 : x2.toInt ≤ 9 := q_leI x2hi; omega) (by have t1 : 0 ≤ x2.toInt := q_leI x2lo; have t2 : x2.toInt ≤ 9 := q_leI x2hi; omega))
      refine q_aald (t := 5) (q := qD x2.toNatClampNeg) C0 V hA4 rfl (q_ix (x := x2.toInt) rfl (by have t1 : 0 ≤ x2.toInt := q_leI x2lo; have t2 : x2.toInt ≤ 9 := q_leI x2hi; omega) (by have t1 : 0 ≤ x2.toInt := q_leI x2lo; have t2 : x2.toInt ≤ 9 := q_leI x2hi; omega)) (hfD _ hh) d_1_25_37 ?_
      refine q_goi V (q_runV (As := [.ref (qD x2.toNatClampNeg)]) (rest := []) (d := 3) (mc := 0) (ms := 0) (ci := 5) C0 V rfl LV_NH_400 (c_DW_towardsZero l D g ws 30 (68 + 5 * x2.toNatClampNeg) 9 (69 + 5 * x2.toNatClampNeg) 10 (70 + 5 * x2.toNatClampNeg) 11 qO8 (qD x2.toNatClampNeg) qO27 qO7 (qDN x2.toNatClampNeg) qO17 qO18 qO19 qO20 qO21 qO22 qO23 qO24 qO25 qO26 (qDL x2.toNatClampNeg) qA35 hO8 hr45 hO7 hr46 hO17 hr47 hA35 (q_f5 rfl) (q_f5 rfl) _) rfl rfl hO8 rfl hl.1 rfl (Nat.le_of_ble_eq_true rfl) ⟨by decide, by decide⟩ ⟨Nat.le_of_ble_eq_true rfl, Nat.le_of_ble_eq_true rfl⟩ d_1_25_38) (fun v50 u49 H locs hp48 V => ?_)
      obtain ⟨rfl, hg51, hO17, hA35⟩ := hp48
      replace hF := q_uc hF hg51 (q_sc (.head _) (q_sc (.tail _ (.head _)) (fun _ h => absurd h List.not_mem_nil)))
      refine q_goxv V (q_runSX (As := [.int 1]) (rest := []) (d := 7) (mc := 1) (ms := 6) C0 V rfl LS_NH_138 (c_NH_canHave l D g u49 hlt 1 _) rfl hl.1 rfl (Nat.le_of_ble_eq_true rfl) ⟨by decide, by decide⟩ ⟨Nat.le_of_ble_eq_true rfl, Nat.le_of_ble_eq_true rfl⟩ d_1_25_41) (fun qx Ex ce u53 H locs hp52 V hce hcv hcl => ?_) (fun u53 H locs hp52 V => ?_)
      ·
        obtain ⟨c54, rfl, rfl⟩ := hp52
        exact absurd c54 (by decide)
      ·
        obtain ⟨c56, rfl⟩ := hp52
        refine lv_goto (tgt := 77) hx hb d_1_25_44 (by decide) ?_
        exact q_retv C0 V (⟨hF, hO17, hA35⟩) d_1_25_77
  ·
    refine lv_aload_n hx hb d_1_25_4 rfl (lv_at hl 0 rfl) ?_
    refine q_get (ci := 0) (j := 6) (v := .ref qO7) C0 V i_NH rfl rfl hO0 (by decide) w_430 rfl d_1_25_5 ?_
    refine q_get (ci := 4) (j := 0) (v := .ref qO17) C0 V i_Mil rfl rfl hO7 (by decide) w_112 rfl d_1_25_8 ?_
    refine lv_aload_n hx hb d_1_25_11 rfl (lv_at hl 0 rfl) ?_
    refine q_get (ci := 0) (j := 2) (v := .ref qA3) C0 V i_NH rfl rfl hO0 (by decide) w_426 rfl d_1_25_12 ?_
    refine lv_iload_n hx hb d_1_25_15 rfl (lv_at hl 2 rfl) ?_
    have r58 : x2.toNatClampNeg < 10 := (q_r10 (x := x2.toInt) rfl (by have t1 : 0 ≤ x2.toInt := q_leI x2lo; have t2 : x2.toInt ≤ 9 := q_leI x2hi; omega) (by have t1 : 0 ≤ x2.toInt := q_leI x2lo; have t2 : x2.toInt ≤ 9 := q_leI x2hi; omega))
    have hr59 : ws[66 + 5 * x2.toNatClampNeg]? = (some (qW x2.toNatClampNeg, .inr (2, [.ref (qWL x2.toNatClampNeg), .int 0, .int 0])) : Option (Nat × va_E)) := FW _ r58
    have hr60 : ws[67 + 5 * x2.toNatClampNeg]? = (some (qWL x2.toNatClampNeg, .inl (g 0, 68, .inl (fun _ => 0))) : Option (Nat × va_E)) := FWL _ r58
    have hh : x2.toNatClampNeg < 10 := (q_r10 (x := x2.toInt) rfl (by have t1 : 0 ≤ x2.toInt := q_leI x2lo; have t2 : x2.toInt ≤ 9 := q_leI x2hi; omega) (by have t1 : 0 ≤ x2.toInt := q_leI x2lo; have t2 : x2.toInt ≤ 9 := q_leI x2hi; omega))
    refine q_aald (t := 4) (q := qW x2.toNatClampNeg) C0 V hA3 rfl (q_ix (x := x2.toInt) rfl (by have t1 : 0 ≤ x2.toInt := q_leI x2lo; have t2 : x2.toInt ≤ 9 := q_leI x2hi; omega) (by have t1 : 0 ≤ x2.toInt := q_leI x2lo; have t2 : x2.toInt ≤ 9 := q_leI x2hi; omega)) (hfW _ hh) d_1_25_16 ?_
    refine q_gov V (q_runV (As := [.ref (qW x2.toNatClampNeg)]) (rest := []) (d := 2) (mc := 0) (ms := 0) (ci := 2) C0 V rfl LV_NH_145 (c_Big_copy_3 l D g ws 10 (66 + 5 * x2.toNatClampNeg) 11 (67 + 5 * x2.toNatClampNeg) qO17 (qW x2.toNatClampNeg) qA35 (qWL x2.toNatClampNeg) hO17 hr59 hA35 hr60 (q_f5 rfl) (q_f5 rfl) _) rfl rfl hO17 rfl hl.1 rfl (Nat.le_of_ble_eq_true rfl) ⟨by decide, by decide⟩ ⟨Nat.le_of_ble_eq_true rfl, Nat.le_of_ble_eq_true rfl⟩ d_1_25_17) (fun u62 H locs hp61 V => ?_)
    obtain ⟨hg63, hO17, hA35⟩ := hp61
    replace hF := q_uc hF hg63 (q_sc (.head _) (q_sc (.tail _ (.head _)) (fun _ h => absurd h List.not_mem_nil)))
    refine lv_goto (tgt := 77) hx hb d_1_25_20 (by decide) ?_
    refine W.widen (k := 1) (n := 6) (Nat.le_of_ble_eq_true rfl) (Nat.le_of_ble_eq_true rfl) ?_
    exact q_retv C0 V (⟨hF, hO17, hA35⟩) d_1_25_77
theorem d_1_16_0 : decode prog_1_method_16_code 0 = .ok (.iload_n 1, 1) := by decide +kernel
theorem d_1_16_1 : decode prog_1_method_16_code 1 = .ok (.iload_n 2, 1) := by decide +kernel
theorem d_1_16_2 : decode prog_1_method_16_code 2 = .ok (.invokestatic 118, 3) := by decide +kernel
theorem d_1_16_5 : decode prog_1_method_16_code 5 = .ok (.iload_n 3, 1) := by decide +kernel
theorem d_1_16_6 : decode prog_1_method_16_code 6 = .ok (.iload 4, 2) := by decide +kernel
theorem d_1_16_8 : decode prog_1_method_16_code 8 = .ok (.invokestatic 118, 3) := by decide +kernel
theorem d_1_16_11 : decode prog_1_method_16_code 11 = .ok (.iload_n 3, 1) := by decide +kernel
theorem d_1_16_12 : decode prog_1_method_16_code 12 = .ok (.ifCond .ne 18, 3) := by decide +kernel
theorem d_1_16_30 : decode prog_1_method_16_code 30 = .ok (.iload_n 3, 1) := by decide +kernel
theorem d_1_16_31 : decode prog_1_method_16_code 31 = .ok (.iconst 1, 1) := by decide +kernel
theorem d_1_16_32 : decode prog_1_method_16_code 32 = .ok (.if_icmp .ne 18, 3) := by decide +kernel
theorem d_1_16_50 : decode prog_1_method_16_code 50 = .ok (.aload_n 0, 1) := by decide +kernel
theorem d_1_16_51 : decode prog_1_method_16_code 51 = .ok (.iload_n 3, 1) := by decide +kernel
theorem d_1_16_52 : decode prog_1_method_16_code 52 = .ok (.invokevirtual 157, 3) := by decide +kernel
theorem d_1_16_55 : decode prog_1_method_16_code 55 = .ok (.iload 4, 2) := by decide +kernel
theorem d_1_16_57 : decode prog_1_method_16_code 57 = .ok (.aload_n 0, 1) := by decide +kernel
theorem d_1_16_58 : decode prog_1_method_16_code 58 = .ok (.iload_n 1, 1) := by decide +kernel
theorem d_1_16_59 : decode prog_1_method_16_code 59 = .ok (.iload_n 2, 1) := by decide +kernel
theorem d_1_16_60 : decode prog_1_method_16_code 60 = .ok (.aload_n 0, 1) := by decide +kernel
theorem d_1_16_61 : decode prog_1_method_16_code 61 = .ok (.iload_n 3, 1) := by decide +kernel
theorem d_1_16_62 : decode prog_1_method_16_code 62 = .ok (.invokevirtual 130, 3) := by decide +kernel
theorem d_1_16_65 : decode prog_1_method_16_code 65 = .ok (.invokevirtual 323, 3) := by decide +kernel
theorem w_1520 : (Cond.code ({ cls := "NumberHouse", name := "madeFloat", desc := "(IILNumberHouse$Floats;)J" } : MethodName) prog_1_method_27_code (5 : Nat) (some .long)) ∈ q_tbl := q_of 1520 (by decide +kernel) (by decide +kernel)
theorem w_1517 : (Cond.methodLink "NumberHouse" (323 : Nat) ({ cls := "NumberHouse", name := "madeFloat", desc := "(IILNumberHouse$Floats;)J" } : MethodName)) ∈ q_tbl := q_of 1517 (by decide +kernel) (by decide +kernel)
theorem w_1519 : (Cond.instanceMethod ({ cls := "NumberHouse", name := "madeFloat", desc := "(IILNumberHouse$Floats;)J" } : MethodName)) ∈ q_tbl := q_of 1519 (by decide +kernel) (by decide +kernel)
theorem ws_35 : Cond.selects "NumberHouse" (⟨"NumberHouse", "madeFloat", "(IILNumberHouse$Floats;)J"⟩ : MethodName) (⟨"NumberHouse", "madeFloat", "(IILNumberHouse$Floats;)J"⟩ : MethodName) ∈ q_tbl := q_ofs 35 (by decide +kernel) (by decide +kernel)
theorem LV_NH_323 : q_LV "NumberHouse" 323 y_NH_madeFloat prog_1_method_27_code 5 (some .long) 3 := ⟨w_1520, w_1, w_1517, w_1519, ws_35, ⟨by decide, by decide, by decide +kernel⟩⟩
theorem d_1_16_68 : decode prog_1_method_16_code 68 = .ok (.lastore, 1) := by decide +kernel
theorem d_1_16_69 : decode prog_1_method_16_code 69 = .ok (.return_, 1) := by decide +kernel
theorem d_1_16_35 : decode prog_1_method_16_code 35 = .ok (.aload_n 0, 1) := by decide +kernel
theorem d_1_16_36 : decode prog_1_method_16_code 36 = .ok (.iload_n 1, 1) := by decide +kernel
theorem d_1_16_37 : decode prog_1_method_16_code 37 = .ok (.iload_n 2, 1) := by decide +kernel
theorem d_1_16_38 : decode prog_1_method_16_code 38 = .ok (.invokevirtual 320, 3) := by decide +kernel
theorem w_1511 : (Cond.code ({ cls := "NumberHouse", name := "makeDecimal", desc := "(II)V" } : MethodName) prog_1_method_26_code (6 : Nat) (none : Option ClassFile.FieldType)) ∈ q_tbl := q_of 1511 (by decide +kernel) (by decide +kernel)
theorem w_1508 : (Cond.methodLink "NumberHouse" (320 : Nat) ({ cls := "NumberHouse", name := "makeDecimal", desc := "(II)V" } : MethodName)) ∈ q_tbl := q_of 1508 (by decide +kernel) (by decide +kernel)
theorem w_1510 : (Cond.instanceMethod ({ cls := "NumberHouse", name := "makeDecimal", desc := "(II)V" } : MethodName)) ∈ q_tbl := q_of 1510 (by decide +kernel) (by decide +kernel)
theorem ws_34 : Cond.selects "NumberHouse" (⟨"NumberHouse", "makeDecimal", "(II)V"⟩ : MethodName) (⟨"NumberHouse", "makeDecimal", "(II)V"⟩ : MethodName) ∈ q_tbl := q_ofs 34 (by decide +kernel) (by decide +kernel)
theorem LV_NH_320 : q_LV "NumberHouse" 320 y_NH_makeDecimal prog_1_method_26_code 6 none 2 := ⟨w_1511, w_1, w_1508, w_1510, ws_34, ⟨by decide, by decide, by decide +kernel⟩⟩
theorem d_1_16_41 : decode prog_1_method_16_code 41 = .ok (.aload_n 0, 1) := by decide +kernel
theorem d_1_16_42 : decode prog_1_method_16_code 42 = .ok (.iload 4, 2) := by decide +kernel
theorem d_1_16_44 : decode prog_1_method_16_code 44 = .ok (.invokevirtual 281, 3) := by decide +kernel
theorem d_1_16_47 : decode prog_1_method_16_code 47 = .ok (.goto 22, 3) := by decide +kernel
theorem d_1_16_15 : decode prog_1_method_16_code 15 = .ok (.aload_n 0, 1) := by decide +kernel
theorem d_1_16_16 : decode prog_1_method_16_code 16 = .ok (.iload_n 1, 1) := by decide +kernel
theorem d_1_16_17 : decode prog_1_method_16_code 17 = .ok (.iload_n 2, 1) := by decide +kernel
theorem d_1_16_18 : decode prog_1_method_16_code 18 = .ok (.invokevirtual 317, 3) := by decide +kernel
theorem w_1499 : (Cond.code ({ cls := "NumberHouse", name := "makeWhole", desc := "(II)V" } : MethodName) prog_1_method_25_code (6 : Nat) (none : Option ClassFile.FieldType)) ∈ q_tbl := q_of 1499 (by decide +kernel) (by decide +kernel)
theorem w_1496 : (Cond.methodLink "NumberHouse" (317 : Nat) ({ cls := "NumberHouse", name := "makeWhole", desc := "(II)V" } : MethodName)) ∈ q_tbl := q_of 1496 (by decide +kernel) (by decide +kernel)
theorem w_1498 : (Cond.instanceMethod ({ cls := "NumberHouse", name := "makeWhole", desc := "(II)V" } : MethodName)) ∈ q_tbl := q_of 1498 (by decide +kernel) (by decide +kernel)
theorem ws_33 : Cond.selects "NumberHouse" (⟨"NumberHouse", "makeWhole", "(II)V"⟩ : MethodName) (⟨"NumberHouse", "makeWhole", "(II)V"⟩ : MethodName) ∈ q_tbl := q_ofs 33 (by decide +kernel) (by decide +kernel)
theorem LV_NH_317 : q_LV "NumberHouse" 317 y_NH_makeWhole prog_1_method_25_code 6 none 2 := ⟨w_1499, w_1, w_1496, w_1498, ws_33, ⟨by decide, by decide, by decide +kernel⟩⟩
theorem d_1_16_21 : decode prog_1_method_16_code 21 = .ok (.aload_n 0, 1) := by decide +kernel
theorem d_1_16_22 : decode prog_1_method_16_code 22 = .ok (.iload 4, 2) := by decide +kernel
theorem d_1_16_24 : decode prog_1_method_16_code 24 = .ok (.invokevirtual 243, 3) := by decide +kernel
theorem d_1_16_27 : decode prog_1_method_16_code 27 = .ok (.goto 42, 3) := by decide +kernel
def y_NH_convert : MethodName := ⟨"NumberHouse", "convert", "(IIII)V"⟩
set_option maxRecDepth 100000 in
set_option maxHeartbeats 4000000 in
/-- convert on a fresh object -/
theorem c_NH_convert (l : Launch) (D : va_G) (g : Nat → ClassId) (ws : va_W) (hlt : l.stackTraces = false) ( qO0 qO1 qO2 qA3 qA4 qA5 qA6 qO7 qO8 qO9 qO10 qO11 qO12 qO13 qO14 qO17 qO18 qO19 qO20 qO21 qO22 qO23 qO24 qO25 qO26 qO27 qA35 : Nat) (x1 : Int32) (x2 : Int32) (x3 : Int32) (x4 : Int32) (f5 : Nat → Option Nat) (f6 : Nat → Option Nat) (hO0 : ws[0]? = (some (qO0, .inr (0, [.ref qO1, .ref qO2, .ref qA3, .ref qA4, .ref qA5, .ref qA6, .ref qO7, .ref qO8, .ref qO9, .ref qO10, .ref qO11, .ref qO12, .ref qO13, .ref qO14])) : Option (Nat × va_E))) (hA3 : ws[5]? = (some (qA3, .inl (g 4, 10, .inr (.inr (.inr (.inr f5))))) : Option (Nat × va_E))) (hA4 : ws[6]? = (some (qA4, .inl (g 5, 10, .inr (.inr (.inr (.inr f6))))) : Option (Nat × va_E))) (hA5 : ws[7]? = (some (qA5, .inl (g 1, 10, .inr (.inl (fun _ => 0)))) : Option (Nat × va_E))) (hA6 : ws[8]? = (some (qA6, .inl (g 1, 10, .inr (.inl (fun _ => 0)))) : Option (Nat × va_E))) (hO7 : ws[9]? = (some (qO7, .inr (4, [.ref qO17, .ref qO18, .ref qO19, .ref qO20, .ref qO21, .ref qO22, .ref qO23, .ref qO24, .ref qO25, .ref qO26])) : Option (Nat × va_E))) (hO8 : ws[30]? = (some (qO8, .inr (5, [.ref qO27, .long 0, .ref qO7, .int 0])) : Option (Nat × va_E))) (hO9 : ws[34]? = (some (qO9, .inr (6, [.int 52, .int 1075, .int 2047, .long 0, .int 0, .ref qO7, .int 0])) : Option (Nat × va_E))) (hO10 : ws[35]? = (some (qO10, .inr (6, [.int 23, .int 150, .int 255, .long 0, .int 0, .ref qO7, .int 0])) : Option (Nat × va_E))) (hO17 : ws[10]? = (some (qO17, .inr (2, [.ref qA35, .int 0, .int 0])) : Option (Nat × va_E))) (hA35 : ws[11]? = (some (qA35, .inl (g 0, 220, .inl (fun _ => 0))) : Option (Nat × va_E))) (qW qWL qD qDN qDL : Nat → Nat) (hfW : ∀ i, i < 10 → f5 i = some (qW i)) (FW : ∀ i, i < 10 → ws[66 + 5 * i]? = (some (qW i, .inr (2, [.ref (qWL i), .int 0, .int 0])) : Option (Nat × va_E))) (FWL : ∀ i, i < 10 → ws[67 + 5 * i]? = (some (qWL i, .inl (g 0, 68, .inl (fun _ => 0))) : Option (Nat × va_E))) (hfD : ∀ i, i < 10 → f6 i = some (qD i)) (FD : ∀ i, i < 10 → ws[68 + 5 * i]? = (some (qD i, .inr (3, [.ref (qDN i), .int 0, .int 1])) : Option (Nat × va_E))) (FDN : ∀ i, i < 10 → ws[69 + 5 * i]? = (some (qDN i, .inr (2, [.ref (qDL i), .int 0, .int 0])) : Option (Nat × va_E))) (FDL : ∀ i, i < 10 → ws[70 + 5 * i]? = (some (qDL i, .inl (g 0, 108, .inl (fun _ => 0))) : Option (Nat × va_E))) : q_xV l y_NH_convert prog_1_method_16_code 5 9 4 24 D g [.ref qO0, .int x1, .int x2, .int x3, .int x4] ws (fun u => (((0 ≤ x1.toInt ∧ x1.toInt ≤ 3) ∧ (0 ≤ x2.toInt ∧ x2.toInt ≤ 9) ∧ (0 ≤ x3.toInt ∧ x3.toInt ≤ 3) ∧ (0 ≤ x4.toInt ∧ x4.toInt ≤ 9))) ∧ q_ge 116 ws u) (fun E u => (("java/lang/IllegalArgumentException" = E ∧ (¬ ((0 ≤ x1.toInt ∧ x1.toInt ≤ 3) ∧ (0 ≤ x2.toInt ∧ x2.toInt ≤ 9) ∧ (0 ≤ x3.toInt ∧ x3.toInt ≤ 3) ∧ (0 ≤ x4.toInt ∧ x4.toInt ≤ 9))))) ∧ q_ge 116 ws u) := by
  intro sz
  refine q_intoX (by decide) (Nat.le_of_ble_eq_true rfl) ?_
  intro p e s m below meth c ls hsz C0 V hno hl
  have hx := C0.1
  have hb := C0.2.1
  have hl : lv_has ls 5 [(0, .ref qO0), (1, .int x1), (2, .int x2), (3, .int x3), (4, .int x4)] := hl
  have hF : q_ge 116 ws ws := q_g0
  refine lv_iload_n hx hb d_1_16_0 rfl (lv_at hl 1 rfl) ?_
  refine lv_iload_n hx hb d_1_16_1 rfl (lv_at hl 2 rfl) ?_
  refine q_goxv V (q_runSX (As := [.int x1, .int x2]) (rest := []) (d := 8) (mc := 1) (ms := 6) C0 V rfl LS_NH_118 (c_NH_needRegister l D g ws hlt x1 x2 _) rfl hl.1 rfl (Nat.le_of_ble_eq_true rfl) ⟨by decide, by decide⟩ ⟨Nat.le_of_ble_eq_true rfl, Nat.le_of_ble_eq_true rfl⟩ d_1_16_2) (fun qx Ex ce u2 H locs hp1 V hce hcv hcl => ?_) (fun u2 H locs hp1 V => ?_)
  ·
    rcases hp1 with ⟨c3, rfl, rfl⟩ | ⟨c5, c6, rfl, rfl⟩ | ⟨c8, c9, c10, rfl, rfl⟩ | ⟨c12, c13, c14, c15, rfl, rfl⟩
    ·
      exact q_outT hno C0 V (⟨⟨rfl, (show ¬ ((0 ≤ x1.toInt ∧ x1.toInt ≤ 3) ∧ (0 ≤ x2.toInt ∧ x2.toInt ≤ 9) ∧ (0 ≤ x3.toInt ∧ x3.toInt ≤ 3) ∧ (0 ≤ x4.toInt ∧ x4.toInt ≤ 9)) from by have t1 : x1.toInt < 0 := q_ltI c3; omega)⟩, hF⟩) hce hcv hcl (Nat.le_of_ble_eq_true rfl) (Nat.le_of_ble_eq_true rfl)
    ·
      exact q_outT hno C0 V (⟨⟨rfl, (show ¬ ((0 ≤ x1.toInt ∧ x1.toInt ≤ 3) ∧ (0 ≤ x2.toInt ∧ x2.toInt ≤ 9) ∧ (0 ≤ x3.toInt ∧ x3.toInt ≤ 3) ∧ (0 ≤ x4.toInt ∧ x4.toInt ≤ 9)) from by have t1 : 0 ≤ x1.toInt := q_nltI c5; have t2 : 3 < x1.toInt := q_ltI c6; omega)⟩, hF⟩) hce hcv hcl (Nat.le_of_ble_eq_true rfl) (Nat.le_of_ble_eq_true rfl)
    ·
      exact q_outT hno C0 V (⟨⟨rfl, (show ¬ ((0 ≤ x1.toInt ∧ x1.toInt ≤ 3) ∧ (0 ≤ x2.toInt ∧ x2.toInt ≤ 9) ∧ (0 ≤ x3.toInt ∧ x3.toInt ≤ 3) ∧ (0 ≤ x4.toInt ∧ x4.toInt ≤ 9)) from by have t1 : 0 ≤ x1.toInt := q_nltI c8; have t2 : x1.toInt ≤ 3 := q_nltI c9; have t3 : x2.toInt < 0 := q_ltI c10; omega)⟩, hF⟩) hce hcv hcl (Nat.le_of_ble_eq_true rfl) (Nat.le_of_ble_eq_true rfl)
    ·
      exact q_outT hno C0 V (⟨⟨rfl, (show ¬ ((0 ≤ x1.toInt ∧ x1.toInt ≤ 3) ∧ (0 ≤ x2.toInt ∧ x2.toInt ≤ 9) ∧ (0 ≤ x3.toInt ∧ x3.toInt ≤ 3) ∧ (0 ≤ x4.toInt ∧ x4.toInt ≤ 9)) from by have t1 : 0 ≤ x1.toInt := q_nltI c12; have t2 : x1.toInt ≤ 3 := q_nltI c13; have t3 : 0 ≤ x2.toInt := q_nltI c14; have t4 : 10 ≤ x2.toInt := q_leI c15; omega)⟩, hF⟩) hce hcv hcl (Nat.le_of_ble_eq_true rfl) (Nat.le_of_ble_eq_true rfl)
  ·
    obtain ⟨c17, c18, c19, c20, rfl⟩ := hp1
    refine lv_iload_n hx hb d_1_16_5 rfl (lv_at hl 3 rfl) ?_
    refine lv_iload hx hb d_1_16_6 (lv_at hl 4 rfl) ?_
    refine q_goxv V (q_runSX (As := [.int x3, .int x4]) (rest := []) (d := 8) (mc := 1) (ms := 6) C0 V rfl LS_NH_118 (c_NH_needRegister l D g ws hlt x3 x4 _) rfl hl.1 rfl (Nat.le_of_ble_eq_true rfl) ⟨by decide, by decide⟩ ⟨Nat.le_of_ble_eq_true rfl, Nat.le_of_ble_eq_true rfl⟩ d_1_16_8) (fun qx Ex ce u23 H locs hp22 V hce hcv hcl => ?_) (fun u23 H locs hp22 V => ?_)
    ·
      rcases hp22 with ⟨c24, rfl, rfl⟩ | ⟨c26, c27, rfl, rfl⟩ | ⟨c29, c30, c31, rfl, rfl⟩ | ⟨c33, c34, c35, c36, rfl, rfl⟩
      ·
        exact q_outT hno C0 V (⟨⟨rfl, (show ¬ ((0 ≤ x1.toInt ∧ x1.toInt ≤ 3) ∧ (0 ≤ x2.toInt ∧ x2.toInt ≤ 9) ∧ (0 ≤ x3.toInt ∧ x3.toInt ≤ 3) ∧ (0 ≤ x4.toInt ∧ x4.toInt ≤ 9)) from by have t1 : 0 ≤ x1.toInt := q_nltI c17; have t2 : x1.toInt ≤ 3 := q_nltI c18; have t3 : 0 ≤ x2.toInt := q_nltI c19; have t4 : x2.toInt < 10 := q_nleI c20; have t5 : x3.toInt < 0 := q_ltI c24; omega)⟩, hF⟩) hce hcv hcl (Nat.le_of_ble_eq_true rfl) (Nat.le_of_ble_eq_true rfl)
      ·
        exact q_outT hno C0 V (⟨⟨rfl, (show ¬ ((0 ≤ x1.toInt ∧ x1.toInt ≤ 3) ∧ (0 ≤ x2.toInt ∧ x2.toInt ≤ 9) ∧ (0 ≤ x3.toInt ∧ x3.toInt ≤ 3) ∧ (0 ≤ x4.toInt ∧ x4.toInt ≤ 9)) from by have t1 : 0 ≤ x1.toInt := q_nltI c17; have t2 : x1.toInt ≤ 3 := q_nltI c18; have t3 : 0 ≤ x2.toInt := q_nltI c19; have t4 : x2.toInt < 10 := q_nleI c20; have t5 : 0 ≤ x3.toInt := q_nltI c26; have t6 : 3 < x3.toInt := q_ltI c27; omega)⟩, hF⟩) hce hcv hcl (Nat.le_of_ble_eq_true rfl) (Nat.le_of_ble_eq_true rfl)
      ·
        exact q_outT hno C0 V (⟨⟨rfl, (show ¬ ((0 ≤ x1.toInt ∧ x1.toInt ≤ 3) ∧ (0 ≤ x2.toInt ∧ x2.toInt ≤ 9) ∧ (0 ≤ x3.toInt ∧ x3.toInt ≤ 3) ∧ (0 ≤ x4.toInt ∧ x4.toInt ≤ 9)) from by have t1 : 0 ≤ x1.toInt := q_nltI c17; have t2 : x1.toInt ≤ 3 := q_nltI c18; have t3 : 0 ≤ x2.toInt := q_nltI c19; have t4 : x2.toInt < 10 := q_nleI c20; have t5 : 0 ≤ x3.toInt := q_nltI c29; have t6 : x3.toInt ≤ 3 := q_nltI c30; have t7 : x4.toInt < 0 := q_ltI c31; omega)⟩, hF⟩) hce hcv hcl (Nat.le_of_ble_eq_true rfl) (Nat.le_of_ble_eq_true rfl)
      ·
        exact q_outT hno C0 V (⟨⟨rfl, (show ¬ ((0 ≤ x1.toInt ∧ x1.toInt ≤ 3) ∧ (0 ≤ x2.toInt ∧ x2.toInt ≤ 9) ∧ (0 ≤ x3.toInt ∧ x3.toInt ≤ 3) ∧ (0 ≤ x4.toInt ∧ x4.toInt ≤ 9)) from by have t1 : 0 ≤ x1.toInt := q_nltI c17; have t2 : x1.toInt ≤ 3 := q_nltI c18; have t3 : 0 ≤ x2.toInt := q_nltI c19; have t4 : x2.toInt < 10 := q_nleI c20; have t5 : 0 ≤ x3.toInt := q_nltI c33; have t6 : x3.toInt ≤ 3 := q_nltI c34; have t7 : 0 ≤ x4.toInt := q_nltI c35; have t8 : 10 ≤ x4.toInt := q_leI c36; omega)⟩, hF⟩) hce hcv hcl (Nat.le_of_ble_eq_true rfl) (Nat.le_of_ble_eq_true rfl)
    ·
      obtain ⟨c38, c39, c40, c41, rfl⟩ := hp22
      refine lv_iload_n hx hb d_1_16_11 rfl (lv_at hl 3 rfl) ?_
      refine lv_if_ne (tgt := 30) hx hb d_1_16_12 (by decide) (fun c43 => ?_) (fun c43 => ?_)
      ·
        refine lv_iload_n hx hb d_1_16_30 rfl (lv_at hl 3 rfl) ?_
        refine lv_iconst (v := 1) hx hb d_1_16_31 (by decide) ?_
        refine lv_icmp_ne (tgt := 50) hx hb d_1_16_32 (by decide) (fun c44 => ?_) (fun c44 => ?_)
        ·
          refine lv_aload_n hx hb d_1_16_50 rfl (lv_at hl 0 rfl) ?_
          refine lv_iload_n hx hb d_1_16_51 rfl (lv_at hl 3 rfl) ?_
          refine q_gor (post := fun r u => (¬ x3 = 2 ∧ qA6 = r ∧ ws = u) ∨ (x3 = 2 ∧ qA5 = r ∧ ws = u)) V (q_runV (As := [.int x3]) (rest := []) (d := 1) (mc := 0) (ms := 0) (ci := 0) C0 V rfl LV_NH_157 (c_NH_floatRow_3 l D g ws qO0 qO1 qO2 qA3 qA4 qA5 qA6 qO7 qO8 qO9 qO10 qO11 qO12 qO13 qO14 x3 hO0 (q_Ile (x := 2) (y := x3.toInt) (by decide) rfl (by have t1 : 0 ≤ x3.toInt := q_nltI c38; have t2 : x3.toInt ≤ 3 := q_nltI c39; have t3 : x3.toInt ≠ 0 := q_neI c43; have t4 : x3.toInt ≠ 1 := q_neI c44; omega)) (q_Ile (x := x3.toInt) (y := 3) rfl (by decide) (by have t1 : 0 ≤ x3.toInt := q_nltI c38; have t2 : x3.toInt ≤ 3 := q_nltI c39; have t3 : x3.toInt ≠ 0 := q_neI c43; have t4 : x3.toInt ≠ 1 := q_neI c44; omega)) _) rfl rfl hO0 rfl hl.1 rfl (Nat.le_of_ble_eq_true rfl) ⟨by decide, by decide⟩ ⟨Nat.le_of_ble_eq_true rfl, Nat.le_of_ble_eq_true rfl⟩ d_1_16_52) (fun v47 u46 H locs hp45 V => ?_)
          rcases hp45 with ⟨c48, rfl, rfl⟩ | ⟨c50, rfl, rfl⟩
          ·
            refine lv_iload hx hb d_1_16_55 (lv_at hl 4 rfl) ?_
            refine lv_aload_n hx hb d_1_16_57 rfl (lv_at hl 0 rfl) ?_
            refine lv_iload_n hx hb d_1_16_58 rfl (lv_at hl 1 rfl) ?_
            refine lv_iload_n hx hb d_1_16_59 rfl (lv_at hl 2 rfl) ?_
            refine lv_aload_n hx hb d_1_16_60 rfl (lv_at hl 0 rfl) ?_
            refine lv_iload_n hx hb d_1_16_61 rfl (lv_at hl 3 rfl) ?_
            refine q_ti (v := 3) (q_Ieq (x := x3.toInt) (y := 3) rfl (by decide) (by have t1 : 0 ≤ x3.toInt := q_nltI c38; have t2 : x3.toInt ≤ 3 := q_nltI c39; have t3 : x3.toInt ≠ 0 := q_neI c43; have t4 : x3.toInt ≠ 1 := q_neI c44; have t5 : x3.toInt ≠ 2 := q_neI c48; omega)) ?_
            refine q_gor (post := fun r u => (¬ 3 = 2 ∧ qO10 = r ∧ ws = u) ∨ (3 = 2 ∧ qO9 = r ∧ ws = u)) V (q_runV (As := [.int 3]) (rest := [.int x2, .int x1, .ref qO0, .int x4, .ref qA6]) (d := 1) (mc := 0) (ms := 0) (ci := 0) C0 V rfl LV_NH_130 (c_NH_floatsOf l D g ws qO0 qO1 qO2 qA3 qA4 qA5 qA6 qO7 qO8 qO9 qO10 qO11 qO12 qO13 qO14 3 hO0 (q_Ile (x := 2) (y := 3) (by decide) (by decide) (by omega)) (q_Ile (x := 3) (y := 3) (by decide) (by decide) (by omega)) _) rfl rfl hO0 rfl hl.1 rfl (Nat.le_of_ble_eq_true rfl) ⟨by decide, by decide⟩ ⟨Nat.le_of_ble_eq_true rfl, Nat.le_of_ble_eq_true rfl⟩ d_1_16_62) (fun v54 u53 H locs hp52 V => ?_)
            rcases hp52 with ⟨c55, rfl, rfl⟩ | ⟨c57, rfl, rfl⟩
            ·
              refine q_gol V (q_runV (As := [.int x1, .int x2, .ref qO10]) (rest := [.int x4, .ref qA6]) (d := 5) (mc := 0) (ms := 0) (ci := 0) C0 V rfl LV_NH_323 (c_NH_madeFloat l D g ws qO0 qO10 qO1 qO2 qA3 qA4 qA5 qA6 qO7 qO8 qO9 qO11 qO12 qO13 qO14 qO17 qO18 qO19 qO20 qO21 qO22 qO23 qO24 qO25 qO26 qA35 x1 x2 f5 f6 hO0 hO10 hA3 hA4 hA5 hA6 hO7 hO9 hO17 hA35 (q_Ile (x := 0) (y := x1.toInt) (by decide) rfl (by have t1 : 0 ≤ x1.toInt := q_nltI c17; have t2 : x1.toInt ≤ 3 := q_nltI c18; omega)) (q_Ile (x := x1.toInt) (y := 3) rfl (by decide) (by have t1 : 0 ≤ x1.toInt := q_nltI c17; have t2 : x1.toInt ≤ 3 := q_nltI c18; omega)) (q_Ile (x := 0) (y := x2.toInt) (by decide) rfl (by have t1 : 0 ≤ x2.toInt := q_nltI c19; have t2 : x2.toInt < 10 := q_nleI c20; omega)) (q_Ile (x := x2.toInt) (y := 9) rfl (by decide) (by have t1 : 0 ≤ x2.toInt := q_nltI c19; have t2 : x2.toInt < 10 := q_nleI c20; omega)) qW qWL qD qDN qDL hfW FW FWL hfD FD FDN FDL _) rfl rfl hO0 rfl hl.1 rfl (Nat.le_of_ble_eq_true rfl) ⟨by decide, by decide⟩ ⟨Nat.le_of_ble_eq_true rfl, Nat.le_of_ble_eq_true rfl⟩ d_1_16_65) (fun v61 u60 H locs hp59 V => ?_)
              obtain ⟨rfl, hg62, hO17, hA35⟩ := hp59
              replace hF := q_gc hF hg62 (q_al (Nat.le_of_ble_eq_true rfl) (q_al (Nat.le_of_ble_eq_true rfl) (fun _ h => absurd h List.not_mem_nil)))
              replace hA6 := (hg62 _ (q_nc (q_pd 8 10 rfl) (q_nc (q_pd 8 11 rfl) List.not_mem_nil))).trans (hA6)
              refine q_last C0 V hA6 (q_ix (x := x4.toInt) rfl (by have t1 : 0 ≤ x4.toInt := q_nltI c40; have t2 : x4.toInt < 10 := q_nleI c41; omega) (by have t1 : 0 ≤ x4.toInt := q_nltI c40; have t2 : x4.toInt < 10 := q_nleI c41; omega)) d_1_16_68 (fun H locs w63 hu64 hA6 V => ?_)
              replace hA6 := q_re (y := (qA6, .inl (g 1, 10, .inr (.inl (fun _ => 0))))) hA6 (q_eL q_updL0)
              replace hA6 : w63[8]? = (some (qA6, .inl (g 1, 10, .inr (.inl (fun _ => 0)))) : Option (Nat × va_E)) := hA6
              replace hF := q_gs hF hu64 (Nat.le_of_ble_eq_true rfl)
              refine W.widen (k := 4) (n := 24) (Nat.le_of_ble_eq_true rfl) (Nat.le_of_ble_eq_true rfl) ?_
              exact q_retX (q_retv C0 V (⟨(show ((0 ≤ x1.toInt ∧ x1.toInt ≤ 3) ∧ (0 ≤ x2.toInt ∧ x2.toInt ≤ 9) ∧ (0 ≤ x3.toInt ∧ x3.toInt ≤ 3) ∧ (0 ≤ x4.toInt ∧ x4.toInt ≤ 9)) from by have t1 : 0 ≤ x1.toInt := q_nltI c17; have t2 : x1.toInt ≤ 3 := q_nltI c18; have t3 : 0 ≤ x2.toInt := q_nltI c19; have t4 : x2.toInt < 10 := q_nleI c20; have t5 : 0 ≤ x3.toInt := q_nltI c38; have t6 : x3.toInt ≤ 3 := q_nltI c39; have t7 : 0 ≤ x4.toInt := q_nltI c40; have t8 : x4.toInt < 10 := q_nleI c41; have t9 : x3.toInt ≠ 0 := q_neI c43; have t10 : x3.toInt ≠ 1 := q_neI c44; have t11 : x3.toInt ≠ 2 := q_neI c48; omega), hF⟩) d_1_16_69)
            ·
              exact absurd c57 (by decide)
          ·
            refine lv_iload hx hb d_1_16_55 (lv_at hl 4 rfl) ?_
            refine lv_aload_n hx hb d_1_16_57 rfl (lv_at hl 0 rfl) ?_
            refine lv_iload_n hx hb d_1_16_58 rfl (lv_at hl 1 rfl) ?_
            refine lv_iload_n hx hb d_1_16_59 rfl (lv_at hl 2 rfl) ?_
            refine lv_aload_n hx hb d_1_16_60 rfl (lv_at hl 0 rfl) ?_
            refine lv_iload_n hx hb d_1_16_61 rfl (lv_at hl 3 rfl) ?_
            refine q_ti (v := 2) c50 ?_
            refine q_gor (post := fun r u => (¬ 2 = 2 ∧ qO10 = r ∧ ws = u) ∨ (2 = 2 ∧ qO9 = r ∧ ws = u)) V (q_runV (As := [.int 2]) (rest := [.int x2, .int x1, .ref qO0, .int x4, .ref qA5]) (d := 1) (mc := 0) (ms := 0) (ci := 0) C0 V rfl LV_NH_130 (c_NH_floatsOf l D g ws qO0 qO1 qO2 qA3 qA4 qA5 qA6 qO7 qO8 qO9 qO10 qO11 qO12 qO13 qO14 2 hO0 (q_Ile (x := 2) (y := 2) (by decide) (by decide) (by omega)) (q_Ile (x := 2) (y := 3) (by decide) (by decide) (by omega)) _) rfl rfl hO0 rfl hl.1 rfl (Nat.le_of_ble_eq_true rfl) ⟨by decide, by decide⟩ ⟨Nat.le_of_ble_eq_true rfl, Nat.le_of_ble_eq_true rfl⟩ d_1_16_62) (fun v67 u66 H locs hp65 V => ?_)
            rcases hp65 with ⟨c68, rfl, rfl⟩ | ⟨c70, rfl, rfl⟩
            ·
              exact absurd c68 (by decide)
            ·
              refine q_gol V (q_runV (As := [.int x1, .int x2, .ref qO9]) (rest := [.int x4, .ref qA5]) (d := 5) (mc := 0) (ms := 0) (ci := 0) C0 V rfl LV_NH_323 (c_NH_madeFloat_2 l D g ws qO0 qO9 qO1 qO2 qA3 qA4 qA5 qA6 qO7 qO8 qO10 qO11 qO12 qO13 qO14 qO17 qO18 qO19 qO20 qO21 qO22 qO23 qO24 qO25 qO26 qA35 x1 x2 f5 f6 hO0 hO9 hA3 hA4 hA5 hA6 hO7 hO10 hO17 hA35 (q_Ile (x := 0) (y := x1.toInt) (by decide) rfl (by have t1 : 0 ≤ x1.toInt := q_nltI c17; have t2 : x1.toInt ≤ 3 := q_nltI c18; omega)) (q_Ile (x := x1.toInt) (y := 3) rfl (by decide) (by have t1 : 0 ≤ x1.toInt := q_nltI c17; have t2 : x1.toInt ≤ 3 := q_nltI c18; omega)) (q_Ile (x := 0) (y := x2.toInt) (by decide) rfl (by have t1 : 0 ≤ x2.toInt := q_nltI c19; have t2 : x2.toInt < 10 := q_nleI c20; omega)) (q_Ile (x := x2.toInt) (y := 9) rfl (by decide) (by have t1 : 0 ≤ x2.toInt := q_nltI c19; have t2 : x2.toInt < 10 := q_nleI c20; omega)) qW qWL qD qDN qDL hfW FW FWL hfD FD FDN FDL _) rfl rfl hO0 rfl hl.1 rfl (Nat.le_of_ble_eq_true rfl) ⟨by decide, by decide⟩ ⟨Nat.le_of_ble_eq_true rfl, Nat.le_of_ble_eq_true rfl⟩ d_1_16_65) (fun v74 u73 H locs hp72 V => ?_)
              obtain ⟨rfl, hg75, hO17, hA35⟩ := hp72
              replace hF := q_gc hF hg75 (q_al (Nat.le_of_ble_eq_true rfl) (q_al (Nat.le_of_ble_eq_true rfl) (fun _ h => absurd h List.not_mem_nil)))
              replace hA5 := (hg75 _ (q_nc (q_pd 7 10 rfl) (q_nc (q_pd 7 11 rfl) List.not_mem_nil))).trans (hA5)
              refine q_last C0 V hA5 (q_ix (x := x4.toInt) rfl (by have t1 : 0 ≤ x4.toInt := q_nltI c40; have t2 : x4.toInt < 10 := q_nleI c41; omega) (by have t1 : 0 ≤ x4.toInt := q_nltI c40; have t2 : x4.toInt < 10 := q_nleI c41; omega)) d_1_16_68 (fun H locs w76 hu77 hA5 V => ?_)
              replace hA5 := q_re (y := (qA5, .inl (g 1, 10, .inr (.inl (fun _ => 0))))) hA5 (q_eL q_updL0)
              replace hA5 : w76[7]? = (some (qA5, .inl (g 1, 10, .inr (.inl (fun _ => 0)))) : Option (Nat × va_E)) := hA5
              replace hF := q_gs hF hu77 (Nat.le_of_ble_eq_true rfl)
              refine W.widen (k := 4) (n := 24) (Nat.le_of_ble_eq_true rfl) (Nat.le_of_ble_eq_true rfl) ?_
              exact q_retX (q_retv C0 V (⟨(show ((0 ≤ x1.toInt ∧ x1.toInt ≤ 3) ∧ (0 ≤ x2.toInt ∧ x2.toInt ≤ 9) ∧ (0 ≤ x3.toInt ∧ x3.toInt ≤ 3) ∧ (0 ≤ x4.toInt ∧ x4.toInt ≤ 9)) from by have t1 : 0 ≤ x1.toInt := q_nltI c17; have t2 : x1.toInt ≤ 3 := q_nltI c18; have t3 : 0 ≤ x2.toInt := q_nltI c19; have t4 : x2.toInt < 10 := q_nleI c20; have t5 : 0 ≤ x3.toInt := q_nltI c38; have t6 : x3.toInt ≤ 3 := q_nltI c39; have t7 : 0 ≤ x4.toInt := q_nltI c40; have t8 : x4.toInt < 10 := q_nleI c41; have t9 : x3.toInt ≠ 0 := q_neI c43; have t10 : x3.toInt ≠ 1 := q_neI c44; have t11 : x3.toInt = 2 := q_eqI c50; omega), hF⟩) d_1_16_69)
        ·
          refine lv_aload_n hx hb d_1_16_35 rfl (lv_at hl 0 rfl) ?_
          refine lv_iload_n hx hb d_1_16_36 rfl (lv_at hl 1 rfl) ?_
          refine lv_iload_n hx hb d_1_16_37 rfl (lv_at hl 2 rfl) ?_
          refine q_gov V (q_runV (As := [.int x1, .int x2]) (rest := []) (d := 8) (mc := 1) (ms := 6) (ci := 0) C0 V rfl LV_NH_320 (c_NH_makeDecimal l D g ws hlt qO0 qO1 qO2 qA3 qA4 qA5 qA6 qO7 qO8 qO9 qO10 qO11 qO12 qO13 qO14 qO17 qO18 qO19 qO20 qO21 qO22 qO23 qO24 qO25 qO26 qO27 qA35 x1 x2 f5 f6 hO0 hA3 hA4 hA5 hA6 hO7 hO8 hO9 hO10 hO17 hA35 (q_Ile (x := 0) (y := x1.toInt) (by decide) rfl (by have t1 : 0 ≤ x1.toInt := q_nltI c17; have t2 : x1.toInt ≤ 3 := q_nltI c18; omega)) (q_Ile (x := x1.toInt) (y := 3) rfl (by decide) (by have t1 : 0 ≤ x1.toInt := q_nltI c17; have t2 : x1.toInt ≤ 3 := q_nltI c18; omega)) (q_Ile (x := 0) (y := x2.toInt) (by decide) rfl (by have t1 : 0 ≤ x2.toInt := q_nltI c19; have t2 : x2.toInt < 10 := q_nleI c20; omega)) (q_Ile (x := x2.toInt) (y := 9) rfl (by decide) (by have t1 : 0 ≤ x2.toInt := q_nltI c19; have t2 : x2.toInt < 10 := q_nleI c20; omega)) qW qWL qD qDN qDL hfW FW FWL hfD FD FDN FDL _) rfl rfl hO0 rfl hl.1 rfl (Nat.le_of_ble_eq_true rfl) ⟨by decide, by decide⟩ ⟨Nat.le_of_ble_eq_true rfl, Nat.le_of_ble_eq_true rfl⟩ d_1_16_38) (fun u79 H locs hp78 V => ?_)
          obtain ⟨hg80, hO8, hO17, hA35⟩ := hp78
          replace hF := q_gc hF hg80 (q_al (Nat.le_of_ble_eq_true rfl) (q_al (Nat.le_of_ble_eq_true rfl) (q_al (Nat.le_of_ble_eq_true rfl) (fun _ h => absurd h List.not_mem_nil))))
          refine lv_aload_n hx hb d_1_16_41 rfl (lv_at hl 0 rfl) ?_
          refine lv_iload hx hb d_1_16_42 (lv_at hl 4 rfl) ?_
          replace hO0 := (hg80 _ (q_nc (q_pd 0 30 rfl) (q_nc (q_pd 0 10 rfl) (q_nc (q_pd 0 11 rfl) List.not_mem_nil)))).trans (hO0)
          replace hA4 := (hg80 _ (q_nc (q_pd 6 30 rfl) (q_nc (q_pd 6 10 rfl) (q_nc (q_pd 6 11 rfl) List.not_mem_nil)))).trans (hA4)
          replace hO7 := (hg80 _ (q_nc (q_pd 9 30 rfl) (q_nc (q_pd 9 10 rfl) (q_nc (q_pd 9 11 rfl) List.not_mem_nil)))).trans (hO7)
          replace FD := fun (i : Nat) (hi : i < 10) => (hg80 _ (q_nc (q_f5 rfl) (q_nc (q_f5 rfl) (q_nc (q_f5 rfl) List.not_mem_nil)))).trans (FD i hi)
          replace FDN := fun (i : Nat) (hi : i < 10) => (hg80 _ (q_nc (q_f5 rfl) (q_nc (q_f5 rfl) (q_nc (q_f5 rfl) List.not_mem_nil)))).trans (FDN i hi)
          replace FDL := fun (i : Nat) (hi : i < 10) => (hg80 _ (q_nc (q_f5 rfl) (q_nc (q_f5 rfl) (q_nc (q_f5 rfl) List.not_mem_nil)))).trans (FDL i hi)
          refine q_gov V (q_runV (As := [.int x4]) (rest := []) (d := 8) (mc := 1) (ms := 6) (ci := 0) C0 V rfl LV_NH_281 (c_NH_keepDecimal l D g u79 hlt qO0 qO1 qO2 qA3 qA4 qA5 qA6 qO7 qO8 qO9 qO10 qO11 qO12 qO13 qO14 qO17 qO18 qO19 qO20 qO21 qO22 qO23 qO24 qO25 qO26 qO27 qA35 x4 f6 hO0 hA4 hO7 hO8 hO17 hA35 (q_Ile (x := 0) (y := x4.toInt) (by decide) rfl (by have t1 : 0 ≤ x4.toInt := q_nltI c40; have t2 : x4.toInt < 10 := q_nleI c41; omega)) (q_Ile (x := x4.toInt) (y := 9) rfl (by decide) (by have t1 : 0 ≤ x4.toInt := q_nltI c40; have t2 : x4.toInt < 10 := q_nleI c41; omega)) qW qWL qD qDN qDL hfD FD FDN FDL _) rfl rfl hO0 rfl hl.1 rfl (Nat.le_of_ble_eq_true rfl) ⟨by decide, by decide⟩ ⟨Nat.le_of_ble_eq_true rfl, Nat.le_of_ble_eq_true rfl⟩ d_1_16_44) (fun u82 H locs hp81 V => ?_)
          have hg83 := hp81
          replace hF := q_gt hF hg83
          refine lv_goto (tgt := 69) hx hb d_1_16_47 (by decide) ?_
          exact q_retX (q_retv C0 V (⟨(show ((0 ≤ x1.toInt ∧ x1.toInt ≤ 3) ∧ (0 ≤ x2.toInt ∧ x2.toInt ≤ 9) ∧ (0 ≤ x3.toInt ∧ x3.toInt ≤ 3) ∧ (0 ≤ x4.toInt ∧ x4.toInt ≤ 9)) from by have t1 : 0 ≤ x1.toInt := q_nltI c17; have t2 : x1.toInt ≤ 3 := q_nltI c18; have t3 : 0 ≤ x2.toInt := q_nltI c19; have t4 : x2.toInt < 10 := q_nleI c20; have t5 : 0 ≤ x3.toInt := q_nltI c38; have t6 : x3.toInt ≤ 3 := q_nltI c39; have t7 : 0 ≤ x4.toInt := q_nltI c40; have t8 : x4.toInt < 10 := q_nleI c41; have t9 : x3.toInt ≠ 0 := q_neI c43; have t10 : x3.toInt = 1 := q_eqI c44; omega), hF⟩) d_1_16_69)
      ·
        refine lv_aload_n hx hb d_1_16_15 rfl (lv_at hl 0 rfl) ?_
        refine lv_iload_n hx hb d_1_16_16 rfl (lv_at hl 1 rfl) ?_
        refine lv_iload_n hx hb d_1_16_17 rfl (lv_at hl 2 rfl) ?_
        refine q_gov V (q_runV (As := [.int x1, .int x2]) (rest := []) (d := 8) (mc := 1) (ms := 6) (ci := 0) C0 V rfl LV_NH_317 (c_NH_makeWhole l D g ws hlt qO0 qO1 qO2 qA3 qA4 qA5 qA6 qO7 qO8 qO9 qO10 qO11 qO12 qO13 qO14 qO17 qO18 qO19 qO20 qO21 qO22 qO23 qO24 qO25 qO26 qO27 qA35 x1 x2 f5 f6 hO0 hA3 hA4 hA5 hA6 hO7 hO8 hO9 hO10 hO17 hA35 (q_Ile (x := 0) (y := x1.toInt) (by decide) rfl (by have t1 : 0 ≤ x1.toInt := q_nltI c17; have t2 : x1.toInt ≤ 3 := q_nltI c18; omega)) (q_Ile (x := x1.toInt) (y := 3) rfl (by decide) (by have t1 : 0 ≤ x1.toInt := q_nltI c17; have t2 : x1.toInt ≤ 3 := q_nltI c18; omega)) (q_Ile (x := 0) (y := x2.toInt) (by decide) rfl (by have t1 : 0 ≤ x2.toInt := q_nltI c19; have t2 : x2.toInt < 10 := q_nleI c20; omega)) (q_Ile (x := x2.toInt) (y := 9) rfl (by decide) (by have t1 : 0 ≤ x2.toInt := q_nltI c19; have t2 : x2.toInt < 10 := q_nleI c20; omega)) qW qWL qD qDN qDL hfW FW FWL hfD FD FDN FDL _) rfl rfl hO0 rfl hl.1 rfl (Nat.le_of_ble_eq_true rfl) ⟨by decide, by decide⟩ ⟨Nat.le_of_ble_eq_true rfl, Nat.le_of_ble_eq_true rfl⟩ d_1_16_18) (fun u85 H locs hp84 V => ?_)
        obtain ⟨hg86, hO17, hA35⟩ := hp84
        replace hF := q_gc hF hg86 (q_al (Nat.le_of_ble_eq_true rfl) (q_al (Nat.le_of_ble_eq_true rfl) (fun _ h => absurd h List.not_mem_nil)))
        refine lv_aload_n hx hb d_1_16_21 rfl (lv_at hl 0 rfl) ?_
        refine lv_iload hx hb d_1_16_22 (lv_at hl 4 rfl) ?_
        replace hO0 := (hg86 _ (q_nc (q_pd 0 10 rfl) (q_nc (q_pd 0 11 rfl) List.not_mem_nil))).trans (hO0)
        replace hA3 := (hg86 _ (q_nc (q_pd 5 10 rfl) (q_nc (q_pd 5 11 rfl) List.not_mem_nil))).trans (hA3)
        replace hO7 := (hg86 _ (q_nc (q_pd 9 10 rfl) (q_nc (q_pd 9 11 rfl) List.not_mem_nil))).trans (hO7)
        replace FW := fun (i : Nat) (hi : i < 10) => (hg86 _ (q_nc (q_f5 rfl) (q_nc (q_f5 rfl) List.not_mem_nil))).trans (FW i hi)
        replace FWL := fun (i : Nat) (hi : i < 10) => (hg86 _ (q_nc (q_f5 rfl) (q_nc (q_f5 rfl) List.not_mem_nil))).trans (FWL i hi)
        refine q_gov V (q_runV (As := [.int x4]) (rest := []) (d := 8) (mc := 1) (ms := 6) (ci := 0) C0 V rfl LV_NH_243 (c_NH_keepWhole l D g u85 hlt qO0 qO1 qO2 qA3 qA4 qA5 qA6 qO7 qO8 qO9 qO10 qO11 qO12 qO13 qO14 qO17 qO18 qO19 qO20 qO21 qO22 qO23 qO24 qO25 qO26 qA35 x4 f5 hO0 hA3 hO7 hO17 hA35 (q_Ile (x := 0) (y := x4.toInt) (by decide) rfl (by have t1 : 0 ≤ x4.toInt := q_nltI c40; have t2 : x4.toInt < 10 := q_nleI c41; omega)) (q_Ile (x := x4.toInt) (y := 9) rfl (by decide) (by have t1 : 0 ≤ x4.toInt := q_nltI c40; have t2 : x4.toInt < 10 := q_nleI c41; omega)) qW qWL qD qDN qDL hfW FW FWL _) rfl rfl hO0 rfl hl.1 rfl (Nat.le_of_ble_eq_true rfl) ⟨by decide, by decide⟩ ⟨Nat.le_of_ble_eq_true rfl, Nat.le_of_ble_eq_true rfl⟩ d_1_16_24) (fun u88 H locs hp87 V => ?_)
        have hg89 := hp87
        replace hF := q_gt hF hg89
        refine lv_goto (tgt := 69) hx hb d_1_16_27 (by decide) ?_
        exact q_retX (q_retv C0 V (⟨(show ((0 ≤ x1.toInt ∧ x1.toInt ≤ 3) ∧ (0 ≤ x2.toInt ∧ x2.toInt ≤ 9) ∧ (0 ≤ x3.toInt ∧ x3.toInt ≤ 3) ∧ (0 ≤ x4.toInt ∧ x4.toInt ≤ 9)) from by have t1 : 0 ≤ x1.toInt := q_nltI c17; have t2 : x1.toInt ≤ 3 := q_nltI c18; have t3 : 0 ≤ x2.toInt := q_nltI c19; have t4 : x2.toInt < 10 := q_nleI c20; have t5 : 0 ≤ x3.toInt := q_nltI c38; have t6 : x3.toInt ≤ 3 := q_nltI c39; have t7 : 0 ≤ x4.toInt := q_nltI c40; have t8 : x4.toInt < 10 := q_nleI c41; have t9 : x3.toInt = 0 := q_eqI c43; omega), hF⟩) d_1_16_69)
