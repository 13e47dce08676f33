set_option maxRecDepth 100000 in
set_option maxHeartbeats 4000000 in
theorem c_Big_push (l : Launch) (D : va_G) (g : Nat → ClassId) (ws : va_W) (kO0 kA1 qO0 qA1 : Nat) (hO0 : ws[kO0]? = (some (qO0, .inr (2, [.ref qA1, .int 0, .int 0])) : Option (Nat × va_E))) (hA1 : ws[kA1]? = (some (qA1, .inl (g 0, 3, .inl (fun _ => 0))) : Option (Nat × va_E))) : q_mV l y_Big_push prog_2_method_6_code 2 1 0 0 D g [.ref qO0, .int 1] ws (fun u => q_un ws u [kO0, kA1] ∧ u[kO0]? = (some (qO0, .inr (2, [.ref qA1, .int 1, .int 0])) : Option (Nat × va_E)) ∧ u[kA1]? = (some (qA1, .inl (g 0, 3, .inl (upd (fun _ => 0) 0 1))) : Option (Nat × va_E))) := by
  intro sz
  refine q_into (by decide) (Nat.le_of_ble_eq_true rfl) ?_
  intro p e s m below meth c ls hsz C0 V hl
  have hx := C0.1
  have hb := C0.2.1
  have hl : lv_has ls 2 [(0, .ref qO0), (1, .int 1)] := hl
  have n_A1_O0 := q_df hA1 hO0
  have n_O0_A1 := Ne.symm (q_df hA1 hO0)
  have hF : q_un ws ws [kO0, kA1] := q_u0
  refine lv_aload_n hx hb d_2_6_0 rfl (lv_at hl 0 rfl) ?_
  refine q_get (ci := 2) (j := 1) (v := .int 0) C0 V i_Big rfl rfl hO0 (by decide) w_85 rfl d_2_6_1 ?_
  refine lv_aload_n hx hb d_2_6_4 rfl (lv_at hl 0 rfl) ?_
  refine q_get (ci := 2) (j := 0) (v := .ref qA1) C0 V i_Big rfl rfl hO0 (by decide) w_84 rfl d_2_6_5 ?_
  refine q_alen (t := 0) (v := 3) C0 V hA1 rfl (by first | rfl | decide) d_2_6_8 ?_
  refine lv_icmp_ge (tgt := 32) hx hb d_2_6_9 (by decide) (fun c1 => absurd c1 (by decide)) (fun c1 => ?_)
  refine lv_aload_n hx hb d_2_6_12 rfl (lv_at hl 0 rfl) ?_
  refine q_get (ci := 2) (j := 0) (v := .ref qA1) C0 V i_Big rfl rfl hO0 (by decide) w_84 rfl d_2_6_13 ?_
  refine lv_aload_n hx hb d_2_6_16 rfl (lv_at hl 0 rfl) ?_
  refine q_get (ci := 2) (j := 1) (v := .int 0) C0 V i_Big rfl rfl hO0 (by decide) w_85 rfl d_2_6_17 ?_
  refine lv_iload_n hx hb d_2_6_20 rfl (lv_at hl 1 rfl) ?_
  refine q_iast C0 V hA1 (by unfold vp_in; decide) d_2_6_21 (fun H locs w2 hu3 hA1 V => ?_)
  replace hA1 : w2[kA1]? = (some (qA1, .inl (g 0, 3, .inl (upd (fun _ => 0) 0 1))) : Option (Nat × va_E)) := hA1
  replace hF := q_us hF hu3 (.tail _ (.head _))
  refine lv_aload_n hx hb d_2_6_22 rfl (lv_at hl 0 rfl) ?_
  refine lv_dup hx hb d_2_6_23 rfl ?_
  replace hO0 := (hu3 _ n_O0_A1).trans (hO0)
  refine q_get (ci := 2) (j := 1) (v := .int 0) C0 V i_Big rfl rfl hO0 (by decide) w_85 rfl d_2_6_24 ?_
  refine lv_iconst (v := 1) hx hb d_2_6_27 (by decide) ?_
  refine lv_iadd hx hb d_2_6_28 ?_
  refine q_ti (v := 1) (by decide) ?_
  refine q_put (ci := 2) (j := 1) (v := .int 1) (ty := .int) C0 V i_Big o_Big n_Big rfl rfl hO0 (by decide) w_85 rfl rfl rfl rfl (Nat.le_of_ble_eq_true rfl) d_2_6_29 (fun H locs w4 hu5 hO0 V => ?_)
  replace hO0 : w4[kO0]? = (some (qO0, .inr (2, [.ref qA1, .int 1, .int 0])) : Option (Nat × va_E)) := hO0
  replace hF := q_us hF hu5 (.head _)
  replace hA1 := (hu5 _ n_A1_O0).trans (hA1)
  exact q_retv C0 V (⟨hF, hO0, hA1⟩) d_2_6_32
set_option maxRecDepth 100000 in
set_option maxHeartbeats 4000000 in
theorem c_Big_push_2 (l : Launch) (D : va_G) (g : Nat → ClassId) (ws : va_W) (kO0 kA1 qO0 qA1 : Nat) (hO0 : ws[kO0]? = (some (qO0, .inr (2, [.ref qA1, .int 1, .int 0])) : Option (Nat × va_E))) (hA1 : ws[kA1]? = (some (qA1, .inl (g 0, 3, .inl (upd (fun _ => 0) 0 1))) : Option (Nat × va_E))) : q_mV l y_Big_push prog_2_method_6_code 2 1 0 0 D g [.ref qO0, .int 0] ws (fun u => q_un ws u [kO0, kA1] ∧ u[kO0]? = (some (qO0, .inr (2, [.ref qA1, .int 2, .int 0])) : Option (Nat × va_E)) ∧ u[kA1]? = (some (qA1, .inl (g 0, 3, .inl (upd (fun _ => 0) 0 1))) : Option (Nat × va_E))) := by
  intro sz
  refine q_into (by decide) (Nat.le_of_ble_eq_true rfl) ?_
  intro p e s m below meth c ls hsz C0 V hl
  have hx := C0.1
  have hb := C0.2.1
  have hl : lv_has ls 2 [(0, .ref qO0), (1, .int 0)] := hl
  have n_A1_O0 := q_df hA1 hO0
  have n_O0_A1 := Ne.symm (q_df hA1 hO0)
  have hF : q_un ws ws [kO0, kA1] := q_u0
  refine lv_aload_n hx hb d_2_6_0 rfl (lv_at hl 0 rfl) ?_
  refine q_get (ci := 2) (j := 1) (v := .int 1) C0 V i_Big rfl rfl hO0 (by decide) w_85 rfl d_2_6_1 ?_
  refine lv_aload_n hx hb d_2_6_4 rfl (lv_at hl 0 rfl) ?_
  refine q_get (ci := 2) (j := 0) (v := .ref qA1) C0 V i_Big rfl rfl hO0 (by decide) w_84 rfl d_2_6_5 ?_
  refine q_alen (t := 0) (v := 3) C0 V hA1 rfl (by first | rfl | decide) d_2_6_8 ?_
  refine lv_icmp_ge (tgt := 32) hx hb d_2_6_9 (by decide) (fun c1 => absurd c1 (by decide)) (fun c1 => ?_)
  refine lv_aload_n hx hb d_2_6_12 rfl (lv_at hl 0 rfl) ?_
  refine q_get (ci := 2) (j := 0) (v := .ref qA1) C0 V i_Big rfl rfl hO0 (by decide) w_84 rfl d_2_6_13 ?_
  refine lv_aload_n hx hb d_2_6_16 rfl (lv_at hl 0 rfl) ?_
  refine q_get (ci := 2) (j := 1) (v := .int 1) C0 V i_Big rfl rfl hO0 (by decide) w_85 rfl d_2_6_17 ?_
  refine lv_iload_n hx hb d_2_6_20 rfl (lv_at hl 1 rfl) ?_
  refine q_iast C0 V hA1 (by unfold vp_in; decide) d_2_6_21 (fun H locs w2 hu3 hA1 V => ?_)
  replace hA1 : w2[kA1]? = (some (qA1, .inl (g 0, 3, .inl (upd (upd (fun _ => 0) 0 1) 1 0))) : Option (Nat × va_E)) := hA1
  replace hA1 := q_re (y := (qA1, .inl (g 0, 3, .inl (upd (fun _ => 0) 0 1)))) hA1 (q_eI (by funext k; simp only [upd]; (repeat' split) <;> first | rfl | omega))
  replace hA1 : w2[kA1]? = (some (qA1, .inl (g 0, 3, .inl (upd (fun _ => 0) 0 1))) : Option (Nat × va_E)) := hA1
  replace hF := q_us hF hu3 (.tail _ (.head _))
  refine lv_aload_n hx hb d_2_6_22 rfl (lv_at hl 0 rfl) ?_
  refine lv_dup hx hb d_2_6_23 rfl ?_
  replace hO0 := (hu3 _ n_O0_A1).trans (hO0)
  refine q_get (ci := 2) (j := 1) (v := .int 1) C0 V i_Big rfl rfl hO0 (by decide) w_85 rfl d_2_6_24 ?_
  refine lv_iconst (v := 1) hx hb d_2_6_27 (by decide) ?_
  refine lv_iadd hx hb d_2_6_28 ?_
  refine q_ti (v := 2) (by decide) ?_
  refine q_put (ci := 2) (j := 1) (v := .int 2) (ty := .int) C0 V i_Big o_Big n_Big rfl rfl hO0 (by decide) w_85 rfl rfl rfl rfl (Nat.le_of_ble_eq_true rfl) d_2_6_29 (fun H locs w4 hu5 hO0 V => ?_)
  replace hO0 : w4[kO0]? = (some (qO0, .inr (2, [.ref qA1, .int 2, .int 0])) : Option (Nat × va_E)) := hO0
  replace hF := q_us hF hu5 (.head _)
  replace hA1 := (hu5 _ n_A1_O0).trans (hA1)
  exact q_retv C0 V (⟨hF, hO0, hA1⟩) d_2_6_32
set_option maxRecDepth 100000 in
set_option maxHeartbeats 4000000 in
theorem c_Big_push_3 (l : Launch) (D : va_G) (g : Nat → ClassId) (ws : va_W) (kO0 kA1 qO0 qA1 : Nat) (hO0 : ws[kO0]? = (some (qO0, .inr (2, [.ref qA1, .int 2, .int 0])) : Option (Nat × va_E))) (hA1 : ws[kA1]? = (some (qA1, .inl (g 0, 3, .inl (upd (fun _ => 0) 0 1))) : Option (Nat × va_E))) : q_mV l y_Big_push prog_2_method_6_code 2 1 0 0 D g [.ref qO0, .int 0] ws (fun u => q_un ws u [kO0, kA1] ∧ u[kO0]? = (some (qO0, .inr (2, [.ref qA1, .int 3, .int 0])) : Option (Nat × va_E)) ∧ u[kA1]? = (some (qA1, .inl (g 0, 3, .inl (upd (fun _ => 0) 0 1))) : Option (Nat × va_E))) := by
  intro sz
  refine q_into (by decide) (Nat.le_of_ble_eq_true rfl) ?_
  intro p e s m below meth c ls hsz C0 V hl
  have hx := C0.1
  have hb := C0.2.1
  have hl : lv_has ls 2 [(0, .ref qO0), (1, .int 0)] := hl
  have n_A1_O0 := q_df hA1 hO0
  have n_O0_A1 := Ne.symm (q_df hA1 hO0)
  have hF : q_un ws ws [kO0, kA1] := q_u0
  refine lv_aload_n hx hb d_2_6_0 rfl (lv_at hl 0 rfl) ?_
  refine q_get (ci := 2) (j := 1) (v := .int 2) C0 V i_Big rfl rfl hO0 (by decide) w_85 rfl d_2_6_1 ?_
  refine lv_aload_n hx hb d_2_6_4 rfl (lv_at hl 0 rfl) ?_
  refine q_get (ci := 2) (j := 0) (v := .ref qA1) C0 V i_Big rfl rfl hO0 (by decide) w_84 rfl d_2_6_5 ?_
  refine q_alen (t := 0) (v := 3) C0 V hA1 rfl (by first | rfl | decide) d_2_6_8 ?_
  refine lv_icmp_ge (tgt := 32) hx hb d_2_6_9 (by decide) (fun c1 => absurd c1 (by decide)) (fun c1 => ?_)
  refine lv_aload_n hx hb d_2_6_12 rfl (lv_at hl 0 rfl) ?_
  refine q_get (ci := 2) (j := 0) (v := .ref qA1) C0 V i_Big rfl rfl hO0 (by decide) w_84 rfl d_2_6_13 ?_
  refine lv_aload_n hx hb d_2_6_16 rfl (lv_at hl 0 rfl) ?_
  refine q_get (ci := 2) (j := 1) (v := .int 2) C0 V i_Big rfl rfl hO0 (by decide) w_85 rfl d_2_6_17 ?_
  refine lv_iload_n hx hb d_2_6_20 rfl (lv_at hl 1 rfl) ?_
  refine q_iast C0 V hA1 (by unfold vp_in; decide) d_2_6_21 (fun H locs w2 hu3 hA1 V => ?_)
  replace hA1 : w2[kA1]? = (some (qA1, .inl (g 0, 3, .inl (upd (upd (fun _ => 0) 0 1) 2 0))) : Option (Nat × va_E)) := hA1
  replace hA1 := q_re (y := (qA1, .inl (g 0, 3, .inl (upd (fun _ => 0) 0 1)))) hA1 (q_eI (by funext k; simp only [upd]; (repeat' split) <;> first | rfl | omega))
  replace hA1 : w2[kA1]? = (some (qA1, .inl (g 0, 3, .inl (upd (fun _ => 0) 0 1))) : Option (Nat × va_E)) := hA1
  replace hF := q_us hF hu3 (.tail _ (.head _))
  refine lv_aload_n hx hb d_2_6_22 rfl (lv_at hl 0 rfl) ?_
  refine lv_dup hx hb d_2_6_23 rfl ?_
  replace hO0 := (hu3 _ n_O0_A1).trans (hO0)
  refine q_get (ci := 2) (j := 1) (v := .int 2) C0 V i_Big rfl rfl hO0 (by decide) w_85 rfl d_2_6_24 ?_
  refine lv_iconst (v := 1) hx hb d_2_6_27 (by decide) ?_
  refine lv_iadd hx hb d_2_6_28 ?_
  refine q_ti (v := 3) (by decide) ?_
  refine q_put (ci := 2) (j := 1) (v := .int 3) (ty := .int) C0 V i_Big o_Big n_Big rfl rfl hO0 (by decide) w_85 rfl rfl rfl rfl (Nat.le_of_ble_eq_true rfl) d_2_6_29 (fun H locs w4 hu5 hO0 V => ?_)
  replace hO0 : w4[kO0]? = (some (qO0, .inr (2, [.ref qA1, .int 3, .int 0])) : Option (Nat × va_E)) := hO0
  replace hF := q_us hF hu5 (.head _)
  replace hA1 := (hu5 _ n_A1_O0).trans (hA1)
  exact q_retv C0 V (⟨hF, hO0, hA1⟩) d_2_6_32
theorem d_2_7_9 : decode prog_2_method_7_code 9 = .ok (.aload_n 0, 1) := by decide +kernel
theorem d_2_7_10 : decode prog_2_method_7_code 10 = .ok (.getfield 7, 3) := by decide +kernel
theorem d_2_7_13 : decode prog_2_method_7_code 13 = .ok (.iload_n 1, 1) := by decide +kernel
theorem d_2_7_14 : decode prog_2_method_7_code 14 = .ok (.iconst 1, 1) := by decide +kernel
theorem d_2_7_15 : decode prog_2_method_7_code 15 = .ok (.isub, 1) := by decide +kernel
theorem d_2_7_16 : decode prog_2_method_7_code 16 = .ok (.iaload, 1) := by decide +kernel
theorem d_2_7_17 : decode prog_2_method_7_code 17 = .ok (.ifCond .ne 9, 3) := by decide +kernel
theorem d_2_7_20 : decode prog_2_method_7_code 20 = .ok (.iinc 1 (-1), 3) := by decide +kernel
theorem d_2_7_23 : decode prog_2_method_7_code 23 = .ok (.goto (-18), 3) := by decide +kernel
set_option maxRecDepth 100000 in
set_option maxHeartbeats 4000000 in
theorem c_Big_trim_2 (l : Launch) (D : va_G) (g : Nat → ClassId) (ws : va_W) (kO0 kA1 qO0 qA1 : Nat) (hO0 : ws[kO0]? = (some (qO0, .inr (2, [.ref qA1, .int 3, .int 0])) : Option (Nat × va_E))) (hA1 : ws[kA1]? = (some (qA1, .inl (g 0, 3, .inl (upd (fun _ => 0) 0 1))) : Option (Nat × va_E))) : q_mV l y_Big_trim prog_2_method_7_code 2 1 0 0 D g [.ref qO0] ws (fun u => q_un ws u [kO0] ∧ u[kO0]? = (some (qO0, .inr (2, [.ref qA1, .int 1, .int 0])) : Option (Nat × va_E))) := by
  intro sz
  refine q_into (by decide) (Nat.le_of_ble_eq_true rfl) ?_
  intro p e s m below meth c ls hsz C0 V hl
  have hx := C0.1
  have hb := C0.2.1
  have hl : lv_has ls 2 [(0, .ref qO0)] := hl
  have n_A1_O0 := q_df hA1 hO0
  have hF : q_un ws ws [kO0] := q_u0
  refine lv_aload_n hx hb d_2_7_0 rfl (lv_at hl 0 rfl) ?_
  refine q_get (ci := 2) (j := 1) (v := .int 3) C0 V i_Big rfl rfl hO0 (by decide) w_85 rfl d_2_7_1 ?_
  refine lv_istore_n (lv' := [(1, .int 3), (0, .ref qO0)]) hx hb d_2_7_4 rfl hl (by decide) rfl (fun ls hl => ?_)
  refine lv_iload_n hx hb d_2_7_5 rfl (lv_at hl 0 rfl) ?_
  refine lv_if_le (tgt := 26) hx hb d_2_7_6 (by decide) (fun c1 => absurd c1 (by decide)) (fun c1 => ?_)
  refine lv_aload_n hx hb d_2_7_9 rfl (lv_at hl 1 rfl) ?_
  refine q_get (ci := 2) (j := 0) (v := .ref qA1) C0 V i_Big rfl rfl hO0 (by decide) w_84 rfl d_2_7_10 ?_
  refine lv_iload_n hx hb d_2_7_13 rfl (lv_at hl 0 rfl) ?_
  refine lv_iconst (v := 1) hx hb d_2_7_14 (by decide) ?_
  refine lv_isub hx hb d_2_7_15 ?_
  refine q_ti (v := 2) (by decide) ?_
  refine q_iald C0 V hA1 (by unfold vp_in; decide) d_2_7_16 ?_
  refine q_ti (v := 0) (by first | rfl | decide | simp [upd, vp_updL, sb_cl0]) ?_
  refine lv_if_ne (tgt := 26) hx hb d_2_7_17 (by decide) (fun c2 => absurd (by decide) c2) (fun c2 => ?_)
  refine lv_iinc (v := 2) (lv' := [(1, .int 2), (0, .ref qO0)]) hx hb d_2_7_20 hl (k := 0) rfl (by decide) (by decide) rfl (fun ls hl => ?_)
  refine lv_goto (tgt := 5) hx hb d_2_7_23 (by decide) ?_
  refine lv_iload_n hx hb d_2_7_5 rfl (lv_at hl 0 rfl) ?_
  refine lv_if_le (tgt := 26) hx hb d_2_7_6 (by decide) (fun c3 => absurd c3 (by decide)) (fun c3 => ?_)
  refine lv_aload_n hx hb d_2_7_9 rfl (lv_at hl 1 rfl) ?_
  refine q_get (ci := 2) (j := 0) (v := .ref qA1) C0 V i_Big rfl rfl hO0 (by decide) w_84 rfl d_2_7_10 ?_
  refine lv_iload_n hx hb d_2_7_13 rfl (lv_at hl 0 rfl) ?_
  refine lv_iconst (v := 1) hx hb d_2_7_14 (by decide) ?_
  refine lv_isub hx hb d_2_7_15 ?_
  refine q_ti (v := 1) (by decide) ?_
  refine q_iald C0 V hA1 (by unfold vp_in; decide) d_2_7_16 ?_
  refine q_ti (v := 0) (by first | rfl | decide | simp [upd, vp_updL, sb_cl0]) ?_
  refine lv_if_ne (tgt := 26) hx hb d_2_7_17 (by decide) (fun c4 => absurd (by decide) c4) (fun c4 => ?_)
  refine lv_iinc (v := 1) (lv' := [(1, .int 1), (0, .ref qO0)]) hx hb d_2_7_20 hl (k := 0) rfl (by decide) (by decide) rfl (fun ls hl => ?_)
  refine lv_goto (tgt := 5) hx hb d_2_7_23 (by decide) ?_
  refine lv_iload_n hx hb d_2_7_5 rfl (lv_at hl 0 rfl) ?_
  refine lv_if_le (tgt := 26) hx hb d_2_7_6 (by decide) (fun c5 => absurd c5 (by decide)) (fun c5 => ?_)
  refine lv_aload_n hx hb d_2_7_9 rfl (lv_at hl 1 rfl) ?_
  refine q_get (ci := 2) (j := 0) (v := .ref qA1) C0 V i_Big rfl rfl hO0 (by decide) w_84 rfl d_2_7_10 ?_
  refine lv_iload_n hx hb d_2_7_13 rfl (lv_at hl 0 rfl) ?_
  refine lv_iconst (v := 1) hx hb d_2_7_14 (by decide) ?_
  refine lv_isub hx hb d_2_7_15 ?_
  refine q_ti (v := 0) (by decide) ?_
  refine q_iald C0 V hA1 (by unfold vp_in; decide) d_2_7_16 ?_
  refine q_ti (v := 1) (by first | rfl | decide | simp [upd, vp_updL, sb_cl0]) ?_
  refine lv_if_ne (tgt := 26) hx hb d_2_7_17 (by decide) (fun c6 => ?_) (fun c6 => absurd c6 (by decide))
  refine lv_aload_n hx hb d_2_7_26 rfl (lv_at hl 1 rfl) ?_
  refine lv_iload_n hx hb d_2_7_27 rfl (lv_at hl 0 rfl) ?_
  refine q_put (ci := 2) (j := 1) (v := .int 1) (ty := .int) C0 V i_Big o_Big n_Big rfl rfl hO0 (by decide) w_85 rfl rfl rfl rfl (Nat.le_of_ble_eq_true rfl) d_2_7_28 (fun H locs w7 hu8 hO0 V => ?_)
  replace hO0 : w7[kO0]? = (some (qO0, .inr (2, [.ref qA1, .int 1, .int 0])) : Option (Nat × va_E)) := hO0
  replace hF := q_us hF hu8 (.head _)
  refine lv_aload_n hx hb d_2_7_31 rfl (lv_at hl 1 rfl) ?_
  refine lv_aload_n hx hb d_2_7_32 rfl (lv_at hl 1 rfl) ?_
  refine q_get (ci := 2) (j := 2) (v := .int 0) C0 V i_Big rfl rfl hO0 (by decide) w_94 rfl d_2_7_33 ?_
  refine lv_if_eq (tgt := 47) hx hb d_2_7_36 (by decide) (fun c9 => ?_) (fun c9 => absurd (by decide) c9)
  refine lv_iconst (v := 0) hx hb d_2_7_47 (by decide) ?_
  refine q_put (ci := 2) (j := 2) (v := .int 0) (ty := .boolean) C0 V i_Big o_Big n_Big rfl rfl hO0 (by decide) w_94 rfl rfl rfl rfl (Nat.le_of_ble_eq_true rfl) d_2_7_48 (fun H locs w10 hu11 hO0 V => ?_)
  replace hO0 : w10[kO0]? = (some (qO0, .inr (2, [.ref qA1, .int 1, .int 0])) : Option (Nat × va_E)) := hO0
  replace hF := q_us hF hu11 (.head _)
  exact q_retv C0 V (⟨hF, hO0⟩) d_2_7_51
theorem d_2_3_0 : decode prog_2_method_3_code 0 = .ok (.aload_n 0, 1) := by decide +kernel
theorem d_2_3_1 : decode prog_2_method_3_code 1 = .ok (.invokevirtual 21, 3) := by decide +kernel
set_option maxRecDepth 100000 in
theorem w_197 : (Cond.code ({ cls := "NumberHouse$Big", name := "clear", desc := "()V" } : MethodName) prog_2_method_2_code (1 : Nat) (none : Option ClassFile.FieldType)) ∈ q_tbl := q_of1 197 rfl (by decide +kernel)
set_option maxRecDepth 100000 in
theorem w_194 : (Cond.methodLink "NumberHouse$Big" (21 : Nat) ({ cls := "NumberHouse$Big", name := "clear", desc := "()V" } : MethodName)) ∈ q_tbl := q_of1 194 rfl (by decide +kernel)
set_option maxRecDepth 100000 in
theorem w_195 : (Cond.instanceMethod ({ cls := "NumberHouse$Big", name := "clear", desc := "()V" } : MethodName)) ∈ q_tbl := q_of1 195 rfl (by decide +kernel)
set_option maxRecDepth 100000 in
theorem w_196 : (Cond.selects "NumberHouse$Big" ({ cls := "NumberHouse$Big", name := "clear", desc := "()V" } : MethodName) ({ cls := "NumberHouse$Big", name := "clear", desc := "()V" } : MethodName)) ∈ q_tbl := q_of1 196 rfl (by decide +kernel)
theorem LV_Big_21 : q_LV "NumberHouse$Big" 21 y_Big_clear prog_2_method_2_code 1 none 0 := ⟨w_197, w_4, w_194, w_195, w_196, ⟨by decide, by decide, by decide +kernel⟩⟩
theorem d_2_3_4 : decode prog_2_method_3_code 4 = .ok (.lload_n 1, 1) := by decide +kernel
theorem d_2_3_5 : decode prog_2_method_3_code 5 = .ok (.invokestatic 24, 3) := by decide +kernel
set_option maxRecDepth 100000 in
theorem w_198 : (Cond.methodLink "NumberHouse$Big" (24 : Nat) ({ cls := "java/lang/Math", name := "abs", desc := "(J)J" } : MethodName)) ∈ q_tbl := q_of1 198 rfl (by decide +kernel)
set_option maxRecDepth 100000 in
theorem w_199 : (Cond.static ({ cls := "java/lang/Math", name := "abs", desc := "(J)J" } : MethodName)) ∈ q_tbl := q_of1 199 rfl (by decide +kernel)
set_option maxRecDepth 100000 in
theorem w_7 : (Cond.initialized "java/lang/Math") ∈ q_tbl := q_of1 7 rfl (by decide +kernel)
set_option maxRecDepth 100000 in
theorem w_200 : (Cond.code ({ cls := "java/lang/Math", name := "abs", desc := "(J)J" } : MethodName) prog_29_method_61_code (2 : Nat) (some .long)) ∈ q_tbl := q_of1 200 rfl (by decide +kernel)
theorem d_2_3_8 : decode prog_2_method_3_code 8 = .ok (.lstore_n 3, 1) := by decide +kernel
theorem d_2_3_9 : decode prog_2_method_3_code 9 = .ok (.iconst 0, 1) := by decide +kernel
theorem d_2_3_10 : decode prog_2_method_3_code 10 = .ok (.istore 5, 2) := by decide +kernel
theorem d_2_3_12 : decode prog_2_method_3_code 12 = .ok (.iload 5, 2) := by decide +kernel
theorem d_2_3_14 : decode prog_2_method_3_code 14 = .ok (.iconst 3, 1) := by decide +kernel
theorem d_2_3_15 : decode prog_2_method_3_code 15 = .ok (.if_icmp .ge 24, 3) := by decide +kernel
theorem d_2_3_18 : decode prog_2_method_3_code 18 = .ok (.aload_n 0, 1) := by decide +kernel
theorem d_2_3_19 : decode prog_2_method_3_code 19 = .ok (.lload_n 3, 1) := by decide +kernel
theorem d_2_3_20 : decode prog_2_method_3_code 20 = .ok (.ldc2_w 30, 3) := by decide +kernel
set_option maxRecDepth 100000 in
theorem w_201 : (Cond.constantLong "NumberHouse$Big" (30 : Nat) (2147483647 : Int64)) ∈ q_tbl := q_of1 201 rfl (by decide +kernel)
theorem d_2_3_23 : decode prog_2_method_3_code 23 = .ok (.land, 1) := by decide +kernel
theorem d_2_3_24 : decode prog_2_method_3_code 24 = .ok (.l2i, 1) := by decide +kernel
theorem d_2_3_25 : decode prog_2_method_3_code 25 = .ok (.invokevirtual 32, 3) := by decide +kernel
set_option maxRecDepth 100000 in
theorem w_205 : (Cond.code ({ cls := "NumberHouse$Big", name := "push", desc := "(I)V" } : MethodName) prog_2_method_6_code (2 : Nat) (none : Option ClassFile.FieldType)) ∈ q_tbl := q_of1 205 rfl (by decide +kernel)
set_option maxRecDepth 100000 in
theorem w_202 : (Cond.methodLink "NumberHouse$Big" (32 : Nat) ({ cls := "NumberHouse$Big", name := "push", desc := "(I)V" } : MethodName)) ∈ q_tbl := q_of1 202 rfl (by decide +kernel)
set_option maxRecDepth 100000 in
theorem w_203 : (Cond.instanceMethod ({ cls := "NumberHouse$Big", name := "push", desc := "(I)V" } : MethodName)) ∈ q_tbl := q_of1 203 rfl (by decide +kernel)
set_option maxRecDepth 100000 in
theorem w_204 : (Cond.selects "NumberHouse$Big" ({ cls := "NumberHouse$Big", name := "push", desc := "(I)V" } : MethodName) ({ cls := "NumberHouse$Big", name := "push", desc := "(I)V" } : MethodName)) ∈ q_tbl := q_of1 204 rfl (by decide +kernel)
theorem LV_Big_32 : q_LV "NumberHouse$Big" 32 y_Big_push prog_2_method_6_code 2 none 1 := ⟨w_205, w_4, w_202, w_203, w_204, ⟨by decide, by decide, by decide +kernel⟩⟩
theorem d_2_3_28 : decode prog_2_method_3_code 28 = .ok (.lload_n 3, 1) := by decide +kernel
theorem d_2_3_29 : decode prog_2_method_3_code 29 = .ok (.bipush 31, 2) := by decide +kernel
theorem d_2_3_31 : decode prog_2_method_3_code 31 = .ok (.lushr, 1) := by decide +kernel
theorem d_2_3_32 : decode prog_2_method_3_code 32 = .ok (.lstore_n 3, 1) := by decide +kernel
theorem d_2_3_33 : decode prog_2_method_3_code 33 = .ok (.iinc 5 1, 3) := by decide +kernel
theorem d_2_3_36 : decode prog_2_method_3_code 36 = .ok (.goto (-24), 3) := by decide +kernel
theorem d_2_3_39 : decode prog_2_method_3_code 39 = .ok (.aload_n 0, 1) := by decide +kernel
theorem d_2_3_40 : decode prog_2_method_3_code 40 = .ok (.invokevirtual 36, 3) := by decide +kernel
set_option maxRecDepth 100000 in
theorem w_209 : (Cond.code ({ cls := "NumberHouse$Big", name := "trim", desc := "()V" } : MethodName) prog_2_method_7_code (2 : Nat) (none : Option ClassFile.FieldType)) ∈ q_tbl := q_of1 209 rfl (by decide +kernel)
set_option maxRecDepth 100000 in
theorem w_206 : (Cond.methodLink "NumberHouse$Big" (36 : Nat) ({ cls := "NumberHouse$Big", name := "trim", desc := "()V" } : MethodName)) ∈ q_tbl := q_of1 206 rfl (by decide +kernel)
set_option maxRecDepth 100000 in
theorem w_207 : (Cond.instanceMethod ({ cls := "NumberHouse$Big", name := "trim", desc := "()V" } : MethodName)) ∈ q_tbl := q_of1 207 rfl (by decide +kernel)
set_option maxRecDepth 100000 in
theorem w_208 : (Cond.selects "NumberHouse$Big" ({ cls := "NumberHouse$Big", name := "trim", desc := "()V" } : MethodName) ({ cls := "NumberHouse$Big", name := "trim", desc := "()V" } : MethodName)) ∈ q_tbl := q_of1 208 rfl (by decide +kernel)
theorem LV_Big_36 : q_LV "NumberHouse$Big" 36 y_Big_trim prog_2_method_7_code 2 none 0 := ⟨w_209, w_4, w_206, w_207, w_208, ⟨by decide, by decide, by decide +kernel⟩⟩
theorem d_2_3_43 : decode prog_2_method_3_code 43 = .ok (.aload_n 0, 1) := by decide +kernel
theorem d_2_3_44 : decode prog_2_method_3_code 44 = .ok (.lload_n 1, 1) := by decide +kernel
theorem d_2_3_45 : decode prog_2_method_3_code 45 = .ok (.lconst 0, 1) := by decide +kernel
theorem d_2_3_46 : decode prog_2_method_3_code 46 = .ok (.lcmp, 1) := by decide +kernel
theorem d_2_3_47 : decode prog_2_method_3_code 47 = .ok (.ifCond .ge 7, 3) := by decide +kernel
theorem d_2_3_54 : decode prog_2_method_3_code 54 = .ok (.iconst 0, 1) := by decide +kernel
theorem d_2_3_55 : decode prog_2_method_3_code 55 = .ok (.putfield 17, 3) := by decide +kernel
theorem d_2_3_58 : decode prog_2_method_3_code 58 = .ok (.return_, 1) := by decide +kernel
def y_Big_setLong : MethodName := ⟨"NumberHouse$Big", "setLong", "(J)V"⟩
set_option maxRecDepth 100000 in
set_option maxHeartbeats 4000000 in
theorem c_Big_setLong (l : Launch) (D : va_G) (g : Nat → ClassId) (ws : va_W) (kO0 kA1 qO0 qA1 : Nat) (hO0 : ws[kO0]? = (some (qO0, .inr (2, [.ref qA1, .int 0, .int 0])) : Option (Nat × va_E))) (hA1 : ws[kA1]? = (some (qA1, .inl (g 0, 3, .inl (fun _ => 0))) : Option (Nat × va_E))) : q_mV l y_Big_setLong prog_2_method_3_code 6 2 0 0 D g [.ref qO0, .long 1] ws (fun u => q_un ws u [kO0, kA1] ∧ u[kO0]? = (some (qO0, .inr (2, [.ref qA1, .int 1, .int 0])) : Option (Nat × va_E)) ∧ u[kA1]? = (some (qA1, .inl (g 0, 3, .inl (upd (fun _ => 0) 0 1))) : Option (Nat × va_E))) := by
  intro sz
  refine q_into (by decide) (Nat.le_of_ble_eq_true rfl) ?_
  intro p e s m below meth c ls hsz C0 V hl
  have hx := C0.1
  have hb := C0.2.1
  have hl : lv_has ls 6 [(0, .ref qO0), (1, .long 1)] := hl
  have n_A1_O0 := q_df hA1 hO0
  have hF : q_un ws ws [kO0, kA1] := q_u0
  refine lv_aload_n hx hb d_2_3_0 rfl (lv_at hl 0 rfl) ?_
  refine q_gov V (q_runV (As := []) (rest := []) (d := 1) (mc := 0) (ms := 0) (ci := 2) C0 V rfl LV_Big_21 (c_Big_clear l D g ws kO0 qO0 qA1 0 0 hO0 _) rfl rfl hO0 rfl hl.1 rfl (Nat.le_of_ble_eq_true rfl) ⟨by decide, by decide⟩ ⟨Nat.le_of_ble_eq_true rfl, Nat.le_of_ble_eq_true rfl⟩ d_2_3_1) (fun u2 H locs hp1 V => ?_)
  obtain ⟨hg3, hO0⟩ := hp1
  replace hF := q_uc hF hg3 (q_sc (.head _) (fun _ h => absurd h List.not_mem_nil))
  refine lv_lload_n hx hb d_2_3_4 rfl (lv_at hl 1 rfl) ?_
  refine q_absl C0 hl.1 rfl w_198 w_199 w_7 w_200 ⟨Nat.le_of_ble_eq_true rfl, Nat.le_of_ble_eq_true rfl⟩ ⟨Nat.le_of_ble_eq_true rfl, Nat.le_of_ble_eq_true rfl⟩ d_2_3_5 ?_
  refine q_tl (v := 1) (by decide) ?_
  refine lv_lstore_n (lv' := [(3, .long 1), (0, .ref qO0), (1, .long 1)]) hx hb d_2_3_8 rfl hl (by decide) rfl (fun ls hl => ?_)
  refine lv_iconst (v := 0) hx hb d_2_3_9 (by decide) ?_
  refine lv_istore (lv' := [(5, .int 0), (3, .long 1), (0, .ref qO0), (1, .long 1)]) hx hb d_2_3_10 hl (by decide) rfl (fun ls hl => ?_)
  refine lv_iload hx hb d_2_3_12 (lv_at hl 0 rfl) ?_
  refine lv_iconst (v := 3) hx hb d_2_3_14 (by decide) ?_
  refine lv_icmp_ge (tgt := 39) hx hb d_2_3_15 (by decide) (fun c4 => absurd c4 (by decide)) (fun c4 => ?_)
  refine lv_aload_n hx hb d_2_3_18 rfl (lv_at hl 2 rfl) ?_
  refine lv_lload_n hx hb d_2_3_19 rfl (lv_at hl 1 rfl) ?_
  refine q_ldc2 C0 rfl w_201 d_2_3_20 ?_
  refine lv_land hx hb d_2_3_23 ?_
  refine q_tl (v := 1) (by decide) ?_
  refine lv_l2i hx hb d_2_3_24 rfl ?_
  refine q_ti (v := 1) (by decide) ?_
  replace hA1 := (hg3 _ (q_nc n_A1_O0 List.not_mem_nil)).trans (hA1)
  refine q_gov V (q_runV (As := [.int 1]) (rest := []) (d := 1) (mc := 0) (ms := 0) (ci := 2) C0 V rfl LV_Big_32 (c_Big_push l D g u2 kO0 kA1 qO0 qA1 hO0 hA1 _) rfl rfl hO0 rfl hl.1 rfl (Nat.le_of_ble_eq_true rfl) ⟨by decide, by decide⟩ ⟨Nat.le_of_ble_eq_true rfl, Nat.le_of_ble_eq_true rfl⟩ d_2_3_25) (fun u6 H locs hp5 V => ?_)
  obtain ⟨hg7, hO0, hA1⟩ := hp5
  replace hF := q_uc hF hg7 (q_sc (.head _) (q_sc (.tail _ (.head _)) (fun _ h => absurd h List.not_mem_nil)))
  refine lv_lload_n hx hb d_2_3_28 rfl (lv_at hl 1 rfl) ?_
  refine lv_bipush (v := 31) hx hb d_2_3_29 (by decide) ?_
  refine lv_lushr hx hb d_2_3_31 rfl ?_
  refine q_tl (v := 0) (by decide) ?_
  refine lv_lstore_n (lv' := [(3, .long 0), (5, .int 0), (0, .ref qO0), (1, .long 1)]) hx hb d_2_3_32 rfl hl (by decide) rfl (fun ls hl => ?_)
  refine lv_iinc (v := 1) (lv' := [(5, .int 1), (3, .long 0), (0, .ref qO0), (1, .long 1)]) hx hb d_2_3_33 hl (k := 1) rfl (by decide) (by decide) rfl (fun ls hl => ?_)
  refine lv_goto (tgt := 12) hx hb d_2_3_36 (by decide) ?_
  refine lv_iload hx hb d_2_3_12 (lv_at hl 0 rfl) ?_
  refine lv_iconst (v := 3) hx hb d_2_3_14 (by decide) ?_
  refine lv_icmp_ge (tgt := 39) hx hb d_2_3_15 (by decide) (fun c8 => absurd c8 (by decide)) (fun c8 => ?_)
  refine lv_aload_n hx hb d_2_3_18 rfl (lv_at hl 2 rfl) ?_
  refine lv_lload_n hx hb d_2_3_19 rfl (lv_at hl 1 rfl) ?_
  refine q_ldc2 C0 rfl w_201 d_2_3_20 ?_
  refine lv_land hx hb d_2_3_23 ?_
  refine q_tl (v := 0) (by decide) ?_
  refine lv_l2i hx hb d_2_3_24 rfl ?_
  refine q_ti (v := 0) (by decide) ?_
  refine q_gov V (q_runV (As := [.int 0]) (rest := []) (d := 1) (mc := 0) (ms := 0) (ci := 2) C0 V rfl LV_Big_32 (c_Big_push_2 l D g u6 kO0 kA1 qO0 qA1 hO0 hA1 _) rfl rfl hO0 rfl hl.1 rfl (Nat.le_of_ble_eq_true rfl) ⟨by decide, by decide⟩ ⟨Nat.le_of_ble_eq_true rfl, Nat.le_of_ble_eq_true rfl⟩ d_2_3_25) (fun u10 H locs hp9 V => ?_)
  obtain ⟨hg11, hO0, hA1⟩ := hp9
  replace hF := q_uc hF hg11 (q_sc (.head _) (q_sc (.tail _ (.head _)) (fun _ h => absurd h List.not_mem_nil)))
  refine lv_lload_n hx hb d_2_3_28 rfl (lv_at hl 1 rfl) ?_
  refine lv_bipush (v := 31) hx hb d_2_3_29 (by decide) ?_
  refine lv_lushr hx hb d_2_3_31 rfl ?_
  refine q_tl (v := 0) (by decide) ?_
  refine lv_lstore_n (lv' := [(3, .long 0), (5, .int 1), (0, .ref qO0), (1, .long 1)]) hx hb d_2_3_32 rfl hl (by decide) rfl (fun ls hl => ?_)
  refine lv_iinc (v := 2) (lv' := [(5, .int 2), (3, .long 0), (0, .ref qO0), (1, .long 1)]) hx hb d_2_3_33 hl (k := 1) rfl (by decide) (by decide) rfl (fun ls hl => ?_)
  refine lv_goto (tgt := 12) hx hb d_2_3_36 (by decide) ?_
  refine lv_iload hx hb d_2_3_12 (lv_at hl 0 rfl) ?_
  refine lv_iconst (v := 3) hx hb d_2_3_14 (by decide) ?_
  refine lv_icmp_ge (tgt := 39) hx hb d_2_3_15 (by decide) (fun c12 => absurd c12 (by decide)) (fun c12 => ?_)
  refine lv_aload_n hx hb d_2_3_18 rfl (lv_at hl 2 rfl) ?_
  refine lv_lload_n hx hb d_2_3_19 rfl (lv_at hl 1 rfl) ?_
  refine q_ldc2 C0 rfl w_201 d_2_3_20 ?_
  refine lv_land hx hb d_2_3_23 ?_
  refine q_tl (v := 0) (by decide) ?_
  refine lv_l2i hx hb d_2_3_24 rfl ?_
  refine q_ti (v := 0) (by decide) ?_
  refine q_gov V (q_runV (As := [.int 0]) (rest := []) (d := 1) (mc := 0) (ms := 0) (ci := 2) C0 V rfl LV_Big_32 (c_Big_push_3 l D g u10 kO0 kA1 qO0 qA1 hO0 hA1 _) rfl rfl hO0 rfl hl.1 rfl (Nat.le_of_ble_eq_true rfl) ⟨by decide, by decide⟩ ⟨Nat.le_of_ble_eq_true rfl, Nat.le_of_ble_eq_true rfl⟩ d_2_3_25) (fun u14 H locs hp13 V => ?_)
  obtain ⟨hg15, hO0, hA1⟩ := hp13
  replace hF := q_uc hF hg15 (q_sc (.head _) (q_sc (.tail _ (.head _)) (fun _ h => absurd h List.not_mem_nil)))
  refine lv_lload_n hx hb d_2_3_28 rfl (lv_at hl 1 rfl) ?_
  refine lv_bipush (v := 31) hx hb d_2_3_29 (by decide) ?_
  refine lv_lushr hx hb d_2_3_31 rfl ?_
  refine q_tl (v := 0) (by decide) ?_
  refine lv_lstore_n (lv' := [(3, .long 0), (5, .int 2), (0, .ref qO0), (1, .long 1)]) hx hb d_2_3_32 rfl hl (by decide) rfl (fun ls hl => ?_)
  refine lv_iinc (v := 3) (lv' := [(5, .int 3), (3, .long 0), (0, .ref qO0), (1, .long 1)]) hx hb d_2_3_33 hl (k := 1) rfl (by decide) (by decide) rfl (fun ls hl => ?_)
  refine lv_goto (tgt := 12) hx hb d_2_3_36 (by decide) ?_
  refine lv_iload hx hb d_2_3_12 (lv_at hl 0 rfl) ?_
  refine lv_iconst (v := 3) hx hb d_2_3_14 (by decide) ?_
  refine lv_icmp_ge (tgt := 39) hx hb d_2_3_15 (by decide) (fun c16 => ?_) (fun c16 => absurd (by decide) c16)
  refine lv_aload_n hx hb d_2_3_39 rfl (lv_at hl 2 rfl) ?_
  refine q_gov V (q_runV (As := []) (rest := []) (d := 1) (mc := 0) (ms := 0) (ci := 2) C0 V rfl LV_Big_36 (c_Big_trim_2 l D g u14 kO0 kA1 qO0 qA1 hO0 hA1 _) rfl rfl hO0 rfl hl.1 rfl (Nat.le_of_ble_eq_true rfl) ⟨by decide, by decide⟩ ⟨Nat.le_of_ble_eq_true rfl, Nat.le_of_ble_eq_true rfl⟩ d_2_3_40) (fun u18 H locs hp17 V => ?_)
  obtain ⟨hg19, hO0⟩ := hp17
  replace hF := q_uc hF hg19 (q_sc (.head _) (fun _ h => absurd h List.not_mem_nil))
  refine lv_aload_n hx hb d_2_3_43 rfl (lv_at hl 2 rfl) ?_
  refine lv_lload_n hx hb d_2_3_44 rfl (lv_at hl 3 rfl) ?_
  refine lv_lconst (v := 0) hx hb d_2_3_45 (by decide) ?_
  refine W.lcmp hx hb d_2_3_46 ?_
  refine q_ti (v := 1) (by decide) ?_
  refine lv_if_ge (tgt := 54) hx hb d_2_3_47 (by decide) (fun c20 => ?_) (fun c20 => absurd (by decide) c20)
  refine lv_iconst (v := 0) hx hb d_2_3_54 (by decide) ?_
  refine q_put (ci := 2) (j := 2) (v := .int 0) (ty := .boolean) C0 V i_Big o_Big n_Big rfl rfl hO0 (by decide) w_94 rfl rfl rfl rfl (Nat.le_of_ble_eq_true rfl) d_2_3_55 (fun H locs w21 hu22 hO0 V => ?_)
  replace hO0 : w21[kO0]? = (some (qO0, .inr (2, [.ref qA1, .int 1, .int 0])) : Option (Nat × va_E)) := hO0
  replace hF := q_us hF hu22 (.head _)
  replace hA1 := (hu22 _ n_A1_O0).trans ((hg19 _ (q_nc n_A1_O0 List.not_mem_nil)).trans (hA1))
  exact q_retv C0 V (⟨hF, hO0, hA1⟩) d_2_3_58
theorem d_4_1_0 : decode prog_4_method_1_code 0 = .ok (.aload_n 0, 1) := by decide +kernel
theorem d_4_1_1 : decode prog_4_method_1_code 1 = .ok (.invokespecial 3, 3) := by decide +kernel
set_option maxRecDepth 100000 in
theorem w_161 : (Cond.methodLink "NumberHouse$DecimalWork" (3 : Nat) ({ cls := "java/lang/Object", name := "<init>", desc := "()V" } : MethodName)) ∈ q_tbl := q_of1 161 rfl (by decide +kernel)
theorem d_4_1_4 : decode prog_4_method_1_code 4 = .ok (.aload_n 0, 1) := by decide +kernel
theorem d_4_1_5 : decode prog_4_method_1_code 5 = .ok (.new 9, 3) := by decide +kernel
set_option maxRecDepth 100000 in
theorem w_162 : (Cond.classLink "NumberHouse$DecimalWork" (9 : Nat) "NumberHouse$Dec") ∈ q_tbl := q_of1 162 rfl (by decide +kernel)
set_option maxRecDepth 100000 in
theorem w_163 : (Cond.instantiable "NumberHouse$Dec" (3 : Nat)) ∈ q_tbl := q_of1 163 rfl (by decide +kernel)
set_option maxRecDepth 100000 in
theorem w_6 : (Cond.initialized "NumberHouse$Dec") ∈ q_tbl := q_of1 6 rfl (by decide +kernel)
theorem d_4_1_8 : decode prog_4_method_1_code 8 = .ok (.dup, 1) := by decide +kernel
theorem d_4_1_9 : decode prog_4_method_1_code 9 = .ok (.iconst 3, 1) := by decide +kernel
theorem d_4_1_10 : decode prog_4_method_1_code 10 = .ok (.invokespecial 11, 3) := by decide +kernel
set_option maxRecDepth 100000 in
theorem w_166 : (Cond.code ({ cls := "NumberHouse$Dec", name := "<init>", desc := "(I)V" } : MethodName) prog_3_method_1_code (2 : Nat) (none : Option ClassFile.FieldType)) ∈ q_tbl := q_of1 166 rfl (by decide +kernel)
set_option maxRecDepth 100000 in
theorem w_164 : (Cond.methodLink "NumberHouse$DecimalWork" (11 : Nat) ({ cls := "NumberHouse$Dec", name := "<init>", desc := "(I)V" } : MethodName)) ∈ q_tbl := q_of1 164 rfl (by decide +kernel)
set_option maxRecDepth 100000 in
theorem w_165 : (Cond.instanceMethod ({ cls := "NumberHouse$Dec", name := "<init>", desc := "(I)V" } : MethodName)) ∈ q_tbl := q_of1 165 rfl (by decide +kernel)
theorem LI_DW_11 : q_LI "NumberHouse$DecimalWork" 11 y_Dec_init prog_3_method_1_code 2 1 := ⟨w_166, w_6, w_164, w_165, rfl, ⟨by decide, by decide, by decide +kernel⟩⟩
theorem d_4_1_13 : decode prog_4_method_1_code 13 = .ok (.putfield 14, 3) := by decide +kernel
set_option maxRecDepth 100000 in
theorem w_210 : (Cond.fieldLink "NumberHouse$DecimalWork" (14 : Nat) "NumberHouse$DecimalWork" "one" "LNumberHouse$Dec;") ∈ q_tbl := q_of1 210 rfl (by decide +kernel)
theorem d_4_1_16 : decode prog_4_method_1_code 16 = .ok (.aload_n 0, 1) := by decide +kernel
theorem d_4_1_17 : decode prog_4_method_1_code 17 = .ok (.aload_n 1, 1) := by decide +kernel
theorem d_4_1_18 : decode prog_4_method_1_code 18 = .ok (.putfield 20, 3) := by decide +kernel
set_option maxRecDepth 100000 in
theorem w_214 : (Cond.fieldLink "NumberHouse$DecimalWork" (20 : Nat) "NumberHouse$DecimalWork" "mill" "LNumberHouse$Mill;") ∈ q_tbl := q_of1 214 rfl (by decide +kernel)
theorem d_4_1_21 : decode prog_4_method_1_code 21 = .ok (.aload_n 0, 1) := by decide +kernel
theorem d_4_1_22 : decode prog_4_method_1_code 22 = .ok (.getfield 14, 3) := by decide +kernel
theorem d_4_1_25 : decode prog_4_method_1_code 25 = .ok (.getfield 24, 3) := by decide +kernel
set_option maxRecDepth 100000 in
theorem w_171 : (Cond.fieldLink "NumberHouse$DecimalWork" (24 : Nat) "NumberHouse$Dec" "number" "LNumberHouse$Big;") ∈ q_tbl := q_of1 171 rfl (by decide +kernel)
theorem d_4_1_28 : decode prog_4_method_1_code 28 = .ok (.lconst 1, 1) := by decide +kernel
theorem d_4_1_29 : decode prog_4_method_1_code 29 = .ok (.invokevirtual 28, 3) := by decide +kernel
set_option maxRecDepth 100000 in
theorem w_193 : (Cond.code ({ cls := "NumberHouse$Big", name := "setLong", desc := "(J)V" } : MethodName) prog_2_method_3_code (6 : Nat) (none : Option ClassFile.FieldType)) ∈ q_tbl := q_of1 193 rfl (by decide +kernel)
set_option maxRecDepth 100000 in
theorem w_190 : (Cond.methodLink "NumberHouse$DecimalWork" (28 : Nat) ({ cls := "NumberHouse$Big", name := "setLong", desc := "(J)V" } : MethodName)) ∈ q_tbl := q_of1 190 rfl (by decide +kernel)
set_option maxRecDepth 100000 in
theorem w_191 : (Cond.instanceMethod ({ cls := "NumberHouse$Big", name := "setLong", desc := "(J)V" } : MethodName)) ∈ q_tbl := q_of1 191 rfl (by decide +kernel)
set_option maxRecDepth 100000 in
theorem w_192 : (Cond.selects "NumberHouse$Big" ({ cls := "NumberHouse$Big", name := "setLong", desc := "(J)V" } : MethodName) ({ cls := "NumberHouse$Big", name := "setLong", desc := "(J)V" } : MethodName)) ∈ q_tbl := q_of1 192 rfl (by decide +kernel)
theorem LV_DW_28 : q_LV "NumberHouse$DecimalWork" 28 y_Big_setLong prog_2_method_3_code 6 none 1 := ⟨w_193, w_4, w_190, w_191, w_192, ⟨by decide, by decide, by decide +kernel⟩⟩
theorem d_4_1_32 : decode prog_4_method_1_code 32 = .ok (.return_, 1) := by decide +kernel
def y_DW_init : MethodName := ⟨"NumberHouse$DecimalWork", "<init>", "(LNumberHouse$Mill;)V"⟩
set_option maxRecDepth 100000 in
set_option maxHeartbeats 4000000 in
theorem c_DW_init (l : Launch) (D : va_G) (g : Nat → ClassId) (ws : va_W) ( qO0 qO1 : Nat) (hN : ws.length = 31) (hO0 : ws[30]? = (some (qO0, .inr (5, [.null, .long 0, .null, .int 0])) : Option (Nat × va_E))) : q_mV l y_DW_init prog_4_method_1_code 2 4 3 9 D g [.ref qO0, .ref qO1] ws (fun u => ∃ (q1 : Nat) (q7 : Nat) (q8 : Nat), q_un ws u [30, 31, 32, 33] ∧ u[30]? = (some (qO0, .inr (5, [.ref q1, .long 0, .ref qO1, .int 0])) : Option (Nat × va_E)) ∧ u[31]? = (some (q1, .inr (3, [.ref q7, .int 0, .int 1])) : Option (Nat × va_E)) ∧ u[32]? = (some (q7, .inr (2, [.ref q8, .int 1, .int 0])) : Option (Nat × va_E)) ∧ u[33]? = (some (q8, .inl (g 0, 3, .inl (upd (fun _ => 0) 0 1))) : Option (Nat × va_E)) ∧ u.length = 34) := by
  intro sz
  refine q_into (by decide) (Nat.le_of_ble_eq_true rfl) ?_
  intro p e s m below meth c ls hsz C0 V hl
  have hx := C0.1
  have hb := C0.2.1
  have hl : lv_has ls 2 [(0, .ref qO0), (1, .ref qO1)] := hl
  have hF : q_un ws ws [30, 31, 32, 33] := q_u0
  refine lv_aload_n hx hb d_4_1_0 rfl (lv_at hl 0 rfl) ?_
  refine q_obj C0 hl.1 rfl w_161 w_44 w_45 ⟨by decide, by decide⟩ d_4_1_1 ?_
  refine lv_aload_n hx hb d_4_1_4 rfl (lv_at hl 0 rfl) ?_
  refine q_new (ci := 3) (fs := [.null, .int 0, .int 0]) C0 V hN i_Dec o_Dec rfl w_162 w_163 w_6 rfl (fun j hj => by rcases (show j = 0 ∨ j = 1 ∨ j = 2 by omega) with rfl | rfl | rfl <;> rfl) (Nat.le_of_ble_eq_true rfl) (Nat.le_of_ble_eq_true rfl) d_4_1_5 (fun q1 H w2 hu3 hn4 hN V => ?_)
  have hn0 : w2[31]? = (some (q1, .inr (3, [.null, .int 0, .int 0])) : Option (Nat × va_E)) := hn4
  replace hF := q_us hF hu3 (.tail _ (.head _))
  replace hN : w2.length = 32 := hN
  refine lv_dup hx hb d_4_1_8 rfl ?_
  refine lv_iconst (v := 3) hx hb d_4_1_9 (by decide) ?_
  refine q_gov V (q_runI (As := [.int 3]) (rest := [.ref q1, .ref qO0]) (d := 3) (mc := 2) (ms := 6) C0 V rfl LI_DW_11 (c_Dec_init_2 l D g w2 31 q1 32 hN hn0 _) rfl hl.1 rfl (Nat.le_of_ble_eq_true rfl) ⟨by decide, by decide⟩ ⟨Nat.le_of_ble_eq_true rfl, Nat.le_of_ble_eq_true rfl⟩ d_4_1_10) (fun u6 H locs hp5 V => ?_)
  obtain ⟨q7, q8, hg9, hn0, hq10, hq11, hN⟩ := hp5
  replace hF := q_uc hF hg9 (q_sc (.tail _ (.head _)) (q_sc (.tail _ (.tail _ (.head _))) (q_sc (List.mem_of_getElem? (i := 3) rfl) (fun _ h => absurd h List.not_mem_nil))))
  have hn1 : u6[32]? = (some (q7, .inr (2, [.ref q8, .int 0, .int 0])) : Option (Nat × va_E)) := hq10
  have hn2 : u6[33]? = (some (q8, .inl (g 0, 3, .inl (fun _ => 0))) : Option (Nat × va_E)) := hq11
  replace hN : u6.length = 34 := hN
  replace hO0 := (hg9 _ (q_nc (q_pd 30 31 rfl) (q_nc (q_pd 30 32 rfl) (q_nc (q_pd 30 33 rfl) List.not_mem_nil)))).trans ((hu3 _ (q_pd 30 31 rfl)).trans (hO0))
  have ho14 := hO0
  refine q_putF (ci := 5) (j := 0) (v := .ref q1) (ty := .object "NumberHouse$Dec") C0 V i_DW o_DW n_DW rfl rfl rfl rfl rfl hO0 (by decide) w_210 rfl rfl rfl (Nat.le_of_ble_eq_true rfl) d_4_1_13 (fun H locs w12 hu13 hO0 V => ?_)
  replace hO0 : w12[30]? = (some (qO0, .inr (5, [.ref q1, .long 0, .null, .int 0])) : Option (Nat × va_E)) := hO0
  replace hN : w12.length = 34 := (q_len1 hu13 hO0 ho14).trans hN
  replace hF := q_us hF hu13 (.head _)
  refine lv_aload_n hx hb d_4_1_16 rfl (lv_at hl 0 rfl) ?_
  refine lv_aload_n hx hb d_4_1_17 rfl (lv_at hl 1 rfl) ?_
  have ho17 := hO0
  refine q_putF (ci := 5) (j := 2) (v := .ref qO1) (ty := .object "NumberHouse$Mill") C0 V i_DW o_DW n_DW rfl rfl rfl rfl rfl hO0 (by decide) w_214 rfl rfl rfl (Nat.le_of_ble_eq_true rfl) d_4_1_18 (fun H locs w15 hu16 hO0 V => ?_)
  replace hO0 : w15[30]? = (some (qO0, .inr (5, [.ref q1, .long 0, .ref qO1, .int 0])) : Option (Nat × va_E)) := hO0
  replace hN : w15.length = 34 := (q_len1 hu16 hO0 ho17).trans hN
  replace hF := q_us hF hu16 (.head _)
  refine lv_aload_n hx hb d_4_1_21 rfl (lv_at hl 0 rfl) ?_
  refine q_get (ci := 5) (j := 0) (v := .ref q1) C0 V i_DW rfl rfl hO0 (by decide) w_210 rfl d_4_1_22 ?_
  replace hn0 := (hu16 _ (q_pd 31 30 rfl)).trans ((hu13 _ (q_pd 31 30 rfl)).trans (hn0))
  refine q_get (ci := 3) (j := 0) (v := .ref q7) C0 V i_Dec rfl rfl hn0 (by decide) w_171 rfl d_4_1_25 ?_
  refine lv_lconst (v := 1) hx hb d_4_1_28 (by decide) ?_
  replace hn1 := (hu16 _ (q_pd 32 30 rfl)).trans ((hu13 _ (q_pd 32 30 rfl)).trans (hn1))
  replace hn2 := (hu16 _ (q_pd 33 30 rfl)).trans ((hu13 _ (q_pd 33 30 rfl)).trans (hn2))
  have ho20 := hn1
  have ho21 := hn2
  refine q_gov V (q_runV (As := [.long 1]) (rest := []) (d := 2) (mc := 0) (ms := 0) (ci := 2) C0 V rfl LV_DW_28 (c_Big_setLong l D g w15 32 33 q7 q8 hn1 hn2 _) rfl rfl hn1 rfl hl.1 rfl (Nat.le_of_ble_eq_true rfl) ⟨by decide, by decide⟩ ⟨Nat.le_of_ble_eq_true rfl, Nat.le_of_ble_eq_true rfl⟩ d_4_1_29) (fun u19 H locs hp18 V => ?_)
  obtain ⟨hg22, hn1, hn2⟩ := hp18
  replace hF := q_uc hF hg22 (q_sc (.tail _ (.tail _ (.head _))) (q_sc (List.mem_of_getElem? (i := 3) rfl) (fun _ h => absurd h List.not_mem_nil)))
  replace hN : u19.length = 34 := (q_lenN hg22 (q_al (q_lk hn1) (q_al (q_lk hn2) (fun _ h => absurd h List.not_mem_nil))) (q_al (q_lk ho20) (q_al (q_lk ho21) (fun _ h => absurd h List.not_mem_nil)))).trans hN
  replace hO0 := (hg22 _ (q_nc (q_pd 30 32 rfl) (q_nc (q_pd 30 33 rfl) List.not_mem_nil))).trans (hO0)
  replace hn0 := (hg22 _ (q_nc (q_pd 31 32 rfl) (q_nc (q_pd 31 33 rfl) List.not_mem_nil))).trans (hn0)
  exact q_retv C0 V (⟨q1, q7, q8, hF, hO0, hn0, hn1, hn2, hN⟩) d_4_1_32
theorem d_7_1_0 : decode prog_7_method_1_code 0 = .ok (.aload_n 0, 1) := by decide +kernel
theorem d_7_1_1 : decode prog_7_method_1_code 1 = .ok (.invokespecial 1, 3) := by decide +kernel
set_option maxRecDepth 100000 in
theorem w_230 : (Cond.methodLink "NumberHouse$Floats" (1 : Nat) ({ cls := "java/lang/Object", name := "<init>", desc := "()V" } : MethodName)) ∈ q_tbl := q_of1 230 rfl (by decide +kernel)
theorem d_7_1_4 : decode prog_7_method_1_code 4 = .ok (.aload_n 0, 1) := by decide +kernel
theorem d_7_1_5 : decode prog_7_method_1_code 5 = .ok (.iload_n 1, 1) := by decide +kernel
theorem d_7_1_6 : decode prog_7_method_1_code 6 = .ok (.putfield 7, 3) := by decide +kernel
set_option maxRecDepth 100000 in
theorem w_231 : (Cond.fieldLink "NumberHouse$Floats" (7 : Nat) "NumberHouse$Floats" "fractionBits" "I") ∈ q_tbl := q_of1 231 rfl (by decide +kernel)
theorem d_7_1_9 : decode prog_7_method_1_code 9 = .ok (.aload_n 0, 1) := by decide +kernel
theorem d_7_1_10 : decode prog_7_method_1_code 10 = .ok (.iload_n 2, 1) := by decide +kernel
theorem d_7_1_11 : decode prog_7_method_1_code 11 = .ok (.putfield 13, 3) := by decide +kernel
set_option maxRecDepth 100000 in
theorem w_233 : (Cond.fieldLink "NumberHouse$Floats" (13 : Nat) "NumberHouse$Floats" "bias" "I") ∈ q_tbl := q_of1 233 rfl (by decide +kernel)
theorem d_7_1_14 : decode prog_7_method_1_code 14 = .ok (.aload_n 0, 1) := by decide +kernel
theorem d_7_1_15 : decode prog_7_method_1_code 15 = .ok (.iload_n 3, 1) := by decide +kernel
theorem d_7_1_16 : decode prog_7_method_1_code 16 = .ok (.putfield 16, 3) := by decide +kernel
set_option maxRecDepth 100000 in
theorem w_234 : (Cond.fieldLink "NumberHouse$Floats" (16 : Nat) "NumberHouse$Floats" "topExponent" "I") ∈ q_tbl := q_of1 234 rfl (by decide +kernel)
theorem d_7_1_19 : decode prog_7_method_1_code 19 = .ok (.aload_n 0, 1) := by decide +kernel
theorem d_7_1_20 : decode prog_7_method_1_code 20 = .ok (.aload 4, 2) := by decide +kernel
theorem d_7_1_22 : decode prog_7_method_1_code 22 = .ok (.putfield 19, 3) := by decide +kernel
set_option maxRecDepth 100000 in
theorem w_241 : (Cond.fieldLink "NumberHouse$Floats" (19 : Nat) "NumberHouse$Floats" "mill" "LNumberHouse$Mill;") ∈ q_tbl := q_of2 1 rfl (by decide +kernel)
theorem d_7_1_25 : decode prog_7_method_1_code 25 = .ok (.return_, 1) := by decide +kernel
def y_Flo_init : MethodName := ⟨"NumberHouse$Floats", "<init>", "(IIILNumberHouse$Mill;)V"⟩
set_option maxRecDepth 100000 in
set_option maxHeartbeats 4000000 in
theorem c_Flo_init (l : Launch) (D : va_G) (g : Nat → ClassId) (ws : va_W) ( qO0 qO1 : Nat) (hN : ws.length = 35) (hO0 : ws[34]? = (some (qO0, .inr (6, [.int 0, .int 0, .int 0, .long 0, .int 0, .null, .int 0])) : Option (Nat × va_E))) : q_mV l y_Flo_init prog_7_method_1_code 5 2 0 0 D g [.ref qO0, .int 52, .int 1075, .int 2047, .ref qO1] ws (fun u => q_un ws u [34] ∧ u[34]? = (some (qO0, .inr (6, [.int 52, .int 1075, .int 2047, .long 0, .int 0, .ref qO1, .int 0])) : Option (Nat × va_E)) ∧ u.length = 35) := by
  intro sz
  refine q_into (by decide) (Nat.le_of_ble_eq_true rfl) ?_
  intro p e s m below meth c ls hsz C0 V hl
  have hx := C0.1
  have hb := C0.2.1
  have hl : lv_has ls 5 [(0, .ref qO0), (1, .int 52), (2, .int 1075), (3, .int 2047), (4, .ref qO1)] := hl
  have hF : q_un ws ws [34] := q_u0
  refine lv_aload_n hx hb d_7_1_0 rfl (lv_at hl 0 rfl) ?_
  refine q_obj C0 hl.1 rfl w_230 w_44 w_45 ⟨by decide, by decide⟩ d_7_1_1 ?_
  refine lv_aload_n hx hb d_7_1_4 rfl (lv_at hl 0 rfl) ?_
  refine lv_iload_n hx hb d_7_1_5 rfl (lv_at hl 1 rfl) ?_
  have ho3 := hO0
  refine q_putF (ci := 6) (j := 0) (v := .int 52) (ty := .int) C0 V i_Flo o_Flo n_Flo rfl rfl rfl rfl rfl hO0 (by decide) w_231 rfl rfl rfl (Nat.le_of_ble_eq_true rfl) d_7_1_6 (fun H locs w1 hu2 hO0 V => ?_)
  replace hO0 : w1[34]? = (some (qO0, .inr (6, [.int 52, .int 0, .int 0, .long 0, .int 0, .null, .int 0])) : Option (Nat × va_E)) := hO0
  replace hN : w1.length = 35 := (q_len1 hu2 hO0 ho3).trans hN
  replace hF := q_us hF hu2 (.head _)
  refine lv_aload_n hx hb d_7_1_9 rfl (lv_at hl 0 rfl) ?_
  refine lv_iload_n hx hb d_7_1_10 rfl (lv_at hl 2 rfl) ?_
  have ho6 := hO0
  refine q_putF (ci := 6) (j := 1) (v := .int 1075) (ty := .int) C0 V i_Flo o_Flo n_Flo rfl rfl rfl rfl rfl hO0 (by decide) w_233 rfl rfl rfl (Nat.le_of_ble_eq_true rfl) d_7_1_11 (fun H locs w4 hu5 hO0 V => ?_)
  replace hO0 : w4[34]? = (some (qO0, .inr (6, [.int 52, .int 1075, .int 0, .long 0, .int 0, .null, .int 0])) : Option (Nat × va_E)) := hO0
  replace hN : w4.length = 35 := (q_len1 hu5 hO0 ho6).trans hN
  replace hF := q_us hF hu5 (.head _)
  refine lv_aload_n hx hb d_7_1_14 rfl (lv_at hl 0 rfl) ?_
  refine lv_iload_n hx hb d_7_1_15 rfl (lv_at hl 3 rfl) ?_
  have ho9 := hO0
  refine q_putF (ci := 6) (j := 2) (v := .int 2047) (ty := .int) C0 V i_Flo o_Flo n_Flo rfl rfl rfl rfl rfl hO0 (by decide) w_234 rfl rfl rfl (Nat.le_of_ble_eq_true rfl) d_7_1_16 (fun H locs w7 hu8 hO0 V => ?_)
  replace hO0 : w7[34]? = (some (qO0, .inr (6, [.int 52, .int 1075, .int 2047, .long 0, .int 0, .null, .int 0])) : Option (Nat × va_E)) := hO0
  replace hN : w7.length = 35 := (q_len1 hu8 hO0 ho9).trans hN
  replace hF := q_us hF hu8 (.head _)
  refine lv_aload_n hx hb d_7_1_19 rfl (lv_at hl 0 rfl) ?_
  refine lv_aload hx hb d_7_1_20 (lv_at hl 4 rfl) ?_
  have ho12 := hO0
  refine q_putF (ci := 6) (j := 5) (v := .ref qO1) (ty := .object "NumberHouse$Mill") C0 V i_Flo o_Flo n_Flo rfl rfl rfl rfl rfl hO0 (by decide) w_241 rfl rfl rfl (Nat.le_of_ble_eq_true rfl) d_7_1_22 (fun H locs w10 hu11 hO0 V => ?_)
  replace hO0 : w10[34]? = (some (qO0, .inr (6, [.int 52, .int 1075, .int 2047, .long 0, .int 0, .ref qO1, .int 0])) : Option (Nat × va_E)) := hO0
  replace hN : w10.length = 35 := (q_len1 hu11 hO0 ho12).trans hN
  replace hF := q_us hF hu11 (.head _)
  exact q_retv C0 V (⟨hF, hO0, hN⟩) d_7_1_25
set_option maxRecDepth 100000 in
set_option maxHeartbeats 4000000 in
theorem c_Flo_init_2 (l : Launch) (D : va_G) (g : Nat → ClassId) (ws : va_W) ( qO0 qO1 : Nat) (hN : ws.length = 36) (hO0 : ws[35]? = (some (qO0, .inr (6, [.int 0, .int 0, .int 0, .long 0, .int 0, .null, .int 0])) : Option (Nat × va_E))) : q_mV l y_Flo_init prog_7_method_1_code 5 2 0 0 D g [.ref qO0, .int 23, .int 150, .int 255, .ref qO1] ws (fun u => q_un ws u [35] ∧ u[35]? = (some (qO0, .inr (6, [.int 23, .int 150, .int 255, .long 0, .int 0, .ref qO1, .int 0])) : Option (Nat × va_E)) ∧ u.length = 36) := by
  intro sz
  refine q_into (by decide) (Nat.le_of_ble_eq_true rfl) ?_
  intro p e s m below meth c ls hsz C0 V hl
  have hx := C0.1
  have hb := C0.2.1
  have hl : lv_has ls 5 [(0, .ref qO0), (1, .int 23), (2, .int 150), (3, .int 255), (4, .ref qO1)] := hl
  have hF : q_un ws ws [35] := q_u0
  refine lv_aload_n hx hb d_7_1_0 rfl (lv_at hl 0 rfl) ?_
  refine q_obj C0 hl.1 rfl w_230 w_44 w_45 ⟨by decide, by decide⟩ d_7_1_1 ?_
  refine lv_aload_n hx hb d_7_1_4 rfl (lv_at hl 0 rfl) ?_
  refine lv_iload_n hx hb d_7_1_5 rfl (lv_at hl 1 rfl) ?_
  have ho3 := hO0
  refine q_putF (ci := 6) (j := 0) (v := .int 23) (ty := .int) C0 V i_Flo o_Flo n_Flo rfl rfl rfl rfl rfl hO0 (by decide) w_231 rfl rfl rfl (Nat.le_of_ble_eq_true rfl) d_7_1_6 (fun H locs w1 hu2 hO0 V => ?_)
  replace hO0 : w1[35]? = (some (qO0, .inr (6, [.int 23, .int 0, .int 0, .long 0, .int 0, .null, .int 0])) : Option (Nat × va_E)) := hO0
  replace hN : w1.length = 36 := (q_len1 hu2 hO0 ho3).trans hN
  replace hF := q_us hF hu2 (.head _)
  refine lv_aload_n hx hb d_7_1_9 rfl (lv_at hl 0 rfl) ?_
  refine lv_iload_n hx hb d_7_1_10 rfl (lv_at hl 2 rfl) ?_
  have ho6 := hO0
  refine q_putF (ci := 6) (j := 1) (v := .int 150) (ty := .int) C0 V i_Flo o_Flo n_Flo rfl rfl rfl rfl rfl hO0 (by decide) w_233 rfl rfl rfl (Nat.le_of_ble_eq_true rfl) d_7_1_11 (fun H locs w4 hu5 hO0 V => ?_)
  replace hO0 : w4[35]? = (some (qO0, .inr (6, [.int 23, .int 150, .int 0, .long 0, .int 0, .null, .int 0])) : Option (Nat × va_E)) := hO0
  replace hN : w4.length = 36 := (q_len1 hu5 hO0 ho6).trans hN
  replace hF := q_us hF hu5 (.head _)
  refine lv_aload_n hx hb d_7_1_14 rfl (lv_at hl 0 rfl) ?_
  refine lv_iload_n hx hb d_7_1_15 rfl (lv_at hl 3 rfl) ?_
  have ho9 := hO0
  refine q_putF (ci := 6) (j := 2) (v := .int 255) (ty := .int) C0 V i_Flo o_Flo n_Flo rfl rfl rfl rfl rfl hO0 (by decide) w_234 rfl rfl rfl (Nat.le_of_ble_eq_true rfl) d_7_1_16 (fun H locs w7 hu8 hO0 V => ?_)
  replace hO0 : w7[35]? = (some (qO0, .inr (6, [.int 23, .int 150, .int 255, .long 0, .int 0, .null, .int 0])) : Option (Nat × va_E)) := hO0
  replace hN : w7.length = 36 := (q_len1 hu8 hO0 ho9).trans hN
  replace hF := q_us hF hu8 (.head _)
  refine lv_aload_n hx hb d_7_1_19 rfl (lv_at hl 0 rfl) ?_
  refine lv_aload hx hb d_7_1_20 (lv_at hl 4 rfl) ?_
  have ho12 := hO0
  refine q_putF (ci := 6) (j := 5) (v := .ref qO1) (ty := .object "NumberHouse$Mill") C0 V i_Flo o_Flo n_Flo rfl rfl rfl rfl rfl hO0 (by decide) w_241 rfl rfl rfl (Nat.le_of_ble_eq_true rfl) d_7_1_22 (fun H locs w10 hu11 hO0 V => ?_)
  replace hO0 : w10[35]? = (some (qO0, .inr (6, [.int 23, .int 150, .int 255, .long 0, .int 0, .ref qO1, .int 0])) : Option (Nat × va_E)) := hO0
  replace hN : w10.length = 36 := (q_len1 hu11 hO0 ho12).trans hN
  replace hF := q_us hF hu11 (.head _)
  exact q_retv C0 V (⟨hF, hO0, hN⟩) d_7_1_25
theorem d_5_1_0 : decode prog_5_method_1_code 0 = .ok (.aload_n 0, 1) := by decide +kernel
theorem d_5_1_1 : decode prog_5_method_1_code 1 = .ok (.invokespecial 1, 3) := by decide +kernel
set_option maxRecDepth 100000 in
theorem w_263 : (Cond.methodLink "NumberHouse$Digits" (1 : Nat) ({ cls := "java/lang/Object", name := "<init>", desc := "()V" } : MethodName)) ∈ q_tbl := q_of2 23 rfl (by decide +kernel)
theorem d_5_1_4 : decode prog_5_method_1_code 4 = .ok (.aload_n 0, 1) := by decide +kernel
theorem d_5_1_5 : decode prog_5_method_1_code 5 = .ok (.sipush 1026, 3) := by decide +kernel
theorem d_5_1_8 : decode prog_5_method_1_code 8 = .ok (.newarray .byte, 2) := by decide +kernel
set_option maxRecDepth 100000 in
theorem w_277 : (Cond.arrayClass .byte) ∈ q_tbl := q_of2 37 rfl (by decide +kernel)
theorem d_5_1_10 : decode prog_5_method_1_code 10 = .ok (.putfield 9, 3) := by decide +kernel
set_option maxRecDepth 100000 in
theorem w_269 : (Cond.fieldLink "NumberHouse$Digits" (9 : Nat) "NumberHouse$Digits" "row" "[B") ∈ q_tbl := q_of2 29 rfl (by decide +kernel)
theorem d_5_1_13 : decode prog_5_method_1_code 13 = .ok (.return_, 1) := by decide +kernel
def y_Dig_init : MethodName := ⟨"NumberHouse$Digits", "<init>", "()V"⟩
set_option maxRecDepth 100000 in
set_option maxHeartbeats 4000000 in
theorem c_Dig_init (l : Launch) (D : va_G) (g : Nat → ClassId) (ws : va_W) ( qO0 : Nat) (hN : ws.length = 37) (hO0 : ws[36]? = (some (qO0, .inr (7, [.int 0, .int 0, .null])) : Option (Nat × va_E))) : q_mV l y_Dig_init prog_5_method_1_code 1 2 1 1026 D g [.ref qO0] ws (fun u => ∃ (q1 : Nat), q_un ws u [36, 37] ∧ u[36]? = (some (qO0, .inr (7, [.int 0, .int 0, .ref q1])) : Option (Nat × va_E)) ∧ u[37]? = (some (q1, .inl (g 2, 1026, .inl (fun _ => 0))) : Option (Nat × va_E)) ∧ u.length = 38) := by
  intro sz
  refine q_into (by decide) (Nat.le_of_ble_eq_true rfl) ?_
  intro p e s m below meth c ls hsz C0 V hl
  have hx := C0.1
  have hb := C0.2.1
  have hl : lv_has ls 1 [(0, .ref qO0)] := hl
  have hF : q_un ws ws [36, 37] := q_u0
  refine lv_aload_n hx hb d_5_1_0 rfl (lv_at hl 0 rfl) ?_
  refine q_obj C0 hl.1 rfl w_263 w_44 w_45 ⟨by decide, by decide⟩ d_5_1_1 ?_
  refine lv_aload_n hx hb d_5_1_4 rfl (lv_at hl 0 rfl) ?_
  refine lv_sipush (v := 1026) hx hb d_5_1_5 (by decide) ?_
  refine q_newB (N' := 1026) C0 V hN w_277 (by decide) (by decide) (by decide) (Nat.le_of_ble_eq_true rfl) (Nat.le_of_ble_eq_true rfl) d_5_1_8 (fun q1 H w2 hu3 hn4 hN V => ?_)
  have hn0 : w2[37]? = (some (q1, .inl (g 2, 1026, .inl (fun _ => 0))) : Option (Nat × va_E)) := hn4
  replace hF := q_us hF hu3 (.tail _ (.head _))
  replace hN : w2.length = 38 := hN
  replace hO0 := (hu3 _ (q_pd 36 37 rfl)).trans (hO0)
  have ho7 := hO0
  refine q_putF (ci := 7) (j := 2) (v := .ref q1) (ty := .array .byte) C0 V i_Dig o_Dig n_Dig rfl rfl rfl rfl rfl hO0 (by decide) w_269 rfl rfl rfl (Nat.le_of_ble_eq_true rfl) d_5_1_10 (fun H locs w5 hu6 hO0 V => ?_)
  replace hO0 : w5[36]? = (some (qO0, .inr (7, [.int 0, .int 0, .ref q1])) : Option (Nat × va_E)) := hO0
  replace hN : w5.length = 38 := (q_len1 hu6 hO0 ho7).trans hN
  replace hF := q_us hF hu6 (.head _)
  replace hn0 := (hu6 _ (q_pd 37 36 rfl)).trans (hn0)
  exact q_retv C0 V (⟨q1, hF, hO0, hn0, hN⟩) d_5_1_13
theorem d_10_1_0 : decode prog_10_method_1_code 0 = .ok (.aload_n 0, 1) := by decide +kernel
theorem d_10_1_1 : decode prog_10_method_1_code 1 = .ok (.invokespecial 3, 3) := by decide +kernel
set_option maxRecDepth 100000 in
theorem w_283 : (Cond.methodLink "NumberHouse$Reader" (3 : Nat) ({ cls := "java/lang/Object", name := "<init>", desc := "()V" } : MethodName)) ∈ q_tbl := q_of2 43 rfl (by decide +kernel)
theorem d_10_1_4 : decode prog_10_method_1_code 4 = .ok (.aload_n 0, 1) := by decide +kernel
theorem d_10_1_5 : decode prog_10_method_1_code 5 = .ok (.aload_n 1, 1) := by decide +kernel
theorem d_10_1_6 : decode prog_10_method_1_code 6 = .ok (.putfield 9, 3) := by decide +kernel
set_option maxRecDepth 100000 in
theorem w_288 : (Cond.fieldLink "NumberHouse$Reader" (9 : Nat) "NumberHouse$Reader" "tape" "LNumberHouse$Sheet;") ∈ q_tbl := q_of2 48 rfl (by decide +kernel)
theorem d_10_1_9 : decode prog_10_method_1_code 9 = .ok (.aload_n 0, 1) := by decide +kernel
theorem d_10_1_10 : decode prog_10_method_1_code 10 = .ok (.aload_n 2, 1) := by decide +kernel
theorem d_10_1_11 : decode prog_10_method_1_code 11 = .ok (.putfield 15, 3) := by decide +kernel
set_option maxRecDepth 100000 in
theorem w_289 : (Cond.fieldLink "NumberHouse$Reader" (15 : Nat) "NumberHouse$Reader" "mill" "LNumberHouse$Mill;") ∈ q_tbl := q_of2 49 rfl (by decide +kernel)
theorem d_10_1_14 : decode prog_10_method_1_code 14 = .ok (.return_, 1) := by decide +kernel
def y_Rea_init : MethodName := ⟨"NumberHouse$Reader", "<init>", "(LNumberHouse$Sheet;LNumberHouse$Mill;)V"⟩
set_option maxRecDepth 100000 in
set_option maxHeartbeats 4000000 in
theorem c_Rea_init (l : Launch) (D : va_G) (g : Nat → ClassId) (ws : va_W) ( qO0 qO1 qO2 : Nat) (hN : ws.length = 39) (hO0 : ws[38]? = (some (qO0, .inr (8, [.long 0, .long 0, .null, .null, .int 0, .int 0, .int 0, .int 0, .int 0, .int 0, .int 0, .long 0])) : Option (Nat × va_E))) : q_mV l y_Rea_init prog_10_method_1_code 3 2 0 0 D g [.ref qO0, .ref qO1, .ref qO2] ws (fun u => q_un ws u [38] ∧ u[38]? = (some (qO0, .inr (8, [.long 0, .long 0, .ref qO1, .ref qO2, .int 0, .int 0, .int 0, .int 0, .int 0, .int 0, .int 0, .long 0])) : Option (Nat × va_E)) ∧ u.length = 39) := by
  intro sz
  refine q_into (by decide) (Nat.le_of_ble_eq_true rfl) ?_
  intro p e s m below meth c ls hsz C0 V hl
  have hx := C0.1
  have hb := C0.2.1
  have hl : lv_has ls 3 [(0, .ref qO0), (1, .ref qO1), (2, .ref qO2)] := hl
  have hF : q_un ws ws [38] := q_u0
  refine lv_aload_n hx hb d_10_1_0 rfl (lv_at hl 0 rfl) ?_
  refine q_obj C0 hl.1 rfl w_283 w_44 w_45 ⟨by decide, by decide⟩ d_10_1_1 ?_
  refine lv_aload_n hx hb d_10_1_4 rfl (lv_at hl 0 rfl) ?_
  refine lv_aload_n hx hb d_10_1_5 rfl (lv_at hl 1 rfl) ?_
  have ho3 := hO0
  refine q_putF (ci := 8) (j := 2) (v := .ref qO1) (ty := .object "NumberHouse$Sheet") C0 V i_Rea o_Rea n_Rea rfl rfl rfl rfl rfl hO0 (by decide) w_288 rfl rfl rfl (Nat.le_of_ble_eq_true rfl) d_10_1_6 (fun H locs w1 hu2 hO0 V => ?_)
  replace hO0 : w1[38]? = (some (qO0, .inr (8, [.long 0, .long 0, .ref qO1, .null, .int 0, .int 0, .int 0, .int 0, .int 0, .int 0, .int 0, .long 0])) : Option (Nat × va_E)) := hO0
  replace hN : w1.length = 39 := (q_len1 hu2 hO0 ho3).trans hN
  replace hF := q_us hF hu2 (.head _)
  refine lv_aload_n hx hb d_10_1_9 rfl (lv_at hl 0 rfl) ?_
  refine lv_aload_n hx hb d_10_1_10 rfl (lv_at hl 2 rfl) ?_
  have ho6 := hO0
  refine q_putF (ci := 8) (j := 3) (v := .ref qO2) (ty := .object "NumberHouse$Mill") C0 V i_Rea o_Rea n_Rea rfl rfl rfl rfl rfl hO0 (by decide) w_289 rfl rfl rfl (Nat.le_of_ble_eq_true rfl) d_10_1_11 (fun H locs w4 hu5 hO0 V => ?_)
  replace hO0 : w4[38]? = (some (qO0, .inr (8, [.long 0, .long 0, .ref qO1, .ref qO2, .int 0, .int 0, .int 0, .int 0, .int 0, .int 0, .int 0, .long 0])) : Option (Nat × va_E)) := hO0
  replace hN : w4.length = 39 := (q_len1 hu5 hO0 ho6).trans hN
  replace hF := q_us hF hu5 (.head _)
  exact q_retv C0 V (⟨hF, hO0, hN⟩) d_10_1_14
theorem d_12_1_0 : decode prog_12_method_1_code 0 = .ok (.aload_n 0, 1) := by decide +kernel
theorem d_12_1_1 : decode prog_12_method_1_code 1 = .ok (.invokespecial 1, 3) := by decide +kernel
set_option maxRecDepth 100000 in
theorem w_328 : (Cond.methodLink "NumberHouse$Writer" (1 : Nat) ({ cls := "java/lang/Object", name := "<init>", desc := "()V" } : MethodName)) ∈ q_tbl := q_of2 88 rfl (by decide +kernel)
theorem d_12_1_4 : decode prog_12_method_1_code 4 = .ok (.aload_n 0, 1) := by decide +kernel
theorem d_12_1_5 : decode prog_12_method_1_code 5 = .ok (.aload_n 1, 1) := by decide +kernel
theorem d_12_1_6 : decode prog_12_method_1_code 6 = .ok (.putfield 7, 3) := by decide +kernel
set_option maxRecDepth 100000 in
theorem w_329 : (Cond.fieldLink "NumberHouse$Writer" (7 : Nat) "NumberHouse$Writer" "paper" "LNumberHouse$Sheet;") ∈ q_tbl := q_of2 89 rfl (by decide +kernel)
theorem d_12_1_9 : decode prog_12_method_1_code 9 = .ok (.aload_n 0, 1) := by decide +kernel
theorem d_12_1_10 : decode prog_12_method_1_code 10 = .ok (.aload_n 2, 1) := by decide +kernel
theorem d_12_1_11 : decode prog_12_method_1_code 11 = .ok (.putfield 13, 3) := by decide +kernel
set_option maxRecDepth 100000 in
theorem w_330 : (Cond.fieldLink "NumberHouse$Writer" (13 : Nat) "NumberHouse$Writer" "mill" "LNumberHouse$Mill;") ∈ q_tbl := q_of2 90 rfl (by decide +kernel)
theorem d_12_1_14 : decode prog_12_method_1_code 14 = .ok (.aload_n 0, 1) := by decide +kernel
theorem d_12_1_15 : decode prog_12_method_1_code 15 = .ok (.aload_n 3, 1) := by decide +kernel
theorem d_12_1_16 : decode prog_12_method_1_code 16 = .ok (.putfield 17, 3) := by decide +kernel
set_option maxRecDepth 100000 in
theorem w_331 : (Cond.fieldLink "NumberHouse$Writer" (17 : Nat) "NumberHouse$Writer" "digits" "LNumberHouse$Digits;") ∈ q_tbl := q_of2 91 rfl (by decide +kernel)
theorem d_12_1_19 : decode prog_12_method_1_code 19 = .ok (.return_, 1) := by decide +kernel
def y_Wri_init : MethodName := ⟨"NumberHouse$Writer", "<init>", "(LNumberHouse$Sheet;LNumberHouse$Mill;LNumberHouse$Digits;)V"⟩
set_option maxRecDepth 100000 in
set_option maxHeartbeats 4000000 in
theorem c_Wri_init (l : Launch) (D : va_G) (g : Nat → ClassId) (ws : va_W) ( qO0 qO1 qO2 qO3 : Nat) (hN : ws.length = 40) (hO0 : ws[39]? = (some (qO0, .inr (9, [.null, .null, .null])) : Option (Nat × va_E))) : q_mV l y_Wri_init prog_12_method_1_code 4 2 0 0 D g [.ref qO0, .ref qO1, .ref qO2, .ref qO3] ws (fun u => q_un ws u [39] ∧ u[39]? = (some (qO0, .inr (9, [.ref qO1, .ref qO2, .ref qO3])) : Option (Nat × va_E)) ∧ u.length = 40) := by
  intro sz
  refine q_into (by decide) (Nat.le_of_ble_eq_true rfl) ?_
  intro p e s m below meth c ls hsz C0 V hl
  have hx := C0.1
  have hb := C0.2.1
  have hl : lv_has ls 4 [(0, .ref qO0), (1, .ref qO1), (2, .ref qO2), (3, .ref qO3)] := hl
  have hF : q_un ws ws [39] := q_u0
  refine lv_aload_n hx hb d_12_1_0 rfl (lv_at hl 0 rfl) ?_
  refine q_obj C0 hl.1 rfl w_328 w_44 w_45 ⟨by decide, by decide⟩ d_12_1_1 ?_
  refine lv_aload_n hx hb d_12_1_4 rfl (lv_at hl 0 rfl) ?_
  refine lv_aload_n hx hb d_12_1_5 rfl (lv_at hl 1 rfl) ?_
  have ho3 := hO0
  refine q_putF (ci := 9) (j := 0) (v := .ref qO1) (ty := .object "NumberHouse$Sheet") C0 V i_Wri o_Wri n_Wri rfl rfl rfl rfl rfl hO0 (by decide) w_329 rfl rfl rfl (Nat.le_of_ble_eq_true rfl) d_12_1_6 (fun H locs w1 hu2 hO0 V => ?_)
  replace hO0 : w1[39]? = (some (qO0, .inr (9, [.ref qO1, .null, .null])) : Option (Nat × va_E)) := hO0
  replace hN : w1.length = 40 := (q_len1 hu2 hO0 ho3).trans hN
  replace hF := q_us hF hu2 (.head _)
  refine lv_aload_n hx hb d_12_1_9 rfl (lv_at hl 0 rfl) ?_
  refine lv_aload_n hx hb d_12_1_10 rfl (lv_at hl 2 rfl) ?_
  have ho6 := hO0
  refine q_putF (ci := 9) (j := 1) (v := .ref qO2) (ty := .object "NumberHouse$Mill") C0 V i_Wri o_Wri n_Wri rfl rfl rfl rfl rfl hO0 (by decide) w_330 rfl rfl rfl (Nat.le_of_ble_eq_true rfl) d_12_1_11 (fun H locs w4 hu5 hO0 V => ?_)
  replace hO0 : w4[39]? = (some (qO0, .inr (9, [.ref qO1, .ref qO2, .null])) : Option (Nat × va_E)) := hO0
  replace hN : w4.length = 40 := (q_len1 hu5 hO0 ho6).trans hN
  replace hF := q_us hF hu5 (.head _)
  refine lv_aload_n hx hb d_12_1_14 rfl (lv_at hl 0 rfl) ?_
  refine lv_aload_n hx hb d_12_1_15 rfl (lv_at hl 3 rfl) ?_
  have ho9 := hO0
  refine q_putF (ci := 9) (j := 2) (v := .ref qO3) (ty := .object "NumberHouse$Digits") C0 V i_Wri o_Wri n_Wri rfl rfl rfl rfl rfl hO0 (by decide) w_331 rfl rfl rfl (Nat.le_of_ble_eq_true rfl) d_12_1_16 (fun H locs w7 hu8 hO0 V => ?_)
  replace hO0 : w7[39]? = (some (qO0, .inr (9, [.ref qO1, .ref qO2, .ref qO3])) : Option (Nat × va_E)) := hO0
  replace hN : w7.length = 40 := (q_len1 hu8 hO0 ho9).trans hN
  replace hF := q_us hF hu8 (.head _)
  exact q_retv C0 V (⟨hF, hO0, hN⟩) d_12_1_19
theorem d_6_1_0 : decode prog_6_method_1_code 0 = .ok (.aload_n 0, 1) := by decide +kernel
theorem d_6_1_1 : decode prog_6_method_1_code 1 = .ok (.invokespecial 3, 3) := by decide +kernel
set_option maxRecDepth 100000 in
theorem w_353 : (Cond.methodLink "NumberHouse$Directive" (3 : Nat) ({ cls := "java/lang/Object", name := "<init>", desc := "()V" } : MethodName)) ∈ q_tbl := q_of2 113 rfl (by decide +kernel)
theorem d_6_1_4 : decode prog_6_method_1_code 4 = .ok (.aload_n 0, 1) := by decide +kernel
theorem d_6_1_5 : decode prog_6_method_1_code 5 = .ok (.aload_n 1, 1) := by decide +kernel
theorem d_6_1_6 : decode prog_6_method_1_code 6 = .ok (.putfield 9, 3) := by decide +kernel
set_option maxRecDepth 100000 in
theorem w_365 : (Cond.fieldLink "NumberHouse$Directive" (9 : Nat) "NumberHouse$Directive" "text" "LNumberHouse$Sheet;") ∈ q_tbl := q_of2 125 rfl (by decide +kernel)
theorem d_6_1_9 : decode prog_6_method_1_code 9 = .ok (.return_, 1) := by decide +kernel
def y_Dir_init : MethodName := ⟨"NumberHouse$Directive", "<init>", "(LNumberHouse$Sheet;)V"⟩
set_option maxRecDepth 100000 in
set_option maxHeartbeats 4000000 in
theorem c_Dir_init (l : Launch) (D : va_G) (g : Nat → ClassId) (ws : va_W) ( qO0 qO1 : Nat) (hN : ws.length = 48) (hO0 : ws[47]? = (some (qO0, .inr (10, [.int 0, .int 0, .int 0, .int 0, .int 0, .int 0, .null, .int 0])) : Option (Nat × va_E))) : q_mV l y_Dir_init prog_6_method_1_code 2 2 0 0 D g [.ref qO0, .ref qO1] ws (fun u => q_un ws u [47] ∧ u[47]? = (some (qO0, .inr (10, [.int 0, .int 0, .int 0, .int 0, .int 0, .int 0, .ref qO1, .int 0])) : Option (Nat × va_E)) ∧ u.length = 48) := by
  intro sz
  refine q_into (by decide) (Nat.le_of_ble_eq_true rfl) ?_
  intro p e s m below meth c ls hsz C0 V hl
  have hx := C0.1
  have hb := C0.2.1
  have hl : lv_has ls 2 [(0, .ref qO0), (1, .ref qO1)] := hl
  have hF : q_un ws ws [47] := q_u0
  refine lv_aload_n hx hb d_6_1_0 rfl (lv_at hl 0 rfl) ?_
  refine q_obj C0 hl.1 rfl w_353 w_44 w_45 ⟨by decide, by decide⟩ d_6_1_1 ?_
  refine lv_aload_n hx hb d_6_1_4 rfl (lv_at hl 0 rfl) ?_
  refine lv_aload_n hx hb d_6_1_5 rfl (lv_at hl 1 rfl) ?_
  have ho3 := hO0
  refine q_putF (ci := 10) (j := 6) (v := .ref qO1) (ty := .object "NumberHouse$Sheet") C0 V i_Dir o_Dir n_Dir rfl rfl rfl rfl rfl hO0 (by decide) w_365 rfl rfl rfl (Nat.le_of_ble_eq_true rfl) d_6_1_6 (fun H locs w1 hu2 hO0 V => ?_)
  replace hO0 : w1[47]? = (some (qO0, .inr (10, [.int 0, .int 0, .int 0, .int 0, .int 0, .int 0, .ref qO1, .int 0])) : Option (Nat × va_E)) := hO0
  replace hN : w1.length = 48 := (q_len1 hu2 hO0 ho3).trans hN
  replace hF := q_us hF hu2 (.head _)
  exact q_retv C0 V (⟨hF, hO0, hN⟩) d_6_1_9
theorem d_9_1_0 : decode prog_9_method_1_code 0 = .ok (.aload_n 0, 1) := by decide +kernel
theorem d_9_1_1 : decode prog_9_method_1_code 1 = .ok (.invokespecial 3, 3) := by decide +kernel
set_option maxRecDepth 100000 in
theorem w_344 : (Cond.methodLink "NumberHouse$Printer" (3 : Nat) ({ cls := "java/lang/Object", name := "<init>", desc := "()V" } : MethodName)) ∈ q_tbl := q_of2 104 rfl (by decide +kernel)
theorem d_9_1_4 : decode prog_9_method_1_code 4 = .ok (.aload_n 0, 1) := by decide +kernel
theorem d_9_1_5 : decode prog_9_method_1_code 5 = .ok (.bipush 9, 2) := by decide +kernel
theorem d_9_1_7 : decode prog_9_method_1_code 7 = .ok (.newarray .int, 2) := by decide +kernel
theorem d_9_1_9 : decode prog_9_method_1_code 9 = .ok (.putfield 11, 3) := by decide +kernel
set_option maxRecDepth 100000 in
theorem w_386 : (Cond.fieldLink "NumberHouse$Printer" (11 : Nat) "NumberHouse$Printer" "kinds" "[I") ∈ q_tbl := q_of2 146 rfl (by decide +kernel)
theorem d_9_1_12 : decode prog_9_method_1_code 12 = .ok (.aload_n 0, 1) := by decide +kernel
theorem d_9_1_13 : decode prog_9_method_1_code 13 = .ok (.bipush 9, 2) := by decide +kernel
theorem d_9_1_15 : decode prog_9_method_1_code 15 = .ok (.newarray .long, 2) := by decide +kernel
theorem d_9_1_17 : decode prog_9_method_1_code 17 = .ok (.putfield 15, 3) := by decide +kernel
set_option maxRecDepth 100000 in
theorem w_387 : (Cond.fieldLink "NumberHouse$Printer" (15 : Nat) "NumberHouse$Printer" "numbers" "[J") ∈ q_tbl := q_of2 147 rfl (by decide +kernel)
theorem d_9_1_20 : decode prog_9_method_1_code 20 = .ok (.aload_n 0, 1) := by decide +kernel
theorem d_9_1_21 : decode prog_9_method_1_code 21 = .ok (.bipush 9, 2) := by decide +kernel
theorem d_9_1_23 : decode prog_9_method_1_code 23 = .ok (.newarray .int, 2) := by decide +kernel
theorem d_9_1_25 : decode prog_9_method_1_code 25 = .ok (.putfield 19, 3) := by decide +kernel
set_option maxRecDepth 100000 in
theorem w_388 : (Cond.fieldLink "NumberHouse$Printer" (19 : Nat) "NumberHouse$Printer" "scales" "[I") ∈ q_tbl := q_of2 148 rfl (by decide +kernel)
theorem d_9_1_28 : decode prog_9_method_1_code 28 = .ok (.aload_n 0, 1) := by decide +kernel
theorem d_9_1_29 : decode prog_9_method_1_code 29 = .ok (.bipush 9, 2) := by decide +kernel
theorem d_9_1_31 : decode prog_9_method_1_code 31 = .ok (.anewarray 22, 3) := by decide +kernel
set_option maxRecDepth 100000 in
theorem wo_346 : (Cond.arrayOver (.object "NumberHouse$Sheet")) ∈ q_odd := q_oo2 106 rfl (by decide +kernel)
set_option maxRecDepth 100000 in
theorem w_345 : (Cond.classLink "NumberHouse$Printer" (22 : Nat) "NumberHouse$Sheet") ∈ q_tbl := q_of2 105 rfl (by decide +kernel)
theorem d_9_1_34 : decode prog_9_method_1_code 34 = .ok (.putfield 24, 3) := by decide +kernel
set_option maxRecDepth 100000 in
theorem w_389 : (Cond.fieldLink "NumberHouse$Printer" (24 : Nat) "NumberHouse$Printer" "texts" "[LNumberHouse$Sheet;") ∈ q_tbl := q_of2 149 rfl (by decide +kernel)
theorem d_9_1_37 : decode prog_9_method_1_code 37 = .ok (.aload_n 0, 1) := by decide +kernel
theorem d_9_1_38 : decode prog_9_method_1_code 38 = .ok (.new 22, 3) := by decide +kernel
set_option maxRecDepth 100000 in
theorem w_47 : (Cond.instantiable "NumberHouse$Sheet" (3 : Nat)) ∈ q_tbl := q_of1 47 rfl (by decide +kernel)
set_option maxRecDepth 100000 in
theorem w_2 : (Cond.initialized "NumberHouse$Sheet") ∈ q_tbl := q_of1 2 rfl (by decide +kernel)
theorem d_9_1_41 : decode prog_9_method_1_code 41 = .ok (.dup, 1) := by decide +kernel
theorem d_9_1_42 : decode prog_9_method_1_code 42 = .ok (.sipush 4104, 3) := by decide +kernel
theorem d_9_1_45 : decode prog_9_method_1_code 45 = .ok (.invokespecial 28, 3) := by decide +kernel
set_option maxRecDepth 100000 in
theorem w_50 : (Cond.code ({ cls := "NumberHouse$Sheet", name := "<init>", desc := "(I)V" } : MethodName) prog_11_method_1_code (2 : Nat) (none : Option ClassFile.FieldType)) ∈ q_tbl := q_of1 50 rfl (by decide +kernel)
set_option maxRecDepth 100000 in
theorem w_347 : (Cond.methodLink "NumberHouse$Printer" (28 : Nat) ({ cls := "NumberHouse$Sheet", name := "<init>", desc := "(I)V" } : MethodName)) ∈ q_tbl := q_of2 107 rfl (by decide +kernel)
set_option maxRecDepth 100000 in
theorem w_49 : (Cond.instanceMethod ({ cls := "NumberHouse$Sheet", name := "<init>", desc := "(I)V" } : MethodName)) ∈ q_tbl := q_of1 49 rfl (by decide +kernel)
theorem LI_Pri_28 : q_LI "NumberHouse$Printer" 28 y_She_init prog_11_method_1_code 2 1 := ⟨w_50, w_2, w_347, w_49, rfl, ⟨by decide, by decide, by decide +kernel⟩⟩
theorem d_9_1_48 : decode prog_9_method_1_code 48 = .ok (.putfield 31, 3) := by decide +kernel
set_option maxRecDepth 100000 in
theorem w_393 : (Cond.fieldLink "NumberHouse$Printer" (31 : Nat) "NumberHouse$Printer" "body" "LNumberHouse$Sheet;") ∈ q_tbl := q_of2 153 rfl (by decide +kernel)
theorem d_9_1_51 : decode prog_9_method_1_code 51 = .ok (.aload_n 0, 1) := by decide +kernel
theorem d_9_1_52 : decode prog_9_method_1_code 52 = .ok (.aload_n 1, 1) := by decide +kernel
theorem d_9_1_53 : decode prog_9_method_1_code 53 = .ok (.putfield 35, 3) := by decide +kernel
set_option maxRecDepth 100000 in
theorem w_390 : (Cond.fieldLink "NumberHouse$Printer" (35 : Nat) "NumberHouse$Printer" "tape" "LNumberHouse$Sheet;") ∈ q_tbl := q_of2 150 rfl (by decide +kernel)
theorem d_9_1_56 : decode prog_9_method_1_code 56 = .ok (.aload_n 0, 1) := by decide +kernel
theorem d_9_1_57 : decode prog_9_method_1_code 57 = .ok (.aload_n 2, 1) := by decide +kernel
theorem d_9_1_58 : decode prog_9_method_1_code 58 = .ok (.putfield 38, 3) := by decide +kernel
set_option maxRecDepth 100000 in
theorem w_392 : (Cond.fieldLink "NumberHouse$Printer" (38 : Nat) "NumberHouse$Printer" "digits" "LNumberHouse$Digits;") ∈ q_tbl := q_of2 152 rfl (by decide +kernel)
theorem d_9_1_61 : decode prog_9_method_1_code 61 = .ok (.aload_n 0, 1) := by decide +kernel
theorem d_9_1_62 : decode prog_9_method_1_code 62 = .ok (.new 42, 3) := by decide +kernel
set_option maxRecDepth 100000 in
theorem w_348 : (Cond.classLink "NumberHouse$Printer" (42 : Nat) "NumberHouse$Directive") ∈ q_tbl := q_of2 108 rfl (by decide +kernel)
set_option maxRecDepth 100000 in
theorem w_349 : (Cond.instantiable "NumberHouse$Directive" (8 : Nat)) ∈ q_tbl := q_of2 109 rfl (by decide +kernel)
set_option maxRecDepth 100000 in
theorem w_13 : (Cond.initialized "NumberHouse$Directive") ∈ q_tbl := q_of1 13 rfl (by decide +kernel)
theorem d_9_1_65 : decode prog_9_method_1_code 65 = .ok (.dup, 1) := by decide +kernel
theorem d_9_1_66 : decode prog_9_method_1_code 66 = .ok (.aload_n 1, 1) := by decide +kernel
theorem d_9_1_67 : decode prog_9_method_1_code 67 = .ok (.invokespecial 44, 3) := by decide +kernel
set_option maxRecDepth 100000 in
theorem w_352 : (Cond.code ({ cls := "NumberHouse$Directive", name := "<init>", desc := "(LNumberHouse$Sheet;)V" } : MethodName) prog_6_method_1_code (2 : Nat) (none : Option ClassFile.FieldType)) ∈ q_tbl := q_of2 112 rfl (by decide +kernel)
set_option maxRecDepth 100000 in
theorem w_350 : (Cond.methodLink "NumberHouse$Printer" (44 : Nat) ({ cls := "NumberHouse$Directive", name := "<init>", desc := "(LNumberHouse$Sheet;)V" } : MethodName)) ∈ q_tbl := q_of2 110 rfl (by decide +kernel)
set_option maxRecDepth 100000 in
theorem w_351 : (Cond.instanceMethod ({ cls := "NumberHouse$Directive", name := "<init>", desc := "(LNumberHouse$Sheet;)V" } : MethodName)) ∈ q_tbl := q_of2 111 rfl (by decide +kernel)
theorem LI_Pri_44 : q_LI "NumberHouse$Printer" 44 y_Dir_init prog_6_method_1_code 2 1 := ⟨w_352, w_13, w_350, w_351, rfl, ⟨by decide, by decide, by decide +kernel⟩⟩
theorem d_9_1_70 : decode prog_9_method_1_code 70 = .ok (.putfield 47, 3) := by decide +kernel
set_option maxRecDepth 100000 in
theorem w_391 : (Cond.fieldLink "NumberHouse$Printer" (47 : Nat) "NumberHouse$Printer" "directive" "LNumberHouse$Directive;") ∈ q_tbl := q_of2 151 rfl (by decide +kernel)
theorem d_9_1_73 : decode prog_9_method_1_code 73 = .ok (.iconst 0, 1) := by decide +kernel
theorem d_9_1_74 : decode prog_9_method_1_code 74 = .ok (.istore_n 3, 1) := by decide +kernel
theorem d_9_1_75 : decode prog_9_method_1_code 75 = .ok (.iload_n 3, 1) := by decide +kernel
theorem d_9_1_76 : decode prog_9_method_1_code 76 = .ok (.bipush 9, 2) := by decide +kernel
theorem d_9_1_78 : decode prog_9_method_1_code 78 = .ok (.if_icmp .ge 24, 3) := by decide +kernel
theorem d_9_1_81 : decode prog_9_method_1_code 81 = .ok (.aload_n 0, 1) := by decide +kernel
theorem d_9_1_82 : decode prog_9_method_1_code 82 = .ok (.getfield 24, 3) := by decide +kernel
theorem d_9_1_85 : decode prog_9_method_1_code 85 = .ok (.iload_n 3, 1) := by decide +kernel
theorem d_9_1_86 : decode prog_9_method_1_code 86 = .ok (.new 22, 3) := by decide +kernel
theorem d_9_1_89 : decode prog_9_method_1_code 89 = .ok (.dup, 1) := by decide +kernel
theorem d_9_1_90 : decode prog_9_method_1_code 90 = .ok (.bipush 64, 2) := by decide +kernel
theorem d_9_1_92 : decode prog_9_method_1_code 92 = .ok (.invokespecial 28, 3) := by decide +kernel
theorem d_9_1_95 : decode prog_9_method_1_code 95 = .ok (.aastore, 1) := by decide +kernel
theorem d_9_1_96 : decode prog_9_method_1_code 96 = .ok (.iinc 3 1, 3) := by decide +kernel
theorem d_9_1_99 : decode prog_9_method_1_code 99 = .ok (.goto (-24), 3) := by decide +kernel
theorem d_9_1_102 : decode prog_9_method_1_code 102 = .ok (.return_, 1) := by decide +kernel
def y_Pri_init : MethodName := ⟨"NumberHouse$Printer", "<init>", "(LNumberHouse$Sheet;LNumberHouse$Digits;)V"⟩


set_option maxRecDepth 100000 in
set_option maxHeartbeats 4000000 in
theorem c_Pri_init (l : Launch) (D : va_G) (g : Nat → ClassId) (ws : va_W) ( qO0 qO1 qO2 : Nat) (hN : ws.length = 41) (hO0 : ws[40]? = (some (qO0, .inr (11, [.int 0, .null, .null, .null, .null, .null, .null, .null, .null, .int 0, .int 0, .int 0])) : Option (Nat × va_E))) : q_mV l y_Pri_init prog_9_method_1_code 4 3 25 659 D g [.ref qO0, .ref qO1, .ref qO2] ws (fun u => ∃ (q1 : Nat) (q8 : Nat) (q15 : Nat) (q22 : Nat) (q29 : Nat) (q35 : Nat) (q47 : Nat) (q58 : Nat) (q64 : Nat) (q71 : Nat) (q77 : Nat) (q84 : Nat) (q90 : Nat) (q97 : Nat) (q103 : Nat) (q110 : Nat) (q116 : Nat) (q123 : Nat) (q129 : Nat) (q136 : Nat) (q142 : Nat) (q149 : Nat) (q155 : Nat) (q162 : Nat) (q168 : Nat), q_un ws u [40, 41, 42, 43, 44, 45, 46, 47, 48, 49, 50, 51, 52, 53, 54, 55, 56, 57, 58, 59, 60, 61, 62, 63, 64, 65] ∧ u[40]? = (some (qO0, .inr (11, [.int 0, .ref q1, .ref q8, .ref q15, .ref q22, .ref qO1, .ref q47, .ref qO2, .ref q29, .int 0, .int 0, .int 0])) : Option (Nat × va_E)) ∧ u[41]? = (some (q1, .inl (g 0, 9, .inl (fun _ => 0))) : Option (Nat × va_E)) ∧ u[42]? = (some (q8, .inl (g 1, 9, .inr (.inl (fun _ => 0)))) : Option (Nat × va_E)) ∧ u[43]? = (some (q15, .inl (g 0, 9, .inl (fun _ => 0))) : Option (Nat × va_E)) ∧ u[44]? = (some (q22, .inl (g 6, 9, .inr (.inr (.inr (.inr (va_up (va_up (va_up (va_up (va_up (va_up (va_up (va_up (va_up (fun _ => none) 0 (some q58)) 1 (some q71)) 2 (some q84)) 3 (some q97)) 4 (some q110)) 5 (some q123)) 6 (some q136)) 7 (some q149)) 8 (some q162))))))) : Option (Nat × va_E)) ∧ u[45]? = (some (q29, .inr (1, [.ref q35, .int 4104, .int 0])) : Option (Nat × va_E)) ∧ u[46]? = (some (q35, .inl (g 1, 513, .inr (.inl (fun _ => 0)))) : Option (Nat × va_E)) ∧ u[47]? = (some (q47, .inr (10, [.int 0, .int 0, .int 0, .int 0, .int 0, .int 0, .ref qO1, .int 0])) : Option (Nat × va_E)) ∧ u[48]? = (some (q58, .inr (1, [.ref q64, .int 64, .int 0])) : Option (Nat × va_E)) ∧ u[49]? = (some (q64, .inl (g 1, 8, .inr (.inl (fun _ => 0)))) : Option (Nat × va_E)) ∧ u[50]? = (some (q71, .inr (1, [.ref q77, .int 64, .int 0])) : Option (Nat × va_E)) ∧ u[51]? = (some (q77, .inl (g 1, 8, .inr (.inl (fun _ => 0)))) : Option (Nat × va_E)) ∧ u[52]? = (some (q84, .inr (1, [.ref q90, .int 64, .int 0])) : Option (Nat × va_E)) ∧ u[53]? = (some (q90, .inl (g 1, 8, .inr (.inl (fun _ => 0)))) : Option (Nat × va_E)) ∧ u[54]? = (some (q97, .inr (1, [.ref q103, .int 64, .int 0])) : Option (Nat × va_E)) ∧ u[55]? = (some (q103, .inl (g 1, 8, .inr (.inl (fun _ => 0)))) : Option (Nat × va_E)) ∧ u[56]? = (some (q110, .inr (1, [.ref q116, .int 64, .int 0])) : Option (Nat × va_E)) ∧ u[57]? = (some (q116, .inl (g 1, 8, .inr (.inl (fun _ => 0)))) : Option (Nat × va_E)) ∧ u[58]? = (some (q123, .inr (1, [.ref q129, .int 64, .int 0])) : Option (Nat × va_E)) ∧ u[59]? = (some (q129, .inl (g 1, 8, .inr (.inl (fun _ => 0)))) : Option (Nat × va_E)) ∧ u[60]? = (some (q136, .inr (1, [.ref q142, .int 64, .int 0])) : Option (Nat × va_E)) ∧ u[61]? = (some (q142, .inl (g 1, 8, .inr (.inl (fun _ => 0)))) : Option (Nat × va_E)) ∧ u[62]? = (some (q149, .inr (1, [.ref q155, .int 64, .int 0])) : Option (Nat × va_E)) ∧ u[63]? = (some (q155, .inl (g 1, 8, .inr (.inl (fun _ => 0)))) : Option (Nat × va_E)) ∧ u[64]? = (some (q162, .inr (1, [.ref q168, .int 64, .int 0])) : Option (Nat × va_E)) ∧ u[65]? = (some (q168, .inl (g 1, 8, .inr (.inl (fun _ => 0)))) : Option (Nat × va_E)) ∧ u.length = 66) := by
  intro sz
  refine q_into (by decide) (Nat.le_of_ble_eq_true rfl) ?_
  intro p e s m below meth c ls hsz C0 V hl
  have hx := C0.1
  have hb := C0.2.1
  have hl : lv_has ls 4 [(0, .ref qO0), (1, .ref qO1), (2, .ref qO2)] := hl
  have hF : q_un ws ws [40, 41, 42, 43, 44, 45, 46, 47, 48, 49, 50, 51, 52, 53, 54, 55, 56, 57, 58, 59, 60, 61, 62, 63, 64, 65] := q_u0
  refine lv_aload_n hx hb d_9_1_0 rfl (lv_at hl 0 rfl) ?_
  refine q_obj C0 hl.1 rfl w_344 w_44 w_45 ⟨by decide, by decide⟩ d_9_1_1 ?_
  refine lv_aload_n hx hb d_9_1_4 rfl (lv_at hl 0 rfl) ?_
  refine lv_bipush (v := 9) hx hb d_9_1_5 (by decide) ?_
  refine q_newI (N' := 9) C0 V hN w_107 (by decide) (by decide) (by decide) (Nat.le_of_ble_eq_true rfl) (Nat.le_of_ble_eq_true rfl) d_9_1_7 (fun q1 H w2 hu3 hn4 hN V => ?_)
  have hn0 : w2[41]? = (some (q1, .inl (g 0, 9, .inl (fun _ => 0))) : Option (Nat × va_E)) := hn4
  replace hF := q_us hF hu3 (.tail _ (.head _))
  replace hN : w2.length = 42 := hN
  replace hO0 := (hu3 _ (q_pd 40 41 rfl)).trans (hO0)
  have ho7 := hO0
  refine q_putF (ci := 11) (j := 1) (v := .ref q1) (ty := .array .int) C0 V i_Pri o_Pri n_Pri rfl rfl rfl rfl rfl hO0 (by decide) w_386 rfl rfl rfl (Nat.le_of_ble_eq_true rfl) d_9_1_9 (fun H locs w5 hu6 hO0 V => ?_)
  replace hO0 : w5[40]? = (some (qO0, .inr (11, [.int 0, .ref q1, .null, .null, .null, .null, .null, .null, .null, .int 0, .int 0, .int 0])) : Option (Nat × va_E)) := hO0
  replace hN : w5.length = 42 := (q_len1 hu6 hO0 ho7).trans hN
  replace hF := q_us hF hu6 (.head _)
  refine lv_aload_n hx hb d_9_1_12 rfl (lv_at hl 0 rfl) ?_
  refine lv_bipush (v := 9) hx hb d_9_1_13 (by decide) ?_
  refine q_newL (N' := 9) C0 V hN w_67 (by decide) (by decide) (by decide) (Nat.le_of_ble_eq_true rfl) (Nat.le_of_ble_eq_true rfl) d_9_1_15 (fun q8 H w9 hu10 hn11 hN V => ?_)
  have hn1 : w9[42]? = (some (q8, .inl (g 1, 9, .inr (.inl (fun _ => 0)))) : Option (Nat × va_E)) := hn11
  replace hF := q_us hF hu10 (.tail _ (.tail _ (.head _)))
  replace hN : w9.length = 43 := hN
  replace hO0 := (hu10 _ (q_pd 40 42 rfl)).trans (hO0)
  have ho14 := hO0
  refine q_putF (ci := 11) (j := 2) (v := .ref q8) (ty := .array .long) C0 V i_Pri o_Pri n_Pri rfl rfl rfl rfl rfl hO0 (by decide) w_387 rfl rfl rfl (Nat.le_of_ble_eq_true rfl) d_9_1_17 (fun H locs w12 hu13 hO0 V => ?_)
  replace hO0 : w12[40]? = (some (qO0, .inr (11, [.int 0, .ref q1, .ref q8, .null, .null, .null, .null, .null, .null, .int 0, .int 0, .int 0])) : Option (Nat × va_E)) := hO0
  replace hN : w12.length = 43 := (q_len1 hu13 hO0 ho14).trans hN
  replace hF := q_us hF hu13 (.head _)
  refine lv_aload_n hx hb d_9_1_20 rfl (lv_at hl 0 rfl) ?_
  refine lv_bipush (v := 9) hx hb d_9_1_21 (by decide) ?_
  refine q_newI (N' := 9) C0 V hN w_107 (by decide) (by decide) (by decide) (Nat.le_of_ble_eq_true rfl) (Nat.le_of_ble_eq_true rfl) d_9_1_23 (fun q15 H w16 hu17 hn18 hN V => ?_)
  have hn2 : w16[43]? = (some (q15, .inl (g 0, 9, .inl (fun _ => 0))) : Option (Nat × va_E)) := hn18
  replace hF := q_us hF hu17 (List.mem_of_getElem? (i := 3) rfl)
  replace hN : w16.length = 44 := hN
  replace hO0 := (hu17 _ (q_pd 40 43 rfl)).trans (hO0)
  have ho21 := hO0
  refine q_putF (ci := 11) (j := 3) (v := .ref q15) (ty := .array .int) C0 V i_Pri o_Pri n_Pri rfl rfl rfl rfl rfl hO0 (by decide) w_388 rfl rfl rfl (Nat.le_of_ble_eq_true rfl) d_9_1_25 (fun H locs w19 hu20 hO0 V => ?_)
  replace hO0 : w19[40]? = (some (qO0, .inr (11, [.int 0, .ref q1, .ref q8, .ref q15, .null, .null, .null, .null, .null, .int 0, .int 0, .int 0])) : Option (Nat × va_E)) := hO0
  replace hN : w19.length = 44 := (q_len1 hu20 hO0 ho21).trans hN
  replace hF := q_us hF hu20 (.head _)
  refine lv_aload_n hx hb d_9_1_28 rfl (lv_at hl 0 rfl) ?_
  refine lv_bipush (v := 9) hx hb d_9_1_29 (by decide) ?_
  refine q_newQ (t := 6) (E := "NumberHouse$Sheet") (N' := 9) C0 V hN rfl w_345 wo_346 rfl (by decide) (by decide) (by decide) (Nat.le_of_ble_eq_true rfl) (Nat.le_of_ble_eq_true rfl) d_9_1_31 (fun q22 H w23 hu24 hn25 hN V => ?_)
  have hn3 : w23[44]? = (some (q22, .inl (g 6, 9, .inr (.inr (.inr (.inr (fun _ => none)))))) : Option (Nat × va_E)) := hn25
  replace hF := q_us hF hu24 (List.mem_of_getElem? (i := 4) rfl)
  replace hN : w23.length = 45 := hN
  replace hO0 := (hu24 _ (q_pd 40 44 rfl)).trans (hO0)
  have ho28 := hO0
  refine q_putF (ci := 11) (j := 4) (v := .ref q22) (ty := .array (.object "NumberHouse$Sheet")) C0 V i_Pri o_Pri n_Pri rfl rfl rfl rfl rfl hO0 (by decide) w_389 rfl rfl rfl (Nat.le_of_ble_eq_true rfl) d_9_1_34 (fun H locs w26 hu27 hO0 V => ?_)
  replace hO0 : w26[40]? = (some (qO0, .inr (11, [.int 0, .ref q1, .ref q8, .ref q15, .ref q22, .null, .null, .null, .null, .int 0, .int 0, .int 0])) : Option (Nat × va_E)) := hO0
  replace hN : w26.length = 45 := (q_len1 hu27 hO0 ho28).trans hN
  replace hF := q_us hF hu27 (.head _)
  refine lv_aload_n hx hb d_9_1_37 rfl (lv_at hl 0 rfl) ?_
  refine q_new (ci := 1) (fs := [.null, .int 0, .int 0]) C0 V hN i_She o_She rfl w_345 w_47 w_2 rfl (fun j hj => by rcases (show j = 0 ∨ j = 1 ∨ j = 2 by omega) with rfl | rfl | rfl <;> rfl) (Nat.le_of_ble_eq_true rfl) (Nat.le_of_ble_eq_true rfl) d_9_1_38 (fun q29 H w30 hu31 hn32 hN V => ?_)
  have hn4 : w30[45]? = (some (q29, .inr (1, [.null, .int 0, .int 0])) : Option (Nat × va_E)) := hn32
  replace hF := q_us hF hu31 (List.mem_of_getElem? (i := 5) rfl)
  replace hN : w30.length = 46 := hN
  refine lv_dup hx hb d_9_1_41 rfl ?_
  refine lv_sipush (v := 4104) hx hb d_9_1_42 (by decide) ?_
  refine q_gov V (q_runI (As := [.int 4104]) (rest := [.ref q29, .ref qO0]) (d := 2) (mc := 1) (ms := 513) C0 V rfl LI_Pri_28 (c_She_init_3 l D g w30 45 q29 46 hN hn4 _) rfl hl.1 rfl (Nat.le_of_ble_eq_true rfl) ⟨by decide, by decide⟩ ⟨Nat.le_of_ble_eq_true rfl, Nat.le_of_ble_eq_true rfl⟩ d_9_1_45) (fun u34 H locs hp33 V => ?_)
  obtain ⟨q35, hg36, hn4, hq37, hN⟩ := hp33
  replace hF := q_uc hF hg36 (q_sc (List.mem_of_getElem? (i := 5) rfl) (q_sc (List.mem_of_getElem? (i := 6) rfl) (fun _ h => absurd h List.not_mem_nil)))
  have hn5 : u34[46]? = (some (q35, .inl (g 1, 513, .inr (.inl (fun _ => 0)))) : Option (Nat × va_E)) := hq37
  replace hN : u34.length = 47 := hN
  replace hO0 := (hg36 _ (q_nc (q_pd 40 45 rfl) (q_nc (q_pd 40 46 rfl) List.not_mem_nil))).trans ((hu31 _ (q_pd 40 45 rfl)).trans (hO0))
  have ho40 := hO0
  refine q_putF (ci := 11) (j := 8) (v := .ref q29) (ty := .object "NumberHouse$Sheet") C0 V i_Pri o_Pri n_Pri rfl rfl rfl rfl rfl hO0 (by decide) w_393 rfl rfl rfl (Nat.le_of_ble_eq_true rfl) d_9_1_48 (fun H locs w38 hu39 hO0 V => ?_)
  replace hO0 : w38[40]? = (some (qO0, .inr (11, [.int 0, .ref q1, .ref q8, .ref q15, .ref q22, .null, .null, .null, .ref q29, .int 0, .int 0, .int 0])) : Option (Nat × va_E)) := hO0
  replace hN : w38.length = 47 := (q_len1 hu39 hO0 ho40).trans hN
  replace hF := q_us hF hu39 (.head _)
  refine lv_aload_n hx hb d_9_1_51 rfl (lv_at hl 0 rfl) ?_
  refine lv_aload_n hx hb d_9_1_52 rfl (lv_at hl 1 rfl) ?_
  have ho43 := hO0
  refine q_putF (ci := 11) (j := 5) (v := .ref qO1) (ty := .object "NumberHouse$Sheet") C0 V i_Pri o_Pri n_Pri rfl rfl rfl rfl rfl hO0 (by decide) w_390 rfl rfl rfl (Nat.le_of_ble_eq_true rfl) d_9_1_53 (fun H locs w41 hu42 hO0 V => ?_)
  replace hO0 : w41[40]? = (some (qO0, .inr (11, [.int 0, .ref q1, .ref q8, .ref q15, .ref q22, .ref qO1, .null, .null, .ref q29, .int 0, .int 0, .int 0])) : Option (Nat × va_E)) := hO0
  replace hN : w41.length = 47 := (q_len1 hu42 hO0 ho43).trans hN
  replace hF := q_us hF hu42 (.head _)
  refine lv_aload_n hx hb d_9_1_56 rfl (lv_at hl 0 rfl) ?_
  refine lv_aload_n hx hb d_9_1_57 rfl (lv_at hl 2 rfl) ?_
  have ho46 := hO0
  refine q_putF (ci := 11) (j := 7) (v := .ref qO2) (ty := .object "NumberHouse$Digits") C0 V i_Pri o_Pri n_Pri rfl rfl rfl rfl rfl hO0 (by decide) w_392 rfl rfl rfl (Nat.le_of_ble_eq_true rfl) d_9_1_58 (fun H locs w44 hu45 hO0 V => ?_)
  replace hO0 : w44[40]? = (some (qO0, .inr (11, [.int 0, .ref q1, .ref q8, .ref q15, .ref q22, .ref qO1, .null, .ref qO2, .ref q29, .int 0, .int 0, .int 0])) : Option (Nat × va_E)) := hO0
  replace hN : w44.length = 47 := (q_len1 hu45 hO0 ho46).trans hN
  replace hF := q_us hF hu45 (.head _)
  refine lv_aload_n hx hb d_9_1_61 rfl (lv_at hl 0 rfl) ?_
  refine q_new (ci := 10) (fs := [.int 0, .int 0, .int 0, .int 0, .int 0, .int 0, .null, .int 0]) C0 V hN i_Dir o_Dir rfl w_348 w_349 w_13 rfl (fun j hj => by rcases (show j = 0 ∨ j = 1 ∨ j = 2 ∨ j = 3 ∨ j = 4 ∨ j = 5 ∨ j = 6 ∨ j = 7 by omega) with rfl | rfl | rfl | rfl | rfl | rfl | rfl | rfl <;> rfl) (Nat.le_of_ble_eq_true rfl) (Nat.le_of_ble_eq_true rfl) d_9_1_62 (fun q47 H w48 hu49 hn50 hN V => ?_)
  have hn6 : w48[47]? = (some (q47, .inr (10, [.int 0, .int 0, .int 0, .int 0, .int 0, .int 0, .null, .int 0])) : Option (Nat × va_E)) := hn50
  replace hF := q_us hF hu49 (List.mem_of_getElem? (i := 7) rfl)
  replace hN : w48.length = 48 := hN
  refine lv_dup hx hb d_9_1_65 rfl ?_
  refine lv_aload_n hx hb d_9_1_66 rfl (lv_at hl 1 rfl) ?_
  refine q_gov V (q_runI (As := [.ref qO1]) (rest := [.ref q47, .ref qO0]) (d := 2) (mc := 0) (ms := 0) C0 V rfl LI_Pri_44 (c_Dir_init l D g w48 q47 qO1 hN hn6 _) rfl hl.1 rfl (Nat.le_of_ble_eq_true rfl) ⟨by decide, by decide⟩ ⟨Nat.le_of_ble_eq_true rfl, Nat.le_of_ble_eq_true rfl⟩ d_9_1_67) (fun u52 H locs hp51 V => ?_)
  obtain ⟨hg53, hn6, hN⟩ := hp51
  replace hF := q_uc hF hg53 (q_sc (List.mem_of_getElem? (i := 7) rfl) (fun _ h => absurd h List.not_mem_nil))
  replace hN : u52.length = 48 := hN
  replace hO0 := (hg53 _ (q_nc (q_pd 40 47 rfl) List.not_mem_nil)).trans ((hu49 _ (q_pd 40 47 rfl)).trans (hO0))
  have ho56 := hO0
  refine q_putF (ci := 11) (j := 6) (v := .ref q47) (ty := .object "NumberHouse$Directive") C0 V i_Pri o_Pri n_Pri rfl rfl rfl rfl rfl hO0 (by decide) w_391 rfl rfl rfl (Nat.le_of_ble_eq_true rfl) d_9_1_70 (fun H locs w54 hu55 hO0 V => ?_)
  replace hO0 : w54[40]? = (some (qO0, .inr (11, [.int 0, .ref q1, .ref q8, .ref q15, .ref q22, .ref qO1, .ref q47, .ref qO2, .ref q29, .int 0, .int 0, .int 0])) : Option (Nat × va_E)) := hO0
  replace hN : w54.length = 48 := (q_len1 hu55 hO0 ho56).trans hN
  replace hF := q_us hF hu55 (.head _)
  refine lv_iconst (v := 0) hx hb d_9_1_73 (by decide) ?_
  refine lv_istore_n (lv' := [(3, .int 0), (0, .ref qO0), (1, .ref qO1), (2, .ref qO2)]) hx hb d_9_1_74 rfl hl (by decide) rfl (fun ls hl => ?_)
  refine lv_iload_n hx hb d_9_1_75 rfl (lv_at hl 0 rfl) ?_
  refine lv_bipush (v := 9) hx hb d_9_1_76 (by decide) ?_
  refine lv_icmp_ge (tgt := 102) hx hb d_9_1_78 (by decide) (fun c57 => absurd c57 (by decide)) (fun c57 => ?_)
  refine lv_aload_n hx hb d_9_1_81 rfl (lv_at hl 1 rfl) ?_
  refine q_get (ci := 11) (j := 4) (v := .ref q22) C0 V i_Pri rfl rfl hO0 (by decide) w_389 rfl d_9_1_82 ?_
  refine lv_iload_n hx hb d_9_1_85 rfl (lv_at hl 0 rfl) ?_
  refine q_new (ci := 1) (fs := [.null, .int 0, .int 0]) C0 V hN i_She o_She rfl w_345 w_47 w_2 rfl (fun j hj => by rcases (show j = 0 ∨ j = 1 ∨ j = 2 by omega) with rfl | rfl | rfl <;> rfl) (Nat.le_of_ble_eq_true rfl) (Nat.le_of_ble_eq_true rfl) d_9_1_86 (fun q58 H w59 hu60 hn61 hN V => ?_)
  have hn7 : w59[48]? = (some (q58, .inr (1, [.null, .int 0, .int 0])) : Option (Nat × va_E)) := hn61
  replace hF := q_us hF hu60 (List.mem_of_getElem? (i := 8) rfl)
  replace hN : w59.length = 49 := hN
  refine lv_dup hx hb d_9_1_89 rfl ?_
  refine lv_bipush (v := 64) hx hb d_9_1_90 (by decide) ?_
  refine q_gov V (q_runI (As := [.int 64]) (rest := [.ref q58, .int 0, .ref q22]) (d := 2) (mc := 1) (ms := 8) C0 V rfl LI_Pri_28 (c_She_init_4 l D g w59 48 q58 49 hN hn7 _) rfl hl.1 rfl (Nat.le_of_ble_eq_true rfl) ⟨by decide, by decide⟩ ⟨Nat.le_of_ble_eq_true rfl, Nat.le_of_ble_eq_true rfl⟩ d_9_1_92) (fun u63 H locs hp62 V => ?_)
  obtain ⟨q64, hg65, hn7, hq66, hN⟩ := hp62
  replace hF := q_uc hF hg65 (q_sc (List.mem_of_getElem? (i := 8) rfl) (q_sc (List.mem_of_getElem? (i := 9) rfl) (fun _ h => absurd h List.not_mem_nil)))
  have hn8 : u63[49]? = (some (q64, .inl (g 1, 8, .inr (.inl (fun _ => 0)))) : Option (Nat × va_E)) := hq66
  replace hN : u63.length = 50 := hN
  replace hn3 := (hg65 _ (q_nc (q_pd 44 48 rfl) (q_nc (q_pd 44 49 rfl) List.not_mem_nil))).trans ((hu60 _ (q_pd 44 48 rfl)).trans ((hu55 _ (q_pd 44 40 rfl)).trans ((hg53 _ (q_nc (q_pd 44 47 rfl) List.not_mem_nil)).trans ((hu49 _ (q_pd 44 47 rfl)).trans ((hu45 _ (q_pd 44 40 rfl)).trans ((hu42 _ (q_pd 44 40 rfl)).trans ((hu39 _ (q_pd 44 40 rfl)).trans ((hg36 _ (q_nc (q_pd 44 45 rfl) (q_nc (q_pd 44 46 rfl) List.not_mem_nil))).trans ((hu31 _ (q_pd 44 45 rfl)).trans ((hu27 _ (q_pd 44 40 rfl)).trans (hn3)))))))))))
  have ho67 := hn3
  refine q_aast (t := 6) (ci := 1) (i9 := 0) C0 V hn3 rfl hn7 rfl (by decide) (by unfold vp_in; decide) d_9_1_95 (fun H locs w68 hu69 hn3 V => ?_)
  replace hn3 : w68[44]? = (some (q22, .inl (g 6, 9, .inr (.inr (.inr (.inr (va_up (fun _ => none) 0 (some q58))))))) : Option (Nat × va_E)) := hn3
  replace hN : w68.length = 50 := (q_len1 hu69 hn3 ho67).trans hN
  replace hF := q_us hF hu69 (List.mem_of_getElem? (i := 4) rfl)
  refine lv_iinc (v := 1) (lv' := [(3, .int 1), (0, .ref qO0), (1, .ref qO1), (2, .ref qO2)]) hx hb d_9_1_96 hl (k := 0) rfl (by decide) (by decide) rfl (fun ls hl => ?_)
  refine lv_goto (tgt := 75) hx hb d_9_1_99 (by decide) ?_
  refine lv_iload_n hx hb d_9_1_75 rfl (lv_at hl 0 rfl) ?_
  refine lv_bipush (v := 9) hx hb d_9_1_76 (by decide) ?_
  refine lv_icmp_ge (tgt := 102) hx hb d_9_1_78 (by decide) (fun c70 => absurd c70 (by decide)) (fun c70 => ?_)
  refine lv_aload_n hx hb d_9_1_81 rfl (lv_at hl 1 rfl) ?_
  replace hO0 := (hu69 _ (q_pd 40 44 rfl)).trans ((hg65 _ (q_nc (q_pd 40 48 rfl) (q_nc (q_pd 40 49 rfl) List.not_mem_nil))).trans ((hu60 _ (q_pd 40 48 rfl)).trans (hO0)))
  refine q_get (ci := 11) (j := 4) (v := .ref q22) C0 V i_Pri rfl rfl hO0 (by decide) w_389 rfl d_9_1_82 ?_
  refine lv_iload_n hx hb d_9_1_85 rfl (lv_at hl 0 rfl) ?_
  refine q_new (ci := 1) (fs := [.null, .int 0, .int 0]) C0 V hN i_She o_She rfl w_345 w_47 w_2 rfl (fun j hj => by rcases (show j = 0 ∨ j = 1 ∨ j = 2 by omega) with rfl | rfl | rfl <;> rfl) (Nat.le_of_ble_eq_true rfl) (Nat.le_of_ble_eq_true rfl) d_9_1_86 (fun q71 H w72 hu73 hn74 hN V => ?_)
  have hn9 : w72[50]? = (some (q71, .inr (1, [.null, .int 0, .int 0])) : Option (Nat × va_E)) := hn74
  replace hF := q_us hF hu73 (List.mem_of_getElem? (i := 10) rfl)
  replace hN : w72.length = 51 := hN
  refine lv_dup hx hb d_9_1_89 rfl ?_
  refine lv_bipush (v := 64) hx hb d_9_1_90 (by decide) ?_
  refine q_gov V (q_runI (As := [.int 64]) (rest := [.ref q71, .int 1, .ref q22]) (d := 2) (mc := 1) (ms := 8) C0 V rfl LI_Pri_28 (c_She_init_4 l D g w72 50 q71 51 hN hn9 _) rfl hl.1 rfl (Nat.le_of_ble_eq_true rfl) ⟨by decide, by decide⟩ ⟨Nat.le_of_ble_eq_true rfl, Nat.le_of_ble_eq_true rfl⟩ d_9_1_92) (fun u76 H locs hp75 V => ?_)
  obtain ⟨q77, hg78, hn9, hq79, hN⟩ := hp75
  replace hF := q_uc hF hg78 (q_sc (List.mem_of_getElem? (i := 10) rfl) (q_sc (List.mem_of_getElem? (i := 11) rfl) (fun _ h => absurd h List.not_mem_nil)))
  have hn10 : u76[51]? = (some (q77, .inl (g 1, 8, .inr (.inl (fun _ => 0)))) : Option (Nat × va_E)) := hq79
  replace hN : u76.length = 52 := hN
  replace hn3 := (hg78 _ (q_nc (q_pd 44 50 rfl) (q_nc (q_pd 44 51 rfl) List.not_mem_nil))).trans ((hu73 _ (q_pd 44 50 rfl)).trans (hn3))
  have ho80 := hn3
  refine q_aast (t := 6) (ci := 1) (i9 := 1) C0 V hn3 rfl hn9 rfl (by decide) (by unfold vp_in; decide) d_9_1_95 (fun H locs w81 hu82 hn3 V => ?_)
  replace hn3 : w81[44]? = (some (q22, .inl (g 6, 9, .inr (.inr (.inr (.inr (va_up (va_up (fun _ => none) 0 (some q58)) 1 (some q71))))))) : Option (Nat × va_E)) := hn3
  replace hN : w81.length = 52 := (q_len1 hu82 hn3 ho80).trans hN
  replace hF := q_us hF hu82 (List.mem_of_getElem? (i := 4) rfl)
  refine lv_iinc (v := 2) (lv' := [(3, .int 2), (0, .ref qO0), (1, .ref qO1), (2, .ref qO2)]) hx hb d_9_1_96 hl (k := 0) rfl (by decide) (by decide) rfl (fun ls hl => ?_)
  refine lv_goto (tgt := 75) hx hb d_9_1_99 (by decide) ?_
  refine lv_iload_n hx hb d_9_1_75 rfl (lv_at hl 0 rfl) ?_
  refine lv_bipush (v := 9) hx hb d_9_1_76 (by decide) ?_
  refine lv_icmp_ge (tgt := 102) hx hb d_9_1_78 (by decide) (fun c83 => absurd c83 (by decide)) (fun c83 => ?_)
  refine lv_aload_n hx hb d_9_1_81 rfl (lv_at hl 1 rfl) ?_
  replace hO0 := (hu82 _ (q_pd 40 44 rfl)).trans ((hg78 _ (q_nc (q_pd 40 50 rfl) (q_nc (q_pd 40 51 rfl) List.not_mem_nil))).trans ((hu73 _ (q_pd 40 50 rfl)).trans (hO0)))
  refine q_get (ci := 11) (j := 4) (v := .ref q22) C0 V i_Pri rfl rfl hO0 (by decide) w_389 rfl d_9_1_82 ?_
  refine lv_iload_n hx hb d_9_1_85 rfl (lv_at hl 0 rfl) ?_
  refine q_new (ci := 1) (fs := [.null, .int 0, .int 0]) C0 V hN i_She o_She rfl w_345 w_47 w_2 rfl (fun j hj => by rcases (show j = 0 ∨ j = 1 ∨ j = 2 by omega) with rfl | rfl | rfl <;> rfl) (Nat.le_of_ble_eq_true rfl) (Nat.le_of_ble_eq_true rfl) d_9_1_86 (fun q84 H w85 hu86 hn87 hN V => ?_)
  have hn11 : w85[52]? = (some (q84, .inr (1, [.null, .int 0, .int 0])) : Option (Nat × va_E)) := hn87
  replace hF := q_us hF hu86 (List.mem_of_getElem? (i := 12) rfl)
  replace hN : w85.length = 53 := hN
  refine lv_dup hx hb d_9_1_89 rfl ?_
  refine lv_bipush (v := 64) hx hb d_9_1_90 (by decide) ?_
  refine q_gov V (q_runI (As := [.int 64]) (rest := [.ref q84, .int 2, .ref q22]) (d := 2) (mc := 1) (ms := 8) C0 V rfl LI_Pri_28 (c_She_init_4 l D g w85 52 q84 53 hN hn11 _) rfl hl.1 rfl (Nat.le_of_ble_eq_true rfl) ⟨by decide, by decide⟩ ⟨Nat.le_of_ble_eq_true rfl, Nat.le_of_ble_eq_true rfl⟩ d_9_1_92) (fun u89 H locs hp88 V => ?_)
  obtain ⟨q90, hg91, hn11, hq92, hN⟩ := hp88
  replace hF := q_uc hF hg91 (q_sc (List.mem_of_getElem? (i := 12) rfl) (q_sc (List.mem_of_getElem? (i := 13) rfl) (fun _ h => absurd h List.not_mem_nil)))
  have hn12 : u89[53]? = (some (q90, .inl (g 1, 8, .inr (.inl (fun _ => 0)))) : Option (Nat × va_E)) := hq92
  replace hN : u89.length = 54 := hN
  replace hn3 := (hg91 _ (q_nc (q_pd 44 52 rfl) (q_nc (q_pd 44 53 rfl) List.not_mem_nil))).trans ((hu86 _ (q_pd 44 52 rfl)).trans (hn3))
  have ho93 := hn3
  refine q_aast (t := 6) (ci := 1) (i9 := 2) C0 V hn3 rfl hn11 rfl (by decide) (by unfold vp_in; decide) d_9_1_95 (fun H locs w94 hu95 hn3 V => ?_)
  replace hn3 : w94[44]? = (some (q22, .inl (g 6, 9, .inr (.inr (.inr (.inr (va_up (va_up (va_up (fun _ => none) 0 (some q58)) 1 (some q71)) 2 (some q84))))))) : Option (Nat × va_E)) := hn3
  replace hN : w94.length = 54 := (q_len1 hu95 hn3 ho93).trans hN
  replace hF := q_us hF hu95 (List.mem_of_getElem? (i := 4) rfl)
  refine lv_iinc (v := 3) (lv' := [(3, .int 3), (0, .ref qO0), (1, .ref qO1), (2, .ref qO2)]) hx hb d_9_1_96 hl (k := 0) rfl (by decide) (by decide) rfl (fun ls hl => ?_)
  refine lv_goto (tgt := 75) hx hb d_9_1_99 (by decide) ?_
  refine lv_iload_n hx hb d_9_1_75 rfl (lv_at hl 0 rfl) ?_
  refine lv_bipush (v := 9) hx hb d_9_1_76 (by decide) ?_
  refine lv_icmp_ge (tgt := 102) hx hb d_9_1_78 (by decide) (fun c96 => absurd c96 (by decide)) (fun c96 => ?_)
  refine lv_aload_n hx hb d_9_1_81 rfl (lv_at hl 1 rfl) ?_
  replace hO0 := (hu95 _ (q_pd 40 44 rfl)).trans ((hg91 _ (q_nc (q_pd 40 52 rfl) (q_nc (q_pd 40 53 rfl) List.not_mem_nil))).trans ((hu86 _ (q_pd 40 52 rfl)).trans (hO0)))
  refine q_get (ci := 11) (j := 4) (v := .ref q22) C0 V i_Pri rfl rfl hO0 (by decide) w_389 rfl d_9_1_82 ?_
  refine lv_iload_n hx hb d_9_1_85 rfl (lv_at hl 0 rfl) ?_
  refine q_new (ci := 1) (fs := [.null, .int 0, .int 0]) C0 V hN i_She o_She rfl w_345 w_47 w_2 rfl (fun j hj => by rcases (show j = 0 ∨ j = 1 ∨ j = 2 by omega) with rfl | rfl | rfl <;> rfl) (Nat.le_of_ble_eq_true rfl) (Nat.le_of_ble_eq_true rfl) d_9_1_86 (fun q97 H w98 hu99 hn100 hN V => ?_)
  have hn13 : w98[54]? = (some (q97, .inr (1, [.null, .int 0, .int 0])) : Option (Nat × va_E)) := hn100
  replace hF := q_us hF hu99 (List.mem_of_getElem? (i := 14) rfl)
  replace hN : w98.length = 55 := hN
  refine lv_dup hx hb d_9_1_89 rfl ?_
  refine lv_bipush (v := 64) hx hb d_9_1_90 (by decide) ?_
  refine q_gov V (q_runI (As := [.int 64]) (rest := [.ref q97, .int 3, .ref q22]) (d := 2) (mc := 1) (ms := 8) C0 V rfl LI_Pri_28 (c_She_init_4 l D g w98 54 q97 55 hN hn13 _) rfl hl.1 rfl (Nat.le_of_ble_eq_true rfl) ⟨by decide, by decide⟩ ⟨Nat.le_of_ble_eq_true rfl, Nat.le_of_ble_eq_true rfl⟩ d_9_1_92) (fun u102 H locs hp101 V => ?_)
  obtain ⟨q103, hg104, hn13, hq105, hN⟩ := hp101
  replace hF := q_uc hF hg104 (q_sc (List.mem_of_getElem? (i := 14) rfl) (q_sc (List.mem_of_getElem? (i := 15) rfl) (fun _ h => absurd h List.not_mem_nil)))
  have hn14 : u102[55]? = (some (q103, .inl (g 1, 8, .inr (.inl (fun _ => 0)))) : Option (Nat × va_E)) := hq105
  replace hN : u102.length = 56 := hN
  replace hn3 := (hg104 _ (q_nc (q_pd 44 54 rfl) (q_nc (q_pd 44 55 rfl) List.not_mem_nil))).trans ((hu99 _ (q_pd 44 54 rfl)).trans (hn3))
  have ho106 := hn3
  refine q_aast (t := 6) (ci := 1) (i9 := 3) C0 V hn3 rfl hn13 rfl (by decide) (by unfold vp_in; decide) d_9_1_95 (fun H locs w107 hu108 hn3 V => ?_)
  replace hn3 : w107[44]? = (some (q22, .inl (g 6, 9, .inr (.inr (.inr (.inr (va_up (va_up (va_up (va_up (fun _ => none) 0 (some q58)) 1 (some q71)) 2 (some q84)) 3 (some q97))))))) : Option (Nat × va_E)) := hn3
  replace hN : w107.length = 56 := (q_len1 hu108 hn3 ho106).trans hN
  replace hF := q_us hF hu108 (List.mem_of_getElem? (i := 4) rfl)
  refine lv_iinc (v := 4) (lv' := [(3, .int 4), (0, .ref qO0), (1, .ref qO1), (2, .ref qO2)]) hx hb d_9_1_96 hl (k := 0) rfl (by decide) (by decide) rfl (fun ls hl => ?_)
  refine lv_goto (tgt := 75) hx hb d_9_1_99 (by decide) ?_
  refine lv_iload_n hx hb d_9_1_75 rfl (lv_at hl 0 rfl) ?_
  refine lv_bipush (v := 9) hx hb d_9_1_76 (by decide) ?_
  refine lv_icmp_ge (tgt := 102) hx hb d_9_1_78 (by decide) (fun c109 => absurd c109 (by decide)) (fun c109 => ?_)
  refine lv_aload_n hx hb d_9_1_81 rfl (lv_at hl 1 rfl) ?_
  replace hO0 := (hu108 _ (q_pd 40 44 rfl)).trans ((hg104 _ (q_nc (q_pd 40 54 rfl) (q_nc (q_pd 40 55 rfl) List.not_mem_nil))).trans ((hu99 _ (q_pd 40 54 rfl)).trans (hO0)))
  refine q_get (ci := 11) (j := 4) (v := .ref q22) C0 V i_Pri rfl rfl hO0 (by decide) w_389 rfl d_9_1_82 ?_
  refine lv_iload_n hx hb d_9_1_85 rfl (lv_at hl 0 rfl) ?_
  refine q_new (ci := 1) (fs := [.null, .int 0, .int 0]) C0 V hN i_She o_She rfl w_345 w_47 w_2 rfl (fun j hj => by rcases (show j = 0 ∨ j = 1 ∨ j = 2 by omega) with rfl | rfl | rfl <;> rfl) (Nat.le_of_ble_eq_true rfl) (Nat.le_of_ble_eq_true rfl) d_9_1_86 (fun q110 H w111 hu112 hn113 hN V => ?_)
  have hn15 : w111[56]? = (some (q110, .inr (1, [.null, .int 0, .int 0])) : Option (Nat × va_E)) := hn113
  replace hF := q_us hF hu112 (List.mem_of_getElem? (i := 16) rfl)
  replace hN : w111.length = 57 := hN
  refine lv_dup hx hb d_9_1_89 rfl ?_
  refine lv_bipush (v := 64) hx hb d_9_1_90 (by decide) ?_
  refine q_gov V (q_runI (As := [.int 64]) (rest := [.ref q110, .int 4, .ref q22]) (d := 2) (mc := 1) (ms := 8) C0 V rfl LI_Pri_28 (c_She_init_4 l D g w111 56 q110 57 hN hn15 _) rfl hl.1 rfl (Nat.le_of_ble_eq_true rfl) ⟨by decide, by decide⟩ ⟨Nat.le_of_ble_eq_true rfl, Nat.le_of_ble_eq_true rfl⟩ d_9_1_92) (fun u115 H locs hp114 V => ?_)
  obtain ⟨q116, hg117, hn15, hq118, hN⟩ := hp114
  replace hF := q_uc hF hg117 (q_sc (List.mem_of_getElem? (i := 16) rfl) (q_sc (List.mem_of_getElem? (i := 17) rfl) (fun _ h => absurd h List.not_mem_nil)))
  have hn16 : u115[57]? = (some (q116, .inl (g 1, 8, .inr (.inl (fun _ => 0)))) : Option (Nat × va_E)) := hq118
  replace hN : u115.length = 58 := hN
  replace hn3 := (hg117 _ (q_nc (q_pd 44 56 rfl) (q_nc (q_pd 44 57 rfl) List.not_mem_nil))).trans ((hu112 _ (q_pd 44 56 rfl)).trans (hn3))
  have ho119 := hn3
  refine q_aast (t := 6) (ci := 1) (i9 := 4) C0 V hn3 rfl hn15 rfl (by decide) (by unfold vp_in; decide) d_9_1_95 (fun H locs w120 hu121 hn3 V => ?_)
  replace hn3 : w120[44]? = (some (q22, .inl (g 6, 9, .inr (.inr (.inr (.inr (va_up (va_up (va_up (va_up (va_up (fun _ => none) 0 (some q58)) 1 (some q71)) 2 (some q84)) 3 (some q97)) 4 (some q110))))))) : Option (Nat × va_E)) := hn3
  replace hN : w120.length = 58 := (q_len1 hu121 hn3 ho119).trans hN
  replace hF := q_us hF hu121 (List.mem_of_getElem? (i := 4) rfl)
  refine lv_iinc (v := 5) (lv' := [(3, .int 5), (0, .ref qO0), (1, .ref qO1), (2, .ref qO2)]) hx hb d_9_1_96 hl (k := 0) rfl (by decide) (by decide) rfl (fun ls hl => ?_)
  refine lv_goto (tgt := 75) hx hb d_9_1_99 (by decide) ?_
  refine lv_iload_n hx hb d_9_1_75 rfl (lv_at hl 0 rfl) ?_
  refine lv_bipush (v := 9) hx hb d_9_1_76 (by decide) ?_
  refine lv_icmp_ge (tgt := 102) hx hb d_9_1_78 (by decide) (fun c122 => absurd c122 (by decide)) (fun c122 => ?_)
  refine lv_aload_n hx hb d_9_1_81 rfl (lv_at hl 1 rfl) ?_
  replace hO0 := (hu121 _ (q_pd 40 44 rfl)).trans ((hg117 _ (q_nc (q_pd 40 56 rfl) (q_nc (q_pd 40 57 rfl) List.not_mem_nil))).trans ((hu112 _ (q_pd 40 56 rfl)).trans (hO0)))
  refine q_get (ci := 11) (j := 4) (v := .ref q22) C0 V i_Pri rfl rfl hO0 (by decide) w_389 rfl d_9_1_82 ?_
  refine lv_iload_n hx hb d_9_1_85 rfl (lv_at hl 0 rfl) ?_
  refine q_new (ci := 1) (fs := [.null, .int 0, .int 0]) C0 V hN i_She o_She rfl w_345 w_47 w_2 rfl (fun j hj => by rcases (show j = 0 ∨ j = 1 ∨ j = 2 by omega) with rfl | rfl | rfl <;> rfl) (Nat.le_of_ble_eq_true rfl) (Nat.le_of_ble_eq_true rfl) d_9_1_86 (fun q123 H w124 hu125 hn126 hN V => ?_)
  have hn17 : w124[58]? = (some (q123, .inr (1, [.null, .int 0, .int 0])) : Option (Nat × va_E)) := hn126
  replace hF := q_us hF hu125 (List.mem_of_getElem? (i := 18) rfl)
  replace hN : w124.length = 59 := hN
  refine lv_dup hx hb d_9_1_89 rfl ?_
  refine lv_bipush (v := 64) hx hb d_9_1_90 (by decide) ?_
  refine q_gov V (q_runI (As := [.int 64]) (rest := [.ref q123, .int 5, .ref q22]) (d := 2) (mc := 1) (ms := 8) C0 V rfl LI_Pri_28 (c_She_init_4 l D g w124 58 q123 59 hN hn17 _) rfl hl.1 rfl (Nat.le_of_ble_eq_true rfl) ⟨by decide, by decide⟩ ⟨Nat.le_of_ble_eq_true rfl, Nat.le_of_ble_eq_true rfl⟩ d_9_1_92) (fun u128 H locs hp127 V => ?_)
  obtain ⟨q129, hg130, hn17, hq131, hN⟩ := hp127
  replace hF := q_uc hF hg130 (q_sc (List.mem_of_getElem? (i := 18) rfl) (q_sc (List.mem_of_getElem? (i := 19) rfl) (fun _ h => absurd h List.not_mem_nil)))
  have hn18 : u128[59]? = (some (q129, .inl (g 1, 8, .inr (.inl (fun _ => 0)))) : Option (Nat × va_E)) := hq131
  replace hN : u128.length = 60 := hN
  replace hn3 := (hg130 _ (q_nc (q_pd 44 58 rfl) (q_nc (q_pd 44 59 rfl) List.not_mem_nil))).trans ((hu125 _ (q_pd 44 58 rfl)).trans (hn3))
  have ho132 := hn3
  refine q_aast (t := 6) (ci := 1) (i9 := 5) C0 V hn3 rfl hn17 rfl (by decide) (by unfold vp_in; decide) d_9_1_95 (fun H locs w133 hu134 hn3 V => ?_)
  replace hn3 : w133[44]? = (some (q22, .inl (g 6, 9, .inr (.inr (.inr (.inr (va_up (va_up (va_up (va_up (va_up (va_up (fun _ => none) 0 (some q58)) 1 (some q71)) 2 (some q84)) 3 (some q97)) 4 (some q110)) 5 (some q123))))))) : Option (Nat × va_E)) := hn3
  replace hN : w133.length = 60 := (q_len1 hu134 hn3 ho132).trans hN
  replace hF := q_us hF hu134 (List.mem_of_getElem? (i := 4) rfl)
  refine lv_iinc (v := 6) (lv' := [(3, .int 6), (0, .ref qO0), (1, .ref qO1), (2, .ref qO2)]) hx hb d_9_1_96 hl (k := 0) rfl (by decide) (by decide) rfl (fun ls hl => ?_)
  refine lv_goto (tgt := 75) hx hb d_9_1_99 (by decide) ?_
  refine lv_iload_n hx hb d_9_1_75 rfl (lv_at hl 0 rfl) ?_
  refine lv_bipush (v := 9) hx hb d_9_1_76 (by decide) ?_
  refine lv_icmp_ge (tgt := 102) hx hb d_9_1_78 (by decide) (fun c135 => absurd c135 (by decide)) (fun c135 => ?_)
  refine lv_aload_n hx hb d_9_1_81 rfl (lv_at hl 1 rfl) ?_
  replace hO0 := (hu134 _ (q_pd 40 44 rfl)).trans ((hg130 _ (q_nc (q_pd 40 58 rfl) (q_nc (q_pd 40 59 rfl) List.not_mem_nil))).trans ((hu125 _ (q_pd 40 58 rfl)).trans (hO0)))
  refine q_get (ci := 11) (j := 4) (v := .ref q22) C0 V i_Pri rfl rfl hO0 (by decide) w_389 rfl d_9_1_82 ?_
  refine lv_iload_n hx hb d_9_1_85 rfl (lv_at hl 0 rfl) ?_
  refine q_new (ci := 1) (fs := [.null, .int 0, .int 0]) C0 V hN i_She o_She rfl w_345 w_47 w_2 rfl (fun j hj => by rcases (show j = 0 ∨ j = 1 ∨ j = 2 by omega) with rfl | rfl | rfl <;> rfl) (Nat.le_of_ble_eq_true rfl) (Nat.le_of_ble_eq_true rfl) d_9_1_86 (fun q136 H w137 hu138 hn139 hN V => ?_)
  have hn19 : w137[60]? = (some (q136, .inr (1, [.null, .int 0, .int 0])) : Option (Nat × va_E)) := hn139
  replace hF := q_us hF hu138 (List.mem_of_getElem? (i := 20) rfl)
  replace hN : w137.length = 61 := hN
  refine lv_dup hx hb d_9_1_89 rfl ?_
  refine lv_bipush (v := 64) hx hb d_9_1_90 (by decide) ?_
  refine q_gov V (q_runI (As := [.int 64]) (rest := [.ref q136, .int 6, .ref q22]) (d := 2) (mc := 1) (ms := 8) C0 V rfl LI_Pri_28 (c_She_init_4 l D g w137 60 q136 61 hN hn19 _) rfl hl.1 rfl (Nat.le_of_ble_eq_true rfl) ⟨by decide, by decide⟩ ⟨Nat.le_of_ble_eq_true rfl, Nat.le_of_ble_eq_true rfl⟩ d_9_1_92) (fun u141 H locs hp140 V => ?_)
  obtain ⟨q142, hg143, hn19, hq144, hN⟩ := hp140
  replace hF := q_uc hF hg143 (q_sc (List.mem_of_getElem? (i := 20) rfl) (q_sc (List.mem_of_getElem? (i := 21) rfl) (fun _ h => absurd h List.not_mem_nil)))
  have hn20 : u141[61]? = (some (q142, .inl (g 1, 8, .inr (.inl (fun _ => 0)))) : Option (Nat × va_E)) := hq144
  replace hN : u141.length = 62 := hN
  replace hn3 := (hg143 _ (q_nc (q_pd 44 60 rfl) (q_nc (q_pd 44 61 rfl) List.not_mem_nil))).trans ((hu138 _ (q_pd 44 60 rfl)).trans (hn3))
  have ho145 := hn3
  refine q_aast (t := 6) (ci := 1) (i9 := 6) C0 V hn3 rfl hn19 rfl (by decide) (by unfold vp_in; decide) d_9_1_95 (fun H locs w146 hu147 hn3 V => ?_)
  replace hn3 : w146[44]? = (some (q22, .inl (g 6, 9, .inr (.inr (.inr (.inr (va_up (va_up (va_up (va_up (va_up (va_up (va_up (fun _ => none) 0 (some q58)) 1 (some q71)) 2 (some q84)) 3 (some q97)) 4 (some q110)) 5 (some q123)) 6 (some q136))))))) : Option (Nat × va_E)) := hn3
  replace hN : w146.length = 62 := (q_len1 hu147 hn3 ho145).trans hN
  replace hF := q_us hF hu147 (List.mem_of_getElem? (i := 4) rfl)
  refine lv_iinc (v := 7) (lv' := [(3, .int 7), (0, .ref qO0), (1, .ref qO1), (2, .ref qO2)]) hx hb d_9_1_96 hl (k := 0) rfl (by decide) (by decide) rfl (fun ls hl => ?_)
  refine lv_goto (tgt := 75) hx hb d_9_1_99 (by decide) ?_
  refine lv_iload_n hx hb d_9_1_75 rfl (lv_at hl 0 rfl) ?_
  refine lv_bipush (v := 9) hx hb d_9_1_76 (by decide) ?_
  refine lv_icmp_ge (tgt := 102) hx hb d_9_1_78 (by decide) (fun c148 => absurd c148 (by decide)) (fun c148 => ?_)
  refine lv_aload_n hx hb d_9_1_81 rfl (lv_at hl 1 rfl) ?_
  replace hO0 := (hu147 _ (q_pd 40 44 rfl)).trans ((hg143 _ (q_nc (q_pd 40 60 rfl) (q_nc (q_pd 40 61 rfl) List.not_mem_nil))).trans ((hu138 _ (q_pd 40 60 rfl)).trans (hO0)))
  refine q_get (ci := 11) (j := 4) (v := .ref q22) C0 V i_Pri rfl rfl hO0 (by decide) w_389 rfl d_9_1_82 ?_
  refine lv_iload_n hx hb d_9_1_85 rfl (lv_at hl 0 rfl) ?_
  refine q_new (ci := 1) (fs := [.null, .int 0, .int 0]) C0 V hN i_She o_She rfl w_345 w_47 w_2 rfl (fun j hj => by rcases (show j = 0 ∨ j = 1 ∨ j = 2 by omega) with rfl | rfl | rfl <;> rfl) (Nat.le_of_ble_eq_true rfl) (Nat.le_of_ble_eq_true rfl) d_9_1_86 (fun q149 H w150 hu151 hn152 hN V => ?_)
  have hn21 : w150[62]? = (some (q149, .inr (1, [.null, .int 0, .int 0])) : Option (Nat × va_E)) := hn152
  replace hF := q_us hF hu151 (List.mem_of_getElem? (i := 22) rfl)
  replace hN : w150.length = 63 := hN
  refine lv_dup hx hb d_9_1_89 rfl ?_
  refine lv_bipush (v := 64) hx hb d_9_1_90 (by decide) ?_
  refine q_gov V (q_runI (As := [.int 64]) (rest := [.ref q149, .int 7, .ref q22]) (d := 2) (mc := 1) (ms := 8) C0 V rfl LI_Pri_28 (c_She_init_4 l D g w150 62 q149 63 hN hn21 _) rfl hl.1 rfl (Nat.le_of_ble_eq_true rfl) ⟨by decide, by decide⟩ ⟨Nat.le_of_ble_eq_true rfl, Nat.le_of_ble_eq_true rfl⟩ d_9_1_92) (fun u154 H locs hp153 V => ?_)
  obtain ⟨q155, hg156, hn21, hq157, hN⟩ := hp153
  replace hF := q_uc hF hg156 (q_sc (List.mem_of_getElem? (i := 22) rfl) (q_sc (List.mem_of_getElem? (i := 23) rfl) (fun _ h => absurd h List.not_mem_nil)))
  have hn22 : u154[63]? = (some (q155, .inl (g 1, 8, .inr (.inl (fun _ => 0)))) : Option (Nat × va_E)) := hq157
  replace hN : u154.length = 64 := hN
  replace hn3 := (hg156 _ (q_nc (q_pd 44 62 rfl) (q_nc (q_pd 44 63 rfl) List.not_mem_nil))).trans ((hu151 _ (q_pd 44 62 rfl)).trans (hn3))
  have ho158 := hn3
  refine q_aast (t := 6) (ci := 1) (i9 := 7) C0 V hn3 rfl hn21 rfl (by decide) (by unfold vp_in; decide) d_9_1_95 (fun H locs w159 hu160 hn3 V => ?_)
  replace hn3 : w159[44]? = (some (q22, .inl (g 6, 9, .inr (.inr (.inr (.inr (va_up (va_up (va_up (va_up (va_up (va_up (va_up (va_up (fun _ => none) 0 (some q58)) 1 (some q71)) 2 (some q84)) 3 (some q97)) 4 (some q110)) 5 (some q123)) 6 (some q136)) 7 (some q149))))))) : Option (Nat × va_E)) := hn3
  replace hN : w159.length = 64 := (q_len1 hu160 hn3 ho158).trans hN
  replace hF := q_us hF hu160 (List.mem_of_getElem? (i := 4) rfl)
  refine lv_iinc (v := 8) (lv' := [(3, .int 8), (0, .ref qO0), (1, .ref qO1), (2, .ref qO2)]) hx hb d_9_1_96 hl (k := 0) rfl (by decide) (by decide) rfl (fun ls hl => ?_)
  refine lv_goto (tgt := 75) hx hb d_9_1_99 (by decide) ?_
  refine lv_iload_n hx hb d_9_1_75 rfl (lv_at hl 0 rfl) ?_
  refine lv_bipush (v := 9) hx hb d_9_1_76 (by decide) ?_
  refine lv_icmp_ge (tgt := 102) hx hb d_9_1_78 (by decide) (fun c161 => absurd c161 (by decide)) (fun c161 => ?_)
  refine lv_aload_n hx hb d_9_1_81 rfl (lv_at hl 1 rfl) ?_
  replace hO0 := (hu160 _ (q_pd 40 44 rfl)).trans ((hg156 _ (q_nc (q_pd 40 62 rfl) (q_nc (q_pd 40 63 rfl) List.not_mem_nil))).trans ((hu151 _ (q_pd 40 62 rfl)).trans (hO0)))
  refine q_get (ci := 11) (j := 4) (v := .ref q22) C0 V i_Pri rfl rfl hO0 (by decide) w_389 rfl d_9_1_82 ?_
  refine lv_iload_n hx hb d_9_1_85 rfl (lv_at hl 0 rfl) ?_
  refine q_new (ci := 1) (fs := [.null, .int 0, .int 0]) C0 V hN i_She o_She rfl w_345 w_47 w_2 rfl (fun j hj => by rcases (show j = 0 ∨ j = 1 ∨ j = 2 by omega) with rfl | rfl | rfl <;> rfl) (Nat.le_of_ble_eq_true rfl) (Nat.le_of_ble_eq_true rfl) d_9_1_86 (fun q162 H w163 hu164 hn165 hN V => ?_)
  have hn23 : w163[64]? = (some (q162, .inr (1, [.null, .int 0, .int 0])) : Option (Nat × va_E)) := hn165
  replace hF := q_us hF hu164 (List.mem_of_getElem? (i := 24) rfl)
  replace hN : w163.length = 65 := hN
  refine lv_dup hx hb d_9_1_89 rfl ?_
  refine lv_bipush (v := 64) hx hb d_9_1_90 (by decide) ?_
  refine q_gov V (q_runI (As := [.int 64]) (rest := [.ref q162, .int 8, .ref q22]) (d := 2) (mc := 1) (ms := 8) C0 V rfl LI_Pri_28 (c_She_init_4 l D g w163 64 q162 65 hN hn23 _) rfl hl.1 rfl (Nat.le_of_ble_eq_true rfl) ⟨by decide, by decide⟩ ⟨Nat.le_of_ble_eq_true rfl, Nat.le_of_ble_eq_true rfl⟩ d_9_1_92) (fun u167 H locs hp166 V => ?_)
  obtain ⟨q168, hg169, hn23, hq170, hN⟩ := hp166
  replace hF := q_uc hF hg169 (q_sc (List.mem_of_getElem? (i := 24) rfl) (q_sc (List.mem_of_getElem? (i := 25) rfl) (fun _ h => absurd h List.not_mem_nil)))
  have hn24 : u167[65]? = (some (q168, .inl (g 1, 8, .inr (.inl (fun _ => 0)))) : Option (Nat × va_E)) := hq170
  replace hN : u167.length = 66 := hN
  replace hn3 := (hg169 _ (q_nc (q_pd 44 64 rfl) (q_nc (q_pd 44 65 rfl) List.not_mem_nil))).trans ((hu164 _ (q_pd 44 64 rfl)).trans (hn3))
  have ho171 := hn3
  refine q_aast (t := 6) (ci := 1) (i9 := 8) C0 V hn3 rfl hn23 rfl (by decide) (by unfold vp_in; decide) d_9_1_95 (fun H locs w172 hu173 hn3 V => ?_)
  replace hn3 : w172[44]? = (some (q22, .inl (g 6, 9, .inr (.inr (.inr (.inr (va_up (va_up (va_up (va_up (va_up (va_up (va_up (va_up (va_up (fun _ => none) 0 (some q58)) 1 (some q71)) 2 (some q84)) 3 (some q97)) 4 (some q110)) 5 (some q123)) 6 (some q136)) 7 (some q149)) 8 (some q162))))))) : Option (Nat × va_E)) := hn3
  replace hN : w172.length = 66 := (q_len1 hu173 hn3 ho171).trans hN
  replace hF := q_us hF hu173 (List.mem_of_getElem? (i := 4) rfl)
  refine lv_iinc (v := 9) (lv' := [(3, .int 9), (0, .ref qO0), (1, .ref qO1), (2, .ref qO2)]) hx hb d_9_1_96 hl (k := 0) rfl (by decide) (by decide) rfl (fun ls hl => ?_)
  refine lv_goto (tgt := 75) hx hb d_9_1_99 (by decide) ?_
  refine lv_iload_n hx hb d_9_1_75 rfl (lv_at hl 0 rfl) ?_
  refine lv_bipush (v := 9) hx hb d_9_1_76 (by decide) ?_
  refine lv_icmp_ge (tgt := 102) hx hb d_9_1_78 (by decide) (fun c174 => ?_) (fun c174 => absurd (by decide) c174)
  have RR : q_un w172 w172 [] := q_u0
  replace RR := q_ub hu173 RR
  replace hn23 := (RR 64 (by decide +kernel)).trans hn23
  replace hn24 := (RR 65 (by decide +kernel)).trans hn24
  replace RR := q_ubc hg169 RR
  replace RR := q_ub hu164 RR
  replace hO0 := (RR 40 (by decide +kernel)).trans hO0
  replace RR := q_ub hu160 RR
  replace hn21 := (RR 62 (by decide +kernel)).trans hn21
  replace hn22 := (RR 63 (by decide +kernel)).trans hn22
  replace RR := q_ubc hg156 RR
  replace RR := q_ub hu151 RR
  replace RR := q_ub hu147 RR
  replace hn19 := (RR 60 (by decide +kernel)).trans hn19
  replace hn20 := (RR 61 (by decide +kernel)).trans hn20
  replace RR := q_ubc hg143 RR
  replace RR := q_ub hu138 RR
  replace RR := q_ub hu134 RR
  replace hn17 := (RR 58 (by decide +kernel)).trans hn17
  replace hn18 := (RR 59 (by decide +kernel)).trans hn18
  replace RR := q_ubc hg130 RR
  replace RR := q_ub hu125 RR
  replace RR := q_ub hu121 RR
  replace hn15 := (RR 56 (by decide +kernel)).trans hn15
  replace hn16 := (RR 57 (by decide +kernel)).trans hn16
  replace RR := q_ubc hg117 RR
  replace RR := q_ub hu112 RR
  replace RR := q_ub hu108 RR
  replace hn13 := (RR 54 (by decide +kernel)).trans hn13
  replace hn14 := (RR 55 (by decide +kernel)).trans hn14
  replace RR := q_ubc hg104 RR
  replace RR := q_ub hu99 RR
  replace RR := q_ub hu95 RR
  replace hn11 := (RR 52 (by decide +kernel)).trans hn11
  replace hn12 := (RR 53 (by decide +kernel)).trans hn12
  replace RR := q_ubc hg91 RR
  replace RR := q_ub hu86 RR
  replace RR := q_ub hu82 RR
  replace hn9 := (RR 50 (by decide +kernel)).trans hn9
  replace hn10 := (RR 51 (by decide +kernel)).trans hn10
  replace RR := q_ubc hg78 RR
  replace RR := q_ub hu73 RR
  replace RR := q_ub hu69 RR
  replace hn7 := (RR 48 (by decide +kernel)).trans hn7
  replace hn8 := (RR 49 (by decide +kernel)).trans hn8
  replace RR := q_ubc hg65 RR
  replace RR := q_ub hu60 RR
  replace RR := q_ub hu55 RR
  replace hn6 := (RR 47 (by decide +kernel)).trans hn6
  replace RR := q_ubc hg53 RR
  replace RR := q_ub hu49 RR
  replace RR := q_ub hu45 RR
  replace RR := q_ub hu42 RR
  replace RR := q_ub hu39 RR
  replace hn4 := (RR 45 (by decide +kernel)).trans hn4
  replace hn5 := (RR 46 (by decide +kernel)).trans hn5
  replace RR := q_ubc hg36 RR
  replace RR := q_ub hu31 RR
  replace RR := q_ub hu27 RR
  replace RR := q_ub hu24 RR
  replace RR := q_ub hu20 RR
  replace hn2 := (RR 43 (by decide +kernel)).trans hn2
  replace RR := q_ub hu17 RR
  replace RR := q_ub hu13 RR
  replace hn1 := (RR 42 (by decide +kernel)).trans hn1
  replace RR := q_ub hu10 RR
  replace RR := q_ub hu6 RR
  replace hn0 := (RR 41 (by decide +kernel)).trans hn0
  exact q_retv C0 V (⟨q1, q8, q15, q22, q29, q35, q47, q58, q64, q71, q77, q84, q90, q97, q103, q110, q116, q123, q129, q136, q142, q149, q155, q162, q168, hF, hO0, hn0, hn1, hn2, hn3, hn4, hn5, hn6, hn7, hn8, hn9, hn10, hn11, hn12, hn13, hn14, hn15, hn16, hn17, hn18, hn19, hn20, hn21, hn22, hn23, hn24, hN⟩) d_9_1_102
theorem d_1_1_0 : decode prog_1_method_1_code 0 = .ok (.aload_n 0, 1) := by decide +kernel
theorem d_1_1_1 : decode prog_1_method_1_code 1 = .ok (.invokespecial 1, 3) := by decide +kernel
set_option maxRecDepth 100000 in
theorem w_43 : (Cond.methodLink "NumberHouse" (1 : Nat) ({ cls := "java/lang/Object", name := "<init>", desc := "()V" } : MethodName)) ∈ q_tbl := q_of1 43 rfl (by decide +kernel)
theorem d_1_1_4 : decode prog_1_method_1_code 4 = .ok (.aload_n 0, 1) := by decide +kernel
theorem d_1_1_5 : decode prog_1_method_1_code 5 = .ok (.new 7, 3) := by decide +kernel
set_option maxRecDepth 100000 in
theorem w_46 : (Cond.classLink "NumberHouse" (7 : Nat) "NumberHouse$Sheet") ∈ q_tbl := q_of1 46 rfl (by decide +kernel)
theorem d_1_1_8 : decode prog_1_method_1_code 8 = .ok (.dup, 1) := by decide +kernel
theorem d_1_1_9 : decode prog_1_method_1_code 9 = .ok (.sipush 4100, 3) := by decide +kernel
theorem d_1_1_12 : decode prog_1_method_1_code 12 = .ok (.invokespecial 11, 3) := by decide +kernel
set_option maxRecDepth 100000 in
theorem w_48 : (Cond.methodLink "NumberHouse" (11 : Nat) ({ cls := "NumberHouse$Sheet", name := "<init>", desc := "(I)V" } : MethodName)) ∈ q_tbl := q_of1 48 rfl (by decide +kernel)
theorem LI_NH_11 : q_LI "NumberHouse" 11 y_She_init prog_11_method_1_code 2 1 := ⟨w_50, w_2, w_48, w_49, rfl, ⟨by decide, by decide, by decide +kernel⟩⟩
theorem d_1_1_15 : decode prog_1_method_1_code 15 = .ok (.putfield 14, 3) := by decide +kernel
set_option maxRecDepth 100000 in
theorem w_424 : (Cond.fieldLink "NumberHouse" (14 : Nat) "NumberHouse" "tape" "LNumberHouse$Sheet;") ∈ q_tbl := q_of2 184 rfl (by decide +kernel)
theorem d_1_1_18 : decode prog_1_method_1_code 18 = .ok (.aload_n 0, 1) := by decide +kernel
theorem d_1_1_19 : decode prog_1_method_1_code 19 = .ok (.new 7, 3) := by decide +kernel
theorem d_1_1_22 : decode prog_1_method_1_code 22 = .ok (.dup, 1) := by decide +kernel
theorem d_1_1_23 : decode prog_1_method_1_code 23 = .ok (.sipush 11008, 3) := by decide +kernel
theorem d_1_1_26 : decode prog_1_method_1_code 26 = .ok (.invokespecial 11, 3) := by decide +kernel
theorem d_1_1_29 : decode prog_1_method_1_code 29 = .ok (.putfield 18, 3) := by decide +kernel
set_option maxRecDepth 100000 in
theorem w_425 : (Cond.fieldLink "NumberHouse" (18 : Nat) "NumberHouse" "paper" "LNumberHouse$Sheet;") ∈ q_tbl := q_of2 185 rfl (by decide +kernel)
theorem d_1_1_32 : decode prog_1_method_1_code 32 = .ok (.aload_n 0, 1) := by decide +kernel
theorem d_1_1_33 : decode prog_1_method_1_code 33 = .ok (.bipush 10, 2) := by decide +kernel
theorem d_1_1_35 : decode prog_1_method_1_code 35 = .ok (.anewarray 21, 3) := by decide +kernel
set_option maxRecDepth 100000 in
theorem wo_69 : (Cond.arrayOver (.object "NumberHouse$Big")) ∈ q_odd := q_oo1 69 rfl (by decide +kernel)
set_option maxRecDepth 100000 in
theorem w_68 : (Cond.classLink "NumberHouse" (21 : Nat) "NumberHouse$Big") ∈ q_tbl := q_of1 68 rfl (by decide +kernel)
theorem d_1_1_38 : decode prog_1_method_1_code 38 = .ok (.putfield 23, 3) := by decide +kernel
set_option maxRecDepth 100000 in
theorem w_426 : (Cond.fieldLink "NumberHouse" (23 : Nat) "NumberHouse" "wholes" "[LNumberHouse$Big;") ∈ q_tbl := q_of2 186 rfl (by decide +kernel)
theorem d_1_1_41 : decode prog_1_method_1_code 41 = .ok (.aload_n 0, 1) := by decide +kernel
theorem d_1_1_42 : decode prog_1_method_1_code 42 = .ok (.bipush 10, 2) := by decide +kernel
theorem d_1_1_44 : decode prog_1_method_1_code 44 = .ok (.anewarray 27, 3) := by decide +kernel
set_option maxRecDepth 100000 in
theorem wo_71 : (Cond.arrayOver (.object "NumberHouse$Dec")) ∈ q_odd := q_oo1 71 rfl (by decide +kernel)
set_option maxRecDepth 100000 in
theorem w_70 : (Cond.classLink "NumberHouse" (27 : Nat) "NumberHouse$Dec") ∈ q_tbl := q_of1 70 rfl (by decide +kernel)
theorem d_1_1_47 : decode prog_1_method_1_code 47 = .ok (.putfield 29, 3) := by decide +kernel
set_option maxRecDepth 100000 in
theorem w_427 : (Cond.fieldLink "NumberHouse" (29 : Nat) "NumberHouse" "decimals" "[LNumberHouse$Dec;") ∈ q_tbl := q_of2 187 rfl (by decide +kernel)
theorem d_1_1_50 : decode prog_1_method_1_code 50 = .ok (.aload_n 0, 1) := by decide +kernel
theorem d_1_1_51 : decode prog_1_method_1_code 51 = .ok (.bipush 10, 2) := by decide +kernel
theorem d_1_1_53 : decode prog_1_method_1_code 53 = .ok (.newarray .long, 2) := by decide +kernel
theorem d_1_1_55 : decode prog_1_method_1_code 55 = .ok (.putfield 33, 3) := by decide +kernel
set_option maxRecDepth 100000 in
theorem w_428 : (Cond.fieldLink "NumberHouse" (33 : Nat) "NumberHouse" "wide" "[J") ∈ q_tbl := q_of2 188 rfl (by decide +kernel)
theorem d_1_1_58 : decode prog_1_method_1_code 58 = .ok (.aload_n 0, 1) := by decide +kernel
theorem d_1_1_59 : decode prog_1_method_1_code 59 = .ok (.bipush 10, 2) := by decide +kernel
theorem d_1_1_61 : decode prog_1_method_1_code 61 = .ok (.newarray .long, 2) := by decide +kernel
theorem d_1_1_63 : decode prog_1_method_1_code 63 = .ok (.putfield 37, 3) := by decide +kernel
set_option maxRecDepth 100000 in
theorem w_429 : (Cond.fieldLink "NumberHouse" (37 : Nat) "NumberHouse" "narrow" "[J") ∈ q_tbl := q_of2 189 rfl (by decide +kernel)
theorem d_1_1_66 : decode prog_1_method_1_code 66 = .ok (.aload_n 0, 1) := by decide +kernel
theorem d_1_1_67 : decode prog_1_method_1_code 67 = .ok (.new 40, 3) := by decide +kernel
set_option maxRecDepth 100000 in
theorem w_72 : (Cond.classLink "NumberHouse" (40 : Nat) "NumberHouse$Mill") ∈ q_tbl := q_of1 72 rfl (by decide +kernel)
set_option maxRecDepth 100000 in
theorem w_73 : (Cond.instantiable "NumberHouse$Mill" (10 : Nat)) ∈ q_tbl := q_of1 73 rfl (by decide +kernel)
set_option maxRecDepth 100000 in
theorem w_3 : (Cond.initialized "NumberHouse$Mill") ∈ q_tbl := q_of1 3 rfl (by decide +kernel)
theorem d_1_1_70 : decode prog_1_method_1_code 70 = .ok (.dup, 1) := by decide +kernel
theorem d_1_1_71 : decode prog_1_method_1_code 71 = .ok (.invokespecial 42, 3) := by decide +kernel
set_option maxRecDepth 100000 in
theorem w_76 : (Cond.code ({ cls := "NumberHouse$Mill", name := "<init>", desc := "()V" } : MethodName) prog_8_method_1_code (1 : Nat) (none : Option ClassFile.FieldType)) ∈ q_tbl := q_of1 76 rfl (by decide +kernel)
set_option maxRecDepth 100000 in
theorem wo_74 : (Cond.methodLinkNest "NumberHouse" (42 : Nat) ({ cls := "NumberHouse$Mill", name := "<init>", desc := "()V" } : MethodName) "NumberHouse") ∈ q_odd := q_oo1 74 rfl (by decide +kernel)
set_option maxRecDepth 100000 in
theorem w_75 : (Cond.instanceMethod ({ cls := "NumberHouse$Mill", name := "<init>", desc := "()V" } : MethodName)) ∈ q_tbl := q_of1 75 rfl (by decide +kernel)
theorem LN_NH_42 : q_LN "NumberHouse" 42 y_Mil_init prog_8_method_1_code 1 0 "NumberHouse" := ⟨w_76, w_3, wo_74, w_75, rfl, ⟨by decide, by decide, by decide +kernel⟩⟩
theorem d_1_1_74 : decode prog_1_method_1_code 74 = .ok (.putfield 43, 3) := by decide +kernel
set_option maxRecDepth 100000 in
theorem w_430 : (Cond.fieldLink "NumberHouse" (43 : Nat) "NumberHouse" "mill" "LNumberHouse$Mill;") ∈ q_tbl := q_of2 190 rfl (by decide +kernel)
theorem d_1_1_77 : decode prog_1_method_1_code 77 = .ok (.aload_n 0, 1) := by decide +kernel
theorem d_1_1_78 : decode prog_1_method_1_code 78 = .ok (.new 47, 3) := by decide +kernel
set_option maxRecDepth 100000 in
theorem w_156 : (Cond.classLink "NumberHouse" (47 : Nat) "NumberHouse$DecimalWork") ∈ q_tbl := q_of1 156 rfl (by decide +kernel)
set_option maxRecDepth 100000 in
theorem w_157 : (Cond.instantiable "NumberHouse$DecimalWork" (4 : Nat)) ∈ q_tbl := q_of1 157 rfl (by decide +kernel)
set_option maxRecDepth 100000 in
theorem w_5 : (Cond.initialized "NumberHouse$DecimalWork") ∈ q_tbl := q_of1 5 rfl (by decide +kernel)
theorem d_1_1_81 : decode prog_1_method_1_code 81 = .ok (.dup, 1) := by decide +kernel
theorem d_1_1_82 : decode prog_1_method_1_code 82 = .ok (.aload_n 0, 1) := by decide +kernel
theorem d_1_1_83 : decode prog_1_method_1_code 83 = .ok (.getfield 43, 3) := by decide +kernel
theorem d_1_1_86 : decode prog_1_method_1_code 86 = .ok (.invokespecial 49, 3) := by decide +kernel
set_option maxRecDepth 100000 in
theorem w_160 : (Cond.code ({ cls := "NumberHouse$DecimalWork", name := "<init>", desc := "(LNumberHouse$Mill;)V" } : MethodName) prog_4_method_1_code (2 : Nat) (none : Option ClassFile.FieldType)) ∈ q_tbl := q_of1 160 rfl (by decide +kernel)
set_option maxRecDepth 100000 in
theorem w_158 : (Cond.methodLink "NumberHouse" (49 : Nat) ({ cls := "NumberHouse$DecimalWork", name := "<init>", desc := "(LNumberHouse$Mill;)V" } : MethodName)) ∈ q_tbl := q_of1 158 rfl (by decide +kernel)
set_option maxRecDepth 100000 in
theorem w_159 : (Cond.instanceMethod ({ cls := "NumberHouse$DecimalWork", name := "<init>", desc := "(LNumberHouse$Mill;)V" } : MethodName)) ∈ q_tbl := q_of1 159 rfl (by decide +kernel)
theorem LI_NH_49 : q_LI "NumberHouse" 49 y_DW_init prog_4_method_1_code 2 1 := ⟨w_160, w_5, w_158, w_159, rfl, ⟨by decide, by decide, by decide +kernel⟩⟩
theorem d_1_1_89 : decode prog_1_method_1_code 89 = .ok (.putfield 52, 3) := by decide +kernel
set_option maxRecDepth 100000 in
theorem w_431 : (Cond.fieldLink "NumberHouse" (52 : Nat) "NumberHouse" "decimalWork" "LNumberHouse$DecimalWork;") ∈ q_tbl := q_of2 191 rfl (by decide +kernel)
theorem d_1_1_92 : decode prog_1_method_1_code 92 = .ok (.aload_n 0, 1) := by decide +kernel
theorem d_1_1_93 : decode prog_1_method_1_code 93 = .ok (.new 56, 3) := by decide +kernel
set_option maxRecDepth 100000 in
theorem w_225 : (Cond.classLink "NumberHouse" (56 : Nat) "NumberHouse$Floats") ∈ q_tbl := q_of1 225 rfl (by decide +kernel)
set_option maxRecDepth 100000 in
theorem w_226 : (Cond.instantiable "NumberHouse$Floats" (7 : Nat)) ∈ q_tbl := q_of1 226 rfl (by decide +kernel)
set_option maxRecDepth 100000 in
theorem w_8 : (Cond.initialized "NumberHouse$Floats") ∈ q_tbl := q_of1 8 rfl (by decide +kernel)
theorem d_1_1_96 : decode prog_1_method_1_code 96 = .ok (.dup, 1) := by decide +kernel
theorem d_1_1_97 : decode prog_1_method_1_code 97 = .ok (.bipush 52, 2) := by decide +kernel
theorem d_1_1_99 : decode prog_1_method_1_code 99 = .ok (.sipush 1075, 3) := by decide +kernel
theorem d_1_1_102 : decode prog_1_method_1_code 102 = .ok (.sipush 2047, 3) := by decide +kernel
theorem d_1_1_105 : decode prog_1_method_1_code 105 = .ok (.aload_n 0, 1) := by decide +kernel
theorem d_1_1_106 : decode prog_1_method_1_code 106 = .ok (.getfield 43, 3) := by decide +kernel
theorem d_1_1_109 : decode prog_1_method_1_code 109 = .ok (.invokespecial 58, 3) := by decide +kernel
set_option maxRecDepth 100000 in
theorem w_229 : (Cond.code ({ cls := "NumberHouse$Floats", name := "<init>", desc := "(IIILNumberHouse$Mill;)V" } : MethodName) prog_7_method_1_code (5 : Nat) (none : Option ClassFile.FieldType)) ∈ q_tbl := q_of1 229 rfl (by decide +kernel)
set_option maxRecDepth 100000 in
theorem w_227 : (Cond.methodLink "NumberHouse" (58 : Nat) ({ cls := "NumberHouse$Floats", name := "<init>", desc := "(IIILNumberHouse$Mill;)V" } : MethodName)) ∈ q_tbl := q_of1 227 rfl (by decide +kernel)
set_option maxRecDepth 100000 in
theorem w_228 : (Cond.instanceMethod ({ cls := "NumberHouse$Floats", name := "<init>", desc := "(IIILNumberHouse$Mill;)V" } : MethodName)) ∈ q_tbl := q_of1 228 rfl (by decide +kernel)
theorem LI_NH_58 : q_LI "NumberHouse" 58 y_Flo_init prog_7_method_1_code 5 4 := ⟨w_229, w_8, w_227, w_228, rfl, ⟨by decide, by decide, by decide +kernel⟩⟩
theorem d_1_1_112 : decode prog_1_method_1_code 112 = .ok (.putfield 61, 3) := by decide +kernel
set_option maxRecDepth 100000 in
theorem w_432 : (Cond.fieldLink "NumberHouse" (61 : Nat) "NumberHouse" "wideFloats" "LNumberHouse$Floats;") ∈ q_tbl := q_of2 192 rfl (by decide +kernel)
theorem d_1_1_115 : decode prog_1_method_1_code 115 = .ok (.aload_n 0, 1) := by decide +kernel
theorem d_1_1_116 : decode prog_1_method_1_code 116 = .ok (.new 56, 3) := by decide +kernel
theorem d_1_1_119 : decode prog_1_method_1_code 119 = .ok (.dup, 1) := by decide +kernel
theorem d_1_1_120 : decode prog_1_method_1_code 120 = .ok (.bipush 23, 2) := by decide +kernel
theorem d_1_1_122 : decode prog_1_method_1_code 122 = .ok (.sipush 150, 3) := by decide +kernel
theorem d_1_1_125 : decode prog_1_method_1_code 125 = .ok (.sipush 255, 3) := by decide +kernel
theorem d_1_1_128 : decode prog_1_method_1_code 128 = .ok (.aload_n 0, 1) := by decide +kernel
theorem d_1_1_129 : decode prog_1_method_1_code 129 = .ok (.getfield 43, 3) := by decide +kernel
theorem d_1_1_132 : decode prog_1_method_1_code 132 = .ok (.invokespecial 58, 3) := by decide +kernel
theorem d_1_1_135 : decode prog_1_method_1_code 135 = .ok (.putfield 65, 3) := by decide +kernel
set_option maxRecDepth 100000 in
theorem w_433 : (Cond.fieldLink "NumberHouse" (65 : Nat) "NumberHouse" "narrowFloats" "LNumberHouse$Floats;") ∈ q_tbl := q_of2 193 rfl (by decide +kernel)
theorem d_1_1_138 : decode prog_1_method_1_code 138 = .ok (.aload_n 0, 1) := by decide +kernel
theorem d_1_1_139 : decode prog_1_method_1_code 139 = .ok (.new 68, 3) := by decide +kernel
set_option maxRecDepth 100000 in
theorem w_258 : (Cond.classLink "NumberHouse" (68 : Nat) "NumberHouse$Digits") ∈ q_tbl := q_of2 18 rfl (by decide +kernel)
set_option maxRecDepth 100000 in
theorem w_259 : (Cond.instantiable "NumberHouse$Digits" (3 : Nat)) ∈ q_tbl := q_of2 19 rfl (by decide +kernel)
set_option maxRecDepth 100000 in
theorem w_9 : (Cond.initialized "NumberHouse$Digits") ∈ q_tbl := q_of1 9 rfl (by decide +kernel)
theorem d_1_1_142 : decode prog_1_method_1_code 142 = .ok (.dup, 1) := by decide +kernel
theorem d_1_1_143 : decode prog_1_method_1_code 143 = .ok (.invokespecial 70, 3) := by decide +kernel
set_option maxRecDepth 100000 in
theorem w_262 : (Cond.code ({ cls := "NumberHouse$Digits", name := "<init>", desc := "()V" } : MethodName) prog_5_method_1_code (1 : Nat) (none : Option ClassFile.FieldType)) ∈ q_tbl := q_of2 22 rfl (by decide +kernel)
set_option maxRecDepth 100000 in
theorem wo_260 : (Cond.methodLinkNest "NumberHouse" (70 : Nat) ({ cls := "NumberHouse$Digits", name := "<init>", desc := "()V" } : MethodName) "NumberHouse") ∈ q_odd := q_oo2 20 rfl (by decide +kernel)
set_option maxRecDepth 100000 in
theorem w_261 : (Cond.instanceMethod ({ cls := "NumberHouse$Digits", name := "<init>", desc := "()V" } : MethodName)) ∈ q_tbl := q_of2 21 rfl (by decide +kernel)
theorem LN_NH_70 : q_LN "NumberHouse" 70 y_Dig_init prog_5_method_1_code 1 0 "NumberHouse" := ⟨w_262, w_9, wo_260, w_261, rfl, ⟨by decide, by decide, by decide +kernel⟩⟩
theorem d_1_1_146 : decode prog_1_method_1_code 146 = .ok (.putfield 71, 3) := by decide +kernel
set_option maxRecDepth 100000 in
theorem w_434 : (Cond.fieldLink "NumberHouse" (71 : Nat) "NumberHouse" "digits" "LNumberHouse$Digits;") ∈ q_tbl := q_of2 194 rfl (by decide +kernel)
theorem d_1_1_149 : decode prog_1_method_1_code 149 = .ok (.aload_n 0, 1) := by decide +kernel
theorem d_1_1_150 : decode prog_1_method_1_code 150 = .ok (.new 75, 3) := by decide +kernel
set_option maxRecDepth 100000 in
theorem w_278 : (Cond.classLink "NumberHouse" (75 : Nat) "NumberHouse$Reader") ∈ q_tbl := q_of2 38 rfl (by decide +kernel)
set_option maxRecDepth 100000 in
theorem w_279 : (Cond.instantiable "NumberHouse$Reader" (12 : Nat)) ∈ q_tbl := q_of2 39 rfl (by decide +kernel)
set_option maxRecDepth 100000 in
theorem w_10 : (Cond.initialized "NumberHouse$Reader") ∈ q_tbl := q_of1 10 rfl (by decide +kernel)
theorem d_1_1_153 : decode prog_1_method_1_code 153 = .ok (.dup, 1) := by decide +kernel
theorem d_1_1_154 : decode prog_1_method_1_code 154 = .ok (.aload_n 0, 1) := by decide +kernel
theorem d_1_1_155 : decode prog_1_method_1_code 155 = .ok (.getfield 14, 3) := by decide +kernel
theorem d_1_1_158 : decode prog_1_method_1_code 158 = .ok (.aload_n 0, 1) := by decide +kernel
theorem d_1_1_159 : decode prog_1_method_1_code 159 = .ok (.getfield 43, 3) := by decide +kernel
theorem d_1_1_162 : decode prog_1_method_1_code 162 = .ok (.invokespecial 77, 3) := by decide +kernel
set_option maxRecDepth 100000 in
theorem w_282 : (Cond.code ({ cls := "NumberHouse$Reader", name := "<init>", desc := "(LNumberHouse$Sheet;LNumberHouse$Mill;)V" } : MethodName) prog_10_method_1_code (3 : Nat) (none : Option ClassFile.FieldType)) ∈ q_tbl := q_of2 42 rfl (by decide +kernel)
set_option maxRecDepth 100000 in
theorem w_280 : (Cond.methodLink "NumberHouse" (77 : Nat) ({ cls := "NumberHouse$Reader", name := "<init>", desc := "(LNumberHouse$Sheet;LNumberHouse$Mill;)V" } : MethodName)) ∈ q_tbl := q_of2 40 rfl (by decide +kernel)
set_option maxRecDepth 100000 in
theorem w_281 : (Cond.instanceMethod ({ cls := "NumberHouse$Reader", name := "<init>", desc := "(LNumberHouse$Sheet;LNumberHouse$Mill;)V" } : MethodName)) ∈ q_tbl := q_of2 41 rfl (by decide +kernel)
theorem LI_NH_77 : q_LI "NumberHouse" 77 y_Rea_init prog_10_method_1_code 3 2 := ⟨w_282, w_10, w_280, w_281, rfl, ⟨by decide, by decide, by decide +kernel⟩⟩
theorem d_1_1_165 : decode prog_1_method_1_code 165 = .ok (.putfield 80, 3) := by decide +kernel
set_option maxRecDepth 100000 in
theorem w_435 : (Cond.fieldLink "NumberHouse" (80 : Nat) "NumberHouse" "reader" "LNumberHouse$Reader;") ∈ q_tbl := q_of2 195 rfl (by decide +kernel)
theorem d_1_1_168 : decode prog_1_method_1_code 168 = .ok (.aload_n 0, 1) := by decide +kernel
theorem d_1_1_169 : decode prog_1_method_1_code 169 = .ok (.new 84, 3) := by decide +kernel
set_option maxRecDepth 100000 in
theorem w_323 : (Cond.classLink "NumberHouse" (84 : Nat) "NumberHouse$Writer") ∈ q_tbl := q_of2 83 rfl (by decide +kernel)
set_option maxRecDepth 100000 in
theorem w_324 : (Cond.instantiable "NumberHouse$Writer" (3 : Nat)) ∈ q_tbl := q_of2 84 rfl (by decide +kernel)
set_option maxRecDepth 100000 in
theorem w_11 : (Cond.initialized "NumberHouse$Writer") ∈ q_tbl := q_of1 11 rfl (by decide +kernel)
theorem d_1_1_172 : decode prog_1_method_1_code 172 = .ok (.dup, 1) := by decide +kernel
theorem d_1_1_173 : decode prog_1_method_1_code 173 = .ok (.aload_n 0, 1) := by decide +kernel
theorem d_1_1_174 : decode prog_1_method_1_code 174 = .ok (.getfield 18, 3) := by decide +kernel
theorem d_1_1_177 : decode prog_1_method_1_code 177 = .ok (.aload_n 0, 1) := by decide +kernel
theorem d_1_1_178 : decode prog_1_method_1_code 178 = .ok (.getfield 43, 3) := by decide +kernel
theorem d_1_1_181 : decode prog_1_method_1_code 181 = .ok (.aload_n 0, 1) := by decide +kernel
theorem d_1_1_182 : decode prog_1_method_1_code 182 = .ok (.getfield 71, 3) := by decide +kernel
theorem d_1_1_185 : decode prog_1_method_1_code 185 = .ok (.invokespecial 86, 3) := by decide +kernel
set_option maxRecDepth 100000 in
theorem w_327 : (Cond.code ({ cls := "NumberHouse$Writer", name := "<init>", desc := "(LNumberHouse$Sheet;LNumberHouse$Mill;LNumberHouse$Digits;)V" } : MethodName) prog_12_method_1_code (4 : Nat) (none : Option ClassFile.FieldType)) ∈ q_tbl := q_of2 87 rfl (by decide +kernel)
set_option maxRecDepth 100000 in
theorem w_325 : (Cond.methodLink "NumberHouse" (86 : Nat) ({ cls := "NumberHouse$Writer", name := "<init>", desc := "(LNumberHouse$Sheet;LNumberHouse$Mill;LNumberHouse$Digits;)V" } : MethodName)) ∈ q_tbl := q_of2 85 rfl (by decide +kernel)
set_option maxRecDepth 100000 in
theorem w_326 : (Cond.instanceMethod ({ cls := "NumberHouse$Writer", name := "<init>", desc := "(LNumberHouse$Sheet;LNumberHouse$Mill;LNumberHouse$Digits;)V" } : MethodName)) ∈ q_tbl := q_of2 86 rfl (by decide +kernel)
theorem LI_NH_86 : q_LI "NumberHouse" 86 y_Wri_init prog_12_method_1_code 4 3 := ⟨w_327, w_11, w_325, w_326, rfl, ⟨by decide, by decide, by decide +kernel⟩⟩
theorem d_1_1_188 : decode prog_1_method_1_code 188 = .ok (.putfield 89, 3) := by decide +kernel
set_option maxRecDepth 100000 in
theorem w_436 : (Cond.fieldLink "NumberHouse" (89 : Nat) "NumberHouse" "writer" "LNumberHouse$Writer;") ∈ q_tbl := q_of2 196 rfl (by decide +kernel)
theorem d_1_1_191 : decode prog_1_method_1_code 191 = .ok (.aload_n 0, 1) := by decide +kernel
theorem d_1_1_192 : decode prog_1_method_1_code 192 = .ok (.new 93, 3) := by decide +kernel
set_option maxRecDepth 100000 in
theorem w_339 : (Cond.classLink "NumberHouse" (93 : Nat) "NumberHouse$Printer") ∈ q_tbl := q_of2 99 rfl (by decide +kernel)
set_option maxRecDepth 100000 in
theorem w_340 : (Cond.instantiable "NumberHouse$Printer" (12 : Nat)) ∈ q_tbl := q_of2 100 rfl (by decide +kernel)
set_option maxRecDepth 100000 in
theorem w_12 : (Cond.initialized "NumberHouse$Printer") ∈ q_tbl := q_of1 12 rfl (by decide +kernel)
theorem d_1_1_195 : decode prog_1_method_1_code 195 = .ok (.dup, 1) := by decide +kernel
theorem d_1_1_196 : decode prog_1_method_1_code 196 = .ok (.aload_n 0, 1) := by decide +kernel
theorem d_1_1_197 : decode prog_1_method_1_code 197 = .ok (.getfield 14, 3) := by decide +kernel
theorem d_1_1_200 : decode prog_1_method_1_code 200 = .ok (.aload_n 0, 1) := by decide +kernel
theorem d_1_1_201 : decode prog_1_method_1_code 201 = .ok (.getfield 71, 3) := by decide +kernel
theorem d_1_1_204 : decode prog_1_method_1_code 204 = .ok (.invokespecial 95, 3) := by decide +kernel
set_option maxRecDepth 100000 in
theorem w_343 : (Cond.code ({ cls := "NumberHouse$Printer", name := "<init>", desc := "(LNumberHouse$Sheet;LNumberHouse$Digits;)V" } : MethodName) prog_9_method_1_code (4 : Nat) (none : Option ClassFile.FieldType)) ∈ q_tbl := q_of2 103 rfl (by decide +kernel)
set_option maxRecDepth 100000 in
theorem w_341 : (Cond.methodLink "NumberHouse" (95 : Nat) ({ cls := "NumberHouse$Printer", name := "<init>", desc := "(LNumberHouse$Sheet;LNumberHouse$Digits;)V" } : MethodName)) ∈ q_tbl := q_of2 101 rfl (by decide +kernel)
set_option maxRecDepth 100000 in
theorem w_342 : (Cond.instanceMethod ({ cls := "NumberHouse$Printer", name := "<init>", desc := "(LNumberHouse$Sheet;LNumberHouse$Digits;)V" } : MethodName)) ∈ q_tbl := q_of2 102 rfl (by decide +kernel)
theorem LI_NH_95 : q_LI "NumberHouse" 95 y_Pri_init prog_9_method_1_code 4 2 := ⟨w_343, w_12, w_341, w_342, rfl, ⟨by decide, by decide, by decide +kernel⟩⟩
theorem d_1_1_207 : decode prog_1_method_1_code 207 = .ok (.putfield 98, 3) := by decide +kernel
set_option maxRecDepth 100000 in
theorem w_437 : (Cond.fieldLink "NumberHouse" (98 : Nat) "NumberHouse" "printer" "LNumberHouse$Printer;") ∈ q_tbl := q_of2 197 rfl (by decide +kernel)
theorem d_1_1_210 : decode prog_1_method_1_code 210 = .ok (.iconst 0, 1) := by decide +kernel
theorem d_1_1_211 : decode prog_1_method_1_code 211 = .ok (.istore_n 1, 1) := by decide +kernel
theorem d_1_1_212 : decode prog_1_method_1_code 212 = .ok (.iload_n 1, 1) := by decide +kernel
theorem d_1_1_213 : decode prog_1_method_1_code 213 = .ok (.bipush 10, 2) := by decide +kernel
theorem d_1_1_215 : decode prog_1_method_1_code 215 = .ok (.if_icmp .ge 39, 3) := by decide +kernel
theorem d_1_1_218 : decode prog_1_method_1_code 218 = .ok (.aload_n 0, 1) := by decide +kernel
theorem d_1_1_219 : decode prog_1_method_1_code 219 = .ok (.getfield 23, 3) := by decide +kernel
theorem d_1_1_222 : decode prog_1_method_1_code 222 = .ok (.iload_n 1, 1) := by decide +kernel
theorem d_1_1_223 : decode prog_1_method_1_code 223 = .ok (.new 21, 3) := by decide +kernel
theorem d_1_1_226 : decode prog_1_method_1_code 226 = .ok (.dup, 1) := by decide +kernel
theorem d_1_1_227 : decode prog_1_method_1_code 227 = .ok (.bipush 68, 2) := by decide +kernel
theorem d_1_1_229 : decode prog_1_method_1_code 229 = .ok (.invokespecial 102, 3) := by decide +kernel
set_option maxRecDepth 100000 in
theorem w_422 : (Cond.methodLink "NumberHouse" (102 : Nat) ({ cls := "NumberHouse$Big", name := "<init>", desc := "(I)V" } : MethodName)) ∈ q_tbl := q_of2 182 rfl (by decide +kernel)
theorem LI_NH_102 : q_LI "NumberHouse" 102 y_Big_init prog_2_method_1_code 2 1 := ⟨w_82, w_4, w_422, w_81, rfl, ⟨by decide, by decide, by decide +kernel⟩⟩
theorem d_1_1_232 : decode prog_1_method_1_code 232 = .ok (.aastore, 1) := by decide +kernel
theorem d_1_1_233 : decode prog_1_method_1_code 233 = .ok (.aload_n 0, 1) := by decide +kernel
theorem d_1_1_234 : decode prog_1_method_1_code 234 = .ok (.getfield 29, 3) := by decide +kernel
theorem d_1_1_237 : decode prog_1_method_1_code 237 = .ok (.iload_n 1, 1) := by decide +kernel
theorem d_1_1_238 : decode prog_1_method_1_code 238 = .ok (.new 27, 3) := by decide +kernel
theorem d_1_1_241 : decode prog_1_method_1_code 241 = .ok (.dup, 1) := by decide +kernel
theorem d_1_1_242 : decode prog_1_method_1_code 242 = .ok (.bipush 108, 2) := by decide +kernel
theorem d_1_1_244 : decode prog_1_method_1_code 244 = .ok (.invokespecial 103, 3) := by decide +kernel
set_option maxRecDepth 100000 in
theorem w_423 : (Cond.methodLink "NumberHouse" (103 : Nat) ({ cls := "NumberHouse$Dec", name := "<init>", desc := "(I)V" } : MethodName)) ∈ q_tbl := q_of2 183 rfl (by decide +kernel)
theorem LI_NH_103 : q_LI "NumberHouse" 103 y_Dec_init prog_3_method_1_code 2 1 := ⟨w_166, w_6, w_423, w_165, rfl, ⟨by decide, by decide, by decide +kernel⟩⟩
theorem d_1_1_247 : decode prog_1_method_1_code 247 = .ok (.aastore, 1) := by decide +kernel
theorem d_1_1_248 : decode prog_1_method_1_code 248 = .ok (.iinc 1 1, 3) := by decide +kernel
theorem d_1_1_251 : decode prog_1_method_1_code 251 = .ok (.goto (-39), 3) := by decide +kernel
theorem d_1_1_254 : decode prog_1_method_1_code 254 = .ok (.return_, 1) := by decide +kernel
/-- the cells of a new object, in their order -/
abbrev nh_w (g : Nat → ClassId) (q : Nat → Nat) : va_W := [
  (q 0, .inr (0, [.ref (q 1), .ref (q 3), .ref (q 5), .ref (q 6), .ref (q 7), .ref (q 8), .ref (q 9), .ref (q 30), .ref (q 34), .ref (q 35), .ref (q 36), .ref (q 38), .ref (q 39), .ref (q 40)])),
  (q 1, .inr (1, [.ref (q 2), .int 4100, .int 0])),
  (q 2, .inl (g 1, 513, .inr (.inl (fun _ => 0)))),
  (q 3, .inr (1, [.ref (q 4), .int 11008, .int 0])),
  (q 4, .inl (g 1, 1376, .inr (.inl (fun _ => 0)))),
  (q 5, .inl (g 4, 10, .inr (.inr (.inr (.inr (va_up (va_up (va_up (va_up (va_up (va_up (va_up (va_up (va_up (va_up (fun _ => none) 0 (some (q 66))) 1 (some (q 71))) 2 (some (q 76))) 3 (some (q 81))) 4 (some (q 86))) 5 (some (q 91))) 6 (some (q 96))) 7 (some (q 101))) 8 (some (q 106))) 9 (some (q 111)))))))),
  (q 6, .inl (g 5, 10, .inr (.inr (.inr (.inr (va_up (va_up (va_up (va_up (va_up (va_up (va_up (va_up (va_up (va_up (fun _ => none) 0 (some (q 68))) 1 (some (q 73))) 2 (some (q 78))) 3 (some (q 83))) 4 (some (q 88))) 5 (some (q 93))) 6 (some (q 98))) 7 (some (q 103))) 8 (some (q 108))) 9 (some (q 113)))))))),
  (q 7, .inl (g 1, 10, .inr (.inl (fun _ => 0)))),
  (q 8, .inl (g 1, 10, .inr (.inl (fun _ => 0)))),
  (q 9, .inr (4, [.ref (q 10), .ref (q 12), .ref (q 14), .ref (q 16), .ref (q 18), .ref (q 20), .ref (q 22), .ref (q 24), .ref (q 26), .ref (q 28)])),
  (q 10, .inr (2, [.ref (q 11), .int 0, .int 0])),
  (q 11, .inl (g 0, 220, .inl (fun _ => 0))),
  (q 12, .inr (2, [.ref (q 13), .int 0, .int 0])),
  (q 13, .inl (g 0, 220, .inl (fun _ => 0))),
  (q 14, .inr (2, [.ref (q 15), .int 0, .int 0])),
  (q 15, .inl (g 0, 220, .inl (fun _ => 0))),
  (q 16, .inr (2, [.ref (q 17), .int 0, .int 0])),
  (q 17, .inl (g 0, 220, .inl (fun _ => 0))),
  (q 18, .inr (2, [.ref (q 19), .int 0, .int 0])),
  (q 19, .inl (g 0, 220, .inl (fun _ => 0))),
  (q 20, .inr (2, [.ref (q 21), .int 0, .int 0])),
  (q 21, .inl (g 0, 220, .inl (fun _ => 0))),
  (q 22, .inr (2, [.ref (q 23), .int 0, .int 0])),
  (q 23, .inl (g 0, 220, .inl (fun _ => 0))),
  (q 24, .inr (2, [.ref (q 25), .int 0, .int 0])),
  (q 25, .inl (g 0, 220, .inl (fun _ => 0))),
  (q 26, .inr (2, [.ref (q 27), .int 0, .int 0])),
  (q 27, .inl (g 0, 220, .inl (fun _ => 0))),
  (q 28, .inr (2, [.ref (q 29), .int 0, .int 0])),
  (q 29, .inl (g 0, 220, .inl (fun _ => 0))),
  (q 30, .inr (5, [.ref (q 31), .long 0, .ref (q 9), .int 0])),
  (q 31, .inr (3, [.ref (q 32), .int 0, .int 1])),
  (q 32, .inr (2, [.ref (q 33), .int 1, .int 0])),
  (q 33, .inl (g 0, 3, .inl (upd (fun _ => 0) 0 1))),
  (q 34, .inr (6, [.int 52, .int 1075, .int 2047, .long 0, .int 0, .ref (q 9), .int 0])),
  (q 35, .inr (6, [.int 23, .int 150, .int 255, .long 0, .int 0, .ref (q 9), .int 0])),
  (q 36, .inr (7, [.int 0, .int 0, .ref (q 37)])),
  (q 37, .inl (g 2, 1026, .inl (fun _ => 0))),
  (q 38, .inr (8, [.long 0, .long 0, .ref (q 1), .ref (q 9), .int 0, .int 0, .int 0, .int 0, .int 0, .int 0, .int 0, .long 0])),
  (q 39, .inr (9, [.ref (q 3), .ref (q 9), .ref (q 36)])),
  (q 40, .inr (11, [.int 0, .ref (q 41), .ref (q 42), .ref (q 43), .ref (q 44), .ref (q 1), .ref (q 47), .ref (q 36), .ref (q 45), .int 0, .int 0, .int 0])),
  (q 41, .inl (g 0, 9, .inl (fun _ => 0))),
  (q 42, .inl (g 1, 9, .inr (.inl (fun _ => 0)))),
  (q 43, .inl (g 0, 9, .inl (fun _ => 0))),
  (q 44, .inl (g 6, 9, .inr (.inr (.inr (.inr (va_up (va_up (va_up (va_up (va_up (va_up (va_up (va_up (va_up (fun _ => none) 0 (some (q 48))) 1 (some (q 50))) 2 (some (q 52))) 3 (some (q 54))) 4 (some (q 56))) 5 (some (q 58))) 6 (some (q 60))) 7 (some (q 62))) 8 (some (q 64)))))))),
  (q 45, .inr (1, [.ref (q 46), .int 4104, .int 0])),
  (q 46, .inl (g 1, 513, .inr (.inl (fun _ => 0)))),
  (q 47, .inr (10, [.int 0, .int 0, .int 0, .int 0, .int 0, .int 0, .ref (q 1), .int 0])),
  (q 48, .inr (1, [.ref (q 49), .int 64, .int 0])),
  (q 49, .inl (g 1, 8, .inr (.inl (fun _ => 0)))),
  (q 50, .inr (1, [.ref (q 51), .int 64, .int 0])),
  (q 51, .inl (g 1, 8, .inr (.inl (fun _ => 0)))),
  (q 52, .inr (1, [.ref (q 53), .int 64, .int 0])),
  (q 53, .inl (g 1, 8, .inr (.inl (fun _ => 0)))),
  (q 54, .inr (1, [.ref (q 55), .int 64, .int 0])),
  (q 55, .inl (g 1, 8, .inr (.inl (fun _ => 0)))),
  (q 56, .inr (1, [.ref (q 57), .int 64, .int 0])),
  (q 57, .inl (g 1, 8, .inr (.inl (fun _ => 0)))),
  (q 58, .inr (1, [.ref (q 59), .int 64, .int 0])),
  (q 59, .inl (g 1, 8, .inr (.inl (fun _ => 0)))),
  (q 60, .inr (1, [.ref (q 61), .int 64, .int 0])),
  (q 61, .inl (g 1, 8, .inr (.inl (fun _ => 0)))),
  (q 62, .inr (1, [.ref (q 63), .int 64, .int 0])),
  (q 63, .inl (g 1, 8, .inr (.inl (fun _ => 0)))),
  (q 64, .inr (1, [.ref (q 65), .int 64, .int 0])),
  (q 65, .inl (g 1, 8, .inr (.inl (fun _ => 0)))),
  (q 66, .inr (2, [.ref (q 67), .int 0, .int 0])),
  (q 67, .inl (g 0, 68, .inl (fun _ => 0))),
  (q 68, .inr (3, [.ref (q 69), .int 0, .int 1])),
  (q 69, .inr (2, [.ref (q 70), .int 0, .int 0])),
  (q 70, .inl (g 0, 108, .inl (fun _ => 0))),
  (q 71, .inr (2, [.ref (q 72), .int 0, .int 0])),
  (q 72, .inl (g 0, 68, .inl (fun _ => 0))),
  (q 73, .inr (3, [.ref (q 74), .int 0, .int 1])),
  (q 74, .inr (2, [.ref (q 75), .int 0, .int 0])),
  (q 75, .inl (g 0, 108, .inl (fun _ => 0))),
  (q 76, .inr (2, [.ref (q 77), .int 0, .int 0])),
  (q 77, .inl (g 0, 68, .inl (fun _ => 0))),
  (q 78, .inr (3, [.ref (q 79), .int 0, .int 1])),
  (q 79, .inr (2, [.ref (q 80), .int 0, .int 0])),
  (q 80, .inl (g 0, 108, .inl (fun _ => 0))),
  (q 81, .inr (2, [.ref (q 82), .int 0, .int 0])),
  (q 82, .inl (g 0, 68, .inl (fun _ => 0))),
  (q 83, .inr (3, [.ref (q 84), .int 0, .int 1])),
  (q 84, .inr (2, [.ref (q 85), .int 0, .int 0])),
  (q 85, .inl (g 0, 108, .inl (fun _ => 0))),
  (q 86, .inr (2, [.ref (q 87), .int 0, .int 0])),
  (q 87, .inl (g 0, 68, .inl (fun _ => 0))),
  (q 88, .inr (3, [.ref (q 89), .int 0, .int 1])),
  (q 89, .inr (2, [.ref (q 90), .int 0, .int 0])),
  (q 90, .inl (g 0, 108, .inl (fun _ => 0))),
  (q 91, .inr (2, [.ref (q 92), .int 0, .int 0])),
  (q 92, .inl (g 0, 68, .inl (fun _ => 0))),
  (q 93, .inr (3, [.ref (q 94), .int 0, .int 1])),
  (q 94, .inr (2, [.ref (q 95), .int 0, .int 0])),
  (q 95, .inl (g 0, 108, .inl (fun _ => 0))),
  (q 96, .inr (2, [.ref (q 97), .int 0, .int 0])),
  (q 97, .inl (g 0, 68, .inl (fun _ => 0))),
  (q 98, .inr (3, [.ref (q 99), .int 0, .int 1])),
  (q 99, .inr (2, [.ref (q 100), .int 0, .int 0])),
  (q 100, .inl (g 0, 108, .inl (fun _ => 0))),
  (q 101, .inr (2, [.ref (q 102), .int 0, .int 0])),
  (q 102, .inl (g 0, 68, .inl (fun _ => 0))),
  (q 103, .inr (3, [.ref (q 104), .int 0, .int 1])),
  (q 104, .inr (2, [.ref (q 105), .int 0, .int 0])),
  (q 105, .inl (g 0, 108, .inl (fun _ => 0))),
  (q 106, .inr (2, [.ref (q 107), .int 0, .int 0])),
  (q 107, .inl (g 0, 68, .inl (fun _ => 0))),
  (q 108, .inr (3, [.ref (q 109), .int 0, .int 1])),
  (q 109, .inr (2, [.ref (q 110), .int 0, .int 0])),
  (q 110, .inl (g 0, 108, .inl (fun _ => 0))),
  (q 111, .inr (2, [.ref (q 112), .int 0, .int 0])),
  (q 112, .inl (g 0, 68, .inl (fun _ => 0))),
  (q 113, .inr (3, [.ref (q 114), .int 0, .int 1])),
  (q 114, .inr (2, [.ref (q 115), .int 0, .int 0])),
  (q 115, .inl (g 0, 108, .inl (fun _ => 0)))]
def y_NH_init : MethodName := ⟨"NumberHouse", "<init>", "()V"⟩


set_option maxRecDepth 100000 in
set_option maxHeartbeats 4000000 in
/-- new NumberHouse() -/
theorem c_NH_init (l : Launch) (D : va_G) (g : Nat → ClassId) (ws : va_W) ( qO0 : Nat) (hN : ws.length = 1) (hO0 : ws[0]? = (some (qO0, .inr (0, [.null, .null, .null, .null, .null, .null, .null, .null, .null, .null, .null, .null, .null, .null])) : Option (Nat × va_E))) : q_mV l y_NH_init prog_1_method_1_code 2 5 115 7767 D g [.ref qO0] ws (fun u => ∃ q : Nat → Nat, q 0 = qO0 ∧ q_fl u 0 (nh_w g q) ∧ u.length = 116) := by
  intro sz
  refine q_into (by decide) (Nat.le_of_ble_eq_true rfl) ?_
  intro p e s m below meth c ls hsz C0 V hl
  have hx := C0.1
  have hb := C0.2.1
  have hl : lv_has ls 2 [(0, .ref qO0)] := hl
  refine lv_aload_n hx hb d_1_1_0 rfl (lv_at hl 0 rfl) ?_
  refine q_obj C0 hl.1 rfl w_43 w_44 w_45 ⟨by decide, by decide⟩ d_1_1_1 ?_
  refine lv_aload_n hx hb d_1_1_4 rfl (lv_at hl 0 rfl) ?_
  refine q_new (ci := 1) (fs := [.null, .int 0, .int 0]) C0 V hN i_She o_She rfl w_46 w_47 w_2 rfl (fun j hj => by rcases (show j = 0 ∨ j = 1 ∨ j = 2 by omega) with rfl | rfl | rfl <;> rfl) (Nat.le_of_ble_eq_true rfl) (Nat.le_of_ble_eq_true rfl) d_1_1_5 (fun q1 H w2 hu3 hn4 hN V => ?_)
  have hn0 : w2[1]? = (some (q1, .inr (1, [.null, .int 0, .int 0])) : Option (Nat × va_E)) := hn4
  replace hN : w2.length = 2 := hN
  refine lv_dup hx hb d_1_1_8 rfl ?_
  refine lv_sipush (v := 4100) hx hb d_1_1_9 (by decide) ?_
  refine q_gov V (q_runI (As := [.int 4100]) (rest := [.ref q1, .ref qO0]) (d := 2) (mc := 1) (ms := 513) C0 V rfl LI_NH_11 (c_She_init l D g w2 1 q1 2 hN hn0 _) rfl hl.1 rfl (Nat.le_of_ble_eq_true rfl) ⟨by decide, by decide⟩ ⟨Nat.le_of_ble_eq_true rfl, Nat.le_of_ble_eq_true rfl⟩ d_1_1_12) (fun u6 H locs hp5 V => ?_)
  obtain ⟨q7, hg8, hn0, hq9, hN⟩ := hp5
  have hn1 : u6[2]? = (some (q7, .inl (g 1, 513, .inr (.inl (fun _ => 0)))) : Option (Nat × va_E)) := hq9
  replace hN : u6.length = 3 := hN
  replace hO0 := (hg8 _ (q_nc (q_pd 0 1 rfl) (q_nc (q_pd 0 2 rfl) List.not_mem_nil))).trans ((hu3 _ (q_pd 0 1 rfl)).trans (hO0))
  have ho12 := hO0
  refine q_putF (ci := 0) (j := 0) (v := .ref q1) (ty := .object "NumberHouse$Sheet") C0 V i_NH o_NH n_NH rfl rfl rfl rfl rfl hO0 (by decide) w_424 rfl rfl rfl (Nat.le_of_ble_eq_true rfl) d_1_1_15 (fun H locs w10 hu11 hO0 V => ?_)
  replace hO0 : w10[0]? = (some (qO0, .inr (0, [.ref q1, .null, .null, .null, .null, .null, .null, .null, .null, .null, .null, .null, .null, .null])) : Option (Nat × va_E)) := hO0
  replace hN : w10.length = 3 := (q_len1 hu11 hO0 ho12).trans hN
  refine lv_aload_n hx hb d_1_1_18 rfl (lv_at hl 0 rfl) ?_
  refine q_new (ci := 1) (fs := [.null, .int 0, .int 0]) C0 V hN i_She o_She rfl w_46 w_47 w_2 rfl (fun j hj => by rcases (show j = 0 ∨ j = 1 ∨ j = 2 by omega) with rfl | rfl | rfl <;> rfl) (Nat.le_of_ble_eq_true rfl) (Nat.le_of_ble_eq_true rfl) d_1_1_19 (fun q13 H w14 hu15 hn16 hN V => ?_)
  have hn2 : w14[3]? = (some (q13, .inr (1, [.null, .int 0, .int 0])) : Option (Nat × va_E)) := hn16
  replace hN : w14.length = 4 := hN
  refine lv_dup hx hb d_1_1_22 rfl ?_
  refine lv_sipush (v := 11008) hx hb d_1_1_23 (by decide) ?_
  refine q_gov V (q_runI (As := [.int 11008]) (rest := [.ref q13, .ref qO0]) (d := 2) (mc := 1) (ms := 1376) C0 V rfl LI_NH_11 (c_She_init_2 l D g w14 3 q13 4 hN hn2 _) rfl hl.1 rfl (Nat.le_of_ble_eq_true rfl) ⟨by decide, by decide⟩ ⟨Nat.le_of_ble_eq_true rfl, Nat.le_of_ble_eq_true rfl⟩ d_1_1_26) (fun u18 H locs hp17 V => ?_)
  obtain ⟨q19, hg20, hn2, hq21, hN⟩ := hp17
  have hn3 : u18[4]? = (some (q19, .inl (g 1, 1376, .inr (.inl (fun _ => 0)))) : Option (Nat × va_E)) := hq21
  replace hN : u18.length = 5 := hN
  replace hO0 := (hg20 _ (q_nc (q_pd 0 3 rfl) (q_nc (q_pd 0 4 rfl) List.not_mem_nil))).trans ((hu15 _ (q_pd 0 3 rfl)).trans (hO0))
  have ho24 := hO0
  refine q_putF (ci := 0) (j := 1) (v := .ref q13) (ty := .object "NumberHouse$Sheet") C0 V i_NH o_NH n_NH rfl rfl rfl rfl rfl hO0 (by decide) w_425 rfl rfl rfl (Nat.le_of_ble_eq_true rfl) d_1_1_29 (fun H locs w22 hu23 hO0 V => ?_)
  replace hO0 : w22[0]? = (some (qO0, .inr (0, [.ref q1, .ref q13, .null, .null, .null, .null, .null, .null, .null, .null, .null, .null, .null, .null])) : Option (Nat × va_E)) := hO0
  replace hN : w22.length = 5 := (q_len1 hu23 hO0 ho24).trans hN
  refine lv_aload_n hx hb d_1_1_32 rfl (lv_at hl 0 rfl) ?_
  refine lv_bipush (v := 10) hx hb d_1_1_33 (by decide) ?_
  refine q_newQ (t := 4) (E := "NumberHouse$Big") (N' := 10) C0 V hN rfl w_68 wo_69 rfl (by decide) (by decide) (by decide) (Nat.le_of_ble_eq_true rfl) (Nat.le_of_ble_eq_true rfl) d_1_1_35 (fun q25 H w26 hu27 hn28 hN V => ?_)
  have hn4 : w26[5]? = (some (q25, .inl (g 4, 10, .inr (.inr (.inr (.inr (fun _ => none)))))) : Option (Nat × va_E)) := hn28
  replace hN : w26.length = 6 := hN
  replace hO0 := (hu27 _ (q_pd 0 5 rfl)).trans (hO0)
  have ho31 := hO0
  refine q_putF (ci := 0) (j := 2) (v := .ref q25) (ty := .array (.object "NumberHouse$Big")) C0 V i_NH o_NH n_NH rfl rfl rfl rfl rfl hO0 (by decide) w_426 rfl rfl rfl (Nat.le_of_ble_eq_true rfl) d_1_1_38 (fun H locs w29 hu30 hO0 V => ?_)
  replace hO0 : w29[0]? = (some (qO0, .inr (0, [.ref q1, .ref q13, .ref q25, .null, .null, .null, .null, .null, .null, .null, .null, .null, .null, .null])) : Option (Nat × va_E)) := hO0
  replace hN : w29.length = 6 := (q_len1 hu30 hO0 ho31).trans hN
  refine lv_aload_n hx hb d_1_1_41 rfl (lv_at hl 0 rfl) ?_
  refine lv_bipush (v := 10) hx hb d_1_1_42 (by decide) ?_
  refine q_newQ (t := 5) (E := "NumberHouse$Dec") (N' := 10) C0 V hN rfl w_70 wo_71 rfl (by decide) (by decide) (by decide) (Nat.le_of_ble_eq_true rfl) (Nat.le_of_ble_eq_true rfl) d_1_1_44 (fun q32 H w33 hu34 hn35 hN V => ?_)
  have hn5 : w33[6]? = (some (q32, .inl (g 5, 10, .inr (.inr (.inr (.inr (fun _ => none)))))) : Option (Nat × va_E)) := hn35
  replace hN : w33.length = 7 := hN
  replace hO0 := (hu34 _ (q_pd 0 6 rfl)).trans (hO0)
  have ho38 := hO0
  refine q_putF (ci := 0) (j := 3) (v := .ref q32) (ty := .array (.object "NumberHouse$Dec")) C0 V i_NH o_NH n_NH rfl rfl rfl rfl rfl hO0 (by decide) w_427 rfl rfl rfl (Nat.le_of_ble_eq_true rfl) d_1_1_47 (fun H locs w36 hu37 hO0 V => ?_)
  replace hO0 : w36[0]? = (some (qO0, .inr (0, [.ref q1, .ref q13, .ref q25, .ref q32, .null, .null, .null, .null, .null, .null, .null, .null, .null, .null])) : Option (Nat × va_E)) := hO0
  replace hN : w36.length = 7 := (q_len1 hu37 hO0 ho38).trans hN
  refine lv_aload_n hx hb d_1_1_50 rfl (lv_at hl 0 rfl) ?_
  refine lv_bipush (v := 10) hx hb d_1_1_51 (by decide) ?_
  refine q_newL (N' := 10) C0 V hN w_67 (by decide) (by decide) (by decide) (Nat.le_of_ble_eq_true rfl) (Nat.le_of_ble_eq_true rfl) d_1_1_53 (fun q39 H w40 hu41 hn42 hN V => ?_)
  have hn6 : w40[7]? = (some (q39, .inl (g 1, 10, .inr (.inl (fun _ => 0)))) : Option (Nat × va_E)) := hn42
  replace hN : w40.length = 8 := hN
  replace hO0 := (hu41 _ (q_pd 0 7 rfl)).trans (hO0)
  have ho45 := hO0
  refine q_putF (ci := 0) (j := 4) (v := .ref q39) (ty := .array .long) C0 V i_NH o_NH n_NH rfl rfl rfl rfl rfl hO0 (by decide) w_428 rfl rfl rfl (Nat.le_of_ble_eq_true rfl) d_1_1_55 (fun H locs w43 hu44 hO0 V => ?_)
  replace hO0 : w43[0]? = (some (qO0, .inr (0, [.ref q1, .ref q13, .ref q25, .ref q32, .ref q39, .null, .null, .null, .null, .null, .null, .null, .null, .null])) : Option (Nat × va_E)) := hO0
  replace hN : w43.length = 8 := (q_len1 hu44 hO0 ho45).trans hN
  refine lv_aload_n hx hb d_1_1_58 rfl (lv_at hl 0 rfl) ?_
  refine lv_bipush (v := 10) hx hb d_1_1_59 (by decide) ?_
  refine q_newL (N' := 10) C0 V hN w_67 (by decide) (by decide) (by decide) (Nat.le_of_ble_eq_true rfl) (Nat.le_of_ble_eq_true rfl) d_1_1_61 (fun q46 H w47 hu48 hn49 hN V => ?_)
  have hn7 : w47[8]? = (some (q46, .inl (g 1, 10, .inr (.inl (fun _ => 0)))) : Option (Nat × va_E)) := hn49
  replace hN : w47.length = 9 := hN
  replace hO0 := (hu48 _ (q_pd 0 8 rfl)).trans (hO0)
  have ho52 := hO0
  refine q_putF (ci := 0) (j := 5) (v := .ref q46) (ty := .array .long) C0 V i_NH o_NH n_NH rfl rfl rfl rfl rfl hO0 (by decide) w_429 rfl rfl rfl (Nat.le_of_ble_eq_true rfl) d_1_1_63 (fun H locs w50 hu51 hO0 V => ?_)
  replace hO0 : w50[0]? = (some (qO0, .inr (0, [.ref q1, .ref q13, .ref q25, .ref q32, .ref q39, .ref q46, .null, .null, .null, .null, .null, .null, .null, .null])) : Option (Nat × va_E)) := hO0
  replace hN : w50.length = 9 := (q_len1 hu51 hO0 ho52).trans hN
  refine lv_aload_n hx hb d_1_1_66 rfl (lv_at hl 0 rfl) ?_
  refine q_new (ci := 4) (fs := [.null, .null, .null, .null, .null, .null, .null, .null, .null, .null]) C0 V hN i_Mil o_Mil rfl w_72 w_73 w_3 rfl (fun j hj => by rcases (show j = 0 ∨ j = 1 ∨ j = 2 ∨ j = 3 ∨ j = 4 ∨ j = 5 ∨ j = 6 ∨ j = 7 ∨ j = 8 ∨ j = 9 by omega) with rfl | rfl | rfl | rfl | rfl | rfl | rfl | rfl | rfl | rfl <;> rfl) (Nat.le_of_ble_eq_true rfl) (Nat.le_of_ble_eq_true rfl) d_1_1_67 (fun q53 H w54 hu55 hn56 hN V => ?_)
  have hn8 : w54[9]? = (some (q53, .inr (4, [.null, .null, .null, .null, .null, .null, .null, .null, .null, .null])) : Option (Nat × va_E)) := hn56
  replace hN : w54.length = 10 := hN
  refine lv_dup hx hb d_1_1_70 rfl ?_
  refine q_gov V (q_runN (As := []) (rest := [.ref q53, .ref qO0]) (d := 3) (mc := 20) (ms := 2230) C0 V rfl LN_NH_42 (c_Mil_init l D g w54 q53 hN hn8 _) rfl hl.1 rfl (Nat.le_of_ble_eq_true rfl) ⟨by decide, by decide⟩ ⟨Nat.le_of_ble_eq_true rfl, Nat.le_of_ble_eq_true rfl⟩ d_1_1_71) (fun u58 H locs hp57 V => ?_)
  obtain ⟨q59, q60, q61, q62, q63, q64, q65, q66, q67, q68, q69, q70, q71, q72, q73, q74, q75, q76, q77, q78, hg79, hn8, hq80, hq81, hq82, hq83, hq84, hq85, hq86, hq87, hq88, hq89, hq90, hq91, hq92, hq93, hq94, hq95, hq96, hq97, hq98, hq99, hN⟩ := hp57
  have hn9 : u58[10]? = (some (q59, .inr (2, [.ref q60, .int 0, .int 0])) : Option (Nat × va_E)) := hq80
  have hn10 : u58[11]? = (some (q60, .inl (g 0, 220, .inl (fun _ => 0))) : Option (Nat × va_E)) := hq81
  have hn11 : u58[12]? = (some (q61, .inr (2, [.ref q62, .int 0, .int 0])) : Option (Nat × va_E)) := hq82
  have hn12 : u58[13]? = (some (q62, .inl (g 0, 220, .inl (fun _ => 0))) : Option (Nat × va_E)) := hq83
  have hn13 : u58[14]? = (some (q63, .inr (2, [.ref q64, .int 0, .int 0])) : Option (Nat × va_E)) := hq84
  have hn14 : u58[15]? = (some (q64, .inl (g 0, 220, .inl (fun _ => 0))) : Option (Nat × va_E)) := hq85
  have hn15 : u58[16]? = (some (q65, .inr (2, [.ref q66, .int 0, .int 0])) : Option (Nat × va_E)) := hq86
  have hn16 : u58[17]? = (some (q66, .inl (g 0, 220, .inl (fun _ => 0))) : Option (Nat × va_E)) := hq87
  have hn17 : u58[18]? = (some (q67, .inr (2, [.ref q68, .int 0, .int 0])) : Option (Nat × va_E)) := hq88
  have hn18 : u58[19]? = (some (q68, .inl (g 0, 220, .inl (fun _ => 0))) : Option (Nat × va_E)) := hq89
  have hn19 : u58[20]? = (some (q69, .inr (2, [.ref q70, .int 0, .int 0])) : Option (Nat × va_E)) := hq90
  have hn20 : u58[21]? = (some (q70, .inl (g 0, 220, .inl (fun _ => 0))) : Option (Nat × va_E)) := hq91
  have hn21 : u58[22]? = (some (q71, .inr (2, [.ref q72, .int 0, .int 0])) : Option (Nat × va_E)) := hq92
  have hn22 : u58[23]? = (some (q72, .inl (g 0, 220, .inl (fun _ => 0))) : Option (Nat × va_E)) := hq93
  have hn23 : u58[24]? = (some (q73, .inr (2, [.ref q74, .int 0, .int 0])) : Option (Nat × va_E)) := hq94
  have hn24 : u58[25]? = (some (q74, .inl (g 0, 220, .inl (fun _ => 0))) : Option (Nat × va_E)) := hq95
  have hn25 : u58[26]? = (some (q75, .inr (2, [.ref q76, .int 0, .int 0])) : Option (Nat × va_E)) := hq96
  have hn26 : u58[27]? = (some (q76, .inl (g 0, 220, .inl (fun _ => 0))) : Option (Nat × va_E)) := hq97
  have hn27 : u58[28]? = (some (q77, .inr (2, [.ref q78, .int 0, .int 0])) : Option (Nat × va_E)) := hq98
  have hn28 : u58[29]? = (some (q78, .inl (g 0, 220, .inl (fun _ => 0))) : Option (Nat × va_E)) := hq99
  replace hN : u58.length = 30 := hN
  replace hO0 := (hg79 _ (q_nc (q_pd 0 9 rfl) (q_nc (q_pd 0 10 rfl) (q_nc (q_pd 0 11 rfl) (q_nc (q_pd 0 12 rfl) (q_nc (q_pd 0 13 rfl) (q_nc (q_pd 0 14 rfl) (q_nc (q_pd 0 15 rfl) (q_nc (q_pd 0 16 rfl) (q_nc (q_pd 0 17 rfl) (q_nc (q_pd 0 18 rfl) (q_nc (q_pd 0 19 rfl) (q_nc (q_pd 0 20 rfl) (q_nc (q_pd 0 21 rfl) (q_nc (q_pd 0 22 rfl) (q_nc (q_pd 0 23 rfl) (q_nc (q_pd 0 24 rfl) (q_nc (q_pd 0 25 rfl) (q_nc (q_pd 0 26 rfl) (q_nc (q_pd 0 27 rfl) (q_nc (q_pd 0 28 rfl) (q_nc (q_pd 0 29 rfl) List.not_mem_nil)))))))))))))))))))))).trans ((hu55 _ (q_pd 0 9 rfl)).trans (hO0))
  have ho102 := hO0
  refine q_putF (ci := 0) (j := 6) (v := .ref q53) (ty := .object "NumberHouse$Mill") C0 V i_NH o_NH n_NH rfl rfl rfl rfl rfl hO0 (by decide) w_430 rfl rfl rfl (Nat.le_of_ble_eq_true rfl) d_1_1_74 (fun H locs w100 hu101 hO0 V => ?_)
  replace hO0 : w100[0]? = (some (qO0, .inr (0, [.ref q1, .ref q13, .ref q25, .ref q32, .ref q39, .ref q46, .ref q53, .null, .null, .null, .null, .null, .null, .null])) : Option (Nat × va_E)) := hO0
  replace hN : w100.length = 30 := (q_len1 hu101 hO0 ho102).trans hN
  refine lv_aload_n hx hb d_1_1_77 rfl (lv_at hl 0 rfl) ?_
  refine q_new (ci := 5) (fs := [.null, .long 0, .null, .int 0]) C0 V hN i_DW o_DW rfl w_156 w_157 w_5 rfl (fun j hj => by rcases (show j = 0 ∨ j = 1 ∨ j = 2 ∨ j = 3 by omega) with rfl | rfl | rfl | rfl <;> rfl) (Nat.le_of_ble_eq_true rfl) (Nat.le_of_ble_eq_true rfl) d_1_1_78 (fun q103 H w104 hu105 hn106 hN V => ?_)
  have hn29 : w104[30]? = (some (q103, .inr (5, [.null, .long 0, .null, .int 0])) : Option (Nat × va_E)) := hn106
  replace hN : w104.length = 31 := hN
  refine lv_dup hx hb d_1_1_81 rfl ?_
  refine lv_aload_n hx hb d_1_1_82 rfl (lv_at hl 0 rfl) ?_
  replace hO0 := (hu105 _ (q_pd 0 30 rfl)).trans (hO0)
  refine q_get (ci := 0) (j := 6) (v := .ref q53) C0 V i_NH rfl rfl hO0 (by decide) w_430 rfl d_1_1_83 ?_
  refine q_gov V (q_runI (As := [.ref q53]) (rest := [.ref q103, .ref qO0]) (d := 4) (mc := 3) (ms := 9) C0 V rfl LI_NH_49 (c_DW_init l D g w104 q103 q53 hN hn29 _) rfl hl.1 rfl (Nat.le_of_ble_eq_true rfl) ⟨by decide, by decide⟩ ⟨Nat.le_of_ble_eq_true rfl, Nat.le_of_ble_eq_true rfl⟩ d_1_1_86) (fun u108 H locs hp107 V => ?_)
  obtain ⟨q109, q110, q111, hg112, hn29, hq113, hq114, hq115, hN⟩ := hp107
  have hn30 : u108[31]? = (some (q109, .inr (3, [.ref q110, .int 0, .int 1])) : Option (Nat × va_E)) := hq113
  have hn31 : u108[32]? = (some (q110, .inr (2, [.ref q111, .int 1, .int 0])) : Option (Nat × va_E)) := hq114
  have hn32 : u108[33]? = (some (q111, .inl (g 0, 3, .inl (upd (fun _ => 0) 0 1))) : Option (Nat × va_E)) := hq115
  replace hN : u108.length = 34 := hN
  replace hO0 := (hg112 _ (q_nc (q_pd 0 30 rfl) (q_nc (q_pd 0 31 rfl) (q_nc (q_pd 0 32 rfl) (q_nc (q_pd 0 33 rfl) List.not_mem_nil))))).trans (hO0)
  have ho118 := hO0
  refine q_putF (ci := 0) (j := 7) (v := .ref q103) (ty := .object "NumberHouse$DecimalWork") C0 V i_NH o_NH n_NH rfl rfl rfl rfl rfl hO0 (by decide) w_431 rfl rfl rfl (Nat.le_of_ble_eq_true rfl) d_1_1_89 (fun H locs w116 hu117 hO0 V => ?_)
  replace hO0 : w116[0]? = (some (qO0, .inr (0, [.ref q1, .ref q13, .ref q25, .ref q32, .ref q39, .ref q46, .ref q53, .ref q103, .null, .null, .null, .null, .null, .null])) : Option (Nat × va_E)) := hO0
  replace hN : w116.length = 34 := (q_len1 hu117 hO0 ho118).trans hN
  refine lv_aload_n hx hb d_1_1_92 rfl (lv_at hl 0 rfl) ?_
  refine q_new (ci := 6) (fs := [.int 0, .int 0, .int 0, .long 0, .int 0, .null, .int 0]) C0 V hN i_Flo o_Flo rfl w_225 w_226 w_8 rfl (fun j hj => by rcases (show j = 0 ∨ j = 1 ∨ j = 2 ∨ j = 3 ∨ j = 4 ∨ j = 5 ∨ j = 6 by omega) with rfl | rfl | rfl | rfl | rfl | rfl | rfl <;> rfl) (Nat.le_of_ble_eq_true rfl) (Nat.le_of_ble_eq_true rfl) d_1_1_93 (fun q119 H w120 hu121 hn122 hN V => ?_)
  have hn33 : w120[34]? = (some (q119, .inr (6, [.int 0, .int 0, .int 0, .long 0, .int 0, .null, .int 0])) : Option (Nat × va_E)) := hn122
  replace hN : w120.length = 35 := hN
  refine lv_dup hx hb d_1_1_96 rfl ?_
  refine lv_bipush (v := 52) hx hb d_1_1_97 (by decide) ?_
  refine lv_sipush (v := 1075) hx hb d_1_1_99 (by decide) ?_
  refine lv_sipush (v := 2047) hx hb d_1_1_102 (by decide) ?_
  refine lv_aload_n hx hb d_1_1_105 rfl (lv_at hl 0 rfl) ?_
  replace hO0 := (hu121 _ (q_pd 0 34 rfl)).trans (hO0)
  refine q_get (ci := 0) (j := 6) (v := .ref q53) C0 V i_NH rfl rfl hO0 (by decide) w_430 rfl d_1_1_106 ?_
  refine q_gov V (q_runI (As := [.int 52, .int 1075, .int 2047, .ref q53]) (rest := [.ref q119, .ref qO0]) (d := 2) (mc := 0) (ms := 0) C0 V rfl LI_NH_58 (c_Flo_init l D g w120 q119 q53 hN hn33 _) rfl hl.1 rfl (Nat.le_of_ble_eq_true rfl) ⟨by decide, by decide⟩ ⟨Nat.le_of_ble_eq_true rfl, Nat.le_of_ble_eq_true rfl⟩ d_1_1_109) (fun u124 H locs hp123 V => ?_)
  obtain ⟨hg125, hn33, hN⟩ := hp123
  replace hN : u124.length = 35 := hN
  replace hO0 := (hg125 _ (q_nc (q_pd 0 34 rfl) List.not_mem_nil)).trans (hO0)
  have ho128 := hO0
  refine q_putF (ci := 0) (j := 8) (v := .ref q119) (ty := .object "NumberHouse$Floats") C0 V i_NH o_NH n_NH rfl rfl rfl rfl rfl hO0 (by decide) w_432 rfl rfl rfl (Nat.le_of_ble_eq_true rfl) d_1_1_112 (fun H locs w126 hu127 hO0 V => ?_)
  replace hO0 : w126[0]? = (some (qO0, .inr (0, [.ref q1, .ref q13, .ref q25, .ref q32, .ref q39, .ref q46, .ref q53, .ref q103, .ref q119, .null, .null, .null, .null, .null])) : Option (Nat × va_E)) := hO0
  replace hN : w126.length = 35 := (q_len1 hu127 hO0 ho128).trans hN
  refine lv_aload_n hx hb d_1_1_115 rfl (lv_at hl 0 rfl) ?_
  refine q_new (ci := 6) (fs := [.int 0, .int 0, .int 0, .long 0, .int 0, .null, .int 0]) C0 V hN i_Flo o_Flo rfl w_225 w_226 w_8 rfl (fun j hj => by rcases (show j = 0 ∨ j = 1 ∨ j = 2 ∨ j = 3 ∨ j = 4 ∨ j = 5 ∨ j = 6 by omega) with rfl | rfl | rfl | rfl | rfl | rfl | rfl <;> rfl) (Nat.le_of_ble_eq_true rfl) (Nat.le_of_ble_eq_true rfl) d_1_1_116 (fun q129 H w130 hu131 hn132 hN V => ?_)
  have hn34 : w130[35]? = (some (q129, .inr (6, [.int 0, .int 0, .int 0, .long 0, .int 0, .null, .int 0])) : Option (Nat × va_E)) := hn132
  replace hN : w130.length = 36 := hN
  refine lv_dup hx hb d_1_1_119 rfl ?_
  refine lv_bipush (v := 23) hx hb d_1_1_120 (by decide) ?_
  refine lv_sipush (v := 150) hx hb d_1_1_122 (by decide) ?_
  refine lv_sipush (v := 255) hx hb d_1_1_125 (by decide) ?_
  refine lv_aload_n hx hb d_1_1_128 rfl (lv_at hl 0 rfl) ?_
  replace hO0 := (hu131 _ (q_pd 0 35 rfl)).trans (hO0)
  refine q_get (ci := 0) (j := 6) (v := .ref q53) C0 V i_NH rfl rfl hO0 (by decide) w_430 rfl d_1_1_129 ?_
  refine q_gov V (q_runI (As := [.int 23, .int 150, .int 255, .ref q53]) (rest := [.ref q129, .ref qO0]) (d := 2) (mc := 0) (ms := 0) C0 V rfl LI_NH_58 (c_Flo_init_2 l D g w130 q129 q53 hN hn34 _) rfl hl.1 rfl (Nat.le_of_ble_eq_true rfl) ⟨by decide, by decide⟩ ⟨Nat.le_of_ble_eq_true rfl, Nat.le_of_ble_eq_true rfl⟩ d_1_1_132) (fun u134 H locs hp133 V => ?_)
  obtain ⟨hg135, hn34, hN⟩ := hp133
  replace hN : u134.length = 36 := hN
  replace hO0 := (hg135 _ (q_nc (q_pd 0 35 rfl) List.not_mem_nil)).trans (hO0)
  have ho138 := hO0
  refine q_putF (ci := 0) (j := 9) (v := .ref q129) (ty := .object "NumberHouse$Floats") C0 V i_NH o_NH n_NH rfl rfl rfl rfl rfl hO0 (by decide) w_433 rfl rfl rfl (Nat.le_of_ble_eq_true rfl) d_1_1_135 (fun H locs w136 hu137 hO0 V => ?_)
  replace hO0 : w136[0]? = (some (qO0, .inr (0, [.ref q1, .ref q13, .ref q25, .ref q32, .ref q39, .ref q46, .ref q53, .ref q103, .ref q119, .ref q129, .null, .null, .null, .null])) : Option (Nat × va_E)) := hO0
  replace hN : w136.length = 36 := (q_len1 hu137 hO0 ho138).trans hN
  refine lv_aload_n hx hb d_1_1_138 rfl (lv_at hl 0 rfl) ?_
  refine q_new (ci := 7) (fs := [.int 0, .int 0, .null]) C0 V hN i_Dig o_Dig rfl w_258 w_259 w_9 rfl (fun j hj => by rcases (show j = 0 ∨ j = 1 ∨ j = 2 by omega) with rfl | rfl | rfl <;> rfl) (Nat.le_of_ble_eq_true rfl) (Nat.le_of_ble_eq_true rfl) d_1_1_139 (fun q139 H w140 hu141 hn142 hN V => ?_)
  have hn35 : w140[36]? = (some (q139, .inr (7, [.int 0, .int 0, .null])) : Option (Nat × va_E)) := hn142
  replace hN : w140.length = 37 := hN
  refine lv_dup hx hb d_1_1_142 rfl ?_
  refine q_gov V (q_runN (As := []) (rest := [.ref q139, .ref qO0]) (d := 2) (mc := 1) (ms := 1026) C0 V rfl LN_NH_70 (c_Dig_init l D g w140 q139 hN hn35 _) rfl hl.1 rfl (Nat.le_of_ble_eq_true rfl) ⟨by decide, by decide⟩ ⟨Nat.le_of_ble_eq_true rfl, Nat.le_of_ble_eq_true rfl⟩ d_1_1_143) (fun u144 H locs hp143 V => ?_)
  obtain ⟨q145, hg146, hn35, hq147, hN⟩ := hp143
  have hn36 : u144[37]? = (some (q145, .inl (g 2, 1026, .inl (fun _ => 0))) : Option (Nat × va_E)) := hq147
  replace hN : u144.length = 38 := hN
  replace hO0 := (hg146 _ (q_nc (q_pd 0 36 rfl) (q_nc (q_pd 0 37 rfl) List.not_mem_nil))).trans ((hu141 _ (q_pd 0 36 rfl)).trans (hO0))
  have ho150 := hO0
  refine q_putF (ci := 0) (j := 10) (v := .ref q139) (ty := .object "NumberHouse$Digits") C0 V i_NH o_NH n_NH rfl rfl rfl rfl rfl hO0 (by decide) w_434 rfl rfl rfl (Nat.le_of_ble_eq_true rfl) d_1_1_146 (fun H locs w148 hu149 hO0 V => ?_)
  replace hO0 : w148[0]? = (some (qO0, .inr (0, [.ref q1, .ref q13, .ref q25, .ref q32, .ref q39, .ref q46, .ref q53, .ref q103, .ref q119, .ref q129, .ref q139, .null, .null, .null])) : Option (Nat × va_E)) := hO0
  replace hN : w148.length = 38 := (q_len1 hu149 hO0 ho150).trans hN
  refine lv_aload_n hx hb d_1_1_149 rfl (lv_at hl 0 rfl) ?_
  refine q_new (ci := 8) (fs := [.long 0, .long 0, .null, .null, .int 0, .int 0, .int 0, .int 0, .int 0, .int 0, .int 0, .long 0]) C0 V hN i_Rea o_Rea rfl w_278 w_279 w_10 rfl (fun j hj => by rcases (show j = 0 ∨ j = 1 ∨ j = 2 ∨ j = 3 ∨ j = 4 ∨ j = 5 ∨ j = 6 ∨ j = 7 ∨ j = 8 ∨ j = 9 ∨ j = 10 ∨ j = 11 by omega) with rfl | rfl | rfl | rfl | rfl | rfl | rfl | rfl | rfl | rfl | rfl | rfl <;> rfl) (Nat.le_of_ble_eq_true rfl) (Nat.le_of_ble_eq_true rfl) d_1_1_150 (fun q151 H w152 hu153 hn154 hN V => ?_)
  have hn37 : w152[38]? = (some (q151, .inr (8, [.long 0, .long 0, .null, .null, .int 0, .int 0, .int 0, .int 0, .int 0, .int 0, .int 0, .long 0])) : Option (Nat × va_E)) := hn154
  replace hN : w152.length = 39 := hN
  refine lv_dup hx hb d_1_1_153 rfl ?_
  refine lv_aload_n hx hb d_1_1_154 rfl (lv_at hl 0 rfl) ?_
  replace hO0 := (hu153 _ (q_pd 0 38 rfl)).trans (hO0)
  refine q_get (ci := 0) (j := 0) (v := .ref q1) C0 V i_NH rfl rfl hO0 (by decide) w_424 rfl d_1_1_155 ?_
  refine lv_aload_n hx hb d_1_1_158 rfl (lv_at hl 0 rfl) ?_
  refine q_get (ci := 0) (j := 6) (v := .ref q53) C0 V i_NH rfl rfl hO0 (by decide) w_430 rfl d_1_1_159 ?_
  refine q_gov V (q_runI (As := [.ref q1, .ref q53]) (rest := [.ref q151, .ref qO0]) (d := 2) (mc := 0) (ms := 0) C0 V rfl LI_NH_77 (c_Rea_init l D g w152 q151 q1 q53 hN hn37 _) rfl hl.1 rfl (Nat.le_of_ble_eq_true rfl) ⟨by decide, by decide⟩ ⟨Nat.le_of_ble_eq_true rfl, Nat.le_of_ble_eq_true rfl⟩ d_1_1_162) (fun u156 H locs hp155 V => ?_)
  obtain ⟨hg157, hn37, hN⟩ := hp155
  replace hN : u156.length = 39 := hN
  replace hO0 := (hg157 _ (q_nc (q_pd 0 38 rfl) List.not_mem_nil)).trans (hO0)
  have ho160 := hO0
  refine q_putF (ci := 0) (j := 11) (v := .ref q151) (ty := .object "NumberHouse$Reader") C0 V i_NH o_NH n_NH rfl rfl rfl rfl rfl hO0 (by decide) w_435 rfl rfl rfl (Nat.le_of_ble_eq_true rfl) d_1_1_165 (fun H locs w158 hu159 hO0 V => ?_)
  replace hO0 : w158[0]? = (some (qO0, .inr (0, [.ref q1, .ref q13, .ref q25, .ref q32, .ref q39, .ref q46, .ref q53, .ref q103, .ref q119, .ref q129, .ref q139, .ref q151, .null, .null])) : Option (Nat × va_E)) := hO0
  replace hN : w158.length = 39 := (q_len1 hu159 hO0 ho160).trans hN
  refine lv_aload_n hx hb d_1_1_168 rfl (lv_at hl 0 rfl) ?_
  refine q_new (ci := 9) (fs := [.null, .null, .null]) C0 V hN i_Wri o_Wri rfl w_323 w_324 w_11 rfl (fun j hj => by rcases (show j = 0 ∨ j = 1 ∨ j = 2 by omega) with rfl | rfl | rfl <;> rfl) (Nat.le_of_ble_eq_true rfl) (Nat.le_of_ble_eq_true rfl) d_1_1_169 (fun q161 H w162 hu163 hn164 hN V => ?_)
  have hn38 : w162[39]? = (some (q161, .inr (9, [.null, .null, .null])) : Option (Nat × va_E)) := hn164
  replace hN : w162.length = 40 := hN
  refine lv_dup hx hb d_1_1_172 rfl ?_
  refine lv_aload_n hx hb d_1_1_173 rfl (lv_at hl 0 rfl) ?_
  replace hO0 := (hu163 _ (q_pd 0 39 rfl)).trans (hO0)
  refine q_get (ci := 0) (j := 1) (v := .ref q13) C0 V i_NH rfl rfl hO0 (by decide) w_425 rfl d_1_1_174 ?_
  refine lv_aload_n hx hb d_1_1_177 rfl (lv_at hl 0 rfl) ?_
  refine q_get (ci := 0) (j := 6) (v := .ref q53) C0 V i_NH rfl rfl hO0 (by decide) w_430 rfl d_1_1_178 ?_
  refine lv_aload_n hx hb d_1_1_181 rfl (lv_at hl 0 rfl) ?_
  refine q_get (ci := 0) (j := 10) (v := .ref q139) C0 V i_NH rfl rfl hO0 (by decide) w_434 rfl d_1_1_182 ?_
  refine q_gov V (q_runI (As := [.ref q13, .ref q53, .ref q139]) (rest := [.ref q161, .ref qO0]) (d := 2) (mc := 0) (ms := 0) C0 V rfl LI_NH_86 (c_Wri_init l D g w162 q161 q13 q53 q139 hN hn38 _) rfl hl.1 rfl (Nat.le_of_ble_eq_true rfl) ⟨by decide, by decide⟩ ⟨Nat.le_of_ble_eq_true rfl, Nat.le_of_ble_eq_true rfl⟩ d_1_1_185) (fun u166 H locs hp165 V => ?_)
  obtain ⟨hg167, hn38, hN⟩ := hp165
  replace hN : u166.length = 40 := hN
  replace hO0 := (hg167 _ (q_nc (q_pd 0 39 rfl) List.not_mem_nil)).trans (hO0)
  have ho170 := hO0
  refine q_putF (ci := 0) (j := 12) (v := .ref q161) (ty := .object "NumberHouse$Writer") C0 V i_NH o_NH n_NH rfl rfl rfl rfl rfl hO0 (by decide) w_436 rfl rfl rfl (Nat.le_of_ble_eq_true rfl) d_1_1_188 (fun H locs w168 hu169 hO0 V => ?_)
  replace hO0 : w168[0]? = (some (qO0, .inr (0, [.ref q1, .ref q13, .ref q25, .ref q32, .ref q39, .ref q46, .ref q53, .ref q103, .ref q119, .ref q129, .ref q139, .ref q151, .ref q161, .null])) : Option (Nat × va_E)) := hO0
  replace hN : w168.length = 40 := (q_len1 hu169 hO0 ho170).trans hN
  refine lv_aload_n hx hb d_1_1_191 rfl (lv_at hl 0 rfl) ?_
  refine q_new (ci := 11) (fs := [.int 0, .null, .null, .null, .null, .null, .null, .null, .null, .int 0, .int 0, .int 0]) C0 V hN i_Pri o_Pri rfl w_339 w_340 w_12 rfl (fun j hj => by rcases (show j = 0 ∨ j = 1 ∨ j = 2 ∨ j = 3 ∨ j = 4 ∨ j = 5 ∨ j = 6 ∨ j = 7 ∨ j = 8 ∨ j = 9 ∨ j = 10 ∨ j = 11 by omega) with rfl | rfl | rfl | rfl | rfl | rfl | rfl | rfl | rfl | rfl | rfl | rfl <;> rfl) (Nat.le_of_ble_eq_true rfl) (Nat.le_of_ble_eq_true rfl) d_1_1_192 (fun q171 H w172 hu173 hn174 hN V => ?_)
  have hn39 : w172[40]? = (some (q171, .inr (11, [.int 0, .null, .null, .null, .null, .null, .null, .null, .null, .int 0, .int 0, .int 0])) : Option (Nat × va_E)) := hn174
  replace hN : w172.length = 41 := hN
  refine lv_dup hx hb d_1_1_195 rfl ?_
  refine lv_aload_n hx hb d_1_1_196 rfl (lv_at hl 0 rfl) ?_
  replace hO0 := (hu173 _ (q_pd 0 40 rfl)).trans (hO0)
  refine q_get (ci := 0) (j := 0) (v := .ref q1) C0 V i_NH rfl rfl hO0 (by decide) w_424 rfl d_1_1_197 ?_
  refine lv_aload_n hx hb d_1_1_200 rfl (lv_at hl 0 rfl) ?_
  refine q_get (ci := 0) (j := 10) (v := .ref q139) C0 V i_NH rfl rfl hO0 (by decide) w_434 rfl d_1_1_201 ?_
  refine q_gov V (q_runI (As := [.ref q1, .ref q139]) (rest := [.ref q171, .ref qO0]) (d := 3) (mc := 25) (ms := 659) C0 V rfl LI_NH_95 (c_Pri_init l D g w172 q171 q1 q139 hN hn39 _) rfl hl.1 rfl (Nat.le_of_ble_eq_true rfl) ⟨by decide, by decide⟩ ⟨Nat.le_of_ble_eq_true rfl, Nat.le_of_ble_eq_true rfl⟩ d_1_1_204) (fun u176 H locs hp175 V => ?_)
  obtain ⟨q177, q178, q179, q180, q181, q182, q183, q184, q185, q186, q187, q188, q189, q190, q191, q192, q193, q194, q195, q196, q197, q198, q199, q200, q201, hg202, hn39, hq203, hq204, hq205, hq206, hq207, hq208, hq209, hq210, hq211, hq212, hq213, hq214, hq215, hq216, hq217, hq218, hq219, hq220, hq221, hq222, hq223, hq224, hq225, hq226, hq227, hN⟩ := hp175
  have hn40 : u176[41]? = (some (q177, .inl (g 0, 9, .inl (fun _ => 0))) : Option (Nat × va_E)) := hq203
  have hn41 : u176[42]? = (some (q178, .inl (g 1, 9, .inr (.inl (fun _ => 0)))) : Option (Nat × va_E)) := hq204
  have hn42 : u176[43]? = (some (q179, .inl (g 0, 9, .inl (fun _ => 0))) : Option (Nat × va_E)) := hq205
  have hn43 : u176[44]? = (some (q180, .inl (g 6, 9, .inr (.inr (.inr (.inr (va_up (va_up (va_up (va_up (va_up (va_up (va_up (va_up (va_up (fun _ => none) 0 (some q184)) 1 (some q186)) 2 (some q188)) 3 (some q190)) 4 (some q192)) 5 (some q194)) 6 (some q196)) 7 (some q198)) 8 (some q200))))))) : Option (Nat × va_E)) := hq206
  have hn44 : u176[45]? = (some (q181, .inr (1, [.ref q182, .int 4104, .int 0])) : Option (Nat × va_E)) := hq207
  have hn45 : u176[46]? = (some (q182, .inl (g 1, 513, .inr (.inl (fun _ => 0)))) : Option (Nat × va_E)) := hq208
  have hn46 : u176[47]? = (some (q183, .inr (10, [.int 0, .int 0, .int 0, .int 0, .int 0, .int 0, .ref q1, .int 0])) : Option (Nat × va_E)) := hq209
  have hn47 : u176[48]? = (some (q184, .inr (1, [.ref q185, .int 64, .int 0])) : Option (Nat × va_E)) := hq210
  have hn48 : u176[49]? = (some (q185, .inl (g 1, 8, .inr (.inl (fun _ => 0)))) : Option (Nat × va_E)) := hq211
  have hn49 : u176[50]? = (some (q186, .inr (1, [.ref q187, .int 64, .int 0])) : Option (Nat × va_E)) := hq212
  have hn50 : u176[51]? = (some (q187, .inl (g 1, 8, .inr (.inl (fun _ => 0)))) : Option (Nat × va_E)) := hq213
  have hn51 : u176[52]? = (some (q188, .inr (1, [.ref q189, .int 64, .int 0])) : Option (Nat × va_E)) := hq214
  have hn52 : u176[53]? = (some (q189, .inl (g 1, 8, .inr (.inl (fun _ => 0)))) : Option (Nat × va_E)) := hq215
  have hn53 : u176[54]? = (some (q190, .inr (1, [.ref q191, .int 64, .int 0])) : Option (Nat × va_E)) := hq216
  have hn54 : u176[55]? = (some (q191, .inl (g 1, 8, .inr (.inl (fun _ => 0)))) : Option (Nat × va_E)) := hq217
  have hn55 : u176[56]? = (some (q192, .inr (1, [.ref q193, .int 64, .int 0])) : Option (Nat × va_E)) := hq218
  have hn56 : u176[57]? = (some (q193, .inl (g 1, 8, .inr (.inl (fun _ => 0)))) : Option (Nat × va_E)) := hq219
  have hn57 : u176[58]? = (some (q194, .inr (1, [.ref q195, .int 64, .int 0])) : Option (Nat × va_E)) := hq220
  have hn58 : u176[59]? = (some (q195, .inl (g 1, 8, .inr (.inl (fun _ => 0)))) : Option (Nat × va_E)) := hq221
  have hn59 : u176[60]? = (some (q196, .inr (1, [.ref q197, .int 64, .int 0])) : Option (Nat × va_E)) := hq222
  have hn60 : u176[61]? = (some (q197, .inl (g 1, 8, .inr (.inl (fun _ => 0)))) : Option (Nat × va_E)) := hq223
  have hn61 : u176[62]? = (some (q198, .inr (1, [.ref q199, .int 64, .int 0])) : Option (Nat × va_E)) := hq224
  have hn62 : u176[63]? = (some (q199, .inl (g 1, 8, .inr (.inl (fun _ => 0)))) : Option (Nat × va_E)) := hq225
  have hn63 : u176[64]? = (some (q200, .inr (1, [.ref q201, .int 64, .int 0])) : Option (Nat × va_E)) := hq226
  have hn64 : u176[65]? = (some (q201, .inl (g 1, 8, .inr (.inl (fun _ => 0)))) : Option (Nat × va_E)) := hq227
  replace hN : u176.length = 66 := hN
  replace hO0 := (hg202 _ (q_nc (q_pd 0 40 rfl) (q_nc (q_pd 0 41 rfl) (q_nc (q_pd 0 42 rfl) (q_nc (q_pd 0 43 rfl) (q_nc (q_pd 0 44 rfl) (q_nc (q_pd 0 45 rfl) (q_nc (q_pd 0 46 rfl) (q_nc (q_pd 0 47 rfl) (q_nc (q_pd 0 48 rfl) (q_nc (q_pd 0 49 rfl) (q_nc (q_pd 0 50 rfl) (q_nc (q_pd 0 51 rfl) (q_nc (q_pd 0 52 rfl) (q_nc (q_pd 0 53 rfl) (q_nc (q_pd 0 54 rfl) (q_nc (q_pd 0 55 rfl) (q_nc (q_pd 0 56 rfl) (q_nc (q_pd 0 57 rfl) (q_nc (q_pd 0 58 rfl) (q_nc (q_pd 0 59 rfl) (q_nc (q_pd 0 60 rfl) (q_nc (q_pd 0 61 rfl) (q_nc (q_pd 0 62 rfl) (q_nc (q_pd 0 63 rfl) (q_nc (q_pd 0 64 rfl) (q_nc (q_pd 0 65 rfl) List.not_mem_nil))))))))))))))))))))))))))).trans (hO0)
  have ho230 := hO0
  refine q_putF (ci := 0) (j := 13) (v := .ref q171) (ty := .object "NumberHouse$Printer") C0 V i_NH o_NH n_NH rfl rfl rfl rfl rfl hO0 (by decide) w_437 rfl rfl rfl (Nat.le_of_ble_eq_true rfl) d_1_1_207 (fun H locs w228 hu229 hO0 V => ?_)
  replace hO0 : w228[0]? = (some (qO0, .inr (0, [.ref q1, .ref q13, .ref q25, .ref q32, .ref q39, .ref q46, .ref q53, .ref q103, .ref q119, .ref q129, .ref q139, .ref q151, .ref q161, .ref q171])) : Option (Nat × va_E)) := hO0
  replace hN : w228.length = 66 := (q_len1 hu229 hO0 ho230).trans hN
  refine lv_iconst (v := 0) hx hb d_1_1_210 (by decide) ?_
  refine lv_istore_n (lv' := [(1, .int 0), (0, .ref qO0)]) hx hb d_1_1_211 rfl hl (by decide) rfl (fun ls hl => ?_)
  refine lv_iload_n hx hb d_1_1_212 rfl (lv_at hl 0 rfl) ?_
  refine lv_bipush (v := 10) hx hb d_1_1_213 (by decide) ?_
  refine lv_icmp_ge (tgt := 254) hx hb d_1_1_215 (by decide) (fun c231 => absurd c231 (by decide)) (fun c231 => ?_)
  refine lv_aload_n hx hb d_1_1_218 rfl (lv_at hl 1 rfl) ?_
  refine q_get (ci := 0) (j := 2) (v := .ref q25) C0 V i_NH rfl rfl hO0 (by decide) w_426 rfl d_1_1_219 ?_
  refine lv_iload_n hx hb d_1_1_222 rfl (lv_at hl 0 rfl) ?_
  refine q_new (ci := 2) (fs := [.null, .int 0, .int 0]) C0 V hN i_Big o_Big rfl w_68 w_79 w_4 rfl (fun j hj => by rcases (show j = 0 ∨ j = 1 ∨ j = 2 by omega) with rfl | rfl | rfl <;> rfl) (Nat.le_of_ble_eq_true rfl) (Nat.le_of_ble_eq_true rfl) d_1_1_223 (fun q232 H w233 hu234 hn235 hN V => ?_)
  have hn65 : w233[66]? = (some (q232, .inr (2, [.null, .int 0, .int 0])) : Option (Nat × va_E)) := hn235
  replace hN : w233.length = 67 := hN
  refine lv_dup hx hb d_1_1_226 rfl ?_
  refine lv_bipush (v := 68) hx hb d_1_1_227 (by decide) ?_
  refine q_gov V (q_runI (As := [.int 68]) (rest := [.ref q232, .int 0, .ref q25]) (d := 2) (mc := 1) (ms := 68) C0 V rfl LI_NH_102 (c_Big_init l D g w233 66 q232 67 hN hn65 _) rfl hl.1 rfl (Nat.le_of_ble_eq_true rfl) ⟨by decide, by decide⟩ ⟨Nat.le_of_ble_eq_true rfl, Nat.le_of_ble_eq_true rfl⟩ d_1_1_229) (fun u237 H locs hp236 V => ?_)
  obtain ⟨q238, hg239, hn65, hq240, hN⟩ := hp236
  have hn66 : u237[67]? = (some (q238, .inl (g 0, 68, .inl (fun _ => 0))) : Option (Nat × va_E)) := hq240
  replace hN : u237.length = 68 := hN
  replace hn4 := (hg239 _ (q_nc (q_pd 5 66 rfl) (q_nc (q_pd 5 67 rfl) List.not_mem_nil))).trans ((hu234 _ (q_pd 5 66 rfl)).trans ((hu229 _ (q_pd 5 0 rfl)).trans ((hg202 _ (q_nc (q_pd 5 40 rfl) (q_nc (q_pd 5 41 rfl) (q_nc (q_pd 5 42 rfl) (q_nc (q_pd 5 43 rfl) (q_nc (q_pd 5 44 rfl) (q_nc (q_pd 5 45 rfl) (q_nc (q_pd 5 46 rfl) (q_nc (q_pd 5 47 rfl) (q_nc (q_pd 5 48 rfl) (q_nc (q_pd 5 49 rfl) (q_nc (q_pd 5 50 rfl) (q_nc (q_pd 5 51 rfl) (q_nc (q_pd 5 52 rfl) (q_nc (q_pd 5 53 rfl) (q_nc (q_pd 5 54 rfl) (q_nc (q_pd 5 55 rfl) (q_nc (q_pd 5 56 rfl) (q_nc (q_pd 5 57 rfl) (q_nc (q_pd 5 58 rfl) (q_nc (q_pd 5 59 rfl) (q_nc (q_pd 5 60 rfl) (q_nc (q_pd 5 61 rfl) (q_nc (q_pd 5 62 rfl) (q_nc (q_pd 5 63 rfl) (q_nc (q_pd 5 64 rfl) (q_nc (q_pd 5 65 rfl) List.not_mem_nil))))))))))))))))))))))))))).trans ((hu173 _ (q_pd 5 40 rfl)).trans ((hu169 _ (q_pd 5 0 rfl)).trans ((hg167 _ (q_nc (q_pd 5 39 rfl) List.not_mem_nil)).trans ((hu163 _ (q_pd 5 39 rfl)).trans ((hu159 _ (q_pd 5 0 rfl)).trans ((hg157 _ (q_nc (q_pd 5 38 rfl) List.not_mem_nil)).trans ((hu153 _ (q_pd 5 38 rfl)).trans ((hu149 _ (q_pd 5 0 rfl)).trans ((hg146 _ (q_nc (q_pd 5 36 rfl) (q_nc (q_pd 5 37 rfl) List.not_mem_nil))).trans ((hu141 _ (q_pd 5 36 rfl)).trans ((hu137 _ (q_pd 5 0 rfl)).trans ((hg135 _ (q_nc (q_pd 5 35 rfl) List.not_mem_nil)).trans ((hu131 _ (q_pd 5 35 rfl)).trans ((hu127 _ (q_pd 5 0 rfl)).trans ((hg125 _ (q_nc (q_pd 5 34 rfl) List.not_mem_nil)).trans ((hu121 _ (q_pd 5 34 rfl)).trans ((hu117 _ (q_pd 5 0 rfl)).trans ((hg112 _ (q_nc (q_pd 5 30 rfl) (q_nc (q_pd 5 31 rfl) (q_nc (q_pd 5 32 rfl) (q_nc (q_pd 5 33 rfl) List.not_mem_nil))))).trans ((hu105 _ (q_pd 5 30 rfl)).trans ((hu101 _ (q_pd 5 0 rfl)).trans ((hg79 _ (q_nc (q_pd 5 9 rfl) (q_nc (q_pd 5 10 rfl) (q_nc (q_pd 5 11 rfl) (q_nc (q_pd 5 12 rfl) (q_nc (q_pd 5 13 rfl) (q_nc (q_pd 5 14 rfl) (q_nc (q_pd 5 15 rfl) (q_nc (q_pd 5 16 rfl) (q_nc (q_pd 5 17 rfl) (q_nc (q_pd 5 18 rfl) (q_nc (q_pd 5 19 rfl) (q_nc (q_pd 5 20 rfl) (q_nc (q_pd 5 21 rfl) (q_nc (q_pd 5 22 rfl) (q_nc (q_pd 5 23 rfl) (q_nc (q_pd 5 24 rfl) (q_nc (q_pd 5 25 rfl) (q_nc (q_pd 5 26 rfl) (q_nc (q_pd 5 27 rfl) (q_nc (q_pd 5 28 rfl) (q_nc (q_pd 5 29 rfl) List.not_mem_nil)))))))))))))))))))))).trans ((hu55 _ (q_pd 5 9 rfl)).trans ((hu51 _ (q_pd 5 0 rfl)).trans ((hu48 _ (q_pd 5 8 rfl)).trans ((hu44 _ (q_pd 5 0 rfl)).trans ((hu41 _ (q_pd 5 7 rfl)).trans ((hu37 _ (q_pd 5 0 rfl)).trans ((hu34 _ (q_pd 5 6 rfl)).trans ((hu30 _ (q_pd 5 0 rfl)).trans (hn4)))))))))))))))))))))))))))))))))
  have ho241 := hn4
  refine q_aast (t := 4) (ci := 2) (i9 := 0) C0 V hn4 rfl hn65 rfl (by decide) (by unfold vp_in; decide) d_1_1_232 (fun H locs w242 hu243 hn4 V => ?_)
  replace hn4 : w242[5]? = (some (q25, .inl (g 4, 10, .inr (.inr (.inr (.inr (va_up (fun _ => none) 0 (some q232))))))) : Option (Nat × va_E)) := hn4
  replace hN : w242.length = 68 := (q_len1 hu243 hn4 ho241).trans hN
  refine lv_aload_n hx hb d_1_1_233 rfl (lv_at hl 1 rfl) ?_
  replace hO0 := (hu243 _ (q_pd 0 5 rfl)).trans ((hg239 _ (q_nc (q_pd 0 66 rfl) (q_nc (q_pd 0 67 rfl) List.not_mem_nil))).trans ((hu234 _ (q_pd 0 66 rfl)).trans (hO0)))
  refine q_get (ci := 0) (j := 3) (v := .ref q32) C0 V i_NH rfl rfl hO0 (by decide) w_427 rfl d_1_1_234 ?_
  refine lv_iload_n hx hb d_1_1_237 rfl (lv_at hl 0 rfl) ?_
  refine q_new (ci := 3) (fs := [.null, .int 0, .int 0]) C0 V hN i_Dec o_Dec rfl w_70 w_163 w_6 rfl (fun j hj => by rcases (show j = 0 ∨ j = 1 ∨ j = 2 by omega) with rfl | rfl | rfl <;> rfl) (Nat.le_of_ble_eq_true rfl) (Nat.le_of_ble_eq_true rfl) d_1_1_238 (fun q244 H w245 hu246 hn247 hN V => ?_)
  have hn67 : w245[68]? = (some (q244, .inr (3, [.null, .int 0, .int 0])) : Option (Nat × va_E)) := hn247
  replace hN : w245.length = 69 := hN
  refine lv_dup hx hb d_1_1_241 rfl ?_
  refine lv_bipush (v := 108) hx hb d_1_1_242 (by decide) ?_
  refine q_gov V (q_runI (As := [.int 108]) (rest := [.ref q244, .int 0, .ref q32]) (d := 3) (mc := 2) (ms := 111) C0 V rfl LI_NH_103 (c_Dec_init l D g w245 68 q244 69 hN hn67 _) rfl hl.1 rfl (Nat.le_of_ble_eq_true rfl) ⟨by decide, by decide⟩ ⟨Nat.le_of_ble_eq_true rfl, Nat.le_of_ble_eq_true rfl⟩ d_1_1_244) (fun u249 H locs hp248 V => ?_)
  obtain ⟨q250, q251, hg252, hn67, hq253, hq254, hN⟩ := hp248
  have hn68 : u249[69]? = (some (q250, .inr (2, [.ref q251, .int 0, .int 0])) : Option (Nat × va_E)) := hq253
  have hn69 : u249[70]? = (some (q251, .inl (g 0, 108, .inl (fun _ => 0))) : Option (Nat × va_E)) := hq254
  replace hN : u249.length = 71 := hN
  replace hn5 := (hg252 _ (q_nc (q_pd 6 68 rfl) (q_nc (q_pd 6 69 rfl) (q_nc (q_pd 6 70 rfl) List.not_mem_nil)))).trans ((hu246 _ (q_pd 6 68 rfl)).trans ((hu243 _ (q_pd 6 5 rfl)).trans ((hg239 _ (q_nc (q_pd 6 66 rfl) (q_nc (q_pd 6 67 rfl) List.not_mem_nil))).trans ((hu234 _ (q_pd 6 66 rfl)).trans ((hu229 _ (q_pd 6 0 rfl)).trans ((hg202 _ (q_nc (q_pd 6 40 rfl) (q_nc (q_pd 6 41 rfl) (q_nc (q_pd 6 42 rfl) (q_nc (q_pd 6 43 rfl) (q_nc (q_pd 6 44 rfl) (q_nc (q_pd 6 45 rfl) (q_nc (q_pd 6 46 rfl) (q_nc (q_pd 6 47 rfl) (q_nc (q_pd 6 48 rfl) (q_nc (q_pd 6 49 rfl) (q_nc (q_pd 6 50 rfl) (q_nc (q_pd 6 51 rfl) (q_nc (q_pd 6 52 rfl) (q_nc (q_pd 6 53 rfl) (q_nc (q_pd 6 54 rfl) (q_nc (q_pd 6 55 rfl) (q_nc (q_pd 6 56 rfl) (q_nc (q_pd 6 57 rfl) (q_nc (q_pd 6 58 rfl) (q_nc (q_pd 6 59 rfl) (q_nc (q_pd 6 60 rfl) (q_nc (q_pd 6 61 rfl) (q_nc (q_pd 6 62 rfl) (q_nc (q_pd 6 63 rfl) (q_nc (q_pd 6 64 rfl) (q_nc (q_pd 6 65 rfl) List.not_mem_nil))))))))))))))))))))))))))).trans ((hu173 _ (q_pd 6 40 rfl)).trans ((hu169 _ (q_pd 6 0 rfl)).trans ((hg167 _ (q_nc (q_pd 6 39 rfl) List.not_mem_nil)).trans ((hu163 _ (q_pd 6 39 rfl)).trans ((hu159 _ (q_pd 6 0 rfl)).trans ((hg157 _ (q_nc (q_pd 6 38 rfl) List.not_mem_nil)).trans ((hu153 _ (q_pd 6 38 rfl)).trans ((hu149 _ (q_pd 6 0 rfl)).trans ((hg146 _ (q_nc (q_pd 6 36 rfl) (q_nc (q_pd 6 37 rfl) List.not_mem_nil))).trans ((hu141 _ (q_pd 6 36 rfl)).trans ((hu137 _ (q_pd 6 0 rfl)).trans ((hg135 _ (q_nc (q_pd 6 35 rfl) List.not_mem_nil)).trans ((hu131 _ (q_pd 6 35 rfl)).trans ((hu127 _ (q_pd 6 0 rfl)).trans ((hg125 _ (q_nc (q_pd 6 34 rfl) List.not_mem_nil)).trans ((hu121 _ (q_pd 6 34 rfl)).trans ((hu117 _ (q_pd 6 0 rfl)).trans ((hg112 _ (q_nc (q_pd 6 30 rfl) (q_nc (q_pd 6 31 rfl) (q_nc (q_pd 6 32 rfl) (q_nc (q_pd 6 33 rfl) List.not_mem_nil))))).trans ((hu105 _ (q_pd 6 30 rfl)).trans ((hu101 _ (q_pd 6 0 rfl)).trans ((hg79 _ (q_nc (q_pd 6 9 rfl) (q_nc (q_pd 6 10 rfl) (q_nc (q_pd 6 11 rfl) (q_nc (q_pd 6 12 rfl) (q_nc (q_pd 6 13 rfl) (q_nc (q_pd 6 14 rfl) (q_nc (q_pd 6 15 rfl) (q_nc (q_pd 6 16 rfl) (q_nc (q_pd 6 17 rfl) (q_nc (q_pd 6 18 rfl) (q_nc (q_pd 6 19 rfl) (q_nc (q_pd 6 20 rfl) (q_nc (q_pd 6 21 rfl) (q_nc (q_pd 6 22 rfl) (q_nc (q_pd 6 23 rfl) (q_nc (q_pd 6 24 rfl) (q_nc (q_pd 6 25 rfl) (q_nc (q_pd 6 26 rfl) (q_nc (q_pd 6 27 rfl) (q_nc (q_pd 6 28 rfl) (q_nc (q_pd 6 29 rfl) List.not_mem_nil)))))))))))))))))))))).trans ((hu55 _ (q_pd 6 9 rfl)).trans ((hu51 _ (q_pd 6 0 rfl)).trans ((hu48 _ (q_pd 6 8 rfl)).trans ((hu44 _ (q_pd 6 0 rfl)).trans ((hu41 _ (q_pd 6 7 rfl)).trans ((hu37 _ (q_pd 6 0 rfl)).trans (hn5))))))))))))))))))))))))))))))))))
  have ho255 := hn5
  refine q_aast (t := 5) (ci := 3) (i9 := 0) C0 V hn5 rfl hn67 rfl (by decide) (by unfold vp_in; decide) d_1_1_247 (fun H locs w256 hu257 hn5 V => ?_)
  replace hn5 : w256[6]? = (some (q32, .inl (g 5, 10, .inr (.inr (.inr (.inr (va_up (fun _ => none) 0 (some q244))))))) : Option (Nat × va_E)) := hn5
  replace hN : w256.length = 71 := (q_len1 hu257 hn5 ho255).trans hN
  refine lv_iinc (v := 1) (lv' := [(1, .int 1), (0, .ref qO0)]) hx hb d_1_1_248 hl (k := 0) rfl (by decide) (by decide) rfl (fun ls hl => ?_)
  refine lv_goto (tgt := 212) hx hb d_1_1_251 (by decide) ?_
  refine lv_iload_n hx hb d_1_1_212 rfl (lv_at hl 0 rfl) ?_
  refine lv_bipush (v := 10) hx hb d_1_1_213 (by decide) ?_
  refine lv_icmp_ge (tgt := 254) hx hb d_1_1_215 (by decide) (fun c258 => absurd c258 (by decide)) (fun c258 => ?_)
  refine lv_aload_n hx hb d_1_1_218 rfl (lv_at hl 1 rfl) ?_
  replace hO0 := (hu257 _ (q_pd 0 6 rfl)).trans ((hg252 _ (q_nc (q_pd 0 68 rfl) (q_nc (q_pd 0 69 rfl) (q_nc (q_pd 0 70 rfl) List.not_mem_nil)))).trans ((hu246 _ (q_pd 0 68 rfl)).trans (hO0)))
  refine q_get (ci := 0) (j := 2) (v := .ref q25) C0 V i_NH rfl rfl hO0 (by decide) w_426 rfl d_1_1_219 ?_
  refine lv_iload_n hx hb d_1_1_222 rfl (lv_at hl 0 rfl) ?_
  refine q_new (ci := 2) (fs := [.null, .int 0, .int 0]) C0 V hN i_Big o_Big rfl w_68 w_79 w_4 rfl (fun j hj => by rcases (show j = 0 ∨ j = 1 ∨ j = 2 by omega) with rfl | rfl | rfl <;> rfl) (Nat.le_of_ble_eq_true rfl) (Nat.le_of_ble_eq_true rfl) d_1_1_223 (fun q259 H w260 hu261 hn262 hN V => ?_)
  have hn70 : w260[71]? = (some (q259, .inr (2, [.null, .int 0, .int 0])) : Option (Nat × va_E)) := hn262
  replace hN : w260.length = 72 := hN
  refine lv_dup hx hb d_1_1_226 rfl ?_
  refine lv_bipush (v := 68) hx hb d_1_1_227 (by decide) ?_
  refine q_gov V (q_runI (As := [.int 68]) (rest := [.ref q259, .int 1, .ref q25]) (d := 2) (mc := 1) (ms := 68) C0 V rfl LI_NH_102 (c_Big_init l D g w260 71 q259 72 hN hn70 _) rfl hl.1 rfl (Nat.le_of_ble_eq_true rfl) ⟨by decide, by decide⟩ ⟨Nat.le_of_ble_eq_true rfl, Nat.le_of_ble_eq_true rfl⟩ d_1_1_229) (fun u264 H locs hp263 V => ?_)
  obtain ⟨q265, hg266, hn70, hq267, hN⟩ := hp263
  have hn71 : u264[72]? = (some (q265, .inl (g 0, 68, .inl (fun _ => 0))) : Option (Nat × va_E)) := hq267
  replace hN : u264.length = 73 := hN
  replace hn4 := (hg266 _ (q_nc (q_pd 5 71 rfl) (q_nc (q_pd 5 72 rfl) List.not_mem_nil))).trans ((hu261 _ (q_pd 5 71 rfl)).trans ((hu257 _ (q_pd 5 6 rfl)).trans ((hg252 _ (q_nc (q_pd 5 68 rfl) (q_nc (q_pd 5 69 rfl) (q_nc (q_pd 5 70 rfl) List.not_mem_nil)))).trans ((hu246 _ (q_pd 5 68 rfl)).trans (hn4)))))
  have ho268 := hn4
  refine q_aast (t := 4) (ci := 2) (i9 := 1) C0 V hn4 rfl hn70 rfl (by decide) (by unfold vp_in; decide) d_1_1_232 (fun H locs w269 hu270 hn4 V => ?_)
  replace hn4 : w269[5]? = (some (q25, .inl (g 4, 10, .inr (.inr (.inr (.inr (va_up (va_up (fun _ => none) 0 (some q232)) 1 (some q259))))))) : Option (Nat × va_E)) := hn4
  replace hN : w269.length = 73 := (q_len1 hu270 hn4 ho268).trans hN
  refine lv_aload_n hx hb d_1_1_233 rfl (lv_at hl 1 rfl) ?_
  replace hO0 := (hu270 _ (q_pd 0 5 rfl)).trans ((hg266 _ (q_nc (q_pd 0 71 rfl) (q_nc (q_pd 0 72 rfl) List.not_mem_nil))).trans ((hu261 _ (q_pd 0 71 rfl)).trans (hO0)))
  refine q_get (ci := 0) (j := 3) (v := .ref q32) C0 V i_NH rfl rfl hO0 (by decide) w_427 rfl d_1_1_234 ?_
  refine lv_iload_n hx hb d_1_1_237 rfl (lv_at hl 0 rfl) ?_
  refine q_new (ci := 3) (fs := [.null, .int 0, .int 0]) C0 V hN i_Dec o_Dec rfl w_70 w_163 w_6 rfl (fun j hj => by rcases (show j = 0 ∨ j = 1 ∨ j = 2 by omega) with rfl | rfl | rfl <;> rfl) (Nat.le_of_ble_eq_true rfl) (Nat.le_of_ble_eq_true rfl) d_1_1_238 (fun q271 H w272 hu273 hn274 hN V => ?_)
  have hn72 : w272[73]? = (some (q271, .inr (3, [.null, .int 0, .int 0])) : Option (Nat × va_E)) := hn274
  replace hN : w272.length = 74 := hN
  refine lv_dup hx hb d_1_1_241 rfl ?_
  refine lv_bipush (v := 108) hx hb d_1_1_242 (by decide) ?_
  refine q_gov V (q_runI (As := [.int 108]) (rest := [.ref q271, .int 1, .ref q32]) (d := 3) (mc := 2) (ms := 111) C0 V rfl LI_NH_103 (c_Dec_init l D g w272 73 q271 74 hN hn72 _) rfl hl.1 rfl (Nat.le_of_ble_eq_true rfl) ⟨by decide, by decide⟩ ⟨Nat.le_of_ble_eq_true rfl, Nat.le_of_ble_eq_true rfl⟩ d_1_1_244) (fun u276 H locs hp275 V => ?_)
  obtain ⟨q277, q278, hg279, hn72, hq280, hq281, hN⟩ := hp275
  have hn73 : u276[74]? = (some (q277, .inr (2, [.ref q278, .int 0, .int 0])) : Option (Nat × va_E)) := hq280
  have hn74 : u276[75]? = (some (q278, .inl (g 0, 108, .inl (fun _ => 0))) : Option (Nat × va_E)) := hq281
  replace hN : u276.length = 76 := hN
  replace hn5 := (hg279 _ (q_nc (q_pd 6 73 rfl) (q_nc (q_pd 6 74 rfl) (q_nc (q_pd 6 75 rfl) List.not_mem_nil)))).trans ((hu273 _ (q_pd 6 73 rfl)).trans ((hu270 _ (q_pd 6 5 rfl)).trans ((hg266 _ (q_nc (q_pd 6 71 rfl) (q_nc (q_pd 6 72 rfl) List.not_mem_nil))).trans ((hu261 _ (q_pd 6 71 rfl)).trans (hn5)))))
  have ho282 := hn5
  refine q_aast (t := 5) (ci := 3) (i9 := 1) C0 V hn5 rfl hn72 rfl (by decide) (by unfold vp_in; decide) d_1_1_247 (fun H locs w283 hu284 hn5 V => ?_)
  replace hn5 : w283[6]? = (some (q32, .inl (g 5, 10, .inr (.inr (.inr (.inr (va_up (va_up (fun _ => none) 0 (some q244)) 1 (some q271))))))) : Option (Nat × va_E)) := hn5
  replace hN : w283.length = 76 := (q_len1 hu284 hn5 ho282).trans hN
  refine lv_iinc (v := 2) (lv' := [(1, .int 2), (0, .ref qO0)]) hx hb d_1_1_248 hl (k := 0) rfl (by decide) (by decide) rfl (fun ls hl => ?_)
  refine lv_goto (tgt := 212) hx hb d_1_1_251 (by decide) ?_
  refine lv_iload_n hx hb d_1_1_212 rfl (lv_at hl 0 rfl) ?_
  refine lv_bipush (v := 10) hx hb d_1_1_213 (by decide) ?_
  refine lv_icmp_ge (tgt := 254) hx hb d_1_1_215 (by decide) (fun c285 => absurd c285 (by decide)) (fun c285 => ?_)
  refine lv_aload_n hx hb d_1_1_218 rfl (lv_at hl 1 rfl) ?_
  replace hO0 := (hu284 _ (q_pd 0 6 rfl)).trans ((hg279 _ (q_nc (q_pd 0 73 rfl) (q_nc (q_pd 0 74 rfl) (q_nc (q_pd 0 75 rfl) List.not_mem_nil)))).trans ((hu273 _ (q_pd 0 73 rfl)).trans (hO0)))
  refine q_get (ci := 0) (j := 2) (v := .ref q25) C0 V i_NH rfl rfl hO0 (by decide) w_426 rfl d_1_1_219 ?_
  refine lv_iload_n hx hb d_1_1_222 rfl (lv_at hl 0 rfl) ?_
  refine q_new (ci := 2) (fs := [.null, .int 0, .int 0]) C0 V hN i_Big o_Big rfl w_68 w_79 w_4 rfl (fun j hj => by rcases (show j = 0 ∨ j = 1 ∨ j = 2 by omega) with rfl | rfl | rfl <;> rfl) (Nat.le_of_ble_eq_true rfl) (Nat.le_of_ble_eq_true rfl) d_1_1_223 (fun q286 H w287 hu288 hn289 hN V => ?_)
  have hn75 : w287[76]? = (some (q286, .inr (2, [.null, .int 0, .int 0])) : Option (Nat × va_E)) := hn289
  replace hN : w287.length = 77 := hN
  refine lv_dup hx hb d_1_1_226 rfl ?_
  refine lv_bipush (v := 68) hx hb d_1_1_227 (by decide) ?_
  refine q_gov V (q_runI (As := [.int 68]) (rest := [.ref q286, .int 2, .ref q25]) (d := 2) (mc := 1) (ms := 68) C0 V rfl LI_NH_102 (c_Big_init l D g w287 76 q286 77 hN hn75 _) rfl hl.1 rfl (Nat.le_of_ble_eq_true rfl) ⟨by decide, by decide⟩ ⟨Nat.le_of_ble_eq_true rfl, Nat.le_of_ble_eq_true rfl⟩ d_1_1_229) (fun u291 H locs hp290 V => ?_)
  obtain ⟨q292, hg293, hn75, hq294, hN⟩ := hp290
  have hn76 : u291[77]? = (some (q292, .inl (g 0, 68, .inl (fun _ => 0))) : Option (Nat × va_E)) := hq294
  replace hN : u291.length = 78 := hN
  replace hn4 := (hg293 _ (q_nc (q_pd 5 76 rfl) (q_nc (q_pd 5 77 rfl) List.not_mem_nil))).trans ((hu288 _ (q_pd 5 76 rfl)).trans ((hu284 _ (q_pd 5 6 rfl)).trans ((hg279 _ (q_nc (q_pd 5 73 rfl) (q_nc (q_pd 5 74 rfl) (q_nc (q_pd 5 75 rfl) List.not_mem_nil)))).trans ((hu273 _ (q_pd 5 73 rfl)).trans (hn4)))))
  have ho295 := hn4
  refine q_aast (t := 4) (ci := 2) (i9 := 2) C0 V hn4 rfl hn75 rfl (by decide) (by unfold vp_in; decide) d_1_1_232 (fun H locs w296 hu297 hn4 V => ?_)
  replace hn4 : w296[5]? = (some (q25, .inl (g 4, 10, .inr (.inr (.inr (.inr (va_up (va_up (va_up (fun _ => none) 0 (some q232)) 1 (some q259)) 2 (some q286))))))) : Option (Nat × va_E)) := hn4
  replace hN : w296.length = 78 := (q_len1 hu297 hn4 ho295).trans hN
  refine lv_aload_n hx hb d_1_1_233 rfl (lv_at hl 1 rfl) ?_
  replace hO0 := (hu297 _ (q_pd 0 5 rfl)).trans ((hg293 _ (q_nc (q_pd 0 76 rfl) (q_nc (q_pd 0 77 rfl) List.not_mem_nil))).trans ((hu288 _ (q_pd 0 76 rfl)).trans (hO0)))
  refine q_get (ci := 0) (j := 3) (v := .ref q32) C0 V i_NH rfl rfl hO0 (by decide) w_427 rfl d_1_1_234 ?_
  refine lv_iload_n hx hb d_1_1_237 rfl (lv_at hl 0 rfl) ?_
  refine q_new (ci := 3) (fs := [.null, .int 0, .int 0]) C0 V hN i_Dec o_Dec rfl w_70 w_163 w_6 rfl (fun j hj => by rcases (show j = 0 ∨ j = 1 ∨ j = 2 by omega) with rfl | rfl | rfl <;> rfl) (Nat.le_of_ble_eq_true rfl) (Nat.le_of_ble_eq_true rfl) d_1_1_238 (fun q298 H w299 hu300 hn301 hN V => ?_)
  have hn77 : w299[78]? = (some (q298, .inr (3, [.null, .int 0, .int 0])) : Option (Nat × va_E)) := hn301
  replace hN : w299.length = 79 := hN
  refine lv_dup hx hb d_1_1_241 rfl ?_
  refine lv_bipush (v := 108) hx hb d_1_1_242 (by decide) ?_
  refine q_gov V (q_runI (As := [.int 108]) (rest := [.ref q298, .int 2, .ref q32]) (d := 3) (mc := 2) (ms := 111) C0 V rfl LI_NH_103 (c_Dec_init l D g w299 78 q298 79 hN hn77 _) rfl hl.1 rfl (Nat.le_of_ble_eq_true rfl) ⟨by decide, by decide⟩ ⟨Nat.le_of_ble_eq_true rfl, Nat.le_of_ble_eq_true rfl⟩ d_1_1_244) (fun u303 H locs hp302 V => ?_)
  obtain ⟨q304, q305, hg306, hn77, hq307, hq308, hN⟩ := hp302
  have hn78 : u303[79]? = (some (q304, .inr (2, [.ref q305, .int 0, .int 0])) : Option (Nat × va_E)) := hq307
  have hn79 : u303[80]? = (some (q305, .inl (g 0, 108, .inl (fun _ => 0))) : Option (Nat × va_E)) := hq308
  replace hN : u303.length = 81 := hN
  replace hn5 := (hg306 _ (q_nc (q_pd 6 78 rfl) (q_nc (q_pd 6 79 rfl) (q_nc (q_pd 6 80 rfl) List.not_mem_nil)))).trans ((hu300 _ (q_pd 6 78 rfl)).trans ((hu297 _ (q_pd 6 5 rfl)).trans ((hg293 _ (q_nc (q_pd 6 76 rfl) (q_nc (q_pd 6 77 rfl) List.not_mem_nil))).trans ((hu288 _ (q_pd 6 76 rfl)).trans (hn5)))))
  have ho309 := hn5
  refine q_aast (t := 5) (ci := 3) (i9 := 2) C0 V hn5 rfl hn77 rfl (by decide) (by unfold vp_in; decide) d_1_1_247 (fun H locs w310 hu311 hn5 V => ?_)
  replace hn5 : w310[6]? = (some (q32, .inl (g 5, 10, .inr (.inr (.inr (.inr (va_up (va_up (va_up (fun _ => none) 0 (some q244)) 1 (some q271)) 2 (some q298))))))) : Option (Nat × va_E)) := hn5
  replace hN : w310.length = 81 := (q_len1 hu311 hn5 ho309).trans hN
  refine lv_iinc (v := 3) (lv' := [(1, .int 3), (0, .ref qO0)]) hx hb d_1_1_248 hl (k := 0) rfl (by decide) (by decide) rfl (fun ls hl => ?_)
  refine lv_goto (tgt := 212) hx hb d_1_1_251 (by decide) ?_
  refine lv_iload_n hx hb d_1_1_212 rfl (lv_at hl 0 rfl) ?_
  refine lv_bipush (v := 10) hx hb d_1_1_213 (by decide) ?_
  refine lv_icmp_ge (tgt := 254) hx hb d_1_1_215 (by decide) (fun c312 => absurd c312 (by decide)) (fun c312 => ?_)
  refine lv_aload_n hx hb d_1_1_218 rfl (lv_at hl 1 rfl) ?_
  replace hO0 := (hu311 _ (q_pd 0 6 rfl)).trans ((hg306 _ (q_nc (q_pd 0 78 rfl) (q_nc (q_pd 0 79 rfl) (q_nc (q_pd 0 80 rfl) List.not_mem_nil)))).trans ((hu300 _ (q_pd 0 78 rfl)).trans (hO0)))
  refine q_get (ci := 0) (j := 2) (v := .ref q25) C0 V i_NH rfl rfl hO0 (by decide) w_426 rfl d_1_1_219 ?_
  refine lv_iload_n hx hb d_1_1_222 rfl (lv_at hl 0 rfl) ?_
  refine q_new (ci := 2) (fs := [.null, .int 0, .int 0]) C0 V hN i_Big o_Big rfl w_68 w_79 w_4 rfl (fun j hj => by rcases (show j = 0 ∨ j = 1 ∨ j = 2 by omega) with rfl | rfl | rfl <;> rfl) (Nat.le_of_ble_eq_true rfl) (Nat.le_of_ble_eq_true rfl) d_1_1_223 (fun q313 H w314 hu315 hn316 hN V => ?_)
  have hn80 : w314[81]? = (some (q313, .inr (2, [.null, .int 0, .int 0])) : Option (Nat × va_E)) := hn316
  replace hN : w314.length = 82 := hN
  refine lv_dup hx hb d_1_1_226 rfl ?_
  refine lv_bipush (v := 68) hx hb d_1_1_227 (by decide) ?_
  refine q_gov V (q_runI (As := [.int 68]) (rest := [.ref q313, .int 3, .ref q25]) (d := 2) (mc := 1) (ms := 68) C0 V rfl LI_NH_102 (c_Big_init l D g w314 81 q313 82 hN hn80 _) rfl hl.1 rfl (Nat.le_of_ble_eq_true rfl) ⟨by decide, by decide⟩ ⟨Nat.le_of_ble_eq_true rfl, Nat.le_of_ble_eq_true rfl⟩ d_1_1_229) (fun u318 H locs hp317 V => ?_)
  obtain ⟨q319, hg320, hn80, hq321, hN⟩ := hp317
  have hn81 : u318[82]? = (some (q319, .inl (g 0, 68, .inl (fun _ => 0))) : Option (Nat × va_E)) := hq321
  replace hN : u318.length = 83 := hN
  replace hn4 := (hg320 _ (q_nc (q_pd 5 81 rfl) (q_nc (q_pd 5 82 rfl) List.not_mem_nil))).trans ((hu315 _ (q_pd 5 81 rfl)).trans ((hu311 _ (q_pd 5 6 rfl)).trans ((hg306 _ (q_nc (q_pd 5 78 rfl) (q_nc (q_pd 5 79 rfl) (q_nc (q_pd 5 80 rfl) List.not_mem_nil)))).trans ((hu300 _ (q_pd 5 78 rfl)).trans (hn4)))))
  have ho322 := hn4
  refine q_aast (t := 4) (ci := 2) (i9 := 3) C0 V hn4 rfl hn80 rfl (by decide) (by unfold vp_in; decide) d_1_1_232 (fun H locs w323 hu324 hn4 V => ?_)
  replace hn4 : w323[5]? = (some (q25, .inl (g 4, 10, .inr (.inr (.inr (.inr (va_up (va_up (va_up (va_up (fun _ => none) 0 (some q232)) 1 (some q259)) 2 (some q286)) 3 (some q313))))))) : Option (Nat × va_E)) := hn4
  replace hN : w323.length = 83 := (q_len1 hu324 hn4 ho322).trans hN
  refine lv_aload_n hx hb d_1_1_233 rfl (lv_at hl 1 rfl) ?_
  replace hO0 := (hu324 _ (q_pd 0 5 rfl)).trans ((hg320 _ (q_nc (q_pd 0 81 rfl) (q_nc (q_pd 0 82 rfl) List.not_mem_nil))).trans ((hu315 _ (q_pd 0 81 rfl)).trans (hO0)))
  refine q_get (ci := 0) (j := 3) (v := .ref q32) C0 V i_NH rfl rfl hO0 (by decide) w_427 rfl d_1_1_234 ?_
  refine lv_iload_n hx hb d_1_1_237 rfl (lv_at hl 0 rfl) ?_
  refine q_new (ci := 3) (fs := [.null, .int 0, .int 0]) C0 V hN i_Dec o_Dec rfl w_70 w_163 w_6 rfl (fun j hj => by rcases (show j = 0 ∨ j = 1 ∨ j = 2 by omega) with rfl | rfl | rfl <;> rfl) (Nat.le_of_ble_eq_true rfl) (Nat.le_of_ble_eq_true rfl) d_1_1_238 (fun q325 H w326 hu327 hn328 hN V => ?_)
  have hn82 : w326[83]? = (some (q325, .inr (3, [.null, .int 0, .int 0])) : Option (Nat × va_E)) := hn328
  replace hN : w326.length = 84 := hN
  refine lv_dup hx hb d_1_1_241 rfl ?_
  refine lv_bipush (v := 108) hx hb d_1_1_242 (by decide) ?_
  refine q_gov V (q_runI (As := [.int 108]) (rest := [.ref q325, .int 3, .ref q32]) (d := 3) (mc := 2) (ms := 111) C0 V rfl LI_NH_103 (c_Dec_init l D g w326 83 q325 84 hN hn82 _) rfl hl.1 rfl (Nat.le_of_ble_eq_true rfl) ⟨by decide, by decide⟩ ⟨Nat.le_of_ble_eq_true rfl, Nat.le_of_ble_eq_true rfl⟩ d_1_1_244) (fun u330 H locs hp329 V => ?_)
  obtain ⟨q331, q332, hg333, hn82, hq334, hq335, hN⟩ := hp329
  have hn83 : u330[84]? = (some (q331, .inr (2, [.ref q332, .int 0, .int 0])) : Option (Nat × va_E)) := hq334
  have hn84 : u330[85]? = (some (q332, .inl (g 0, 108, .inl (fun _ => 0))) : Option (Nat × va_E)) := hq335
  replace hN : u330.length = 86 := hN
  replace hn5 := (hg333 _ (q_nc (q_pd 6 83 rfl) (q_nc (q_pd 6 84 rfl) (q_nc (q_pd 6 85 rfl) List.not_mem_nil)))).trans ((hu327 _ (q_pd 6 83 rfl)).trans ((hu324 _ (q_pd 6 5 rfl)).trans ((hg320 _ (q_nc (q_pd 6 81 rfl) (q_nc (q_pd 6 82 rfl) List.not_mem_nil))).trans ((hu315 _ (q_pd 6 81 rfl)).trans (hn5)))))
  have ho336 := hn5
  refine q_aast (t := 5) (ci := 3) (i9 := 3) C0 V hn5 rfl hn82 rfl (by decide) (by unfold vp_in; decide) d_1_1_247 (fun H locs w337 hu338 hn5 V => ?_)
  replace hn5 : w337[6]? = (some (q32, .inl (g 5, 10, .inr (.inr (.inr (.inr (va_up (va_up (va_up (va_up (fun _ => none) 0 (some q244)) 1 (some q271)) 2 (some q298)) 3 (some q325))))))) : Option (Nat × va_E)) := hn5
  replace hN : w337.length = 86 := (q_len1 hu338 hn5 ho336).trans hN
  refine lv_iinc (v := 4) (lv' := [(1, .int 4), (0, .ref qO0)]) hx hb d_1_1_248 hl (k := 0) rfl (by decide) (by decide) rfl (fun ls hl => ?_)
  refine lv_goto (tgt := 212) hx hb d_1_1_251 (by decide) ?_
  refine lv_iload_n hx hb d_1_1_212 rfl (lv_at hl 0 rfl) ?_
  refine lv_bipush (v := 10) hx hb d_1_1_213 (by decide) ?_
  refine lv_icmp_ge (tgt := 254) hx hb d_1_1_215 (by decide) (fun c339 => absurd c339 (by decide)) (fun c339 => ?_)
  refine lv_aload_n hx hb d_1_1_218 rfl (lv_at hl 1 rfl) ?_
  replace hO0 := (hu338 _ (q_pd 0 6 rfl)).trans ((hg333 _ (q_nc (q_pd 0 83 rfl) (q_nc (q_pd 0 84 rfl) (q_nc (q_pd 0 85 rfl) List.not_mem_nil)))).trans ((hu327 _ (q_pd 0 83 rfl)).trans (hO0)))
  refine q_get (ci := 0) (j := 2) (v := .ref q25) C0 V i_NH rfl rfl hO0 (by decide) w_426 rfl d_1_1_219 ?_
  refine lv_iload_n hx hb d_1_1_222 rfl (lv_at hl 0 rfl) ?_
  refine q_new (ci := 2) (fs := [.null, .int 0, .int 0]) C0 V hN i_Big o_Big rfl w_68 w_79 w_4 rfl (fun j hj => by rcases (show j = 0 ∨ j = 1 ∨ j = 2 by omega) with rfl | rfl | rfl <;> rfl) (Nat.le_of_ble_eq_true rfl) (Nat.le_of_ble_eq_true rfl) d_1_1_223 (fun q340 H w341 hu342 hn343 hN V => ?_)
  have hn85 : w341[86]? = (some (q340, .inr (2, [.null, .int 0, .int 0])) : Option (Nat × va_E)) := hn343
  replace hN : w341.length = 87 := hN
  refine lv_dup hx hb d_1_1_226 rfl ?_
  refine lv_bipush (v := 68) hx hb d_1_1_227 (by decide) ?_
  refine q_gov V (q_runI (As := [.int 68]) (rest := [.ref q340, .int 4, .ref q25]) (d := 2) (mc := 1) (ms := 68) C0 V rfl LI_NH_102 (c_Big_init l D g w341 86 q340 87 hN hn85 _) rfl hl.1 rfl (Nat.le_of_ble_eq_true rfl) ⟨by decide, by decide⟩ ⟨Nat.le_of_ble_eq_true rfl, Nat.le_of_ble_eq_true rfl⟩ d_1_1_229) (fun u345 H locs hp344 V => ?_)
  obtain ⟨q346, hg347, hn85, hq348, hN⟩ := hp344
  have hn86 : u345[87]? = (some (q346, .inl (g 0, 68, .inl (fun _ => 0))) : Option (Nat × va_E)) := hq348
  replace hN : u345.length = 88 := hN
  replace hn4 := (hg347 _ (q_nc (q_pd 5 86 rfl) (q_nc (q_pd 5 87 rfl) List.not_mem_nil))).trans ((hu342 _ (q_pd 5 86 rfl)).trans ((hu338 _ (q_pd 5 6 rfl)).trans ((hg333 _ (q_nc (q_pd 5 83 rfl) (q_nc (q_pd 5 84 rfl) (q_nc (q_pd 5 85 rfl) List.not_mem_nil)))).trans ((hu327 _ (q_pd 5 83 rfl)).trans (hn4)))))
  have ho349 := hn4
  refine q_aast (t := 4) (ci := 2) (i9 := 4) C0 V hn4 rfl hn85 rfl (by decide) (by unfold vp_in; decide) d_1_1_232 (fun H locs w350 hu351 hn4 V => ?_)
  replace hn4 : w350[5]? = (some (q25, .inl (g 4, 10, .inr (.inr (.inr (.inr (va_up (va_up (va_up (va_up (va_up (fun _ => none) 0 (some q232)) 1 (some q259)) 2 (some q286)) 3 (some q313)) 4 (some q340))))))) : Option (Nat × va_E)) := hn4
  replace hN : w350.length = 88 := (q_len1 hu351 hn4 ho349).trans hN
  refine lv_aload_n hx hb d_1_1_233 rfl (lv_at hl 1 rfl) ?_
  replace hO0 := (hu351 _ (q_pd 0 5 rfl)).trans ((hg347 _ (q_nc (q_pd 0 86 rfl) (q_nc (q_pd 0 87 rfl) List.not_mem_nil))).trans ((hu342 _ (q_pd 0 86 rfl)).trans (hO0)))
  refine q_get (ci := 0) (j := 3) (v := .ref q32) C0 V i_NH rfl rfl hO0 (by decide) w_427 rfl d_1_1_234 ?_
  refine lv_iload_n hx hb d_1_1_237 rfl (lv_at hl 0 rfl) ?_
  refine q_new (ci := 3) (fs := [.null, .int 0, .int 0]) C0 V hN i_Dec o_Dec rfl w_70 w_163 w_6 rfl (fun j hj => by rcases (show j = 0 ∨ j = 1 ∨ j = 2 by omega) with rfl | rfl | rfl <;> rfl) (Nat.le_of_ble_eq_true rfl) (Nat.le_of_ble_eq_true rfl) d_1_1_238 (fun q352 H w353 hu354 hn355 hN V => ?_)
  have hn87 : w353[88]? = (some (q352, .inr (3, [.null, .int 0, .int 0])) : Option (Nat × va_E)) := hn355
  replace hN : w353.length = 89 := hN
  refine lv_dup hx hb d_1_1_241 rfl ?_
  refine lv_bipush (v := 108) hx hb d_1_1_242 (by decide) ?_
  refine q_gov V (q_runI (As := [.int 108]) (rest := [.ref q352, .int 4, .ref q32]) (d := 3) (mc := 2) (ms := 111) C0 V rfl LI_NH_103 (c_Dec_init l D g w353 88 q352 89 hN hn87 _) rfl hl.1 rfl (Nat.le_of_ble_eq_true rfl) ⟨by decide, by decide⟩ ⟨Nat.le_of_ble_eq_true rfl, Nat.le_of_ble_eq_true rfl⟩ d_1_1_244) (fun u357 H locs hp356 V => ?_)
  obtain ⟨q358, q359, hg360, hn87, hq361, hq362, hN⟩ := hp356
  have hn88 : u357[89]? = (some (q358, .inr (2, [.ref q359, .int 0, .int 0])) : Option (Nat × va_E)) := hq361
  have hn89 : u357[90]? = (some (q359, .inl (g 0, 108, .inl (fun _ => 0))) : Option (Nat × va_E)) := hq362
  replace hN : u357.length = 91 := hN
  replace hn5 := (hg360 _ (q_nc (q_pd 6 88 rfl) (q_nc (q_pd 6 89 rfl) (q_nc (q_pd 6 90 rfl) List.not_mem_nil)))).trans ((hu354 _ (q_pd 6 88 rfl)).trans ((hu351 _ (q_pd 6 5 rfl)).trans ((hg347 _ (q_nc (q_pd 6 86 rfl) (q_nc (q_pd 6 87 rfl) List.not_mem_nil))).trans ((hu342 _ (q_pd 6 86 rfl)).trans (hn5)))))
  have ho363 := hn5
  refine q_aast (t := 5) (ci := 3) (i9 := 4) C0 V hn5 rfl hn87 rfl (by decide) (by unfold vp_in; decide) d_1_1_247 (fun H locs w364 hu365 hn5 V => ?_)
  replace hn5 : w364[6]? = (some (q32, .inl (g 5, 10, .inr (.inr (.inr (.inr (va_up (va_up (va_up (va_up (va_up (fun _ => none) 0 (some q244)) 1 (some q271)) 2 (some q298)) 3 (some q325)) 4 (some q352))))))) : Option (Nat × va_E)) := hn5
  replace hN : w364.length = 91 := (q_len1 hu365 hn5 ho363).trans hN
  refine lv_iinc (v := 5) (lv' := [(1, .int 5), (0, .ref qO0)]) hx hb d_1_1_248 hl (k := 0) rfl (by decide) (by decide) rfl (fun ls hl => ?_)
  refine lv_goto (tgt := 212) hx hb d_1_1_251 (by decide) ?_
  refine lv_iload_n hx hb d_1_1_212 rfl (lv_at hl 0 rfl) ?_
  refine lv_bipush (v := 10) hx hb d_1_1_213 (by decide) ?_
  refine lv_icmp_ge (tgt := 254) hx hb d_1_1_215 (by decide) (fun c366 => absurd c366 (by decide)) (fun c366 => ?_)
  refine lv_aload_n hx hb d_1_1_218 rfl (lv_at hl 1 rfl) ?_
  replace hO0 := (hu365 _ (q_pd 0 6 rfl)).trans ((hg360 _ (q_nc (q_pd 0 88 rfl) (q_nc (q_pd 0 89 rfl) (q_nc (q_pd 0 90 rfl) List.not_mem_nil)))).trans ((hu354 _ (q_pd 0 88 rfl)).trans (hO0)))
  refine q_get (ci := 0) (j := 2) (v := .ref q25) C0 V i_NH rfl rfl hO0 (by decide) w_426 rfl d_1_1_219 ?_
  refine lv_iload_n hx hb d_1_1_222 rfl (lv_at hl 0 rfl) ?_
  refine q_new (ci := 2) (fs := [.null, .int 0, .int 0]) C0 V hN i_Big o_Big rfl w_68 w_79 w_4 rfl (fun j hj => by rcases (show j = 0 ∨ j = 1 ∨ j = 2 by omega) with rfl | rfl | rfl <;> rfl) (Nat.le_of_ble_eq_true rfl) (Nat.le_of_ble_eq_true rfl) d_1_1_223 (fun q367 H w368 hu369 hn370 hN V => ?_)
  have hn90 : w368[91]? = (some (q367, .inr (2, [.null, .int 0, .int 0])) : Option (Nat × va_E)) := hn370
  replace hN : w368.length = 92 := hN
  refine lv_dup hx hb d_1_1_226 rfl ?_
  refine lv_bipush (v := 68) hx hb d_1_1_227 (by decide) ?_
  refine q_gov V (q_runI (As := [.int 68]) (rest := [.ref q367, .int 5, .ref q25]) (d := 2) (mc := 1) (ms := 68) C0 V rfl LI_NH_102 (c_Big_init l D g w368 91 q367 92 hN hn90 _) rfl hl.1 rfl (Nat.le_of_ble_eq_true rfl) ⟨by decide, by decide⟩ ⟨Nat.le_of_ble_eq_true rfl, Nat.le_of_ble_eq_true rfl⟩ d_1_1_229) (fun u372 H locs hp371 V => ?_)
  obtain ⟨q373, hg374, hn90, hq375, hN⟩ := hp371
  have hn91 : u372[92]? = (some (q373, .inl (g 0, 68, .inl (fun _ => 0))) : Option (Nat × va_E)) := hq375
  replace hN : u372.length = 93 := hN
  replace hn4 := (hg374 _ (q_nc (q_pd 5 91 rfl) (q_nc (q_pd 5 92 rfl) List.not_mem_nil))).trans ((hu369 _ (q_pd 5 91 rfl)).trans ((hu365 _ (q_pd 5 6 rfl)).trans ((hg360 _ (q_nc (q_pd 5 88 rfl) (q_nc (q_pd 5 89 rfl) (q_nc (q_pd 5 90 rfl) List.not_mem_nil)))).trans ((hu354 _ (q_pd 5 88 rfl)).trans (hn4)))))
  have ho376 := hn4
  refine q_aast (t := 4) (ci := 2) (i9 := 5) C0 V hn4 rfl hn90 rfl (by decide) (by unfold vp_in; decide) d_1_1_232 (fun H locs w377 hu378 hn4 V => ?_)
  replace hn4 : w377[5]? = (some (q25, .inl (g 4, 10, .inr (.inr (.inr (.inr (va_up (va_up (va_up (va_up (va_up (va_up (fun _ => none) 0 (some q232)) 1 (some q259)) 2 (some q286)) 3 (some q313)) 4 (some q340)) 5 (some q367))))))) : Option (Nat × va_E)) := hn4
  replace hN : w377.length = 93 := (q_len1 hu378 hn4 ho376).trans hN
  refine lv_aload_n hx hb d_1_1_233 rfl (lv_at hl 1 rfl) ?_
  replace hO0 := (hu378 _ (q_pd 0 5 rfl)).trans ((hg374 _ (q_nc (q_pd 0 91 rfl) (q_nc (q_pd 0 92 rfl) List.not_mem_nil))).trans ((hu369 _ (q_pd 0 91 rfl)).trans (hO0)))
  refine q_get (ci := 0) (j := 3) (v := .ref q32) C0 V i_NH rfl rfl hO0 (by decide) w_427 rfl d_1_1_234 ?_
  refine lv_iload_n hx hb d_1_1_237 rfl (lv_at hl 0 rfl) ?_
  refine q_new (ci := 3) (fs := [.null, .int 0, .int 0]) C0 V hN i_Dec o_Dec rfl w_70 w_163 w_6 rfl (fun j hj => by rcases (show j = 0 ∨ j = 1 ∨ j = 2 by omega) with rfl | rfl | rfl <;> rfl) (Nat.le_of_ble_eq_true rfl) (Nat.le_of_ble_eq_true rfl) d_1_1_238 (fun q379 H w380 hu381 hn382 hN V => ?_)
  have hn92 : w380[93]? = (some (q379, .inr (3, [.null, .int 0, .int 0])) : Option (Nat × va_E)) := hn382
  replace hN : w380.length = 94 := hN
  refine lv_dup hx hb d_1_1_241 rfl ?_
  refine lv_bipush (v := 108) hx hb d_1_1_242 (by decide) ?_
  refine q_gov V (q_runI (As := [.int 108]) (rest := [.ref q379, .int 5, .ref q32]) (d := 3) (mc := 2) (ms := 111) C0 V rfl LI_NH_103 (c_Dec_init l D g w380 93 q379 94 hN hn92 _) rfl hl.1 rfl (Nat.le_of_ble_eq_true rfl) ⟨by decide, by decide⟩ ⟨Nat.le_of_ble_eq_true rfl, Nat.le_of_ble_eq_true rfl⟩ d_1_1_244) (fun u384 H locs hp383 V => ?_)
  obtain ⟨q385, q386, hg387, hn92, hq388, hq389, hN⟩ := hp383
  have hn93 : u384[94]? = (some (q385, .inr (2, [.ref q386, .int 0, .int 0])) : Option (Nat × va_E)) := hq388
  have hn94 : u384[95]? = (some (q386, .inl (g 0, 108, .inl (fun _ => 0))) : Option (Nat × va_E)) := hq389
  replace hN : u384.length = 96 := hN
  replace hn5 := (hg387 _ (q_nc (q_pd 6 93 rfl) (q_nc (q_pd 6 94 rfl) (q_nc (q_pd 6 95 rfl) List.not_mem_nil)))).trans ((hu381 _ (q_pd 6 93 rfl)).trans ((hu378 _ (q_pd 6 5 rfl)).trans ((hg374 _ (q_nc (q_pd 6 91 rfl) (q_nc (q_pd 6 92 rfl) List.not_mem_nil))).trans ((hu369 _ (q_pd 6 91 rfl)).trans (hn5)))))
  have ho390 := hn5
  refine q_aast (t := 5) (ci := 3) (i9 := 5) C0 V hn5 rfl hn92 rfl (by decide) (by unfold vp_in; decide) d_1_1_247 (fun H locs w391 hu392 hn5 V => ?_)
  replace hn5 : w391[6]? = (some (q32, .inl (g 5, 10, .inr (.inr (.inr (.inr (va_up (va_up (va_up (va_up (va_up (va_up (fun _ => none) 0 (some q244)) 1 (some q271)) 2 (some q298)) 3 (some q325)) 4 (some q352)) 5 (some q379))))))) : Option (Nat × va_E)) := hn5
  replace hN : w391.length = 96 := (q_len1 hu392 hn5 ho390).trans hN
  refine lv_iinc (v := 6) (lv' := [(1, .int 6), (0, .ref qO0)]) hx hb d_1_1_248 hl (k := 0) rfl (by decide) (by decide) rfl (fun ls hl => ?_)
  refine lv_goto (tgt := 212) hx hb d_1_1_251 (by decide) ?_
  refine lv_iload_n hx hb d_1_1_212 rfl (lv_at hl 0 rfl) ?_
  refine lv_bipush (v := 10) hx hb d_1_1_213 (by decide) ?_
  refine lv_icmp_ge (tgt := 254) hx hb d_1_1_215 (by decide) (fun c393 => absurd c393 (by decide)) (fun c393 => ?_)
  refine lv_aload_n hx hb d_1_1_218 rfl (lv_at hl 1 rfl) ?_
  replace hO0 := (hu392 _ (q_pd 0 6 rfl)).trans ((hg387 _ (q_nc (q_pd 0 93 rfl) (q_nc (q_pd 0 94 rfl) (q_nc (q_pd 0 95 rfl) List.not_mem_nil)))).trans ((hu381 _ (q_pd 0 93 rfl)).trans (hO0)))
  refine q_get (ci := 0) (j := 2) (v := .ref q25) C0 V i_NH rfl rfl hO0 (by decide) w_426 rfl d_1_1_219 ?_
  refine lv_iload_n hx hb d_1_1_222 rfl (lv_at hl 0 rfl) ?_
  refine q_new (ci := 2) (fs := [.null, .int 0, .int 0]) C0 V hN i_Big o_Big rfl w_68 w_79 w_4 rfl (fun j hj => by rcases (show j = 0 ∨ j = 1 ∨ j = 2 by omega) with rfl | rfl | rfl <;> rfl) (Nat.le_of_ble_eq_true rfl) (Nat.le_of_ble_eq_true rfl) d_1_1_223 (fun q394 H w395 hu396 hn397 hN V => ?_)
  have hn95 : w395[96]? = (some (q394, .inr (2, [.null, .int 0, .int 0])) : Option (Nat × va_E)) := hn397
  replace hN : w395.length = 97 := hN
  refine lv_dup hx hb d_1_1_226 rfl ?_
  refine lv_bipush (v := 68) hx hb d_1_1_227 (by decide) ?_
  refine q_gov V (q_runI (As := [.int 68]) (rest := [.ref q394, .int 6, .ref q25]) (d := 2) (mc := 1) (ms := 68) C0 V rfl LI_NH_102 (c_Big_init l D g w395 96 q394 97 hN hn95 _) rfl hl.1 rfl (Nat.le_of_ble_eq_true rfl) ⟨by decide, by decide⟩ ⟨Nat.le_of_ble_eq_true rfl, Nat.le_of_ble_eq_true rfl⟩ d_1_1_229) (fun u399 H locs hp398 V => ?_)
  obtain ⟨q400, hg401, hn95, hq402, hN⟩ := hp398
  have hn96 : u399[97]? = (some (q400, .inl (g 0, 68, .inl (fun _ => 0))) : Option (Nat × va_E)) := hq402
  replace hN : u399.length = 98 := hN
  replace hn4 := (hg401 _ (q_nc (q_pd 5 96 rfl) (q_nc (q_pd 5 97 rfl) List.not_mem_nil))).trans ((hu396 _ (q_pd 5 96 rfl)).trans ((hu392 _ (q_pd 5 6 rfl)).trans ((hg387 _ (q_nc (q_pd 5 93 rfl) (q_nc (q_pd 5 94 rfl) (q_nc (q_pd 5 95 rfl) List.not_mem_nil)))).trans ((hu381 _ (q_pd 5 93 rfl)).trans (hn4)))))
  have ho403 := hn4
  refine q_aast (t := 4) (ci := 2) (i9 := 6) C0 V hn4 rfl hn95 rfl (by decide) (by unfold vp_in; decide) d_1_1_232 (fun H locs w404 hu405 hn4 V => ?_)
  replace hn4 : w404[5]? = (some (q25, .inl (g 4, 10, .inr (.inr (.inr (.inr (va_up (va_up (va_up (va_up (va_up (va_up (va_up (fun _ => none) 0 (some q232)) 1 (some q259)) 2 (some q286)) 3 (some q313)) 4 (some q340)) 5 (some q367)) 6 (some q394))))))) : Option (Nat × va_E)) := hn4
  replace hN : w404.length = 98 := (q_len1 hu405 hn4 ho403).trans hN
  refine lv_aload_n hx hb d_1_1_233 rfl (lv_at hl 1 rfl) ?_
  replace hO0 := (hu405 _ (q_pd 0 5 rfl)).trans ((hg401 _ (q_nc (q_pd 0 96 rfl) (q_nc (q_pd 0 97 rfl) List.not_mem_nil))).trans ((hu396 _ (q_pd 0 96 rfl)).trans (hO0)))
  refine q_get (ci := 0) (j := 3) (v := .ref q32) C0 V i_NH rfl rfl hO0 (by decide) w_427 rfl d_1_1_234 ?_
  refine lv_iload_n hx hb d_1_1_237 rfl (lv_at hl 0 rfl) ?_
  refine q_new (ci := 3) (fs := [.null, .int 0, .int 0]) C0 V hN i_Dec o_Dec rfl w_70 w_163 w_6 rfl (fun j hj => by rcases (show j = 0 ∨ j = 1 ∨ j = 2 by omega) with rfl | rfl | rfl <;> rfl) (Nat.le_of_ble_eq_true rfl) (Nat.le_of_ble_eq_true rfl) d_1_1_238 (fun q406 H w407 hu408 hn409 hN V => ?_)
  have hn97 : w407[98]? = (some (q406, .inr (3, [.null, .int 0, .int 0])) : Option (Nat × va_E)) := hn409
  replace hN : w407.length = 99 := hN
  refine lv_dup hx hb d_1_1_241 rfl ?_
  refine lv_bipush (v := 108) hx hb d_1_1_242 (by decide) ?_
  refine q_gov V (q_runI (As := [.int 108]) (rest := [.ref q406, .int 6, .ref q32]) (d := 3) (mc := 2) (ms := 111) C0 V rfl LI_NH_103 (c_Dec_init l D g w407 98 q406 99 hN hn97 _) rfl hl.1 rfl (Nat.le_of_ble_eq_true rfl) ⟨by decide, by decide⟩ ⟨Nat.le_of_ble_eq_true rfl, Nat.le_of_ble_eq_true rfl⟩ d_1_1_244) (fun u411 H locs hp410 V => ?_)
  obtain ⟨q412, q413, hg414, hn97, hq415, hq416, hN⟩ := hp410
  have hn98 : u411[99]? = (some (q412, .inr (2, [.ref q413, .int 0, .int 0])) : Option (Nat × va_E)) := hq415
  have hn99 : u411[100]? = (some (q413, .inl (g 0, 108, .inl (fun _ => 0))) : Option (Nat × va_E)) := hq416
  replace hN : u411.length = 101 := hN
  replace hn5 := (hg414 _ (q_nc (q_pd 6 98 rfl) (q_nc (q_pd 6 99 rfl) (q_nc (q_pd 6 100 rfl) List.not_mem_nil)))).trans ((hu408 _ (q_pd 6 98 rfl)).trans ((hu405 _ (q_pd 6 5 rfl)).trans ((hg401 _ (q_nc (q_pd 6 96 rfl) (q_nc (q_pd 6 97 rfl) List.not_mem_nil))).trans ((hu396 _ (q_pd 6 96 rfl)).trans (hn5)))))
  have ho417 := hn5
  refine q_aast (t := 5) (ci := 3) (i9 := 6) C0 V hn5 rfl hn97 rfl (by decide) (by unfold vp_in; decide) d_1_1_247 (fun H locs w418 hu419 hn5 V => ?_)
  replace hn5 : w418[6]? = (some (q32, .inl (g 5, 10, .inr (.inr (.inr (.inr (va_up (va_up (va_up (va_up (va_up (va_up (va_up (fun _ => none) 0 (some q244)) 1 (some q271)) 2 (some q298)) 3 (some q325)) 4 (some q352)) 5 (some q379)) 6 (some q406))))))) : Option (Nat × va_E)) := hn5
  replace hN : w418.length = 101 := (q_len1 hu419 hn5 ho417).trans hN
  refine lv_iinc (v := 7) (lv' := [(1, .int 7), (0, .ref qO0)]) hx hb d_1_1_248 hl (k := 0) rfl (by decide) (by decide) rfl (fun ls hl => ?_)
  refine lv_goto (tgt := 212) hx hb d_1_1_251 (by decide) ?_
  refine lv_iload_n hx hb d_1_1_212 rfl (lv_at hl 0 rfl) ?_
  refine lv_bipush (v := 10) hx hb d_1_1_213 (by decide) ?_
  refine lv_icmp_ge (tgt := 254) hx hb d_1_1_215 (by decide) (fun c420 => absurd c420 (by decide)) (fun c420 => ?_)
  refine lv_aload_n hx hb d_1_1_218 rfl (lv_at hl 1 rfl) ?_
  replace hO0 := (hu419 _ (q_pd 0 6 rfl)).trans ((hg414 _ (q_nc (q_pd 0 98 rfl) (q_nc (q_pd 0 99 rfl) (q_nc (q_pd 0 100 rfl) List.not_mem_nil)))).trans ((hu408 _ (q_pd 0 98 rfl)).trans (hO0)))
  refine q_get (ci := 0) (j := 2) (v := .ref q25) C0 V i_NH rfl rfl hO0 (by decide) w_426 rfl d_1_1_219 ?_
  refine lv_iload_n hx hb d_1_1_222 rfl (lv_at hl 0 rfl) ?_
  refine q_new (ci := 2) (fs := [.null, .int 0, .int 0]) C0 V hN i_Big o_Big rfl w_68 w_79 w_4 rfl (fun j hj => by rcases (show j = 0 ∨ j = 1 ∨ j = 2 by omega) with rfl | rfl | rfl <;> rfl) (Nat.le_of_ble_eq_true rfl) (Nat.le_of_ble_eq_true rfl) d_1_1_223 (fun q421 H w422 hu423 hn424 hN V => ?_)
  have hn100 : w422[101]? = (some (q421, .inr (2, [.null, .int 0, .int 0])) : Option (Nat × va_E)) := hn424
  replace hN : w422.length = 102 := hN
  refine lv_dup hx hb d_1_1_226 rfl ?_
  refine lv_bipush (v := 68) hx hb d_1_1_227 (by decide) ?_
  refine q_gov V (q_runI (As := [.int 68]) (rest := [.ref q421, .int 7, .ref q25]) (d := 2) (mc := 1) (ms := 68) C0 V rfl LI_NH_102 (c_Big_init l D g w422 101 q421 102 hN hn100 _) rfl hl.1 rfl (Nat.le_of_ble_eq_true rfl) ⟨by decide, by decide⟩ ⟨Nat.le_of_ble_eq_true rfl, Nat.le_of_ble_eq_true rfl⟩ d_1_1_229) (fun u426 H locs hp425 V => ?_)
  obtain ⟨q427, hg428, hn100, hq429, hN⟩ := hp425
  have hn101 : u426[102]? = (some (q427, .inl (g 0, 68, .inl (fun _ => 0))) : Option (Nat × va_E)) := hq429
  replace hN : u426.length = 103 := hN
  replace hn4 := (hg428 _ (q_nc (q_pd 5 101 rfl) (q_nc (q_pd 5 102 rfl) List.not_mem_nil))).trans ((hu423 _ (q_pd 5 101 rfl)).trans ((hu419 _ (q_pd 5 6 rfl)).trans ((hg414 _ (q_nc (q_pd 5 98 rfl) (q_nc (q_pd 5 99 rfl) (q_nc (q_pd 5 100 rfl) List.not_mem_nil)))).trans ((hu408 _ (q_pd 5 98 rfl)).trans (hn4)))))
  have ho430 := hn4
  refine q_aast (t := 4) (ci := 2) (i9 := 7) C0 V hn4 rfl hn100 rfl (by decide) (by unfold vp_in; decide) d_1_1_232 (fun H locs w431 hu432 hn4 V => ?_)
  replace hn4 : w431[5]? = (some (q25, .inl (g 4, 10, .inr (.inr (.inr (.inr (va_up (va_up (va_up (va_up (va_up (va_up (va_up (va_up (fun _ => none) 0 (some q232)) 1 (some q259)) 2 (some q286)) 3 (some q313)) 4 (some q340)) 5 (some q367)) 6 (some q394)) 7 (some q421))))))) : Option (Nat × va_E)) := hn4
  replace hN : w431.length = 103 := (q_len1 hu432 hn4 ho430).trans hN
  refine lv_aload_n hx hb d_1_1_233 rfl (lv_at hl 1 rfl) ?_
  replace hO0 := (hu432 _ (q_pd 0 5 rfl)).trans ((hg428 _ (q_nc (q_pd 0 101 rfl) (q_nc (q_pd 0 102 rfl) List.not_mem_nil))).trans ((hu423 _ (q_pd 0 101 rfl)).trans (hO0)))
  refine q_get (ci := 0) (j := 3) (v := .ref q32) C0 V i_NH rfl rfl hO0 (by decide) w_427 rfl d_1_1_234 ?_
  refine lv_iload_n hx hb d_1_1_237 rfl (lv_at hl 0 rfl) ?_
  refine q_new (ci := 3) (fs := [.null, .int 0, .int 0]) C0 V hN i_Dec o_Dec rfl w_70 w_163 w_6 rfl (fun j hj => by rcases (show j = 0 ∨ j = 1 ∨ j = 2 by omega) with rfl | rfl | rfl <;> rfl) (Nat.le_of_ble_eq_true rfl) (Nat.le_of_ble_eq_true rfl) d_1_1_238 (fun q433 H w434 hu435 hn436 hN V => ?_)
  have hn102 : w434[103]? = (some (q433, .inr (3, [.null, .int 0, .int 0])) : Option (Nat × va_E)) := hn436
  replace hN : w434.length = 104 := hN
  refine lv_dup hx hb d_1_1_241 rfl ?_
  refine lv_bipush (v := 108) hx hb d_1_1_242 (by decide) ?_
  refine q_gov V (q_runI (As := [.int 108]) (rest := [.ref q433, .int 7, .ref q32]) (d := 3) (mc := 2) (ms := 111) C0 V rfl LI_NH_103 (c_Dec_init l D g w434 103 q433 104 hN hn102 _) rfl hl.1 rfl (Nat.le_of_ble_eq_true rfl) ⟨by decide, by decide⟩ ⟨Nat.le_of_ble_eq_true rfl, Nat.le_of_ble_eq_true rfl⟩ d_1_1_244) (fun u438 H locs hp437 V => ?_)
  obtain ⟨q439, q440, hg441, hn102, hq442, hq443, hN⟩ := hp437
  have hn103 : u438[104]? = (some (q439, .inr (2, [.ref q440, .int 0, .int 0])) : Option (Nat × va_E)) := hq442
  have hn104 : u438[105]? = (some (q440, .inl (g 0, 108, .inl (fun _ => 0))) : Option (Nat × va_E)) := hq443
  replace hN : u438.length = 106 := hN
  replace hn5 := (hg441 _ (q_nc (q_pd 6 103 rfl) (q_nc (q_pd 6 104 rfl) (q_nc (q_pd 6 105 rfl) List.not_mem_nil)))).trans ((hu435 _ (q_pd 6 103 rfl)).trans ((hu432 _ (q_pd 6 5 rfl)).trans ((hg428 _ (q_nc (q_pd 6 101 rfl) (q_nc (q_pd 6 102 rfl) List.not_mem_nil))).trans ((hu423 _ (q_pd 6 101 rfl)).trans (hn5)))))
  have ho444 := hn5
  refine q_aast (t := 5) (ci := 3) (i9 := 7) C0 V hn5 rfl hn102 rfl (by decide) (by unfold vp_in; decide) d_1_1_247 (fun H locs w445 hu446 hn5 V => ?_)
  replace hn5 : w445[6]? = (some (q32, .inl (g 5, 10, .inr (.inr (.inr (.inr (va_up (va_up (va_up (va_up (va_up (va_up (va_up (va_up (fun _ => none) 0 (some q244)) 1 (some q271)) 2 (some q298)) 3 (some q325)) 4 (some q352)) 5 (some q379)) 6 (some q406)) 7 (some q433))))))) : Option (Nat × va_E)) := hn5
  replace hN : w445.length = 106 := (q_len1 hu446 hn5 ho444).trans hN
  refine lv_iinc (v := 8) (lv' := [(1, .int 8), (0, .ref qO0)]) hx hb d_1_1_248 hl (k := 0) rfl (by decide) (by decide) rfl (fun ls hl => ?_)
  refine lv_goto (tgt := 212) hx hb d_1_1_251 (by decide) ?_
  refine lv_iload_n hx hb d_1_1_212 rfl (lv_at hl 0 rfl) ?_
  refine lv_bipush (v := 10) hx hb d_1_1_213 (by decide) ?_
  refine lv_icmp_ge (tgt := 254) hx hb d_1_1_215 (by decide) (fun c447 => absurd c447 (by decide)) (fun c447 => ?_)
  refine lv_aload_n hx hb d_1_1_218 rfl (lv_at hl 1 rfl) ?_
  replace hO0 := (hu446 _ (q_pd 0 6 rfl)).trans ((hg441 _ (q_nc (q_pd 0 103 rfl) (q_nc (q_pd 0 104 rfl) (q_nc (q_pd 0 105 rfl) List.not_mem_nil)))).trans ((hu435 _ (q_pd 0 103 rfl)).trans (hO0)))
  refine q_get (ci := 0) (j := 2) (v := .ref q25) C0 V i_NH rfl rfl hO0 (by decide) w_426 rfl d_1_1_219 ?_
  refine lv_iload_n hx hb d_1_1_222 rfl (lv_at hl 0 rfl) ?_
  refine q_new (ci := 2) (fs := [.null, .int 0, .int 0]) C0 V hN i_Big o_Big rfl w_68 w_79 w_4 rfl (fun j hj => by rcases (show j = 0 ∨ j = 1 ∨ j = 2 by omega) with rfl | rfl | rfl <;> rfl) (Nat.le_of_ble_eq_true rfl) (Nat.le_of_ble_eq_true rfl) d_1_1_223 (fun q448 H w449 hu450 hn451 hN V => ?_)
  have hn105 : w449[106]? = (some (q448, .inr (2, [.null, .int 0, .int 0])) : Option (Nat × va_E)) := hn451
  replace hN : w449.length = 107 := hN
  refine lv_dup hx hb d_1_1_226 rfl ?_
  refine lv_bipush (v := 68) hx hb d_1_1_227 (by decide) ?_
  refine q_gov V (q_runI (As := [.int 68]) (rest := [.ref q448, .int 8, .ref q25]) (d := 2) (mc := 1) (ms := 68) C0 V rfl LI_NH_102 (c_Big_init l D g w449 106 q448 107 hN hn105 _) rfl hl.1 rfl (Nat.le_of_ble_eq_true rfl) ⟨by decide, by decide⟩ ⟨Nat.le_of_ble_eq_true rfl, Nat.le_of_ble_eq_true rfl⟩ d_1_1_229) (fun u453 H locs hp452 V => ?_)
  obtain ⟨q454, hg455, hn105, hq456, hN⟩ := hp452
  have hn106 : u453[107]? = (some (q454, .inl (g 0, 68, .inl (fun _ => 0))) : Option (Nat × va_E)) := hq456
  replace hN : u453.length = 108 := hN
  replace hn4 := (hg455 _ (q_nc (q_pd 5 106 rfl) (q_nc (q_pd 5 107 rfl) List.not_mem_nil))).trans ((hu450 _ (q_pd 5 106 rfl)).trans ((hu446 _ (q_pd 5 6 rfl)).trans ((hg441 _ (q_nc (q_pd 5 103 rfl) (q_nc (q_pd 5 104 rfl) (q_nc (q_pd 5 105 rfl) List.not_mem_nil)))).trans ((hu435 _ (q_pd 5 103 rfl)).trans (hn4)))))
  have ho457 := hn4
  refine q_aast (t := 4) (ci := 2) (i9 := 8) C0 V hn4 rfl hn105 rfl (by decide) (by unfold vp_in; decide) d_1_1_232 (fun H locs w458 hu459 hn4 V => ?_)
  replace hn4 : w458[5]? = (some (q25, .inl (g 4, 10, .inr (.inr (.inr (.inr (va_up (va_up (va_up (va_up (va_up (va_up (va_up (va_up (va_up (fun _ => none) 0 (some q232)) 1 (some q259)) 2 (some q286)) 3 (some q313)) 4 (some q340)) 5 (some q367)) 6 (some q394)) 7 (some q421)) 8 (some q448))))))) : Option (Nat × va_E)) := hn4
  replace hN : w458.length = 108 := (q_len1 hu459 hn4 ho457).trans hN
  refine lv_aload_n hx hb d_1_1_233 rfl (lv_at hl 1 rfl) ?_
  replace hO0 := (hu459 _ (q_pd 0 5 rfl)).trans ((hg455 _ (q_nc (q_pd 0 106 rfl) (q_nc (q_pd 0 107 rfl) List.not_mem_nil))).trans ((hu450 _ (q_pd 0 106 rfl)).trans (hO0)))
  refine q_get (ci := 0) (j := 3) (v := .ref q32) C0 V i_NH rfl rfl hO0 (by decide) w_427 rfl d_1_1_234 ?_
  refine lv_iload_n hx hb d_1_1_237 rfl (lv_at hl 0 rfl) ?_
  refine q_new (ci := 3) (fs := [.null, .int 0, .int 0]) C0 V hN i_Dec o_Dec rfl w_70 w_163 w_6 rfl (fun j hj => by rcases (show j = 0 ∨ j = 1 ∨ j = 2 by omega) with rfl | rfl | rfl <;> rfl) (Nat.le_of_ble_eq_true rfl) (Nat.le_of_ble_eq_true rfl) d_1_1_238 (fun q460 H w461 hu462 hn463 hN V => ?_)
  have hn107 : w461[108]? = (some (q460, .inr (3, [.null, .int 0, .int 0])) : Option (Nat × va_E)) := hn463
  replace hN : w461.length = 109 := hN
  refine lv_dup hx hb d_1_1_241 rfl ?_
  refine lv_bipush (v := 108) hx hb d_1_1_242 (by decide) ?_
  refine q_gov V (q_runI (As := [.int 108]) (rest := [.ref q460, .int 8, .ref q32]) (d := 3) (mc := 2) (ms := 111) C0 V rfl LI_NH_103 (c_Dec_init l D g w461 108 q460 109 hN hn107 _) rfl hl.1 rfl (Nat.le_of_ble_eq_true rfl) ⟨by decide, by decide⟩ ⟨Nat.le_of_ble_eq_true rfl, Nat.le_of_ble_eq_true rfl⟩ d_1_1_244) (fun u465 H locs hp464 V => ?_)
  obtain ⟨q466, q467, hg468, hn107, hq469, hq470, hN⟩ := hp464
  have hn108 : u465[109]? = (some (q466, .inr (2, [.ref q467, .int 0, .int 0])) : Option (Nat × va_E)) := hq469
  have hn109 : u465[110]? = (some (q467, .inl (g 0, 108, .inl (fun _ => 0))) : Option (Nat × va_E)) := hq470
  replace hN : u465.length = 111 := hN
  replace hn5 := (hg468 _ (q_nc (q_pd 6 108 rfl) (q_nc (q_pd 6 109 rfl) (q_nc (q_pd 6 110 rfl) List.not_mem_nil)))).trans ((hu462 _ (q_pd 6 108 rfl)).trans ((hu459 _ (q_pd 6 5 rfl)).trans ((hg455 _ (q_nc (q_pd 6 106 rfl) (q_nc (q_pd 6 107 rfl) List.not_mem_nil))).trans ((hu450 _ (q_pd 6 106 rfl)).trans (hn5)))))
  have ho471 := hn5
  refine q_aast (t := 5) (ci := 3) (i9 := 8) C0 V hn5 rfl hn107 rfl (by decide) (by unfold vp_in; decide) d_1_1_247 (fun H locs w472 hu473 hn5 V => ?_)
  replace hn5 : w472[6]? = (some (q32, .inl (g 5, 10, .inr (.inr (.inr (.inr (va_up (va_up (va_up (va_up (va_up (va_up (va_up (va_up (va_up (fun _ => none) 0 (some q244)) 1 (some q271)) 2 (some q298)) 3 (some q325)) 4 (some q352)) 5 (some q379)) 6 (some q406)) 7 (some q433)) 8 (some q460))))))) : Option (Nat × va_E)) := hn5
  replace hN : w472.length = 111 := (q_len1 hu473 hn5 ho471).trans hN
  refine lv_iinc (v := 9) (lv' := [(1, .int 9), (0, .ref qO0)]) hx hb d_1_1_248 hl (k := 0) rfl (by decide) (by decide) rfl (fun ls hl => ?_)
  refine lv_goto (tgt := 212) hx hb d_1_1_251 (by decide) ?_
  refine lv_iload_n hx hb d_1_1_212 rfl (lv_at hl 0 rfl) ?_
  refine lv_bipush (v := 10) hx hb d_1_1_213 (by decide) ?_
  refine lv_icmp_ge (tgt := 254) hx hb d_1_1_215 (by decide) (fun c474 => absurd c474 (by decide)) (fun c474 => ?_)
  refine lv_aload_n hx hb d_1_1_218 rfl (lv_at hl 1 rfl) ?_
  replace hO0 := (hu473 _ (q_pd 0 6 rfl)).trans ((hg468 _ (q_nc (q_pd 0 108 rfl) (q_nc (q_pd 0 109 rfl) (q_nc (q_pd 0 110 rfl) List.not_mem_nil)))).trans ((hu462 _ (q_pd 0 108 rfl)).trans (hO0)))
  refine q_get (ci := 0) (j := 2) (v := .ref q25) C0 V i_NH rfl rfl hO0 (by decide) w_426 rfl d_1_1_219 ?_
  refine lv_iload_n hx hb d_1_1_222 rfl (lv_at hl 0 rfl) ?_
  refine q_new (ci := 2) (fs := [.null, .int 0, .int 0]) C0 V hN i_Big o_Big rfl w_68 w_79 w_4 rfl (fun j hj => by rcases (show j = 0 ∨ j = 1 ∨ j = 2 by omega) with rfl | rfl | rfl <;> rfl) (Nat.le_of_ble_eq_true rfl) (Nat.le_of_ble_eq_true rfl) d_1_1_223 (fun q475 H w476 hu477 hn478 hN V => ?_)
  have hn110 : w476[111]? = (some (q475, .inr (2, [.null, .int 0, .int 0])) : Option (Nat × va_E)) := hn478
  replace hN : w476.length = 112 := hN
  refine lv_dup hx hb d_1_1_226 rfl ?_
  refine lv_bipush (v := 68) hx hb d_1_1_227 (by decide) ?_
  refine q_gov V (q_runI (As := [.int 68]) (rest := [.ref q475, .int 9, .ref q25]) (d := 2) (mc := 1) (ms := 68) C0 V rfl LI_NH_102 (c_Big_init l D g w476 111 q475 112 hN hn110 _) rfl hl.1 rfl (Nat.le_of_ble_eq_true rfl) ⟨by decide, by decide⟩ ⟨Nat.le_of_ble_eq_true rfl, Nat.le_of_ble_eq_true rfl⟩ d_1_1_229) (fun u480 H locs hp479 V => ?_)
  obtain ⟨q481, hg482, hn110, hq483, hN⟩ := hp479
  have hn111 : u480[112]? = (some (q481, .inl (g 0, 68, .inl (fun _ => 0))) : Option (Nat × va_E)) := hq483
  replace hN : u480.length = 113 := hN
  replace hn4 := (hg482 _ (q_nc (q_pd 5 111 rfl) (q_nc (q_pd 5 112 rfl) List.not_mem_nil))).trans ((hu477 _ (q_pd 5 111 rfl)).trans ((hu473 _ (q_pd 5 6 rfl)).trans ((hg468 _ (q_nc (q_pd 5 108 rfl) (q_nc (q_pd 5 109 rfl) (q_nc (q_pd 5 110 rfl) List.not_mem_nil)))).trans ((hu462 _ (q_pd 5 108 rfl)).trans (hn4)))))
  have ho484 := hn4
  refine q_aast (t := 4) (ci := 2) (i9 := 9) C0 V hn4 rfl hn110 rfl (by decide) (by unfold vp_in; decide) d_1_1_232 (fun H locs w485 hu486 hn4 V => ?_)
  replace hn4 : w485[5]? = (some (q25, .inl (g 4, 10, .inr (.inr (.inr (.inr (va_up (va_up (va_up (va_up (va_up (va_up (va_up (va_up (va_up (va_up (fun _ => none) 0 (some q232)) 1 (some q259)) 2 (some q286)) 3 (some q313)) 4 (some q340)) 5 (some q367)) 6 (some q394)) 7 (some q421)) 8 (some q448)) 9 (some q475))))))) : Option (Nat × va_E)) := hn4
  replace hN : w485.length = 113 := (q_len1 hu486 hn4 ho484).trans hN
  refine lv_aload_n hx hb d_1_1_233 rfl (lv_at hl 1 rfl) ?_
  replace hO0 := (hu486 _ (q_pd 0 5 rfl)).trans ((hg482 _ (q_nc (q_pd 0 111 rfl) (q_nc (q_pd 0 112 rfl) List.not_mem_nil))).trans ((hu477 _ (q_pd 0 111 rfl)).trans (hO0)))
  refine q_get (ci := 0) (j := 3) (v := .ref q32) C0 V i_NH rfl rfl hO0 (by decide) w_427 rfl d_1_1_234 ?_
  refine lv_iload_n hx hb d_1_1_237 rfl (lv_at hl 0 rfl) ?_
  refine q_new (ci := 3) (fs := [.null, .int 0, .int 0]) C0 V hN i_Dec o_Dec rfl w_70 w_163 w_6 rfl (fun j hj => by rcases (show j = 0 ∨ j = 1 ∨ j = 2 by omega) with rfl | rfl | rfl <;> rfl) (Nat.le_of_ble_eq_true rfl) (Nat.le_of_ble_eq_true rfl) d_1_1_238 (fun q487 H w488 hu489 hn490 hN V => ?_)
  have hn112 : w488[113]? = (some (q487, .inr (3, [.null, .int 0, .int 0])) : Option (Nat × va_E)) := hn490
  replace hN : w488.length = 114 := hN
  refine lv_dup hx hb d_1_1_241 rfl ?_
  refine lv_bipush (v := 108) hx hb d_1_1_242 (by decide) ?_
  refine q_gov V (q_runI (As := [.int 108]) (rest := [.ref q487, .int 9, .ref q32]) (d := 3) (mc := 2) (ms := 111) C0 V rfl LI_NH_103 (c_Dec_init l D g w488 113 q487 114 hN hn112 _) rfl hl.1 rfl (Nat.le_of_ble_eq_true rfl) ⟨by decide, by decide⟩ ⟨Nat.le_of_ble_eq_true rfl, Nat.le_of_ble_eq_true rfl⟩ d_1_1_244) (fun u492 H locs hp491 V => ?_)
  obtain ⟨q493, q494, hg495, hn112, hq496, hq497, hN⟩ := hp491
  have hn113 : u492[114]? = (some (q493, .inr (2, [.ref q494, .int 0, .int 0])) : Option (Nat × va_E)) := hq496
  have hn114 : u492[115]? = (some (q494, .inl (g 0, 108, .inl (fun _ => 0))) : Option (Nat × va_E)) := hq497
  replace hN : u492.length = 116 := hN
  replace hn5 := (hg495 _ (q_nc (q_pd 6 113 rfl) (q_nc (q_pd 6 114 rfl) (q_nc (q_pd 6 115 rfl) List.not_mem_nil)))).trans ((hu489 _ (q_pd 6 113 rfl)).trans ((hu486 _ (q_pd 6 5 rfl)).trans ((hg482 _ (q_nc (q_pd 6 111 rfl) (q_nc (q_pd 6 112 rfl) List.not_mem_nil))).trans ((hu477 _ (q_pd 6 111 rfl)).trans (hn5)))))
  have ho498 := hn5
  refine q_aast (t := 5) (ci := 3) (i9 := 9) C0 V hn5 rfl hn112 rfl (by decide) (by unfold vp_in; decide) d_1_1_247 (fun H locs w499 hu500 hn5 V => ?_)
  replace hn5 : w499[6]? = (some (q32, .inl (g 5, 10, .inr (.inr (.inr (.inr (va_up (va_up (va_up (va_up (va_up (va_up (va_up (va_up (va_up (va_up (fun _ => none) 0 (some q244)) 1 (some q271)) 2 (some q298)) 3 (some q325)) 4 (some q352)) 5 (some q379)) 6 (some q406)) 7 (some q433)) 8 (some q460)) 9 (some q487))))))) : Option (Nat × va_E)) := hn5
  replace hN : w499.length = 116 := (q_len1 hu500 hn5 ho498).trans hN
  refine lv_iinc (v := 10) (lv' := [(1, .int 10), (0, .ref qO0)]) hx hb d_1_1_248 hl (k := 0) rfl (by decide) (by decide) rfl (fun ls hl => ?_)
  refine lv_goto (tgt := 212) hx hb d_1_1_251 (by decide) ?_
  refine lv_iload_n hx hb d_1_1_212 rfl (lv_at hl 0 rfl) ?_
  refine lv_bipush (v := 10) hx hb d_1_1_213 (by decide) ?_
  refine lv_icmp_ge (tgt := 254) hx hb d_1_1_215 (by decide) (fun c501 => ?_) (fun c501 => absurd (by decide) c501)
  have RR : q_un w499 w499 [] := q_u0
  replace RR := q_ub hu500 RR
  replace hn112 := (RR 113 (by decide +kernel)).trans hn112
  replace hn113 := (RR 114 (by decide +kernel)).trans hn113
  replace hn114 := (RR 115 (by decide +kernel)).trans hn114
  replace RR := q_ubc hg495 RR
  replace RR := q_ub hu489 RR
  replace hO0 := (RR 0 (by decide +kernel)).trans hO0
  replace hn4 := (RR 5 (by decide +kernel)).trans hn4
  replace RR := q_ub hu486 RR
  replace hn110 := (RR 111 (by decide +kernel)).trans hn110
  replace hn111 := (RR 112 (by decide +kernel)).trans hn111
  replace RR := q_ubc hg482 RR
  replace RR := q_ub hu477 RR
  replace RR := q_ub hu473 RR
  replace hn107 := (RR 108 (by decide +kernel)).trans hn107
  replace hn108 := (RR 109 (by decide +kernel)).trans hn108
  replace hn109 := (RR 110 (by decide +kernel)).trans hn109
  replace RR := q_ubc hg468 RR
  replace RR := q_ub hu462 RR
  replace RR := q_ub hu459 RR
  replace hn105 := (RR 106 (by decide +kernel)).trans hn105
  replace hn106 := (RR 107 (by decide +kernel)).trans hn106
  replace RR := q_ubc hg455 RR
  replace RR := q_ub hu450 RR
  replace RR := q_ub hu446 RR
  replace hn102 := (RR 103 (by decide +kernel)).trans hn102
  replace hn103 := (RR 104 (by decide +kernel)).trans hn103
  replace hn104 := (RR 105 (by decide +kernel)).trans hn104
  replace RR := q_ubc hg441 RR
  replace RR := q_ub hu435 RR
  replace RR := q_ub hu432 RR
  replace hn100 := (RR 101 (by decide +kernel)).trans hn100
  replace hn101 := (RR 102 (by decide +kernel)).trans hn101
  replace RR := q_ubc hg428 RR
  replace RR := q_ub hu423 RR
  replace RR := q_ub hu419 RR
  replace hn97 := (RR 98 (by decide +kernel)).trans hn97
  replace hn98 := (RR 99 (by decide +kernel)).trans hn98
  replace hn99 := (RR 100 (by decide +kernel)).trans hn99
  replace RR := q_ubc hg414 RR
  replace RR := q_ub hu408 RR
  replace RR := q_ub hu405 RR
  replace hn95 := (RR 96 (by decide +kernel)).trans hn95
  replace hn96 := (RR 97 (by decide +kernel)).trans hn96
  replace RR := q_ubc hg401 RR
  replace RR := q_ub hu396 RR
  replace RR := q_ub hu392 RR
  replace hn92 := (RR 93 (by decide +kernel)).trans hn92
  replace hn93 := (RR 94 (by decide +kernel)).trans hn93
  replace hn94 := (RR 95 (by decide +kernel)).trans hn94
  replace RR := q_ubc hg387 RR
  replace RR := q_ub hu381 RR
  replace RR := q_ub hu378 RR
  replace hn90 := (RR 91 (by decide +kernel)).trans hn90
  replace hn91 := (RR 92 (by decide +kernel)).trans hn91
  replace RR := q_ubc hg374 RR
  replace RR := q_ub hu369 RR
  replace RR := q_ub hu365 RR
  replace hn87 := (RR 88 (by decide +kernel)).trans hn87
  replace hn88 := (RR 89 (by decide +kernel)).trans hn88
  replace hn89 := (RR 90 (by decide +kernel)).trans hn89
  replace RR := q_ubc hg360 RR
  replace RR := q_ub hu354 RR
  replace RR := q_ub hu351 RR
  replace hn85 := (RR 86 (by decide +kernel)).trans hn85
  replace hn86 := (RR 87 (by decide +kernel)).trans hn86
  replace RR := q_ubc hg347 RR
  replace RR := q_ub hu342 RR
  replace RR := q_ub hu338 RR
  replace hn82 := (RR 83 (by decide +kernel)).trans hn82
  replace hn83 := (RR 84 (by decide +kernel)).trans hn83
  replace hn84 := (RR 85 (by decide +kernel)).trans hn84
  replace RR := q_ubc hg333 RR
  replace RR := q_ub hu327 RR
  replace RR := q_ub hu324 RR
  replace hn80 := (RR 81 (by decide +kernel)).trans hn80
  replace hn81 := (RR 82 (by decide +kernel)).trans hn81
  replace RR := q_ubc hg320 RR
  replace RR := q_ub hu315 RR
  replace RR := q_ub hu311 RR
  replace hn77 := (RR 78 (by decide +kernel)).trans hn77
  replace hn78 := (RR 79 (by decide +kernel)).trans hn78
  replace hn79 := (RR 80 (by decide +kernel)).trans hn79
  replace RR := q_ubc hg306 RR
  replace RR := q_ub hu300 RR
  replace RR := q_ub hu297 RR
  replace hn75 := (RR 76 (by decide +kernel)).trans hn75
  replace hn76 := (RR 77 (by decide +kernel)).trans hn76
  replace RR := q_ubc hg293 RR
  replace RR := q_ub hu288 RR
  replace RR := q_ub hu284 RR
  replace hn72 := (RR 73 (by decide +kernel)).trans hn72
  replace hn73 := (RR 74 (by decide +kernel)).trans hn73
  replace hn74 := (RR 75 (by decide +kernel)).trans hn74
  replace RR := q_ubc hg279 RR
  replace RR := q_ub hu273 RR
  replace RR := q_ub hu270 RR
  replace hn70 := (RR 71 (by decide +kernel)).trans hn70
  replace hn71 := (RR 72 (by decide +kernel)).trans hn71
  replace RR := q_ubc hg266 RR
  replace RR := q_ub hu261 RR
  replace RR := q_ub hu257 RR
  replace hn67 := (RR 68 (by decide +kernel)).trans hn67
  replace hn68 := (RR 69 (by decide +kernel)).trans hn68
  replace hn69 := (RR 70 (by decide +kernel)).trans hn69
  replace RR := q_ubc hg252 RR
  replace RR := q_ub hu246 RR
  replace RR := q_ub hu243 RR
  replace hn65 := (RR 66 (by decide +kernel)).trans hn65
  replace hn66 := (RR 67 (by decide +kernel)).trans hn66
  replace RR := q_ubc hg239 RR
  replace RR := q_ub hu234 RR
  replace RR := q_ub hu229 RR
  replace hn39 := (RR 40 (by decide +kernel)).trans hn39
  replace hn40 := (RR 41 (by decide +kernel)).trans hn40
  replace hn41 := (RR 42 (by decide +kernel)).trans hn41
  replace hn42 := (RR 43 (by decide +kernel)).trans hn42
  replace hn43 := (RR 44 (by decide +kernel)).trans hn43
  replace hn44 := (RR 45 (by decide +kernel)).trans hn44
  replace hn45 := (RR 46 (by decide +kernel)).trans hn45
  replace hn46 := (RR 47 (by decide +kernel)).trans hn46
  replace hn47 := (RR 48 (by decide +kernel)).trans hn47
  replace hn48 := (RR 49 (by decide +kernel)).trans hn48
  replace hn49 := (RR 50 (by decide +kernel)).trans hn49
  replace hn50 := (RR 51 (by decide +kernel)).trans hn50
  replace hn51 := (RR 52 (by decide +kernel)).trans hn51
  replace hn52 := (RR 53 (by decide +kernel)).trans hn52
  replace hn53 := (RR 54 (by decide +kernel)).trans hn53
  replace hn54 := (RR 55 (by decide +kernel)).trans hn54
  replace hn55 := (RR 56 (by decide +kernel)).trans hn55
  replace hn56 := (RR 57 (by decide +kernel)).trans hn56
  replace hn57 := (RR 58 (by decide +kernel)).trans hn57
  replace hn58 := (RR 59 (by decide +kernel)).trans hn58
  replace hn59 := (RR 60 (by decide +kernel)).trans hn59
  replace hn60 := (RR 61 (by decide +kernel)).trans hn60
  replace hn61 := (RR 62 (by decide +kernel)).trans hn61
  replace hn62 := (RR 63 (by decide +kernel)).trans hn62
  replace hn63 := (RR 64 (by decide +kernel)).trans hn63
  replace hn64 := (RR 65 (by decide +kernel)).trans hn64
  replace RR := q_ubc hg202 RR
  replace RR := q_ub hu173 RR
  replace RR := q_ub hu169 RR
  replace hn38 := (RR 39 (by decide +kernel)).trans hn38
  replace RR := q_ubc hg167 RR
  replace RR := q_ub hu163 RR
  replace RR := q_ub hu159 RR
  replace hn37 := (RR 38 (by decide +kernel)).trans hn37
  replace RR := q_ubc hg157 RR
  replace RR := q_ub hu153 RR
  replace RR := q_ub hu149 RR
  replace hn35 := (RR 36 (by decide +kernel)).trans hn35
  replace hn36 := (RR 37 (by decide +kernel)).trans hn36
  replace RR := q_ubc hg146 RR
  replace RR := q_ub hu141 RR
  replace RR := q_ub hu137 RR
  replace hn34 := (RR 35 (by decide +kernel)).trans hn34
  replace RR := q_ubc hg135 RR
  replace RR := q_ub hu131 RR
  replace RR := q_ub hu127 RR
  replace hn33 := (RR 34 (by decide +kernel)).trans hn33
  replace RR := q_ubc hg125 RR
  replace RR := q_ub hu121 RR
  replace RR := q_ub hu117 RR
  replace hn29 := (RR 30 (by decide +kernel)).trans hn29
  replace hn30 := (RR 31 (by decide +kernel)).trans hn30
  replace hn31 := (RR 32 (by decide +kernel)).trans hn31
  replace hn32 := (RR 33 (by decide +kernel)).trans hn32
  replace RR := q_ubc hg112 RR
  replace RR := q_ub hu105 RR
  replace RR := q_ub hu101 RR
  replace hn8 := (RR 9 (by decide +kernel)).trans hn8
  replace hn9 := (RR 10 (by decide +kernel)).trans hn9
  replace hn10 := (RR 11 (by decide +kernel)).trans hn10
  replace hn11 := (RR 12 (by decide +kernel)).trans hn11
  replace hn12 := (RR 13 (by decide +kernel)).trans hn12
  replace hn13 := (RR 14 (by decide +kernel)).trans hn13
  replace hn14 := (RR 15 (by decide +kernel)).trans hn14
  replace hn15 := (RR 16 (by decide +kernel)).trans hn15
  replace hn16 := (RR 17 (by decide +kernel)).trans hn16
  replace hn17 := (RR 18 (by decide +kernel)).trans hn17
  replace hn18 := (RR 19 (by decide +kernel)).trans hn18
  replace hn19 := (RR 20 (by decide +kernel)).trans hn19
  replace hn20 := (RR 21 (by decide +kernel)).trans hn20
  replace hn21 := (RR 22 (by decide +kernel)).trans hn21
  replace hn22 := (RR 23 (by decide +kernel)).trans hn22
  replace hn23 := (RR 24 (by decide +kernel)).trans hn23
  replace hn24 := (RR 25 (by decide +kernel)).trans hn24
  replace hn25 := (RR 26 (by decide +kernel)).trans hn25
  replace hn26 := (RR 27 (by decide +kernel)).trans hn26
  replace hn27 := (RR 28 (by decide +kernel)).trans hn27
  replace hn28 := (RR 29 (by decide +kernel)).trans hn28
  replace RR := q_ubc hg79 RR
  replace RR := q_ub hu55 RR
  replace RR := q_ub hu51 RR
  replace hn7 := (RR 8 (by decide +kernel)).trans hn7
  replace RR := q_ub hu48 RR
  replace RR := q_ub hu44 RR
  replace hn6 := (RR 7 (by decide +kernel)).trans hn6
  replace RR := q_ub hu41 RR
  replace RR := q_ub hu37 RR
  replace RR := q_ub hu34 RR
  replace RR := q_ub hu30 RR
  replace RR := q_ub hu27 RR
  replace RR := q_ub hu23 RR
  replace hn2 := (RR 3 (by decide +kernel)).trans hn2
  replace hn3 := (RR 4 (by decide +kernel)).trans hn3
  replace RR := q_ubc hg20 RR
  replace RR := q_ub hu15 RR
  replace RR := q_ub hu11 RR
  replace hn0 := (RR 1 (by decide +kernel)).trans hn0
  replace hn1 := (RR 2 (by decide +kernel)).trans hn1
  exact q_retv C0 V (⟨(fun i => ([qO0, q1, q7, q13, q19, q25, q32, q39, q46, q53, q59, q60, q61, q62, q63, q64, q65, q66, q67, q68, q69, q70, q71, q72, q73, q74, q75, q76, q77, q78, q103, q109, q110, q111, q119, q129, q139, q145, q151, q161, q171, q177, q178, q179, q180, q181, q182, q183, q184, q185, q186, q187, q188, q189, q190, q191, q192, q193, q194, q195, q196, q197, q198, q199, q200, q201, q232, q238, q244, q250, q251, q259, q265, q271, q277, q278, q286, q292, q298, q304, q305, q313, q319, q325, q331, q332, q340, q346, q352, q358, q359, q367, q373, q379, q385, q386, q394, q400, q406, q412, q413, q421, q427, q433, q439, q440, q448, q454, q460, q466, q467, q475, q481, q487, q493, q494] : List Nat).getD i 0), rfl, (show q_fl w499 0 (nh_w g (fun i => ([qO0, q1, q7, q13, q19, q25, q32, q39, q46, q53, q59, q60, q61, q62, q63, q64, q65, q66, q67, q68, q69, q70, q71, q72, q73, q74, q75, q76, q77, q78, q103, q109, q110, q111, q119, q129, q139, q145, q151, q161, q171, q177, q178, q179, q180, q181, q182, q183, q184, q185, q186, q187, q188, q189, q190, q191, q192, q193, q194, q195, q196, q197, q198, q199, q200, q201, q232, q238, q244, q250, q251, q259, q265, q271, q277, q278, q286, q292, q298, q304, q305, q313, q319, q325, q331, q332, q340, q346, q352, q358, q359, q367, q373, q379, q385, q386, q394, q400, q406, q412, q413, q421, q427, q433, q439, q440, q448, q454, q460, q466, q467, q475, q481, q487, q493, q494] : List Nat).getD i 0)) from (q_fc hO0 (q_fc hn0 (q_fc hn1 (q_fc hn2 (q_fc hn3 (q_fc hn4 (q_fc hn5 (q_fc hn6 (q_fc hn7 (q_fc hn8 (q_fc hn9 (q_fc hn10 (q_fc hn11 (q_fc hn12 (q_fc hn13 (q_fc hn14 (q_fc hn15 (q_fc hn16 (q_fc hn17 (q_fc hn18 (q_fc hn19 (q_fc hn20 (q_fc hn21 (q_fc hn22 (q_fc hn23 (q_fc hn24 (q_fc hn25 (q_fc hn26 (q_fc hn27 (q_fc hn28 (q_fc hn29 (q_fc hn30 (q_fc hn31 (q_fc hn32 (q_fc hn33 (q_fc hn34 (q_fc hn35 (q_fc hn36 (q_fc hn37 (q_fc hn38 (q_fc hn39 (q_fc hn40 (q_fc hn41 (q_fc hn42 (q_fc hn43 (q_fc hn44 (q_fc hn45 (q_fc hn46 (q_fc hn47 (q_fc hn48 (q_fc hn49 (q_fc hn50 (q_fc hn51 (q_fc hn52 (q_fc hn53 (q_fc hn54 (q_fc hn55 (q_fc hn56 (q_fc hn57 (q_fc hn58 (q_fc hn59 (q_fc hn60 (q_fc hn61 (q_fc hn62 (q_fc hn63 (q_fc hn64 (q_fc hn65 (q_fc hn66 (q_fc hn67 (q_fc hn68 (q_fc hn69 (q_fc hn70 (q_fc hn71 (q_fc hn72 (q_fc hn73 (q_fc hn74 (q_fc hn75 (q_fc hn76 (q_fc hn77 (q_fc hn78 (q_fc hn79 (q_fc hn80 (q_fc hn81 (q_fc hn82 (q_fc hn83 (q_fc hn84 (q_fc hn85 (q_fc hn86 (q_fc hn87 (q_fc hn88 (q_fc hn89 (q_fc hn90 (q_fc hn91 (q_fc hn92 (q_fc hn93 (q_fc hn94 (q_fc hn95 (q_fc hn96 (q_fc hn97 (q_fc hn98 (q_fc hn99 (q_fc hn100 (q_fc hn101 (q_fc hn102 (q_fc hn103 (q_fc hn104 (q_fc hn105 (q_fc hn106 (q_fc hn107 (q_fc hn108 (q_fc hn109 (q_fc hn110 (q_fc hn111 (q_fc hn112 (q_fc hn113 (q_fc hn114 q_fn))))))))))))))))))))))))))))))))))))))))))))))))))))))))))))))))))))))))))))))))))))))))))))))))))))))))))))))))))))), hN⟩) d_1_1_254

