set_option maxRecDepth 100000 in
set_option maxHeartbeats 4000000 in
theorem c_Big_push (l : Launch) (D : va_G) (g : Nat → ClassId) (ws : va_W) (kO0 kA1 qO0 qA1 : Nat) (hO0 : ws[kO0]? = (some (qO0, .inr (2, [.ref qA1, .int 0, .int 0])) : Option (Nat × va_E))) (hA1 : ws[kA1]? = (some (qA1, .inl (g 0, 3, .inl (fun _ => 0))) : Option (Nat × va_E))) : q_mV l y_Big_push prog_2_method_6_code 2 1 0 0 D g [.ref qO0, .int 1] ws (fun u => q_un ws u [kO0, kA1] ∧ u[kO0]? = (some (qO0, .inr (2, [.ref qA1, .int 1, .int 0])) : Option (Nat × va_E)) ∧ u[kA1]? = (some (qA1, .inl (g 0, 3, .inl (upd (fun _ => 0) 0 1))) : Option (Nat × va_E))) := by
  intro sz
  refine q_into (by decide) (Nat.le_of_ble_eq_true rfl) ?_
  intro p e s m below meth c ls hsz C0 V hl
  have hx := C0.1
  have hb := C0.2.1
  have hl : lv_has ls 2 [(0, .ref qO0), (1, .int 1)] := hl
  have n_A1_O0 := q_df hA1 hO0
  have n_O0_A1 := Ne.symm (q_df hA1 hO0)
  have hF : q_un ws ws [kO0, kA1] := q_u0
  refine lv_aload_n hx hb d_2_6_0 rfl (lv_at hl 0 rfl) ?_
  refine q_get (ci := 2) (j := 1) (v := .int 0) C0 V i_Big rfl rfl hO0 (by decide) w_85 rfl d_2_6_1 ?_
  refine lv_aload_n hx hb d_2_6_4 rfl (lv_at hl 0 rfl) ?_
  refine q_get (ci := 2) (j := 0) (v := .ref qA1) C0 V i_Big rfl rfl hO0 (by decide) w_84 rfl d_2_6_5 ?_
  refine q_alen (t := 0) (v := 3) C0 V hA1 rfl (by first | rfl | decide) d_2_6_8 ?_
  refine lv_icmp_ge (tgt := 32) hx hb d_2_6_9 (by decide) (fun c1 => absurd c1 (by decide)) (fun c1 => ?_)
  refine lv_aload_n hx hb d_2_6_12 rfl (lv_at hl 0 rfl) ?_
  refine q_get (ci := 2) (j := 0) (v := .ref qA1) C0 V i_Big rfl rfl hO0 (by decide) w_84 rfl d_2_6_13 ?_
  refine lv_aload_n hx hb d_2_6_16 rfl (lv_at hl 0 rfl) ?_
  refine q_get (ci := 2) (j := 1) (v := .int 0) C0 V i_Big rfl rfl hO0 (by decide) w_85 rfl d_2_6_17 ?_
  refine lv_iload_n hx hb d_2_6_20 rfl (lv_at hl 1 rfl) ?_
  refine q_iast C0 V hA1 (by unfold vp_in; decide) d_2_6_21 (fun H locs w2 hu3 hA1 V => ?_)
  replace hA1 : w2[kA1]? = (some (qA1, .inl (g 0, 3, .inl (upd (fun _ => 0) 0 1))) : Option (Nat × va_E)) := hA1
  replace hF := q_us hF hu3 (.tail _ (.head _))
  refine lv_aload_n hx hb d_2_6_22 rfl (lv_at hl 0 rfl) ?_
  refine lv_dup hx hb d_2_6_23 rfl ?_
  replace hO0 := (hu3 _ n_O0_A1).trans (hO0)
  refine q_get (ci := 2) (j := 1) (v := .int 0) C0 V i_Big rfl rfl hO0 (by decide) w_85 rfl d_2_6_24 ?_
  refine lv_iconst (v := 1) hx hb d_2_6_27 (by decide) ?_
  refine lv_iadd hx hb d_2_6_28 ?_
  refine q_ti (v := 1) (by decide) ?_
  refine q_put (ci := 2) (j := 1) (v := .int 1) (ty := .int) C0 V i_Big o_Big n_Big rfl rfl hO0 (by decide) w_85 rfl rfl rfl rfl (Nat.le_of_ble_eq_true rfl) d_2_6_29 (fun H locs w4 hu5 hO0 V => ?_)
  replace hO0 : w4[kO0]? = (some (qO0, .inr (2, [.ref qA1, .int 1, .int 0])) : Option (Nat × va_E)) := hO0
  replace hF := q_us hF hu5 (.head _)
  replace hA1 := (hu5 _ n_A1_O0).trans (hA1)
  exact q_retv C0 V (⟨hF, hO0, hA1⟩) d_2_6_32
set_option maxRecDepth 100000 in
set_option maxHeartbeats 4000000 in
theorem c_Big_push_2 (l : Launch) (D : va_G) (g : Nat → ClassId) (ws : va_W) (kO0 kA1 qO0 qA1 : Nat) (hO0 : ws[kO0]? = (some (qO0, .inr (2, [.ref qA1, .int 1, .int 0])) : Option (Nat × va_E))) (hA1 : ws[kA1]? = (some (qA1, .inl (g 0, 3, .inl (upd (fun _ => 0) 0 1))) : Option (Nat × va_E))) : q_mV l y_Big_push prog_2_method_6_code 2 1 0 0 D g [.ref qO0, .int 0] ws (fun u => q_un ws u [kO0, kA1] ∧ u[kO0]? = (some (qO0, .inr (2, [.ref qA1, .int 2, .int 0])) : Option (Nat × va_E)) ∧ u[kA1]? = (some (qA1, .inl (g 0, 3, .inl (upd (fun _ => 0) 0 1))) : Option (Nat × va_E))) := by
  intro sz
  refine q_into (by decide) (Nat.le_of_ble_eq_true rfl) ?_
  intro p e s m below meth c ls hsz C0 V hl
  have hx := C0.1
  have hb := C0.2.1
  have hl : lv_has ls 2 [(0, .ref qO0), (1, .int 0)] := hl
  have n_A1_O0 := q_df hA1 hO0
  have n_O0_A1 := Ne.symm (q_df hA1 hO0)
  have hF : q_un ws ws [kO0, kA1] := q_u0
  refine lv_aload_n hx hb d_2_6_0 rfl (lv_at hl 0 rfl) ?_
  refine q_get (ci := 2) (j := 1) (v := .int 1) C0 V i_Big rfl rfl hO0 (by decide) w_85 rfl d_2_6_1 ?_
  refine lv_aload_n hx hb d_2_6_4 rfl (lv_at hl 0 rfl) ?_
  refine q_get (ci := 2) (j := 0) (v := .ref qA1) C0 V i_Big rfl rfl hO0 (by decide) w_84 rfl d_2_6_5 ?_
  refine q_alen (t := 0) (v := 3) C0 V hA1 rfl (by first | rfl | decide) d_2_6_8 ?_
  refine lv_icmp_ge (tgt := 32) hx hb d_2_6_9 (by decide) (fun c1 => absurd c1 (by decide)) (fun c1 => ?_)
  refine lv_aload_n hx hb d_2_6_12 rfl (lv_at hl 0 rfl) ?_
  refine q_get (ci := 2) (j := 0) (v := .ref qA1) C0 V i_Big rfl rfl hO0 (by decide) w_84 rfl d_2_6_13 ?_
  refine lv_aload_n hx hb d_2_6_16 rfl (lv_at hl 0 rfl) ?_
  refine q_get (ci := 2) (j := 1) (v := .int 1) C0 V i_Big rfl rfl hO0 (by decide) w_85 rfl d_2_6_17 ?_
  refine lv_iload_n hx hb d_2_6_20 rfl (lv_at hl 1 rfl) ?_
  refine q_iast C0 V hA1 (by unfold vp_in; decide) d_2_6_21 (fun H locs w2 hu3 hA1 V => ?_)
  replace hA1 : w2[kA1]? = (some (qA1, .inl (g 0, 3, .inl (upd (upd (fun _ => 0) 0 1) 1 0))) : Option (Nat × va_E)) := hA1
  replace hA1 := q_re (y := (qA1, .inl (g 0, 3, .inl (upd (fun _ => 0) 0 1)))) hA1 (q_eI (by funext k; simp only [upd]; (repeat' split) <;> first | rfl | omega))
  replace hA1 : w2[kA1]? = (some (qA1, .inl (g 0, 3, .inl (upd (fun _ => 0) 0 1))) : Option (Nat × va_E)) := hA1
  replace hF := q_us hF hu3 (.tail _ (.head _))
  refine lv_aload_n hx hb d_2_6_22 rfl (lv_at hl 0 rfl) ?_
  refine lv_dup hx hb d_2_6_23 rfl ?_
  replace hO0 := (hu3 _ n_O0_A1).trans (hO0)
  refine q_get (ci := 2) (j := 1) (v := .int 1) C0 V i_Big rfl rfl hO0 (by decide) w_85 rfl d_2_6_24 ?_
  refine lv_iconst (v := 1) hx hb d_2_6_27 (by decide) ?_
  refine lv_iadd hx hb d_2_6_28 ?_
  refine q_ti (v := 2) (by decide) ?_
  refine q_put (ci := 2) (j := 1) (v := .int 2) (ty := .int) C0 V i_Big o_Big n_Big rfl rfl hO0 (by decide) w_85 rfl rfl rfl rfl (Nat.le_of_ble_eq_true rfl) d_2_6_29 (fun H locs w4 hu5 hO0 V => ?_)
  replace hO0 : w4[kO0]? = (some (qO0, .inr (2, [.ref qA1, .int 2, .int 0])) : Option (Nat × va_E)) := hO0
  replace hF := q_us hF hu5 (.head _)
  replace hA1 := (hu5 _ n_A1_O0).trans (hA1)
  exact q_retv C0 V (⟨hF, hO0, hA1⟩) d_2_6_32
set_option maxRecDepth 100000 in
set_option maxHeartbeats 4000000 in
theorem c_Big_push_3 (l : Launch) (D : va_G) (g : Nat → ClassId) (ws : va_W) (kO0 kA1 qO0 qA1 : Nat) (hO0 : ws[kO0]? = (some (qO0, .inr (2, [.ref qA1, .int 2, .int 0])) : Option (Nat × va_E))) (hA1 : ws[kA1]? = (some (qA1, .inl (g 0, 3, .inl (upd (fun _ => 0) 0 1))) : Option (Nat × va_E))) : q_mV l y_Big_push prog_2_method_6_code 2 1 0 0 D g [.ref qO0, .int 0] ws (fun u => q_un ws u [kO0, kA1] ∧ u[kO0]? = (some (qO0, .inr (2, [.ref qA1, .int 3, .int 0])) : Option (Nat × va_E)) ∧ u[kA1]? = (some (qA1, .inl (g 0, 3, .inl (upd (fun _ => 0) 0 1))) : Option (Nat × va_E))) := by
  intro sz
  refine q_into (by decide) (Nat.le_of_ble_eq_true rfl) ?_
  intro p e s m below meth c ls hsz C0 V hl
  have hx := C0.1
  have hb := C0.2.1
  have hl : lv_has ls 2 [(0, .ref qO0), (1, .int 0)] := hl
  have n_A1_O0 := q_df hA1 hO0
  have n_O0_A1 := Ne.symm (q_df hA1 hO0)
  have hF : q_un ws ws [kO0, kA1] := q_u0
  refine lv_aload_n hx hb d_2_6_0 rfl (lv_at hl 0 rfl) ?_
  refine q_get (ci := 2) (j := 1) (v := .int 2) C0 V i_Big rfl rfl hO0 (by decide) w_85 rfl d_2_6_1 ?_
  refine lv_aload_n hx hb d_2_6_4 rfl (lv_at hl 0 rfl) ?_
  refine q_get (ci := 2) (j := 0) (v := .ref qA1) C0 V i_Big rfl rfl hO0 (by decide) w_84 rfl d_2_6_5 ?_
  refine q_alen (t := 0) (v := 3) C0 V hA1 rfl (by first | rfl | decide) d_2_6_8 ?_
  refine lv_icmp_ge (tgt := 32) hx hb d_2_6_9 (by decide) (fun c1 => absurd c1 (by decide)) (fun c1 => ?_)
  refine lv_aload_n hx hb d_2_6_12 rfl (lv_at hl 0 rfl) ?_
  refine q_get (ci := 2) (j := 0) (v := .ref qA1) C0 V i_Big rfl rfl hO0 (by decide) w_84 rfl d_2_6_13 ?_
  refine lv_aload_n hx hb d_2_6_16 rfl (lv_at hl 0 rfl) ?_
  refine q_get (ci := 2) (j := 1) (v := .int 2) C0 V i_Big rfl rfl hO0 (by decide) w_85 rfl d_2_6_17 ?_
  refine lv_iload_n hx hb d_2_6_20 rfl (lv_at hl 1 rfl) ?_
  refine q_iast C0 V hA1 (by unfold vp_in; decide) d_2_6_21 (fun H locs w2 hu3 hA1 V => ?_)
  replace hA1 : w2[kA1]? = (some (qA1, .inl (g 0, 3, .inl (upd (upd (fun _ => 0) 0 1) 2 0))) : Option (Nat × va_E)) := hA1
  replace hA1 := q_re (y := (qA1, .inl (g 0, 3, .inl (upd (fun _ => 0) 0 1)))) hA1 (q_eI (by funext k; simp only [upd]; (repeat' split) <;> first | rfl | omega))
  replace hA1 : w2[kA1]? = (some (qA1, .inl (g 0, 3, .inl (upd (fun _ => 0) 0 1))) : Option (Nat × va_E)) := hA1
  replace hF := q_us hF hu3 (.tail _ (.head _))
  refine lv_aload_n hx hb d_2_6_22 rfl (lv_at hl 0 rfl) ?_
  refine lv_dup hx hb d_2_6_23 rfl ?_
  replace hO0 := (hu3 _ n_O0_A1).trans (hO0)
  refine q_get (ci := 2) (j := 1) (v := .int 2) C0 V i_Big rfl rfl hO0 (by decide) w_85 rfl d_2_6_24 ?_
  refine lv_iconst (v := 1) hx hb d_2_6_27 (by decide) ?_
  refine lv_iadd hx hb d_2_6_28 ?_
  refine q_ti (v := 3) (by decide) ?_
  refine q_put (ci := 2) (j := 1) (v := .int 3) (ty := .int) C0 V i_Big o_Big n_Big rfl rfl hO0 (by decide) w_85 rfl rfl rfl rfl (Nat.le_of_ble_eq_true rfl) d_2_6_29 (fun H locs w4 hu5 hO0 V => ?_)
  replace hO0 : w4[kO0]? = (some (qO0, .inr (2, [.ref qA1, .int 3, .int 0])) : Option (Nat × va_E)) := hO0
  replace hF := q_us hF hu5 (.head _)
  replace hA1 := (hu5 _ n_A1_O0).trans (hA1)
  exact q_retv C0 V (⟨hF, hO0, hA1⟩) d_2_6_32
theorem d_2_7_9 : decode prog_2_method_7_code 9 = .ok (.aload_n 0, 1) := by decide +kernel
theorem d_2_7_10 : decode prog_2_method_7_code 10 = .ok (.getfield 7, 3) := by decide +kernel
theorem d_2_7_13 : decode prog_2_method_7_code 13 = .ok (.iload_n 1, 1) := by decide +kernel
theorem d_2_7_14 : decode prog_2_method_7_code 14 = .ok (.iconst 1, 1) := by decide +kernel
theorem d_2_7_15 : decode prog_2_method_7_code 15 = .ok (.isub, 1) := by decide +kernel
theorem d_2_7_16 : decode prog_2_method_7_code 16 = .ok (.iaload, 1) := by decide +kernel
theorem d_2_7_17 : decode prog_2_method_7_code 17 = .ok (.ifCond .ne 9, 3) := by decide +kernel
theorem d_2_7_20 : decode prog_2_method_7_code 20 = .ok (.iinc 1 (-1), 3) := by decide +kernel
theorem d_2_7_23 : decode prog_2_method_7_code 23 = .ok (.goto (-18), 3) := by decide +kernel
set_option maxRecDepth 100000 in
set_option maxHeartbeats 4000000 in
theorem c_Big_trim_2 (l : Launch) (D : va_G) (g : Nat → ClassId) (ws : va_W) (kO0 kA1 qO0 qA1 : Nat) (hO0 : ws[kO0]? = (some (qO0, .inr (2, [.ref qA1, .int 3, .int 0])) : Option (Nat × va_E))) (hA1 : ws[kA1]? = (some (qA1, .inl (g 0, 3, .inl (upd (fun _ => 0) 0 1))) : Option (Nat × va_E))) : q_mV l y_Big_trim prog_2_method_7_code 2 1 0 0 D g [.ref qO0] ws (fun u => q_un ws u [kO0] ∧ u[kO0]? = (some (qO0, .inr (2, [.ref qA1, .int 1, .int 0])) : Option (Nat × va_E))) := by
  intro sz
  refine q_into (by decide) (Nat.le_of_ble_eq_true rfl) ?_
  intro p e s m below meth c ls hsz C0 V hl
  have hx := C0.1
  have hb := C0.2.1
  have hl : lv_has ls 2 [(0, .ref qO0)] := hl
  have n_A1_O0 := q_df hA1 hO0
  have hF : q_un ws ws [kO0] := q_u0
  refine lv_aload_n hx hb d_2_7_0 rfl (lv_at hl 0 rfl) ?_
  refine q_get (ci := 2) (j := 1) (v := .int 3) C0 V i_Big rfl rfl hO0 (by decide) w_85 rfl d_2_7_1 ?_
  refine lv_istore_n (lv' := [(1, .int 3), (0, .ref qO0)]) hx hb d_2_7_4 rfl hl (by decide) rfl (fun ls hl => ?_)
  refine lv_iload_n hx hb d_2_7_5 rfl (lv_at hl 0 rfl) ?_
  refine lv_if_le (tgt := 26) hx hb d_2_7_6 (by decide) (fun c1 => absurd c1 (by decide)) (fun c1 => ?_)
  refine lv_aload_n hx hb d_2_7_9 rfl (lv_at hl 1 rfl) ?_
  refine q_get (ci := 2) (j := 0) (v := .ref qA1) C0 V i_Big rfl rfl hO0 (by decide) w_84 rfl d_2_7_10 ?_
  refine lv_iload_n hx hb d_2_7_13 rfl (lv_at hl 0 rfl) ?_
  refine lv_iconst (v := 1) hx hb d_2_7_14 (by decide) ?_
  refine lv_isub hx hb d_2_7_15 ?_
  refine q_ti (v := 2) (by decide) ?_
  refine q_iald C0 V hA1 (by unfold vp_in; decide) d_2_7_16 ?_
  refine q_ti (v := 0) (by first | rfl | decide | simp [upd, vp_updL, sb_cl0]) ?_
  refine lv_if_ne (tgt := 26) hx hb d_2_7_17 (by decide) (fun c2 => absurd (by decide) c2) (fun c2 => ?_)
  refine lv_iinc (v := 2) (lv' := [(1, .int 2), (0, .ref qO0)]) hx hb d_2_7_20 hl (k := 0) rfl (by decide) (by decide) rfl (fun ls hl => ?_)
  refine lv_goto (tgt := 5) hx hb d_2_7_23 (by decide) ?_
  refine lv_iload_n hx hb d_2_7_5 rfl (lv_at hl 0 rfl) ?_
  refine lv_if_le (tgt := 26) hx hb d_2_7_6 (by decide) (fun c3 => absurd c3 (by decide)) (fun c3 => ?_)
  refine lv_aload_n hx hb d_2_7_9 rfl (lv_at hl 1 rfl) ?_
  refine q_get (ci := 2) (j := 0) (v := .ref qA1) C0 V i_Big rfl rfl hO0 (by decide) w_84 rfl d_2_7_10 ?_
  refine lv_iload_n hx hb d_2_7_13 rfl (lv_at hl 0 rfl) ?_
  refine lv_iconst (v := 1) hx hb d_2_7_14 (by decide) ?_
  refine lv_isub hx hb d_2_7_15 ?_
  refine q_ti (v := 1) (by decide) ?_
  refine q_iald C0 V hA1 (by unfold vp_in; decide) d_2_7_16 ?_
  refine q_ti (v := 0) (by first | rfl | decide | simp [upd, vp_updL, sb_cl0]) ?_
  refine lv_if_ne (tgt := 26) hx hb d_2_7_17 (by decide) (fun c4 => absurd (by decide) c4) (fun c4 => ?_)
  refine lv_iinc (v := 1) (lv' := [(1, .int 1), (0, .ref qO0)]) hx hb d_2_7_20 hl (k := 0) rfl (by decide) (by decide) rfl (fun ls hl => ?_)
  refine lv_goto (tgt := 5) hx hb d_2_7_23 (by decide) ?_
  refine lv_iload_n hx hb d_2_7_5 rfl (lv_at hl 0 rfl) ?_
  refine lv_if_le (tgt := 26) hx hb d_2_7_6 (by decide) (fun c5 => absurd c5 (by decide)) (fun c5 => ?_)
  refine lv_aload_n hx hb d_2_7_9 rfl (lv_at hl 1 rfl) ?_
  refine q_get (ci := 2) (j := 0) (v := .ref qA1) C0 V i_Big rfl rfl hO0 (by decide) w_84 rfl d_2_7_10 ?_
  refine lv_iload_n hx hb d_2_7_13 rfl (lv_at hl 0 rfl) ?_
  refine lv_iconst (v := 1) hx hb d_2_7_14 (by decide) ?_
  refine lv_isub hx hb d_2_7_15 ?_
  refine q_ti (v := 0) (by decide) ?_
  refine q_iald C0 V hA1 (by unfold vp_in; decide) d_2_7_16 ?_
  refine q_ti (v := 1) (by first | rfl | decide | simp [upd, vp_updL, sb_cl0]) ?_
  refine lv_if_ne (tgt := 26) hx hb d_2_7_17 (by decide) (fun c6 => ?_) (fun c6 => absurd c6 (by decide))
  refine lv_aload_n hx hb d_2_7_26 rfl (lv_at hl 1 rfl) ?_
  refine lv_iload_n hx hb d_2_7_27 rfl (lv_at hl 0 rfl) ?_
  refine q_put (ci := 2) (j := 1) (v := .int 1) (ty := .int) C0 V i_Big o_Big n_Big rfl rfl hO0 (by decide) w_85 rfl rfl rfl rfl (Nat.le_of_ble_eq_true rfl) d_2_7_28 (fun H locs w7 hu8 hO0 V => ?_)
  replace hO0 : w7[kO0]? = (some (qO0, .inr (2, [.ref qA1, .int 1, .int 0])) : Option (Nat × va_E)) := hO0
  replace hF := q_us hF hu8 (.head _)
  refine lv_aload_n hx hb d_2_7_31 rfl (lv_at hl 1 rfl) ?_
  refine lv_aload_n hx hb d_2_7_32 rfl (lv_at hl 1 rfl) ?_
  refine q_get (ci := 2) (j := 2) (v := .int 0) C0 V i_Big rfl rfl hO0 (by decide) w_94 rfl d_2_7_33 ?_
  refine lv_if_eq (tgt := 47) hx hb d_2_7_36 (by decide) (fun c9 => ?_) (fun c9 => absurd (by decide) c9)
  refine lv_iconst (v := 0) hx hb d_2_7_47 (by decide) ?_
  refine q_put (ci := 2) (j := 2) (v := .int 0) (ty := .boolean) C0 V i_Big o_Big n_Big rfl rfl hO0 (by decide) w_94 rfl rfl rfl rfl (Nat.le_of_ble_eq_true rfl) d_2_7_48 (fun H locs w10 hu11 hO0 V => ?_)
  replace hO0 : w10[kO0]? = (some (qO0, .inr (2, [.ref qA1, .int 1, .int 0])) : Option (Nat × va_E)) := hO0
  replace hF := q_us hF hu11 (.head _)
  exact q_retv C0 V (⟨hF, hO0⟩) d_2_7_51
theorem d_2_3_0 : decode prog_2_method_3_code 0 = .ok (.aload_n 0, 1) := by decide +kernel
theorem d_2_3_1 : decode prog_2_method_3_code 1 = .ok (.invokevirtual 21, 3) := by decide +kernel
set_option maxRecDepth 100000 in
theorem w_197 : (Cond.code ({ cls := "NumberHouse$Big", name := "clear", desc := "()V" } : MethodName) prog_2_method_2_code (1 : Nat) (none : Option ClassFile.FieldType)) ∈ q_tbl := q_of1 197 rfl (by decide +kernel)
set_option maxRecDepth 100000 in
theorem w_194 : (Cond.methodLink "NumberHouse$Big" (21 : Nat) ({ cls := "NumberHouse$Big", name := "clear", desc := "()V" } : MethodName)) ∈ q_tbl := q_of1 194 rfl (by decide +kernel)
set_option maxRecDepth 100000 in
theorem w_195 : (Cond.instanceMethod ({ cls := "NumberHouse$Big", name := "clear", desc := "()V" } : MethodName)) ∈ q_tbl := q_of1 195 rfl (by decide +kernel)
set_option maxRecDepth 100000 in
theorem w_196 : (Cond.selects "NumberHouse$Big" ({ cls := "NumberHouse$Big", name := "clear", desc := "()V" } : MethodName) ({ cls := "NumberHouse$Big", name := "clear", desc := "()V" } : MethodName)) ∈ q_tbl := q_of1 196 rfl (by decide +kernel)
theorem LV_Big_21 : q_LV "NumberHouse$Big" 21 y_Big_clear prog_2_method_2_code 1 none 0 := ⟨w_197, w_4, w_194, w_195, w_196, ⟨by decide, by decide, by decide +kernel⟩⟩
theorem d_2_3_4 : decode prog_2_method_3_code 4 = .ok (.lload_n 1, 1) := by decide +kernel
theorem d_2_3_5 : decode prog_2_method_3_code 5 = .ok (.invokestatic 24, 3) := by decide +kernel
set_option maxRecDepth 100000 in
theorem w_198 : (Cond.methodLink "NumberHouse$Big" (24 : Nat) ({ cls := "java/lang/Math", name := "abs", desc := "(J)J" } : MethodName)) ∈ q_tbl := q_of1 198 rfl (by decide +kernel)
set_option maxRecDepth 100000 in
theorem w_199 : (Cond.static ({ cls := "java/lang/Math", name := "abs", desc := "(J)J" } : MethodName)) ∈ q_tbl := q_of1 199 rfl (by decide +kernel)
set_option maxRecDepth 100000 in
theorem w_7 : (Cond.initialized "java/lang/Math") ∈ q_tbl := q_of1 7 rfl (by decide +kernel)
set_option maxRecDepth 100000 in
theorem w_200 : (Cond.code ({ cls := "java/lang/Math", name := "abs", desc := "(J)J" } : MethodName) prog_29_method_61_code (2 : Nat) (some .long)) ∈ q_tbl := q_of1 200 rfl (by decide +kernel)
theorem d_2_3_8 : decode prog_2_method_3_code 8 = .ok (.lstore_n 3, 1) := by decide +kernel
theorem d_2_3_9 : decode prog_2_method_3_code 9 = .ok (.iconst 0, 1) := by decide +kernel
theorem d_2_3_10 : decode prog_2_method_3_code 10 = .ok (.istore 5, 2) := by decide +kernel
theorem d_2_3_12 : decode prog_2_method_3_code 12 = .ok (.iload 5, 2) := by decide +kernel
theorem d_2_3_14 : decode prog_2_method_3_code 14 = .ok (.iconst 3, 1) := by decide +kernel
theorem d_2_3_15 : decode prog_2_method_3_code 15 = .ok (.if_icmp .ge 24, 3) := by decide +kernel
theorem d_2_3_18 : decode prog_2_method_3_code 18 = .ok (.aload_n 0, 1) := by decide +kernel
theorem d_2_3_19 : decode prog_2_method_3_code 19 = .ok (.lload_n 3, 1) := by decide +kernel
theorem d_2_3_20 : decode prog_2_method_3_code 20 = .ok (.ldc2_w 30, 3) := by decide +kernel
set_option maxRecDepth 100000 in
theorem w_201 : (Cond.constantLong "NumberHouse$Big" (30 : Nat) (2147483647 : Int64)) ∈ q_tbl := q_of1 201 rfl (by decide +kernel)
theorem d_2_3_23 : decode prog_2_method_3_code 23 = .ok (.land, 1) := by decide +kernel
theorem d_2_3_24 : decode prog_2_method_3_code 24 = .ok (.l2i, 1) := by decide +kernel
theorem d_2_3_25 : decode prog_2_method_3_code 25 = .ok (.invokevirtual 32, 3) := by decide +kernel
set_option maxRecDepth 100000 in
theorem w_205 : (Cond.code ({ cls := "NumberHouse$Big", name := "push", desc := "(I)V" } : MethodName) prog_2_method_6_code (2 : Nat) (none : Option ClassFile.FieldType)) ∈ q_tbl := q_of1 205 rfl (by decide +kernel)
set_option maxRecDepth 100000 in
theorem w_202 : (Cond.methodLink "NumberHouse$Big" (32 : Nat) ({ cls := "NumberHouse$Big", name := "push", desc := "(I)V" } : MethodName)) ∈ q_tbl := q_of1 202 rfl (by decide +kernel)
set_option maxRecDepth 100000 in
theorem w_203 : (Cond.instanceMethod ({ cls := "NumberHouse$Big", name := "push", desc := "(I)V" } : MethodName)) ∈ q_tbl := q_of1 203 rfl (by decide +kernel)
set_option maxRecDepth 100000 in
theorem w_204 : (Cond.selects "NumberHouse$Big" ({ cls := "NumberHouse$Big", name := "push", desc := "(I)V" } : MethodName) ({ cls := "NumberHouse$Big", name := "push", desc := "(I)V" } : MethodName)) ∈ q_tbl := q_of1 204 rfl (by decide +kernel)
theorem LV_Big_32 : q_LV "NumberHouse$Big" 32 y_Big_push prog_2_method_6_code 2 none 1 := ⟨w_205, w_4, w_202, w_203, w_204, ⟨by decide, by decide, by decide +kernel⟩⟩
theorem d_2_3_28 : decode prog_2_method_3_code 28 = .ok (.lload_n 3, 1) := by decide +kernel
theorem d_2_3_29 : decode prog_2_method_3_code 29 = .ok (.bipush 31, 2) := by decide +kernel
theorem d_2_3_31 : decode prog_2_method_3_code 31 = .ok (.lushr, 1) := by decide +kernel
theorem d_2_3_32 : decode prog_2_method_3_code 32 = .ok (.lstore_n 3, 1) := by decide +kernel
theorem d_2_3_33 : decode prog_2_method_3_code 33 = .ok (.iinc 5 1, 3) := by decide +kernel
theorem d_2_3_36 : decode prog_2_method_3_code 36 = .ok (.goto (-24), 3) := by decide +kernel
theorem d_2_3_39 : decode prog_2_method_3_code 39 = .ok (.aload_n 0, 1) := by decide +kernel
theorem d_2_3_40 : decode prog_2_method_3_code 40 = .ok (.invokevirtual 36, 3) := by decide +kernel
set_option maxRecDepth 100000 in
theorem w_209 : (Cond.code ({ cls := "NumberHouse$Big", name := "trim", desc := "()V" } : MethodName) prog_2_method_7_code (2 : Nat) (none : Option ClassFile.FieldType)) ∈ q_tbl := q_of1 209 rfl (by decide +kernel)
set_option maxRecDepth 100000 in
theorem w_206 : (Cond.methodLink "NumberHouse$Big" (36 : Nat) ({ cls := "NumberHouse$Big", name := "trim", desc := "()V" } : MethodName)) ∈ q_tbl := q_of1 206 rfl (by decide +kernel)
set_option maxRecDepth 100000 in
theorem w_207 : (Cond.instanceMethod ({ cls := "NumberHouse$Big", name := "trim", desc := "()V" } : MethodName)) ∈ q_tbl := q_of1 207 rfl (by decide +kernel)
set_option maxRecDepth 100000 in
theorem w_208 : (Cond.selects "NumberHouse$Big" ({ cls := "NumberHouse$Big", name := "trim", desc := "()V" } : MethodName) ({ cls := "NumberHouse$Big", name := "trim", desc := "()V" } : MethodName)) ∈ q_tbl := q_of1 208 rfl (by decide +kernel)
theorem LV_Big_36 : q_LV "NumberHouse$Big" 36 y_Big_trim prog_2_method_7_code 2 none 0 := ⟨w_209, w_4, w_206, w_207, w_208, ⟨by decide, by decide, by decide +kernel⟩⟩
theorem d_2_3_43 : decode prog_2_method_3_code 43 = .ok (.aload_n 0, 1) := by decide +kernel
theorem d_2_3_44 : decode prog_2_method_3_code 44 = .ok (.lload_n 1, 1) := by decide +kernel
theorem d_2_3_45 : decode prog_2_method_3_code 45 = .ok (.lconst 0, 1) := by decide +kernel
theorem d_2_3_46 : decode prog_2_method_3_code 46 = .ok (.lcmp, 1) := by decide +kernel
theorem d_2_3_47 : decode prog_2_method_3_code 47 = .ok (.ifCond .ge 7, 3) := by decide +kernel
theorem d_2_3_54 : decode prog_2_method_3_code 54 = .ok (.iconst 0, 1) := by decide +kernel
theorem d_2_3_55 : decode prog_2_method_3_code 55 = .ok (.putfield 17, 3) := by decide +kernel
theorem d_2_3_58 : decode prog_2_method_3_code 58 = .ok (.return_, 1) := by decide +kernel
def y_Big_setLong : MethodName := ⟨"NumberHouse$Big", "setLong", "(J)V"⟩
set_option maxRecDepth 100000 in
set_option maxHeartbeats 4000000 in
theorem c_Big_setLong (l : Launch) (D : va_G) (g : Nat → ClassId) (ws : va_W) (kO0 kA1 qO0 qA1 : Nat) (hO0 : ws[kO0]? = (some (qO0, .inr (2, [.ref qA1, .int 0, .int 0])) : Option (Nat × va_E))) (hA1 : ws[kA1]? = (some (qA1, .inl (g 0, 3, .inl (fun _ => 0))) : Option (Nat × va_E))) : q_mV l y_Big_setLong prog_2_method_3_code 6 2 0 0 D g [.ref qO0, .long 1] ws (fun u => q_un ws u [kO0, kA1] ∧ u[kO0]? = (some (qO0, .inr (2, [.ref qA1, .int 1, .int 0])) : Option (Nat × va_E)) ∧ u[kA1]? = (some (qA1, .inl (g 0, 3, .inl (upd (fun _ => 0) 0 1))) : Option (Nat × va_E))) := by
  intro sz
  refine q_into (by decide) (Nat.le_of_ble_eq_true rfl) ?_
  intro p e s m below meth c ls hsz C0 V hl
  have hx := C0.1
  have hb := C0.2.1
  have hl : lv_has ls 6 [(0, .ref qO0), (1, .long 1)] := hl
  have n_A1_O0 := q_df hA1 hO0
  have hF : q_un ws ws [kO0, kA1] := q_u0
  refine lv_aload_n hx hb d_2_3_0 rfl (lv_at hl 0 rfl) ?_
  refine q_gov V (q_runV (As := []) (rest := []) (d := 1) (mc := 0) (ms := 0) (ci := 2) C0 V rfl LV_Big_21 (c_Big_clear l D g ws kO0 qO0 qA1 0 0 hO0 _) rfl rfl hO0 rfl hl.1 rfl (Nat.le_of_ble_eq_true rfl) ⟨by decide, by decide⟩ ⟨Nat.le_of_ble_eq_true rfl, Nat.le_of_ble_eq_true rfl⟩ d_2_3_1) (fun u2 H locs hp1 V => ?_)
  obtain ⟨hg3, hO0⟩ := hp1
  replace hF := q_uc hF hg3 (q_sc (.head _) (fun _ h => absurd h List.not_mem_nil))
  refine lv_lload_n hx hb d_2_3_4 rfl (lv_at hl 1 rfl) ?_
  refine q_absl C0 hl.1 rfl w_198 w_199 w_7 w_200 ⟨Nat.le_of_ble_eq_true rfl, Nat.le_of_ble_eq_true rfl⟩ ⟨Nat.le_of_ble_eq_true rfl, Nat.le_of_ble_eq_true rfl⟩ d_2_3_5 ?_
  refine q_tl (v := 1) (by decide) ?_
  refine lv_lstore_n (lv' := [(3, .long 1), (0, .ref qO0), (1, .long 1)]) hx hb d_2_3_8 rfl hl (by decide) rfl (fun ls hl => ?_)
  refine lv_iconst (v := 0) hx hb d_2_3_9 (by decide) ?_
  refine lv_istore (lv' := [(5, .int 0), (3, .long 1), (0, .ref qO0), (1, .long 1)]) hx hb d_2_3_10 hl (by decide) rfl (fun ls hl => ?_)
  refine lv_iload hx hb d_2_3_12 (lv_at hl 0 rfl) ?_
  refine lv_iconst (v := 3) hx hb d_2_3_14 (by decide) ?_
  refine lv_icmp_ge (tgt := 39) hx hb d_2_3_15 (by decide) (fun c4 => absurd c4 (by decide)) (fun c4 => ?_)
  refine lv_aload_n hx hb d_2_3_18 rfl (lv_at hl 2 rfl) ?_
  refine lv_lload_n hx hb d_2_3_19 rfl (lv_at hl 1 rfl) ?_
  refine q_ldc2 C0 rfl w_201 d_2_3_20 ?_
  refine lv_land hx hb d_2_3_23 ?_
  refine q_tl (v := 1) (by decide) ?_
  refine lv_l2i hx hb d_2_3_24 rfl ?_
  refine q_ti (v := 1) (by decide) ?_
  replace hA1 := (hg3 _ (q_nc n_A1_O0 List.not_mem_nil)).trans (hA1)
  refine q_gov V (q_runV (As := [.int 1]) (rest := []) (d := 1) (mc := 0) (ms := 0) (ci := 2) C0 V rfl LV_Big_32 (c_Big_push l D g u2 kO0 kA1 qO0 qA1 hO0 hA1 _) rfl rfl hO0 rfl hl.1 rfl (Nat.le_of_ble_eq_true rfl) ⟨by decide, by decide⟩ ⟨Nat.le_of_ble_eq_true rfl, Nat.le_of_ble_eq_true rfl⟩ d_2_3_25) (fun u6 H locs hp5 V => ?_)
  obtain ⟨hg7, hO0, hA1⟩ := hp5
  replace hF := q_uc hF hg7 (q_sc (.head _) (q_sc (.tail _ (.head _)) (fun _ h => absurd h List.not_mem_nil)))
  refine lv_lload_n hx hb d_2_3_28 rfl (lv_at hl 1 rfl) ?_
  refine lv_bipush (v := 31) hx hb d_2_3_29 (by decide) ?_
  refine lv_lushr hx hb d_2_3_31 rfl ?_
  refine q_tl (v := 0) (by decide) ?_
  refine lv_lstore_n (lv' := [(3, .long 0), (5, .int 0), (0, .ref qO0), (1, .long 1)]) hx hb d_2_3_32 rfl hl (by decide) rfl (fun ls hl => ?_)
  refine lv_iinc (v := 1) (lv' := [(5, .int 1), (3, .long 0), (0, .ref qO0), (1, .long 1)]) hx hb d_2_3_33 hl (k := 1) rfl (by decide) (by decide) rfl (fun ls hl => ?_)
  refine lv_goto (tgt := 12) hx hb d_2_3_36 (by decide) ?_
  refine lv_iload hx hb d_2_3_12 (lv_at hl 0 rfl) ?_
  refine lv_iconst (v := 3) hx hb d_2_3_14 (by decide) ?_
  refine lv_icmp_ge (tgt := 39) hx hb d_2_3_15 (by decide) (fun c8 => absurd c8 (by decide)) (fun c8 => ?_)
  refine lv_aload_n hx hb d_2_3_18 rfl (lv_at hl 2 rfl) ?_
  refine lv_lload_n hx hb d_2_3_19 rfl (lv_at hl 1 rfl) ?_
  refine q_ldc2 C0 rfl w_201 d_2_3_20 ?_
  refine lv_land hx hb d_2_3_23 ?_
  refine q_tl (v := 0) (by decide) ?_
  refine lv_l2i hx hb d_2_3_24 rfl ?_
  refine q_ti (v := 0) (by decide) ?_
  refine q_gov V (q_runV (As := [.int 0]) (rest := []) (d := 1) (mc := 0) (ms := 0) (ci := 2) C0 V rfl LV_Big_32 (c_Big_push_2 l D g u6 kO0 kA1 qO0 qA1 hO0 hA1 _) rfl rfl hO0 rfl hl.1 rfl (Nat.le_of_ble_eq_true rfl) ⟨by decide, by decide⟩ ⟨Nat.le_of_ble_eq_true rfl, Nat.le_of_ble_eq_true rfl⟩ d_2_3_25) (fun u10 H locs hp9 V => ?_)
  obtain ⟨hg11, hO0, hA1⟩ := hp9
  replace hF := q_uc hF hg11 (q_sc (.head _) (q_sc (.tail _ (.head _)) (fun _ h => absurd h List.not_mem_nil)))
  refine lv_lload_n hx hb d_2_3_28 rfl (lv_at hl 1 rfl) ?_
  refine lv_bipush (v := 31) hx hb d_2_3_29 (by decide) ?_
  refine lv_lushr hx hb d_2_3_31 rfl ?_
  refine q_tl (v := 0) (by decide) ?_
  refine lv_lstore_n (lv' := [(3, .long 0), (5, .int 1), (0, .ref qO0), (1, .long 1)]) hx hb d_2_3_32 rfl hl (by decide) rfl (fun ls hl => ?_)
  refine lv_iinc (v := 2) (lv' := [(5, .int 2), (3, .long 0), (0, .ref qO0), (1, .long 1)]) hx hb d_2_3_33 hl (k := 1) rfl (by decide) (by decide) rfl (fun ls hl => ?_)
  refine lv_goto (tgt := 12) hx hb d_2_3_36 (by decide) ?_
  refine lv_iload hx hb d_2_3_12 (lv_at hl 0 rfl) ?_
  refine lv_iconst (v := 3) hx hb d_2_3_14 (by decide) ?_
  refine lv_icmp_ge (tgt := 39) hx hb d_2_3_15 (by decide) (fun c12 => absurd c12 (by decide)) (fun c12 => ?_)
  refine lv_aload_n hx hb d_2_3_18 rfl (lv_at hl 2 rfl) ?_
  refine lv_lload_n hx hb d_2_3_19 rfl (lv_at hl 1 rfl) ?_
  refine q_ldc2 C0 rfl w_201 d_2_3_20 ?_
  refine lv_land hx hb d_2_3_23 ?_
  refine q_tl (v := 0) (by decide) ?_
  refine lv_l2i hx hb d_2_3_24 rfl ?_
  refine q_ti (v := 0) (by decide) ?_
  refine q_gov V (q_runV (As := [.int 0]) (rest := []) (d := 1) (mc := 0) (ms := 0) (ci := 2) C0 V rfl LV_Big_32 (c_Big_push_3 l D g u10 kO0 kA1 qO0 qA1 hO0 hA1 _) rfl rfl hO0 rfl hl.1 rfl (Nat.le_of_ble_eq_true rfl) ⟨by decide, by decide⟩ ⟨Nat.le_of_ble_eq_true rfl, Nat.le_of_ble_eq_true rfl⟩ d_2_3_25) (fun u14 H locs hp13 V => ?_)
  obtain ⟨hg15, hO0, hA1⟩ := hp13
  replace hF := q_uc hF hg15 (q_sc (.head _) (q_sc (.tail _ (.head _)) (fun _ h => absurd h List.not_mem_nil)))
  refine lv_lload_n hx hb d_2_3_28 rfl (lv_at hl 1 rfl) ?_
  refine lv_bipush (v := 31) hx hb d_2_3_29 (by decide) ?_
  refine lv_lushr hx hb d_2_3_31 rfl ?_
  refine q_tl (v := 0) (by decide) ?_
  refine lv_lstore_n (lv' := [(3, .long 0), (5, .int 2), (0, .ref qO0), (1, .long 1)]) hx hb d_2_3_32 rfl hl (by decide) rfl (fun ls hl => ?_)
  refine lv_iinc (v := 3) (lv' := [(5, .int 3), (3, .long 0), (0, .ref qO0), (1, .long 1)]) hx hb d_2_3_33 hl (k := 1) rfl (by decide) (by decide) rfl (fun ls hl => ?_)
  refine lv_goto (tgt := 12) hx hb d_2_3_36 (by decide) ?_
  refine lv_iload hx hb d_2_3_12 (lv_at hl 0 rfl) ?_
  refine lv_iconst (v := 3) hx hb d_2_3_14 (by decide) ?_
  refine lv_icmp_ge (tgt := 39) hx hb d_2_3_15 (by decide) (fun c16 => ?_) (fun c16 => absurd (by decide) c16)
  refine lv_aload_n hx hb d_2_3_39 rfl (lv_at hl 2 rfl) ?_
  refine q_gov V (q_runV (As := []) (rest := []) (d := 1) (mc := 0) (ms := 0) (ci := 2) C0 V rfl LV_Big_36 (c_Big_trim_2 l D g u14 kO0 kA1 qO0 qA1 hO0 hA1 _) rfl rfl hO0 rfl hl.1 rfl (Nat.le_of_ble_eq_true rfl) ⟨by decide, by decide⟩ ⟨Nat.le_of_ble_eq_true rfl, Nat.le_of_ble_eq_true rfl⟩ d_2_3_40) (fun u18 H locs hp17 V => ?_)
  obtain ⟨hg19, hO0⟩ := hp17
  replace hF := q_uc hF hg19 (q_sc (.head _) (fun _ h => absurd h List.not_mem_nil))
  refine lv_aload_n hx hb d_2_3_43 rfl (lv_at hl 2 rfl) ?_
  refine lv_lload_n hx hb d_2_3_44 rfl (lv_at hl 3 rfl) ?_
  refine lv_lconst (v := 0) hx hb d_2_3_45 (by decide) ?_
  refine W.lcmp hx hb d_2_3_46 ?_
  refine q_ti (v := 1) (by decide) ?_
  refine lv_if_ge (tgt := 54) hx hb d_2_3_47 (by decide) (fun c20 => ?_) (fun c20 => absurd (by decide) c20)
  refine lv_iconst (v := 0) hx hb d_2_3_54 (by decide) ?_
  refine q_put (ci := 2) (j := 2) (v := .int 0) (ty := .boolean) C0 V i_Big o_Big n_Big rfl rfl hO0 (by decide) w_94 rfl rfl rfl rfl (Nat.le_of_ble_eq_true rfl) d_2_3_55 (fun H locs w21 hu22 hO0 V => ?_)
  replace hO0 : w21[kO0]? = (some (qO0, .inr (2, [.ref qA1, .int 1, .int 0])) : Option (Nat × va_E)) := hO0
  replace hF := q_us hF hu22 (.head _)
  replace hA1 := (hu22 _ n_A1_O0).trans ((hg19 _ (q_nc n_A1_O0 List.not_mem_nil)).trans (hA1))
  exact q_retv C0 V (⟨hF, hO0, hA1⟩) d_2_3_58
theorem d_4_1_0 : decode prog_4_method_1_code 0 = .ok (.aload_n 0, 1) := by decide +kernel
theorem d_4_1_1 : decode prog_4_method_1_code 1 = .ok (.invokespecial 3, 3) := by decide +kernel
set_option maxRecDepth 100000 in
theorem w_161 : (Cond.methodLink "NumberHouse$DecimalWork" (3 : Nat) ({ cls := "java/lang/Object", name := "<init>", desc := "()V" } : MethodName)) ∈ q_tbl := q_of1 161 rfl (by decide +kernel)
theorem d_4_1_4 : decode prog_4_method_1_code 4 = .ok (.aload_n 0, 1) := by decide +kernel
theorem d_4_1_5 : decode prog_4_method_1_code 5 = .ok (.new 9, 3) := by decide +kernel
set_option maxRecDepth 100000 in
theorem w_162 : (Cond.classLink "NumberHouse$DecimalWork" (9 : Nat) "NumberHouse$Dec") ∈ q_tbl := q_of1 162 rfl (by decide +kernel)
set_option maxRecDepth 100000 in
theorem w_163 : (Cond.instantiable "NumberHouse$Dec" (3 : Nat)) ∈ q_tbl := q_of1 163 rfl (by decide +kernel)
set_option maxRecDepth 100000 in
theorem w_6 : (Cond.initialized "NumberHouse$Dec") ∈ q_tbl := q_of1 6 rfl (by decide +kernel)
theorem d_4_1_8 : decode prog_4_method_1_code 8 = .ok (.dup, 1) := by decide +kernel
theorem d_4_1_9 : decode prog_4_method_1_code 9 = .ok (.iconst 3, 1) := by decide +kernel
theorem d_4_1_10 : decode prog_4_method_1_code 10 = .ok (.invokespecial 11, 3) := by decide +kernel
set_option maxRecDepth 100000 in
theorem w_166 : (Cond.code ({ cls := "NumberHouse$Dec", name := "<init>", desc := "(I)V" } : MethodName) prog_3_method_1_code (2 : Nat) (none : Option ClassFile.FieldType)) ∈ q_tbl := q_of1 166 rfl (by decide +kernel)
set_option maxRecDepth 100000 in
theorem w_164 : (Cond.methodLink "NumberHouse$DecimalWork" (11 : Nat) ({ cls := "NumberHouse$Dec", name := "<init>", desc := "(I)V" } : MethodName)) ∈ q_tbl := q_of1 164 rfl (by decide +kernel)
set_option maxRecDepth 100000 in
theorem w_165 : (Cond.instanceMethod ({ cls := "NumberHouse$Dec", name := "<init>", desc := "(I)V" } : MethodName)) ∈ q_tbl := q_of1 165 rfl (by decide +kernel)
theorem LI_DW_11 : q_LI "NumberHouse$DecimalWork" 11 y_Dec_init prog_3_method_1_code 2 1 := ⟨w_166, w_6, w_164, w_165, rfl, ⟨by decide, by decide, by decide +kernel⟩⟩
theorem d_4_1_13 : decode prog_4_method_1_code 13 = .ok (.putfield 14, 3) := by decide +kernel
set_option maxRecDepth 100000 in
theorem w_210 : (Cond.fieldLink "NumberHouse$DecimalWork" (14 : Nat) "NumberHouse$DecimalWork" "one" "LNumberHouse$Dec;") ∈ q_tbl := q_of1 210 rfl (by decide +kernel)
theorem d_4_1_16 : decode prog_4_method_1_code 16 = .ok (.aload_n 0, 1) := by decide +kernel
theorem d_4_1_17 : decode prog_4_method_1_code 17 = .ok (.aload_n 1, 1) := by decide +kernel
theorem d_4_1_18 : decode prog_4_method_1_code 18 = .ok (.putfield 20, 3) := by decide +kernel
set_option maxRecDepth 100000 in
theorem w_214 : (Cond.fieldLink "NumberHouse$DecimalWork" (20 : Nat) "NumberHouse$DecimalWork" "mill" "LNumberHouse$Mill;") ∈ q_tbl := q_of1 214 rfl (by decide +kernel)
theorem d_4_1_21 : decode prog_4_method_1_code 21 = .ok (.aload_n 0, 1) := by decide +kernel
theorem d_4_1_22 : decode prog_4_method_1_code 22 = .ok (.getfield 14, 3) := by decide +kernel
theorem d_4_1_25 : decode prog_4_method_1_code 25 = .ok (.getfield 24, 3) := by decide +kernel
set_option maxRecDepth 100000 in
theorem w_171 : (Cond.fieldLink "NumberHouse$DecimalWork" (24 : Nat) "NumberHouse$Dec" "number" "LNumberHouse$Big;") ∈ q_tbl := q_of1 171 rfl (by decide +kernel)
theorem d_4_1_28 : decode prog_4_method_1_code 28 = .ok (.lconst 1, 1) := by decide +kernel
theorem d_4_1_29 : decode prog_4_method_1_code 29 = .ok (.invokevirtual 28, 3) := by decide +kernel
set_option maxRecDepth 100000 in
theorem w_193 : (Cond.code ({ cls := "NumberHouse$Big", name := "setLong", desc := "(J)V" } : MethodName) prog_2_method_3_code (6 : Nat) (none : Option ClassFile.FieldType)) ∈ q_tbl := q_of1 193 rfl (by decide +kernel)
set_option maxRecDepth 100000 in
theorem w_190 : (Cond.methodLink "NumberHouse$DecimalWork" (28 : Nat) ({ cls := "NumberHouse$Big", name := "setLong", desc := "(J)V" } : MethodName)) ∈ q_tbl := q_of1 190 rfl (by decide +kernel)
set_option maxRecDepth 100000 in
theorem w_191 : (Cond.instanceMethod ({ cls := "NumberHouse$Big", name := "setLong", desc := "(J)V" } : MethodName)) ∈ q_tbl := q_of1 191 rfl (by decide +kernel)
set_option maxRecDepth 100000 in
theorem w_192 : (Cond.selects "NumberHouse$Big" ({ cls := "NumberHouse$Big", name := "setLong", desc := "(J)V" } : MethodName) ({ cls := "NumberHouse$Big", name := "setLong", desc := "(J)V" } : MethodName)) ∈ q_tbl := q_of1 192 rfl (by decide +kernel)
theorem LV_DW_28 : q_LV "NumberHouse$DecimalWork" 28 y_Big_setLong prog_2_method_3_code 6 none 1 := ⟨w_193, w_4, w_190, w_191, w_192, ⟨by decide, by decide, by decide +kernel⟩⟩
theorem d_4_1_32 : decode prog_4_method_1_code 32 = .ok (.return_, 1) := by decide +kernel
def y_DW_init : MethodName := ⟨"NumberHouse$DecimalWork", "<init>", "(LNumberHouse$Mill;)V"⟩
set_option maxRecDepth 100000 in
set_option maxHeartbeats 4000000 in
theorem c_DW_init (l : Launch) (D : va_G) (g : Nat → ClassId) (ws : va_W) ( qO0 qO1 : Nat) (hN : ws.length = 31) (hO0 : ws[30]? = (some (qO0, .inr (5, [.null, .long 0, .null, .int 0])) : Option (Nat × va_E))) : q_mV l y_DW_init prog_4_method_1_code 2 4 3 9 D g [.ref qO0, .ref qO1] ws (fun u => ∃ (q1 : Nat) (q7 : Nat) (q8 : Nat), q_un ws u [30, 31, 32, 33] ∧ u[30]? = (some (qO0, .inr (5, [.ref q1, .long 0, .ref qO1, .int 0])) : Option (Nat × va_E)) ∧ u[31]? = (some (q1, .inr (3, [.ref q7, .int 0, .int 1])) : Option (Nat × va_E)) ∧ u[32]? = (some (q7, .inr (2, [.ref q8, .int 1, .int 0])) : Option (Nat × va_E)) ∧ u[33]? = (some (q8, .inl (g 0, 3, .inl (upd (fun _ => 0) 0 1))) : Option (Nat × va_E)) ∧ u.length = 34) := by
  intro sz
  refine q_into (by decide) (Nat.le_of_ble_eq_true rfl) ?_
  intro p e s m below meth c ls hsz C0 V hl
  have hx := C0.1
  have hb := C0.2.1
  have hl : lv_has ls 2 [(0, .ref qO0), (1, .ref qO1)] := hl
  have hF : q_un ws ws [30, 31, 32, 33] := q_u0
  refine lv_aload_n hx hb d_4_1_0 rfl (lv_at hl 0 rfl) ?_
  refine q_obj C0 hl.1 rfl w_161 w_44 w_45 ⟨by decide, by decide⟩ d_4_1_1 ?_
  refine lv_aload_n hx hb d_4_1_4 rfl (lv_at hl 0 rfl) ?_
  refine q_new (ci := 3) (fs := [.null, .int 0, .int 0]) C0 V hN i_Dec o_Dec rfl w_162 w_163 w_6 rfl (fun j hj => by rcases (show j = 0 ∨ j = 1 ∨ j = 2 by omega) with rfl | rfl | rfl <;> rfl) (Nat.le_of_ble_eq_true rfl) (Nat.le_of_ble_eq_true rfl) d_4_1_5 (fun q1 H w2 hu3 hn4 hN V => ?_)
  have hn0 : w2[31]? = (some (q1, .inr (3, [.null, .int 0, .int 0])) : Option (Nat × va_E)) := hn4
  replace hF := q_us hF hu3 (.tail _ (.head _))
  replace hN : w2.length = 32 := hN
  refine lv_dup hx hb d_4_1_8 rfl ?_
  refine lv_iconst (v := 3) hx hb d_4_1_9 (by decide) ?_
  refine q_gov V (q_runI (As := [.int 3]) (rest := [.ref q1, .ref qO0]) (d := 3) (mc := 2) (ms := 6) C0 V rfl LI_DW_11 (c_Dec_init_2 l D g w2 31 q1 32 hN hn0 _) rfl hl.1 rfl (Nat.le_of_ble_eq_true rfl) ⟨by decide, by decide⟩ ⟨Nat.le_of_ble_eq_true rfl, Nat.le_of_ble_eq_true rfl⟩ d_4_1_10) (fun u6 H locs hp5 V => ?_)
  obtain ⟨q7, q8, hg9, hn0, hq10, hq11, hN⟩ := hp5
  replace hF := q_uc hF hg9 (q_sc (.tail _ (.head _)) (q_sc (.tail _ (.tail _ (.head _))) (q_sc (List.mem_of_getElem? (i := 3) rfl) (fun _ h => absurd h List.not_mem_nil))))
  have hn1 : u6[32]? = (some (q7, .inr (2, [.ref q8, .int 0, .int 0])) : Option (Nat × va_E)) := hq10
  have hn2 : u6[33]? = (some (q8, .inl (g 0, 3, .inl (fun _ => 0))) : Option (Nat × va_E)) := hq11
  replace hN : u6.length = 34 := hN
  replace hO0 := (hg9 _ (q_nc (q_pd 30 31 rfl) (q_nc (q_pd 30 32 rfl) (q_nc (q_pd 30 33 rfl) List.not_mem_nil)))).trans ((hu3 _ (q_pd 30 31 rfl)).trans (hO0))
  have ho14 := hO0
  refine q_putF (ci := 5) (j := 0) (v := .ref q1) (ty := .object "NumberHouse$Dec") C0 V i_DW o_DW n_DW rfl rfl rfl rfl rfl hO0 (by decide) w_210 rfl rfl rfl (Nat.le_of_ble_eq_true rfl) d_4_1_13 (fun H locs w12 hu13 hO0 V => ?_)
  replace hO0 : w12[30]? = (some (qO0, .inr (5, [.ref q1, .long 0, .null, .int 0])) : Option (Nat × va_E)) := hO0
  replace hN : w12.length = 34 := (q_len1 hu13 hO0 ho14).trans hN
  replace hF := q_us hF hu13 (.head _)
  refine lv_aload_n hx hb d_4_1_16 rfl (lv_at hl 0 rfl) ?_
  refine lv_aload_n hx hb d_4_1_17 rfl (lv_at hl 1 rfl) ?_
  have ho17 := hO0
  refine q_putF (ci := 5) (j := 2) (v := .ref qO1) (ty := .object "NumberHouse$Mill") C0 V i_DW o_DW n_DW rfl rfl rfl rfl rfl hO0 (by decide) w_214 rfl rfl rfl (Nat.le_of_ble_eq_true rfl) d_4_1_18 (fun H locs w15 hu16 hO0 V => ?_)
  replace hO0 : w15[30]? = (some (qO0, .inr (5, [.ref q1, .long 0, .ref qO1, .int 0])) : Option (Nat × va_E)) := hO0
  replace hN : w15.length = 34 := (q_len1 hu16 hO0 ho17).trans hN
  replace hF := q_us hF hu16 (.head _)
  refine lv_aload_n hx hb d_4_1_21 rfl (lv_at hl 0 rfl) ?_
  refine q_get (ci := 5) (j := 0) (v := .ref q1) C0 V i_DW rfl rfl hO0 (by decide) w_210 rfl d_4_1_22 ?_
  replace hn0 := (hu16 _ (q_pd 31 30 rfl)).trans ((hu13 _ (q_pd 31 30 rfl)).trans (hn0))
  refine q_get (ci := 3) (j := 0) (v := .ref q7) C0 V i_Dec rfl rfl hn0 (by decide) w_171 rfl d_4_1_25 ?_
  refine lv_lconst (v := 1) hx hb d_4_1_28 (by decide) ?_
  replace hn1 := (hu16 _ (q_pd 32 30 rfl)).trans ((hu13 _ (q_pd 32 30 rfl)).trans (hn1))
  replace hn2 := (hu16 _ (q_pd 33 30 rfl)).trans ((hu13 _ (q_pd 33 30 rfl)).trans (hn2))
  have ho20 := hn1
  have ho21 := hn2
  refine q_gov V (q_runV (As := [.long 1]) (rest := []) (d := 2) (mc := 0) (ms := 0) (ci := 2) C0 V rfl LV_DW_28 (c_Big_setLong l D g w15 32 33 q7 q8 hn1 hn2 _) rfl rfl hn1 rfl hl.1 rfl (Nat.le_of_ble_eq_true rfl) ⟨by decide, by decide⟩ ⟨Nat.le_of_ble_eq_true rfl, Nat.le_of_ble_eq_true rfl⟩ d_4_1_29) (fun u19 H locs hp18 V => ?_)
  obtain ⟨hg22, hn1, hn2⟩ := hp18
  replace hF := q_uc hF hg22 (q_sc (.tail _ (.tail _ (.head _))) (q_sc (List.mem_of_getElem? (i := 3) rfl) (fun _ h => absurd h List.not_mem_nil)))
  replace hN : u19.length = 34 := (q_lenN hg22 (q_al (q_lk hn1) (q_al (q_lk hn2) (fun _ h => absurd h List.not_mem_nil))) (q_al (q_lk ho20) (q_al (q_lk ho21) (fun _ h => absurd h List.not_mem_nil)))).trans hN
  replace hO0 := (hg22 _ (q_nc (q_pd 30 32 rfl) (q_nc (q_pd 30 33 rfl) List.not_mem_nil))).trans (hO0)
  replace hn0 := (hg22 _ (q_nc (q_pd 31 32 rfl) (q_nc (q_pd 31 33 rfl) List.not_mem_nil))).trans (hn0)
  exact q_retv C0 V (⟨q1, q7, q8, hF, hO0, hn0, hn1, hn2, hN⟩) d_4_1_32
theorem d_7_1_0 : decode prog_7_method_1_code 0 = .ok (.aload_n 0, 1) := by decide +kernel
theorem d_7_1_1 : decode prog_7_method_1_code 1 = .ok (.invokespecial 1, 3) := by decide +kernel
set_option maxRecDepth 100000 in
theorem w_230 : (Cond.methodLink "NumberHouse$Floats" (1 : Nat) ({ cls := "java/lang/Object", name := "<init>", desc := "()V" } : MethodName)) ∈ q_tbl := q_of1 230 rfl (by decide +kernel)
theorem d_7_1_4 : decode prog_7_method_1_code 4 = .ok (.aload_n 0, 1) := by decide +kernel
theorem d_7_1_5 : decode prog_7_method_1_code 5 = .ok (.iload_n 1, 1) := by decide +kernel
theorem d_7_1_6 : decode prog_7_method_1_code 6 = .ok (.putfield 7, 3) := by decide +kernel
set_option maxRecDepth 100000 in
theorem w_231 : (Cond.fieldLink "NumberHouse$Floats" (7 : Nat) "NumberHouse$Floats" "fractionBits" "I") ∈ q_tbl := q_of1 231 rfl (by decide +kernel)
theorem d_7_1_9 : decode prog_7_method_1_code 9 = .ok (.aload_n 0, 1) := by decide +kernel
theorem d_7_1_10 : decode prog_7_method_1_code 10 = .ok (.iload_n 2, 1) := by decide +kernel
theorem d_7_1_11 : decode prog_7_method_1_code 11 = .ok (.putfield 13, 3) := by decide +kernel
set_option maxRecDepth 100000 in
theorem w_233 : (Cond.fieldLink "NumberHouse$Floats" (13 : Nat) "NumberHouse$Floats" "bias" "I") ∈ q_tbl := q_of1 233 rfl (by decide +kernel)
theorem d_7_1_14 : decode prog_7_method_1_code 14 = .ok (.aload_n 0, 1) := by decide +kernel
theorem d_7_1_15 : decode prog_7_method_1_code 15 = .ok (.iload_n 3, 1) := by decide +kernel
theorem d_7_1_16 : decode prog_7_method_1_code 16 = .ok (.putfield 16, 3) := by decide +kernel
set_option maxRecDepth 100000 in
theorem w_234 : (Cond.fieldLink "NumberHouse$Floats" (16 : Nat) "NumberHouse$Floats" "topExponent" "I") ∈ q_tbl := q_of1 234 rfl (by decide +kernel)
theorem d_7_1_19 : decode prog_7_method_1_code 19 = .ok (.aload_n 0, 1) := by decide +kernel
theorem d_7_1_20 : decode prog_7_method_1_code 20 = .ok (.aload 4, 2) := by decide +kernel
theorem d_7_1_22 : decode prog_7_method_1_code 22 = .ok (.putfield 19, 3) := by decide +kernel
set_option maxRecDepth 100000 in
theorem w_241 : (Cond.fieldLink "NumberHouse$Floats" (19 : Nat) "NumberHouse$Floats" "mill" "LNumberHouse$Mill;") ∈ q_tbl := q_of2 1 rfl (by decide +kernel)
theorem d_7_1_25 : decode prog_7_method_1_code 25 = .ok (.return_, 1) := by decide +kernel
def y_Flo_init : MethodName := ⟨"NumberHouse$Floats", "<init>", "(IIILNumberHouse$Mill;)V"⟩
set_option maxRecDepth 100000 in
set_option maxHeartbeats 4000000 in
theorem c_Flo_init (l : Launch) (D : va_G) (g : Nat → ClassId) (ws : va_W) ( qO0 qO1 : Nat) (hN : ws.length = 35) (hO0 : ws[34]? = (some (qO0, .inr (6, [.int 0, .int 0, .int 0, .long 0, .int 0, .null, .int 0])) : Option (Nat × va_E))) : q_mV l y_Flo_init prog_7_method_1_code 5 2 0 0 D g [.ref qO0, .int 52, .int 1075, .int 2047, .ref qO1] ws (fun u => q_un ws u [34] ∧ u[34]? = (some (qO0, .inr (6, [.int 52, .int 1075, .int 2047, .long 0, .int 0, .ref qO1, .int 0])) : Option (Nat × va_E)) ∧ u.length = 35) := by
  intro sz
  refine q_into (by decide) (Nat.le_of_ble_eq_true rfl) ?_
  intro p e s m below meth c ls hsz C0 V hl
  have hx := C0.1
  have hb := C0.2.1
  have hl : lv_has ls 5 [(0, .ref qO0), (1, .int 52), (2, .int 1075), (3, .int 2047), (4, .ref qO1)] := hl
  have hF : q_un ws ws [34] := q_u0
  refine lv_aload_n hx hb d_7_1_0 rfl (lv_at hl 0 rfl) ?_
  refine q_obj C0 hl.1 rfl w_230 w_44 w_45 ⟨by decide, by decide⟩ d_7_1_1 ?_
  refine lv_aload_n hx hb d_7_1_4 rfl (lv_at hl 0 rfl) ?_
  refine lv_iload_n hx hb d_7_1_5 rfl (lv_at hl 1 rfl) ?_
  have ho3 := hO0
  refine q_putF (ci := 6) (j := 0) (v := .int 52) (ty := .int) C0 V i_Flo o_Flo n_Flo rfl rfl rfl rfl rfl hO0 (by decide) w_231 rfl rfl rfl (Nat.le_of_ble_eq_true rfl) d_7_1_6 (fun H locs w1 hu2 hO0 V => ?_)
  replace hO0 : w1[34]? = (some (qO0, .inr (6, [.int 52, .int 0, .int 0, .long 0, .int 0, .null, .int 0])) : Option (Nat × va_E)) := hO0
  replace hN : w1.length = 35 := (q_len1 hu2 hO0 ho3).trans hN
  replace hF := q_us hF hu2 (.head _)
  refine lv_aload_n hx hb d_7_1_9 rfl (lv_at hl 0 rfl) ?_
  refine lv_iload_n hx hb d_7_1_10 rfl (lv_at hl 2 rfl) ?_
  have ho6 := hO0
  refine q_putF (ci := 6) (j := 1) (v := .int 1075) (ty := .int) C0 V i_Flo o_Flo n_Flo rfl rfl rfl rfl rfl hO0 (by decide) w_233 rfl rfl rfl (Nat.le_of_ble_eq_true rfl) d_7_1_11 (fun H locs w4 hu5 hO0 V => ?_)
  replace hO0 : w4[34]? = (some (qO0, .inr (6, [.int 52, .int 1075, .int 0, .long 0, .int 0, .null, .int 0])) : Option (Nat × va_E)) := hO0
  replace hN : w4.length = 35 := (q_len1 hu5 hO0 ho6).trans hN
  replace hF := q_us hF hu5 (.head _)
  refine lv_aload_n hx hb d_7_1_14 rfl (lv_at hl 0 rfl) ?_
  refine lv_iload_n hx hb d_7_1_15 rfl (lv_at hl 3 rfl) ?_
  have ho9 := hO0
  refine q_putF (ci := 6) (j := 2) (v := .int 2047) (ty := .int) C0 V i_Flo o_Flo n_Flo rfl rfl rfl rfl rfl hO0 (by decide) w_234 rfl rfl rfl (Nat.le_of_ble_eq_true rfl) d_7_1_16 (fun H locs w7 hu8 hO0 V => ?_)
  replace hO0 : w7[34]? = (some (qO0, .inr (6, [.int 52, .int 1075, .int 2047, .long 0, .int 0, .null, .int 0])) : Option (Nat × va_E)) := hO0
  replace hN : w7.length = 35 := (q_len1 hu8 hO0 ho9).trans hN
  replace hF := q_us hF hu8 (.head _)
  refine lv_aload_n hx hb d_7_1_19 rfl (lv_at hl 0 rfl) ?_
  refine lv_aload hx hb d_7_1_20 (lv_at hl 4 rfl) ?_
  have ho12 := hO0
  refine q_putF (ci := 6) (j := 5) (v := .ref qO1) (ty := .object "NumberHouse$Mill") C0 V i_Flo o_Flo n_Flo rfl rfl rfl rfl rfl hO0 (by decide) w_241 rfl rfl rfl (Nat.le_of_ble_eq_true rfl) d_7_1_22 (fun H locs w10 hu11 hO0 V => ?_)
  replace hO0 : w10[34]? = (some (qO0, .inr (6, [.int 52, .int 1075, .int 2047, .long 0, .int 0, .ref qO1, .int 0])) : Option (Nat × va_E)) := hO0
  replace hN : w10.length = 35 := (q_len1 hu11 hO0 ho12).trans hN
  replace hF := q_us hF hu11 (.head _)
  exact q_retv C0 V (⟨hF, hO0, hN⟩) d_7_1_25
set_option maxRecDepth 100000 in
set_option maxHeartbeats 4000000 in
theorem c_Flo_init_2 (l : Launch) (D : va_G) (g : Nat → ClassId) (ws : va_W) ( qO0 qO1 : Nat) (hN : ws.length = 36) (hO0 : ws[35]? = (some (qO0, .inr (6, [.int 0, .int 0, .int 0, .long 0, .int 0, .null, .int 0])) : Option (Nat × va_E))) : q_mV l y_Flo_init prog_7_method_1_code 5 2 0 0 D g [.ref qO0, .int 23, .int 150, .int 255, .ref qO1] ws (fun u => q_un ws u [35] ∧ u[35]? = (some (qO0, .inr (6, [.int 23, .int 150, .int 255, .long 0, .int 0, .ref qO1, .int 0])) : Option (Nat × va_E)) ∧ u.length = 36) := by
  intro sz
  refine q_into (by decide) (Nat.le_of_ble_eq_true rfl) ?_
  intro p e s m below meth c ls hsz C0 V hl
  have hx := C0.1
  have hb := C0.2.1
  have hl : lv_has ls 5 [(0, .ref qO0), (1, .int 23), (2, .int 150), (3, .int 255), (4, .ref qO1)] := hl
  have hF : q_un ws ws [35] := q_u0
  refine lv_aload_n hx hb d_7_1_0 rfl (lv_at hl 0 rfl) ?_
  refine q_obj C0 hl.1 rfl w_230 w_44 w_45 ⟨by decide, by decide⟩ d_7_1_1 ?_
  refine lv_aload_n hx hb d_7_1_4 rfl (lv_at hl 0 rfl) ?_
  refine lv_iload_n hx hb d_7_1_5 rfl (lv_at hl 1 rfl) ?_
  have ho3 := hO0
  refine q_putF (ci := 6) (j := 0) (v := .int 23) (ty := .int) C0 V i_Flo o_Flo n_Flo rfl rfl rfl rfl rfl hO0 (by decide) w_231 rfl rfl rfl (Nat.le_of_ble_eq_true rfl) d_7_1_6 (fun H locs w1 hu2 hO0 V => ?_)
  replace hO0 : w1[35]? = (some (qO0, .inr (6, [.int 23, .int 0, .int 0, .long 0, .int 0, .null, .int 0])) : Option (Nat × va_E)) := hO0
  replace hN : w1.length = 36 := (q_len1 hu2 hO0 ho3).trans hN
  replace hF := q_us hF hu2 (.head _)
  refine lv_aload_n hx hb d_7_1_9 rfl (lv_at hl 0 rfl) ?_
  refine lv_iload_n hx hb d_7_1_10 rfl (lv_at hl 2 rfl) ?_
  have ho6 := hO0
  refine q_putF (ci := 6) (j := 1) (v := .int 150) (ty := .int) C0 V i_Flo o_Flo n_Flo rfl rfl rfl rfl rfl hO0 (by decide) w_233 rfl rfl rfl (Nat.le_of_ble_eq_true rfl) d_7_1_11 (fun H locs w4 hu5 hO0 V => ?_)
  replace hO0 : w4[35]? = (some (qO0, .inr (6, [.int 23, .int 150, .int 0, .long 0, .int 0, .null, .int 0])) : Option (Nat × va_E)) := hO0
  replace hN : w4.length = 36 := (q_len1 hu5 hO0 ho6).trans hN
  replace hF := q_us hF hu5 (.head _)
  refine lv_aload_n hx hb d_7_1_14 rfl (lv_at hl 0 rfl) ?_
  refine lv_iload_n hx hb d_7_1_15 rfl (lv_at hl 3 rfl) ?_
  have ho9 := hO0
  refine q_putF (ci := 6) (j := 2) (v := .int 255) (ty := .int) C0 V i_Flo o_Flo n_Flo rfl rfl rfl rfl rfl hO0 (by decide) w_234 rfl rfl rfl (Nat.le_of_ble_eq_true rfl) d_7_1_16 (fun H locs w7 hu8 hO0 V => ?_)
  replace hO0 : w7[35]? = (some (qO0, .inr (6, [.int 23, .int 150, .int 255, .long 0, .int 0, .null, .int 0])) : Option (Nat × va_E)) := hO0
  replace hN : w7.length = 36 := (q_len1 hu8 hO0 ho9).trans hN
  replace hF := q_us hF hu8 (.head _)
  refine lv_aload_n hx hb d_7_1_19 rfl (lv_at hl 0 rfl) ?_
  refine lv_aload hx hb d_7_1_20 (lv_at hl 4 rfl) ?_
  have ho12 := hO0
  refine q_putF (ci := 6) (j := 5) (v := .ref qO1) (ty := .object "NumberHouse$Mill") C0 V i_Flo o_Flo n_Flo rfl rfl rfl rfl rfl hO0 (by decide) w_241 rfl rfl rfl (Nat.le_of_ble_eq_true rfl) d_7_1_22 (fun H locs w10 hu11 hO0 V => ?_)
  replace hO0 : w10[35]? = (some (qO0, .inr (6, [.int 23, .int 150, .int 255, .long 0, .int 0, .ref qO1, .int 0])) : Option (Nat × va_E)) := hO0
  replace hN : w10.length = 36 := (q_len1 hu11 hO0 ho12).trans hN
  replace hF := q_us hF hu11 (.head _)
  exact q_retv C0 V (⟨hF, hO0, hN⟩) d_7_1_25
theorem d_5_1_0 : decode prog_5_method_1_code 0 = .ok (.aload_n 0, 1) := by decide +kernel
theorem d_5_1_1 : decode prog_5_method_1_code 1 = .ok (.invokespecial 1, 3) := by decide +kernel
set_option maxRecDepth 100000 in
theorem w_263 : (Cond.methodLink "NumberHouse$Digits" (1 : Nat) ({ cls := "java/lang/Object", name := "<init>", desc := "()V" } : MethodName)) ∈ q_tbl := q_of2 23 rfl (by decide +kernel)
theorem d_5_1_4 : decode prog_5_method_1_code 4 = .ok (.aload_n 0, 1) := by decide +kernel
theorem d_5_1_5 : decode prog_5_method_1_code 5 = .ok (.sipush 1026, 3) := by decide +kernel
theorem d_5_1_8 : decode prog_5_method_1_code 8 = .ok (.newarray .byte, 2) := by decide +kernel
set_option maxRecDepth 100000 in
theorem w_277 : (Cond.arrayClass .byte) ∈ q_tbl := q_of2 37 rfl (by decide +kernel)
theorem d_5_1_10 : decode prog_5_method_1_code 10 = .ok (.putfield 9, 3) := by decide +kernel
set_option maxRecDepth 100000 in
theorem w_269 : (Cond.fieldLink "NumberHouse$Digits" (9 : Nat) "NumberHouse$Digits" "row" "[B") ∈ q_tbl := q_of2 29 rfl (by decide +kernel)
theorem d_5_1_13 : decode prog_5_method_1_code 13 = .ok (.return_, 1) := by decide +kernel
def y_Dig_init : MethodName := ⟨"NumberHouse$Digits", "<init>", "()V"⟩
set_option maxRecDepth 100000 in
set_option maxHeartbeats 4000000 in
theorem c_Dig_init (l : Launch) (D : va_G) (g : Nat → ClassId) (ws : va_W) ( qO0 : Nat) (hN : ws.length = 37) (hO0 : ws[36]? = (some (qO0, .inr (7, [.int 0, .int 0, .null])) : Option (Nat × va_E))) : q_mV l y_Dig_init prog_5_method_1_code 1 2 1 1026 D g [.ref qO0] ws (fun u => ∃ (q1 : Nat), q_un ws u [36, 37] ∧ u[36]? = (some (qO0, .inr (7, [.int 0, .int 0, .ref q1])) : Option (Nat × va_E)) ∧ u[37]? = (some (q1, .inl (g 2, 1026, .inl (fun _ => 0))) : Option (Nat × va_E)) ∧ u.length = 38) := by
  intro sz
  refine q_into (by decide) (Nat.le_of_ble_eq_true rfl) ?_
  intro p e s m below meth c ls hsz C0 V hl
  have hx := C0.1
  have hb := C0.2.1
  have hl : lv_has ls 1 [(0, .ref qO0)] := hl
  have hF : q_un ws ws [36, 37] := q_u0
  refine lv_aload_n hx hb d_5_1_0 rfl (lv_at hl 0 rfl) ?_
  refine q_obj C0 hl.1 rfl w_263 w_44 w_45 ⟨by decide, by decide⟩ d_5_1_1 ?_
  refine lv_aload_n hx hb d_5_1_4 rfl (lv_at hl 0 rfl) ?_
  refine lv_sipush (v := 1026) hx hb d_5_1_5 (by decide) ?_
  refine q_newB (N' := 1026) C0 V hN w_277 (by decide) (by decide) (by decide) (Nat.le_of_ble_eq_true rfl) (Nat.le_of_ble_eq_true rfl) d_5_1_8 (fun q1 H w2 hu3 hn4 hN V => ?_)
  have hn0 : w2[37]? = (some (q1, .inl (g 2, 1026, .inl (fun _ => 0))) : Option (Nat × va_E)) := hn4
  replace hF := q_us hF hu3 (.tail _ (.head _))
  replace hN : w2.length = 38 := hN
  replace hO0 := (hu3 _ (q_pd 36 37 rfl)).trans (hO0)
  have ho7 := hO0
  refine q_putF (ci := 7) (j := 2) (v := .ref q1) (ty := .array .byte) C0 V i_Dig o_Dig n_Dig rfl rfl rfl rfl rfl hO0 (by decide) w_269 rfl rfl rfl (Nat.le_of_ble_eq_true rfl) d_5_1_10 (fun H locs w5 hu6 hO0 V => ?_)
  replace hO0 : w5[36]? = (some (qO0, .inr (7, [.int 0, .int 0, .ref q1])) : Option (Nat × va_E)) := hO0
  replace hN : w5.length = 38 := (q_len1 hu6 hO0 ho7).trans hN
  replace hF := q_us hF hu6 (.head _)
  replace hn0 := (hu6 _ (q_pd 37 36 rfl)).trans (hn0)
  exact q_retv C0 V (⟨q1, hF, hO0, hn0, hN⟩) d_5_1_13
theorem d_10_1_0 : decode prog_10_method_1_code 0 = .ok (.aload_n 0, 1) := by decide +kernel
theorem d_10_1_1 : decode prog_10_method_1_code 1 = .ok (.invokespecial 3, 3) := by decide +kernel
set_option maxRecDepth 100000 in
theorem w_283 : (Cond.methodLink "NumberHouse$Reader" (3 : Nat) ({ cls := "java/lang/Object", name := "<init>", desc := "()V" } : MethodName)) ∈ q_tbl := q_of2 43 rfl (by decide +kernel)
theorem d_10_1_4 : decode prog_10_method_1_code 4 = .ok (.aload_n 0, 1) := by decide +kernel
theorem d_10_1_5 : decode prog_10_method_1_code 5 = .ok (.aload_n 1, 1) := by decide +kernel
theorem d_10_1_6 : decode prog_10_method_1_code 6 = .ok (.putfield 9, 3) := by decide +kernel
set_option maxRecDepth 100000 in
theorem w_288 : (Cond.fieldLink "NumberHouse$Reader" (9 : Nat) "NumberHouse$Reader" "tape" "LNumberHouse$Sheet;") ∈ q_tbl := q_of2 48 rfl (by decide +kernel)
theorem d_10_1_9 : decode prog_10_method_1_code 9 = .ok (.aload_n 0, 1) := by decide +kernel
theorem d_10_1_10 : decode prog_10_method_1_code 10 = .ok (.aload_n 2, 1) := by decide +kernel
theorem d_10_1_11 : decode prog_10_method_1_code 11 = .ok (.putfield 15, 3) := by decide +kernel
set_option maxRecDepth 100000 in
theorem w_289 : (Cond.fieldLink "NumberHouse$Reader" (15 : Nat) "NumberHouse$Reader" "mill" "LNumberHouse$Mill;") ∈ q_tbl := q_of2 49 rfl (by decide +kernel)
theorem d_10_1_14 : decode prog_10_method_1_code 14 = .ok (.return_, 1) := by decide +kernel
def y_Rea_init : MethodName := ⟨"NumberHouse$Reader", "<init>", "(LNumberHouse$Sheet;LNumberHouse$Mill;)V"⟩
set_option maxRecDepth 100000 in
set_option maxHeartbeats 4000000 in
theorem c_Rea_init (l : Launch) (D : va_G) (g : Nat → ClassId) (ws : va_W) ( qO0 qO1 qO2 : Nat) (hN : ws.length = 39) (hO0 : ws[38]? = (some (qO0, .inr (8, [.long 0, .long 0, .null, .null, .int 0, .int 0, .int 0, .int 0, .int 0, .int 0, .int 0, .long 0])) : Option (Nat × va_E))) : q_mV l y_Rea_init prog_10_method_1_code 3 2 0 0 D g [.ref qO0, .ref qO1, .ref qO2] ws (fun u => q_un ws u [38] ∧ u[38]? = (some (qO0, .inr (8, [.long 0, .long 0, .ref qO1, .ref qO2, .int 0, .int 0, .int 0, .int 0, .int 0, .int 0, .int 0, .long 0])) : Option (Nat × va_E)) ∧ u.length = 39) := by
  intro sz
  refine q_into (by decide) (Nat.le_of_ble_eq_true rfl) ?_
  intro p e s m below meth c ls hsz C0 V hl
  have hx := C0.1
  have hb := C0.2.1
  have hl : lv_has ls 3 [(0, .ref qO0), (1, .ref qO1), (2, .ref qO2)] := hl
  have hF : q_un ws ws [38] := q_u0
  refine lv_aload_n hx hb d_10_1_0 rfl (lv_at hl 0 rfl) ?_
  refine q_obj C0 hl.1 rfl w_283 w_44 w_45 ⟨by decide, by decide⟩ d_10_1_1 ?_
  refine lv_aload_n hx hb d_10_1_4 rfl (lv_at hl 0 rfl) ?_
  refine lv_aload_n hx hb d_10_1_5 rfl (lv_at hl 1 rfl) ?_
  have ho3 := hO0
  refine q_putF (ci := 8) (j := 2) (v := .ref qO1) (ty := .object "NumberHouse$Sheet") C0 V i_Rea o_Rea n_Rea rfl rfl rfl rfl rfl hO0 (by decide) w_288 rfl rfl rfl (Nat.le_of_ble_eq_true rfl) d_10_1_6 (fun H locs w1 hu2 hO0 V => ?_)
  replace hO0 : w1[38]? = (some (qO0, .inr (8, [.long 0, .long 0, .ref qO1, .null, .int 0, .int 0, .int 0, .int 0, .int 0, .int 0, .int 0, .long 0])) : Option (Nat × va_E)) := hO0
  replace hN : w1.length = 39 := (q_len1 hu2 hO0 ho3).trans hN
  replace hF := q_us hF hu2 (.head _)
  refine lv_aload_n hx hb d_10_1_9 rfl (lv_at hl 0 rfl) ?_
  refine lv_aload_n hx hb d_10_1_10 rfl (lv_at hl 2 rfl) ?_
  have ho6 := hO0
  refine q_putF (ci := 8) (j := 3) (v := .ref qO2) (ty := .object "NumberHouse$Mill") C0 V i_Rea o_Rea n_Rea rfl rfl rfl rfl rfl hO0 (by decide) w_289 rfl rfl rfl (Nat.le_of_ble_eq_true rfl) d_10_1_11 (fun H locs w4 hu5 hO0 V => ?_)
  replace hO0 : w4[38]? = (some (qO0, .inr (8, [.long 0, .long 0, .ref qO1, .ref qO2, .int 0, .int 0, .int 0, .int 0, .int 0, .int 0, .int 0, .long 0])) : Option (Nat × va_E)) := hO0
  replace hN : w4.length = 39 := (q_len1 hu5 hO0 ho6).trans hN
  replace hF := q_us hF hu5 (.head _)
  exact q_retv C0 V (⟨hF, hO0, hN⟩) d_10_1_14
theorem d_12_1_0 : decode prog_12_method_1_code 0 = .ok (.aload_n 0, 1) := by decide +kernel
theorem d_12_1_1 : decode prog_12_method_1_code 1 = .ok (.invokespecial 1, 3) := by decide +kernel
set_option maxRecDepth 100000 in
theorem w_328 : (Cond.methodLink "NumberHouse$Writer" (1 : Nat) ({ cls := "java/lang/Object", name := "<init>", desc := "()V" } : MethodName)) ∈ q_tbl := q_of2 88 rfl (by decide +kernel)
theorem d_12_1_4 : decode prog_12_method_1_code 4 = .ok (.aload_n 0, 1) := by decide +kernel
theorem d_12_1_5 : decode prog_12_method_1_code 5 = .ok (.aload_n 1, 1) := by decide +kernel
theorem d_12_1_6 : decode prog_12_method_1_code 6 = .ok (.putfield 7, 3) := by decide +kernel
set_option maxRecDepth 100000 in
theorem w_329 : (Cond.fieldLink "NumberHouse$Writer" (7 : Nat) "NumberHouse$Writer" "paper" "LNumberHouse$Sheet;") ∈ q_tbl := q_of2 89 rfl (by decide +kernel)
theorem d_12_1_9 : decode prog_12_method_1_code 9 = .ok (.aload_n 0, 1) := by decide +kernel
theorem d_12_1_10 : decode prog_12_method_1_code 10 = .ok (.aload_n 2, 1) := by decide +kernel
theorem d_12_1_11 : decode prog_12_method_1_code 11 = .ok (.putfield 13, 3) := by decide +kernel
set_option maxRecDepth 100000 in
theorem w_330 : (Cond.fieldLink "NumberHouse$Writer" (13 : Nat) "NumberHouse$Writer" "mill" "LNumberHouse$Mill;") ∈ q_tbl := q_of2 90 rfl (by decide +kernel)
theorem d_12_1_14 : decode prog_12_method_1_code 14 = .ok (.aload_n 0, 1) := by decide +kernel
theorem d_12_1_15 : decode prog_12_method_1_code 15 = .ok (.aload_n 3, 1) := by decide +kernel
theorem d_12_1_16 : decode prog_12_method_1_code 16 = .ok (.putfield 17, 3) := by decide +kernel
set_option maxRecDepth 100000 in
theorem w_331 : (Cond.fieldLink "NumberHouse$Writer" (17 : Nat) "NumberHouse$Writer" "digits" "LNumberHouse$Digits;") ∈ q_tbl := q_of2 91 rfl (by decide +kernel)
theorem d_12_1_19 : decode prog_12_method_1_code 19 = .ok (.return_, 1) := by decide +kernel
def y_Wri_init : MethodName := ⟨"NumberHouse$Writer", "<init>", "(LNumberHouse$Sheet;LNumberHouse$Mill;LNumberHouse$Digits;)V"⟩
set_option maxRecDepth 100000 in
set_option maxHeartbeats 4000000 in
theorem c_Wri_init (l : Launch) (D : va_G) (g : Nat → ClassId) (ws : va_W) ( qO0 qO1 qO2 qO3 : Nat) (hN : ws.length = 40) (hO0 : ws[39]? = (some (qO0, .inr (9, [.null, .null, .null])) : Option (Nat × va_E))) : q_mV l y_Wri_init prog_12_method_1_code 4 2 0 0 D g [.ref qO0, .ref qO1, .ref qO2, .ref qO3] ws (fun u => q_un ws u [39] ∧ u[39]? = (some (qO0, .inr (9, [.ref qO1, .ref qO2, .ref qO3])) : Option (Nat × va_E)) ∧ u.length = 40) := by
  intro sz
  refine q_into (by decide) (Nat.le_of_ble_eq_true rfl) ?_
  intro p e s m below meth c ls hsz C0 V hl
  have hx := C0.1
  have hb := C0.2.1
  have hl : lv_has ls 4 [(0, .ref qO0), (1, .ref qO1), (2, .ref qO2), (3, .ref qO3)] := hl
  have hF : q_un ws ws [39] := q_u0
  refine lv_aload_n hx hb d_12_1_0 rfl (lv_at hl 0 rfl) ?_
  refine q_obj C0 hl.1 rfl w_328 w_44 w_45 ⟨by decide, by decide⟩ d_12_1_1 ?_
  refine lv_aload_n hx hb d_12_1_4 rfl (lv_at hl 0 rfl) ?_
  refine lv_aload_n hx hb d_12_1_5 rfl (lv_at hl 1 rfl) ?_
  have ho3 := hO0
  refine q_putF (ci := 9) (j := 0) (v := .ref qO1) (ty := .object "NumberHouse$Sheet") C0 V i_Wri o_Wri n_Wri rfl rfl rfl rfl rfl hO0 (by decide) w_329 rfl rfl rfl (Nat.le_of_ble_eq_true rfl) d_12_1_6 (fun H locs w1 hu2 hO0 V => ?_)
  replace hO0 : w1[39]? = (some (qO0, .inr (9, [.ref qO1, .null, .null])) : Option (Nat × va_E)) := hO0
  replace hN : w1.length = 40 := (q_len1 hu2 hO0 ho3).trans hN
  replace hF := q_us hF hu2 (.head _)
  refine lv_aload_n hx hb d_12_1_9 rfl (lv_at hl 0 rfl) ?_
  refine lv_aload_n hx hb d_12_1_10 rfl (lv_at hl 2 rfl) ?_
  have ho6 := hO0
  refine q_putF (ci := 9) (j := 1) (v := .ref qO2) (ty := .object "NumberHouse$Mill") C0 V i_Wri o_Wri n_Wri rfl rfl rfl rfl rfl hO0 (by decide) w_330 rfl rfl rfl (Nat.le_of_ble_eq_true rfl) d_12_1_11 (fun H locs w4 hu5 hO0 V => ?_)
  replace hO0 : w4[39]? = (some (qO0, .inr (9, [.ref qO1, .ref qO2, .null])) : Option (Nat × va_E)) := hO0
  replace hN : w4.length = 40 := (q_len1 hu5 hO0 ho6).trans hN
  replace hF := q_us hF hu5 (.head _)
  refine lv_aload_n hx hb d_12_1_14 rfl (lv_at hl 0 rfl) ?_
  refine lv_aload_n hx hb d_12_1_15 rfl (lv_at hl 3 rfl) ?_
  have ho9 := hO0
  refine q_putF (ci := 9) (j := 2) (v := .ref qO3) (ty := .object "NumberHouse$Digits") C0 V i_Wri o_Wri n_Wri rfl rfl rfl rfl rfl hO0 (by decide) w_331 rfl rfl rfl (Nat.le_of_ble_eq_true rfl) d_12_1_16 (fun H locs w7 hu8 hO0 V => ?_)
  replace hO0 : w7[39]? = (some (qO0, .inr (9, [.ref qO1, .ref qO2, .ref qO3])) : Option (Nat × va_E)) := hO0
  replace hN : w7.length = 40 := (q_len1 hu8 hO0 ho9).trans hN
  replace hF := q_us hF hu8 (.head _)
  exact q_retv C0 V (⟨hF, hO0, hN⟩) d_12_1_19
theorem d_6_1_0 : decode prog_6_method_1_code 0 = .ok (.aload_n 0, 1) := by decide +kernel
theorem d_6_1_1 : decode prog_6_method_1_code 1 = .ok (.invokespecial 3, 3) := by decide +kernel
set_option maxRecDepth 100000 in
theorem w_353 : (Cond.methodLink "NumberHouse$Directive" (3 : Nat) ({ cls := "java/lang/Object", name := "<init>", desc := "()V" } : MethodName)) ∈ q_tbl := q_of2 113 rfl (by decide +kernel)
theorem d_6_1_4 : decode prog_6_method_1_code 4 = .ok (.aload_n 0, 1) := by decide +kernel
theorem d_6_1_5 : decode prog_6_method_1_code 5 = .ok (.aload_n 1, 1) := by decide +kernel
theorem d_6_1_6 : decode prog_6_method_1_code 6 = .ok (.putfield 9, 3) := by decide +kernel
set_option maxRecDepth 100000 in
theorem w_365 : (Cond.fieldLink "NumberHouse$Directive" (9 : Nat) "NumberHouse$Directive" "text" "LNumberHouse$Sheet;") ∈ q_tbl := q_of2 125 rfl (by decide +kernel)
theorem d_6_1_9 : decode prog_6_method_1_code 9 = .ok (.return_, 1) := by decide +kernel
def y_Dir_init : MethodName := ⟨"NumberHouse$Directive", "<init>", "(LNumberHouse$Sheet;)V"⟩
set_option maxRecDepth 100000 in
set_option maxHeartbeats 4000000 in
theorem c_Dir_init (l : Launch) (D : va_G) (g : Nat → ClassId) (ws : va_W) ( qO0 qO1 : Nat) (hN : ws.length = 48) (hO0 : ws[47]? = (some (qO0, .inr (10, [.int 0, .int 0, .int 0, .int 0, .int 0, .int 0, .null, .int 0])) : Option (Nat × va_E))) : q_mV l y_Dir_init prog_6_method_1_code 2 2 0 0 D g [.ref qO0, .ref qO1] ws (fun u => q_un ws u [47] ∧ u[47]? = (some (qO0, .inr (10, [.int 0, .int 0, .int 0, .int 0, .int 0, .int 0, .ref qO1, .int 0])) : Option (Nat × va_E)) ∧ u.length = 48) := by
  intro sz
  refine q_into (by decide) (Nat.le_of_ble_eq_true rfl) ?_
  intro p e s m below meth c ls hsz C0 V hl
  have hx := C0.1
  have hb := C0.2.1
  have hl : lv_has ls 2 [(0, .ref qO0), (1, .ref qO1)] := hl
  have hF : q_un ws ws [47] := q_u0
  refine lv_aload_n hx hb d_6_1_0 rfl (lv_at hl 0 rfl) ?_
  refine q_obj C0 hl.1 rfl w_353 w_44 w_45 ⟨by decide, by decide⟩ d_6_1_1 ?_
  refine lv_aload_n hx hb d_6_1_4 rfl (lv_at hl 0 rfl) ?_
  refine lv_aload_n hx hb d_6_1_5 rfl (lv_at hl 1 rfl) ?_
  have ho3 := hO0
  refine q_putF (ci := 10) (j := 6) (v := .ref qO1) (ty := .object "NumberHouse$Sheet") C0 V i_Dir o_Dir n_Dir rfl rfl rfl rfl rfl hO0 (by decide) w_365 rfl rfl rfl (Nat.le_of_ble_eq_true rfl) d_6_1_6 (fun H locs w1 hu2 hO0 V => ?_)
  replace hO0 : w1[47]? = (some (qO0, .inr (10, [.int 0, .int 0, .int 0, .int 0, .int 0, .int 0, .ref qO1, .int 0])) : Option (Nat × va_E)) := hO0
  replace hN : w1.length = 48 := (q_len1 hu2 hO0 ho3).trans hN
  replace hF := q_us hF hu2 (.head _)
  exact q_retv C0 V (⟨hF, hO0, hN⟩) d_6_1_9
theorem d_9_1_0 : decode prog_9_method_1_code 0 = .ok (.aload_n 0, 1) := by decide +kernel
theorem d_9_1_1 : decode prog_9_method_1_code 1 = .ok (.invokespecial 3, 3) := by decide +kernel
set_option maxRecDepth 100000 in
theorem w_344 : (Cond.methodLink "NumberHouse$Printer" (3 : Nat) ({ cls := "java/lang/Object", name := "<init>", desc := "()V" } : MethodName)) ∈ q_tbl := q_of2 104 rfl (by decide +kernel)
theorem d_9_1_4 : decode prog_9_method_1_code 4 = .ok (.aload_n 0, 1) := by decide +kernel
theorem d_9_1_5 : decode prog_9_method_1_code 5 = .ok (.bipush 9, 2) := by decide +kernel
theorem d_9_1_7 : decode prog_9_method_1_code 7 = .ok (.newarray .int, 2) := by decide +kernel
theorem d_9_1_9 : decode prog_9_method_1_code 9 = .ok (.putfield 11, 3) := by decide +kernel
set_option maxRecDepth 100000 in
theorem w_386 : (Cond.fieldLink "NumberHouse$Printer" (11 : Nat) "NumberHouse$Printer" "kinds" "[I") ∈ q_tbl := q_of2 146 rfl (by decide +kernel)
theorem d_9_1_12 : decode prog_9_method_1_code 12 = .ok (.aload_n 0, 1) := by decide +kernel
theorem d_9_1_13 : decode prog_9_method_1_code 13 = .ok (.bipush 9, 2) := by decide +kernel
theorem d_9_1_15 : decode prog_9_method_1_code 15 = .ok (.newarray .long, 2) := by decide +kernel
theorem d_9_1_17 : decode prog_9_method_1_code 17 = .ok (.putfield 15, 3) := by decide +kernel
set_option maxRecDepth 100000 in
theorem w_387 : (Cond.fieldLink "NumberHouse$Printer" (15 : Nat) "NumberHouse$Printer" "numbers" "[J") ∈ q_tbl := q_of2 147 rfl (by decide +kernel)
theorem d_9_1_20 : decode prog_9_method_1_code 20 = .ok (.aload_n 0, 1) := by decide +kernel
theorem d_9_1_21 : decode prog_9_method_1_code 21 = .ok (.bipush 9, 2) := by decide +kernel
theorem d_9_1_23 : decode prog_9_method_1_code 23 = .ok (.newarray .int, 2) := by decide +kernel
theorem d_9_1_25 : decode prog_9_method_1_code 25 = .ok (.putfield 19, 3) := by decide +kernel
set_option maxRecDepth 100000 in
theorem w_388 : (Cond.fieldLink "NumberHouse$Printer" (19 : Nat) "NumberHouse$Printer" "scales" "[I") ∈ q_tbl := q_of2 148 rfl (by decide +kernel)
theorem d_9_1_28 : decode prog_9_method_1_code 28 = .ok (.aload_n 0, 1) := by decide +kernel
theorem d_9_1_29 : decode prog_9_method_1_code 29 = .ok (.bipush 9, 2) := by decide +kernel
theorem d_9_1_31 : decode prog_9_method_1_code 31 = .ok (.anewarray 22, 3) := by decide +kernel
set_option maxRecDepth 100000 in
theorem wo_346 : (Cond.arrayOver (.object "NumberHouse$Sheet")) ∈ q_odd := q_oo2 106 rfl (by decide +kernel)
set_option maxRecDepth 100000 in
theorem w_345 : (Cond.classLink "NumberHouse$Printer" (22 : Nat) "NumberHouse$Sheet") ∈ q_tbl := q_of2 105 rfl (by decide +kernel)
theorem d_9_1_34 : decode prog_9_method_1_code 34 = .ok (.putfield 24, 3) := by decide +kernel
set_option maxRecDepth 100000 in
theorem w_389 : (Cond.fieldLink "NumberHouse$Printer" (24 : Nat) "NumberHouse$Printer" "texts" "[LNumberHouse$Sheet;") ∈ q_tbl := q_of2 149 rfl (by decide +kernel)
theorem d_9_1_37 : decode prog_9_method_1_code 37 = .ok (.aload_n 0, 1) := by decide +kernel
theorem d_9_1_38 : decode prog_9_method_1_code 38 = .ok (.new 22, 3) := by decide +kernel
set_option maxRecDepth 100000 in
theorem w_47 : (Cond.instantiable "NumberHouse$Sheet" (3 : Nat)) ∈ q_tbl := q_of1 47 rfl (by decide +kernel)
set_option maxRecDepth 100000 in
theorem w_2 : (Cond.initialized "NumberHouse$Sheet") ∈ q_tbl := q_of1 2 rfl (by decide +kernel)
theorem d_9_1_41 : decode prog_9_method_1_code 41 = .ok (.dup, 1) := by decide +kernel
theorem d_9_1_42 : decode prog_9_method_1_code 42 = .ok (.sipush 4104, 3) := by decide +kernel
theorem d_9_1_45 : decode prog_9_method_1_code 45 = .ok (.invokespecial 28, 3) := by decide +kernel
set_option maxRecDepth 100000 in
theorem w_50 : (Cond.code ({ cls := "NumberHouse$Sheet", name := "<init>", desc := "(I)V" } : MethodName) prog_11_method_1_code (2 : Nat) (none : Option ClassFile.FieldType)) ∈ q_tbl := q_of1 50 rfl (by decide +kernel)
set_option maxRecDepth 100000 in
theorem w_347 : (Cond.methodLink "NumberHouse$Printer" (28 : Nat) ({ cls := "NumberHouse$Sheet", name := "<init>", desc := "(I)V" } : MethodName)) ∈ q_tbl := q_of2 107 rfl (by decide +kernel)
set_option maxRecDepth 100000 in
theorem w_49 : (Cond.instanceMethod ({ cls := "NumberHouse$Sheet", name := "<init>", desc := "(I)V" } : MethodName)) ∈ q_tbl := q_of1 49 rfl (by decide +kernel)
theorem LI_Pri_28 : q_LI "NumberHouse$Printer" 28 y_She_init prog_11_method_1_code 2 1 := ⟨w_50, w_2, w_347, w_49, rfl, ⟨by decide, by decide, by decide +kernel⟩⟩
theorem d_9_1_48 : decode prog_9_method_1_code 48 = .ok (.putfield 31, 3) := by decide +kernel
set_option maxRecDepth 100000 in
theorem w_393 : (Cond.fieldLink "NumberHouse$Printer" (31 : Nat) "NumberHouse$Printer" "body" "LNumberHouse$Sheet;") ∈ q_tbl := q_of2 153 rfl (by decide +kernel)
theorem d_9_1_51 : decode prog_9_method_1_code 51 = .ok (.aload_n 0, 1) := by decide +kernel
theorem d_9_1_52 : decode prog_9_method_1_code 52 = .ok (.aload_n 1, 1) := by decide +kernel
theorem d_9_1_53 : decode prog_9_method_1_code 53 = .ok (.putfield 35, 3) := by decide +kernel
set_option maxRecDepth 100000 in
theorem w_390 : (Cond.fieldLink "NumberHouse$Printer" (35 : Nat) "NumberHouse$Printer" "tape" "LNumberHouse$Sheet;") ∈ q_tbl := q_of2 150 rfl (by decide +kernel)
theorem d_9_1_56 : decode prog_9_method_1_code 56 = .ok (.aload_n 0, 1) := by decide +kernel
theorem d_9_1_57 : decode prog_9_method_1_code 57 = .ok (.aload_n 2, 1) := by decide +kernel
theorem d_9_1_58 : decode prog_9_method_1_code 58 = .ok (.putfield 38, 3) := by decide +kernel
set_option maxRecDepth 100000 in
theorem w_392 : (Cond.fieldLink "NumberHouse$Printer" (38 : Nat) "NumberHouse$Printer" "digits" "LNumberHouse$Digits;") ∈ q_tbl := q_of2 152 rfl (by decide +kernel)
theorem d_9_1_61 : decode prog_9_method_1_code 61 = .ok (.aload_n 0, 1) := by decide +kernel
theorem d_9_1_62 : decode prog_9_method_1_code 62 = .ok (.new 42, 3) := by decide +kernel
set_option maxRecDepth 100000 in
theorem w_348 : (Cond.classLink "NumberHouse$Printer" (42 : Nat) "NumberHouse$Directive") ∈ q_tbl := q_of2 108 rfl (by decide +kernel)
set_option maxRecDepth 100000 in
theorem w_349 : (Cond.instantiable "NumberHouse$Directive" (8 : Nat)) ∈ q_tbl := q_of2 109 rfl (by decide +kernel)
set_option maxRecDepth 100000 in
theorem w_13 : (Cond.initialized "NumberHouse$Directive") ∈ q_tbl := q_of1 13 rfl (by decide +kernel)
theorem d_9_1_65 : decode prog_9_method_1_code 65 = .ok (.dup, 1) := by decide +kernel
theorem d_9_1_66 : decode prog_9_method_1_code 66 = .ok (.aload_n 1, 1) := by decide +kernel
theorem d_9_1_67 : decode prog_9_method_1_code 67 = .ok (.invokespecial 44, 3) := by decide +kernel
set_option maxRecDepth 100000 in
theorem w_352 : (Cond.code ({ cls := "NumberHouse$Directive", name := "<init>", desc := "(LNumberHouse$Sheet;)V" } : MethodName) prog_6_method_1_code (2 : Nat) (none : Option ClassFile.FieldType)) ∈ q_tbl := q_of2 112 rfl (by decide +kernel)
set_option maxRecDepth 100000 in
theorem w_350 : (Cond.methodLink "NumberHouse$Printer" (44 : Nat) ({ cls := "NumberHouse$Directive", name := "<init>", desc := "(LNumberHouse$Sheet;)V" } : MethodName)) ∈ q_tbl := q_of2 110 rfl (by decide +kernel)
set_option maxRecDepth 100000 in
theorem w_351 : (Cond.instanceMethod ({ cls := "NumberHouse$Directive", name := "<init>", desc := "(LNumberHouse$Sheet;)V" } : MethodName)) ∈ q_tbl := q_of2 111 rfl (by decide +kernel)
theorem LI_Pri_44 : q_LI "NumberHouse$Printer" 44 y_Dir_init prog_6_method_1_code 2 1 := ⟨w_352, w_13, w_350, w_351, rfl, ⟨by decide, by decide, by decide +kernel⟩⟩
theorem d_9_1_70 : decode prog_9_method_1_code 70 = .ok (.putfield 47, 3) := by decide +kernel
set_option maxRecDepth 100000 in
theorem w_391 : (Cond.fieldLink "NumberHouse$Printer" (47 : Nat) "NumberHouse$Printer" "directive" "LNumberHouse$Directive;") ∈ q_tbl := q_of2 151 rfl (by decide +kernel)
theorem d_9_1_73 : decode prog_9_method_1_code 73 = .ok (.iconst 0, 1) := by decide +kernel
theorem d_9_1_74 : decode prog_9_method_1_code 74 = .ok (.istore_n 3, 1) := by decide +kernel
theorem d_9_1_75 : decode prog_9_method_1_code 75 = .ok (.iload_n 3, 1) := by decide +kernel
theorem d_9_1_76 : decode prog_9_method_1_code 76 = .ok (.bipush 9, 2) := by decide +kernel
theorem d_9_1_78 : decode prog_9_method_1_code 78 = .ok (.if_icmp .ge 24, 3) := by decide +kernel
theorem d_9_1_81 : decode prog_9_method_1_code 81 = .ok (.aload_n 0, 1) := by decide +kernel
theorem d_9_1_82 : decode prog_9_method_1_code 82 = .ok (.getfield 24, 3) := by decide +kernel
theorem d_9_1_85 : decode prog_9_method_1_code 85 = .ok (.iload_n 3, 1) := by decide +kernel
theorem d_9_1_86 : decode prog_9_method_1_code 86 = .ok (.new 22, 3) := by decide +kernel
theorem d_9_1_89 : decode prog_9_method_1_code 89 = .ok (.dup, 1) := by decide +kernel
theorem d_9_1_90 : decode prog_9_method_1_code 90 = .ok (.bipush 64, 2) := by decide +kernel
theorem d_9_1_92 : decode prog_9_method_1_code 92 = .ok (.invokespecial 28, 3) := by decide +kernel
theorem d_9_1_95 : decode prog_9_method_1_code 95 = .ok (.aastore, 1) := by decide +kernel
theorem d_9_1_96 : decode prog_9_method_1_code 96 = .ok (.iinc 3 1, 3) := by decide +kernel
theorem d_9_1_99 : decode prog_9_method_1_code 99 = .ok (.goto (-24), 3) := by decide +kernel
theorem d_9_1_102 : decode prog_9_method_1_code 102 = .ok (.return_, 1) := by decide +kernel
def y_Pri_init : MethodName := ⟨"NumberHouse$Printer", "<init>", "(LNumberHouse$Sheet;LNumberHouse$Digits;)V"⟩

