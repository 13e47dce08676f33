/-! the class on a fresh object: put -/
set_option maxRecDepth 100000 in
set_option maxHeartbeats 4000000 in
theorem c_Big_push_10 (l : Launch) (D : va_G) (g : Nat → ClassId) (ws : va_W) (kO0 kA1 qO0 qA1 : Nat) (x1 : Int32) (hO0 : ws[kO0]? = (some (qO0, .inr (2, [.ref qA1, .int 0, .int 0])) : Option (Nat × va_E))) (hA1 : ws[kA1]? = (some (qA1, .inl (g 0, 220, .inl (fun _ => 0))) : Option (Nat × va_E))) : q_mV l y_Big_push prog_2_method_6_code 2 1 0 0 D g [.ref qO0, .int x1] ws (fun u => q_un ws u [kO0, kA1] ∧ u[kO0]? = (some (qO0, .inr (2, [.ref qA1, .int 1, .int 0])) : Option (Nat × va_E)) ∧ u[kA1]? = (some (qA1, .inl (g 0, 220, .inl (upd (fun _ => 0) 0 x1))) : Option (Nat × va_E))) := by
  intro sz
  refine q_into (by decide) (Nat.le_of_ble_eq_true rfl) ?_
  intro p e s m below meth c ls hsz C0 V hl
  have hx := C0.1
  have hb := C0.2.1
  have hl : lv_has ls 2 [(0, .ref qO0), (1, .int x1)] := hl
  have n_A1_O0 := q_df hA1 hO0
  have n_O0_A1 := Ne.symm (q_df hA1 hO0)
  have hF : q_un ws ws [kO0, kA1] := q_u0
  refine lv_aload_n hx hb d_2_6_0 rfl (lv_at hl 0 rfl) ?_
  refine q_get (ci := 2) (j := 1) (v := .int 0) C0 V i_Big rfl rfl hO0 (by decide) w_85 rfl d_2_6_1 ?_
  refine lv_aload_n hx hb d_2_6_4 rfl (lv_at hl 0 rfl) ?_
  refine q_get (ci := 2) (j := 0) (v := .ref qA1) C0 V i_Big rfl rfl hO0 (by decide) w_84 rfl d_2_6_5 ?_
  refine q_alen (t := 0) (v := 220) C0 V hA1 rfl (by first | rfl | decide) d_2_6_8 ?_
  refine lv_icmp_ge (tgt := 32) hx hb d_2_6_9 (by decide) (fun c1 => absurd c1 (by decide)) (fun c1 => ?_)
  refine lv_aload_n hx hb d_2_6_12 rfl (lv_at hl 0 rfl) ?_
  refine q_get (ci := 2) (j := 0) (v := .ref qA1) C0 V i_Big rfl rfl hO0 (by decide) w_84 rfl d_2_6_13 ?_
  refine lv_aload_n hx hb d_2_6_16 rfl (lv_at hl 0 rfl) ?_
  refine q_get (ci := 2) (j := 1) (v := .int 0) C0 V i_Big rfl rfl hO0 (by decide) w_85 rfl d_2_6_17 ?_
  refine lv_iload_n hx hb d_2_6_20 rfl (lv_at hl 1 rfl) ?_
  refine q_iast C0 V hA1 (by unfold vp_in; decide) d_2_6_21 (fun H locs w2 hu3 hA1 V => ?_)
  replace hA1 : w2[kA1]? = (some (qA1, .inl (g 0, 220, .inl (upd (fun _ => 0) 0 x1))) : Option (Nat × va_E)) := hA1
  replace hF := q_us hF hu3 (.tail _ (.head _))
  refine lv_aload_n hx hb d_2_6_22 rfl (lv_at hl 0 rfl) ?_
  refine lv_dup hx hb d_2_6_23 rfl ?_
  replace hO0 := (hu3 _ n_O0_A1).trans (hO0)
  refine q_get (ci := 2) (j := 1) (v := .int 0) C0 V i_Big rfl rfl hO0 (by decide) w_85 rfl d_2_6_24 ?_
  refine lv_iconst (v := 1) hx hb d_2_6_27 (by decide) ?_
  refine lv_iadd hx hb d_2_6_28 ?_
  refine q_ti (v := 1) (by decide) ?_
  refine q_put (ci := 2) (j := 1) (v := .int 1) (ty := .int) C0 V i_Big o_Big n_Big rfl rfl hO0 (by decide) w_85 rfl rfl rfl rfl (Nat.le_of_ble_eq_true rfl) d_2_6_29 (fun H locs w4 hu5 hO0 V => ?_)
  replace hO0 : w4[kO0]? = (some (qO0, .inr (2, [.ref qA1, .int 1, .int 0])) : Option (Nat × va_E)) := hO0
  replace hF := q_us hF hu5 (.head _)
  replace hA1 := (hu5 _ n_A1_O0).trans (hA1)
  exact q_retv C0 V (⟨hF, hO0, hA1⟩) d_2_6_32
set_option maxRecDepth 100000 in
set_option maxHeartbeats 4000000 in
theorem c_Big_push_11 (l : Launch) (D : va_G) (g : Nat → ClassId) (ws : va_W) (kO0 kA1 qO0 qA1 : Nat) (x1 : Int32) (v2 : Int32) (hO0 : ws[kO0]? = (some (qO0, .inr (2, [.ref qA1, .int 1, .int 0])) : Option (Nat × va_E))) (hA1 : ws[kA1]? = (some (qA1, .inl (g 0, 220, .inl (upd (fun _ => 0) 0 v2))) : Option (Nat × va_E))) : q_mV l y_Big_push prog_2_method_6_code 2 1 0 0 D g [.ref qO0, .int x1] ws (fun u => q_un ws u [kO0, kA1] ∧ u[kO0]? = (some (qO0, .inr (2, [.ref qA1, .int 2, .int 0])) : Option (Nat × va_E)) ∧ u[kA1]? = (some (qA1, .inl (g 0, 220, .inl (upd (upd (fun _ => 0) 0 v2) 1 x1))) : Option (Nat × va_E))) := by
  intro sz
  refine q_into (by decide) (Nat.le_of_ble_eq_true rfl) ?_
  intro p e s m below meth c ls hsz C0 V hl
  have hx := C0.1
  have hb := C0.2.1
  have hl : lv_has ls 2 [(0, .ref qO0), (1, .int x1)] := hl
  have n_A1_O0 := q_df hA1 hO0
  have n_O0_A1 := Ne.symm (q_df hA1 hO0)
  have hF : q_un ws ws [kO0, kA1] := q_u0
  refine lv_aload_n hx hb d_2_6_0 rfl (lv_at hl 0 rfl) ?_
  refine q_get (ci := 2) (j := 1) (v := .int 1) C0 V i_Big rfl rfl hO0 (by decide) w_85 rfl d_2_6_1 ?_
  refine lv_aload_n hx hb d_2_6_4 rfl (lv_at hl 0 rfl) ?_
  refine q_get (ci := 2) (j := 0) (v := .ref qA1) C0 V i_Big rfl rfl hO0 (by decide) w_84 rfl d_2_6_5 ?_
  refine q_alen (t := 0) (v := 220) C0 V hA1 rfl (by first | rfl | decide) d_2_6_8 ?_
  refine lv_icmp_ge (tgt := 32) hx hb d_2_6_9 (by decide) (fun c1 => absurd c1 (by decide)) (fun c1 => ?_)
  refine lv_aload_n hx hb d_2_6_12 rfl (lv_at hl 0 rfl) ?_
  refine q_get (ci := 2) (j := 0) (v := .ref qA1) C0 V i_Big rfl rfl hO0 (by decide) w_84 rfl d_2_6_13 ?_
  refine lv_aload_n hx hb d_2_6_16 rfl (lv_at hl 0 rfl) ?_
  refine q_get (ci := 2) (j := 1) (v := .int 1) C0 V i_Big rfl rfl hO0 (by decide) w_85 rfl d_2_6_17 ?_
  refine lv_iload_n hx hb d_2_6_20 rfl (lv_at hl 1 rfl) ?_
  refine q_iast C0 V hA1 (by unfold vp_in; decide) d_2_6_21 (fun H locs w2 hu3 hA1 V => ?_)
  replace hA1 : w2[kA1]? = (some (qA1, .inl (g 0, 220, .inl (upd (upd (fun _ => 0) 0 v2) 1 x1))) : Option (Nat × va_E)) := hA1
  replace hF := q_us hF hu3 (.tail _ (.head _))
  refine lv_aload_n hx hb d_2_6_22 rfl (lv_at hl 0 rfl) ?_
  refine lv_dup hx hb d_2_6_23 rfl ?_
  replace hO0 := (hu3 _ n_O0_A1).trans (hO0)
  refine q_get (ci := 2) (j := 1) (v := .int 1) C0 V i_Big rfl rfl hO0 (by decide) w_85 rfl d_2_6_24 ?_
  refine lv_iconst (v := 1) hx hb d_2_6_27 (by decide) ?_
  refine lv_iadd hx hb d_2_6_28 ?_
  refine q_ti (v := 2) (by decide) ?_
  refine q_put (ci := 2) (j := 1) (v := .int 2) (ty := .int) C0 V i_Big o_Big n_Big rfl rfl hO0 (by decide) w_85 rfl rfl rfl rfl (Nat.le_of_ble_eq_true rfl) d_2_6_29 (fun H locs w4 hu5 hO0 V => ?_)
  replace hO0 : w4[kO0]? = (some (qO0, .inr (2, [.ref qA1, .int 2, .int 0])) : Option (Nat × va_E)) := hO0
  replace hF := q_us hF hu5 (.head _)
  replace hA1 := (hu5 _ n_A1_O0).trans (hA1)
  exact q_retv C0 V (⟨hF, hO0, hA1⟩) d_2_6_32
set_option maxRecDepth 100000 in
set_option maxHeartbeats 4000000 in
theorem c_Big_push_12 (l : Launch) (D : va_G) (g : Nat → ClassId) (ws : va_W) (kO0 kA1 qO0 qA1 : Nat) (x1 : Int32) (v2 : Int32) (v3 : Int32) (hO0 : ws[kO0]? = (some (qO0, .inr (2, [.ref qA1, .int 2, .int 0])) : Option (Nat × va_E))) (hA1 : ws[kA1]? = (some (qA1, .inl (g 0, 220, .inl (upd (upd (fun _ => 0) 0 v2) 1 v3))) : Option (Nat × va_E))) : q_mV l y_Big_push prog_2_method_6_code 2 1 0 0 D g [.ref qO0, .int x1] ws (fun u => q_un ws u [kO0, kA1] ∧ u[kO0]? = (some (qO0, .inr (2, [.ref qA1, .int 3, .int 0])) : Option (Nat × va_E)) ∧ u[kA1]? = (some (qA1, .inl (g 0, 220, .inl (upd (upd (upd (fun _ => 0) 0 v2) 1 v3) 2 x1))) : Option (Nat × va_E))) := by
  intro sz
  refine q_into (by decide) (Nat.le_of_ble_eq_true rfl) ?_
  intro p e s m below meth c ls hsz C0 V hl
  have hx := C0.1
  have hb := C0.2.1
  have hl : lv_has ls 2 [(0, .ref qO0), (1, .int x1)] := hl
  have n_A1_O0 := q_df hA1 hO0
  have n_O0_A1 := Ne.symm (q_df hA1 hO0)
  have hF : q_un ws ws [kO0, kA1] := q_u0
  refine lv_aload_n hx hb d_2_6_0 rfl (lv_at hl 0 rfl) ?_
  refine q_get (ci := 2) (j := 1) (v := .int 2) C0 V i_Big rfl rfl hO0 (by decide) w_85 rfl d_2_6_1 ?_
  refine lv_aload_n hx hb d_2_6_4 rfl (lv_at hl 0 rfl) ?_
  refine q_get (ci := 2) (j := 0) (v := .ref qA1) C0 V i_Big rfl rfl hO0 (by decide) w_84 rfl d_2_6_5 ?_
  refine q_alen (t := 0) (v := 220) C0 V hA1 rfl (by first | rfl | decide) d_2_6_8 ?_
  refine lv_icmp_ge (tgt := 32) hx hb d_2_6_9 (by decide) (fun c1 => absurd c1 (by decide)) (fun c1 => ?_)
  refine lv_aload_n hx hb d_2_6_12 rfl (lv_at hl 0 rfl) ?_
  refine q_get (ci := 2) (j := 0) (v := .ref qA1) C0 V i_Big rfl rfl hO0 (by decide) w_84 rfl d_2_6_13 ?_
  refine lv_aload_n hx hb d_2_6_16 rfl (lv_at hl 0 rfl) ?_
  refine q_get (ci := 2) (j := 1) (v := .int 2) C0 V i_Big rfl rfl hO0 (by decide) w_85 rfl d_2_6_17 ?_
  refine lv_iload_n hx hb d_2_6_20 rfl (lv_at hl 1 rfl) ?_
  refine q_iast C0 V hA1 (by unfold vp_in; decide) d_2_6_21 (fun H locs w2 hu3 hA1 V => ?_)
  replace hA1 : w2[kA1]? = (some (qA1, .inl (g 0, 220, .inl (upd (upd (upd (fun _ => 0) 0 v2) 1 v3) 2 x1))) : Option (Nat × va_E)) := hA1
  replace hF := q_us hF hu3 (.tail _ (.head _))
  refine lv_aload_n hx hb d_2_6_22 rfl (lv_at hl 0 rfl) ?_
  refine lv_dup hx hb d_2_6_23 rfl ?_
  replace hO0 := (hu3 _ n_O0_A1).trans (hO0)
  refine q_get (ci := 2) (j := 1) (v := .int 2) C0 V i_Big rfl rfl hO0 (by decide) w_85 rfl d_2_6_24 ?_
  refine lv_iconst (v := 1) hx hb d_2_6_27 (by decide) ?_
  refine lv_iadd hx hb d_2_6_28 ?_
  refine q_ti (v := 3) (by decide) ?_
  refine q_put (ci := 2) (j := 1) (v := .int 3) (ty := .int) C0 V i_Big o_Big n_Big rfl rfl hO0 (by decide) w_85 rfl rfl rfl rfl (Nat.le_of_ble_eq_true rfl) d_2_6_29 (fun H locs w4 hu5 hO0 V => ?_)
  replace hO0 : w4[kO0]? = (some (qO0, .inr (2, [.ref qA1, .int 3, .int 0])) : Option (Nat × va_E)) := hO0
  replace hF := q_us hF hu5 (.head _)
  replace hA1 := (hu5 _ n_A1_O0).trans (hA1)
  exact q_retv C0 V (⟨hF, hO0, hA1⟩) d_2_6_32
set_option maxRecDepth 100000 in
set_option maxHeartbeats 4000000 in
theorem c_Big_trim_8 (l : Launch) (D : va_G) (g : Nat → ClassId) (ws : va_W) (kO0 kA1 qO0 qA1 : Nat) (v1 : Int32) (v2 : Int32) (v3 : Int32) (hO0 : ws[kO0]? = (some (qO0, .inr (2, [.ref qA1, .int 3, .int 0])) : Option (Nat × va_E))) (hA1 : ws[kA1]? = (some (qA1, .inl (g 0, 220, .inl (upd (upd (upd (fun _ => 0) 0 v1) 1 v2) 2 v3))) : Option (Nat × va_E))) : q_mV l y_Big_trim prog_2_method_7_code 2 1 0 0 D g [.ref qO0] ws (fun u => (¬ v3 = 0 ∧ q_un ws u [kO0] ∧ u[kO0]? = (some (qO0, .inr (2, [.ref qA1, .int 3, .int 0])) : Option (Nat × va_E))) ∨ (v3 = 0 ∧ ¬ v2 = 0 ∧ q_un ws u [kO0] ∧ u[kO0]? = (some (qO0, .inr (2, [.ref qA1, .int 2, .int 0])) : Option (Nat × va_E))) ∨ (v3 = 0 ∧ v2 = 0 ∧ ¬ v1 = 0 ∧ q_un ws u [kO0] ∧ u[kO0]? = (some (qO0, .inr (2, [.ref qA1, .int 1, .int 0])) : Option (Nat × va_E))) ∨ (v3 = 0 ∧ v2 = 0 ∧ v1 = 0 ∧ q_un ws u [kO0] ∧ u[kO0]? = (some (qO0, .inr (2, [.ref qA1, .int 0, .int 0])) : Option (Nat × va_E)))) := by
  intro sz
  refine q_into (by decide) (Nat.le_of_ble_eq_true rfl) ?_
  intro p e s m below meth c ls hsz C0 V hl
  have hx := C0.1
  have hb := C0.2.1
  have hl : lv_has ls 2 [(0, .ref qO0)] := hl
  have n_A1_O0 := q_df hA1 hO0
  have hF : q_un ws ws [kO0] := q_u0
  refine lv_aload_n hx hb d_2_7_0 rfl (lv_at hl 0 rfl) ?_
  refine q_get (ci := 2) (j := 1) (v := .int 3) C0 V i_Big rfl rfl hO0 (by decide) w_85 rfl d_2_7_1 ?_
  refine lv_istore_n (lv' := [(1, .int 3), (0, .ref qO0)]) hx hb d_2_7_4 rfl hl (by decide) rfl (fun ls hl => ?_)
  refine lv_iload_n hx hb d_2_7_5 rfl (lv_at hl 0 rfl) ?_
  refine lv_if_le (tgt := 26) hx hb d_2_7_6 (by decide) (fun c1 => absurd c1 (by decide)) (fun c1 => ?_)
  refine lv_aload_n hx hb d_2_7_9 rfl (lv_at hl 1 rfl) ?_
  refine q_get (ci := 2) (j := 0) (v := .ref qA1) C0 V i_Big rfl rfl hO0 (by decide) w_84 rfl d_2_7_10 ?_
  refine lv_iload_n hx hb d_2_7_13 rfl (lv_at hl 0 rfl) ?_
  refine lv_iconst (v := 1) hx hb d_2_7_14 (by decide) ?_
  refine lv_isub hx hb d_2_7_15 ?_
  refine q_ti (v := 2) (by decide) ?_
  refine q_iald C0 V hA1 (by unfold vp_in; decide) d_2_7_16 ?_
  refine q_ti (v := v3) (by first | rfl | decide | simp [upd, vp_updL, sb_cl0]) ?_
  refine lv_if_ne (tgt := 26) hx hb d_2_7_17 (by decide) (fun c2 => ?_) (fun c2 => ?_)
  ·
    refine lv_aload_n hx hb d_2_7_26 rfl (lv_at hl 1 rfl) ?_
    refine lv_iload_n hx hb d_2_7_27 rfl (lv_at hl 0 rfl) ?_
    refine q_put (ci := 2) (j := 1) (v := .int 3) (ty := .int) C0 V i_Big o_Big n_Big rfl rfl hO0 (by decide) w_85 rfl rfl rfl rfl (Nat.le_of_ble_eq_true rfl) d_2_7_28 (fun H locs w3 hu4 hO0 V => ?_)
    replace hO0 : w3[kO0]? = (some (qO0, .inr (2, [.ref qA1, .int 3, .int 0])) : Option (Nat × va_E)) := hO0
    replace hF := q_us hF hu4 (.head _)
    refine lv_aload_n hx hb d_2_7_31 rfl (lv_at hl 1 rfl) ?_
    refine lv_aload_n hx hb d_2_7_32 rfl (lv_at hl 1 rfl) ?_
    refine q_get (ci := 2) (j := 2) (v := .int 0) C0 V i_Big rfl rfl hO0 (by decide) w_94 rfl d_2_7_33 ?_
    refine lv_if_eq (tgt := 47) hx hb d_2_7_36 (by decide) (fun c5 => ?_) (fun c5 => absurd (by decide) c5)
    refine lv_iconst (v := 0) hx hb d_2_7_47 (by decide) ?_
    refine q_put (ci := 2) (j := 2) (v := .int 0) (ty := .boolean) C0 V i_Big o_Big n_Big rfl rfl hO0 (by decide) w_94 rfl rfl rfl rfl (Nat.le_of_ble_eq_true rfl) d_2_7_48 (fun H locs w6 hu7 hO0 V => ?_)
    replace hO0 : w6[kO0]? = (some (qO0, .inr (2, [.ref qA1, .int 3, .int 0])) : Option (Nat × va_E)) := hO0
    replace hF := q_us hF hu7 (.head _)
    exact q_retv C0 V (Or.inl ⟨c2, hF, hO0⟩) d_2_7_51
  ·
    refine lv_iinc (v := 2) (lv' := [(1, .int 2), (0, .ref qO0)]) hx hb d_2_7_20 hl (k := 0) rfl (by decide) (by decide) rfl (fun ls hl => ?_)
    refine lv_goto (tgt := 5) hx hb d_2_7_23 (by decide) ?_
    refine lv_iload_n hx hb d_2_7_5 rfl (lv_at hl 0 rfl) ?_
    refine lv_if_le (tgt := 26) hx hb d_2_7_6 (by decide) (fun c8 => absurd c8 (by decide)) (fun c8 => ?_)
    refine lv_aload_n hx hb d_2_7_9 rfl (lv_at hl 1 rfl) ?_
    refine q_get (ci := 2) (j := 0) (v := .ref qA1) C0 V i_Big rfl rfl hO0 (by decide) w_84 rfl d_2_7_10 ?_
    refine lv_iload_n hx hb d_2_7_13 rfl (lv_at hl 0 rfl) ?_
    refine lv_iconst (v := 1) hx hb d_2_7_14 (by decide) ?_
    refine lv_isub hx hb d_2_7_15 ?_
    refine q_ti (v := 1) (by decide) ?_
    refine q_iald C0 V hA1 (by unfold vp_in; decide) d_2_7_16 ?_
    refine q_ti (v := v2) (by first | rfl | decide | simp [upd, vp_updL, sb_cl0]) ?_
    refine lv_if_ne (tgt := 26) hx hb d_2_7_17 (by decide) (fun c9 => ?_) (fun c9 => ?_)
    ·
      refine lv_aload_n hx hb d_2_7_26 rfl (lv_at hl 1 rfl) ?_
      refine lv_iload_n hx hb d_2_7_27 rfl (lv_at hl 0 rfl) ?_
      refine q_put (ci := 2) (j := 1) (v := .int 2) (ty := .int) C0 V i_Big o_Big n_Big rfl rfl hO0 (by decide) w_85 rfl rfl rfl rfl (Nat.le_of_ble_eq_true rfl) d_2_7_28 (fun H locs w10 hu11 hO0 V => ?_)
      replace hO0 : w10[kO0]? = (some (qO0, .inr (2, [.ref qA1, .int 2, .int 0])) : Option (Nat × va_E)) := hO0
      replace hF := q_us hF hu11 (.head _)
      refine lv_aload_n hx hb d_2_7_31 rfl (lv_at hl 1 rfl) ?_
      refine lv_aload_n hx hb d_2_7_32 rfl (lv_at hl 1 rfl) ?_
      refine q_get (ci := 2) (j := 2) (v := .int 0) C0 V i_Big rfl rfl hO0 (by decide) w_94 rfl d_2_7_33 ?_
      refine lv_if_eq (tgt := 47) hx hb d_2_7_36 (by decide) (fun c12 => ?_) (fun c12 => absurd (by decide) c12)
      refine lv_iconst (v := 0) hx hb d_2_7_47 (by decide) ?_
      refine q_put (ci := 2) (j := 2) (v := .int 0) (ty := .boolean) C0 V i_Big o_Big n_Big rfl rfl hO0 (by decide) w_94 rfl rfl rfl rfl (Nat.le_of_ble_eq_true rfl) d_2_7_48 (fun H locs w13 hu14 hO0 V => ?_)
      replace hO0 : w13[kO0]? = (some (qO0, .inr (2, [.ref qA1, .int 2, .int 0])) : Option (Nat × va_E)) := hO0
      replace hF := q_us hF hu14 (.head _)
      exact q_retv C0 V (Or.inr (Or.inl ⟨c2, c9, hF, hO0⟩)) d_2_7_51
    ·
      refine lv_iinc (v := 1) (lv' := [(1, .int 1), (0, .ref qO0)]) hx hb d_2_7_20 hl (k := 0) rfl (by decide) (by decide) rfl (fun ls hl => ?_)
      refine lv_goto (tgt := 5) hx hb d_2_7_23 (by decide) ?_
      refine lv_iload_n hx hb d_2_7_5 rfl (lv_at hl 0 rfl) ?_
      refine lv_if_le (tgt := 26) hx hb d_2_7_6 (by decide) (fun c15 => absurd c15 (by decide)) (fun c15 => ?_)
      refine lv_aload_n hx hb d_2_7_9 rfl (lv_at hl 1 rfl) ?_
      refine q_get (ci := 2) (j := 0) (v := .ref qA1) C0 V i_Big rfl rfl hO0 (by decide) w_84 rfl d_2_7_10 ?_
      refine lv_iload_n hx hb d_2_7_13 rfl (lv_at hl 0 rfl) ?_
      refine lv_iconst (v := 1) hx hb d_2_7_14 (by decide) ?_
      refine lv_isub hx hb d_2_7_15 ?_
      refine q_ti (v := 0) (by decide) ?_
      refine q_iald C0 V hA1 (by unfold vp_in; decide) d_2_7_16 ?_
      refine q_ti (v := v1) (by first | rfl | decide | simp [upd, vp_updL, sb_cl0]) ?_
      refine lv_if_ne (tgt := 26) hx hb d_2_7_17 (by decide) (fun c16 => ?_) (fun c16 => ?_)
      ·
        refine lv_aload_n hx hb d_2_7_26 rfl (lv_at hl 1 rfl) ?_
        refine lv_iload_n hx hb d_2_7_27 rfl (lv_at hl 0 rfl) ?_
        refine q_put (ci := 2) (j := 1) (v := .int 1) (ty := .int) C0 V i_Big o_Big n_Big rfl rfl hO0 (by decide) w_85 rfl rfl rfl rfl (Nat.le_of_ble_eq_true rfl) d_2_7_28 (fun H locs w17 hu18 hO0 V => ?_)
        replace hO0 : w17[kO0]? = (some (qO0, .inr (2, [.ref qA1, .int 1, .int 0])) : Option (Nat × va_E)) := hO0
        replace hF := q_us hF hu18 (.head _)
        refine lv_aload_n hx hb d_2_7_31 rfl (lv_at hl 1 rfl) ?_
        refine lv_aload_n hx hb d_2_7_32 rfl (lv_at hl 1 rfl) ?_
        refine q_get (ci := 2) (j := 2) (v := .int 0) C0 V i_Big rfl rfl hO0 (by decide) w_94 rfl d_2_7_33 ?_
        refine lv_if_eq (tgt := 47) hx hb d_2_7_36 (by decide) (fun c19 => ?_) (fun c19 => absurd (by decide) c19)
        refine lv_iconst (v := 0) hx hb d_2_7_47 (by decide) ?_
        refine q_put (ci := 2) (j := 2) (v := .int 0) (ty := .boolean) C0 V i_Big o_Big n_Big rfl rfl hO0 (by decide) w_94 rfl rfl rfl rfl (Nat.le_of_ble_eq_true rfl) d_2_7_48 (fun H locs w20 hu21 hO0 V => ?_)
        replace hO0 : w20[kO0]? = (some (qO0, .inr (2, [.ref qA1, .int 1, .int 0])) : Option (Nat × va_E)) := hO0
        replace hF := q_us hF hu21 (.head _)
        exact q_retv C0 V (Or.inr (Or.inr (Or.inl ⟨c2, c9, c16, hF, hO0⟩))) d_2_7_51
      ·
        refine lv_iinc (v := 0) (lv' := [(1, .int 0), (0, .ref qO0)]) hx hb d_2_7_20 hl (k := 0) rfl (by decide) (by decide) rfl (fun ls hl => ?_)
        refine lv_goto (tgt := 5) hx hb d_2_7_23 (by decide) ?_
        refine lv_iload_n hx hb d_2_7_5 rfl (lv_at hl 0 rfl) ?_
        refine lv_if_le (tgt := 26) hx hb d_2_7_6 (by decide) (fun c22 => ?_) (fun c22 => absurd (by decide) c22)
        refine lv_aload_n hx hb d_2_7_26 rfl (lv_at hl 1 rfl) ?_
        refine lv_iload_n hx hb d_2_7_27 rfl (lv_at hl 0 rfl) ?_
        refine q_put (ci := 2) (j := 1) (v := .int 0) (ty := .int) C0 V i_Big o_Big n_Big rfl rfl hO0 (by decide) w_85 rfl rfl rfl rfl (Nat.le_of_ble_eq_true rfl) d_2_7_28 (fun H locs w23 hu24 hO0 V => ?_)
        replace hO0 : w23[kO0]? = (some (qO0, .inr (2, [.ref qA1, .int 0, .int 0])) : Option (Nat × va_E)) := hO0
        replace hF := q_us hF hu24 (.head _)
        refine lv_aload_n hx hb d_2_7_31 rfl (lv_at hl 1 rfl) ?_
        refine lv_aload_n hx hb d_2_7_32 rfl (lv_at hl 1 rfl) ?_
        refine q_get (ci := 2) (j := 2) (v := .int 0) C0 V i_Big rfl rfl hO0 (by decide) w_94 rfl d_2_7_33 ?_
        refine lv_if_eq (tgt := 47) hx hb d_2_7_36 (by decide) (fun c25 => ?_) (fun c25 => absurd (by decide) c25)
        refine lv_iconst (v := 0) hx hb d_2_7_47 (by decide) ?_
        refine q_put (ci := 2) (j := 2) (v := .int 0) (ty := .boolean) C0 V i_Big o_Big n_Big rfl rfl hO0 (by decide) w_94 rfl rfl rfl rfl (Nat.le_of_ble_eq_true rfl) d_2_7_48 (fun H locs w26 hu27 hO0 V => ?_)
        replace hO0 : w26[kO0]? = (some (qO0, .inr (2, [.ref qA1, .int 0, .int 0])) : Option (Nat × va_E)) := hO0
        replace hF := q_us hF hu27 (.head _)
        exact q_retv C0 V (Or.inr (Or.inr (Or.inr (⟨c2, c9, c16, hF, hO0⟩)))) d_2_7_51
theorem d_2_3_50 : decode prog_2_method_3_code 50 = .ok (.iconst 1, 1) := by decide +kernel
theorem d_2_3_51 : decode prog_2_method_3_code 51 = .ok (.goto 4, 3) := by decide +kernel
set_option maxRecDepth 100000 in
set_option maxHeartbeats 4000000 in
theorem c_Big_setLong_4 (l : Launch) (D : va_G) (g : Nat → ClassId) (ws : va_W) (kO0 kA1 qO0 qA1 : Nat) (x1 : Int64) (hO0 : ws[kO0]? = (some (qO0, .inr (2, [.ref qA1, .int 0, .int 0])) : Option (Nat × va_E))) (hA1 : ws[kA1]? = (some (qA1, .inl (g 0, 220, .inl (fun _ => 0))) : Option (Nat × va_E))) : q_mV l y_Big_setLong prog_2_method_3_code 6 2 0 0 D g [.ref qO0, .long x1] ws (fun u => ∃ (ex0 : Int32) (ex1 : Int32) (ex2 : Nat → Int32), 0 ≤ ex0 ∧ ex0 ≤ 3 ∧ 0 ≤ ex1 ∧ ex1 ≤ 1 ∧ q_un ws u [kO0, kA1] ∧ u[kO0]? = (some (qO0, .inr (2, [.ref qA1, .int ex0, .int ex1])) : Option (Nat × va_E)) ∧ u[kA1]? = (some (qA1, .inl (g 0, 220, .inl ex2)) : Option (Nat × va_E))) := by
  intro sz
  refine q_into (by decide) (Nat.le_of_ble_eq_true rfl) ?_
  intro p e s m below meth c ls hsz C0 V hl
  have hx := C0.1
  have hb := C0.2.1
  have hl : lv_has ls 6 [(0, .ref qO0), (1, .long x1)] := hl
  have n_A1_O0 := q_df hA1 hO0
  have hF : q_un ws ws [kO0, kA1] := q_u0
  refine lv_aload_n hx hb d_2_3_0 rfl (lv_at hl 0 rfl) ?_
  refine q_gov V (q_runV (As := []) (rest := []) (d := 1) (mc := 0) (ms := 0) (ci := 2) C0 V rfl LV_Big_21 (c_Big_clear l D g ws kO0 qO0 qA1 0 0 hO0 _) rfl rfl hO0 rfl hl.1 rfl (Nat.le_of_ble_eq_true rfl) ⟨by decide, by decide⟩ ⟨Nat.le_of_ble_eq_true rfl, Nat.le_of_ble_eq_true rfl⟩ d_2_3_1) (fun u2 H locs hp1 V => ?_)
  obtain ⟨hg3, hO0⟩ := hp1
  replace hF := q_uc hF hg3 (q_sc (.head _) (fun _ h => absurd h List.not_mem_nil))
  refine lv_lload_n hx hb d_2_3_4 rfl (lv_at hl 1 rfl) ?_
  refine q_absl C0 hl.1 rfl w_198 w_199 w_7 w_200 ⟨Nat.le_of_ble_eq_true rfl, Nat.le_of_ble_eq_true rfl⟩ ⟨Nat.le_of_ble_eq_true rfl, Nat.le_of_ble_eq_true rfl⟩ d_2_3_5 ?_
  refine lv_lstore_n (lv' := [(3, .long (if 0 < x1 then x1 else -x1)), (0, .ref qO0), (1, .long x1)]) hx hb d_2_3_8 rfl hl (by decide) rfl (fun ls hl => ?_)
  refine lv_iconst (v := 0) hx hb d_2_3_9 (by decide) ?_
  refine lv_istore (lv' := [(5, .int 0), (3, .long (if 0 < x1 then x1 else -x1)), (0, .ref qO0), (1, .long x1)]) hx hb d_2_3_10 hl (by decide) rfl (fun ls hl => ?_)
  refine lv_iload hx hb d_2_3_12 (lv_at hl 0 rfl) ?_
  refine lv_iconst (v := 3) hx hb d_2_3_14 (by decide) ?_
  refine lv_icmp_ge (tgt := 39) hx hb d_2_3_15 (by decide) (fun c4 => absurd c4 (by decide)) (fun c4 => ?_)
  refine lv_aload_n hx hb d_2_3_18 rfl (lv_at hl 2 rfl) ?_
  refine lv_lload_n hx hb d_2_3_19 rfl (lv_at hl 1 rfl) ?_
  refine q_ldc2 C0 rfl w_201 d_2_3_20 ?_
  refine lv_land hx hb d_2_3_23 ?_
  refine lv_l2i hx hb d_2_3_24 rfl ?_
  replace hA1 := (hg3 _ (q_nc n_A1_O0 List.not_mem_nil)).trans (hA1)
  refine q_gov V (q_runV (As := [.int (((if 0 < x1 then x1 else -x1) &&& 2147483647).toInt32)]) (rest := []) (d := 1) (mc := 0) (ms := 0) (ci := 2) C0 V rfl LV_Big_32 (c_Big_push_10 l D g u2 kO0 kA1 qO0 qA1 (((if 0 < x1 then x1 else -x1) &&& 2147483647).toInt32) hO0 hA1 _) rfl rfl hO0 rfl hl.1 rfl (Nat.le_of_ble_eq_true rfl) ⟨by decide, by decide⟩ ⟨Nat.le_of_ble_eq_true rfl, Nat.le_of_ble_eq_true rfl⟩ d_2_3_25) (fun u6 H locs hp5 V => ?_)
  obtain ⟨hg7, hO0, hA1⟩ := hp5
  replace hF := q_uc hF hg7 (q_sc (.head _) (q_sc (.tail _ (.head _)) (fun _ h => absurd h List.not_mem_nil)))
  refine lv_lload_n hx hb d_2_3_28 rfl (lv_at hl 1 rfl) ?_
  refine lv_bipush (v := 31) hx hb d_2_3_29 (by decide) ?_
  refine lv_lushr hx hb d_2_3_31 rfl ?_
  refine lv_lstore_n (lv' := [(3, .long (((if 0 < x1 then x1 else -x1).toUInt64 >>> ((31 : Int32).toInt64.toUInt64 &&& Int64.toUInt64 63)).toInt64)), (5, .int 0), (0, .ref qO0), (1, .long x1)]) hx hb d_2_3_32 rfl hl (by decide) rfl (fun ls hl => ?_)
  refine lv_iinc (v := 1) (lv' := [(5, .int 1), (3, .long (((if 0 < x1 then x1 else -x1).toUInt64 >>> ((31 : Int32).toInt64.toUInt64 &&& Int64.toUInt64 63)).toInt64)), (0, .ref qO0), (1, .long x1)]) hx hb d_2_3_33 hl (k := 1) rfl (by decide) (by decide) rfl (fun ls hl => ?_)
  refine lv_goto (tgt := 12) hx hb d_2_3_36 (by decide) ?_
  refine lv_iload hx hb d_2_3_12 (lv_at hl 0 rfl) ?_
  refine lv_iconst (v := 3) hx hb d_2_3_14 (by decide) ?_
  refine lv_icmp_ge (tgt := 39) hx hb d_2_3_15 (by decide) (fun c8 => absurd c8 (by decide)) (fun c8 => ?_)
  refine lv_aload_n hx hb d_2_3_18 rfl (lv_at hl 2 rfl) ?_
  refine lv_lload_n hx hb d_2_3_19 rfl (lv_at hl 1 rfl) ?_
  refine q_ldc2 C0 rfl w_201 d_2_3_20 ?_
  refine lv_land hx hb d_2_3_23 ?_
  refine lv_l2i hx hb d_2_3_24 rfl ?_
  refine q_gov V (q_runV (As := [.int (((((if 0 < x1 then x1 else -x1).toUInt64 >>> ((31 : Int32).toInt64.toUInt64 &&& Int64.toUInt64 63)).toInt64) &&& 2147483647).toInt32)]) (rest := []) (d := 1) (mc := 0) (ms := 0) (ci := 2) C0 V rfl LV_Big_32 (c_Big_push_11 l D g u6 kO0 kA1 qO0 qA1 (((((if 0 < x1 then x1 else -x1).toUInt64 >>> ((31 : Int32).toInt64.toUInt64 &&& Int64.toUInt64 63)).toInt64) &&& 2147483647).toInt32) (((if 0 < x1 then x1 else -x1) &&& 2147483647).toInt32) hO0 hA1 _) rfl rfl hO0 rfl hl.1 rfl (Nat.le_of_ble_eq_true rfl) ⟨by decide, by decide⟩ ⟨Nat.le_of_ble_eq_true rfl, Nat.le_of_ble_eq_true rfl⟩ d_2_3_25) (fun u10 H locs hp9 V => ?_)
  obtain ⟨hg11, hO0, hA1⟩ := hp9
  replace hF := q_uc hF hg11 (q_sc (.head _) (q_sc (.tail _ (.head _)) (fun _ h => absurd h List.not_mem_nil)))
  refine lv_lload_n hx hb d_2_3_28 rfl (lv_at hl 1 rfl) ?_
  refine lv_bipush (v := 31) hx hb d_2_3_29 (by decide) ?_
  refine lv_lushr hx hb d_2_3_31 rfl ?_
  refine lv_lstore_n (lv' := [(3, .long (((((if 0 < x1 then x1 else -x1).toUInt64 >>> ((31 : Int32).toInt64.toUInt64 &&& Int64.toUInt64 63)).toInt64).toUInt64 >>> ((31 : Int32).toInt64.toUInt64 &&& Int64.toUInt64 63)).toInt64)), (5, .int 1), (0, .ref qO0), (1, .long x1)]) hx hb d_2_3_32 rfl hl (by decide) rfl (fun ls hl => ?_)
  refine lv_iinc (v := 2) (lv' := [(5, .int 2), (3, .long (((((if 0 < x1 then x1 else -x1).toUInt64 >>> ((31 : Int32).toInt64.toUInt64 &&& Int64.toUInt64 63)).toInt64).toUInt64 >>> ((31 : Int32).toInt64.toUInt64 &&& Int64.toUInt64 63)).toInt64)), (0, .ref qO0), (1, .long x1)]) hx hb d_2_3_33 hl (k := 1) rfl (by decide) (by decide) rfl (fun ls hl => ?_)
  refine lv_goto (tgt := 12) hx hb d_2_3_36 (by decide) ?_
  refine lv_iload hx hb d_2_3_12 (lv_at hl 0 rfl) ?_
  refine lv_iconst (v := 3) hx hb d_2_3_14 (by decide) ?_
  refine lv_icmp_ge (tgt := 39) hx hb d_2_3_15 (by decide) (fun c12 => absurd c12 (by decide)) (fun c12 => ?_)
  refine lv_aload_n hx hb d_2_3_18 rfl (lv_at hl 2 rfl) ?_
  refine lv_lload_n hx hb d_2_3_19 rfl (lv_at hl 1 rfl) ?_
  refine q_ldc2 C0 rfl w_201 d_2_3_20 ?_
  refine lv_land hx hb d_2_3_23 ?_
  refine lv_l2i hx hb d_2_3_24 rfl ?_
  refine q_gov V (q_runV (As := [.int (((((((if 0 < x1 then x1 else -x1).toUInt64 >>> ((31 : Int32).toInt64.toUInt64 &&& Int64.toUInt64 63)).toInt64).toUInt64 >>> ((31 : Int32).toInt64.toUInt64 &&& Int64.toUInt64 63)).toInt64) &&& 2147483647).toInt32)]) (rest := []) (d := 1) (mc := 0) (ms := 0) (ci := 2) C0 V rfl LV_Big_32 (c_Big_push_12 l D g u10 kO0 kA1 qO0 qA1 (((((((if 0 < x1 then x1 else -x1).toUInt64 >>> ((31 : Int32).toInt64.toUInt64 &&& Int64.toUInt64 63)).toInt64).toUInt64 >>> ((31 : Int32).toInt64.toUInt64 &&& Int64.toUInt64 63)).toInt64) &&& 2147483647).toInt32) (((if 0 < x1 then x1 else -x1) &&& 2147483647).toInt32) (((((if 0 < x1 then x1 else -x1).toUInt64 >>> ((31 : Int32).toInt64.toUInt64 &&& Int64.toUInt64 63)).toInt64) &&& 2147483647).toInt32) hO0 hA1 _) rfl rfl hO0 rfl hl.1 rfl (Nat.le_of_ble_eq_true rfl) ⟨by decide, by decide⟩ ⟨Nat.le_of_ble_eq_true rfl, Nat.le_of_ble_eq_true rfl⟩ d_2_3_25) (fun u14 H locs hp13 V => ?_)
  obtain ⟨hg15, hO0, hA1⟩ := hp13
  replace hF := q_uc hF hg15 (q_sc (.head _) (q_sc (.tail _ (.head _)) (fun _ h => absurd h List.not_mem_nil)))
  refine lv_lload_n hx hb d_2_3_28 rfl (lv_at hl 1 rfl) ?_
  refine lv_bipush (v := 31) hx hb d_2_3_29 (by decide) ?_
  refine lv_lushr hx hb d_2_3_31 rfl ?_
  refine lv_lstore_n (lv' := [(3, .long (((((((if 0 < x1 then x1 else -x1).toUInt64 >>> ((31 : Int32).toInt64.toUInt64 &&& Int64.toUInt64 63)).toInt64).toUInt64 >>> ((31 : Int32).toInt64.toUInt64 &&& Int64.toUInt64 63)).toInt64).toUInt64 >>> ((31 : Int32).toInt64.toUInt64 &&& Int64.toUInt64 63)).toInt64)), (5, .int 2), (0, .ref qO0), (1, .long x1)]) hx hb d_2_3_32 rfl hl (by decide) rfl (fun ls hl => ?_)
  refine lv_iinc (v := 3) (lv' := [(5, .int 3), (3, .long (((((((if 0 < x1 then x1 else -x1).toUInt64 >>> ((31 : Int32).toInt64.toUInt64 &&& Int64.toUInt64 63)).toInt64).toUInt64 >>> ((31 : Int32).toInt64.toUInt64 &&& Int64.toUInt64 63)).toInt64).toUInt64 >>> ((31 : Int32).toInt64.toUInt64 &&& Int64.toUInt64 63)).toInt64)), (0, .ref qO0), (1, .long x1)]) hx hb d_2_3_33 hl (k := 1) rfl (by decide) (by decide) rfl (fun ls hl => ?_)
  refine lv_goto (tgt := 12) hx hb d_2_3_36 (by decide) ?_
  refine lv_iload hx hb d_2_3_12 (lv_at hl 0 rfl) ?_
  refine lv_iconst (v := 3) hx hb d_2_3_14 (by decide) ?_
  refine lv_icmp_ge (tgt := 39) hx hb d_2_3_15 (by decide) (fun c16 => ?_) (fun c16 => absurd (by decide) c16)
  refine lv_aload_n hx hb d_2_3_39 rfl (lv_at hl 2 rfl) ?_
  refine q_gov V (q_runV (As := []) (rest := []) (d := 1) (mc := 0) (ms := 0) (ci := 2) C0 V rfl LV_Big_36 (c_Big_trim_8 l D g u14 kO0 kA1 qO0 qA1 (((if 0 < x1 then x1 else -x1) &&& 2147483647).toInt32) (((((if 0 < x1 then x1 else -x1).toUInt64 >>> ((31 : Int32).toInt64.toUInt64 &&& Int64.toUInt64 63)).toInt64) &&& 2147483647).toInt32) (((((((if 0 < x1 then x1 else -x1).toUInt64 >>> ((31 : Int32).toInt64.toUInt64 &&& Int64.toUInt64 63)).toInt64).toUInt64 >>> ((31 : Int32).toInt64.toUInt64 &&& Int64.toUInt64 63)).toInt64) &&& 2147483647).toInt32) hO0 hA1 _) rfl rfl hO0 rfl hl.1 rfl (Nat.le_of_ble_eq_true rfl) ⟨by decide, by decide⟩ ⟨Nat.le_of_ble_eq_true rfl, Nat.le_of_ble_eq_true rfl⟩ d_2_3_40) (fun u18 H locs hp17 V => ?_)
  rcases hp17 with ⟨c19, hg20, hO0⟩ | ⟨c21, c22, hg23, hO0⟩ | ⟨c24, c25, c26, hg27, hO0⟩ | ⟨c28, c29, c30, hg31, hO0⟩
  ·
    replace hF := q_uc hF hg20 (q_sc (.head _) (fun _ h => absurd h List.not_mem_nil))
    refine lv_aload_n hx hb d_2_3_43 rfl (lv_at hl 2 rfl) ?_
    refine lv_lload_n hx hb d_2_3_44 rfl (lv_at hl 3 rfl) ?_
    refine lv_lconst (v := 0) hx hb d_2_3_45 (by decide) ?_
    refine W.lcmp hx hb d_2_3_46 ?_
    refine lv_if_ge (tgt := 54) hx hb d_2_3_47 (by decide) (fun c32 => ?_) (fun c32 => ?_)
    ·
      refine lv_iconst (v := 0) hx hb d_2_3_54 (by decide) ?_
      refine q_put (ci := 2) (j := 2) (v := .int 0) (ty := .boolean) C0 V i_Big o_Big n_Big rfl rfl hO0 (by decide) w_94 rfl rfl rfl rfl (Nat.le_of_ble_eq_true rfl) d_2_3_55 (fun H locs w33 hu34 hO0 V => ?_)
      replace hO0 : w33[kO0]? = (some (qO0, .inr (2, [.ref qA1, .int 3, .int 0])) : Option (Nat × va_E)) := hO0
      replace hF := q_us hF hu34 (.head _)
      obtain ⟨zn35, hz36⟩ : ∃ z : Int32, (3 : Int32) = z := ⟨_, rfl⟩
      have e37 : 0 ≤ zn35 := hz36 ▸ (by decide)
      have e38 : zn35 ≤ 3 := hz36 ▸ (by decide)
      replace hO0 : w33[kO0]? = (some (qO0, .inr (2, [.ref qA1, .int zn35, .int 0])) : Option (Nat × va_E)) := q_re hO0 (by rw [← hz36])
      obtain ⟨zn39, hz40⟩ : ∃ z : Int32, (0 : Int32) = z := ⟨_, rfl⟩
      have e41 : 0 ≤ zn39 := hz40 ▸ (by decide)
      have e42 : zn39 ≤ 1 := hz40 ▸ (by decide)
      replace hO0 : w33[kO0]? = (some (qO0, .inr (2, [.ref qA1, .int zn35, .int zn39])) : Option (Nat × va_E)) := q_re hO0 (by rw [← hz40])
      replace hA1 := (hu34 _ n_A1_O0).trans ((hg20 _ (q_nc n_A1_O0 List.not_mem_nil)).trans (hA1))
      exact q_retv C0 V (⟨zn35, zn39, (upd (upd (upd (fun _ => 0) 0 (((if 0 < x1 then x1 else -x1) &&& 2147483647).toInt32)) 1 (((((if 0 < x1 then x1 else -x1).toUInt64 >>> ((31 : Int32).toInt64.toUInt64 &&& Int64.toUInt64 63)).toInt64) &&& 2147483647).toInt32)) 2 (((((((if 0 < x1 then x1 else -x1).toUInt64 >>> ((31 : Int32).toInt64.toUInt64 &&& Int64.toUInt64 63)).toInt64).toUInt64 >>> ((31 : Int32).toInt64.toUInt64 &&& Int64.toUInt64 63)).toInt64) &&& 2147483647).toInt32)), e37, e38, e41, e42, hF, hO0, hA1⟩) d_2_3_58
    ·
      refine lv_iconst (v := 1) hx hb d_2_3_50 (by decide) ?_
      refine lv_goto (tgt := 55) hx hb d_2_3_51 (by decide) ?_
      refine q_put (ci := 2) (j := 2) (v := .int 1) (ty := .boolean) C0 V i_Big o_Big n_Big rfl rfl hO0 (by decide) w_94 rfl rfl rfl rfl (Nat.le_of_ble_eq_true rfl) d_2_3_55 (fun H locs w43 hu44 hO0 V => ?_)
      replace hO0 : w43[kO0]? = (some (qO0, .inr (2, [.ref qA1, .int 3, .int 1])) : Option (Nat × va_E)) := hO0
      replace hF := q_us hF hu44 (.head _)
      obtain ⟨zn45, hz46⟩ : ∃ z : Int32, (3 : Int32) = z := ⟨_, rfl⟩
      have e47 : 0 ≤ zn45 := hz46 ▸ (by decide)
      have e48 : zn45 ≤ 3 := hz46 ▸ (by decide)
      replace hO0 : w43[kO0]? = (some (qO0, .inr (2, [.ref qA1, .int zn45, .int 1])) : Option (Nat × va_E)) := q_re hO0 (by rw [← hz46])
      obtain ⟨zn49, hz50⟩ : ∃ z : Int32, (1 : Int32) = z := ⟨_, rfl⟩
      have e51 : 0 ≤ zn49 := hz50 ▸ (by decide)
      have e52 : zn49 ≤ 1 := hz50 ▸ (by decide)
      replace hO0 : w43[kO0]? = (some (qO0, .inr (2, [.ref qA1, .int zn45, .int zn49])) : Option (Nat × va_E)) := q_re hO0 (by rw [← hz50])
      replace hA1 := (hu44 _ n_A1_O0).trans ((hg20 _ (q_nc n_A1_O0 List.not_mem_nil)).trans (hA1))
      exact q_retv C0 V (⟨zn45, zn49, (upd (upd (upd (fun _ => 0) 0 (((if 0 < x1 then x1 else -x1) &&& 2147483647).toInt32)) 1 (((((if 0 < x1 then x1 else -x1).toUInt64 >>> ((31 : Int32).toInt64.toUInt64 &&& Int64.toUInt64 63)).toInt64) &&& 2147483647).toInt32)) 2 (((((((if 0 < x1 then x1 else -x1).toUInt64 >>> ((31 : Int32).toInt64.toUInt64 &&& Int64.toUInt64 63)).toInt64).toUInt64 >>> ((31 : Int32).toInt64.toUInt64 &&& Int64.toUInt64 63)).toInt64) &&& 2147483647).toInt32)), e47, e48, e51, e52, hF, hO0, hA1⟩) d_2_3_58
  ·
    replace hF := q_uc hF hg23 (q_sc (.head _) (fun _ h => absurd h List.not_mem_nil))
    refine lv_aload_n hx hb d_2_3_43 rfl (lv_at hl 2 rfl) ?_
    refine lv_lload_n hx hb d_2_3_44 rfl (lv_at hl 3 rfl) ?_
    refine lv_lconst (v := 0) hx hb d_2_3_45 (by decide) ?_
    refine W.lcmp hx hb d_2_3_46 ?_
    refine lv_if_ge (tgt := 54) hx hb d_2_3_47 (by decide) (fun c53 => ?_) (fun c53 => ?_)
    ·
      refine lv_iconst (v := 0) hx hb d_2_3_54 (by decide) ?_
      refine q_put (ci := 2) (j := 2) (v := .int 0) (ty := .boolean) C0 V i_Big o_Big n_Big rfl rfl hO0 (by decide) w_94 rfl rfl rfl rfl (Nat.le_of_ble_eq_true rfl) d_2_3_55 (fun H locs w54 hu55 hO0 V => ?_)
      replace hO0 : w54[kO0]? = (some (qO0, .inr (2, [.ref qA1, .int 2, .int 0])) : Option (Nat × va_E)) := hO0
      replace hF := q_us hF hu55 (.head _)
      obtain ⟨zn56, hz57⟩ : ∃ z : Int32, (2 : Int32) = z := ⟨_, rfl⟩
      have e58 : 0 ≤ zn56 := hz57 ▸ (by decide)
      have e59 : zn56 ≤ 3 := hz57 ▸ (by decide)
      replace hO0 : w54[kO0]? = (some (qO0, .inr (2, [.ref qA1, .int zn56, .int 0])) : Option (Nat × va_E)) := q_re hO0 (by rw [← hz57])
      obtain ⟨zn60, hz61⟩ : ∃ z : Int32, (0 : Int32) = z := ⟨_, rfl⟩
      have e62 : 0 ≤ zn60 := hz61 ▸ (by decide)
      have e63 : zn60 ≤ 1 := hz61 ▸ (by decide)
      replace hO0 : w54[kO0]? = (some (qO0, .inr (2, [.ref qA1, .int zn56, .int zn60])) : Option (Nat × va_E)) := q_re hO0 (by rw [← hz61])
      replace hA1 := (hu55 _ n_A1_O0).trans ((hg23 _ (q_nc n_A1_O0 List.not_mem_nil)).trans (hA1))
      exact q_retv C0 V (⟨zn56, zn60, (upd (upd (upd (fun _ => 0) 0 (((if 0 < x1 then x1 else -x1) &&& 2147483647).toInt32)) 1 (((((if 0 < x1 then x1 else -x1).toUInt64 >>> ((31 : Int32).toInt64.toUInt64 &&& Int64.toUInt64 63)).toInt64) &&& 2147483647).toInt32)) 2 (((((((if 0 < x1 then x1 else -x1).toUInt64 >>> ((31 : Int32).toInt64.toUInt64 &&& Int64.toUInt64 63)).toInt64).toUInt64 >>> ((31 : Int32).toInt64.toUInt64 &&& Int64.toUInt64 63)).toInt64) &&& 2147483647).toInt32)), e58, e59, e62, e63, hF, hO0, hA1⟩) d_2_3_58
    ·
      refine lv_iconst (v := 1) hx hb d_2_3_50 (by decide) ?_
      refine lv_goto (tgt := 55) hx hb d_2_3_51 (by decide) ?_
      refine q_put (ci := 2) (j := 2) (v := .int 1) (ty := .boolean) C0 V i_Big o_Big n_Big rfl rfl hO0 (by decide) w_94 rfl rfl rfl rfl (Nat.le_of_ble_eq_true rfl) d_2_3_55 (fun H locs w64 hu65 hO0 V => ?_)
      replace hO0 : w64[kO0]? = (some (qO0, .inr (2, [.ref qA1, .int 2, .int 1])) : Option (Nat × va_E)) := hO0
      replace hF := q_us hF hu65 (.head _)
      obtain ⟨zn66, hz67⟩ : ∃ z : Int32, (2 : Int32) = z := ⟨_, rfl⟩
      have e68 : 0 ≤ zn66 := hz67 ▸ (by decide)
      have e69 : zn66 ≤ 3 := hz67 ▸ (by decide)
      replace hO0 : w64[kO0]? = (some (qO0, .inr (2, [.ref qA1, .int zn66, .int 1])) : Option (Nat × va_E)) := q_re hO0 (by rw [← hz67])
      obtain ⟨zn70, hz71⟩ : ∃ z : Int32, (1 : Int32) = z := ⟨_, rfl⟩
      have e72 : 0 ≤ zn70 := hz71 ▸ (by decide)
      have e73 : zn70 ≤ 1 := hz71 ▸ (by decide)
      replace hO0 : w64[kO0]? = (some (qO0, .inr (2, [.ref qA1, .int zn66, .int zn70])) : Option (Nat × va_E)) := q_re hO0 (by rw [← hz71])
      replace hA1 := (hu65 _ n_A1_O0).trans ((hg23 _ (q_nc n_A1_O0 List.not_mem_nil)).trans (hA1))
      exact q_retv C0 V (⟨zn66, zn70, (upd (upd (upd (fun _ => 0) 0 (((if 0 < x1 then x1 else -x1) &&& 2147483647).toInt32)) 1 (((((if 0 < x1 then x1 else -x1).toUInt64 >>> ((31 : Int32).toInt64.toUInt64 &&& Int64.toUInt64 63)).toInt64) &&& 2147483647).toInt32)) 2 (((((((if 0 < x1 then x1 else -x1).toUInt64 >>> ((31 : Int32).toInt64.toUInt64 &&& Int64.toUInt64 63)).toInt64).toUInt64 >>> ((31 : Int32).toInt64.toUInt64 &&& Int64.toUInt64 63)).toInt64) &&& 2147483647).toInt32)), e68, e69, e72, e73, hF, hO0, hA1⟩) d_2_3_58
  ·
    replace hF := q_uc hF hg27 (q_sc (.head _) (fun _ h => absurd h List.not_mem_nil))
    refine lv_aload_n hx hb d_2_3_43 rfl (lv_at hl 2 rfl) ?_
    refine lv_lload_n hx hb d_2_3_44 rfl (lv_at hl 3 rfl) ?_
    refine lv_lconst (v := 0) hx hb d_2_3_45 (by decide) ?_
    refine W.lcmp hx hb d_2_3_46 ?_
    refine lv_if_ge (tgt := 54) hx hb d_2_3_47 (by decide) (fun c74 => ?_) (fun c74 => ?_)
    ·
      refine lv_iconst (v := 0) hx hb d_2_3_54 (by decide) ?_
      refine q_put (ci := 2) (j := 2) (v := .int 0) (ty := .boolean) C0 V i_Big o_Big n_Big rfl rfl hO0 (by decide) w_94 rfl rfl rfl rfl (Nat.le_of_ble_eq_true rfl) d_2_3_55 (fun H locs w75 hu76 hO0 V => ?_)
      replace hO0 : w75[kO0]? = (some (qO0, .inr (2, [.ref qA1, .int 1, .int 0])) : Option (Nat × va_E)) := hO0
      replace hF := q_us hF hu76 (.head _)
      obtain ⟨zn77, hz78⟩ : ∃ z : Int32, (1 : Int32) = z := ⟨_, rfl⟩
      have e79 : 0 ≤ zn77 := hz78 ▸ (by decide)
      have e80 : zn77 ≤ 3 := hz78 ▸ (by decide)
      replace hO0 : w75[kO0]? = (some (qO0, .inr (2, [.ref qA1, .int zn77, .int 0])) : Option (Nat × va_E)) := q_re hO0 (by rw [← hz78])
      obtain ⟨zn81, hz82⟩ : ∃ z : Int32, (0 : Int32) = z := ⟨_, rfl⟩
      have e83 : 0 ≤ zn81 := hz82 ▸ (by decide)
      have e84 : zn81 ≤ 1 := hz82 ▸ (by decide)
      replace hO0 : w75[kO0]? = (some (qO0, .inr (2, [.ref qA1, .int zn77, .int zn81])) : Option (Nat × va_E)) := q_re hO0 (by rw [← hz82])
      replace hA1 := (hu76 _ n_A1_O0).trans ((hg27 _ (q_nc n_A1_O0 List.not_mem_nil)).trans (hA1))
      exact q_retv C0 V (⟨zn77, zn81, (upd (upd (upd (fun _ => 0) 0 (((if 0 < x1 then x1 else -x1) &&& 2147483647).toInt32)) 1 (((((if 0 < x1 then x1 else -x1).toUInt64 >>> ((31 : Int32).toInt64.toUInt64 &&& Int64.toUInt64 63)).toInt64) &&& 2147483647).toInt32)) 2 (((((((if 0 < x1 then x1 else -x1).toUInt64 >>> ((31 : Int32).toInt64.toUInt64 &&& Int64.toUInt64 63)).toInt64).toUInt64 >>> ((31 : Int32).toInt64.toUInt64 &&& Int64.toUInt64 63)).toInt64) &&& 2147483647).toInt32)), e79, e80, e83, e84, hF, hO0, hA1⟩) d_2_3_58
    ·
      refine lv_iconst (v := 1) hx hb d_2_3_50 (by decide) ?_
      refine lv_goto (tgt := 55) hx hb d_2_3_51 (by decide) ?_
      refine q_put (ci := 2) (j := 2) (v := .int 1) (ty := .boolean) C0 V i_Big o_Big n_Big rfl rfl hO0 (by decide) w_94 rfl rfl rfl rfl (Nat.le_of_ble_eq_true rfl) d_2_3_55 (fun H locs w85 hu86 hO0 V => ?_)
      replace hO0 : w85[kO0]? = (some (qO0, .inr (2, [.ref qA1, .int 1, .int 1])) : Option (Nat × va_E)) := hO0
      replace hF := q_us hF hu86 (.head _)
      obtain ⟨zn87, hz88⟩ : ∃ z : Int32, (1 : Int32) = z := ⟨_, rfl⟩
      have e89 : 0 ≤ zn87 := hz88 ▸ (by decide)
      have e90 : zn87 ≤ 3 := hz88 ▸ (by decide)
      replace hO0 : w85[kO0]? = (some (qO0, .inr (2, [.ref qA1, .int zn87, .int 1])) : Option (Nat × va_E)) := q_re hO0 (by rw [← hz88])
      obtain ⟨zn91, hz92⟩ : ∃ z : Int32, (1 : Int32) = z := ⟨_, rfl⟩
      have e93 : 0 ≤ zn91 := hz92 ▸ (by decide)
      have e94 : zn91 ≤ 1 := hz92 ▸ (by decide)
      replace hO0 : w85[kO0]? = (some (qO0, .inr (2, [.ref qA1, .int zn87, .int zn91])) : Option (Nat × va_E)) := q_re hO0 (by rw [← hz92])
      replace hA1 := (hu86 _ n_A1_O0).trans ((hg27 _ (q_nc n_A1_O0 List.not_mem_nil)).trans (hA1))
      exact q_retv C0 V (⟨zn87, zn91, (upd (upd (upd (fun _ => 0) 0 (((if 0 < x1 then x1 else -x1) &&& 2147483647).toInt32)) 1 (((((if 0 < x1 then x1 else -x1).toUInt64 >>> ((31 : Int32).toInt64.toUInt64 &&& Int64.toUInt64 63)).toInt64) &&& 2147483647).toInt32)) 2 (((((((if 0 < x1 then x1 else -x1).toUInt64 >>> ((31 : Int32).toInt64.toUInt64 &&& Int64.toUInt64 63)).toInt64).toUInt64 >>> ((31 : Int32).toInt64.toUInt64 &&& Int64.toUInt64 63)).toInt64) &&& 2147483647).toInt32)), e89, e90, e93, e94, hF, hO0, hA1⟩) d_2_3_58
  ·
    replace hF := q_uc hF hg31 (q_sc (.head _) (fun _ h => absurd h List.not_mem_nil))
    refine lv_aload_n hx hb d_2_3_43 rfl (lv_at hl 2 rfl) ?_
    refine lv_lload_n hx hb d_2_3_44 rfl (lv_at hl 3 rfl) ?_
    refine lv_lconst (v := 0) hx hb d_2_3_45 (by decide) ?_
    refine W.lcmp hx hb d_2_3_46 ?_
    refine lv_if_ge (tgt := 54) hx hb d_2_3_47 (by decide) (fun c95 => ?_) (fun c95 => ?_)
    ·
      refine lv_iconst (v := 0) hx hb d_2_3_54 (by decide) ?_
      refine q_put (ci := 2) (j := 2) (v := .int 0) (ty := .boolean) C0 V i_Big o_Big n_Big rfl rfl hO0 (by decide) w_94 rfl rfl rfl rfl (Nat.le_of_ble_eq_true rfl) d_2_3_55 (fun H locs w96 hu97 hO0 V => ?_)
      replace hO0 : w96[kO0]? = (some (qO0, .inr (2, [.ref qA1, .int 0, .int 0])) : Option (Nat × va_E)) := hO0
      replace hF := q_us hF hu97 (.head _)
      obtain ⟨zn98, hz99⟩ : ∃ z : Int32, (0 : Int32) = z := ⟨_, rfl⟩
      have e100 : 0 ≤ zn98 := hz99 ▸ (by decide)
      have e101 : zn98 ≤ 3 := hz99 ▸ (by decide)
      replace hO0 : w96[kO0]? = (some (qO0, .inr (2, [.ref qA1, .int zn98, .int 0])) : Option (Nat × va_E)) := q_re hO0 (by rw [← hz99])
      obtain ⟨zn102, hz103⟩ : ∃ z : Int32, (0 : Int32) = z := ⟨_, rfl⟩
      have e104 : 0 ≤ zn102 := hz103 ▸ (by decide)
      have e105 : zn102 ≤ 1 := hz103 ▸ (by decide)
      replace hO0 : w96[kO0]? = (some (qO0, .inr (2, [.ref qA1, .int zn98, .int zn102])) : Option (Nat × va_E)) := q_re hO0 (by rw [← hz103])
      replace hA1 := (hu97 _ n_A1_O0).trans ((hg31 _ (q_nc n_A1_O0 List.not_mem_nil)).trans (hA1))
      exact q_retv C0 V (⟨zn98, zn102, (upd (upd (upd (fun _ => 0) 0 (((if 0 < x1 then x1 else -x1) &&& 2147483647).toInt32)) 1 (((((if 0 < x1 then x1 else -x1).toUInt64 >>> ((31 : Int32).toInt64.toUInt64 &&& Int64.toUInt64 63)).toInt64) &&& 2147483647).toInt32)) 2 (((((((if 0 < x1 then x1 else -x1).toUInt64 >>> ((31 : Int32).toInt64.toUInt64 &&& Int64.toUInt64 63)).toInt64).toUInt64 >>> ((31 : Int32).toInt64.toUInt64 &&& Int64.toUInt64 63)).toInt64) &&& 2147483647).toInt32)), e100, e101, e104, e105, hF, hO0, hA1⟩) d_2_3_58
    ·
      refine lv_iconst (v := 1) hx hb d_2_3_50 (by decide) ?_
      refine lv_goto (tgt := 55) hx hb d_2_3_51 (by decide) ?_
      refine q_put (ci := 2) (j := 2) (v := .int 1) (ty := .boolean) C0 V i_Big o_Big n_Big rfl rfl hO0 (by decide) w_94 rfl rfl rfl rfl (Nat.le_of_ble_eq_true rfl) d_2_3_55 (fun H locs w106 hu107 hO0 V => ?_)
      replace hO0 : w106[kO0]? = (some (qO0, .inr (2, [.ref qA1, .int 0, .int 1])) : Option (Nat × va_E)) := hO0
      replace hF := q_us hF hu107 (.head _)
      obtain ⟨zn108, hz109⟩ : ∃ z : Int32, (0 : Int32) = z := ⟨_, rfl⟩
      have e110 : 0 ≤ zn108 := hz109 ▸ (by decide)
      have e111 : zn108 ≤ 3 := hz109 ▸ (by decide)
      replace hO0 : w106[kO0]? = (some (qO0, .inr (2, [.ref qA1, .int zn108, .int 1])) : Option (Nat × va_E)) := q_re hO0 (by rw [← hz109])
      obtain ⟨zn112, hz113⟩ : ∃ z : Int32, (1 : Int32) = z := ⟨_, rfl⟩
      have e114 : 0 ≤ zn112 := hz113 ▸ (by decide)
      have e115 : zn112 ≤ 1 := hz113 ▸ (by decide)
      replace hO0 : w106[kO0]? = (some (qO0, .inr (2, [.ref qA1, .int zn108, .int zn112])) : Option (Nat × va_E)) := q_re hO0 (by rw [← hz113])
      replace hA1 := (hu107 _ n_A1_O0).trans ((hg31 _ (q_nc n_A1_O0 List.not_mem_nil)).trans (hA1))
      exact q_retv C0 V (⟨zn108, zn112, (upd (upd (upd (fun _ => 0) 0 (((if 0 < x1 then x1 else -x1) &&& 2147483647).toInt32)) 1 (((((if 0 < x1 then x1 else -x1).toUInt64 >>> ((31 : Int32).toInt64.toUInt64 &&& Int64.toUInt64 63)).toInt64) &&& 2147483647).toInt32)) 2 (((((((if 0 < x1 then x1 else -x1).toUInt64 >>> ((31 : Int32).toInt64.toUInt64 &&& Int64.toUInt64 63)).toInt64).toUInt64 >>> ((31 : Int32).toInt64.toUInt64 &&& Int64.toUInt64 63)).toInt64) &&& 2147483647).toInt32)), e110, e111, e114, e115, hF, hO0, hA1⟩) d_2_3_58
set_option maxRecDepth 100000 in
set_option maxHeartbeats 4000000 in
theorem c_Big_bitLength_4 (l : Launch) (D : va_G) (g : Nat → ClassId) (ws : va_W) (kO0 kA1 qO0 qA1 : Nat) (y1 : Int32) (y2 : Int32) (f3 : Nat → Int32) (hO0 : ws[kO0]? = (some (qO0, .inr (2, [.ref qA1, .int y1, .int y2])) : Option (Nat × va_E))) (hA1 : ws[kA1]? = (some (qA1, .inl (g 0, 220, .inl f3)) : Option (Nat × va_E))) (y1lo : 1 ≤ y1) (y1hi : y1 ≤ 3) (y2lo : 0 ≤ y2) (y2hi : y2 ≤ 1) : q_mI l y_Big_bitLength prog_2_method_12_code 1 (.int) 3 0 0 D g [.ref qO0] ws (fun r u => ∃ (ex0 : Int32), 0 ≤ ex0 ∧ ex0 ≤ 63 ∧ ((y1 - 1) * 31) + ex0 = r ∧ ws = u) := by
  intro sz
  refine q_into (by decide) (Nat.le_of_ble_eq_true rfl) ?_
  intro p e s m below meth c ls hsz C0 V hl
  have hx := C0.1
  have hb := C0.2.1
  have hl : lv_has ls 1 [(0, .ref qO0)] := hl
  refine lv_aload_n hx hb d_2_12_0 rfl (lv_at hl 0 rfl) ?_
  refine q_get (ci := 2) (j := 1) (v := .int y1) C0 V i_Big rfl rfl hO0 (by decide) w_85 rfl d_2_12_1 ?_
  refine lv_if_ne (tgt := 11) hx hb d_2_12_4 (by decide) (fun c1 => ?_) (fun c1 => absurd c1 (q_Ine (x := y1.toInt) (y := 0) rfl (by decide) (by have t1 : 1 ≤ y1.toInt := q_leI y1lo; have t2 : y1.toInt ≤ 3 := q_leI y1hi; omega)))
  refine lv_aload_n hx hb d_2_12_11 rfl (lv_at hl 0 rfl) ?_
  refine q_get (ci := 2) (j := 1) (v := .int y1) C0 V i_Big rfl rfl hO0 (by decide) w_85 rfl d_2_12_12 ?_
  refine lv_iconst (v := 1) hx hb d_2_12_15 (by decide) ?_
  refine lv_isub hx hb d_2_12_16 ?_
  refine lv_bipush (v := 31) hx hb d_2_12_17 (by decide) ?_
  refine lv_imul hx hb d_2_12_19 ?_
  refine lv_aload_n hx hb d_2_12_20 rfl (lv_at hl 0 rfl) ?_
  refine q_get (ci := 2) (j := 0) (v := .ref qA1) C0 V i_Big rfl rfl hO0 (by decide) w_84 rfl d_2_12_21 ?_
  refine lv_aload_n hx hb d_2_12_24 rfl (lv_at hl 0 rfl) ?_
  refine q_get (ci := 2) (j := 1) (v := .int y1) C0 V i_Big rfl rfl hO0 (by decide) w_85 rfl d_2_12_25 ?_
  refine lv_iconst (v := 1) hx hb d_2_12_28 (by decide) ?_
  refine lv_isub hx hb d_2_12_29 ?_
  refine q_iald C0 V hA1 (q_ix (x := (y1.toInt - 1)) (q_subI (x := y1.toInt) (y := 1) rfl (by decide) (by have t1 : 1 ≤ y1.toInt := q_leI y1lo; have t2 : y1.toInt ≤ 3 := q_leI y1hi; omega) (by have t1 : 1 ≤ y1.toInt := q_leI y1lo; have t2 : y1.toInt ≤ 3 := q_leI y1hi; omega)) (by have t1 : 1 ≤ y1.toInt := q_leI y1lo; have t2 : y1.toInt ≤ 3 := q_leI y1hi; omega) (by have t1 : 1 ≤ y1.toInt := q_leI y1lo; have t2 : y1.toInt ≤ 3 := q_leI y1hi; omega)) d_2_12_30 ?_
  refine q_goi V (q_runS (As := [.int (f3 (y1 - 1).toNatClampNeg)]) (rest := [.int ((y1 - 1) * 31)]) (d := 2) (mc := 0) (ms := 0) C0 V rfl LS_Big_57 (c_Big_bitsOf l D g ws (f3 (y1 - 1).toNatClampNeg) _) rfl hl.1 rfl (Nat.le_of_ble_eq_true rfl) ⟨by decide, by decide⟩ ⟨Nat.le_of_ble_eq_true rfl, Nat.le_of_ble_eq_true rfl⟩ d_2_12_31) (fun v4 u3 H locs hp2 V => ?_)
  obtain ⟨y7, f5, f6, rfl, rfl⟩ := hp2
  refine lv_iadd hx hb d_2_12_34 ?_
  exact q_reti C0 V (⟨y7, f5, f6, rfl, rfl⟩) d_2_12_35
theorem d_2_26_62 : decode prog_2_method_26_code 62 = .ok (.aload_n 0, 1) := by decide +kernel
theorem d_2_26_63 : decode prog_2_method_26_code 63 = .ok (.getfield 13, 3) := by decide +kernel
theorem d_2_26_66 : decode prog_2_method_26_code 66 = .ok (.aload_n 0, 1) := by decide +kernel
theorem d_2_26_67 : decode prog_2_method_26_code 67 = .ok (.getfield 7, 3) := by decide +kernel
theorem d_2_26_70 : decode prog_2_method_26_code 70 = .ok (.arraylength, 1) := by decide +kernel
theorem d_2_26_71 : decode prog_2_method_26_code 71 = .ok (.if_icmp .ge 24, 3) := by decide +kernel
theorem d_2_26_74 : decode prog_2_method_26_code 74 = .ok (.aload_n 0, 1) := by decide +kernel
theorem d_2_26_75 : decode prog_2_method_26_code 75 = .ok (.getfield 7, 3) := by decide +kernel
theorem d_2_26_78 : decode prog_2_method_26_code 78 = .ok (.aload_n 0, 1) := by decide +kernel
theorem d_2_26_79 : decode prog_2_method_26_code 79 = .ok (.getfield 13, 3) := by decide +kernel
theorem d_2_26_82 : decode prog_2_method_26_code 82 = .ok (.lload_n 3, 1) := by decide +kernel
theorem d_2_26_83 : decode prog_2_method_26_code 83 = .ok (.l2i, 1) := by decide +kernel
theorem d_2_26_84 : decode prog_2_method_26_code 84 = .ok (.iastore, 1) := by decide +kernel
theorem d_2_26_85 : decode prog_2_method_26_code 85 = .ok (.aload_n 0, 1) := by decide +kernel
theorem d_2_26_86 : decode prog_2_method_26_code 86 = .ok (.dup, 1) := by decide +kernel
theorem d_2_26_87 : decode prog_2_method_26_code 87 = .ok (.getfield 13, 3) := by decide +kernel
theorem d_2_26_90 : decode prog_2_method_26_code 90 = .ok (.iconst 1, 1) := by decide +kernel
theorem d_2_26_91 : decode prog_2_method_26_code 91 = .ok (.iadd, 1) := by decide +kernel
theorem d_2_26_92 : decode prog_2_method_26_code 92 = .ok (.putfield 13, 3) := by decide +kernel
set_option maxRecDepth 100000 in
set_option maxHeartbeats 4000000 in
theorem c_Big_multiplySmall_2 (l : Launch) (D : va_G) (g : Nat → ClassId) (ws : va_W) (kO0 kA1 qO0 qA1 : Nat) (y1 : Int32) (f2 : Nat → Int32) (hO0 : ws[kO0]? = (some (qO0, .inr (2, [.ref qA1, .int y1, .int 0])) : Option (Nat × va_E))) (hA1 : ws[kA1]? = (some (qA1, .inl (g 0, 220, .inl f2)) : Option (Nat × va_E))) (y1lo : 0 ≤ y1) (y1hi : y1 ≤ 220) : q_mV l y_Big_multiplySmall prog_2_method_26_code 8 1 0 0 D g [.ref qO0, .int 1000000000, .int 0] ws (fun u => (∃ (ex0 : Nat → Int32), q_un ws u [kO0, kA1] ∧ u[kO0]? = (some (qO0, .inr (2, [.ref qA1, .int y1, .int 0])) : Option (Nat × va_E)) ∧ u[kA1]? = (some (qA1, .inl (g 0, 220, .inl ex0)) : Option (Nat × va_E))) ∨ (∃ (ex0 : Int32) (ex1 : Nat → Int32), 0 ≤ ex0 ∧ ex0 ≤ 220 ∧ q_un ws u [kO0, kA1] ∧ u[kO0]? = (some (qO0, .inr (2, [.ref qA1, .int ex0, .int 0])) : Option (Nat × va_E)) ∧ u[kA1]? = (some (qA1, .inl (g 0, 220, .inl ex1)) : Option (Nat × va_E)))) := by
  intro sz
  refine q_into (by decide) (Nat.le_of_ble_eq_true rfl) ?_
  intro p e s m below meth c ls hsz C0 V hl
  have hx := C0.1
  have hb := C0.2.1
  have hl : lv_has ls 8 [(0, .ref qO0), (1, .int 1000000000), (2, .int 0)] := hl
  have n_A1_O0 := q_df hA1 hO0
  have n_O0_A1 := Ne.symm (q_df hA1 hO0)
  have hF : q_un ws ws [kO0, kA1] := q_u0
  refine lv_iload_n hx hb d_2_26_0 rfl (lv_at hl 2 rfl) ?_
  refine lv_i2l hx hb d_2_26_1 rfl ?_
  refine q_tl (v := 0) (by decide) ?_
  refine lv_lstore_n (lv' := [(3, .long 0), (0, .ref qO0), (1, .int 1000000000), (2, .int 0)]) hx hb d_2_26_2 rfl hl (by decide) rfl (fun ls hl => ?_)
  refine lv_iconst (v := 0) hx hb d_2_26_3 (by decide) ?_
  refine lv_istore (lv' := [(5, .int 0), (3, .long 0), (0, .ref qO0), (1, .int 1000000000), (2, .int 0)]) hx hb d_2_26_4 hl (by decide) rfl (fun ls hl => ?_)
  refine q_loop (X := Int32 × Int64 × (Nat → Int32)) (fun z H locs ls w4 => (0 ≤ z.1.toInt ∧ z.1.toInt ≤ y1.toInt) ∧ q_Wd D g (va_A ws sz) s w4 H locs ∧ lv_has ls 8 [(5, .int z.1), (3, .long z.2.1), (0, .ref qO0), (1, .int 1000000000), (2, .int 0)] ∧ q_un ws w4 [kO0, kA1] ∧ w4[kO0]? = (some (qO0, .inr (2, [.ref qA1, .int y1, .int 0])) : Option (Nat × va_E)) ∧ w4[kA1]? = (some (qA1, .inl (g 0, 220, .inl z.2.2)) : Option (Nat × va_E))) (fun z => (y1.toInt - z.1.toInt).toNat) ?_ ((0 : Int32), (0 : Int64), (f2 : (Nat → Int32))) _ _ _ ws ⟨(show 0 ≤ (0 : Int32).toInt ∧ (0 : Int32).toInt ≤ y1.toInt from by have t1 : 0 ≤ y1.toInt := q_leI y1lo; have t2 : y1.toInt ≤ 220 := q_leI y1hi; have e0 : (0 : Int32).toInt = 0 := (by decide); have e1 : (0 : Int32).toInt = 0 := (by decide); omega), V, hl, hF, hO0, hA1⟩
  rintro ⟨lx1, lx2, lx3⟩ H locs ls w4 ⟨i5, V, hl, hF, hO0, hA1⟩ ih6
  replace i5 : 0 ≤ lx1.toInt ∧ lx1.toInt ≤ y1.toInt := i5
  replace hl : lv_has ls 8 [(5, .int lx1), (3, .long lx2), (0, .ref qO0), (1, .int 1000000000), (2, .int 0)] := hl
  replace hO0 : w4[kO0]? = (some (qO0, .inr (2, [.ref qA1, .int y1, .int 0])) : Option (Nat × va_E)) := hO0
  replace hA1 : w4[kA1]? = (some (qA1, .inl (g 0, 220, .inl lx3)) : Option (Nat × va_E)) := hA1
  refine lv_iload hx hb d_2_26_6 (lv_at hl 0 rfl) ?_
  refine lv_aload_n hx hb d_2_26_8 rfl (lv_at hl 2 rfl) ?_
  refine q_get (ci := 2) (j := 1) (v := .int y1) C0 V i_Big rfl rfl hO0 (by decide) w_85 rfl d_2_26_9 ?_
  refine lv_icmp_ge (tgt := 56) hx hb d_2_26_12 (by decide) (fun c7 => ?_) (fun c7 => ?_)
  ·
    refine lv_lload_n hx hb d_2_26_56 rfl (lv_at hl 1 rfl) ?_
    refine lv_lconst (v := 0) hx hb d_2_26_57 (by decide) ?_
    refine W.lcmp hx hb d_2_26_58 ?_
    refine lv_if_eq (tgt := 95) hx hb d_2_26_59 (by decide) (fun c8 => ?_) (fun c8 => ?_)
    ·
      exact q_retv C0 V (Or.inl ⟨lx3, hF, hO0, hA1⟩) d_2_26_95
    ·
      refine lv_aload_n hx hb d_2_26_62 rfl (lv_at hl 2 rfl) ?_
      refine q_get (ci := 2) (j := 1) (v := .int y1) C0 V i_Big rfl rfl hO0 (by decide) w_85 rfl d_2_26_63 ?_
      refine lv_aload_n hx hb d_2_26_66 rfl (lv_at hl 2 rfl) ?_
      refine q_get (ci := 2) (j := 0) (v := .ref qA1) C0 V i_Big rfl rfl hO0 (by decide) w_84 rfl d_2_26_67 ?_
      refine q_alen (t := 0) (v := 220) C0 V hA1 rfl (by first | rfl | decide) d_2_26_70 ?_
      refine lv_icmp_ge (tgt := 95) hx hb d_2_26_71 (by decide) (fun c9 => ?_) (fun c9 => ?_)
      ·
        exact q_retv C0 V (Or.inl ⟨lx3, hF, hO0, hA1⟩) d_2_26_95
      ·
        refine lv_aload_n hx hb d_2_26_74 rfl (lv_at hl 2 rfl) ?_
        refine q_get (ci := 2) (j := 0) (v := .ref qA1) C0 V i_Big rfl rfl hO0 (by decide) w_84 rfl d_2_26_75 ?_
        refine lv_aload_n hx hb d_2_26_78 rfl (lv_at hl 2 rfl) ?_
        refine q_get (ci := 2) (j := 1) (v := .int y1) C0 V i_Big rfl rfl hO0 (by decide) w_85 rfl d_2_26_79 ?_
        refine lv_lload_n hx hb d_2_26_82 rfl (lv_at hl 1 rfl) ?_
        refine lv_l2i hx hb d_2_26_83 rfl ?_
        refine q_iast C0 V hA1 (q_ix (x := y1.toInt) rfl (by have t1 : 0 ≤ y1.toInt := q_leI y1lo; have t2 : y1.toInt ≤ 220 := q_leI y1hi; have t3 : y1.toInt ≤ lx1.toInt := q_leI c7; have t4 : y1.toInt < 220 := q_nleI c9; omega) (by have t1 : 0 ≤ y1.toInt := q_leI y1lo; have t2 : y1.toInt ≤ 220 := q_leI y1hi; have t3 : y1.toInt ≤ lx1.toInt := q_leI c7; have t4 : y1.toInt < 220 := q_nleI c9; omega)) d_2_26_84 (fun H locs w10 hu11 hA1 V => ?_)
        replace hA1 : w10[kA1]? = (some (qA1, .inl (g 0, 220, .inl (upd lx3 y1.toNatClampNeg lx2.toInt32))) : Option (Nat × va_E)) := hA1
        replace hF := q_us hF hu11 (.tail _ (.head _))
        refine lv_aload_n hx hb d_2_26_85 rfl (lv_at hl 2 rfl) ?_
        refine lv_dup hx hb d_2_26_86 rfl ?_
        replace hO0 := (hu11 _ n_O0_A1).trans (hO0)
        refine q_get (ci := 2) (j := 1) (v := .int y1) C0 V i_Big rfl rfl hO0 (by decide) w_85 rfl d_2_26_87 ?_
        refine lv_iconst (v := 1) hx hb d_2_26_90 (by decide) ?_
        refine lv_iadd hx hb d_2_26_91 ?_
        refine q_put (ci := 2) (j := 1) (v := .int (y1 + 1)) (ty := .int) C0 V i_Big o_Big n_Big rfl rfl hO0 (by decide) w_85 rfl rfl rfl rfl (Nat.le_of_ble_eq_true rfl) d_2_26_92 (fun H locs w12 hu13 hO0 V => ?_)
        replace hO0 : w12[kO0]? = (some (qO0, .inr (2, [.ref qA1, .int (y1 + 1), .int 0])) : Option (Nat × va_E)) := hO0
        replace hF := q_us hF hu13 (.head _)
        have e16 : 0 ≤ y1 + 1 := q_Ile (x := 0) (y := (y1.toInt + 1)) (by decide) (q_addI (x := y1.toInt) (y := 1) rfl (by decide) (by have t1 : 0 ≤ y1.toInt := q_leI y1lo; have t2 : y1.toInt ≤ 220 := q_leI y1hi; have t3 : y1.toInt ≤ lx1.toInt := q_leI c7; have t4 : y1.toInt < 220 := q_nleI c9; omega) (by have t1 : 0 ≤ y1.toInt := q_leI y1lo; have t2 : y1.toInt ≤ 220 := q_leI y1hi; have t3 : y1.toInt ≤ lx1.toInt := q_leI c7; have t4 : y1.toInt < 220 := q_nleI c9; omega)) (by have t1 : 0 ≤ y1.toInt := q_leI y1lo; have t2 : y1.toInt ≤ 220 := q_leI y1hi; have t3 : y1.toInt ≤ lx1.toInt := q_leI c7; have t4 : y1.toInt < 220 := q_nleI c9; omega)
        have e17 : y1 + 1 ≤ 220 := q_Ile (x := (y1.toInt + 1)) (y := 220) (q_addI (x := y1.toInt) (y := 1) rfl (by decide) (by have t1 : 0 ≤ y1.toInt := q_leI y1lo; have t2 : y1.toInt ≤ 220 := q_leI y1hi; have t3 : y1.toInt ≤ lx1.toInt := q_leI c7; have t4 : y1.toInt < 220 := q_nleI c9; omega) (by have t1 : 0 ≤ y1.toInt := q_leI y1lo; have t2 : y1.toInt ≤ 220 := q_leI y1hi; have t3 : y1.toInt ≤ lx1.toInt := q_leI c7; have t4 : y1.toInt < 220 := q_nleI c9; omega)) (by decide) (by have t1 : 0 ≤ y1.toInt := q_leI y1lo; have t2 : y1.toInt ≤ 220 := q_leI y1hi; have t3 : y1.toInt ≤ lx1.toInt := q_leI c7; have t4 : y1.toInt < 220 := q_nleI c9; omega)
        generalize y1 + 1 = zn14 at hO0 e16 e17
        replace hA1 := (hu13 _ n_A1_O0).trans (hA1)
        exact q_retv C0 V (Or.inr (⟨zn14, (upd lx3 y1.toNatClampNeg lx2.toInt32), e16, e17, hF, hO0, hA1⟩)) d_2_26_95
  ·
    refine lv_aload_n hx hb d_2_26_15 rfl (lv_at hl 2 rfl) ?_
    refine q_get (ci := 2) (j := 0) (v := .ref qA1) C0 V i_Big rfl rfl hO0 (by decide) w_84 rfl d_2_26_16 ?_
    refine lv_iload hx hb d_2_26_19 (lv_at hl 0 rfl) ?_
    refine q_iald C0 V hA1 (q_ix (x := lx1.toInt) rfl (by have t1 : 0 ≤ y1.toInt := q_leI y1lo; have t2 : y1.toInt ≤ 220 := q_leI y1hi; have t3 : lx1.toInt < y1.toInt := q_nleI c7; omega) (by have t1 : 0 ≤ y1.toInt := q_leI y1lo; have t2 : y1.toInt ≤ 220 := q_leI y1hi; have t3 : lx1.toInt < y1.toInt := q_nleI c7; omega)) d_2_26_21 ?_
    refine lv_i2l hx hb d_2_26_22 rfl ?_
    refine lv_iload_n hx hb d_2_26_23 rfl (lv_at hl 3 rfl) ?_
    refine lv_i2l hx hb d_2_26_24 rfl ?_
    refine q_tl (v := 1000000000) (by decide) ?_
    refine lv_lmul hx hb d_2_26_25 ?_
    refine lv_lload_n hx hb d_2_26_26 rfl (lv_at hl 1 rfl) ?_
    refine lv_ladd hx hb d_2_26_27 ?_
    refine lv_lstore (lv' := [(6, .long ((((lx3 lx1.toNatClampNeg).toInt64) * 1000000000) + lx2)), (5, .int lx1), (3, .long lx2), (0, .ref qO0), (1, .int 1000000000), (2, .int 0)]) hx hb d_2_26_28 hl (by decide) rfl (fun ls hl => ?_)
    refine lv_aload_n hx hb d_2_26_30 rfl (lv_at hl 3 rfl) ?_
    refine q_get (ci := 2) (j := 0) (v := .ref qA1) C0 V i_Big rfl rfl hO0 (by decide) w_84 rfl d_2_26_31 ?_
    refine lv_iload hx hb d_2_26_34 (lv_at hl 1 rfl) ?_
    refine lv_lload hx hb d_2_26_36 (lv_at hl 0 rfl) ?_
    refine q_ldc2 C0 rfl w_201 d_2_26_38 ?_
    refine lv_land hx hb d_2_26_41 ?_
    refine lv_l2i hx hb d_2_26_42 rfl ?_
    refine q_iast C0 V hA1 (q_ix (x := lx1.toInt) rfl (by have t1 : 0 ≤ y1.toInt := q_leI y1lo; have t2 : y1.toInt ≤ 220 := q_leI y1hi; have t3 : lx1.toInt < y1.toInt := q_nleI c7; omega) (by have t1 : 0 ≤ y1.toInt := q_leI y1lo; have t2 : y1.toInt ≤ 220 := q_leI y1hi; have t3 : lx1.toInt < y1.toInt := q_nleI c7; omega)) d_2_26_43 (fun H locs w18 hu19 hA1 V => ?_)
    replace hA1 : w18[kA1]? = (some (qA1, .inl (g 0, 220, .inl (upd lx3 lx1.toNatClampNeg ((((((lx3 lx1.toNatClampNeg).toInt64) * 1000000000) + lx2) &&& 2147483647).toInt32)))) : Option (Nat × va_E)) := hA1
    replace hF := q_us hF hu19 (.tail _ (.head _))
    refine lv_lload hx hb d_2_26_44 (lv_at hl 0 rfl) ?_
    refine lv_bipush (v := 31) hx hb d_2_26_46 (by decide) ?_
    refine lv_lushr hx hb d_2_26_48 rfl ?_
    refine lv_lstore_n (lv' := [(3, .long ((((((lx3 lx1.toNatClampNeg).toInt64) * 1000000000) + lx2).toUInt64 >>> ((31 : Int32).toInt64.toUInt64 &&& Int64.toUInt64 63)).toInt64)), (6, .long ((((lx3 lx1.toNatClampNeg).toInt64) * 1000000000) + lx2)), (5, .int lx1), (0, .ref qO0), (1, .int 1000000000), (2, .int 0)]) hx hb d_2_26_49 rfl hl (by decide) rfl (fun ls hl => ?_)
    refine lv_iinc (v := lx1 + 1) (lv' := [(5, .int (lx1 + 1)), (3, .long ((((((lx3 lx1.toNatClampNeg).toInt64) * 1000000000) + lx2).toUInt64 >>> ((31 : Int32).toInt64.toUInt64 &&& Int64.toUInt64 63)).toInt64)), (6, .long ((((lx3 lx1.toNatClampNeg).toInt64) * 1000000000) + lx2)), (0, .ref qO0), (1, .int 1000000000), (2, .int 0)]) hx hb d_2_26_50 hl (k := 2) rfl (rfl) (by decide) rfl (fun ls hl => ?_)
    refine lv_goto (tgt := 6) hx hb d_2_26_53 (by decide) ?_
    replace hO0 := (hu19 _ n_O0_A1).trans (hO0)
    exact ih6 ((lx1 + 1 : Int32), ((((((lx3 lx1.toNatClampNeg).toInt64) * 1000000000) + lx2).toUInt64 >>> ((31 : Int32).toInt64.toUInt64 &&& Int64.toUInt64 63)).toInt64 : Int64), (upd lx3 lx1.toNatClampNeg ((((((lx3 lx1.toNatClampNeg).toInt64) * 1000000000) + lx2) &&& 2147483647).toInt32) : Nat → Int32)) _ _ _ _ (show (y1.toInt - (lx1 + 1 : Int32).toInt).toNat < (y1.toInt - lx1.toInt).toNat from by have t1 : 0 ≤ y1.toInt := q_leI y1lo; have t2 : y1.toInt ≤ 220 := q_leI y1hi; have t3 : lx1.toInt < y1.toInt := q_nleI c7; have e0 : (lx1 + 1 : Int32).toInt = (lx1.toInt + 1) := (q_addI (x := lx1.toInt) (y := 1) rfl (by decide) (by have t1 : 0 ≤ y1.toInt := q_leI y1lo; have t2 : y1.toInt ≤ 220 := q_leI y1hi; have t3 : lx1.toInt < y1.toInt := q_nleI c7; omega) (by have t1 : 0 ≤ y1.toInt := q_leI y1lo; have t2 : y1.toInt ≤ 220 := q_leI y1hi; have t3 : lx1.toInt < y1.toInt := q_nleI c7; omega)); omega) ⟨(show 0 ≤ (lx1 + 1 : Int32).toInt ∧ (lx1 + 1 : Int32).toInt ≤ y1.toInt from by have t1 : 0 ≤ y1.toInt := q_leI y1lo; have t2 : y1.toInt ≤ 220 := q_leI y1hi; have t3 : lx1.toInt < y1.toInt := q_nleI c7; have e0 : (lx1 + 1 : Int32).toInt = (lx1.toInt + 1) := (q_addI (x := lx1.toInt) (y := 1) rfl (by decide) (by have t1 : 0 ≤ y1.toInt := q_leI y1lo; have t2 : y1.toInt ≤ 220 := q_leI y1hi; have t3 : lx1.toInt < y1.toInt := q_nleI c7; omega) (by have t1 : 0 ≤ y1.toInt := q_leI y1lo; have t2 : y1.toInt ≤ 220 := q_leI y1hi; have t3 : lx1.toInt < y1.toInt := q_nleI c7; omega)); omega), V, q_lw hl (q_lw1 0 rfl (q_lw1 1 rfl (q_lw1 3 rfl (q_lw1 4 rfl (q_lw1 5 rfl q_lw0))))), hF, hO0, hA1⟩
set_option maxRecDepth 100000 in
set_option maxHeartbeats 4000000 in
theorem c_Big_multiplySmall_3 (l : Launch) (D : va_G) (g : Nat → ClassId) (ws : va_W) (kO0 kA1 qO0 qA1 : Nat) (x1 : Int32) (y2 : Int32) (f3 : Nat → Int32) (hO0 : ws[kO0]? = (some (qO0, .inr (2, [.ref qA1, .int y2, .int 0])) : Option (Nat × va_E))) (hA1 : ws[kA1]? = (some (qA1, .inl (g 0, 220, .inl f3)) : Option (Nat × va_E))) (y2lo : 0 ≤ y2) (y2hi : y2 ≤ 220) : q_mV l y_Big_multiplySmall prog_2_method_26_code 8 1 0 0 D g [.ref qO0, .int x1, .int 0] ws (fun u => (∃ (ex0 : Nat → Int32), q_un ws u [kO0, kA1] ∧ u[kO0]? = (some (qO0, .inr (2, [.ref qA1, .int y2, .int 0])) : Option (Nat × va_E)) ∧ u[kA1]? = (some (qA1, .inl (g 0, 220, .inl ex0)) : Option (Nat × va_E))) ∨ (∃ (ex0 : Int32) (ex1 : Nat → Int32), 0 ≤ ex0 ∧ ex0 ≤ 220 ∧ q_un ws u [kO0, kA1] ∧ u[kO0]? = (some (qO0, .inr (2, [.ref qA1, .int ex0, .int 0])) : Option (Nat × va_E)) ∧ u[kA1]? = (some (qA1, .inl (g 0, 220, .inl ex1)) : Option (Nat × va_E)))) := by
  intro sz
  refine q_into (by decide) (Nat.le_of_ble_eq_true rfl) ?_
  intro p e s m below meth c ls hsz C0 V hl
  have hx := C0.1
  have hb := C0.2.1
  have hl : lv_has ls 8 [(0, .ref qO0), (1, .int x1), (2, .int 0)] := hl
  have n_A1_O0 := q_df hA1 hO0
  have n_O0_A1 := Ne.symm (q_df hA1 hO0)
  have hF : q_un ws ws [kO0, kA1] := q_u0
  refine lv_iload_n hx hb d_2_26_0 rfl (lv_at hl 2 rfl) ?_
  refine lv_i2l hx hb d_2_26_1 rfl ?_
  refine q_tl (v := 0) (by decide) ?_
  refine lv_lstore_n (lv' := [(3, .long 0), (0, .ref qO0), (1, .int x1), (2, .int 0)]) hx hb d_2_26_2 rfl hl (by decide) rfl (fun ls hl => ?_)
  refine lv_iconst (v := 0) hx hb d_2_26_3 (by decide) ?_
  refine lv_istore (lv' := [(5, .int 0), (3, .long 0), (0, .ref qO0), (1, .int x1), (2, .int 0)]) hx hb d_2_26_4 hl (by decide) rfl (fun ls hl => ?_)
  refine q_loop (X := Int32 × Int64 × (Nat → Int32)) (fun z H locs ls w4 => (0 ≤ z.1.toInt ∧ z.1.toInt ≤ y2.toInt) ∧ q_Wd D g (va_A ws sz) s w4 H locs ∧ lv_has ls 8 [(5, .int z.1), (3, .long z.2.1), (0, .ref qO0), (1, .int x1), (2, .int 0)] ∧ q_un ws w4 [kO0, kA1] ∧ w4[kO0]? = (some (qO0, .inr (2, [.ref qA1, .int y2, .int 0])) : Option (Nat × va_E)) ∧ w4[kA1]? = (some (qA1, .inl (g 0, 220, .inl z.2.2)) : Option (Nat × va_E))) (fun z => (y2.toInt - z.1.toInt).toNat) ?_ ((0 : Int32), (0 : Int64), (f3 : (Nat → Int32))) _ _ _ ws ⟨(show 0 ≤ (0 : Int32).toInt ∧ (0 : Int32).toInt ≤ y2.toInt from by have t1 : 0 ≤ y2.toInt := q_leI y2lo; have t2 : y2.toInt ≤ 220 := q_leI y2hi; have e0 : (0 : Int32).toInt = 0 := (by decide); have e1 : (0 : Int32).toInt = 0 := (by decide); omega), V, hl, hF, hO0, hA1⟩
  rintro ⟨lx1, lx2, lx3⟩ H locs ls w4 ⟨i5, V, hl, hF, hO0, hA1⟩ ih6
  replace i5 : 0 ≤ lx1.toInt ∧ lx1.toInt ≤ y2.toInt := i5
  replace hl : lv_has ls 8 [(5, .int lx1), (3, .long lx2), (0, .ref qO0), (1, .int x1), (2, .int 0)] := hl
  replace hO0 : w4[kO0]? = (some (qO0, .inr (2, [.ref qA1, .int y2, .int 0])) : Option (Nat × va_E)) := hO0
  replace hA1 : w4[kA1]? = (some (qA1, .inl (g 0, 220, .inl lx3)) : Option (Nat × va_E)) := hA1
  refine lv_iload hx hb d_2_26_6 (lv_at hl 0 rfl) ?_
  refine lv_aload_n hx hb d_2_26_8 rfl (lv_at hl 2 rfl) ?_
  refine q_get (ci := 2) (j := 1) (v := .int y2) C0 V i_Big rfl rfl hO0 (by decide) w_85 rfl d_2_26_9 ?_
  refine lv_icmp_ge (tgt := 56) hx hb d_2_26_12 (by decide) (fun c7 => ?_) (fun c7 => ?_)
  ·
    refine lv_lload_n hx hb d_2_26_56 rfl (lv_at hl 1 rfl) ?_
    refine lv_lconst (v := 0) hx hb d_2_26_57 (by decide) ?_
    refine W.lcmp hx hb d_2_26_58 ?_
    refine lv_if_eq (tgt := 95) hx hb d_2_26_59 (by decide) (fun c8 => ?_) (fun c8 => ?_)
    ·
      exact q_retv C0 V (Or.inl ⟨lx3, hF, hO0, hA1⟩) d_2_26_95
    ·
      refine lv_aload_n hx hb d_2_26_62 rfl (lv_at hl 2 rfl) ?_
      refine q_get (ci := 2) (j := 1) (v := .int y2) C0 V i_Big rfl rfl hO0 (by decide) w_85 rfl d_2_26_63 ?_
      refine lv_aload_n hx hb d_2_26_66 rfl (lv_at hl 2 rfl) ?_
      refine q_get (ci := 2) (j := 0) (v := .ref qA1) C0 V i_Big rfl rfl hO0 (by decide) w_84 rfl d_2_26_67 ?_
      refine q_alen (t := 0) (v := 220) C0 V hA1 rfl (by first | rfl | decide) d_2_26_70 ?_
      refine lv_icmp_ge (tgt := 95) hx hb d_2_26_71 (by decide) (fun c9 => ?_) (fun c9 => ?_)
      ·
        exact q_retv C0 V (Or.inl ⟨lx3, hF, hO0, hA1⟩) d_2_26_95
      ·
        refine lv_aload_n hx hb d_2_26_74 rfl (lv_at hl 2 rfl) ?_
        refine q_get (ci := 2) (j := 0) (v := .ref qA1) C0 V i_Big rfl rfl hO0 (by decide) w_84 rfl d_2_26_75 ?_
        refine lv_aload_n hx hb d_2_26_78 rfl (lv_at hl 2 rfl) ?_
        refine q_get (ci := 2) (j := 1) (v := .int y2) C0 V i_Big rfl rfl hO0 (by decide) w_85 rfl d_2_26_79 ?_
        refine lv_lload_n hx hb d_2_26_82 rfl (lv_at hl 1 rfl) ?_
        refine lv_l2i hx hb d_2_26_83 rfl ?_
        refine q_iast C0 V hA1 (q_ix (x := y2.toInt) rfl (by have t1 : 0 ≤ y2.toInt := q_leI y2lo; have t2 : y2.toInt ≤ 220 := q_leI y2hi; have t3 : y2.toInt ≤ lx1.toInt := q_leI c7; have t4 : y2.toInt < 220 := q_nleI c9; omega) (by have t1 : 0 ≤ y2.toInt := q_leI y2lo; have t2 : y2.toInt ≤ 220 := q_leI y2hi; have t3 : y2.toInt ≤ lx1.toInt := q_leI c7; have t4 : y2.toInt < 220 := q_nleI c9; omega)) d_2_26_84 (fun H locs w10 hu11 hA1 V => ?_)
        replace hA1 : w10[kA1]? = (some (qA1, .inl (g 0, 220, .inl (upd lx3 y2.toNatClampNeg lx2.toInt32))) : Option (Nat × va_E)) := hA1
        replace hF := q_us hF hu11 (.tail _ (.head _))
        refine lv_aload_n hx hb d_2_26_85 rfl (lv_at hl 2 rfl) ?_
        refine lv_dup hx hb d_2_26_86 rfl ?_
        replace hO0 := (hu11 _ n_O0_A1).trans (hO0)
        refine q_get (ci := 2) (j := 1) (v := .int y2) C0 V i_Big rfl rfl hO0 (by decide) w_85 rfl d_2_26_87 ?_
        refine lv_iconst (v := 1) hx hb d_2_26_90 (by decide) ?_
        refine lv_iadd hx hb d_2_26_91 ?_
        refine q_put (ci := 2) (j := 1) (v := .int (y2 + 1)) (ty := .int) C0 V i_Big o_Big n_Big rfl rfl hO0 (by decide) w_85 rfl rfl rfl rfl (Nat.le_of_ble_eq_true rfl) d_2_26_92 (fun H locs w12 hu13 hO0 V => ?_)
        replace hO0 : w12[kO0]? = (some (qO0, .inr (2, [.ref qA1, .int (y2 + 1), .int 0])) : Option (Nat × va_E)) := hO0
        replace hF := q_us hF hu13 (.head _)
        have e16 : 0 ≤ y2 + 1 := q_Ile (x := 0) (y := (y2.toInt + 1)) (by decide) (q_addI (x := y2.toInt) (y := 1) rfl (by decide) (by have t1 : 0 ≤ y2.toInt := q_leI y2lo; have t2 : y2.toInt ≤ 220 := q_leI y2hi; have t3 : y2.toInt ≤ lx1.toInt := q_leI c7; have t4 : y2.toInt < 220 := q_nleI c9; omega) (by have t1 : 0 ≤ y2.toInt := q_leI y2lo; have t2 : y2.toInt ≤ 220 := q_leI y2hi; have t3 : y2.toInt ≤ lx1.toInt := q_leI c7; have t4 : y2.toInt < 220 := q_nleI c9; omega)) (by have t1 : 0 ≤ y2.toInt := q_leI y2lo; have t2 : y2.toInt ≤ 220 := q_leI y2hi; have t3 : y2.toInt ≤ lx1.toInt := q_leI c7; have t4 : y2.toInt < 220 := q_nleI c9; omega)
        have e17 : y2 + 1 ≤ 220 := q_Ile (x := (y2.toInt + 1)) (y := 220) (q_addI (x := y2.toInt) (y := 1) rfl (by decide) (by have t1 : 0 ≤ y2.toInt := q_leI y2lo; have t2 : y2.toInt ≤ 220 := q_leI y2hi; have t3 : y2.toInt ≤ lx1.toInt := q_leI c7; have t4 : y2.toInt < 220 := q_nleI c9; omega) (by have t1 : 0 ≤ y2.toInt := q_leI y2lo; have t2 : y2.toInt ≤ 220 := q_leI y2hi; have t3 : y2.toInt ≤ lx1.toInt := q_leI c7; have t4 : y2.toInt < 220 := q_nleI c9; omega)) (by decide) (by have t1 : 0 ≤ y2.toInt := q_leI y2lo; have t2 : y2.toInt ≤ 220 := q_leI y2hi; have t3 : y2.toInt ≤ lx1.toInt := q_leI c7; have t4 : y2.toInt < 220 := q_nleI c9; omega)
        generalize y2 + 1 = zn14 at hO0 e16 e17
        replace hA1 := (hu13 _ n_A1_O0).trans (hA1)
        exact q_retv C0 V (Or.inr (⟨zn14, (upd lx3 y2.toNatClampNeg lx2.toInt32), e16, e17, hF, hO0, hA1⟩)) d_2_26_95
  ·
    refine lv_aload_n hx hb d_2_26_15 rfl (lv_at hl 2 rfl) ?_
    refine q_get (ci := 2) (j := 0) (v := .ref qA1) C0 V i_Big rfl rfl hO0 (by decide) w_84 rfl d_2_26_16 ?_
    refine lv_iload hx hb d_2_26_19 (lv_at hl 0 rfl) ?_
    refine q_iald C0 V hA1 (q_ix (x := lx1.toInt) rfl (by have t1 : 0 ≤ y2.toInt := q_leI y2lo; have t2 : y2.toInt ≤ 220 := q_leI y2hi; have t3 : lx1.toInt < y2.toInt := q_nleI c7; omega) (by have t1 : 0 ≤ y2.toInt := q_leI y2lo; have t2 : y2.toInt ≤ 220 := q_leI y2hi; have t3 : lx1.toInt < y2.toInt := q_nleI c7; omega)) d_2_26_21 ?_
    refine lv_i2l hx hb d_2_26_22 rfl ?_
    refine lv_iload_n hx hb d_2_26_23 rfl (lv_at hl 3 rfl) ?_
    refine lv_i2l hx hb d_2_26_24 rfl ?_
    refine lv_lmul hx hb d_2_26_25 ?_
    refine lv_lload_n hx hb d_2_26_26 rfl (lv_at hl 1 rfl) ?_
    refine lv_ladd hx hb d_2_26_27 ?_
    refine lv_lstore (lv' := [(6, .long ((((lx3 lx1.toNatClampNeg).toInt64) * x1.toInt64) + lx2)), (5, .int lx1), (3, .long lx2), (0, .ref qO0), (1, .int x1), (2, .int 0)]) hx hb d_2_26_28 hl (by decide) rfl (fun ls hl => ?_)
    refine lv_aload_n hx hb d_2_26_30 rfl (lv_at hl 3 rfl) ?_
    refine q_get (ci := 2) (j := 0) (v := .ref qA1) C0 V i_Big rfl rfl hO0 (by decide) w_84 rfl d_2_26_31 ?_
    refine lv_iload hx hb d_2_26_34 (lv_at hl 1 rfl) ?_
    refine lv_lload hx hb d_2_26_36 (lv_at hl 0 rfl) ?_
    refine q_ldc2 C0 rfl w_201 d_2_26_38 ?_
    refine lv_land hx hb d_2_26_41 ?_
    refine lv_l2i hx hb d_2_26_42 rfl ?_
    refine q_iast C0 V hA1 (q_ix (x := lx1.toInt) rfl (by have t1 : 0 ≤ y2.toInt := q_leI y2lo; have t2 : y2.toInt ≤ 220 := q_leI y2hi; have t3 : lx1.toInt < y2.toInt := q_nleI c7; omega) (by have t1 : 0 ≤ y2.toInt := q_leI y2lo; have t2 : y2.toInt ≤ 220 := q_leI y2hi; have t3 : lx1.toInt < y2.toInt := q_nleI c7; omega)) d_2_26_43 (fun H locs w18 hu19 hA1 V => ?_)
    replace hA1 : w18[kA1]? = (some (qA1, .inl (g 0, 220, .inl (upd lx3 lx1.toNatClampNeg ((((((lx3 lx1.toNatClampNeg).toInt64) * x1.toInt64) + lx2) &&& 2147483647).toInt32)))) : Option (Nat × va_E)) := hA1
    replace hF := q_us hF hu19 (.tail _ (.head _))
    refine lv_lload hx hb d_2_26_44 (lv_at hl 0 rfl) ?_
    refine lv_bipush (v := 31) hx hb d_2_26_46 (by decide) ?_
    refine lv_lushr hx hb d_2_26_48 rfl ?_
    refine lv_lstore_n (lv' := [(3, .long ((((((lx3 lx1.toNatClampNeg).toInt64) * x1.toInt64) + lx2).toUInt64 >>> ((31 : Int32).toInt64.toUInt64 &&& Int64.toUInt64 63)).toInt64)), (6, .long ((((lx3 lx1.toNatClampNeg).toInt64) * x1.toInt64) + lx2)), (5, .int lx1), (0, .ref qO0), (1, .int x1), (2, .int 0)]) hx hb d_2_26_49 rfl hl (by decide) rfl (fun ls hl => ?_)
    refine lv_iinc (v := lx1 + 1) (lv' := [(5, .int (lx1 + 1)), (3, .long ((((((lx3 lx1.toNatClampNeg).toInt64) * x1.toInt64) + lx2).toUInt64 >>> ((31 : Int32).toInt64.toUInt64 &&& Int64.toUInt64 63)).toInt64)), (6, .long ((((lx3 lx1.toNatClampNeg).toInt64) * x1.toInt64) + lx2)), (0, .ref qO0), (1, .int x1), (2, .int 0)]) hx hb d_2_26_50 hl (k := 2) rfl (rfl) (by decide) rfl (fun ls hl => ?_)
    refine lv_goto (tgt := 6) hx hb d_2_26_53 (by decide) ?_
    replace hO0 := (hu19 _ n_O0_A1).trans (hO0)
    exact ih6 ((lx1 + 1 : Int32), ((((((lx3 lx1.toNatClampNeg).toInt64) * x1.toInt64) + lx2).toUInt64 >>> ((31 : Int32).toInt64.toUInt64 &&& Int64.toUInt64 63)).toInt64 : Int64), (upd lx3 lx1.toNatClampNeg ((((((lx3 lx1.toNatClampNeg).toInt64) * x1.toInt64) + lx2) &&& 2147483647).toInt32) : Nat → Int32)) _ _ _ _ (show (y2.toInt - (lx1 + 1 : Int32).toInt).toNat < (y2.toInt - lx1.toInt).toNat from by have t1 : 0 ≤ y2.toInt := q_leI y2lo; have t2 : y2.toInt ≤ 220 := q_leI y2hi; have t3 : lx1.toInt < y2.toInt := q_nleI c7; have e0 : (lx1 + 1 : Int32).toInt = (lx1.toInt + 1) := (q_addI (x := lx1.toInt) (y := 1) rfl (by decide) (by have t1 : 0 ≤ y2.toInt := q_leI y2lo; have t2 : y2.toInt ≤ 220 := q_leI y2hi; have t3 : lx1.toInt < y2.toInt := q_nleI c7; omega) (by have t1 : 0 ≤ y2.toInt := q_leI y2lo; have t2 : y2.toInt ≤ 220 := q_leI y2hi; have t3 : lx1.toInt < y2.toInt := q_nleI c7; omega)); omega) ⟨(show 0 ≤ (lx1 + 1 : Int32).toInt ∧ (lx1 + 1 : Int32).toInt ≤ y2.toInt from by have t1 : 0 ≤ y2.toInt := q_leI y2lo; have t2 : y2.toInt ≤ 220 := q_leI y2hi; have t3 : lx1.toInt < y2.toInt := q_nleI c7; have e0 : (lx1 + 1 : Int32).toInt = (lx1.toInt + 1) := (q_addI (x := lx1.toInt) (y := 1) rfl (by decide) (by have t1 : 0 ≤ y2.toInt := q_leI y2lo; have t2 : y2.toInt ≤ 220 := q_leI y2hi; have t3 : lx1.toInt < y2.toInt := q_nleI c7; omega) (by have t1 : 0 ≤ y2.toInt := q_leI y2lo; have t2 : y2.toInt ≤ 220 := q_leI y2hi; have t3 : lx1.toInt < y2.toInt := q_nleI c7; omega)); omega), V, q_lw hl (q_lw1 0 rfl (q_lw1 1 rfl (q_lw1 3 rfl (q_lw1 4 rfl (q_lw1 5 rfl q_lw0))))), hF, hO0, hA1⟩
set_option maxRecDepth 100000 in
set_option maxHeartbeats 4000000 in
theorem c_Big_timesTen_3 (l : Launch) (D : va_G) (g : Nat → ClassId) (ws : va_W) (kO0 kA1 qO0 qA1 : Nat) (x1 : Int32) (hO0 : ws[kO0]? = (some (qO0, .inr (2, [.ref qA1, .int 1, .int 0])) : Option (Nat × va_E))) (hA1 : ws[kA1]? = (some (qA1, .inl (g 0, 220, .inl (upd (fun _ => 0) 0 1))) : Option (Nat × va_E))) (x1lo : 1 ≤ x1) (x1hi : x1 ≤ 62) : q_mV l y_Big_timesTen prog_2_method_28_code 3 2 0 0 D g [.ref qO0, .int x1] ws (fun u => ∃ (ex0 : Int32) (ex1 : Nat → Int32), 0 ≤ ex0 ∧ ex0 ≤ 220 ∧ q_un ws u [kO0, kA1] ∧ u[kO0]? = (some (qO0, .inr (2, [.ref qA1, .int ex0, .int 0])) : Option (Nat × va_E)) ∧ u[kA1]? = (some (qA1, .inl (g 0, 220, .inl ex1)) : Option (Nat × va_E))) := by
  intro sz
  refine q_into (by decide) (Nat.le_of_ble_eq_true rfl) ?_
  intro p e s m below meth c ls hsz C0 V hl
  have hx := C0.1
  have hb := C0.2.1
  have hl : lv_has ls 3 [(0, .ref qO0), (1, .int x1)] := hl
  have hF : q_un ws ws [kO0, kA1] := q_u0
  refine lv_iload_n hx hb d_2_28_0 rfl (lv_at hl 1 rfl) ?_
  refine lv_istore_n (lv' := [(2, .int x1), (0, .ref qO0), (1, .int x1)]) hx hb d_2_28_1 rfl hl (by decide) rfl (fun ls hl => ?_)
  refine q_loop (X := Int32 × Int32 × (Nat → Int32)) (fun z H locs ls w4 => ((-9) ≤ z.1.toInt ∧ z.1.toInt ≤ 62) ∧ (0 ≤ z.2.1.toInt ∧ z.2.1.toInt ≤ 220) ∧ q_Wd D g (va_A ws sz) s w4 H locs ∧ lv_has ls 3 [(2, .int z.1), (0, .ref qO0), (1, .int x1)] ∧ q_un ws w4 [kO0, kA1] ∧ w4[kO0]? = (some (qO0, .inr (2, [.ref qA1, .int z.2.1, .int 0])) : Option (Nat × va_E)) ∧ w4[kA1]? = (some (qA1, .inl (g 0, 220, .inl z.2.2)) : Option (Nat × va_E))) (fun z => (z.1.toInt + 9).toNat) ?_ ((x1 : Int32), (1 : Int32), (upd (fun _ => 0) 0 1 : (Nat → Int32))) _ _ _ ws ⟨(show (-9) ≤ (x1 : Int32).toInt ∧ (x1 : Int32).toInt ≤ 62 from by have t1 : 1 ≤ x1.toInt := q_leI x1lo; have t2 : x1.toInt ≤ 62 := q_leI x1hi; have e1 : (1 : Int32).toInt = 1 := (by decide); omega), (show 0 ≤ (1 : Int32).toInt ∧ (1 : Int32).toInt ≤ 220 from by have t1 : 1 ≤ x1.toInt := q_leI x1lo; have t2 : x1.toInt ≤ 62 := q_leI x1hi; have e1 : (1 : Int32).toInt = 1 := (by decide); omega), V, hl, hF, hO0, hA1⟩
  rintro ⟨lx1, lx2, lx3⟩ H locs ls w4 ⟨i5, i6, V, hl, hF, hO0, hA1⟩ ih7
  replace i5 : (-9) ≤ lx1.toInt ∧ lx1.toInt ≤ 62 := i5
  replace i6 : 0 ≤ lx2.toInt ∧ lx2.toInt ≤ 220 := i6
  replace hl : lv_has ls 3 [(2, .int lx1), (0, .ref qO0), (1, .int x1)] := hl
  replace hO0 : w4[kO0]? = (some (qO0, .inr (2, [.ref qA1, .int lx2, .int 0])) : Option (Nat × va_E)) := hO0
  replace hA1 : w4[kA1]? = (some (qA1, .inl (g 0, 220, .inl lx3)) : Option (Nat × va_E)) := hA1
  refine lv_iload_n hx hb d_2_28_2 rfl (lv_at hl 0 rfl) ?_
  refine lv_if_le (tgt := 27) hx hb d_2_28_3 (by decide) (fun c8 => ?_) (fun c8 => ?_)
  ·
    have e9 : 0 ≤ lx2 := q_Ile (x := 0) (y := lx2.toInt) (by decide) rfl (by have t1 : 1 ≤ x1.toInt := q_leI x1lo; have t2 : x1.toInt ≤ 62 := q_leI x1hi; have t3 : lx1.toInt ≤ 0 := q_leI c8; omega)
    have e10 : lx2 ≤ 220 := q_Ile (x := lx2.toInt) (y := 220) rfl (by decide) (by have t1 : 1 ≤ x1.toInt := q_leI x1lo; have t2 : x1.toInt ≤ 62 := q_leI x1hi; have t3 : lx1.toInt ≤ 0 := q_leI c8; omega)
    exact q_retv C0 V (⟨lx2, lx3, e9, e10, hF, hO0, hA1⟩) d_2_28_27
  ·
    refine lv_aload_n hx hb d_2_28_6 rfl (lv_at hl 1 rfl) ?_
    refine q_tens C0 V rfl w_771 d_2_28_7 (fun t11 hT12 => ?_)
    refine lv_iload_n hx hb d_2_28_10 rfl (lv_at hl 0 rfl) ?_
    refine lv_bipush (v := 9) hx hb d_2_28_11 (by decide) ?_
    refine q_min C0 hl.1 rfl w_773 w_774 w_7 w_775 ⟨Nat.le_of_ble_eq_true rfl, Nat.le_of_ble_eq_true rfl⟩ ⟨Nat.le_of_ble_eq_true rfl, Nat.le_of_ble_eq_true rfl⟩ d_2_28_13 ?_
    by_cases c13 : 9 < lx1
    ·
      refine q_ti (v := 9) (if_pos c13) ?_
      refine q_tald (v := .int 1000000000) C0 V hT12 (by unfold vp_in; decide) (by decide) d_2_28_16 ?_
      refine lv_iconst (v := 0) hx hb d_2_28_17 (by decide) ?_
      refine q_gov V (q_runV (As := [.int 1000000000, .int 0]) (rest := []) (d := 1) (mc := 0) (ms := 0) (ci := 2) C0 V rfl LV_Big_98 (c_Big_multiplySmall_2 l D g w4 kO0 kA1 qO0 qA1 lx2 lx3 hO0 hA1 (q_Ile (x := 0) (y := lx2.toInt) (by decide) rfl (by omega)) (q_Ile (x := lx2.toInt) (y := 220) rfl (by decide) (by omega)) _) rfl rfl hO0 rfl hl.1 rfl (Nat.le_of_ble_eq_true rfl) ⟨by decide, by decide⟩ ⟨Nat.le_of_ble_eq_true rfl, Nat.le_of_ble_eq_true rfl⟩ d_2_28_18) (fun u15 H locs hp14 V => ?_)
      rcases hp14 with ⟨y16, hg17, hO0, hA1⟩ | ⟨y20, y21, f18, f19, hg22, hO0, hA1⟩
      ·
        replace hF := q_uc hF hg17 (q_sc (.head _) (q_sc (.tail _ (.head _)) (fun _ h => absurd h List.not_mem_nil)))
        refine lv_iinc (v := lx1 + (-9)) (lv' := [(2, .int (lx1 + (-9))), (0, .ref qO0), (1, .int x1)]) hx hb d_2_28_21 hl (k := 0) rfl (rfl) (by decide) rfl (fun ls hl => ?_)
        refine lv_goto (tgt := 2) hx hb d_2_28_24 (by decide) ?_
        exact ih7 ((lx1 + (-9) : Int32), (lx2 : Int32), (y16 : Nat → Int32)) _ _ _ _ (show ((lx1 + (-9) : Int32).toInt + 9).toNat < (lx1.toInt + 9).toNat from by have t1 : 1 ≤ x1.toInt := q_leI x1lo; have t2 : x1.toInt ≤ 62 := q_leI x1hi; have t3 : 0 < lx1.toInt := q_nleI c8; have t4 : 9 < lx1.toInt := q_ltI c13; have e0 : (lx1 + (-9) : Int32).toInt = (lx1.toInt + (-9)) := (q_addI (x := lx1.toInt) (y := (-9)) rfl (by decide) (by have t1 : 0 < lx1.toInt := q_nleI c8; have t2 : 9 < lx1.toInt := q_ltI c13; omega) (by have t1 : 0 < lx1.toInt := q_nleI c8; have t2 : 9 < lx1.toInt := q_ltI c13; omega)); omega) ⟨(show (-9) ≤ (lx1 + (-9) : Int32).toInt ∧ (lx1 + (-9) : Int32).toInt ≤ 62 from by have t1 : 1 ≤ x1.toInt := q_leI x1lo; have t2 : x1.toInt ≤ 62 := q_leI x1hi; have t3 : 0 < lx1.toInt := q_nleI c8; have t4 : 9 < lx1.toInt := q_ltI c13; have e0 : (lx1 + (-9) : Int32).toInt = (lx1.toInt + (-9)) := (q_addI (x := lx1.toInt) (y := (-9)) rfl (by decide) (by have t1 : 0 < lx1.toInt := q_nleI c8; have t2 : 9 < lx1.toInt := q_ltI c13; omega) (by have t1 : 0 < lx1.toInt := q_nleI c8; have t2 : 9 < lx1.toInt := q_ltI c13; omega)); omega), (show 0 ≤ (lx2 : Int32).toInt ∧ (lx2 : Int32).toInt ≤ 220 from by have t1 : 1 ≤ x1.toInt := q_leI x1lo; have t2 : x1.toInt ≤ 62 := q_leI x1hi; have t3 : 0 < lx1.toInt := q_nleI c8; have t4 : 9 < lx1.toInt := q_ltI c13; have e0 : (lx1 + (-9) : Int32).toInt = (lx1.toInt + (-9)) := (q_addI (x := lx1.toInt) (y := (-9)) rfl (by decide) (by have t1 : 0 < lx1.toInt := q_nleI c8; have t2 : 9 < lx1.toInt := q_ltI c13; omega) (by have t1 : 0 < lx1.toInt := q_nleI c8; have t2 : 9 < lx1.toInt := q_ltI c13; omega)); omega), V, q_lw hl (q_lw1 0 rfl (q_lw1 1 rfl (q_lw1 2 rfl q_lw0))), hF, hO0, hA1⟩
      ·
        replace hF := q_uc hF hg22 (q_sc (.head _) (q_sc (.tail _ (.head _)) (fun _ h => absurd h List.not_mem_nil)))
        refine lv_iinc (v := lx1 + (-9)) (lv' := [(2, .int (lx1 + (-9))), (0, .ref qO0), (1, .int x1)]) hx hb d_2_28_21 hl (k := 0) rfl (rfl) (by decide) rfl (fun ls hl => ?_)
        refine lv_goto (tgt := 2) hx hb d_2_28_24 (by decide) ?_
        exact ih7 ((lx1 + (-9) : Int32), (y20 : Int32), (y21 : Nat → Int32)) _ _ _ _ (show ((lx1 + (-9) : Int32).toInt + 9).toNat < (lx1.toInt + 9).toNat from by have t1 : 1 ≤ x1.toInt := q_leI x1lo; have t2 : x1.toInt ≤ 62 := q_leI x1hi; have t3 : 0 < lx1.toInt := q_nleI c8; have t4 : 9 < lx1.toInt := q_ltI c13; have t5 : 0 ≤ y20.toInt := q_leI f18; have t6 : y20.toInt ≤ 220 := q_leI f19; have e0 : (lx1 + (-9) : Int32).toInt = (lx1.toInt + (-9)) := (q_addI (x := lx1.toInt) (y := (-9)) rfl (by decide) (by have t1 : 0 < lx1.toInt := q_nleI c8; have t2 : 9 < lx1.toInt := q_ltI c13; omega) (by have t1 : 0 < lx1.toInt := q_nleI c8; have t2 : 9 < lx1.toInt := q_ltI c13; omega)); omega) ⟨(show (-9) ≤ (lx1 + (-9) : Int32).toInt ∧ (lx1 + (-9) : Int32).toInt ≤ 62 from by have t1 : 1 ≤ x1.toInt := q_leI x1lo; have t2 : x1.toInt ≤ 62 := q_leI x1hi; have t3 : 0 < lx1.toInt := q_nleI c8; have t4 : 9 < lx1.toInt := q_ltI c13; have t5 : 0 ≤ y20.toInt := q_leI f18; have t6 : y20.toInt ≤ 220 := q_leI f19; have e0 : (lx1 + (-9) : Int32).toInt = (lx1.toInt + (-9)) := (q_addI (x := lx1.toInt) (y := (-9)) rfl (by decide) (by have t1 : 0 < lx1.toInt := q_nleI c8; have t2 : 9 < lx1.toInt := q_ltI c13; omega) (by have t1 : 0 < lx1.toInt := q_nleI c8; have t2 : 9 < lx1.toInt := q_ltI c13; omega)); omega), (show 0 ≤ (y20 : Int32).toInt ∧ (y20 : Int32).toInt ≤ 220 from by have t1 : 1 ≤ x1.toInt := q_leI x1lo; have t2 : x1.toInt ≤ 62 := q_leI x1hi; have t3 : 0 < lx1.toInt := q_nleI c8; have t4 : 9 < lx1.toInt := q_ltI c13; have t5 : 0 ≤ y20.toInt := q_leI f18; have t6 : y20.toInt ≤ 220 := q_leI f19; have e0 : (lx1 + (-9) : Int32).toInt = (lx1.toInt + (-9)) := (q_addI (x := lx1.toInt) (y := (-9)) rfl (by decide) (by have t1 : 0 < lx1.toInt := q_nleI c8; have t2 : 9 < lx1.toInt := q_ltI c13; omega) (by have t1 : 0 < lx1.toInt := q_nleI c8; have t2 : 9 < lx1.toInt := q_ltI c13; omega)); omega), V, q_lw hl (q_lw1 0 rfl (q_lw1 1 rfl (q_lw1 2 rfl q_lw0))), hF, hO0, hA1⟩
    ·
      refine q_ti (v := lx1) (if_neg c13) ?_
      refine q_tald (v := .int (Int32.ofNat (10 ^ lx1.toNatClampNeg))) C0 V hT12 (q_ix (x := lx1.toInt) rfl (by have t1 : 0 < lx1.toInt := q_nleI c8; have t2 : lx1.toInt ≤ 9 := q_nltI c13; omega) (by have t1 : 0 < lx1.toInt := q_nleI c8; have t2 : lx1.toInt ≤ 9 := q_nltI c13; omega)) rfl d_2_28_16 ?_
      refine lv_iconst (v := 0) hx hb d_2_28_17 (by decide) ?_
      refine q_gov V (q_runV (As := [.int (Int32.ofNat (10 ^ lx1.toNatClampNeg)), .int 0]) (rest := []) (d := 1) (mc := 0) (ms := 0) (ci := 2) C0 V rfl LV_Big_98 (c_Big_multiplySmall_3 l D g w4 kO0 kA1 qO0 qA1 (Int32.ofNat (10 ^ lx1.toNatClampNeg)) lx2 lx3 hO0 hA1 (q_Ile (x := 0) (y := lx2.toInt) (by decide) rfl (by omega)) (q_Ile (x := lx2.toInt) (y := 220) rfl (by decide) (by omega)) _) rfl rfl hO0 rfl hl.1 rfl (Nat.le_of_ble_eq_true rfl) ⟨by decide, by decide⟩ ⟨Nat.le_of_ble_eq_true rfl, Nat.le_of_ble_eq_true rfl⟩ d_2_28_18) (fun u24 H locs hp23 V => ?_)
      rcases hp23 with ⟨y25, hg26, hO0, hA1⟩ | ⟨y29, y30, f27, f28, hg31, hO0, hA1⟩
      ·
        replace hF := q_uc hF hg26 (q_sc (.head _) (q_sc (.tail _ (.head _)) (fun _ h => absurd h List.not_mem_nil)))
        refine lv_iinc (v := lx1 + (-9)) (lv' := [(2, .int (lx1 + (-9))), (0, .ref qO0), (1, .int x1)]) hx hb d_2_28_21 hl (k := 0) rfl (rfl) (by decide) rfl (fun ls hl => ?_)
        refine lv_goto (tgt := 2) hx hb d_2_28_24 (by decide) ?_
        exact ih7 ((lx1 + (-9) : Int32), (lx2 : Int32), (y25 : Nat → Int32)) _ _ _ _ (show ((lx1 + (-9) : Int32).toInt + 9).toNat < (lx1.toInt + 9).toNat from by have t1 : 1 ≤ x1.toInt := q_leI x1lo; have t2 : x1.toInt ≤ 62 := q_leI x1hi; have t3 : 0 < lx1.toInt := q_nleI c8; have t4 : lx1.toInt ≤ 9 := q_nltI c13; have e0 : (lx1 + (-9) : Int32).toInt = (lx1.toInt + (-9)) := (q_addI (x := lx1.toInt) (y := (-9)) rfl (by decide) (by have t1 : 0 < lx1.toInt := q_nleI c8; have t2 : lx1.toInt ≤ 9 := q_nltI c13; omega) (by have t1 : 0 < lx1.toInt := q_nleI c8; have t2 : lx1.toInt ≤ 9 := q_nltI c13; omega)); omega) ⟨(show (-9) ≤ (lx1 + (-9) : Int32).toInt ∧ (lx1 + (-9) : Int32).toInt ≤ 62 from by have t1 : 1 ≤ x1.toInt := q_leI x1lo; have t2 : x1.toInt ≤ 62 := q_leI x1hi; have t3 : 0 < lx1.toInt := q_nleI c8; have t4 : lx1.toInt ≤ 9 := q_nltI c13; have e0 : (lx1 + (-9) : Int32).toInt = (lx1.toInt + (-9)) := (q_addI (x := lx1.toInt) (y := (-9)) rfl (by decide) (by have t1 : 0 < lx1.toInt := q_nleI c8; have t2 : lx1.toInt ≤ 9 := q_nltI c13; omega) (by have t1 : 0 < lx1.toInt := q_nleI c8; have t2 : lx1.toInt ≤ 9 := q_nltI c13; omega)); omega), (show 0 ≤ (lx2 : Int32).toInt ∧ (lx2 : Int32).toInt ≤ 220 from by have t1 : 1 ≤ x1.toInt := q_leI x1lo; have t2 : x1.toInt ≤ 62 := q_leI x1hi; have t3 : 0 < lx1.toInt := q_nleI c8; have t4 : lx1.toInt ≤ 9 := q_nltI c13; have e0 : (lx1 + (-9) : Int32).toInt = (lx1.toInt + (-9)) := (q_addI (x := lx1.toInt) (y := (-9)) rfl (by decide) (by have t1 : 0 < lx1.toInt := q_nleI c8; have t2 : lx1.toInt ≤ 9 := q_nltI c13; omega) (by have t1 : 0 < lx1.toInt := q_nleI c8; have t2 : lx1.toInt ≤ 9 := q_nltI c13; omega)); omega), V, q_lw hl (q_lw1 0 rfl (q_lw1 1 rfl (q_lw1 2 rfl q_lw0))), hF, hO0, hA1⟩
      ·
        replace hF := q_uc hF hg31 (q_sc (.head _) (q_sc (.tail _ (.head _)) (fun _ h => absurd h List.not_mem_nil)))
        refine lv_iinc (v := lx1 + (-9)) (lv' := [(2, .int (lx1 + (-9))), (0, .ref qO0), (1, .int x1)]) hx hb d_2_28_21 hl (k := 0) rfl (rfl) (by decide) rfl (fun ls hl => ?_)
        refine lv_goto (tgt := 2) hx hb d_2_28_24 (by decide) ?_
        exact ih7 ((lx1 + (-9) : Int32), (y29 : Int32), (y30 : Nat → Int32)) _ _ _ _ (show ((lx1 + (-9) : Int32).toInt + 9).toNat < (lx1.toInt + 9).toNat from by have t1 : 1 ≤ x1.toInt := q_leI x1lo; have t2 : x1.toInt ≤ 62 := q_leI x1hi; have t3 : 0 < lx1.toInt := q_nleI c8; have t4 : lx1.toInt ≤ 9 := q_nltI c13; have t5 : 0 ≤ y29.toInt := q_leI f27; have t6 : y29.toInt ≤ 220 := q_leI f28; have e0 : (lx1 + (-9) : Int32).toInt = (lx1.toInt + (-9)) := (q_addI (x := lx1.toInt) (y := (-9)) rfl (by decide) (by have t1 : 0 < lx1.toInt := q_nleI c8; have t2 : lx1.toInt ≤ 9 := q_nltI c13; omega) (by have t1 : 0 < lx1.toInt := q_nleI c8; have t2 : lx1.toInt ≤ 9 := q_nltI c13; omega)); omega) ⟨(show (-9) ≤ (lx1 + (-9) : Int32).toInt ∧ (lx1 + (-9) : Int32).toInt ≤ 62 from by have t1 : 1 ≤ x1.toInt := q_leI x1lo; have t2 : x1.toInt ≤ 62 := q_leI x1hi; have t3 : 0 < lx1.toInt := q_nleI c8; have t4 : lx1.toInt ≤ 9 := q_nltI c13; have t5 : 0 ≤ y29.toInt := q_leI f27; have t6 : y29.toInt ≤ 220 := q_leI f28; have e0 : (lx1 + (-9) : Int32).toInt = (lx1.toInt + (-9)) := (q_addI (x := lx1.toInt) (y := (-9)) rfl (by decide) (by have t1 : 0 < lx1.toInt := q_nleI c8; have t2 : lx1.toInt ≤ 9 := q_nltI c13; omega) (by have t1 : 0 < lx1.toInt := q_nleI c8; have t2 : lx1.toInt ≤ 9 := q_nltI c13; omega)); omega), (show 0 ≤ (y29 : Int32).toInt ∧ (y29 : Int32).toInt ≤ 220 from by have t1 : 1 ≤ x1.toInt := q_leI x1lo; have t2 : x1.toInt ≤ 62 := q_leI x1hi; have t3 : 0 < lx1.toInt := q_nleI c8; have t4 : lx1.toInt ≤ 9 := q_nltI c13; have t5 : 0 ≤ y29.toInt := q_leI f27; have t6 : y29.toInt ≤ 220 := q_leI f28; have e0 : (lx1 + (-9) : Int32).toInt = (lx1.toInt + (-9)) := (q_addI (x := lx1.toInt) (y := (-9)) rfl (by decide) (by have t1 : 0 < lx1.toInt := q_nleI c8; have t2 : lx1.toInt ≤ 9 := q_nltI c13; omega) (by have t1 : 0 < lx1.toInt := q_nleI c8; have t2 : lx1.toInt ≤ 9 := q_nltI c13; omega)); omega), V, q_lw hl (q_lw1 0 rfl (q_lw1 1 rfl (q_lw1 2 rfl q_lw0))), hF, hO0, hA1⟩
theorem d_27_40_18 : decode prog_27_method_40_code 18 = .ok (.iconst 1, 1) := by decide +kernel
set_option maxRecDepth 100000 in
set_option maxHeartbeats 4000000 in
theorem c_jInt_compare_3 (l : Launch) (D : va_G) (g : Nat → ClassId) (ws : va_W) (x1 : Int32) (x2 : Int32) : q_mI l y_jInt_compare prog_27_method_40_code 2 (.int) 1 0 0 D g [.int x1, .int x2] ws (fun r u => (x2 ≤ x1 ∧ ¬ x1 = x2 ∧ 1 = r ∧ ws = u) ∨ (x2 ≤ x1 ∧ x1 = x2 ∧ 0 = r ∧ ws = u) ∨ (¬ x2 ≤ x1 ∧ (-1) = r ∧ ws = u)) := by
  intro sz
  refine q_into (by decide) (Nat.le_of_ble_eq_true rfl) ?_
  intro p e s m below meth c ls hsz C0 V hl
  have hx := C0.1
  have hb := C0.2.1
  have hl : lv_has ls 2 [(0, .int x1), (1, .int x2)] := hl
  refine lv_iload_n hx hb d_27_40_0 rfl (lv_at hl 0 rfl) ?_
  refine lv_iload_n hx hb d_27_40_1 rfl (lv_at hl 1 rfl) ?_
  refine lv_icmp_ge (tgt := 9) hx hb d_27_40_2 (by decide) (fun c1 => ?_) (fun c1 => ?_)
  ·
    refine lv_iload_n hx hb d_27_40_9 rfl (lv_at hl 0 rfl) ?_
    refine lv_iload_n hx hb d_27_40_10 rfl (lv_at hl 1 rfl) ?_
    refine lv_icmp_ne (tgt := 18) hx hb d_27_40_11 (by decide) (fun c2 => ?_) (fun c2 => ?_)
    ·
      refine lv_iconst (v := 1) hx hb d_27_40_18 (by decide) ?_
      exact q_reti C0 V (Or.inl ⟨c1, c2, rfl, rfl⟩) d_27_40_19
    ·
      refine lv_iconst (v := 0) hx hb d_27_40_14 (by decide) ?_
      refine lv_goto (tgt := 19) hx hb d_27_40_15 (by decide) ?_
      exact q_reti C0 V (Or.inr (Or.inl ⟨c1, c2, rfl, rfl⟩)) d_27_40_19
  ·
    refine lv_iconst (v := (-1)) hx hb d_27_40_5 (by decide) ?_
    refine lv_goto (tgt := 19) hx hb d_27_40_6 (by decide) ?_
    exact q_reti C0 V (Or.inr (Or.inr (⟨c1, rfl, rfl⟩))) d_27_40_19
theorem d_2_21_65 : decode prog_2_method_21_code 65 = .ok (.iinc 2 (-1), 3) := by decide +kernel
theorem d_2_21_68 : decode prog_2_method_21_code 68 = .ok (.goto (-38), 3) := by decide +kernel
theorem d_2_21_11 : decode prog_2_method_21_code 11 = .ok (.aload_n 0, 1) := by decide +kernel
theorem d_2_21_12 : decode prog_2_method_21_code 12 = .ok (.getfield 13, 3) := by decide +kernel
theorem d_2_21_15 : decode prog_2_method_21_code 15 = .ok (.aload_n 1, 1) := by decide +kernel
theorem d_2_21_16 : decode prog_2_method_21_code 16 = .ok (.getfield 13, 3) := by decide +kernel
theorem d_2_21_19 : decode prog_2_method_21_code 19 = .ok (.invokestatic 75, 3) := by decide +kernel
theorem d_2_21_22 : decode prog_2_method_21_code 22 = .ok (.ireturn, 1) := by decide +kernel
set_option maxRecDepth 100000 in
set_option maxHeartbeats 4000000 in
theorem c_Big_compareSize_3 (l : Launch) (D : va_G) (g : Nat → ClassId) (ws : va_W) (kO0 kO1 kA2 kA3 qO0 qO1 qA2 qA3 : Nat) (y1 : Int32) (y2 : Int32) (y3 : Int32) (f4 : Nat → Int32) (f5 : Nat → Int32) (hO0 : ws[kO0]? = (some (qO0, .inr (2, [.ref qA2, .int y1, .int y2])) : Option (Nat × va_E))) (hO1 : ws[kO1]? = (some (qO1, .inr (2, [.ref qA3, .int y3, .int 0])) : Option (Nat × va_E))) (hA2 : ws[kA2]? = (some (qA2, .inl (g 0, 220, .inl f4)) : Option (Nat × va_E))) (hA3 : ws[kA3]? = (some (qA3, .inl (g 0, 220, .inl f5)) : Option (Nat × va_E))) (y1lo : 1 ≤ y1) (y1hi : y1 ≤ 3) (y2lo : 0 ≤ y2) (y2hi : y2 ≤ 1) (y3lo : 0 ≤ y3) (y3hi : y3 ≤ 220) : q_mI l y_Big_compareSize prog_2_method_21_code 3 (.int) 2 0 0 D g [.ref qO0, .ref qO1] ws (fun r u => (0 = r ∧ ws = u) ∨ (1 = r ∧ ws = u) ∨ ((-1) = r ∧ ws = u)) := by
  intro sz
  refine q_into (by decide) (Nat.le_of_ble_eq_true rfl) ?_
  intro p e s m below meth c ls hsz C0 V hl
  have hx := C0.1
  have hb := C0.2.1
  have hl : lv_has ls 3 [(0, .ref qO0), (1, .ref qO1)] := hl
  refine lv_aload_n hx hb d_2_21_0 rfl (lv_at hl 0 rfl) ?_
  refine q_get (ci := 2) (j := 1) (v := .int y1) C0 V i_Big rfl rfl hO0 (by decide) w_85 rfl d_2_21_1 ?_
  refine lv_aload_n hx hb d_2_21_4 rfl (lv_at hl 1 rfl) ?_
  refine q_get (ci := 2) (j := 1) (v := .int y3) C0 V i_Big rfl rfl hO1 (by decide) w_85 rfl d_2_21_5 ?_
  refine lv_icmp_eq (tgt := 23) hx hb d_2_21_8 (by decide) (fun c1 => ?_) (fun c1 => ?_)
  ·
    refine lv_aload_n hx hb d_2_21_23 rfl (lv_at hl 0 rfl) ?_
    refine q_get (ci := 2) (j := 1) (v := .int y1) C0 V i_Big rfl rfl hO0 (by decide) w_85 rfl d_2_21_24 ?_
    refine lv_iconst (v := 1) hx hb d_2_21_27 (by decide) ?_
    refine lv_isub hx hb d_2_21_28 ?_
    refine lv_istore_n (lv' := [(2, .int (y1 - 1)), (0, .ref qO0), (1, .ref qO1)]) hx hb d_2_21_29 rfl hl (by decide) rfl (fun ls hl => ?_)
    refine lv_iload_n hx hb d_2_21_30 rfl (lv_at hl 0 rfl) ?_
    refine lv_if_lt (tgt := 71) hx hb d_2_21_31 (by decide) (fun c2 => absurd c2 (Int32.not_lt.mpr (q_Ile (x := 0) (y := (y1.toInt - 1)) (by decide) (q_subI (x := y1.toInt) (y := 1) rfl (by decide) (by have t1 : 1 ≤ y1.toInt := q_leI y1lo; have t2 : y1.toInt ≤ 3 := q_leI y1hi; have t3 : y1.toInt = y3.toInt := q_eqI c1; omega) (by have t1 : 1 ≤ y1.toInt := q_leI y1lo; have t2 : y1.toInt ≤ 3 := q_leI y1hi; have t3 : y1.toInt = y3.toInt := q_eqI c1; omega)) (by have t1 : 1 ≤ y1.toInt := q_leI y1lo; have t2 : y1.toInt ≤ 3 := q_leI y1hi; have t3 : y1.toInt = y3.toInt := q_eqI c1; omega)))) (fun c2 => ?_)
    refine lv_aload_n hx hb d_2_21_34 rfl (lv_at hl 1 rfl) ?_
    refine q_get (ci := 2) (j := 0) (v := .ref qA2) C0 V i_Big rfl rfl hO0 (by decide) w_84 rfl d_2_21_35 ?_
    refine lv_iload_n hx hb d_2_21_38 rfl (lv_at hl 0 rfl) ?_
    refine q_iald C0 V hA2 (q_ix (x := (y1.toInt - 1)) (q_subI (x := y1.toInt) (y := 1) rfl (by decide) (by have t1 : 1 ≤ y1.toInt := q_leI y1lo; have t2 : y1.toInt ≤ 3 := q_leI y1hi; have t3 : y1.toInt = y3.toInt := q_eqI c1; omega) (by have t1 : 1 ≤ y1.toInt := q_leI y1lo; have t2 : y1.toInt ≤ 3 := q_leI y1hi; have t3 : y1.toInt = y3.toInt := q_eqI c1; omega)) (by have t1 : 1 ≤ y1.toInt := q_leI y1lo; have t2 : y1.toInt ≤ 3 := q_leI y1hi; have t3 : y1.toInt = y3.toInt := q_eqI c1; omega) (by have t1 : 1 ≤ y1.toInt := q_leI y1lo; have t2 : y1.toInt ≤ 3 := q_leI y1hi; have t3 : y1.toInt = y3.toInt := q_eqI c1; omega)) d_2_21_39 ?_
    refine lv_aload_n hx hb d_2_21_40 rfl (lv_at hl 2 rfl) ?_
    refine q_get (ci := 2) (j := 0) (v := .ref qA3) C0 V i_Big rfl rfl hO1 (by decide) w_84 rfl d_2_21_41 ?_
    refine lv_iload_n hx hb d_2_21_44 rfl (lv_at hl 0 rfl) ?_
    refine q_iald C0 V hA3 (q_ix (x := (y1.toInt - 1)) (q_subI (x := y1.toInt) (y := 1) rfl (by decide) (by have t1 : 1 ≤ y1.toInt := q_leI y1lo; have t2 : y1.toInt ≤ 3 := q_leI y1hi; have t3 : y1.toInt = y3.toInt := q_eqI c1; omega) (by have t1 : 1 ≤ y1.toInt := q_leI y1lo; have t2 : y1.toInt ≤ 3 := q_leI y1hi; have t3 : y1.toInt = y3.toInt := q_eqI c1; omega)) (by have t1 : 1 ≤ y1.toInt := q_leI y1lo; have t2 : y1.toInt ≤ 3 := q_leI y1hi; have t3 : y1.toInt = y3.toInt := q_eqI c1; omega) (by have t1 : 1 ≤ y1.toInt := q_leI y1lo; have t2 : y1.toInt ≤ 3 := q_leI y1hi; have t3 : y1.toInt = y3.toInt := q_eqI c1; omega)) d_2_21_45 ?_
    refine lv_icmp_eq (tgt := 65) hx hb d_2_21_46 (by decide) (fun c3 => ?_) (fun c3 => ?_)
    ·
      refine lv_iinc (v := (y1 - 1) + (-1)) (lv' := [(2, .int ((y1 - 1) + (-1))), (0, .ref qO0), (1, .ref qO1)]) hx hb d_2_21_65 hl (k := 0) rfl (rfl) (by decide) rfl (fun ls hl => ?_)
      refine lv_goto (tgt := 30) hx hb d_2_21_68 (by decide) ?_
      refine lv_iload_n hx hb d_2_21_30 rfl (lv_at hl 0 rfl) ?_
      refine lv_if_lt (tgt := 71) hx hb d_2_21_31 (by decide) (fun c4 => ?_) (fun c4 => ?_)
      ·
        refine lv_iconst (v := 0) hx hb d_2_21_71 (by decide) ?_
        exact q_reti C0 V (Or.inl ⟨rfl, rfl⟩) d_2_21_72
      ·
        refine lv_aload_n hx hb d_2_21_34 rfl (lv_at hl 1 rfl) ?_
        refine q_get (ci := 2) (j := 0) (v := .ref qA2) C0 V i_Big rfl rfl hO0 (by decide) w_84 rfl d_2_21_35 ?_
        refine lv_iload_n hx hb d_2_21_38 rfl (lv_at hl 0 rfl) ?_
        refine q_iald C0 V hA2 (q_ix (x := ((y1.toInt - 1) + (-1))) (q_addI (x := (y1.toInt - 1)) (y := (-1)) (q_subI (x := y1.toInt) (y := 1) rfl (by decide) (by have t1 : 1 ≤ y1.toInt := q_leI y1lo; have t2 : y1.toInt ≤ 3 := q_leI y1hi; have t3 : y1.toInt = y3.toInt := q_eqI c1; have t4 : 0 ≤ ((y1.toInt - 1) + (-1)) := by { have e1 : (((y1 - 1) + (-1)) : Int32).toInt = ((y1.toInt - 1) + (-1)) := (q_addI (x := (y1.toInt - 1)) (y := (-1)) (q_subI (x := y1.toInt) (y := 1) rfl (by decide) (by have t1 : 1 ≤ y1.toInt := q_leI y1lo; have t2 : y1.toInt ≤ 3 := q_leI y1hi; have t3 : y1.toInt = y3.toInt := q_eqI c1; omega) (by have t1 : 1 ≤ y1.toInt := q_leI y1lo; have t2 : y1.toInt ≤ 3 := q_leI y1hi; have t3 : y1.toInt = y3.toInt := q_eqI c1; omega)) (by decide) (by have t1 : 1 ≤ y1.toInt := q_leI y1lo; have t2 : y1.toInt ≤ 3 := q_leI y1hi; have t3 : y1.toInt = y3.toInt := q_eqI c1; omega) (by have t1 : 1 ≤ y1.toInt := q_leI y1lo; have t2 : y1.toInt ≤ 3 := q_leI y1hi; have t3 : y1.toInt = y3.toInt := q_eqI c1; omega)); have e2 : (0 : Int32).toInt = 0 := (by decide); have e3 := q_nltI c4; omega }; omega) (by have t1 : 1 ≤ y1.toInt := q_leI y1lo; have t2 : y1.toInt ≤ 3 := q_leI y1hi; have t3 : y1.toInt = y3.toInt := q_eqI c1; have t4 : 0 ≤ ((y1.toInt - 1) + (-1)) := by { have e1 : (((y1 - 1) + (-1)) : Int32).toInt = ((y1.toInt - 1) + (-1)) := (q_addI (x := (y1.toInt - 1)) (y := (-1)) (q_subI (x := y1.toInt) (y := 1) rfl (by decide) (by have t1 : 1 ≤ y1.toInt := q_leI y1lo; have t2 : y1.toInt ≤ 3 := q_leI y1hi; have t3 : y1.toInt = y3.toInt := q_eqI c1; omega) (by have t1 : 1 ≤ y1.toInt := q_leI y1lo; have t2 : y1.toInt ≤ 3 := q_leI y1hi; have t3 : y1.toInt = y3.toInt := q_eqI c1; omega)) (by decide) (by have t1 : 1 ≤ y1.toInt := q_leI y1lo; have t2 : y1.toInt ≤ 3 := q_leI y1hi; have t3 : y1.toInt = y3.toInt := q_eqI c1; omega) (by have t1 : 1 ≤ y1.toInt := q_leI y1lo; have t2 : y1.toInt ≤ 3 := q_leI y1hi; have t3 : y1.toInt = y3.toInt := q_eqI c1; omega)); have e2 : (0 : Int32).toInt = 0 := (by decide); have e3 := q_nltI c4; omega }; omega)) (by decide) (by have t1 : 1 ≤ y1.toInt := q_leI y1lo; have t2 : y1.toInt ≤ 3 := q_leI y1hi; have t3 : y1.toInt = y3.toInt := q_eqI c1; have t4 : 0 ≤ ((y1.toInt - 1) + (-1)) := by { have e1 : (((y1 - 1) + (-1)) : Int32).toInt = ((y1.toInt - 1) + (-1)) := (q_addI (x := (y1.toInt - 1)) (y := (-1)) (q_subI (x := y1.toInt) (y := 1) rfl (by decide) (by have t1 : 1 ≤ y1.toInt := q_leI y1lo; have t2 : y1.toInt ≤ 3 := q_leI y1hi; have t3 : y1.toInt = y3.toInt := q_eqI c1; omega) (by have t1 : 1 ≤ y1.toInt := q_leI y1lo; have t2 : y1.toInt ≤ 3 := q_leI y1hi; have t3 : y1.toInt = y3.toInt := q_eqI c1; omega)) (by decide) (by have t1 : 1 ≤ y1.toInt := q_leI y1lo; have t2 : y1.toInt ≤ 3 := q_leI y1hi; have t3 : y1.toInt = y3.toInt := q_eqI c1; omega) (by have t1 : 1 ≤ y1.toInt := q_leI y1lo; have t2 : y1.toInt ≤ 3 := q_leI y1hi; have t3 : y1.toInt = y3.toInt := q_eqI c1; omega)); have e2 : (0 : Int32).toInt = 0 := (by decide); have e3 := q_nltI c4; omega }; omega) (by have t1 : 1 ≤ y1.toInt := q_leI y1lo; have t2 : y1.toInt ≤ 3 := q_leI y1hi; have t3 : y1.toInt = y3.toInt := q_eqI c1; have t4 : 0 ≤ ((y1.toInt - 1) + (-1)) := by { have e1 : (((y1 - 1) + (-1)) : Int32).toInt = ((y1.toInt - 1) + (-1)) := (q_addI (x := (y1.toInt - 1)) (y := (-1)) (q_subI (x := y1.toInt) (y := 1) rfl (by decide) (by have t1 : 1 ≤ y1.toInt := q_leI y1lo; have t2 : y1.toInt ≤ 3 := q_leI y1hi; have t3 : y1.toInt = y3.toInt := q_eqI c1; omega) (by have t1 : 1 ≤ y1.toInt := q_leI y1lo; have t2 : y1.toInt ≤ 3 := q_leI y1hi; have t3 : y1.toInt = y3.toInt := q_eqI c1; omega)) (by decide) (by have t1 : 1 ≤ y1.toInt := q_leI y1lo; have t2 : y1.toInt ≤ 3 := q_leI y1hi; have t3 : y1.toInt = y3.toInt := q_eqI c1; omega) (by have t1 : 1 ≤ y1.toInt := q_leI y1lo; have t2 : y1.toInt ≤ 3 := q_leI y1hi; have t3 : y1.toInt = y3.toInt := q_eqI c1; omega)); have e2 : (0 : Int32).toInt = 0 := (by decide); have e3 := q_nltI c4; omega }; omega)) (by have t1 : 1 ≤ y1.toInt := q_leI y1lo; have t2 : y1.toInt ≤ 3 := q_leI y1hi; have t3 : y1.toInt = y3.toInt := q_eqI c1; have t4 : 0 ≤ ((y1.toInt - 1) + (-1)) := by { have e1 : (((y1 - 1) + (-1)) : Int32).toInt = ((y1.toInt - 1) + (-1)) := (q_addI (x := (y1.toInt - 1)) (y := (-1)) (q_subI (x := y1.toInt) (y := 1) rfl (by decide) (by have t1 : 1 ≤ y1.toInt := q_leI y1lo; have t2 : y1.toInt ≤ 3 := q_leI y1hi; have t3 : y1.toInt = y3.toInt := q_eqI c1; omega) (by have t1 : 1 ≤ y1.toInt := q_leI y1lo; have t2 : y1.toInt ≤ 3 := q_leI y1hi; have t3 : y1.toInt = y3.toInt := q_eqI c1; omega)) (by decide) (by have t1 : 1 ≤ y1.toInt := q_leI y1lo; have t2 : y1.toInt ≤ 3 := q_leI y1hi; have t3 : y1.toInt = y3.toInt := q_eqI c1; omega) (by have t1 : 1 ≤ y1.toInt := q_leI y1lo; have t2 : y1.toInt ≤ 3 := q_leI y1hi; have t3 : y1.toInt = y3.toInt := q_eqI c1; omega)); have e2 : (0 : Int32).toInt = 0 := (by decide); have e3 := q_nltI c4; omega }; omega) (by have t1 : 1 ≤ y1.toInt := q_leI y1lo; have t2 : y1.toInt ≤ 3 := q_leI y1hi; have t3 : y1.toInt = y3.toInt := q_eqI c1; have t4 : 0 ≤ ((y1.toInt - 1) + (-1)) := by { have e1 : (((y1 - 1) + (-1)) : Int32).toInt = ((y1.toInt - 1) + (-1)) := (q_addI (x := (y1.toInt - 1)) (y := (-1)) (q_subI (x := y1.toInt) (y := 1) rfl (by decide) (by have t1 : 1 ≤ y1.toInt := q_leI y1lo; have t2 : y1.toInt ≤ 3 := q_leI y1hi; have t3 : y1.toInt = y3.toInt := q_eqI c1; omega) (by have t1 : 1 ≤ y1.toInt := q_leI y1lo; have t2 : y1.toInt ≤ 3 := q_leI y1hi; have t3 : y1.toInt = y3.toInt := q_eqI c1; omega)) (by decide) (by have t1 : 1 ≤ y1.toInt := q_leI y1lo; have t2 : y1.toInt ≤ 3 := q_leI y1hi; have t3 : y1.toInt = y3.toInt := q_eqI c1; omega) (by have t1 : 1 ≤ y1.toInt := q_leI y1lo; have t2 : y1.toInt ≤ 3 := q_leI y1hi; have t3 : y1.toInt = y3.toInt := q_eqI c1; omega)); have e2 : (0 : Int32).toInt = 0 := (by decide); have e3 := q_nltI c4; omega }; omega)) d_2_21_39 ?_
        refine lv_aload_n hx hb d_2_21_40 rfl (lv_at hl 2 rfl) ?_
        refine q_get (ci := 2) (j := 0) (v := .ref qA3) C0 V i_Big rfl rfl hO1 (by decide) w_84 rfl d_2_21_41 ?_
        refine lv_iload_n hx hb d_2_21_44 rfl (lv_at hl 0 rfl) ?_
        refine q_iald C0 V hA3 (q_ix (x := ((y1.toInt - 1) + (-1))) (q_addI (x := (y1.toInt - 1)) (y := (-1)) (q_subI (x := y1.toInt) (y := 1) rfl (by decide) (by have t1 : 1 ≤ y1.toInt := q_leI y1lo; have t2 : y1.toInt ≤ 3 := q_leI y1hi; have t3 : y1.toInt = y3.toInt := q_eqI c1; have t4 : 0 ≤ ((y1.toInt - 1) + (-1)) := by { have e1 : (((y1 - 1) + (-1)) : Int32).toInt = ((y1.toInt - 1) + (-1)) := (q_addI (x := (y1.toInt - 1)) (y := (-1)) (q_subI (x := y1.toInt) (y := 1) rfl (by decide) (by have t1 : 1 ≤ y1.toInt := q_leI y1lo; have t2 : y1.toInt ≤ 3 := q_leI y1hi; have t3 : y1.toInt = y3.toInt := q_eqI c1; omega) (by have t1 : 1 ≤ y1.toInt := q_leI y1lo; have t2 : y1.toInt ≤ 3 := q_leI y1hi; have t3 : y1.toInt = y3.toInt := q_eqI c1; omega)) (by decide) (by have t1 : 1 ≤ y1.toInt := q_leI y1lo; have t2 : y1.toInt ≤ 3 := q_leI y1hi; have t3 : y1.toInt = y3.toInt := q_eqI c1; omega) (by have t1 : 1 ≤ y1.toInt := q_leI y1lo; have t2 : y1.toInt ≤ 3 := q_leI y1hi; have t3 : y1.toInt = y3.toInt := q_eqI c1; omega)); have e2 : (0 : Int32).toInt = 0 := (by decide); have e3 := q_nltI c4; omega }; omega) (by have t1 : 1 ≤ y1.toInt := q_leI y1lo; have t2 : y1.toInt ≤ 3 := q_leI y1hi; have t3 : y1.toInt = y3.toInt := q_eqI c1; have t4 : 0 ≤ ((y1.toInt - 1) + (-1)) := by { have e1 : (((y1 - 1) + (-1)) : Int32).toInt = ((y1.toInt - 1) + (-1)) := (q_addI (x := (y1.toInt - 1)) (y := (-1)) (q_subI (x := y1.toInt) (y := 1) rfl (by decide) (by have t1 : 1 ≤ y1.toInt := q_leI y1lo; have t2 : y1.toInt ≤ 3 := q_leI y1hi; have t3 : y1.toInt = y3.toInt := q_eqI c1; omega) (by have t1 : 1 ≤ y1.toInt := q_leI y1lo; have t2 : y1.toInt ≤ 3 := q_leI y1hi; have t3 : y1.toInt = y3.toInt := q_eqI c1; omega)) (by decide) (by have t1 : 1 ≤ y1.toInt := q_leI y1lo; have t2 : y1.toInt ≤ 3 := q_leI y1hi; have t3 : y1.toInt = y3.toInt := q_eqI c1; omega) (by have t1 : 1 ≤ y1.toInt := q_leI y1lo; have t2 : y1.toInt ≤ 3 := q_leI y1hi; have t3 : y1.toInt = y3.toInt := q_eqI c1; omega)); have e2 : (0 : Int32).toInt = 0 := (by decide); have e3 := q_nltI c4; omega }; omega)) (by decide) (by have t1 : 1 ≤ y1.toInt := q_leI y1lo; have t2 : y1.toInt ≤ 3 := q_leI y1hi; have t3 : y1.toInt = y3.toInt := q_eqI c1; have t4 : 0 ≤ ((y1.toInt - 1) + (-1)) := by { have e1 : (((y1 - 1) + (-1)) : Int32).toInt = ((y1.toInt - 1) + (-1)) := (q_addI (x := (y1.toInt - 1)) (y := (-1)) (q_subI (x := y1.toInt) (y := 1) rfl (by decide) (by have t1 : 1 ≤ y1.toInt := q_leI y1lo; have t2 : y1.toInt ≤ 3 := q_leI y1hi; have t3 : y1.toInt = y3.toInt := q_eqI c1; omega) (by have t1 : 1 ≤ y1.toInt := q_leI y1lo; have t2 : y1.toInt ≤ 3 := q_leI y1hi; have t3 : y1.toInt = y3.toInt := q_eqI c1; omega)) (by decide) (by have t1 : 1 ≤ y1.toInt := q_leI y1lo; have t2 : y1.toInt ≤ 3 := q_leI y1hi; have t3 : y1.toInt = y3.toInt := q_eqI c1; omega) (by have t1 : 1 ≤ y1.toInt := q_leI y1lo; have t2 : y1.toInt ≤ 3 := q_leI y1hi; have t3 : y1.toInt = y3.toInt := q_eqI c1; omega)); have e2 : (0 : Int32).toInt = 0 := (by decide); have e3 := q_nltI c4; omega }; omega) (by have t1 : 1 ≤ y1.toInt := q_leI y1lo; have t2 : y1.toInt ≤ 3 := q_leI y1hi; have t3 : y1.toInt = y3.toInt := q_eqI c1; have t4 : 0 ≤ ((y1.toInt - 1) + (-1)) := by { have e1 : (((y1 - 1) + (-1)) : Int32).toInt = ((y1.toInt - 1) + (-1)) := (q_addI (x := (y1.toInt - 1)) (y := (-1)) (q_subI (x := y1.toInt) (y := 1) rfl (by decide) (by have t1 : 1 ≤ y1.toInt := q_leI y1lo; have t2 : y1.toInt ≤ 3 := q_leI y1hi; have t3 : y1.toInt = y3.toInt := q_eqI c1; omega) (by have t1 : 1 ≤ y1.toInt := q_leI y1lo; have t2 : y1.toInt ≤ 3 := q_leI y1hi; have t3 : y1.toInt = y3.toInt := q_eqI c1; omega)) (by decide) (by have t1 : 1 ≤ y1.toInt := q_leI y1lo; have t2 : y1.toInt ≤ 3 := q_leI y1hi; have t3 : y1.toInt = y3.toInt := q_eqI c1; omega) (by have t1 : 1 ≤ y1.toInt := q_leI y1lo; have t2 : y1.toInt ≤ 3 := q_leI y1hi; have t3 : y1.toInt = y3.toInt := q_eqI c1; omega)); have e2 : (0 : Int32).toInt = 0 := (by decide); have e3 := q_nltI c4; omega }; omega)) (by have t1 : 1 ≤ y1.toInt := q_leI y1lo; have t2 : y1.toInt ≤ 3 := q_leI y1hi; have t3 : y1.toInt = y3.toInt := q_eqI c1; have t4 : 0 ≤ ((y1.toInt - 1) + (-1)) := by { have e1 : (((y1 - 1) + (-1)) : Int32).toInt = ((y1.toInt - 1) + (-1)) := (q_addI (x := (y1.toInt - 1)) (y := (-1)) (q_subI (x := y1.toInt) (y := 1) rfl (by decide) (by have t1 : 1 ≤ y1.toInt := q_leI y1lo; have t2 : y1.toInt ≤ 3 := q_leI y1hi; have t3 : y1.toInt = y3.toInt := q_eqI c1; omega) (by have t1 : 1 ≤ y1.toInt := q_leI y1lo; have t2 : y1.toInt ≤ 3 := q_leI y1hi; have t3 : y1.toInt = y3.toInt := q_eqI c1; omega)) (by decide) (by have t1 : 1 ≤ y1.toInt := q_leI y1lo; have t2 : y1.toInt ≤ 3 := q_leI y1hi; have t3 : y1.toInt = y3.toInt := q_eqI c1; omega) (by have t1 : 1 ≤ y1.toInt := q_leI y1lo; have t2 : y1.toInt ≤ 3 := q_leI y1hi; have t3 : y1.toInt = y3.toInt := q_eqI c1; omega)); have e2 : (0 : Int32).toInt = 0 := (by decide); have e3 := q_nltI c4; omega }; omega) (by have t1 : 1 ≤ y1.toInt := q_leI y1lo; have t2 : y1.toInt ≤ 3 := q_leI y1hi; have t3 : y1.toInt = y3.toInt := q_eqI c1; have t4 : 0 ≤ ((y1.toInt - 1) + (-1)) := by { have e1 : (((y1 - 1) + (-1)) : Int32).toInt = ((y1.toInt - 1) + (-1)) := (q_addI (x := (y1.toInt - 1)) (y := (-1)) (q_subI (x := y1.toInt) (y := 1) rfl (by decide) (by have t1 : 1 ≤ y1.toInt := q_leI y1lo; have t2 : y1.toInt ≤ 3 := q_leI y1hi; have t3 : y1.toInt = y3.toInt := q_eqI c1; omega) (by have t1 : 1 ≤ y1.toInt := q_leI y1lo; have t2 : y1.toInt ≤ 3 := q_leI y1hi; have t3 : y1.toInt = y3.toInt := q_eqI c1; omega)) (by decide) (by have t1 : 1 ≤ y1.toInt := q_leI y1lo; have t2 : y1.toInt ≤ 3 := q_leI y1hi; have t3 : y1.toInt = y3.toInt := q_eqI c1; omega) (by have t1 : 1 ≤ y1.toInt := q_leI y1lo; have t2 : y1.toInt ≤ 3 := q_leI y1hi; have t3 : y1.toInt = y3.toInt := q_eqI c1; omega)); have e2 : (0 : Int32).toInt = 0 := (by decide); have e3 := q_nltI c4; omega }; omega)) d_2_21_45 ?_
        refine lv_icmp_eq (tgt := 65) hx hb d_2_21_46 (by decide) (fun c5 => ?_) (fun c5 => ?_)
        ·
          refine lv_iinc (v := ((y1 - 1) + (-1)) + (-1)) (lv' := [(2, .int (((y1 - 1) + (-1)) + (-1))), (0, .ref qO0), (1, .ref qO1)]) hx hb d_2_21_65 hl (k := 0) rfl (rfl) (by decide) rfl (fun ls hl => ?_)
          refine lv_goto (tgt := 30) hx hb d_2_21_68 (by decide) ?_
          refine lv_iload_n hx hb d_2_21_30 rfl (lv_at hl 0 rfl) ?_
          refine lv_if_lt (tgt := 71) hx hb d_2_21_31 (by decide) (fun c6 => ?_) (fun c6 => ?_)
          ·
            refine lv_iconst (v := 0) hx hb d_2_21_71 (by decide) ?_
            exact q_reti C0 V (Or.inl ⟨rfl, rfl⟩) d_2_21_72
          ·
            refine lv_aload_n hx hb d_2_21_34 rfl (lv_at hl 1 rfl) ?_
            refine q_get (ci := 2) (j := 0) (v := .ref qA2) C0 V i_Big rfl rfl hO0 (by decide) w_84 rfl d_2_21_35 ?_
            refine lv_iload_n hx hb d_2_21_38 rfl (lv_at hl 0 rfl) ?_
            refine q_ti (v := 0) (q_Ieq (x := (((y1.toInt - 1) + (-1)) + (-1))) (y := 0) (q_addI (x := ((y1.toInt - 1) + (-1))) (y := (-1)) (q_addI (x := (y1.toInt - 1)) (y := (-1)) (q_subI (x := y1.toInt) (y := 1) rfl (by decide) (by have t1 : 1 ≤ y1.toInt := q_leI y1lo; have t2 : y1.toInt ≤ 3 := q_leI y1hi; have t3 : y1.toInt = y3.toInt := q_eqI c1; have t4 : 0 ≤ ((y1.toInt - 1) + (-1)) := by { have e1 : (((y1 - 1) + (-1)) : Int32).toInt = ((y1.toInt - 1) + (-1)) := (q_addI (x := (y1.toInt - 1)) (y := (-1)) (q_subI (x := y1.toInt) (y := 1) rfl (by decide) (by have t1 : 1 ≤ y1.toInt := q_leI y1lo; have t2 : y1.toInt ≤ 3 := q_leI y1hi; have t3 : y1.toInt = y3.toInt := q_eqI c1; omega) (by have t1 : 1 ≤ y1.toInt := q_leI y1lo; have t2 : y1.toInt ≤ 3 := q_leI y1hi; have t3 : y1.toInt = y3.toInt := q_eqI c1; omega)) (by decide) (by have t1 : 1 ≤ y1.toInt := q_leI y1lo; have t2 : y1.toInt ≤ 3 := q_leI y1hi; have t3 : y1.toInt = y3.toInt := q_eqI c1; omega) (by have t1 : 1 ≤ y1.toInt := q_leI y1lo; have t2 : y1.toInt ≤ 3 := q_leI y1hi; have t3 : y1.toInt = y3.toInt := q_eqI c1; omega)); have e2 : (0 : Int32).toInt = 0 := (by decide); have e3 := q_nltI c4; omega }; have t5 : 0 ≤ (((y1.toInt - 1) + (-1)) + (-1)) := by { have e1 : ((((y1 - 1) + (-1)) + (-1)) : Int32).toInt = (((y1.toInt - 1) + (-1)) + (-1)) := (q_addI (x := ((y1.toInt - 1) + (-1))) (y := (-1)) (q_addI (x := (y1.toInt - 1)) (y := (-1)) (q_subI (x := y1.toInt) (y := 1) rfl (by decide) (by have t1 : 1 ≤ y1.toInt := q_leI y1lo; have t2 : y1.toInt ≤ 3 := q_leI y1hi; have t3 : y1.toInt = y3.toInt := q_eqI c1; omega) (by have t1 : 1 ≤ y1.toInt := q_leI y1lo; have t2 : y1.toInt ≤ 3 := q_leI y1hi; have t3 : y1.toInt = y3.toInt := q_eqI c1; omega)) (by decide) (by have t1 : 1 ≤ y1.toInt := q_leI y1lo; have t2 : y1.toInt ≤ 3 := q_leI y1hi; have t3 : y1.toInt = y3.toInt := q_eqI c1; omega) (by have t1 : 1 ≤ y1.toInt := q_leI y1lo; have t2 : y1.toInt ≤ 3 := q_leI y1hi; have t3 : y1.toInt = y3.toInt := q_eqI c1; omega)) (by decide) (by have t1 : 1 ≤ y1.toInt := q_leI y1lo; have t2 : y1.toInt ≤ 3 := q_leI y1hi; have t3 : y1.toInt = y3.toInt := q_eqI c1; omega) (by have t1 : 1 ≤ y1.toInt := q_leI y1lo; have t2 : y1.toInt ≤ 3 := q_leI y1hi; have t3 : y1.toInt = y3.toInt := q_eqI c1; omega)); have e2 : (0 : Int32).toInt = 0 := (by decide); have e3 := q_nltI c6; omega }; omega) (by have t1 : 1 ≤ y1.toInt := q_leI y1lo; have t2 : y1.toInt ≤ 3 := q_leI y1hi; have t3 : y1.toInt = y3.toInt := q_eqI c1; have t4 : 0 ≤ ((y1.toInt - 1) + (-1)) := by { have e1 : (((y1 - 1) + (-1)) : Int32).toInt = ((y1.toInt - 1) + (-1)) := (q_addI (x := (y1.toInt - 1)) (y := (-1)) (q_subI (x := y1.toInt) (y := 1) rfl (by decide) (by have t1 : 1 ≤ y1.toInt := q_leI y1lo; have t2 : y1.toInt ≤ 3 := q_leI y1hi; have t3 : y1.toInt = y3.toInt := q_eqI c1; omega) (by have t1 : 1 ≤ y1.toInt := q_leI y1lo; have t2 : y1.toInt ≤ 3 := q_leI y1hi; have t3 : y1.toInt = y3.toInt := q_eqI c1; omega)) (by decide) (by have t1 : 1 ≤ y1.toInt := q_leI y1lo; have t2 : y1.toInt ≤ 3 := q_leI y1hi; have t3 : y1.toInt = y3.toInt := q_eqI c1; omega) (by have t1 : 1 ≤ y1.toInt := q_leI y1lo; have t2 : y1.toInt ≤ 3 := q_leI y1hi; have t3 : y1.toInt = y3.toInt := q_eqI c1; omega)); have e2 : (0 : Int32).toInt = 0 := (by decide); have e3 := q_nltI c4; omega }; have t5 : 0 ≤ (((y1.toInt - 1) + (-1)) + (-1)) := by { have e1 : ((((y1 - 1) + (-1)) + (-1)) : Int32).toInt = (((y1.toInt - 1) + (-1)) + (-1)) := (q_addI (x := ((y1.toInt - 1) + (-1))) (y := (-1)) (q_addI (x := (y1.toInt - 1)) (y := (-1)) (q_subI (x := y1.toInt) (y := 1) rfl (by decide) (by have t1 : 1 ≤ y1.toInt := q_leI y1lo; have t2 : y1.toInt ≤ 3 := q_leI y1hi; have t3 : y1.toInt = y3.toInt := q_eqI c1; omega) (by have t1 : 1 ≤ y1.toInt := q_leI y1lo; have t2 : y1.toInt ≤ 3 := q_leI y1hi; have t3 : y1.toInt = y3.toInt := q_eqI c1; omega)) (by decide) (by have t1 : 1 ≤ y1.toInt := q_leI y1lo; have t2 : y1.toInt ≤ 3 := q_leI y1hi; have t3 : y1.toInt = y3.toInt := q_eqI c1; omega) (by have t1 : 1 ≤ y1.toInt := q_leI y1lo; have t2 : y1.toInt ≤ 3 := q_leI y1hi; have t3 : y1.toInt = y3.toInt := q_eqI c1; omega)) (by decide) (by have t1 : 1 ≤ y1.toInt := q_leI y1lo; have t2 : y1.toInt ≤ 3 := q_leI y1hi; have t3 : y1.toInt = y3.toInt := q_eqI c1; omega) (by have t1 : 1 ≤ y1.toInt := q_leI y1lo; have t2 : y1.toInt ≤ 3 := q_leI y1hi; have t3 : y1.toInt = y3.toInt := q_eqI c1; omega)); have e2 : (0 : Int32).toInt = 0 := (by decide); have e3 := q_nltI c6; omega }; omega)) (by decide) (by have t1 : 1 ≤ y1.toInt := q_leI y1lo; have t2 : y1.toInt ≤ 3 := q_leI y1hi; have t3 : y1.toInt = y3.toInt := q_eqI c1; have t4 : 0 ≤ ((y1.toInt - 1) + (-1)) := by { have e1 : (((y1 - 1) + (-1)) : Int32).toInt = ((y1.toInt - 1) + (-1)) := (q_addI (x := (y1.toInt - 1)) (y := (-1)) (q_subI (x := y1.toInt) (y := 1) rfl (by decide) (by have t1 : 1 ≤ y1.toInt := q_leI y1lo; have t2 : y1.toInt ≤ 3 := q_leI y1hi; have t3 : y1.toInt = y3.toInt := q_eqI c1; omega) (by have t1 : 1 ≤ y1.toInt := q_leI y1lo; have t2 : y1.toInt ≤ 3 := q_leI y1hi; have t3 : y1.toInt = y3.toInt := q_eqI c1; omega)) (by decide) (by have t1 : 1 ≤ y1.toInt := q_leI y1lo; have t2 : y1.toInt ≤ 3 := q_leI y1hi; have t3 : y1.toInt = y3.toInt := q_eqI c1; omega) (by have t1 : 1 ≤ y1.toInt := q_leI y1lo; have t2 : y1.toInt ≤ 3 := q_leI y1hi; have t3 : y1.toInt = y3.toInt := q_eqI c1; omega)); have e2 : (0 : Int32).toInt = 0 := (by decide); have e3 := q_nltI c4; omega }; have t5 : 0 ≤ (((y1.toInt - 1) + (-1)) + (-1)) := by { have e1 : ((((y1 - 1) + (-1)) + (-1)) : Int32).toInt = (((y1.toInt - 1) + (-1)) + (-1)) := (q_addI (x := ((y1.toInt - 1) + (-1))) (y := (-1)) (q_addI (x := (y1.toInt - 1)) (y := (-1)) (q_subI (x := y1.toInt) (y := 1) rfl (by decide) (by have t1 : 1 ≤ y1.toInt := q_leI y1lo; have t2 : y1.toInt ≤ 3 := q_leI y1hi; have t3 : y1.toInt = y3.toInt := q_eqI c1; omega) (by have t1 : 1 ≤ y1.toInt := q_leI y1lo; have t2 : y1.toInt ≤ 3 := q_leI y1hi; have t3 : y1.toInt = y3.toInt := q_eqI c1; omega)) (by decide) (by have t1 : 1 ≤ y1.toInt := q_leI y1lo; have t2 : y1.toInt ≤ 3 := q_leI y1hi; have t3 : y1.toInt = y3.toInt := q_eqI c1; omega) (by have t1 : 1 ≤ y1.toInt := q_leI y1lo; have t2 : y1.toInt ≤ 3 := q_leI y1hi; have t3 : y1.toInt = y3.toInt := q_eqI c1; omega)) (by decide) (by have t1 : 1 ≤ y1.toInt := q_leI y1lo; have t2 : y1.toInt ≤ 3 := q_leI y1hi; have t3 : y1.toInt = y3.toInt := q_eqI c1; omega) (by have t1 : 1 ≤ y1.toInt := q_leI y1lo; have t2 : y1.toInt ≤ 3 := q_leI y1hi; have t3 : y1.toInt = y3.toInt := q_eqI c1; omega)); have e2 : (0 : Int32).toInt = 0 := (by decide); have e3 := q_nltI c6; omega }; omega) (by have t1 : 1 ≤ y1.toInt := q_leI y1lo; have t2 : y1.toInt ≤ 3 := q_leI y1hi; have t3 : y1.toInt = y3.toInt := q_eqI c1; have t4 : 0 ≤ ((y1.toInt - 1) + (-1)) := by { have e1 : (((y1 - 1) + (-1)) : Int32).toInt = ((y1.toInt - 1) + (-1)) := (q_addI (x := (y1.toInt - 1)) (y := (-1)) (q_subI (x := y1.toInt) (y := 1) rfl (by decide) (by have t1 : 1 ≤ y1.toInt := q_leI y1lo; have t2 : y1.toInt ≤ 3 := q_leI y1hi; have t3 : y1.toInt = y3.toInt := q_eqI c1; omega) (by have t1 : 1 ≤ y1.toInt := q_leI y1lo; have t2 : y1.toInt ≤ 3 := q_leI y1hi; have t3 : y1.toInt = y3.toInt := q_eqI c1; omega)) (by decide) (by have t1 : 1 ≤ y1.toInt := q_leI y1lo; have t2 : y1.toInt ≤ 3 := q_leI y1hi; have t3 : y1.toInt = y3.toInt := q_eqI c1; omega) (by have t1 : 1 ≤ y1.toInt := q_leI y1lo; have t2 : y1.toInt ≤ 3 := q_leI y1hi; have t3 : y1.toInt = y3.toInt := q_eqI c1; omega)); have e2 : (0 : Int32).toInt = 0 := (by decide); have e3 := q_nltI c4; omega }; have t5 : 0 ≤ (((y1.toInt - 1) + (-1)) + (-1)) := by { have e1 : ((((y1 - 1) + (-1)) + (-1)) : Int32).toInt = (((y1.toInt - 1) + (-1)) + (-1)) := (q_addI (x := ((y1.toInt - 1) + (-1))) (y := (-1)) (q_addI (x := (y1.toInt - 1)) (y := (-1)) (q_subI (x := y1.toInt) (y := 1) rfl (by decide) (by have t1 : 1 ≤ y1.toInt := q_leI y1lo; have t2 : y1.toInt ≤ 3 := q_leI y1hi; have t3 : y1.toInt = y3.toInt := q_eqI c1; omega) (by have t1 : 1 ≤ y1.toInt := q_leI y1lo; have t2 : y1.toInt ≤ 3 := q_leI y1hi; have t3 : y1.toInt = y3.toInt := q_eqI c1; omega)) (by decide) (by have t1 : 1 ≤ y1.toInt := q_leI y1lo; have t2 : y1.toInt ≤ 3 := q_leI y1hi; have t3 : y1.toInt = y3.toInt := q_eqI c1; omega) (by have t1 : 1 ≤ y1.toInt := q_leI y1lo; have t2 : y1.toInt ≤ 3 := q_leI y1hi; have t3 : y1.toInt = y3.toInt := q_eqI c1; omega)) (by decide) (by have t1 : 1 ≤ y1.toInt := q_leI y1lo; have t2 : y1.toInt ≤ 3 := q_leI y1hi; have t3 : y1.toInt = y3.toInt := q_eqI c1; omega) (by have t1 : 1 ≤ y1.toInt := q_leI y1lo; have t2 : y1.toInt ≤ 3 := q_leI y1hi; have t3 : y1.toInt = y3.toInt := q_eqI c1; omega)); have e2 : (0 : Int32).toInt = 0 := (by decide); have e3 := q_nltI c6; omega }; omega)) (by decide) (by have t1 : 1 ≤ y1.toInt := q_leI y1lo; have t2 : y1.toInt ≤ 3 := q_leI y1hi; have t3 : y1.toInt = y3.toInt := q_eqI c1; have t4 : 0 ≤ ((y1.toInt - 1) + (-1)) := by { have e1 : (((y1 - 1) + (-1)) : Int32).toInt = ((y1.toInt - 1) + (-1)) := (q_addI (x := (y1.toInt - 1)) (y := (-1)) (q_subI (x := y1.toInt) (y := 1) rfl (by decide) (by have t1 : 1 ≤ y1.toInt := q_leI y1lo; have t2 : y1.toInt ≤ 3 := q_leI y1hi; have t3 : y1.toInt = y3.toInt := q_eqI c1; omega) (by have t1 : 1 ≤ y1.toInt := q_leI y1lo; have t2 : y1.toInt ≤ 3 := q_leI y1hi; have t3 : y1.toInt = y3.toInt := q_eqI c1; omega)) (by decide) (by have t1 : 1 ≤ y1.toInt := q_leI y1lo; have t2 : y1.toInt ≤ 3 := q_leI y1hi; have t3 : y1.toInt = y3.toInt := q_eqI c1; omega) (by have t1 : 1 ≤ y1.toInt := q_leI y1lo; have t2 : y1.toInt ≤ 3 := q_leI y1hi; have t3 : y1.toInt = y3.toInt := q_eqI c1; omega)); have e2 : (0 : Int32).toInt = 0 := (by decide); have e3 := q_nltI c4; omega }; have t5 : 0 ≤ (((y1.toInt - 1) + (-1)) + (-1)) := by { have e1 : ((((y1 - 1) + (-1)) + (-1)) : Int32).toInt = (((y1.toInt - 1) + (-1)) + (-1)) := (q_addI (x := ((y1.toInt - 1) + (-1))) (y := (-1)) (q_addI (x := (y1.toInt - 1)) (y := (-1)) (q_subI (x := y1.toInt) (y := 1) rfl (by decide) (by have t1 : 1 ≤ y1.toInt := q_leI y1lo; have t2 : y1.toInt ≤ 3 := q_leI y1hi; have t3 : y1.toInt = y3.toInt := q_eqI c1; omega) (by have t1 : 1 ≤ y1.toInt := q_leI y1lo; have t2 : y1.toInt ≤ 3 := q_leI y1hi; have t3 : y1.toInt = y3.toInt := q_eqI c1; omega)) (by decide) (by have t1 : 1 ≤ y1.toInt := q_leI y1lo; have t2 : y1.toInt ≤ 3 := q_leI y1hi; have t3 : y1.toInt = y3.toInt := q_eqI c1; omega) (by have t1 : 1 ≤ y1.toInt := q_leI y1lo; have t2 : y1.toInt ≤ 3 := q_leI y1hi; have t3 : y1.toInt = y3.toInt := q_eqI c1; omega)) (by decide) (by have t1 : 1 ≤ y1.toInt := q_leI y1lo; have t2 : y1.toInt ≤ 3 := q_leI y1hi; have t3 : y1.toInt = y3.toInt := q_eqI c1; omega) (by have t1 : 1 ≤ y1.toInt := q_leI y1lo; have t2 : y1.toInt ≤ 3 := q_leI y1hi; have t3 : y1.toInt = y3.toInt := q_eqI c1; omega)); have e2 : (0 : Int32).toInt = 0 := (by decide); have e3 := q_nltI c6; omega }; omega) (by have t1 : 1 ≤ y1.toInt := q_leI y1lo; have t2 : y1.toInt ≤ 3 := q_leI y1hi; have t3 : y1.toInt = y3.toInt := q_eqI c1; have t4 : 0 ≤ ((y1.toInt - 1) + (-1)) := by { have e1 : (((y1 - 1) + (-1)) : Int32).toInt = ((y1.toInt - 1) + (-1)) := (q_addI (x := (y1.toInt - 1)) (y := (-1)) (q_subI (x := y1.toInt) (y := 1) rfl (by decide) (by have t1 : 1 ≤ y1.toInt := q_leI y1lo; have t2 : y1.toInt ≤ 3 := q_leI y1hi; have t3 : y1.toInt = y3.toInt := q_eqI c1; omega) (by have t1 : 1 ≤ y1.toInt := q_leI y1lo; have t2 : y1.toInt ≤ 3 := q_leI y1hi; have t3 : y1.toInt = y3.toInt := q_eqI c1; omega)) (by decide) (by have t1 : 1 ≤ y1.toInt := q_leI y1lo; have t2 : y1.toInt ≤ 3 := q_leI y1hi; have t3 : y1.toInt = y3.toInt := q_eqI c1; omega) (by have t1 : 1 ≤ y1.toInt := q_leI y1lo; have t2 : y1.toInt ≤ 3 := q_leI y1hi; have t3 : y1.toInt = y3.toInt := q_eqI c1; omega)); have e2 : (0 : Int32).toInt = 0 := (by decide); have e3 := q_nltI c4; omega }; have t5 : 0 ≤ (((y1.toInt - 1) + (-1)) + (-1)) := by { have e1 : ((((y1 - 1) + (-1)) + (-1)) : Int32).toInt = (((y1.toInt - 1) + (-1)) + (-1)) := (q_addI (x := ((y1.toInt - 1) + (-1))) (y := (-1)) (q_addI (x := (y1.toInt - 1)) (y := (-1)) (q_subI (x := y1.toInt) (y := 1) rfl (by decide) (by have t1 : 1 ≤ y1.toInt := q_leI y1lo; have t2 : y1.toInt ≤ 3 := q_leI y1hi; have t3 : y1.toInt = y3.toInt := q_eqI c1; omega) (by have t1 : 1 ≤ y1.toInt := q_leI y1lo; have t2 : y1.toInt ≤ 3 := q_leI y1hi; have t3 : y1.toInt = y3.toInt := q_eqI c1; omega)) (by decide) (by have t1 : 1 ≤ y1.toInt := q_leI y1lo; have t2 : y1.toInt ≤ 3 := q_leI y1hi; have t3 : y1.toInt = y3.toInt := q_eqI c1; omega) (by have t1 : 1 ≤ y1.toInt := q_leI y1lo; have t2 : y1.toInt ≤ 3 := q_leI y1hi; have t3 : y1.toInt = y3.toInt := q_eqI c1; omega)) (by decide) (by have t1 : 1 ≤ y1.toInt := q_leI y1lo; have t2 : y1.toInt ≤ 3 := q_leI y1hi; have t3 : y1.toInt = y3.toInt := q_eqI c1; omega) (by have t1 : 1 ≤ y1.toInt := q_leI y1lo; have t2 : y1.toInt ≤ 3 := q_leI y1hi; have t3 : y1.toInt = y3.toInt := q_eqI c1; omega)); have e2 : (0 : Int32).toInt = 0 := (by decide); have e3 := q_nltI c6; omega }; omega)) (by decide) (by have t1 : 1 ≤ y1.toInt := q_leI y1lo; have t2 : y1.toInt ≤ 3 := q_leI y1hi; have t3 : y1.toInt = y3.toInt := q_eqI c1; have t4 : 0 ≤ ((y1.toInt - 1) + (-1)) := by { have e1 : (((y1 - 1) + (-1)) : Int32).toInt = ((y1.toInt - 1) + (-1)) := (q_addI (x := (y1.toInt - 1)) (y := (-1)) (q_subI (x := y1.toInt) (y := 1) rfl (by decide) (by have t1 : 1 ≤ y1.toInt := q_leI y1lo; have t2 : y1.toInt ≤ 3 := q_leI y1hi; have t3 : y1.toInt = y3.toInt := q_eqI c1; omega) (by have t1 : 1 ≤ y1.toInt := q_leI y1lo; have t2 : y1.toInt ≤ 3 := q_leI y1hi; have t3 : y1.toInt = y3.toInt := q_eqI c1; omega)) (by decide) (by have t1 : 1 ≤ y1.toInt := q_leI y1lo; have t2 : y1.toInt ≤ 3 := q_leI y1hi; have t3 : y1.toInt = y3.toInt := q_eqI c1; omega) (by have t1 : 1 ≤ y1.toInt := q_leI y1lo; have t2 : y1.toInt ≤ 3 := q_leI y1hi; have t3 : y1.toInt = y3.toInt := q_eqI c1; omega)); have e2 : (0 : Int32).toInt = 0 := (by decide); have e3 := q_nltI c4; omega }; have t5 : 0 ≤ (((y1.toInt - 1) + (-1)) + (-1)) := by { have e1 : ((((y1 - 1) + (-1)) + (-1)) : Int32).toInt = (((y1.toInt - 1) + (-1)) + (-1)) := (q_addI (x := ((y1.toInt - 1) + (-1))) (y := (-1)) (q_addI (x := (y1.toInt - 1)) (y := (-1)) (q_subI (x := y1.toInt) (y := 1) rfl (by decide) (by have t1 : 1 ≤ y1.toInt := q_leI y1lo; have t2 : y1.toInt ≤ 3 := q_leI y1hi; have t3 : y1.toInt = y3.toInt := q_eqI c1; omega) (by have t1 : 1 ≤ y1.toInt := q_leI y1lo; have t2 : y1.toInt ≤ 3 := q_leI y1hi; have t3 : y1.toInt = y3.toInt := q_eqI c1; omega)) (by decide) (by have t1 : 1 ≤ y1.toInt := q_leI y1lo; have t2 : y1.toInt ≤ 3 := q_leI y1hi; have t3 : y1.toInt = y3.toInt := q_eqI c1; omega) (by have t1 : 1 ≤ y1.toInt := q_leI y1lo; have t2 : y1.toInt ≤ 3 := q_leI y1hi; have t3 : y1.toInt = y3.toInt := q_eqI c1; omega)) (by decide) (by have t1 : 1 ≤ y1.toInt := q_leI y1lo; have t2 : y1.toInt ≤ 3 := q_leI y1hi; have t3 : y1.toInt = y3.toInt := q_eqI c1; omega) (by have t1 : 1 ≤ y1.toInt := q_leI y1lo; have t2 : y1.toInt ≤ 3 := q_leI y1hi; have t3 : y1.toInt = y3.toInt := q_eqI c1; omega)); have e2 : (0 : Int32).toInt = 0 := (by decide); have e3 := q_nltI c6; omega }; omega)) ?_
            refine q_iald C0 V hA2 (by unfold vp_in; decide) d_2_21_39 ?_
            refine lv_aload_n hx hb d_2_21_40 rfl (lv_at hl 2 rfl) ?_
            refine q_get (ci := 2) (j := 0) (v := .ref qA3) C0 V i_Big rfl rfl hO1 (by decide) w_84 rfl d_2_21_41 ?_
            refine lv_iload_n hx hb d_2_21_44 rfl (lv_at hl 0 rfl) ?_
            refine q_ti (v := 0) (q_Ieq (x := (((y1.toInt - 1) + (-1)) + (-1))) (y := 0) (q_addI (x := ((y1.toInt - 1) + (-1))) (y := (-1)) (q_addI (x := (y1.toInt - 1)) (y := (-1)) (q_subI (x := y1.toInt) (y := 1) rfl (by decide) (by have t1 : 1 ≤ y1.toInt := q_leI y1lo; have t2 : y1.toInt ≤ 3 := q_leI y1hi; have t3 : y1.toInt = y3.toInt := q_eqI c1; have t4 : 0 ≤ ((y1.toInt - 1) + (-1)) := by { have e1 : (((y1 - 1) + (-1)) : Int32).toInt = ((y1.toInt - 1) + (-1)) := (q_addI (x := (y1.toInt - 1)) (y := (-1)) (q_subI (x := y1.toInt) (y := 1) rfl (by decide) (by have t1 : 1 ≤ y1.toInt := q_leI y1lo; have t2 : y1.toInt ≤ 3 := q_leI y1hi; have t3 : y1.toInt = y3.toInt := q_eqI c1; omega) (by have t1 : 1 ≤ y1.toInt := q_leI y1lo; have t2 : y1.toInt ≤ 3 := q_leI y1hi; have t3 : y1.toInt = y3.toInt := q_eqI c1; omega)) (by decide) (by have t1 : 1 ≤ y1.toInt := q_leI y1lo; have t2 : y1.toInt ≤ 3 := q_leI y1hi; have t3 : y1.toInt = y3.toInt := q_eqI c1; omega) (by have t1 : 1 ≤ y1.toInt := q_leI y1lo; have t2 : y1.toInt ≤ 3 := q_leI y1hi; have t3 : y1.toInt = y3.toInt := q_eqI c1; omega)); have e2 : (0 : Int32).toInt = 0 := (by decide); have e3 := q_nltI c4; omega }; have t5 : 0 ≤ (((y1.toInt - 1) + (-1)) + (-1)) := by { have e1 : ((((y1 - 1) + (-1)) + (-1)) : Int32).toInt = (((y1.toInt - 1) + (-1)) + (-1)) := (q_addI (x := ((y1.toInt - 1) + (-1))) (y := (-1)) (q_addI (x := (y1.toInt - 1)) (y := (-1)) (q_subI (x := y1.toInt) (y := 1) rfl (by decide) (by have t1 : 1 ≤ y1.toInt := q_leI y1lo; have t2 : y1.toInt ≤ 3 := q_leI y1hi; have t3 : y1.toInt = y3.toInt := q_eqI c1; omega) (by have t1 : 1 ≤ y1.toInt := q_leI y1lo; have t2 : y1.toInt ≤ 3 := q_leI y1hi; have t3 : y1.toInt = y3.toInt := q_eqI c1; omega)) (by decide) (by have t1 : 1 ≤ y1.toInt := q_leI y1lo; have t2 : y1.toInt ≤ 3 := q_leI y1hi; have t3 : y1.toInt = y3.toInt := q_eqI c1; omega) (by have t1 : 1 ≤ y1.toInt := q_leI y1lo; have t2 : y1.toInt ≤ 3 := q_leI y1hi; have t3 : y1.toInt = y3.toInt := q_eqI c1; omega)) (by decide) (by have t1 : 1 ≤ y1.toInt := q_leI y1lo; have t2 : y1.toInt ≤ 3 := q_leI y1hi; have t3 : y1.toInt = y3.toInt := q_eqI c1; omega) (by have t1 : 1 ≤ y1.toInt := q_leI y1lo; have t2 : y1.toInt ≤ 3 := q_leI y1hi; have t3 : y1.toInt = y3.toInt := q_eqI c1; omega)); have e2 : (0 : Int32).toInt = 0 := (by decide); have e3 := q_nltI c6; omega }; omega) (by have t1 : 1 ≤ y1.toInt := q_leI y1lo; have t2 : y1.toInt ≤ 3 := q_leI y1hi; have t3 : y1.toInt = y3.toInt := q_eqI c1; have t4 : 0 ≤ ((y1.toInt - 1) + (-1)) := by { have e1 : (((y1 - 1) + (-1)) : Int32).toInt = ((y1.toInt - 1) + (-1)) := (q_addI (x := (y1.toInt - 1)) (y := (-1)) (q_subI (x := y1.toInt) (y := 1) rfl (by decide) (by have t1 : 1 ≤ y1.toInt := q_leI y1lo; have t2 : y1.toInt ≤ 3 := q_leI y1hi; have t3 : y1.toInt = y3.toInt := q_eqI c1; omega) (by have t1 : 1 ≤ y1.toInt := q_leI y1lo; have t2 : y1.toInt ≤ 3 := q_leI y1hi; have t3 : y1.toInt = y3.toInt := q_eqI c1; omega)) (by decide) (by have t1 : 1 ≤ y1.toInt := q_leI y1lo; have t2 : y1.toInt ≤ 3 := q_leI y1hi; have t3 : y1.toInt = y3.toInt := q_eqI c1; omega) (by have t1 : 1 ≤ y1.toInt := q_leI y1lo; have t2 : y1.toInt ≤ 3 := q_leI y1hi; have t3 : y1.toInt = y3.toInt := q_eqI c1; omega)); have e2 : (0 : Int32).toInt = 0 := (by decide); have e3 := q_nltI c4; omega }; have t5 : 0 ≤ (((y1.toInt - 1) + (-1)) + (-1)) := by { have e1 : ((((y1 - 1) + (-1)) + (-1)) : Int32).toInt = (((y1.toInt - 1) + (-1)) + (-1)) := (q_addI (x := ((y1.toInt - 1) + (-1))) (y := (-1)) (q_addI (x := (y1.toInt - 1)) (y := (-1)) (q_subI (x := y1.toInt) (y := 1) rfl (by decide) (by have t1 : 1 ≤ y1.toInt := q_leI y1lo; have t2 : y1.toInt ≤ 3 := q_leI y1hi; have t3 : y1.toInt = y3.toInt := q_eqI c1; omega) (by have t1 : 1 ≤ y1.toInt := q_leI y1lo; have t2 : y1.toInt ≤ 3 := q_leI y1hi; have t3 : y1.toInt = y3.toInt := q_eqI c1; omega)) (by decide) (by have t1 : 1 ≤ y1.toInt := q_leI y1lo; have t2 : y1.toInt ≤ 3 := q_leI y1hi; have t3 : y1.toInt = y3.toInt := q_eqI c1; omega) (by have t1 : 1 ≤ y1.toInt := q_leI y1lo; have t2 : y1.toInt ≤ 3 := q_leI y1hi; have t3 : y1.toInt = y3.toInt := q_eqI c1; omega)) (by decide) (by have t1 : 1 ≤ y1.toInt := q_leI y1lo; have t2 : y1.toInt ≤ 3 := q_leI y1hi; have t3 : y1.toInt = y3.toInt := q_eqI c1; omega) (by have t1 : 1 ≤ y1.toInt := q_leI y1lo; have t2 : y1.toInt ≤ 3 := q_leI y1hi; have t3 : y1.toInt = y3.toInt := q_eqI c1; omega)); have e2 : (0 : Int32).toInt = 0 := (by decide); have e3 := q_nltI c6; omega }; omega)) (by decide) (by have t1 : 1 ≤ y1.toInt := q_leI y1lo; have t2 : y1.toInt ≤ 3 := q_leI y1hi; have t3 : y1.toInt = y3.toInt := q_eqI c1; have t4 : 0 ≤ ((y1.toInt - 1) + (-1)) := by { have e1 : (((y1 - 1) + (-1)) : Int32).toInt = ((y1.toInt - 1) + (-1)) := (q_addI (x := (y1.toInt - 1)) (y := (-1)) (q_subI (x := y1.toInt) (y := 1) rfl (by decide) (by have t1 : 1 ≤ y1.toInt := q_leI y1lo; have t2 : y1.toInt ≤ 3 := q_leI y1hi; have t3 : y1.toInt = y3.toInt := q_eqI c1; omega) (by have t1 : 1 ≤ y1.toInt := q_leI y1lo; have t2 : y1.toInt ≤ 3 := q_leI y1hi; have t3 : y1.toInt = y3.toInt := q_eqI c1; omega)) (by decide) (by have t1 : 1 ≤ y1.toInt := q_leI y1lo; have t2 : y1.toInt ≤ 3 := q_leI y1hi; have t3 : y1.toInt = y3.toInt := q_eqI c1; omega) (by have t1 : 1 ≤ y1.toInt := q_leI y1lo; have t2 : y1.toInt ≤ 3 := q_leI y1hi; have t3 : y1.toInt = y3.toInt := q_eqI c1; omega)); have e2 : (0 : Int32).toInt = 0 := (by decide); have e3 := q_nltI c4; omega }; have t5 : 0 ≤ (((y1.toInt - 1) + (-1)) + (-1)) := by { have e1 : ((((y1 - 1) + (-1)) + (-1)) : Int32).toInt = (((y1.toInt - 1) + (-1)) + (-1)) := (q_addI (x := ((y1.toInt - 1) + (-1))) (y := (-1)) (q_addI (x := (y1.toInt - 1)) (y := (-1)) (q_subI (x := y1.toInt) (y := 1) rfl (by decide) (by have t1 : 1 ≤ y1.toInt := q_leI y1lo; have t2 : y1.toInt ≤ 3 := q_leI y1hi; have t3 : y1.toInt = y3.toInt := q_eqI c1; omega) (by have t1 : 1 ≤ y1.toInt := q_leI y1lo; have t2 : y1.toInt ≤ 3 := q_leI y1hi; have t3 : y1.toInt = y3.toInt := q_eqI c1; omega)) (by decide) (by have t1 : 1 ≤ y1.toInt := q_leI y1lo; have t2 : y1.toInt ≤ 3 := q_leI y1hi; have t3 : y1.toInt = y3.toInt := q_eqI c1; omega) (by have t1 : 1 ≤ y1.toInt := q_leI y1lo; have t2 : y1.toInt ≤ 3 := q_leI y1hi; have t3 : y1.toInt = y3.toInt := q_eqI c1; omega)) (by decide) (by have t1 : 1 ≤ y1.toInt := q_leI y1lo; have t2 : y1.toInt ≤ 3 := q_leI y1hi; have t3 : y1.toInt = y3.toInt := q_eqI c1; omega) (by have t1 : 1 ≤ y1.toInt := q_leI y1lo; have t2 : y1.toInt ≤ 3 := q_leI y1hi; have t3 : y1.toInt = y3.toInt := q_eqI c1; omega)); have e2 : (0 : Int32).toInt = 0 := (by decide); have e3 := q_nltI c6; omega }; omega) (by have t1 : 1 ≤ y1.toInt := q_leI y1lo; have t2 : y1.toInt ≤ 3 := q_leI y1hi; have t3 : y1.toInt = y3.toInt := q_eqI c1; have t4 : 0 ≤ ((y1.toInt - 1) + (-1)) := by { have e1 : (((y1 - 1) + (-1)) : Int32).toInt = ((y1.toInt - 1) + (-1)) := (q_addI (x := (y1.toInt - 1)) (y := (-1)) (q_subI (x := y1.toInt) (y := 1) rfl (by decide) (by have t1 : 1 ≤ y1.toInt := q_leI y1lo; have t2 : y1.toInt ≤ 3 := q_leI y1hi; have t3 : y1.toInt = y3.toInt := q_eqI c1; omega) (by have t1 : 1 ≤ y1.toInt := q_leI y1lo; have t2 : y1.toInt ≤ 3 := q_leI y1hi; have t3 : y1.toInt = y3.toInt := q_eqI c1; omega)) (by decide) (by have t1 : 1 ≤ y1.toInt := q_leI y1lo; have t2 : y1.toInt ≤ 3 := q_leI y1hi; have t3 : y1.toInt = y3.toInt := q_eqI c1; omega) (by have t1 : 1 ≤ y1.toInt := q_leI y1lo; have t2 : y1.toInt ≤ 3 := q_leI y1hi; have t3 : y1.toInt = y3.toInt := q_eqI c1; omega)); have e2 : (0 : Int32).toInt = 0 := (by decide); have e3 := q_nltI c4; omega }; have t5 : 0 ≤ (((y1.toInt - 1) + (-1)) + (-1)) := by { have e1 : ((((y1 - 1) + (-1)) + (-1)) : Int32).toInt = (((y1.toInt - 1) + (-1)) + (-1)) := (q_addI (x := ((y1.toInt - 1) + (-1))) (y := (-1)) (q_addI (x := (y1.toInt - 1)) (y := (-1)) (q_subI (x := y1.toInt) (y := 1) rfl (by decide) (by have t1 : 1 ≤ y1.toInt := q_leI y1lo; have t2 : y1.toInt ≤ 3 := q_leI y1hi; have t3 : y1.toInt = y3.toInt := q_eqI c1; omega) (by have t1 : 1 ≤ y1.toInt := q_leI y1lo; have t2 : y1.toInt ≤ 3 := q_leI y1hi; have t3 : y1.toInt = y3.toInt := q_eqI c1; omega)) (by decide) (by have t1 : 1 ≤ y1.toInt := q_leI y1lo; have t2 : y1.toInt ≤ 3 := q_leI y1hi; have t3 : y1.toInt = y3.toInt := q_eqI c1; omega) (by have t1 : 1 ≤ y1.toInt := q_leI y1lo; have t2 : y1.toInt ≤ 3 := q_leI y1hi; have t3 : y1.toInt = y3.toInt := q_eqI c1; omega)) (by decide) (by have t1 : 1 ≤ y1.toInt := q_leI y1lo; have t2 : y1.toInt ≤ 3 := q_leI y1hi; have t3 : y1.toInt = y3.toInt := q_eqI c1; omega) (by have t1 : 1 ≤ y1.toInt := q_leI y1lo; have t2 : y1.toInt ≤ 3 := q_leI y1hi; have t3 : y1.toInt = y3.toInt := q_eqI c1; omega)); have e2 : (0 : Int32).toInt = 0 := (by decide); have e3 := q_nltI c6; omega }; omega)) (by decide) (by have t1 : 1 ≤ y1.toInt := q_leI y1lo; have t2 : y1.toInt ≤ 3 := q_leI y1hi; have t3 : y1.toInt = y3.toInt := q_eqI c1; have t4 : 0 ≤ ((y1.toInt - 1) + (-1)) := by { have e1 : (((y1 - 1) + (-1)) : Int32).toInt = ((y1.toInt - 1) + (-1)) := (q_addI (x := (y1.toInt - 1)) (y := (-1)) (q_subI (x := y1.toInt) (y := 1) rfl (by decide) (by have t1 : 1 ≤ y1.toInt := q_leI y1lo; have t2 : y1.toInt ≤ 3 := q_leI y1hi; have t3 : y1.toInt = y3.toInt := q_eqI c1; omega) (by have t1 : 1 ≤ y1.toInt := q_leI y1lo; have t2 : y1.toInt ≤ 3 := q_leI y1hi; have t3 : y1.toInt = y3.toInt := q_eqI c1; omega)) (by decide) (by have t1 : 1 ≤ y1.toInt := q_leI y1lo; have t2 : y1.toInt ≤ 3 := q_leI y1hi; have t3 : y1.toInt = y3.toInt := q_eqI c1; omega) (by have t1 : 1 ≤ y1.toInt := q_leI y1lo; have t2 : y1.toInt ≤ 3 := q_leI y1hi; have t3 : y1.toInt = y3.toInt := q_eqI c1; omega)); have e2 : (0 : Int32).toInt = 0 := (by decide); have e3 := q_nltI c4; omega }; have t5 : 0 ≤ (((y1.toInt - 1) + (-1)) + (-1)) := by { have e1 : ((((y1 - 1) + (-1)) + (-1)) : Int32).toInt = (((y1.toInt - 1) + (-1)) + (-1)) := (q_addI (x := ((y1.toInt - 1) + (-1))) (y := (-1)) (q_addI (x := (y1.toInt - 1)) (y := (-1)) (q_subI (x := y1.toInt) (y := 1) rfl (by decide) (by have t1 : 1 ≤ y1.toInt := q_leI y1lo; have t2 : y1.toInt ≤ 3 := q_leI y1hi; have t3 : y1.toInt = y3.toInt := q_eqI c1; omega) (by have t1 : 1 ≤ y1.toInt := q_leI y1lo; have t2 : y1.toInt ≤ 3 := q_leI y1hi; have t3 : y1.toInt = y3.toInt := q_eqI c1; omega)) (by decide) (by have t1 : 1 ≤ y1.toInt := q_leI y1lo; have t2 : y1.toInt ≤ 3 := q_leI y1hi; have t3 : y1.toInt = y3.toInt := q_eqI c1; omega) (by have t1 : 1 ≤ y1.toInt := q_leI y1lo; have t2 : y1.toInt ≤ 3 := q_leI y1hi; have t3 : y1.toInt = y3.toInt := q_eqI c1; omega)) (by decide) (by have t1 : 1 ≤ y1.toInt := q_leI y1lo; have t2 : y1.toInt ≤ 3 := q_leI y1hi; have t3 : y1.toInt = y3.toInt := q_eqI c1; omega) (by have t1 : 1 ≤ y1.toInt := q_leI y1lo; have t2 : y1.toInt ≤ 3 := q_leI y1hi; have t3 : y1.toInt = y3.toInt := q_eqI c1; omega)); have e2 : (0 : Int32).toInt = 0 := (by decide); have e3 := q_nltI c6; omega }; omega) (by have t1 : 1 ≤ y1.toInt := q_leI y1lo; have t2 : y1.toInt ≤ 3 := q_leI y1hi; have t3 : y1.toInt = y3.toInt := q_eqI c1; have t4 : 0 ≤ ((y1.toInt - 1) + (-1)) := by { have e1 : (((y1 - 1) + (-1)) : Int32).toInt = ((y1.toInt - 1) + (-1)) := (q_addI (x := (y1.toInt - 1)) (y := (-1)) (q_subI (x := y1.toInt) (y := 1) rfl (by decide) (by have t1 : 1 ≤ y1.toInt := q_leI y1lo; have t2 : y1.toInt ≤ 3 := q_leI y1hi; have t3 : y1.toInt = y3.toInt := q_eqI c1; omega) (by have t1 : 1 ≤ y1.toInt := q_leI y1lo; have t2 : y1.toInt ≤ 3 := q_leI y1hi; have t3 : y1.toInt = y3.toInt := q_eqI c1; omega)) (by decide) (by have t1 : 1 ≤ y1.toInt := q_leI y1lo; have t2 : y1.toInt ≤ 3 := q_leI y1hi; have t3 : y1.toInt = y3.toInt := q_eqI c1; omega) (by have t1 : 1 ≤ y1.toInt := q_leI y1lo; have t2 : y1.toInt ≤ 3 := q_leI y1hi; have t3 : y1.toInt = y3.toInt := q_eqI c1; omega)); have e2 : (0 : Int32).toInt = 0 := (by decide); have e3 := q_nltI c4; omega }; have t5 : 0 ≤ (((y1.toInt - 1) + (-1)) + (-1)) := by { have e1 : ((((y1 - 1) + (-1)) + (-1)) : Int32).toInt = (((y1.toInt - 1) + (-1)) + (-1)) := (q_addI (x := ((y1.toInt - 1) + (-1))) (y := (-1)) (q_addI (x := (y1.toInt - 1)) (y := (-1)) (q_subI (x := y1.toInt) (y := 1) rfl (by decide) (by have t1 : 1 ≤ y1.toInt := q_leI y1lo; have t2 : y1.toInt ≤ 3 := q_leI y1hi; have t3 : y1.toInt = y3.toInt := q_eqI c1; omega) (by have t1 : 1 ≤ y1.toInt := q_leI y1lo; have t2 : y1.toInt ≤ 3 := q_leI y1hi; have t3 : y1.toInt = y3.toInt := q_eqI c1; omega)) (by decide) (by have t1 : 1 ≤ y1.toInt := q_leI y1lo; have t2 : y1.toInt ≤ 3 := q_leI y1hi; have t3 : y1.toInt = y3.toInt := q_eqI c1; omega) (by have t1 : 1 ≤ y1.toInt := q_leI y1lo; have t2 : y1.toInt ≤ 3 := q_leI y1hi; have t3 : y1.toInt = y3.toInt := q_eqI c1; omega)) (by decide) (by have t1 : 1 ≤ y1.toInt := q_leI y1lo; have t2 : y1.toInt ≤ 3 := q_leI y1hi; have t3 : y1.toInt = y3.toInt := q_eqI c1; omega) (by have t1 : 1 ≤ y1.toInt := q_leI y1lo; have t2 : y1.toInt ≤ 3 := q_leI y1hi; have t3 : y1.toInt = y3.toInt := q_eqI c1; omega)); have e2 : (0 : Int32).toInt = 0 := (by decide); have e3 := q_nltI c6; omega }; omega)) (by decide) (by have t1 : 1 ≤ y1.toInt := q_leI y1lo; have t2 : y1.toInt ≤ 3 := q_leI y1hi; have t3 : y1.toInt = y3.toInt := q_eqI c1; have t4 : 0 ≤ ((y1.toInt - 1) + (-1)) := by { have e1 : (((y1 - 1) + (-1)) : Int32).toInt = ((y1.toInt - 1) + (-1)) := (q_addI (x := (y1.toInt - 1)) (y := (-1)) (q_subI (x := y1.toInt) (y := 1) rfl (by decide) (by have t1 : 1 ≤ y1.toInt := q_leI y1lo; have t2 : y1.toInt ≤ 3 := q_leI y1hi; have t3 : y1.toInt = y3.toInt := q_eqI c1; omega) (by have t1 : 1 ≤ y1.toInt := q_leI y1lo; have t2 : y1.toInt ≤ 3 := q_leI y1hi; have t3 : y1.toInt = y3.toInt := q_eqI c1; omega)) (by decide) (by have t1 : 1 ≤ y1.toInt := q_leI y1lo; have t2 : y1.toInt ≤ 3 := q_leI y1hi; have t3 : y1.toInt = y3.toInt := q_eqI c1; omega) (by have t1 : 1 ≤ y1.toInt := q_leI y1lo; have t2 : y1.toInt ≤ 3 := q_leI y1hi; have t3 : y1.toInt = y3.toInt := q_eqI c1; omega)); have e2 : (0 : Int32).toInt = 0 := (by decide); have e3 := q_nltI c4; omega }; have t5 : 0 ≤ (((y1.toInt - 1) + (-1)) + (-1)) := by { have e1 : ((((y1 - 1) + (-1)) + (-1)) : Int32).toInt = (((y1.toInt - 1) + (-1)) + (-1)) := (q_addI (x := ((y1.toInt - 1) + (-1))) (y := (-1)) (q_addI (x := (y1.toInt - 1)) (y := (-1)) (q_subI (x := y1.toInt) (y := 1) rfl (by decide) (by have t1 : 1 ≤ y1.toInt := q_leI y1lo; have t2 : y1.toInt ≤ 3 := q_leI y1hi; have t3 : y1.toInt = y3.toInt := q_eqI c1; omega) (by have t1 : 1 ≤ y1.toInt := q_leI y1lo; have t2 : y1.toInt ≤ 3 := q_leI y1hi; have t3 : y1.toInt = y3.toInt := q_eqI c1; omega)) (by decide) (by have t1 : 1 ≤ y1.toInt := q_leI y1lo; have t2 : y1.toInt ≤ 3 := q_leI y1hi; have t3 : y1.toInt = y3.toInt := q_eqI c1; omega) (by have t1 : 1 ≤ y1.toInt := q_leI y1lo; have t2 : y1.toInt ≤ 3 := q_leI y1hi; have t3 : y1.toInt = y3.toInt := q_eqI c1; omega)) (by decide) (by have t1 : 1 ≤ y1.toInt := q_leI y1lo; have t2 : y1.toInt ≤ 3 := q_leI y1hi; have t3 : y1.toInt = y3.toInt := q_eqI c1; omega) (by have t1 : 1 ≤ y1.toInt := q_leI y1lo; have t2 : y1.toInt ≤ 3 := q_leI y1hi; have t3 : y1.toInt = y3.toInt := q_eqI c1; omega)); have e2 : (0 : Int32).toInt = 0 := (by decide); have e3 := q_nltI c6; omega }; omega)) ?_
            refine q_iald C0 V hA3 (by unfold vp_in; decide) d_2_21_45 ?_
            refine lv_icmp_eq (tgt := 65) hx hb d_2_21_46 (by decide) (fun c7 => ?_) (fun c7 => ?_)
            ·
              refine lv_iinc (v := (((y1 - 1) + (-1)) + (-1)) + (-1)) (lv' := [(2, .int ((((y1 - 1) + (-1)) + (-1)) + (-1))), (0, .ref qO0), (1, .ref qO1)]) hx hb d_2_21_65 hl (k := 0) rfl (rfl) (by decide) rfl (fun ls hl => ?_)
              refine lv_goto (tgt := 30) hx hb d_2_21_68 (by decide) ?_
              refine lv_iload_n hx hb d_2_21_30 rfl (lv_at hl 0 rfl) ?_
              refine q_ti (v := (-1)) (q_Ieq (x := ((((y1.toInt - 1) + (-1)) + (-1)) + (-1))) (y := (-1)) (q_addI (x := (((y1.toInt - 1) + (-1)) + (-1))) (y := (-1)) (q_addI (x := ((y1.toInt - 1) + (-1))) (y := (-1)) (q_addI (x := (y1.toInt - 1)) (y := (-1)) (q_subI (x := y1.toInt) (y := 1) rfl (by decide) (by have t1 : 1 ≤ y1.toInt := q_leI y1lo; have t2 : y1.toInt ≤ 3 := q_leI y1hi; have t3 : y1.toInt = y3.toInt := q_eqI c1; have t4 : 0 ≤ ((y1.toInt - 1) + (-1)) := by { have e1 : (((y1 - 1) + (-1)) : Int32).toInt = ((y1.toInt - 1) + (-1)) := (q_addI (x := (y1.toInt - 1)) (y := (-1)) (q_subI (x := y1.toInt) (y := 1) rfl (by decide) (by have t1 : 1 ≤ y1.toInt := q_leI y1lo; have t2 : y1.toInt ≤ 3 := q_leI y1hi; have t3 : y1.toInt = y3.toInt := q_eqI c1; omega) (by have t1 : 1 ≤ y1.toInt := q_leI y1lo; have t2 : y1.toInt ≤ 3 := q_leI y1hi; have t3 : y1.toInt = y3.toInt := q_eqI c1; omega)) (by decide) (by have t1 : 1 ≤ y1.toInt := q_leI y1lo; have t2 : y1.toInt ≤ 3 := q_leI y1hi; have t3 : y1.toInt = y3.toInt := q_eqI c1; omega) (by have t1 : 1 ≤ y1.toInt := q_leI y1lo; have t2 : y1.toInt ≤ 3 := q_leI y1hi; have t3 : y1.toInt = y3.toInt := q_eqI c1; omega)); have e2 : (0 : Int32).toInt = 0 := (by decide); have e3 := q_nltI c4; omega }; have t5 : 0 ≤ (((y1.toInt - 1) + (-1)) + (-1)) := by { have e1 : ((((y1 - 1) + (-1)) + (-1)) : Int32).toInt = (((y1.toInt - 1) + (-1)) + (-1)) := (q_addI (x := ((y1.toInt - 1) + (-1))) (y := (-1)) (q_addI (x := (y1.toInt - 1)) (y := (-1)) (q_subI (x := y1.toInt) (y := 1) rfl (by decide) (by have t1 : 1 ≤ y1.toInt := q_leI y1lo; have t2 : y1.toInt ≤ 3 := q_leI y1hi; have t3 : y1.toInt = y3.toInt := q_eqI c1; omega) (by have t1 : 1 ≤ y1.toInt := q_leI y1lo; have t2 : y1.toInt ≤ 3 := q_leI y1hi; have t3 : y1.toInt = y3.toInt := q_eqI c1; omega)) (by decide) (by have t1 : 1 ≤ y1.toInt := q_leI y1lo; have t2 : y1.toInt ≤ 3 := q_leI y1hi; have t3 : y1.toInt = y3.toInt := q_eqI c1; omega) (by have t1 : 1 ≤ y1.toInt := q_leI y1lo; have t2 : y1.toInt ≤ 3 := q_leI y1hi; have t3 : y1.toInt = y3.toInt := q_eqI c1; omega)) (by decide) (by have t1 : 1 ≤ y1.toInt := q_leI y1lo; have t2 : y1.toInt ≤ 3 := q_leI y1hi; have t3 : y1.toInt = y3.toInt := q_eqI c1; omega) (by have t1 : 1 ≤ y1.toInt := q_leI y1lo; have t2 : y1.toInt ≤ 3 := q_leI y1hi; have t3 : y1.toInt = y3.toInt := q_eqI c1; omega)); have e2 : (0 : Int32).toInt = 0 := (by decide); have e3 := q_nltI c6; omega }; omega) (by have t1 : 1 ≤ y1.toInt := q_leI y1lo; have t2 : y1.toInt ≤ 3 := q_leI y1hi; have t3 : y1.toInt = y3.toInt := q_eqI c1; have t4 : 0 ≤ ((y1.toInt - 1) + (-1)) := by { have e1 : (((y1 - 1) + (-1)) : Int32).toInt = ((y1.toInt - 1) + (-1)) := (q_addI (x := (y1.toInt - 1)) (y := (-1)) (q_subI (x := y1.toInt) (y := 1) rfl (by decide) (by have t1 : 1 ≤ y1.toInt := q_leI y1lo; have t2 : y1.toInt ≤ 3 := q_leI y1hi; have t3 : y1.toInt = y3.toInt := q_eqI c1; omega) (by have t1 : 1 ≤ y1.toInt := q_leI y1lo; have t2 : y1.toInt ≤ 3 := q_leI y1hi; have t3 : y1.toInt = y3.toInt := q_eqI c1; omega)) (by decide) (by have t1 : 1 ≤ y1.toInt := q_leI y1lo; have t2 : y1.toInt ≤ 3 := q_leI y1hi; have t3 : y1.toInt = y3.toInt := q_eqI c1; omega) (by have t1 : 1 ≤ y1.toInt := q_leI y1lo; have t2 : y1.toInt ≤ 3 := q_leI y1hi; have t3 : y1.toInt = y3.toInt := q_eqI c1; omega)); have e2 : (0 : Int32).toInt = 0 := (by decide); have e3 := q_nltI c4; omega }; have t5 : 0 ≤ (((y1.toInt - 1) + (-1)) + (-1)) := by { have e1 : ((((y1 - 1) + (-1)) + (-1)) : Int32).toInt = (((y1.toInt - 1) + (-1)) + (-1)) := (q_addI (x := ((y1.toInt - 1) + (-1))) (y := (-1)) (q_addI (x := (y1.toInt - 1)) (y := (-1)) (q_subI (x := y1.toInt) (y := 1) rfl (by decide) (by have t1 : 1 ≤ y1.toInt := q_leI y1lo; have t2 : y1.toInt ≤ 3 := q_leI y1hi; have t3 : y1.toInt = y3.toInt := q_eqI c1; omega) (by have t1 : 1 ≤ y1.toInt := q_leI y1lo; have t2 : y1.toInt ≤ 3 := q_leI y1hi; have t3 : y1.toInt = y3.toInt := q_eqI c1; omega)) (by decide) (by have t1 : 1 ≤ y1.toInt := q_leI y1lo; have t2 : y1.toInt ≤ 3 := q_leI y1hi; have t3 : y1.toInt = y3.toInt := q_eqI c1; omega) (by have t1 : 1 ≤ y1.toInt := q_leI y1lo; have t2 : y1.toInt ≤ 3 := q_leI y1hi; have t3 : y1.toInt = y3.toInt := q_eqI c1; omega)) (by decide) (by have t1 : 1 ≤ y1.toInt := q_leI y1lo; have t2 : y1.toInt ≤ 3 := q_leI y1hi; have t3 : y1.toInt = y3.toInt := q_eqI c1; omega) (by have t1 : 1 ≤ y1.toInt := q_leI y1lo; have t2 : y1.toInt ≤ 3 := q_leI y1hi; have t3 : y1.toInt = y3.toInt := q_eqI c1; omega)); have e2 : (0 : Int32).toInt = 0 := (by decide); have e3 := q_nltI c6; omega }; omega)) (by decide) (by have t1 : 1 ≤ y1.toInt := q_leI y1lo; have t2 : y1.toInt ≤ 3 := q_leI y1hi; have t3 : y1.toInt = y3.toInt := q_eqI c1; have t4 : 0 ≤ ((y1.toInt - 1) + (-1)) := by { have e1 : (((y1 - 1) + (-1)) : Int32).toInt = ((y1.toInt - 1) + (-1)) := (q_addI (x := (y1.toInt - 1)) (y := (-1)) (q_subI (x := y1.toInt) (y := 1) rfl (by decide) (by have t1 : 1 ≤ y1.toInt := q_leI y1lo; have t2 : y1.toInt ≤ 3 := q_leI y1hi; have t3 : y1.toInt = y3.toInt := q_eqI c1; omega) (by have t1 : 1 ≤ y1.toInt := q_leI y1lo; have t2 : y1.toInt ≤ 3 := q_leI y1hi; have t3 : y1.toInt = y3.toInt := q_eqI c1; omega)) (by decide) (by have t1 : 1 ≤ y1.toInt := q_leI y1lo; have t2 : y1.toInt ≤ 3 := q_leI y1hi; have t3 : y1.toInt = y3.toInt := q_eqI c1; omega) (by have t1 : 1 ≤ y1.toInt := q_leI y1lo; have t2 : y1.toInt ≤ 3 := q_leI y1hi; have t3 : y1.toInt = y3.toInt := q_eqI c1; omega)); have e2 : (0 : Int32).toInt = 0 := (by decide); have e3 := q_nltI c4; omega }; have t5 : 0 ≤ (((y1.toInt - 1) + (-1)) + (-1)) := by { have e1 : ((((y1 - 1) + (-1)) + (-1)) : Int32).toInt = (((y1.toInt - 1) + (-1)) + (-1)) := (q_addI (x := ((y1.toInt - 1) + (-1))) (y := (-1)) (q_addI (x := (y1.toInt - 1)) (y := (-1)) (q_subI (x := y1.toInt) (y := 1) rfl (by decide) (by have t1 : 1 ≤ y1.toInt := q_leI y1lo; have t2 : y1.toInt ≤ 3 := q_leI y1hi; have t3 : y1.toInt = y3.toInt := q_eqI c1; omega) (by have t1 : 1 ≤ y1.toInt := q_leI y1lo; have t2 : y1.toInt ≤ 3 := q_leI y1hi; have t3 : y1.toInt = y3.toInt := q_eqI c1; omega)) (by decide) (by have t1 : 1 ≤ y1.toInt := q_leI y1lo; have t2 : y1.toInt ≤ 3 := q_leI y1hi; have t3 : y1.toInt = y3.toInt := q_eqI c1; omega) (by have t1 : 1 ≤ y1.toInt := q_leI y1lo; have t2 : y1.toInt ≤ 3 := q_leI y1hi; have t3 : y1.toInt = y3.toInt := q_eqI c1; omega)) (by decide) (by have t1 : 1 ≤ y1.toInt := q_leI y1lo; have t2 : y1.toInt ≤ 3 := q_leI y1hi; have t3 : y1.toInt = y3.toInt := q_eqI c1; omega) (by have t1 : 1 ≤ y1.toInt := q_leI y1lo; have t2 : y1.toInt ≤ 3 := q_leI y1hi; have t3 : y1.toInt = y3.toInt := q_eqI c1; omega)); have e2 : (0 : Int32).toInt = 0 := (by decide); have e3 := q_nltI c6; omega }; omega) (by have t1 : 1 ≤ y1.toInt := q_leI y1lo; have t2 : y1.toInt ≤ 3 := q_leI y1hi; have t3 : y1.toInt = y3.toInt := q_eqI c1; have t4 : 0 ≤ ((y1.toInt - 1) + (-1)) := by { have e1 : (((y1 - 1) + (-1)) : Int32).toInt = ((y1.toInt - 1) + (-1)) := (q_addI (x := (y1.toInt - 1)) (y := (-1)) (q_subI (x := y1.toInt) (y := 1) rfl (by decide) (by have t1 : 1 ≤ y1.toInt := q_leI y1lo; have t2 : y1.toInt ≤ 3 := q_leI y1hi; have t3 : y1.toInt = y3.toInt := q_eqI c1; omega) (by have t1 : 1 ≤ y1.toInt := q_leI y1lo; have t2 : y1.toInt ≤ 3 := q_leI y1hi; have t3 : y1.toInt = y3.toInt := q_eqI c1; omega)) (by decide) (by have t1 : 1 ≤ y1.toInt := q_leI y1lo; have t2 : y1.toInt ≤ 3 := q_leI y1hi; have t3 : y1.toInt = y3.toInt := q_eqI c1; omega) (by have t1 : 1 ≤ y1.toInt := q_leI y1lo; have t2 : y1.toInt ≤ 3 := q_leI y1hi; have t3 : y1.toInt = y3.toInt := q_eqI c1; omega)); have e2 : (0 : Int32).toInt = 0 := (by decide); have e3 := q_nltI c4; omega }; have t5 : 0 ≤ (((y1.toInt - 1) + (-1)) + (-1)) := by { have e1 : ((((y1 - 1) + (-1)) + (-1)) : Int32).toInt = (((y1.toInt - 1) + (-1)) + (-1)) := (q_addI (x := ((y1.toInt - 1) + (-1))) (y := (-1)) (q_addI (x := (y1.toInt - 1)) (y := (-1)) (q_subI (x := y1.toInt) (y := 1) rfl (by decide) (by have t1 : 1 ≤ y1.toInt := q_leI y1lo; have t2 : y1.toInt ≤ 3 := q_leI y1hi; have t3 : y1.toInt = y3.toInt := q_eqI c1; omega) (by have t1 : 1 ≤ y1.toInt := q_leI y1lo; have t2 : y1.toInt ≤ 3 := q_leI y1hi; have t3 : y1.toInt = y3.toInt := q_eqI c1; omega)) (by decide) (by have t1 : 1 ≤ y1.toInt := q_leI y1lo; have t2 : y1.toInt ≤ 3 := q_leI y1hi; have t3 : y1.toInt = y3.toInt := q_eqI c1; omega) (by have t1 : 1 ≤ y1.toInt := q_leI y1lo; have t2 : y1.toInt ≤ 3 := q_leI y1hi; have t3 : y1.toInt = y3.toInt := q_eqI c1; omega)) (by decide) (by have t1 : 1 ≤ y1.toInt := q_leI y1lo; have t2 : y1.toInt ≤ 3 := q_leI y1hi; have t3 : y1.toInt = y3.toInt := q_eqI c1; omega) (by have t1 : 1 ≤ y1.toInt := q_leI y1lo; have t2 : y1.toInt ≤ 3 := q_leI y1hi; have t3 : y1.toInt = y3.toInt := q_eqI c1; omega)); have e2 : (0 : Int32).toInt = 0 := (by decide); have e3 := q_nltI c6; omega }; omega)) (by decide) (by have t1 : 1 ≤ y1.toInt := q_leI y1lo; have t2 : y1.toInt ≤ 3 := q_leI y1hi; have t3 : y1.toInt = y3.toInt := q_eqI c1; have t4 : 0 ≤ ((y1.toInt - 1) + (-1)) := by { have e1 : (((y1 - 1) + (-1)) : Int32).toInt = ((y1.toInt - 1) + (-1)) := (q_addI (x := (y1.toInt - 1)) (y := (-1)) (q_subI (x := y1.toInt) (y := 1) rfl (by decide) (by have t1 : 1 ≤ y1.toInt := q_leI y1lo; have t2 : y1.toInt ≤ 3 := q_leI y1hi; have t3 : y1.toInt = y3.toInt := q_eqI c1; omega) (by have t1 : 1 ≤ y1.toInt := q_leI y1lo; have t2 : y1.toInt ≤ 3 := q_leI y1hi; have t3 : y1.toInt = y3.toInt := q_eqI c1; omega)) (by decide) (by have t1 : 1 ≤ y1.toInt := q_leI y1lo; have t2 : y1.toInt ≤ 3 := q_leI y1hi; have t3 : y1.toInt = y3.toInt := q_eqI c1; omega) (by have t1 : 1 ≤ y1.toInt := q_leI y1lo; have t2 : y1.toInt ≤ 3 := q_leI y1hi; have t3 : y1.toInt = y3.toInt := q_eqI c1; omega)); have e2 : (0 : Int32).toInt = 0 := (by decide); have e3 := q_nltI c4; omega }; have t5 : 0 ≤ (((y1.toInt - 1) + (-1)) + (-1)) := by { have e1 : ((((y1 - 1) + (-1)) + (-1)) : Int32).toInt = (((y1.toInt - 1) + (-1)) + (-1)) := (q_addI (x := ((y1.toInt - 1) + (-1))) (y := (-1)) (q_addI (x := (y1.toInt - 1)) (y := (-1)) (q_subI (x := y1.toInt) (y := 1) rfl (by decide) (by have t1 : 1 ≤ y1.toInt := q_leI y1lo; have t2 : y1.toInt ≤ 3 := q_leI y1hi; have t3 : y1.toInt = y3.toInt := q_eqI c1; omega) (by have t1 : 1 ≤ y1.toInt := q_leI y1lo; have t2 : y1.toInt ≤ 3 := q_leI y1hi; have t3 : y1.toInt = y3.toInt := q_eqI c1; omega)) (by decide) (by have t1 : 1 ≤ y1.toInt := q_leI y1lo; have t2 : y1.toInt ≤ 3 := q_leI y1hi; have t3 : y1.toInt = y3.toInt := q_eqI c1; omega) (by have t1 : 1 ≤ y1.toInt := q_leI y1lo; have t2 : y1.toInt ≤ 3 := q_leI y1hi; have t3 : y1.toInt = y3.toInt := q_eqI c1; omega)) (by decide) (by have t1 : 1 ≤ y1.toInt := q_leI y1lo; have t2 : y1.toInt ≤ 3 := q_leI y1hi; have t3 : y1.toInt = y3.toInt := q_eqI c1; omega) (by have t1 : 1 ≤ y1.toInt := q_leI y1lo; have t2 : y1.toInt ≤ 3 := q_leI y1hi; have t3 : y1.toInt = y3.toInt := q_eqI c1; omega)); have e2 : (0 : Int32).toInt = 0 := (by decide); have e3 := q_nltI c6; omega }; omega) (by have t1 : 1 ≤ y1.toInt := q_leI y1lo; have t2 : y1.toInt ≤ 3 := q_leI y1hi; have t3 : y1.toInt = y3.toInt := q_eqI c1; have t4 : 0 ≤ ((y1.toInt - 1) + (-1)) := by { have e1 : (((y1 - 1) + (-1)) : Int32).toInt = ((y1.toInt - 1) + (-1)) := (q_addI (x := (y1.toInt - 1)) (y := (-1)) (q_subI (x := y1.toInt) (y := 1) rfl (by decide) (by have t1 : 1 ≤ y1.toInt := q_leI y1lo; have t2 : y1.toInt ≤ 3 := q_leI y1hi; have t3 : y1.toInt = y3.toInt := q_eqI c1; omega) (by have t1 : 1 ≤ y1.toInt := q_leI y1lo; have t2 : y1.toInt ≤ 3 := q_leI y1hi; have t3 : y1.toInt = y3.toInt := q_eqI c1; omega)) (by decide) (by have t1 : 1 ≤ y1.toInt := q_leI y1lo; have t2 : y1.toInt ≤ 3 := q_leI y1hi; have t3 : y1.toInt = y3.toInt := q_eqI c1; omega) (by have t1 : 1 ≤ y1.toInt := q_leI y1lo; have t2 : y1.toInt ≤ 3 := q_leI y1hi; have t3 : y1.toInt = y3.toInt := q_eqI c1; omega)); have e2 : (0 : Int32).toInt = 0 := (by decide); have e3 := q_nltI c4; omega }; have t5 : 0 ≤ (((y1.toInt - 1) + (-1)) + (-1)) := by { have e1 : ((((y1 - 1) + (-1)) + (-1)) : Int32).toInt = (((y1.toInt - 1) + (-1)) + (-1)) := (q_addI (x := ((y1.toInt - 1) + (-1))) (y := (-1)) (q_addI (x := (y1.toInt - 1)) (y := (-1)) (q_subI (x := y1.toInt) (y := 1) rfl (by decide) (by have t1 : 1 ≤ y1.toInt := q_leI y1lo; have t2 : y1.toInt ≤ 3 := q_leI y1hi; have t3 : y1.toInt = y3.toInt := q_eqI c1; omega) (by have t1 : 1 ≤ y1.toInt := q_leI y1lo; have t2 : y1.toInt ≤ 3 := q_leI y1hi; have t3 : y1.toInt = y3.toInt := q_eqI c1; omega)) (by decide) (by have t1 : 1 ≤ y1.toInt := q_leI y1lo; have t2 : y1.toInt ≤ 3 := q_leI y1hi; have t3 : y1.toInt = y3.toInt := q_eqI c1; omega) (by have t1 : 1 ≤ y1.toInt := q_leI y1lo; have t2 : y1.toInt ≤ 3 := q_leI y1hi; have t3 : y1.toInt = y3.toInt := q_eqI c1; omega)) (by decide) (by have t1 : 1 ≤ y1.toInt := q_leI y1lo; have t2 : y1.toInt ≤ 3 := q_leI y1hi; have t3 : y1.toInt = y3.toInt := q_eqI c1; omega) (by have t1 : 1 ≤ y1.toInt := q_leI y1lo; have t2 : y1.toInt ≤ 3 := q_leI y1hi; have t3 : y1.toInt = y3.toInt := q_eqI c1; omega)); have e2 : (0 : Int32).toInt = 0 := (by decide); have e3 := q_nltI c6; omega }; omega)) (by decide) (by have t1 : 1 ≤ y1.toInt := q_leI y1lo; have t2 : y1.toInt ≤ 3 := q_leI y1hi; have t3 : y1.toInt = y3.toInt := q_eqI c1; have t4 : 0 ≤ ((y1.toInt - 1) + (-1)) := by { have e1 : (((y1 - 1) + (-1)) : Int32).toInt = ((y1.toInt - 1) + (-1)) := (q_addI (x := (y1.toInt - 1)) (y := (-1)) (q_subI (x := y1.toInt) (y := 1) rfl (by decide) (by have t1 : 1 ≤ y1.toInt := q_leI y1lo; have t2 : y1.toInt ≤ 3 := q_leI y1hi; have t3 : y1.toInt = y3.toInt := q_eqI c1; omega) (by have t1 : 1 ≤ y1.toInt := q_leI y1lo; have t2 : y1.toInt ≤ 3 := q_leI y1hi; have t3 : y1.toInt = y3.toInt := q_eqI c1; omega)) (by decide) (by have t1 : 1 ≤ y1.toInt := q_leI y1lo; have t2 : y1.toInt ≤ 3 := q_leI y1hi; have t3 : y1.toInt = y3.toInt := q_eqI c1; omega) (by have t1 : 1 ≤ y1.toInt := q_leI y1lo; have t2 : y1.toInt ≤ 3 := q_leI y1hi; have t3 : y1.toInt = y3.toInt := q_eqI c1; omega)); have e2 : (0 : Int32).toInt = 0 := (by decide); have e3 := q_nltI c4; omega }; have t5 : 0 ≤ (((y1.toInt - 1) + (-1)) + (-1)) := by { have e1 : ((((y1 - 1) + (-1)) + (-1)) : Int32).toInt = (((y1.toInt - 1) + (-1)) + (-1)) := (q_addI (x := ((y1.toInt - 1) + (-1))) (y := (-1)) (q_addI (x := (y1.toInt - 1)) (y := (-1)) (q_subI (x := y1.toInt) (y := 1) rfl (by decide) (by have t1 : 1 ≤ y1.toInt := q_leI y1lo; have t2 : y1.toInt ≤ 3 := q_leI y1hi; have t3 : y1.toInt = y3.toInt := q_eqI c1; omega) (by have t1 : 1 ≤ y1.toInt := q_leI y1lo; have t2 : y1.toInt ≤ 3 := q_leI y1hi; have t3 : y1.toInt = y3.toInt := q_eqI c1; omega)) (by decide) (by have t1 : 1 ≤ y1.toInt := q_leI y1lo; have t2 : y1.toInt ≤ 3 := q_leI y1hi; have t3 : y1.toInt = y3.toInt := q_eqI c1; omega) (by have t1 : 1 ≤ y1.toInt := q_leI y1lo; have t2 : y1.toInt ≤ 3 := q_leI y1hi; have t3 : y1.toInt = y3.toInt := q_eqI c1; omega)) (by decide) (by have t1 : 1 ≤ y1.toInt := q_leI y1lo; have t2 : y1.toInt ≤ 3 := q_leI y1hi; have t3 : y1.toInt = y3.toInt := q_eqI c1; omega) (by have t1 : 1 ≤ y1.toInt := q_leI y1lo; have t2 : y1.toInt ≤ 3 := q_leI y1hi; have t3 : y1.toInt = y3.toInt := q_eqI c1; omega)); have e2 : (0 : Int32).toInt = 0 := (by decide); have e3 := q_nltI c6; omega }; omega) (by have t1 : 1 ≤ y1.toInt := q_leI y1lo; have t2 : y1.toInt ≤ 3 := q_leI y1hi; have t3 : y1.toInt = y3.toInt := q_eqI c1; have t4 : 0 ≤ ((y1.toInt - 1) + (-1)) := by { have e1 : (((y1 - 1) + (-1)) : Int32).toInt = ((y1.toInt - 1) + (-1)) := (q_addI (x := (y1.toInt - 1)) (y := (-1)) (q_subI (x := y1.toInt) (y := 1) rfl (by decide) (by have t1 : 1 ≤ y1.toInt := q_leI y1lo; have t2 : y1.toInt ≤ 3 := q_leI y1hi; have t3 : y1.toInt = y3.toInt := q_eqI c1; omega) (by have t1 : 1 ≤ y1.toInt := q_leI y1lo; have t2 : y1.toInt ≤ 3 := q_leI y1hi; have t3 : y1.toInt = y3.toInt := q_eqI c1; omega)) (by decide) (by have t1 : 1 ≤ y1.toInt := q_leI y1lo; have t2 : y1.toInt ≤ 3 := q_leI y1hi; have t3 : y1.toInt = y3.toInt := q_eqI c1; omega) (by have t1 : 1 ≤ y1.toInt := q_leI y1lo; have t2 : y1.toInt ≤ 3 := q_leI y1hi; have t3 : y1.toInt = y3.toInt := q_eqI c1; omega)); have e2 : (0 : Int32).toInt = 0 := (by decide); have e3 := q_nltI c4; omega }; have t5 : 0 ≤ (((y1.toInt - 1) + (-1)) + (-1)) := by { have e1 : ((((y1 - 1) + (-1)) + (-1)) : Int32).toInt = (((y1.toInt - 1) + (-1)) + (-1)) := (q_addI (x := ((y1.toInt - 1) + (-1))) (y := (-1)) (q_addI (x := (y1.toInt - 1)) (y := (-1)) (q_subI (x := y1.toInt) (y := 1) rfl (by decide) (by have t1 : 1 ≤ y1.toInt := q_leI y1lo; have t2 : y1.toInt ≤ 3 := q_leI y1hi; have t3 : y1.toInt = y3.toInt := q_eqI c1; omega) (by have t1 : 1 ≤ y1.toInt := q_leI y1lo; have t2 : y1.toInt ≤ 3 := q_leI y1hi; have t3 : y1.toInt = y3.toInt := q_eqI c1; omega)) (by decide) (by have t1 : 1 ≤ y1.toInt := q_leI y1lo; have t2 : y1.toInt ≤ 3 := q_leI y1hi; have t3 : y1.toInt = y3.toInt := q_eqI c1; omega) (by have t1 : 1 ≤ y1.toInt := q_leI y1lo; have t2 : y1.toInt ≤ 3 := q_leI y1hi; have t3 : y1.toInt = y3.toInt := q_eqI c1; omega)) (by decide) (by have t1 : 1 ≤ y1.toInt := q_leI y1lo; have t2 : y1.toInt ≤ 3 := q_leI y1hi; have t3 : y1.toInt = y3.toInt := q_eqI c1; omega) (by have t1 : 1 ≤ y1.toInt := q_leI y1lo; have t2 : y1.toInt ≤ 3 := q_leI y1hi; have t3 : y1.toInt = y3.toInt := q_eqI c1; omega)); have e2 : (0 : Int32).toInt = 0 := (by decide); have e3 := q_nltI c6; omega }; omega)) (by decide) (by have t1 : 1 ≤ y1.toInt := q_leI y1lo; have t2 : y1.toInt ≤ 3 := q_leI y1hi; have t3 : y1.toInt = y3.toInt := q_eqI c1; have t4 : 0 ≤ ((y1.toInt - 1) + (-1)) := by { have e1 : (((y1 - 1) + (-1)) : Int32).toInt = ((y1.toInt - 1) + (-1)) := (q_addI (x := (y1.toInt - 1)) (y := (-1)) (q_subI (x := y1.toInt) (y := 1) rfl (by decide) (by have t1 : 1 ≤ y1.toInt := q_leI y1lo; have t2 : y1.toInt ≤ 3 := q_leI y1hi; have t3 : y1.toInt = y3.toInt := q_eqI c1; omega) (by have t1 : 1 ≤ y1.toInt := q_leI y1lo; have t2 : y1.toInt ≤ 3 := q_leI y1hi; have t3 : y1.toInt = y3.toInt := q_eqI c1; omega)) (by decide) (by have t1 : 1 ≤ y1.toInt := q_leI y1lo; have t2 : y1.toInt ≤ 3 := q_leI y1hi; have t3 : y1.toInt = y3.toInt := q_eqI c1; omega) (by have t1 : 1 ≤ y1.toInt := q_leI y1lo; have t2 : y1.toInt ≤ 3 := q_leI y1hi; have t3 : y1.toInt = y3.toInt := q_eqI c1; omega)); have e2 : (0 : Int32).toInt = 0 := (by decide); have e3 := q_nltI c4; omega }; have t5 : 0 ≤ (((y1.toInt - 1) + (-1)) + (-1)) := by { have e1 : ((((y1 - 1) + (-1)) + (-1)) : Int32).toInt = (((y1.toInt - 1) + (-1)) + (-1)) := (q_addI (x := ((y1.toInt - 1) + (-1))) (y := (-1)) (q_addI (x := (y1.toInt - 1)) (y := (-1)) (q_subI (x := y1.toInt) (y := 1) rfl (by decide) (by have t1 : 1 ≤ y1.toInt := q_leI y1lo; have t2 : y1.toInt ≤ 3 := q_leI y1hi; have t3 : y1.toInt = y3.toInt := q_eqI c1; omega) (by have t1 : 1 ≤ y1.toInt := q_leI y1lo; have t2 : y1.toInt ≤ 3 := q_leI y1hi; have t3 : y1.toInt = y3.toInt := q_eqI c1; omega)) (by decide) (by have t1 : 1 ≤ y1.toInt := q_leI y1lo; have t2 : y1.toInt ≤ 3 := q_leI y1hi; have t3 : y1.toInt = y3.toInt := q_eqI c1; omega) (by have t1 : 1 ≤ y1.toInt := q_leI y1lo; have t2 : y1.toInt ≤ 3 := q_leI y1hi; have t3 : y1.toInt = y3.toInt := q_eqI c1; omega)) (by decide) (by have t1 : 1 ≤ y1.toInt := q_leI y1lo; have t2 : y1.toInt ≤ 3 := q_leI y1hi; have t3 : y1.toInt = y3.toInt := q_eqI c1; omega) (by have t1 : 1 ≤ y1.toInt := q_leI y1lo; have t2 : y1.toInt ≤ 3 := q_leI y1hi; have t3 : y1.toInt = y3.toInt := q_eqI c1; omega)); have e2 : (0 : Int32).toInt = 0 := (by decide); have e3 := q_nltI c6; omega }; omega)) ?_
              refine lv_if_lt (tgt := 71) hx hb d_2_21_31 (by decide) (fun c8 => ?_) (fun c8 => absurd (by decide) c8)
              refine lv_iconst (v := 0) hx hb d_2_21_71 (by decide) ?_
              exact q_reti C0 V (Or.inl ⟨rfl, rfl⟩) d_2_21_72
            ·
              refine lv_aload_n hx hb d_2_21_49 rfl (lv_at hl 1 rfl) ?_
              refine q_get (ci := 2) (j := 0) (v := .ref qA2) C0 V i_Big rfl rfl hO0 (by decide) w_84 rfl d_2_21_50 ?_
              refine lv_iload_n hx hb d_2_21_53 rfl (lv_at hl 0 rfl) ?_
              refine q_ti (v := 0) (q_Ieq (x := (((y1.toInt - 1) + (-1)) + (-1))) (y := 0) (q_addI (x := ((y1.toInt - 1) + (-1))) (y := (-1)) (q_addI (x := (y1.toInt - 1)) (y := (-1)) (q_subI (x := y1.toInt) (y := 1) rfl (by decide) (by have t1 : 1 ≤ y1.toInt := q_leI y1lo; have t2 : y1.toInt ≤ 3 := q_leI y1hi; have t3 : y1.toInt = y3.toInt := q_eqI c1; have t4 : 0 ≤ ((y1.toInt - 1) + (-1)) := by { have e1 : (((y1 - 1) + (-1)) : Int32).toInt = ((y1.toInt - 1) + (-1)) := (q_addI (x := (y1.toInt - 1)) (y := (-1)) (q_subI (x := y1.toInt) (y := 1) rfl (by decide) (by have t1 : 1 ≤ y1.toInt := q_leI y1lo; have t2 : y1.toInt ≤ 3 := q_leI y1hi; have t3 : y1.toInt = y3.toInt := q_eqI c1; omega) (by have t1 : 1 ≤ y1.toInt := q_leI y1lo; have t2 : y1.toInt ≤ 3 := q_leI y1hi; have t3 : y1.toInt = y3.toInt := q_eqI c1; omega)) (by decide) (by have t1 : 1 ≤ y1.toInt := q_leI y1lo; have t2 : y1.toInt ≤ 3 := q_leI y1hi; have t3 : y1.toInt = y3.toInt := q_eqI c1; omega) (by have t1 : 1 ≤ y1.toInt := q_leI y1lo; have t2 : y1.toInt ≤ 3 := q_leI y1hi; have t3 : y1.toInt = y3.toInt := q_eqI c1; omega)); have e2 : (0 : Int32).toInt = 0 := (by decide); have e3 := q_nltI c4; omega }; have t5 : 0 ≤ (((y1.toInt - 1) + (-1)) + (-1)) := by { have e1 : ((((y1 - 1) + (-1)) + (-1)) : Int32).toInt = (((y1.toInt - 1) + (-1)) + (-1)) := (q_addI (x := ((y1.toInt - 1) + (-1))) (y := (-1)) (q_addI (x := (y1.toInt - 1)) (y := (-1)) (q_subI (x := y1.toInt) (y := 1) rfl (by decide) (by have t1 : 1 ≤ y1.toInt := q_leI y1lo; have t2 : y1.toInt ≤ 3 := q_leI y1hi; have t3 : y1.toInt = y3.toInt := q_eqI c1; omega) (by have t1 : 1 ≤ y1.toInt := q_leI y1lo; have t2 : y1.toInt ≤ 3 := q_leI y1hi; have t3 : y1.toInt = y3.toInt := q_eqI c1; omega)) (by decide) (by have t1 : 1 ≤ y1.toInt := q_leI y1lo; have t2 : y1.toInt ≤ 3 := q_leI y1hi; have t3 : y1.toInt = y3.toInt := q_eqI c1; omega) (by have t1 : 1 ≤ y1.toInt := q_leI y1lo; have t2 : y1.toInt ≤ 3 := q_leI y1hi; have t3 : y1.toInt = y3.toInt := q_eqI c1; omega)) (by decide) (by have t1 : 1 ≤ y1.toInt := q_leI y1lo; have t2 : y1.toInt ≤ 3 := q_leI y1hi; have t3 : y1.toInt = y3.toInt := q_eqI c1; omega) (by have t1 : 1 ≤ y1.toInt := q_leI y1lo; have t2 : y1.toInt ≤ 3 := q_leI y1hi; have t3 : y1.toInt = y3.toInt := q_eqI c1; omega)); have e2 : (0 : Int32).toInt = 0 := (by decide); have e3 := q_nltI c6; omega }; omega) (by have t1 : 1 ≤ y1.toInt := q_leI y1lo; have t2 : y1.toInt ≤ 3 := q_leI y1hi; have t3 : y1.toInt = y3.toInt := q_eqI c1; have t4 : 0 ≤ ((y1.toInt - 1) + (-1)) := by { have e1 : (((y1 - 1) + (-1)) : Int32).toInt = ((y1.toInt - 1) + (-1)) := (q_addI (x := (y1.toInt - 1)) (y := (-1)) (q_subI (x := y1.toInt) (y := 1) rfl (by decide) (by have t1 : 1 ≤ y1.toInt := q_leI y1lo; have t2 : y1.toInt ≤ 3 := q_leI y1hi; have t3 : y1.toInt = y3.toInt := q_eqI c1; omega) (by have t1 : 1 ≤ y1.toInt := q_leI y1lo; have t2 : y1.toInt ≤ 3 := q_leI y1hi; have t3 : y1.toInt = y3.toInt := q_eqI c1; omega)) (by decide) (by have t1 : 1 ≤ y1.toInt := q_leI y1lo; have t2 : y1.toInt ≤ 3 := q_leI y1hi; have t3 : y1.toInt = y3.toInt := q_eqI c1; omega) (by have t1 : 1 ≤ y1.toInt := q_leI y1lo; have t2 : y1.toInt ≤ 3 := q_leI y1hi; have t3 : y1.toInt = y3.toInt := q_eqI c1; omega)); have e2 : (0 : Int32).toInt = 0 := (by decide); have e3 := q_nltI c4; omega }; have t5 : 0 ≤ (((y1.toInt - 1) + (-1)) + (-1)) := by { have e1 : ((((y1 - 1) + (-1)) + (-1)) : Int32).toInt = (((y1.toInt - 1) + (-1)) + (-1)) := (q_addI (x := ((y1.toInt - 1) + (-1))) (y := (-1)) (q_addI (x := (y1.toInt - 1)) (y := (-1)) (q_subI (x := y1.toInt) (y := 1) rfl (by decide) (by have t1 : 1 ≤ y1.toInt := q_leI y1lo; have t2 : y1.toInt ≤ 3 := q_leI y1hi; have t3 : y1.toInt = y3.toInt := q_eqI c1; omega) (by have t1 : 1 ≤ y1.toInt := q_leI y1lo; have t2 : y1.toInt ≤ 3 := q_leI y1hi; have t3 : y1.toInt = y3.toInt := q_eqI c1; omega)) (by decide) (by have t1 : 1 ≤ y1.toInt := q_leI y1lo; have t2 : y1.toInt ≤ 3 := q_leI y1hi; have t3 : y1.toInt = y3.toInt := q_eqI c1; omega) (by have t1 : 1 ≤ y1.toInt := q_leI y1lo; have t2 : y1.toInt ≤ 3 := q_leI y1hi; have t3 : y1.toInt = y3.toInt := q_eqI c1; omega)) (by decide) (by have t1 : 1 ≤ y1.toInt := q_leI y1lo; have t2 : y1.toInt ≤ 3 := q_leI y1hi; have t3 : y1.toInt = y3.toInt := q_eqI c1; omega) (by have t1 : 1 ≤ y1.toInt := q_leI y1lo; have t2 : y1.toInt ≤ 3 := q_leI y1hi; have t3 : y1.toInt = y3.toInt := q_eqI c1; omega)); have e2 : (0 : Int32).toInt = 0 := (by decide); have e3 := q_nltI c6; omega }; omega)) (by decide) (by have t1 : 1 ≤ y1.toInt := q_leI y1lo; have t2 : y1.toInt ≤ 3 := q_leI y1hi; have t3 : y1.toInt = y3.toInt := q_eqI c1; have t4 : 0 ≤ ((y1.toInt - 1) + (-1)) := by { have e1 : (((y1 - 1) + (-1)) : Int32).toInt = ((y1.toInt - 1) + (-1)) := (q_addI (x := (y1.toInt - 1)) (y := (-1)) (q_subI (x := y1.toInt) (y := 1) rfl (by decide) (by have t1 : 1 ≤ y1.toInt := q_leI y1lo; have t2 : y1.toInt ≤ 3 := q_leI y1hi; have t3 : y1.toInt = y3.toInt := q_eqI c1; omega) (by have t1 : 1 ≤ y1.toInt := q_leI y1lo; have t2 : y1.toInt ≤ 3 := q_leI y1hi; have t3 : y1.toInt = y3.toInt := q_eqI c1; omega)) (by decide) (by have t1 : 1 ≤ y1.toInt := q_leI y1lo; have t2 : y1.toInt ≤ 3 := q_leI y1hi; have t3 : y1.toInt = y3.toInt := q_eqI c1; omega) (by have t1 : 1 ≤ y1.toInt := q_leI y1lo; have t2 : y1.toInt ≤ 3 := q_leI y1hi; have t3 : y1.toInt = y3.toInt := q_eqI c1; omega)); have e2 : (0 : Int32).toInt = 0 := (by decide); have e3 := q_nltI c4; omega }; have t5 : 0 ≤ (((y1.toInt - 1) + (-1)) + (-1)) := by { have e1 : ((((y1 - 1) + (-1)) + (-1)) : Int32).toInt = (((y1.toInt - 1) + (-1)) + (-1)) := (q_addI (x := ((y1.toInt - 1) + (-1))) (y := (-1)) (q_addI (x := (y1.toInt - 1)) (y := (-1)) (q_subI (x := y1.toInt) (y := 1) rfl (by decide) (by have t1 : 1 ≤ y1.toInt := q_leI y1lo; have t2 : y1.toInt ≤ 3 := q_leI y1hi; have t3 : y1.toInt = y3.toInt := q_eqI c1; omega) (by have t1 : 1 ≤ y1.toInt := q_leI y1lo; have t2 : y1.toInt ≤ 3 := q_leI y1hi; have t3 : y1.toInt = y3.toInt := q_eqI c1; omega)) (by decide) (by have t1 : 1 ≤ y1.toInt := q_leI y1lo; have t2 : y1.toInt ≤ 3 := q_leI y1hi; have t3 : y1.toInt = y3.toInt := q_eqI c1; omega) (by have t1 : 1 ≤ y1.toInt := q_leI y1lo; have t2 : y1.toInt ≤ 3 := q_leI y1hi; have t3 : y1.toInt = y3.toInt := q_eqI c1; omega)) (by decide) (by have t1 : 1 ≤ y1.toInt := q_leI y1lo; have t2 : y1.toInt ≤ 3 := q_leI y1hi; have t3 : y1.toInt = y3.toInt := q_eqI c1; omega) (by have t1 : 1 ≤ y1.toInt := q_leI y1lo; have t2 : y1.toInt ≤ 3 := q_leI y1hi; have t3 : y1.toInt = y3.toInt := q_eqI c1; omega)); have e2 : (0 : Int32).toInt = 0 := (by decide); have e3 := q_nltI c6; omega }; omega) (by have t1 : 1 ≤ y1.toInt := q_leI y1lo; have t2 : y1.toInt ≤ 3 := q_leI y1hi; have t3 : y1.toInt = y3.toInt := q_eqI c1; have t4 : 0 ≤ ((y1.toInt - 1) + (-1)) := by { have e1 : (((y1 - 1) + (-1)) : Int32).toInt = ((y1.toInt - 1) + (-1)) := (q_addI (x := (y1.toInt - 1)) (y := (-1)) (q_subI (x := y1.toInt) (y := 1) rfl (by decide) (by have t1 : 1 ≤ y1.toInt := q_leI y1lo; have t2 : y1.toInt ≤ 3 := q_leI y1hi; have t3 : y1.toInt = y3.toInt := q_eqI c1; omega) (by have t1 : 1 ≤ y1.toInt := q_leI y1lo; have t2 : y1.toInt ≤ 3 := q_leI y1hi; have t3 : y1.toInt = y3.toInt := q_eqI c1; omega)) (by decide) (by have t1 : 1 ≤ y1.toInt := q_leI y1lo; have t2 : y1.toInt ≤ 3 := q_leI y1hi; have t3 : y1.toInt = y3.toInt := q_eqI c1; omega) (by have t1 : 1 ≤ y1.toInt := q_leI y1lo; have t2 : y1.toInt ≤ 3 := q_leI y1hi; have t3 : y1.toInt = y3.toInt := q_eqI c1; omega)); have e2 : (0 : Int32).toInt = 0 := (by decide); have e3 := q_nltI c4; omega }; have t5 : 0 ≤ (((y1.toInt - 1) + (-1)) + (-1)) := by { have e1 : ((((y1 - 1) + (-1)) + (-1)) : Int32).toInt = (((y1.toInt - 1) + (-1)) + (-1)) := (q_addI (x := ((y1.toInt - 1) + (-1))) (y := (-1)) (q_addI (x := (y1.toInt - 1)) (y := (-1)) (q_subI (x := y1.toInt) (y := 1) rfl (by decide) (by have t1 : 1 ≤ y1.toInt := q_leI y1lo; have t2 : y1.toInt ≤ 3 := q_leI y1hi; have t3 : y1.toInt = y3.toInt := q_eqI c1; omega) (by have t1 : 1 ≤ y1.toInt := q_leI y1lo; have t2 : y1.toInt ≤ 3 := q_leI y1hi; have t3 : y1.toInt = y3.toInt := q_eqI c1; omega)) (by decide) (by have t1 : 1 ≤ y1.toInt := q_leI y1lo; have t2 : y1.toInt ≤ 3 := q_leI y1hi; have t3 : y1.toInt = y3.toInt := q_eqI c1; omega) (by have t1 : 1 ≤ y1.toInt := q_leI y1lo; have t2 : y1.toInt ≤ 3 := q_leI y1hi; have t3 : y1.toInt = y3.toInt := q_eqI c1; omega)) (by decide) (by have t1 : 1 ≤ y1.toInt := q_leI y1lo; have t2 : y1.toInt ≤ 3 := q_leI y1hi; have t3 : y1.toInt = y3.toInt := q_eqI c1; omega) (by have t1 : 1 ≤ y1.toInt := q_leI y1lo; have t2 : y1.toInt ≤ 3 := q_leI y1hi; have t3 : y1.toInt = y3.toInt := q_eqI c1; omega)); have e2 : (0 : Int32).toInt = 0 := (by decide); have e3 := q_nltI c6; omega }; omega)) (by decide) (by have t1 : 1 ≤ y1.toInt := q_leI y1lo; have t2 : y1.toInt ≤ 3 := q_leI y1hi; have t3 : y1.toInt = y3.toInt := q_eqI c1; have t4 : 0 ≤ ((y1.toInt - 1) + (-1)) := by { have e1 : (((y1 - 1) + (-1)) : Int32).toInt = ((y1.toInt - 1) + (-1)) := (q_addI (x := (y1.toInt - 1)) (y := (-1)) (q_subI (x := y1.toInt) (y := 1) rfl (by decide) (by have t1 : 1 ≤ y1.toInt := q_leI y1lo; have t2 : y1.toInt ≤ 3 := q_leI y1hi; have t3 : y1.toInt = y3.toInt := q_eqI c1; omega) (by have t1 : 1 ≤ y1.toInt := q_leI y1lo; have t2 : y1.toInt ≤ 3 := q_leI y1hi; have t3 : y1.toInt = y3.toInt := q_eqI c1; omega)) (by decide) (by have t1 : 1 ≤ y1.toInt := q_leI y1lo; have t2 : y1.toInt ≤ 3 := q_leI y1hi; have t3 : y1.toInt = y3.toInt := q_eqI c1; omega) (by have t1 : 1 ≤ y1.toInt := q_leI y1lo; have t2 : y1.toInt ≤ 3 := q_leI y1hi; have t3 : y1.toInt = y3.toInt := q_eqI c1; omega)); have e2 : (0 : Int32).toInt = 0 := (by decide); have e3 := q_nltI c4; omega }; have t5 : 0 ≤ (((y1.toInt - 1) + (-1)) + (-1)) := by { have e1 : ((((y1 - 1) + (-1)) + (-1)) : Int32).toInt = (((y1.toInt - 1) + (-1)) + (-1)) := (q_addI (x := ((y1.toInt - 1) + (-1))) (y := (-1)) (q_addI (x := (y1.toInt - 1)) (y := (-1)) (q_subI (x := y1.toInt) (y := 1) rfl (by decide) (by have t1 : 1 ≤ y1.toInt := q_leI y1lo; have t2 : y1.toInt ≤ 3 := q_leI y1hi; have t3 : y1.toInt = y3.toInt := q_eqI c1; omega) (by have t1 : 1 ≤ y1.toInt := q_leI y1lo; have t2 : y1.toInt ≤ 3 := q_leI y1hi; have t3 : y1.toInt = y3.toInt := q_eqI c1; omega)) (by decide) (by have t1 : 1 ≤ y1.toInt := q_leI y1lo; have t2 : y1.toInt ≤ 3 := q_leI y1hi; have t3 : y1.toInt = y3.toInt := q_eqI c1; omega) (by have t1 : 1 ≤ y1.toInt := q_leI y1lo; have t2 : y1.toInt ≤ 3 := q_leI y1hi; have t3 : y1.toInt = y3.toInt := q_eqI c1; omega)) (by decide) (by have t1 : 1 ≤ y1.toInt := q_leI y1lo; have t2 : y1.toInt ≤ 3 := q_leI y1hi; have t3 : y1.toInt = y3.toInt := q_eqI c1; omega) (by have t1 : 1 ≤ y1.toInt := q_leI y1lo; have t2 : y1.toInt ≤ 3 := q_leI y1hi; have t3 : y1.toInt = y3.toInt := q_eqI c1; omega)); have e2 : (0 : Int32).toInt = 0 := (by decide); have e3 := q_nltI c6; omega }; omega) (by have t1 : 1 ≤ y1.toInt := q_leI y1lo; have t2 : y1.toInt ≤ 3 := q_leI y1hi; have t3 : y1.toInt = y3.toInt := q_eqI c1; have t4 : 0 ≤ ((y1.toInt - 1) + (-1)) := by { have e1 : (((y1 - 1) + (-1)) : Int32).toInt = ((y1.toInt - 1) + (-1)) := (q_addI (x := (y1.toInt - 1)) (y := (-1)) (q_subI (x := y1.toInt) (y := 1) rfl (by decide) (by have t1 : 1 ≤ y1.toInt := q_leI y1lo; have t2 : y1.toInt ≤ 3 := q_leI y1hi; have t3 : y1.toInt = y3.toInt := q_eqI c1; omega) (by have t1 : 1 ≤ y1.toInt := q_leI y1lo; have t2 : y1.toInt ≤ 3 := q_leI y1hi; have t3 : y1.toInt = y3.toInt := q_eqI c1; omega)) (by decide) (by have t1 : 1 ≤ y1.toInt := q_leI y1lo; have t2 : y1.toInt ≤ 3 := q_leI y1hi; have t3 : y1.toInt = y3.toInt := q_eqI c1; omega) (by have t1 : 1 ≤ y1.toInt := q_leI y1lo; have t2 : y1.toInt ≤ 3 := q_leI y1hi; have t3 : y1.toInt = y3.toInt := q_eqI c1; omega)); have e2 : (0 : Int32).toInt = 0 := (by decide); have e3 := q_nltI c4; omega }; have t5 : 0 ≤ (((y1.toInt - 1) + (-1)) + (-1)) := by { have e1 : ((((y1 - 1) + (-1)) + (-1)) : Int32).toInt = (((y1.toInt - 1) + (-1)) + (-1)) := (q_addI (x := ((y1.toInt - 1) + (-1))) (y := (-1)) (q_addI (x := (y1.toInt - 1)) (y := (-1)) (q_subI (x := y1.toInt) (y := 1) rfl (by decide) (by have t1 : 1 ≤ y1.toInt := q_leI y1lo; have t2 : y1.toInt ≤ 3 := q_leI y1hi; have t3 : y1.toInt = y3.toInt := q_eqI c1; omega) (by have t1 : 1 ≤ y1.toInt := q_leI y1lo; have t2 : y1.toInt ≤ 3 := q_leI y1hi; have t3 : y1.toInt = y3.toInt := q_eqI c1; omega)) (by decide) (by have t1 : 1 ≤ y1.toInt := q_leI y1lo; have t2 : y1.toInt ≤ 3 := q_leI y1hi; have t3 : y1.toInt = y3.toInt := q_eqI c1; omega) (by have t1 : 1 ≤ y1.toInt := q_leI y1lo; have t2 : y1.toInt ≤ 3 := q_leI y1hi; have t3 : y1.toInt = y3.toInt := q_eqI c1; omega)) (by decide) (by have t1 : 1 ≤ y1.toInt := q_leI y1lo; have t2 : y1.toInt ≤ 3 := q_leI y1hi; have t3 : y1.toInt = y3.toInt := q_eqI c1; omega) (by have t1 : 1 ≤ y1.toInt := q_leI y1lo; have t2 : y1.toInt ≤ 3 := q_leI y1hi; have t3 : y1.toInt = y3.toInt := q_eqI c1; omega)); have e2 : (0 : Int32).toInt = 0 := (by decide); have e3 := q_nltI c6; omega }; omega)) (by decide) (by have t1 : 1 ≤ y1.toInt := q_leI y1lo; have t2 : y1.toInt ≤ 3 := q_leI y1hi; have t3 : y1.toInt = y3.toInt := q_eqI c1; have t4 : 0 ≤ ((y1.toInt - 1) + (-1)) := by { have e1 : (((y1 - 1) + (-1)) : Int32).toInt = ((y1.toInt - 1) + (-1)) := (q_addI (x := (y1.toInt - 1)) (y := (-1)) (q_subI (x := y1.toInt) (y := 1) rfl (by decide) (by have t1 : 1 ≤ y1.toInt := q_leI y1lo; have t2 : y1.toInt ≤ 3 := q_leI y1hi; have t3 : y1.toInt = y3.toInt := q_eqI c1; omega) (by have t1 : 1 ≤ y1.toInt := q_leI y1lo; have t2 : y1.toInt ≤ 3 := q_leI y1hi; have t3 : y1.toInt = y3.toInt := q_eqI c1; omega)) (by decide) (by have t1 : 1 ≤ y1.toInt := q_leI y1lo; have t2 : y1.toInt ≤ 3 := q_leI y1hi; have t3 : y1.toInt = y3.toInt := q_eqI c1; omega) (by have t1 : 1 ≤ y1.toInt := q_leI y1lo; have t2 : y1.toInt ≤ 3 := q_leI y1hi; have t3 : y1.toInt = y3.toInt := q_eqI c1; omega)); have e2 : (0 : Int32).toInt = 0 := (by decide); have e3 := q_nltI c4; omega }; have t5 : 0 ≤ (((y1.toInt - 1) + (-1)) + (-1)) := by { have e1 : ((((y1 - 1) + (-1)) + (-1)) : Int32).toInt = (((y1.toInt - 1) + (-1)) + (-1)) := (q_addI (x := ((y1.toInt - 1) + (-1))) (y := (-1)) (q_addI (x := (y1.toInt - 1)) (y := (-1)) (q_subI (x := y1.toInt) (y := 1) rfl (by decide) (by have t1 : 1 ≤ y1.toInt := q_leI y1lo; have t2 : y1.toInt ≤ 3 := q_leI y1hi; have t3 : y1.toInt = y3.toInt := q_eqI c1; omega) (by have t1 : 1 ≤ y1.toInt := q_leI y1lo; have t2 : y1.toInt ≤ 3 := q_leI y1hi; have t3 : y1.toInt = y3.toInt := q_eqI c1; omega)) (by decide) (by have t1 : 1 ≤ y1.toInt := q_leI y1lo; have t2 : y1.toInt ≤ 3 := q_leI y1hi; have t3 : y1.toInt = y3.toInt := q_eqI c1; omega) (by have t1 : 1 ≤ y1.toInt := q_leI y1lo; have t2 : y1.toInt ≤ 3 := q_leI y1hi; have t3 : y1.toInt = y3.toInt := q_eqI c1; omega)) (by decide) (by have t1 : 1 ≤ y1.toInt := q_leI y1lo; have t2 : y1.toInt ≤ 3 := q_leI y1hi; have t3 : y1.toInt = y3.toInt := q_eqI c1; omega) (by have t1 : 1 ≤ y1.toInt := q_leI y1lo; have t2 : y1.toInt ≤ 3 := q_leI y1hi; have t3 : y1.toInt = y3.toInt := q_eqI c1; omega)); have e2 : (0 : Int32).toInt = 0 := (by decide); have e3 := q_nltI c6; omega }; omega)) ?_
              refine q_iald C0 V hA2 (by unfold vp_in; decide) d_2_21_54 ?_
              refine lv_aload_n hx hb d_2_21_55 rfl (lv_at hl 2 rfl) ?_
              refine q_get (ci := 2) (j := 0) (v := .ref qA3) C0 V i_Big rfl rfl hO1 (by decide) w_84 rfl d_2_21_56 ?_
              refine lv_iload_n hx hb d_2_21_59 rfl (lv_at hl 0 rfl) ?_
              refine q_ti (v := 0) (q_Ieq (x := (((y1.toInt - 1) + (-1)) + (-1))) (y := 0) (q_addI (x := ((y1.toInt - 1) + (-1))) (y := (-1)) (q_addI (x := (y1.toInt - 1)) (y := (-1)) (q_subI (x := y1.toInt) (y := 1) rfl (by decide) (by have t1 : 1 ≤ y1.toInt := q_leI y1lo; have t2 : y1.toInt ≤ 3 := q_leI y1hi; have t3 : y1.toInt = y3.toInt := q_eqI c1; have t4 : 0 ≤ ((y1.toInt - 1) + (-1)) := by { have e1 : (((y1 - 1) + (-1)) : Int32).toInt = ((y1.toInt - 1) + (-1)) := (q_addI (x := (y1.toInt - 1)) (y := (-1)) (q_subI (x := y1.toInt) (y := 1) rfl (by decide) (by have t1 : 1 ≤ y1.toInt := q_leI y1lo; have t2 : y1.toInt ≤ 3 := q_leI y1hi; have t3 : y1.toInt = y3.toInt := q_eqI c1; omega) (by have t1 : 1 ≤ y1.toInt := q_leI y1lo; have t2 : y1.toInt ≤ 3 := q_leI y1hi; have t3 : y1.toInt = y3.toInt := q_eqI c1; omega)) (by decide) (by have t1 : 1 ≤ y1.toInt := q_leI y1lo; have t2 : y1.toInt ≤ 3 := q_leI y1hi; have t3 : y1.toInt = y3.toInt := q_eqI c1; omega) (by have t1 : 1 ≤ y1.toInt := q_leI y1lo; have t2 : y1.toInt ≤ 3 := q_leI y1hi; have t3 : y1.toInt = y3.toInt := q_eqI c1; omega)); have e2 : (0 : Int32).toInt = 0 := (by decide); have e3 := q_nltI c4; omega }; have t5 : 0 ≤ (((y1.toInt - 1) + (-1)) + (-1)) := by { have e1 : ((((y1 - 1) + (-1)) + (-1)) : Int32).toInt = (((y1.toInt - 1) + (-1)) + (-1)) := (q_addI (x := ((y1.toInt - 1) + (-1))) (y := (-1)) (q_addI (x := (y1.toInt - 1)) (y := (-1)) (q_subI (x := y1.toInt) (y := 1) rfl (by decide) (by have t1 : 1 ≤ y1.toInt := q_leI y1lo; have t2 : y1.toInt ≤ 3 := q_leI y1hi; have t3 : y1.toInt = y3.toInt := q_eqI c1; omega) (by have t1 : 1 ≤ y1.toInt := q_leI y1lo; have t2 : y1.toInt ≤ 3 := q_leI y1hi; have t3 : y1.toInt = y3.toInt := q_eqI c1; omega)) (by decide) (by have t1 : 1 ≤ y1.toInt := q_leI y1lo; have t2 : y1.toInt ≤ 3 := q_leI y1hi; have t3 : y1.toInt = y3.toInt := q_eqI c1; omega) (by have t1 : 1 ≤ y1.toInt := q_leI y1lo; have t2 : y1.toInt ≤ 3 := q_leI y1hi; have t3 : y1.toInt = y3.toInt := q_eqI c1; omega)) (by decide) (by have t1 : 1 ≤ y1.toInt := q_leI y1lo; have t2 : y1.toInt ≤ 3 := q_leI y1hi; have t3 : y1.toInt = y3.toInt := q_eqI c1; omega) (by have t1 : 1 ≤ y1.toInt := q_leI y1lo; have t2 : y1.toInt ≤ 3 := q_leI y1hi; have t3 : y1.toInt = y3.toInt := q_eqI c1; omega)); have e2 : (0 : Int32).toInt = 0 := (by decide); have e3 := q_nltI c6; omega }; omega) (by have t1 : 1 ≤ y1.toInt := q_leI y1lo; have t2 : y1.toInt ≤ 3 := q_leI y1hi; have t3 : y1.toInt = y3.toInt := q_eqI c1; have t4 : 0 ≤ ((y1.toInt - 1) + (-1)) := by { have e1 : (((y1 - 1) + (-1)) : Int32).toInt = ((y1.toInt - 1) + (-1)) := (q_addI (x := (y1.toInt - 1)) (y := (-1)) (q_subI (x := y1.toInt) (y := 1) rfl (by decide) (by have t1 : 1 ≤ y1.toInt := q_leI y1lo; have t2 : y1.toInt ≤ 3 := q_leI y1hi; have t3 : y1.toInt = y3.toInt := q_eqI c1; omega) (by have t1 : 1 ≤ y1.toInt := q_leI y1lo; have t2 : y1.toInt ≤ 3 := q_leI y1hi; have t3 : y1.toInt = y3.toInt := q_eqI c1; omega)) (by decide) (by have t1 : 1 ≤ y1.toInt := q_leI y1lo; have t2 : y1.toInt ≤ 3 := q_leI y1hi; have t3 : y1.toInt = y3.toInt := q_eqI c1; omega) (by have t1 : 1 ≤ y1.toInt := q_leI y1lo; have t2 : y1.toInt ≤ 3 := q_leI y1hi; have t3 : y1.toInt = y3.toInt := q_eqI c1; omega)); have e2 : (0 : Int32).toInt = 0 := (by decide); have e3 := q_nltI c4; omega }; have t5 : 0 ≤ (((y1.toInt - 1) + (-1)) + (-1)) := by { have e1 : ((((y1 - 1) + (-1)) + (-1)) : Int32).toInt = (((y1.toInt - 1) + (-1)) + (-1)) := (q_addI (x := ((y1.toInt - 1) + (-1))) (y := (-1)) (q_addI (x := (y1.toInt - 1)) (y := (-1)) (q_subI (x := y1.toInt) (y := 1) rfl (by decide) (by have t1 : 1 ≤ y1.toInt := q_leI y1lo; have t2 : y1.toInt ≤ 3 := q_leI y1hi; have t3 : y1.toInt = y3.toInt := q_eqI c1; omega) (by have t1 : 1 ≤ y1.toInt := q_leI y1lo; have t2 : y1.toInt ≤ 3 := q_leI y1hi; have t3 : y1.toInt = y3.toInt := q_eqI c1; omega)) (by decide) (by have t1 : 1 ≤ y1.toInt := q_leI y1lo; have t2 : y1.toInt ≤ 3 := q_leI y1hi; have t3 : y1.toInt = y3.toInt := q_eqI c1; omega) (by have t1 : 1 ≤ y1.toInt := q_leI y1lo; have t2 : y1.toInt ≤ 3 := q_leI y1hi; have t3 : y1.toInt = y3.toInt := q_eqI c1; omega)) (by decide) (by have t1 : 1 ≤ y1.toInt := q_leI y1lo; have t2 : y1.toInt ≤ 3 := q_leI y1hi; have t3 : y1.toInt = y3.toInt := q_eqI c1; omega) (by have t1 : 1 ≤ y1.toInt := q_leI y1lo; have t2 : y1.toInt ≤ 3 := q_leI y1hi; have t3 : y1.toInt = y3.toInt := q_eqI c1; omega)); have e2 : (0 : Int32).toInt = 0 := (by decide); have e3 := q_nltI c6; omega }; omega)) (by decide) (by have t1 : 1 ≤ y1.toInt := q_leI y1lo; have t2 : y1.toInt ≤ 3 := q_leI y1hi; have t3 : y1.toInt = y3.toInt := q_eqI c1; have t4 : 0 ≤ ((y1.toInt - 1) + (-1)) := by { have e1 : (((y1 - 1) + (-1)) : Int32).toInt = ((y1.toInt - 1) + (-1)) := (q_addI (x := (y1.toInt - 1)) (y := (-1)) (q_subI (x := y1.toInt) (y := 1) rfl (by decide) (by have t1 : 1 ≤ y1.toInt := q_leI y1lo; have t2 : y1.toInt ≤ 3 := q_leI y1hi; have t3 : y1.toInt = y3.toInt := q_eqI c1; omega) (by have t1 : 1 ≤ y1.toInt := q_leI y1lo; have t2 : y1.toInt ≤ 3 := q_leI y1hi; have t3 : y1.toInt = y3.toInt := q_eqI c1; omega)) (by decide) (by have t1 : 1 ≤ y1.toInt := q_leI y1lo; have t2 : y1.toInt ≤ 3 := q_leI y1hi; have t3 : y1.toInt = y3.toInt := q_eqI c1; omega) (by have t1 : 1 ≤ y1.toInt := q_leI y1lo; have t2 : y1.toInt ≤ 3 := q_leI y1hi; have t3 : y1.toInt = y3.toInt := q_eqI c1; omega)); have e2 : (0 : Int32).toInt = 0 := (by decide); have e3 := q_nltI c4; omega }; have t5 : 0 ≤ (((y1.toInt - 1) + (-1)) + (-1)) := by { have e1 : ((((y1 - 1) + (-1)) + (-1)) : Int32).toInt = (((y1.toInt - 1) + (-1)) + (-1)) := (q_addI (x := ((y1.toInt - 1) + (-1))) (y := (-1)) (q_addI (x := (y1.toInt - 1)) (y := (-1)) (q_subI (x := y1.toInt) (y := 1) rfl (by decide) (by have t1 : 1 ≤ y1.toInt := q_leI y1lo; have t2 : y1.toInt ≤ 3 := q_leI y1hi; have t3 : y1.toInt = y3.toInt := q_eqI c1; omega) (by have t1 : 1 ≤ y1.toInt := q_leI y1lo; have t2 : y1.toInt ≤ 3 := q_leI y1hi; have t3 : y1.toInt = y3.toInt := q_eqI c1; omega)) (by decide) (by have t1 : 1 ≤ y1.toInt := q_leI y1lo; have t2 : y1.toInt ≤ 3 := q_leI y1hi; have t3 : y1.toInt = y3.toInt := q_eqI c1; omega) (by have t1 : 1 ≤ y1.toInt := q_leI y1lo; have t2 : y1.toInt ≤ 3 := q_leI y1hi; have t3 : y1.toInt = y3.toInt := q_eqI c1; omega)) (by decide) (by have t1 : 1 ≤ y1.toInt := q_leI y1lo; have t2 : y1.toInt ≤ 3 := q_leI y1hi; have t3 : y1.toInt = y3.toInt := q_eqI c1; omega) (by have t1 : 1 ≤ y1.toInt := q_leI y1lo; have t2 : y1.toInt ≤ 3 := q_leI y1hi; have t3 : y1.toInt = y3.toInt := q_eqI c1; omega)); have e2 : (0 : Int32).toInt = 0 := (by decide); have e3 := q_nltI c6; omega }; omega) (by have t1 : 1 ≤ y1.toInt := q_leI y1lo; have t2 : y1.toInt ≤ 3 := q_leI y1hi; have t3 : y1.toInt = y3.toInt := q_eqI c1; have t4 : 0 ≤ ((y1.toInt - 1) + (-1)) := by { have e1 : (((y1 - 1) + (-1)) : Int32).toInt = ((y1.toInt - 1) + (-1)) := (q_addI (x := (y1.toInt - 1)) (y := (-1)) (q_subI (x := y1.toInt) (y := 1) rfl (by decide) (by have t1 : 1 ≤ y1.toInt := q_leI y1lo; have t2 : y1.toInt ≤ 3 := q_leI y1hi; have t3 : y1.toInt = y3.toInt := q_eqI c1; omega) (by have t1 : 1 ≤ y1.toInt := q_leI y1lo; have t2 : y1.toInt ≤ 3 := q_leI y1hi; have t3 : y1.toInt = y3.toInt := q_eqI c1; omega)) (by decide) (by have t1 : 1 ≤ y1.toInt := q_leI y1lo; have t2 : y1.toInt ≤ 3 := q_leI y1hi; have t3 : y1.toInt = y3.toInt := q_eqI c1; omega) (by have t1 : 1 ≤ y1.toInt := q_leI y1lo; have t2 : y1.toInt ≤ 3 := q_leI y1hi; have t3 : y1.toInt = y3.toInt := q_eqI c1; omega)); have e2 : (0 : Int32).toInt = 0 := (by decide); have e3 := q_nltI c4; omega }; have t5 : 0 ≤ (((y1.toInt - 1) + (-1)) + (-1)) := by { have e1 : ((((y1 - 1) + (-1)) + (-1)) : Int32).toInt = (((y1.toInt - 1) + (-1)) + (-1)) := (q_addI (x := ((y1.toInt - 1) + (-1))) (y := (-1)) (q_addI (x := (y1.toInt - 1)) (y := (-1)) (q_subI (x := y1.toInt) (y := 1) rfl (by decide) (by have t1 : 1 ≤ y1.toInt := q_leI y1lo; have t2 : y1.toInt ≤ 3 := q_leI y1hi; have t3 : y1.toInt = y3.toInt := q_eqI c1; omega) (by have t1 : 1 ≤ y1.toInt := q_leI y1lo; have t2 : y1.toInt ≤ 3 := q_leI y1hi; have t3 : y1.toInt = y3.toInt := q_eqI c1; omega)) (by decide) (by have t1 : 1 ≤ y1.toInt := q_leI y1lo; have t2 : y1.toInt ≤ 3 := q_leI y1hi; have t3 : y1.toInt = y3.toInt := q_eqI c1; omega) (by have t1 : 1 ≤ y1.toInt := q_leI y1lo; have t2 : y1.toInt ≤ 3 := q_leI y1hi; have t3 : y1.toInt = y3.toInt := q_eqI c1; omega)) (by decide) (by have t1 : 1 ≤ y1.toInt := q_leI y1lo; have t2 : y1.toInt ≤ 3 := q_leI y1hi; have t3 : y1.toInt = y3.toInt := q_eqI c1; omega) (by have t1 : 1 ≤ y1.toInt := q_leI y1lo; have t2 : y1.toInt ≤ 3 := q_leI y1hi; have t3 : y1.toInt = y3.toInt := q_eqI c1; omega)); have e2 : (0 : Int32).toInt = 0 := (by decide); have e3 := q_nltI c6; omega }; omega)) (by decide) (by have t1 : 1 ≤ y1.toInt := q_leI y1lo; have t2 : y1.toInt ≤ 3 := q_leI y1hi; have t3 : y1.toInt = y3.toInt := q_eqI c1; have t4 : 0 ≤ ((y1.toInt - 1) + (-1)) := by { have e1 : (((y1 - 1) + (-1)) : Int32).toInt = ((y1.toInt - 1) + (-1)) := (q_addI (x := (y1.toInt - 1)) (y := (-1)) (q_subI (x := y1.toInt) (y := 1) rfl (by decide) (by have t1 : 1 ≤ y1.toInt := q_leI y1lo; have t2 : y1.toInt ≤ 3 := q_leI y1hi; have t3 : y1.toInt = y3.toInt := q_eqI c1; omega) (by have t1 : 1 ≤ y1.toInt := q_leI y1lo; have t2 : y1.toInt ≤ 3 := q_leI y1hi; have t3 : y1.toInt = y3.toInt := q_eqI c1; omega)) (by decide) (by have t1 : 1 ≤ y1.toInt := q_leI y1lo; have t2 : y1.toInt ≤ 3 := q_leI y1hi; have t3 : y1.toInt = y3.toInt := q_eqI c1; omega) (by have t1 : 1 ≤ y1.toInt := q_leI y1lo; have t2 : y1.toInt ≤ 3 := q_leI y1hi; have t3 : y1.toInt = y3.toInt := q_eqI c1; omega)); have e2 : (0 : Int32).toInt = 0 := (by decide); have e3 := q_nltI c4; omega }; have t5 : 0 ≤ (((y1.toInt - 1) + (-1)) + (-1)) := by { have e1 : ((((y1 - 1) + (-1)) + (-1)) : Int32).toInt = (((y1.toInt - 1) + (-1)) + (-1)) := (q_addI (x := ((y1.toInt - 1) + (-1))) (y := (-1)) (q_addI (x := (y1.toInt - 1)) (y := (-1)) (q_subI (x := y1.toInt) (y := 1) rfl (by decide) (by have t1 : 1 ≤ y1.toInt := q_leI y1lo; have t2 : y1.toInt ≤ 3 := q_leI y1hi; have t3 : y1.toInt = y3.toInt := q_eqI c1; omega) (by have t1 : 1 ≤ y1.toInt := q_leI y1lo; have t2 : y1.toInt ≤ 3 := q_leI y1hi; have t3 : y1.toInt = y3.toInt := q_eqI c1; omega)) (by decide) (by have t1 : 1 ≤ y1.toInt := q_leI y1lo; have t2 : y1.toInt ≤ 3 := q_leI y1hi; have t3 : y1.toInt = y3.toInt := q_eqI c1; omega) (by have t1 : 1 ≤ y1.toInt := q_leI y1lo; have t2 : y1.toInt ≤ 3 := q_leI y1hi; have t3 : y1.toInt = y3.toInt := q_eqI c1; omega)) (by decide) (by have t1 : 1 ≤ y1.toInt := q_leI y1lo; have t2 : y1.toInt ≤ 3 := q_leI y1hi; have t3 : y1.toInt = y3.toInt := q_eqI c1; omega) (by have t1 : 1 ≤ y1.toInt := q_leI y1lo; have t2 : y1.toInt ≤ 3 := q_leI y1hi; have t3 : y1.toInt = y3.toInt := q_eqI c1; omega)); have e2 : (0 : Int32).toInt = 0 := (by decide); have e3 := q_nltI c6; omega }; omega) (by have t1 : 1 ≤ y1.toInt := q_leI y1lo; have t2 : y1.toInt ≤ 3 := q_leI y1hi; have t3 : y1.toInt = y3.toInt := q_eqI c1; have t4 : 0 ≤ ((y1.toInt - 1) + (-1)) := by { have e1 : (((y1 - 1) + (-1)) : Int32).toInt = ((y1.toInt - 1) + (-1)) := (q_addI (x := (y1.toInt - 1)) (y := (-1)) (q_subI (x := y1.toInt) (y := 1) rfl (by decide) (by have t1 : 1 ≤ y1.toInt := q_leI y1lo; have t2 : y1.toInt ≤ 3 := q_leI y1hi; have t3 : y1.toInt = y3.toInt := q_eqI c1; omega) (by have t1 : 1 ≤ y1.toInt := q_leI y1lo; have t2 : y1.toInt ≤ 3 := q_leI y1hi; have t3 : y1.toInt = y3.toInt := q_eqI c1; omega)) (by decide) (by have t1 : 1 ≤ y1.toInt := q_leI y1lo; have t2 : y1.toInt ≤ 3 := q_leI y1hi; have t3 : y1.toInt = y3.toInt := q_eqI c1; omega) (by have t1 : 1 ≤ y1.toInt := q_leI y1lo; have t2 : y1.toInt ≤ 3 := q_leI y1hi; have t3 : y1.toInt = y3.toInt := q_eqI c1; omega)); have e2 : (0 : Int32).toInt = 0 := (by decide); have e3 := q_nltI c4; omega }; have t5 : 0 ≤ (((y1.toInt - 1) + (-1)) + (-1)) := by { have e1 : ((((y1 - 1) + (-1)) + (-1)) : Int32).toInt = (((y1.toInt - 1) + (-1)) + (-1)) := (q_addI (x := ((y1.toInt - 1) + (-1))) (y := (-1)) (q_addI (x := (y1.toInt - 1)) (y := (-1)) (q_subI (x := y1.toInt) (y := 1) rfl (by decide) (by have t1 : 1 ≤ y1.toInt := q_leI y1lo; have t2 : y1.toInt ≤ 3 := q_leI y1hi; have t3 : y1.toInt = y3.toInt := q_eqI c1; omega) (by have t1 : 1 ≤ y1.toInt := q_leI y1lo; have t2 : y1.toInt ≤ 3 := q_leI y1hi; have t3 : y1.toInt = y3.toInt := q_eqI c1; omega)) (by decide) (by have t1 : 1 ≤ y1.toInt := q_leI y1lo; have t2 : y1.toInt ≤ 3 := q_leI y1hi; have t3 : y1.toInt = y3.toInt := q_eqI c1; omega) (by have t1 : 1 ≤ y1.toInt := q_leI y1lo; have t2 : y1.toInt ≤ 3 := q_leI y1hi; have t3 : y1.toInt = y3.toInt := q_eqI c1; omega)) (by decide) (by have t1 : 1 ≤ y1.toInt := q_leI y1lo; have t2 : y1.toInt ≤ 3 := q_leI y1hi; have t3 : y1.toInt = y3.toInt := q_eqI c1; omega) (by have t1 : 1 ≤ y1.toInt := q_leI y1lo; have t2 : y1.toInt ≤ 3 := q_leI y1hi; have t3 : y1.toInt = y3.toInt := q_eqI c1; omega)); have e2 : (0 : Int32).toInt = 0 := (by decide); have e3 := q_nltI c6; omega }; omega)) (by decide) (by have t1 : 1 ≤ y1.toInt := q_leI y1lo; have t2 : y1.toInt ≤ 3 := q_leI y1hi; have t3 : y1.toInt = y3.toInt := q_eqI c1; have t4 : 0 ≤ ((y1.toInt - 1) + (-1)) := by { have e1 : (((y1 - 1) + (-1)) : Int32).toInt = ((y1.toInt - 1) + (-1)) := (q_addI (x := (y1.toInt - 1)) (y := (-1)) (q_subI (x := y1.toInt) (y := 1) rfl (by decide) (by have t1 : 1 ≤ y1.toInt := q_leI y1lo; have t2 : y1.toInt ≤ 3 := q_leI y1hi; have t3 : y1.toInt = y3.toInt := q_eqI c1; omega) (by have t1 : 1 ≤ y1.toInt := q_leI y1lo; have t2 : y1.toInt ≤ 3 := q_leI y1hi; have t3 : y1.toInt = y3.toInt := q_eqI c1; omega)) (by decide) (by have t1 : 1 ≤ y1.toInt := q_leI y1lo; have t2 : y1.toInt ≤ 3 := q_leI y1hi; have t3 : y1.toInt = y3.toInt := q_eqI c1; omega) (by have t1 : 1 ≤ y1.toInt := q_leI y1lo; have t2 : y1.toInt ≤ 3 := q_leI y1hi; have t3 : y1.toInt = y3.toInt := q_eqI c1; omega)); have e2 : (0 : Int32).toInt = 0 := (by decide); have e3 := q_nltI c4; omega }; have t5 : 0 ≤ (((y1.toInt - 1) + (-1)) + (-1)) := by { have e1 : ((((y1 - 1) + (-1)) + (-1)) : Int32).toInt = (((y1.toInt - 1) + (-1)) + (-1)) := (q_addI (x := ((y1.toInt - 1) + (-1))) (y := (-1)) (q_addI (x := (y1.toInt - 1)) (y := (-1)) (q_subI (x := y1.toInt) (y := 1) rfl (by decide) (by have t1 : 1 ≤ y1.toInt := q_leI y1lo; have t2 : y1.toInt ≤ 3 := q_leI y1hi; have t3 : y1.toInt = y3.toInt := q_eqI c1; omega) (by have t1 : 1 ≤ y1.toInt := q_leI y1lo; have t2 : y1.toInt ≤ 3 := q_leI y1hi; have t3 : y1.toInt = y3.toInt := q_eqI c1; omega)) (by decide) (by have t1 : 1 ≤ y1.toInt := q_leI y1lo; have t2 : y1.toInt ≤ 3 := q_leI y1hi; have t3 : y1.toInt = y3.toInt := q_eqI c1; omega) (by have t1 : 1 ≤ y1.toInt := q_leI y1lo; have t2 : y1.toInt ≤ 3 := q_leI y1hi; have t3 : y1.toInt = y3.toInt := q_eqI c1; omega)) (by decide) (by have t1 : 1 ≤ y1.toInt := q_leI y1lo; have t2 : y1.toInt ≤ 3 := q_leI y1hi; have t3 : y1.toInt = y3.toInt := q_eqI c1; omega) (by have t1 : 1 ≤ y1.toInt := q_leI y1lo; have t2 : y1.toInt ≤ 3 := q_leI y1hi; have t3 : y1.toInt = y3.toInt := q_eqI c1; omega)); have e2 : (0 : Int32).toInt = 0 := (by decide); have e3 := q_nltI c6; omega }; omega)) ?_
              refine q_iald C0 V hA3 (by unfold vp_in; decide) d_2_21_60 ?_
              refine q_goi V (q_runS (As := [.int (f4 (0 : Int32).toNatClampNeg), .int (f5 (0 : Int32).toNatClampNeg)]) (rest := []) (d := 1) (mc := 0) (ms := 0) C0 V rfl LS_Big_75 (c_jInt_compare_3 l D g ws (f4 (0 : Int32).toNatClampNeg) (f5 (0 : Int32).toNatClampNeg) _) rfl hl.1 rfl (Nat.le_of_ble_eq_true rfl) ⟨by decide, by decide⟩ ⟨Nat.le_of_ble_eq_true rfl, Nat.le_of_ble_eq_true rfl⟩ d_2_21_61) (fun v11 u10 H locs hp9 V => ?_)
              rcases hp9 with ⟨c12, c13, rfl, rfl⟩ | ⟨c15, c16, rfl, rfl⟩ | ⟨c18, rfl, rfl⟩
              ·
                exact q_reti C0 V (Or.inr (Or.inl ⟨rfl, rfl⟩)) d_2_21_64
              ·
                exact q_reti C0 V (Or.inl ⟨rfl, rfl⟩) d_2_21_64
              ·
                exact q_reti C0 V (Or.inr (Or.inr (⟨rfl, rfl⟩))) d_2_21_64
        ·
          refine lv_aload_n hx hb d_2_21_49 rfl (lv_at hl 1 rfl) ?_
          refine q_get (ci := 2) (j := 0) (v := .ref qA2) C0 V i_Big rfl rfl hO0 (by decide) w_84 rfl d_2_21_50 ?_
          refine lv_iload_n hx hb d_2_21_53 rfl (lv_at hl 0 rfl) ?_
          refine q_iald C0 V hA2 (q_ix (x := ((y1.toInt - 1) + (-1))) (q_addI (x := (y1.toInt - 1)) (y := (-1)) (q_subI (x := y1.toInt) (y := 1) rfl (by decide) (by have t1 : 1 ≤ y1.toInt := q_leI y1lo; have t2 : y1.toInt ≤ 3 := q_leI y1hi; have t3 : y1.toInt = y3.toInt := q_eqI c1; have t4 : 0 ≤ ((y1.toInt - 1) + (-1)) := by { have e1 : (((y1 - 1) + (-1)) : Int32).toInt = ((y1.toInt - 1) + (-1)) := (q_addI (x := (y1.toInt - 1)) (y := (-1)) (q_subI (x := y1.toInt) (y := 1) rfl (by decide) (by have t1 : 1 ≤ y1.toInt := q_leI y1lo; have t2 : y1.toInt ≤ 3 := q_leI y1hi; have t3 : y1.toInt = y3.toInt := q_eqI c1; omega) (by have t1 : 1 ≤ y1.toInt := q_leI y1lo; have t2 : y1.toInt ≤ 3 := q_leI y1hi; have t3 : y1.toInt = y3.toInt := q_eqI c1; omega)) (by decide) (by have t1 : 1 ≤ y1.toInt := q_leI y1lo; have t2 : y1.toInt ≤ 3 := q_leI y1hi; have t3 : y1.toInt = y3.toInt := q_eqI c1; omega) (by have t1 : 1 ≤ y1.toInt := q_leI y1lo; have t2 : y1.toInt ≤ 3 := q_leI y1hi; have t3 : y1.toInt = y3.toInt := q_eqI c1; omega)); have e2 : (0 : Int32).toInt = 0 := (by decide); have e3 := q_nltI c4; omega }; omega) (by have t1 : 1 ≤ y1.toInt := q_leI y1lo; have t2 : y1.toInt ≤ 3 := q_leI y1hi; have t3 : y1.toInt = y3.toInt := q_eqI c1; have t4 : 0 ≤ ((y1.toInt - 1) + (-1)) := by { have e1 : (((y1 - 1) + (-1)) : Int32).toInt = ((y1.toInt - 1) + (-1)) := (q_addI (x := (y1.toInt - 1)) (y := (-1)) (q_subI (x := y1.toInt) (y := 1) rfl (by decide) (by have t1 : 1 ≤ y1.toInt := q_leI y1lo; have t2 : y1.toInt ≤ 3 := q_leI y1hi; have t3 : y1.toInt = y3.toInt := q_eqI c1; omega) (by have t1 : 1 ≤ y1.toInt := q_leI y1lo; have t2 : y1.toInt ≤ 3 := q_leI y1hi; have t3 : y1.toInt = y3.toInt := q_eqI c1; omega)) (by decide) (by have t1 : 1 ≤ y1.toInt := q_leI y1lo; have t2 : y1.toInt ≤ 3 := q_leI y1hi; have t3 : y1.toInt = y3.toInt := q_eqI c1; omega) (by have t1 : 1 ≤ y1.toInt := q_leI y1lo; have t2 : y1.toInt ≤ 3 := q_leI y1hi; have t3 : y1.toInt = y3.toInt := q_eqI c1; omega)); have e2 : (0 : Int32).toInt = 0 := (by decide); have e3 := q_nltI c4; omega }; omega)) (by decide) (by have t1 : 1 ≤ y1.toInt := q_leI y1lo; have t2 : y1.toInt ≤ 3 := q_leI y1hi; have t3 : y1.toInt = y3.toInt := q_eqI c1; have t4 : 0 ≤ ((y1.toInt - 1) + (-1)) := by { have e1 : (((y1 - 1) + (-1)) : Int32).toInt = ((y1.toInt - 1) + (-1)) := (q_addI (x := (y1.toInt - 1)) (y := (-1)) (q_subI (x := y1.toInt) (y := 1) rfl (by decide) (by have t1 : 1 ≤ y1.toInt := q_leI y1lo; have t2 : y1.toInt ≤ 3 := q_leI y1hi; have t3 : y1.toInt = y3.toInt := q_eqI c1; omega) (by have t1 : 1 ≤ y1.toInt := q_leI y1lo; have t2 : y1.toInt ≤ 3 := q_leI y1hi; have t3 : y1.toInt = y3.toInt := q_eqI c1; omega)) (by decide) (by have t1 : 1 ≤ y1.toInt := q_leI y1lo; have t2 : y1.toInt ≤ 3 := q_leI y1hi; have t3 : y1.toInt = y3.toInt := q_eqI c1; omega) (by have t1 : 1 ≤ y1.toInt := q_leI y1lo; have t2 : y1.toInt ≤ 3 := q_leI y1hi; have t3 : y1.toInt = y3.toInt := q_eqI c1; omega)); have e2 : (0 : Int32).toInt = 0 := (by decide); have e3 := q_nltI c4; omega }; omega) (by have t1 : 1 ≤ y1.toInt := q_leI y1lo; have t2 : y1.toInt ≤ 3 := q_leI y1hi; have t3 : y1.toInt = y3.toInt := q_eqI c1; have t4 : 0 ≤ ((y1.toInt - 1) + (-1)) := by { have e1 : (((y1 - 1) + (-1)) : Int32).toInt = ((y1.toInt - 1) + (-1)) := (q_addI (x := (y1.toInt - 1)) (y := (-1)) (q_subI (x := y1.toInt) (y := 1) rfl (by decide) (by have t1 : 1 ≤ y1.toInt := q_leI y1lo; have t2 : y1.toInt ≤ 3 := q_leI y1hi; have t3 : y1.toInt = y3.toInt := q_eqI c1; omega) (by have t1 : 1 ≤ y1.toInt := q_leI y1lo; have t2 : y1.toInt ≤ 3 := q_leI y1hi; have t3 : y1.toInt = y3.toInt := q_eqI c1; omega)) (by decide) (by have t1 : 1 ≤ y1.toInt := q_leI y1lo; have t2 : y1.toInt ≤ 3 := q_leI y1hi; have t3 : y1.toInt = y3.toInt := q_eqI c1; omega) (by have t1 : 1 ≤ y1.toInt := q_leI y1lo; have t2 : y1.toInt ≤ 3 := q_leI y1hi; have t3 : y1.toInt = y3.toInt := q_eqI c1; omega)); have e2 : (0 : Int32).toInt = 0 := (by decide); have e3 := q_nltI c4; omega }; omega)) (by have t1 : 1 ≤ y1.toInt := q_leI y1lo; have t2 : y1.toInt ≤ 3 := q_leI y1hi; have t3 : y1.toInt = y3.toInt := q_eqI c1; have t4 : 0 ≤ ((y1.toInt - 1) + (-1)) := by { have e1 : (((y1 - 1) + (-1)) : Int32).toInt = ((y1.toInt - 1) + (-1)) := (q_addI (x := (y1.toInt - 1)) (y := (-1)) (q_subI (x := y1.toInt) (y := 1) rfl (by decide) (by have t1 : 1 ≤ y1.toInt := q_leI y1lo; have t2 : y1.toInt ≤ 3 := q_leI y1hi; have t3 : y1.toInt = y3.toInt := q_eqI c1; omega) (by have t1 : 1 ≤ y1.toInt := q_leI y1lo; have t2 : y1.toInt ≤ 3 := q_leI y1hi; have t3 : y1.toInt = y3.toInt := q_eqI c1; omega)) (by decide) (by have t1 : 1 ≤ y1.toInt := q_leI y1lo; have t2 : y1.toInt ≤ 3 := q_leI y1hi; have t3 : y1.toInt = y3.toInt := q_eqI c1; omega) (by have t1 : 1 ≤ y1.toInt := q_leI y1lo; have t2 : y1.toInt ≤ 3 := q_leI y1hi; have t3 : y1.toInt = y3.toInt := q_eqI c1; omega)); have e2 : (0 : Int32).toInt = 0 := (by decide); have e3 := q_nltI c4; omega }; omega) (by have t1 : 1 ≤ y1.toInt := q_leI y1lo; have t2 : y1.toInt ≤ 3 := q_leI y1hi; have t3 : y1.toInt = y3.toInt := q_eqI c1; have t4 : 0 ≤ ((y1.toInt - 1) + (-1)) := by { have e1 : (((y1 - 1) + (-1)) : Int32).toInt = ((y1.toInt - 1) + (-1)) := (q_addI (x := (y1.toInt - 1)) (y := (-1)) (q_subI (x := y1.toInt) (y := 1) rfl (by decide) (by have t1 : 1 ≤ y1.toInt := q_leI y1lo; have t2 : y1.toInt ≤ 3 := q_leI y1hi; have t3 : y1.toInt = y3.toInt := q_eqI c1; omega) (by have t1 : 1 ≤ y1.toInt := q_leI y1lo; have t2 : y1.toInt ≤ 3 := q_leI y1hi; have t3 : y1.toInt = y3.toInt := q_eqI c1; omega)) (by decide) (by have t1 : 1 ≤ y1.toInt := q_leI y1lo; have t2 : y1.toInt ≤ 3 := q_leI y1hi; have t3 : y1.toInt = y3.toInt := q_eqI c1; omega) (by have t1 : 1 ≤ y1.toInt := q_leI y1lo; have t2 : y1.toInt ≤ 3 := q_leI y1hi; have t3 : y1.toInt = y3.toInt := q_eqI c1; omega)); have e2 : (0 : Int32).toInt = 0 := (by decide); have e3 := q_nltI c4; omega }; omega)) d_2_21_54 ?_
          refine lv_aload_n hx hb d_2_21_55 rfl (lv_at hl 2 rfl) ?_
          refine q_get (ci := 2) (j := 0) (v := .ref qA3) C0 V i_Big rfl rfl hO1 (by decide) w_84 rfl d_2_21_56 ?_
          refine lv_iload_n hx hb d_2_21_59 rfl (lv_at hl 0 rfl) ?_
          refine q_iald C0 V hA3 (q_ix (x := ((y1.toInt - 1) + (-1))) (q_addI (x := (y1.toInt - 1)) (y := (-1)) (q_subI (x := y1.toInt) (y := 1) rfl (by decide) (by have t1 : 1 ≤ y1.toInt := q_leI y1lo; have t2 : y1.toInt ≤ 3 := q_leI y1hi; have t3 : y1.toInt = y3.toInt := q_eqI c1; have t4 : 0 ≤ ((y1.toInt - 1) + (-1)) := by { have e1 : (((y1 - 1) + (-1)) : Int32).toInt = ((y1.toInt - 1) + (-1)) := (q_addI (x := (y1.toInt - 1)) (y := (-1)) (q_subI (x := y1.toInt) (y := 1) rfl (by decide) (by have t1 : 1 ≤ y1.toInt := q_leI y1lo; have t2 : y1.toInt ≤ 3 := q_leI y1hi; have t3 : y1.toInt = y3.toInt := q_eqI c1; omega) (by have t1 : 1 ≤ y1.toInt := q_leI y1lo; have t2 : y1.toInt ≤ 3 := q_leI y1hi; have t3 : y1.toInt = y3.toInt := q_eqI c1; omega)) (by decide) (by have t1 : 1 ≤ y1.toInt := q_leI y1lo; have t2 : y1.toInt ≤ 3 := q_leI y1hi; have t3 : y1.toInt = y3.toInt := q_eqI c1; omega) (by have t1 : 1 ≤ y1.toInt := q_leI y1lo; have t2 : y1.toInt ≤ 3 := q_leI y1hi; have t3 : y1.toInt = y3.toInt := q_eqI c1; omega)); have e2 : (0 : Int32).toInt = 0 := (by decide); have e3 := q_nltI c4; omega }; omega) (by have t1 : 1 ≤ y1.toInt := q_leI y1lo; have t2 : y1.toInt ≤ 3 := q_leI y1hi; have t3 : y1.toInt = y3.toInt := q_eqI c1; have t4 : 0 ≤ ((y1.toInt - 1) + (-1)) := by { have e1 : (((y1 - 1) + (-1)) : Int32).toInt = ((y1.toInt - 1) + (-1)) := (q_addI (x := (y1.toInt - 1)) (y := (-1)) (q_subI (x := y1.toInt) (y := 1) rfl (by decide) (by have t1 : 1 ≤ y1.toInt := q_leI y1lo; have t2 : y1.toInt ≤ 3 := q_leI y1hi; have t3 : y1.toInt = y3.toInt := q_eqI c1; omega) (by have t1 : 1 ≤ y1.toInt := q_leI y1lo; have t2 : y1.toInt ≤ 3 := q_leI y1hi; have t3 : y1.toInt = y3.toInt := q_eqI c1; omega)) (by decide) (by have t1 : 1 ≤ y1.toInt := q_leI y1lo; have t2 : y1.toInt ≤ 3 := q_leI y1hi; have t3 : y1.toInt = y3.toInt := q_eqI c1; omega) (by have t1 : 1 ≤ y1.toInt := q_leI y1lo; have t2 : y1.toInt ≤ 3 := q_leI y1hi; have t3 : y1.toInt = y3.toInt := q_eqI c1; omega)); have e2 : (0 : Int32).toInt = 0 := (by decide); have e3 := q_nltI c4; omega }; omega)) (by decide) (by have t1 : 1 ≤ y1.toInt := q_leI y1lo; have t2 : y1.toInt ≤ 3 := q_leI y1hi; have t3 : y1.toInt = y3.toInt := q_eqI c1; have t4 : 0 ≤ ((y1.toInt - 1) + (-1)) := by { have e1 : (((y1 - 1) + (-1)) : Int32).toInt = ((y1.toInt - 1) + (-1)) := (q_addI (x := (y1.toInt - 1)) (y := (-1)) (q_subI (x := y1.toInt) (y := 1) rfl (by decide) (by have t1 : 1 ≤ y1.toInt := q_leI y1lo; have t2 : y1.toInt ≤ 3 := q_leI y1hi; have t3 : y1.toInt = y3.toInt := q_eqI c1; omega) (by have t1 : 1 ≤ y1.toInt := q_leI y1lo; have t2 : y1.toInt ≤ 3 := q_leI y1hi; have t3 : y1.toInt = y3.toInt := q_eqI c1; omega)) (by decide) (by have t1 : 1 ≤ y1.toInt := q_leI y1lo; have t2 : y1.toInt ≤ 3 := q_leI y1hi; have t3 : y1.toInt = y3.toInt := q_eqI c1; omega) (by have t1 : 1 ≤ y1.toInt := q_leI y1lo; have t2 : y1.toInt ≤ 3 := q_leI y1hi; have t3 : y1.toInt = y3.toInt := q_eqI c1; omega)); have e2 : (0 : Int32).toInt = 0 := (by decide); have e3 := q_nltI c4; omega }; omega) (by have t1 : 1 ≤ y1.toInt := q_leI y1lo; have t2 : y1.toInt ≤ 3 := q_leI y1hi; have t3 : y1.toInt = y3.toInt := q_eqI c1; have t4 : 0 ≤ ((y1.toInt - 1) + (-1)) := by { have e1 : (((y1 - 1) + (-1)) : Int32).toInt = ((y1.toInt - 1) + (-1)) := (q_addI (x := (y1.toInt - 1)) (y := (-1)) (q_subI (x := y1.toInt) (y := 1) rfl (by decide) (by have t1 : 1 ≤ y1.toInt := q_leI y1lo; have t2 : y1.toInt ≤ 3 := q_leI y1hi; have t3 : y1.toInt = y3.toInt := q_eqI c1; omega) (by have t1 : 1 ≤ y1.toInt := q_leI y1lo; have t2 : y1.toInt ≤ 3 := q_leI y1hi; have t3 : y1.toInt = y3.toInt := q_eqI c1; omega)) (by decide) (by have t1 : 1 ≤ y1.toInt := q_leI y1lo; have t2 : y1.toInt ≤ 3 := q_leI y1hi; have t3 : y1.toInt = y3.toInt := q_eqI c1; omega) (by have t1 : 1 ≤ y1.toInt := q_leI y1lo; have t2 : y1.toInt ≤ 3 := q_leI y1hi; have t3 : y1.toInt = y3.toInt := q_eqI c1; omega)); have e2 : (0 : Int32).toInt = 0 := (by decide); have e3 := q_nltI c4; omega }; omega)) (by have t1 : 1 ≤ y1.toInt := q_leI y1lo; have t2 : y1.toInt ≤ 3 := q_leI y1hi; have t3 : y1.toInt = y3.toInt := q_eqI c1; have t4 : 0 ≤ ((y1.toInt - 1) + (-1)) := by { have e1 : (((y1 - 1) + (-1)) : Int32).toInt = ((y1.toInt - 1) + (-1)) := (q_addI (x := (y1.toInt - 1)) (y := (-1)) (q_subI (x := y1.toInt) (y := 1) rfl (by decide) (by have t1 : 1 ≤ y1.toInt := q_leI y1lo; have t2 : y1.toInt ≤ 3 := q_leI y1hi; have t3 : y1.toInt = y3.toInt := q_eqI c1; omega) (by have t1 : 1 ≤ y1.toInt := q_leI y1lo; have t2 : y1.toInt ≤ 3 := q_leI y1hi; have t3 : y1.toInt = y3.toInt := q_eqI c1; omega)) (by decide) (by have t1 : 1 ≤ y1.toInt := q_leI y1lo; have t2 : y1.toInt ≤ 3 := q_leI y1hi; have t3 : y1.toInt = y3.toInt := q_eqI c1; omega) (by have t1 : 1 ≤ y1.toInt := q_leI y1lo; have t2 : y1.toInt ≤ 3 := q_leI y1hi; have t3 : y1.toInt = y3.toInt := q_eqI c1; omega)); have e2 : (0 : Int32).toInt = 0 := (by decide); have e3 := q_nltI c4; omega }; omega) (by have t1 : 1 ≤ y1.toInt := q_leI y1lo; have t2 : y1.toInt ≤ 3 := q_leI y1hi; have t3 : y1.toInt = y3.toInt := q_eqI c1; have t4 : 0 ≤ ((y1.toInt - 1) + (-1)) := by { have e1 : (((y1 - 1) + (-1)) : Int32).toInt = ((y1.toInt - 1) + (-1)) := (q_addI (x := (y1.toInt - 1)) (y := (-1)) (q_subI (x := y1.toInt) (y := 1) rfl (by decide) (by have t1 : 1 ≤ y1.toInt := q_leI y1lo; have t2 : y1.toInt ≤ 3 := q_leI y1hi; have t3 : y1.toInt = y3.toInt := q_eqI c1; omega) (by have t1 : 1 ≤ y1.toInt := q_leI y1lo; have t2 : y1.toInt ≤ 3 := q_leI y1hi; have t3 : y1.toInt = y3.toInt := q_eqI c1; omega)) (by decide) (by have t1 : 1 ≤ y1.toInt := q_leI y1lo; have t2 : y1.toInt ≤ 3 := q_leI y1hi; have t3 : y1.toInt = y3.toInt := q_eqI c1; omega) (by have t1 : 1 ≤ y1.toInt := q_leI y1lo; have t2 : y1.toInt ≤ 3 := q_leI y1hi; have t3 : y1.toInt = y3.toInt := q_eqI c1; omega)); have e2 : (0 : Int32).toInt = 0 := (by decide); have e3 := q_nltI c4; omega }; omega)) d_2_21_60 ?_
          refine q_goi V (q_runS (As := [.int (f4 ((y1 - 1) + (-1)).toNatClampNeg), .int (f5 ((y1 - 1) + (-1)).toNatClampNeg)]) (rest := []) (d := 1) (mc := 0) (ms := 0) C0 V rfl LS_Big_75 (c_jInt_compare_3 l D g ws (f4 ((y1 - 1) + (-1)).toNatClampNeg) (f5 ((y1 - 1) + (-1)).toNatClampNeg) _) rfl hl.1 rfl (Nat.le_of_ble_eq_true rfl) ⟨by decide, by decide⟩ ⟨Nat.le_of_ble_eq_true rfl, Nat.le_of_ble_eq_true rfl⟩ d_2_21_61) (fun v22 u21 H locs hp20 V => ?_)
          rcases hp20 with ⟨c23, c24, rfl, rfl⟩ | ⟨c26, c27, rfl, rfl⟩ | ⟨c29, rfl, rfl⟩
          ·
            exact q_reti C0 V (Or.inr (Or.inl ⟨rfl, rfl⟩)) d_2_21_64
          ·
            exact q_reti C0 V (Or.inl ⟨rfl, rfl⟩) d_2_21_64
          ·
            exact q_reti C0 V (Or.inr (Or.inr (⟨rfl, rfl⟩))) d_2_21_64
    ·
      refine lv_aload_n hx hb d_2_21_49 rfl (lv_at hl 1 rfl) ?_
      refine q_get (ci := 2) (j := 0) (v := .ref qA2) C0 V i_Big rfl rfl hO0 (by decide) w_84 rfl d_2_21_50 ?_
      refine lv_iload_n hx hb d_2_21_53 rfl (lv_at hl 0 rfl) ?_
      refine q_iald C0 V hA2 (q_ix (x := (y1.toInt - 1)) (q_subI (x := y1.toInt) (y := 1) rfl (by decide) (by have t1 : 1 ≤ y1.toInt := q_leI y1lo; have t2 : y1.toInt ≤ 3 := q_leI y1hi; have t3 : y1.toInt = y3.toInt := q_eqI c1; omega) (by have t1 : 1 ≤ y1.toInt := q_leI y1lo; have t2 : y1.toInt ≤ 3 := q_leI y1hi; have t3 : y1.toInt = y3.toInt := q_eqI c1; omega)) (by have t1 : 1 ≤ y1.toInt := q_leI y1lo; have t2 : y1.toInt ≤ 3 := q_leI y1hi; have t3 : y1.toInt = y3.toInt := q_eqI c1; omega) (by have t1 : 1 ≤ y1.toInt := q_leI y1lo; have t2 : y1.toInt ≤ 3 := q_leI y1hi; have t3 : y1.toInt = y3.toInt := q_eqI c1; omega)) d_2_21_54 ?_
      refine lv_aload_n hx hb d_2_21_55 rfl (lv_at hl 2 rfl) ?_
      refine q_get (ci := 2) (j := 0) (v := .ref qA3) C0 V i_Big rfl rfl hO1 (by decide) w_84 rfl d_2_21_56 ?_
      refine lv_iload_n hx hb d_2_21_59 rfl (lv_at hl 0 rfl) ?_
      refine q_iald C0 V hA3 (q_ix (x := (y1.toInt - 1)) (q_subI (x := y1.toInt) (y := 1) rfl (by decide) (by have t1 : 1 ≤ y1.toInt := q_leI y1lo; have t2 : y1.toInt ≤ 3 := q_leI y1hi; have t3 : y1.toInt = y3.toInt := q_eqI c1; omega) (by have t1 : 1 ≤ y1.toInt := q_leI y1lo; have t2 : y1.toInt ≤ 3 := q_leI y1hi; have t3 : y1.toInt = y3.toInt := q_eqI c1; omega)) (by have t1 : 1 ≤ y1.toInt := q_leI y1lo; have t2 : y1.toInt ≤ 3 := q_leI y1hi; have t3 : y1.toInt = y3.toInt := q_eqI c1; omega) (by have t1 : 1 ≤ y1.toInt := q_leI y1lo; have t2 : y1.toInt ≤ 3 := q_leI y1hi; have t3 : y1.toInt = y3.toInt := q_eqI c1; omega)) d_2_21_60 ?_
      refine q_goi V (q_runS (As := [.int (f4 (y1 - 1).toNatClampNeg), .int (f5 (y1 - 1).toNatClampNeg)]) (rest := []) (d := 1) (mc := 0) (ms := 0) C0 V rfl LS_Big_75 (c_jInt_compare_3 l D g ws (f4 (y1 - 1).toNatClampNeg) (f5 (y1 - 1).toNatClampNeg) _) rfl hl.1 rfl (Nat.le_of_ble_eq_true rfl) ⟨by decide, by decide⟩ ⟨Nat.le_of_ble_eq_true rfl, Nat.le_of_ble_eq_true rfl⟩ d_2_21_61) (fun v33 u32 H locs hp31 V => ?_)
      rcases hp31 with ⟨c34, c35, rfl, rfl⟩ | ⟨c37, c38, rfl, rfl⟩ | ⟨c40, rfl, rfl⟩
      ·
        exact q_reti C0 V (Or.inr (Or.inl ⟨rfl, rfl⟩)) d_2_21_64
      ·
        exact q_reti C0 V (Or.inl ⟨rfl, rfl⟩) d_2_21_64
      ·
        exact q_reti C0 V (Or.inr (Or.inr (⟨rfl, rfl⟩))) d_2_21_64
  ·
    refine lv_aload_n hx hb d_2_21_11 rfl (lv_at hl 0 rfl) ?_
    refine q_get (ci := 2) (j := 1) (v := .int y1) C0 V i_Big rfl rfl hO0 (by decide) w_85 rfl d_2_21_12 ?_
    refine lv_aload_n hx hb d_2_21_15 rfl (lv_at hl 1 rfl) ?_
    refine q_get (ci := 2) (j := 1) (v := .int y3) C0 V i_Big rfl rfl hO1 (by decide) w_85 rfl d_2_21_16 ?_
    refine q_goi V (q_runS (As := [.int y1, .int y3]) (rest := []) (d := 1) (mc := 0) (ms := 0) C0 V rfl LS_Big_75 (c_jInt_compare_3 l D g ws y1 y3 _) rfl hl.1 rfl (Nat.le_of_ble_eq_true rfl) ⟨by decide, by decide⟩ ⟨Nat.le_of_ble_eq_true rfl, Nat.le_of_ble_eq_true rfl⟩ d_2_21_19) (fun v44 u43 H locs hp42 V => ?_)
    rcases hp42 with ⟨c45, c46, rfl, rfl⟩ | ⟨c48, c49, rfl, rfl⟩ | ⟨c51, rfl, rfl⟩
    ·
      exact q_reti C0 V (Or.inr (Or.inl ⟨rfl, rfl⟩)) d_2_21_22
    ·
      exact q_reti C0 V (Or.inl ⟨rfl, rfl⟩) d_2_21_22
    ·
      exact q_reti C0 V (Or.inr (Or.inr (⟨rfl, rfl⟩))) d_2_21_22
set_option maxRecDepth 100000 in
set_option maxHeartbeats 4000000 in
theorem c_Big_multiplySmall_4 (l : Launch) (D : va_G) (g : Nat → ClassId) (ws : va_W) (kO0 kA1 qO0 qA1 : Nat) (y1 : Int32) (f2 : Nat → Int32) (hO0 : ws[kO0]? = (some (qO0, .inr (2, [.ref qA1, .int y1, .int 0])) : Option (Nat × va_E))) (hA1 : ws[kA1]? = (some (qA1, .inl (g 0, 220, .inl f2)) : Option (Nat × va_E))) (y1lo : 0 ≤ y1) (y1hi : y1 ≤ 220) : q_mV l y_Big_multiplySmall prog_2_method_26_code 8 1 0 0 D g [.ref qO0, .int 10, .int 0] ws (fun u => (∃ (ex0 : Nat → Int32), q_un ws u [kO0, kA1] ∧ u[kO0]? = (some (qO0, .inr (2, [.ref qA1, .int y1, .int 0])) : Option (Nat × va_E)) ∧ u[kA1]? = (some (qA1, .inl (g 0, 220, .inl ex0)) : Option (Nat × va_E))) ∨ (∃ (ex0 : Int32) (ex1 : Nat → Int32), 0 ≤ ex0 ∧ ex0 ≤ 220 ∧ q_un ws u [kO0, kA1] ∧ u[kO0]? = (some (qO0, .inr (2, [.ref qA1, .int ex0, .int 0])) : Option (Nat × va_E)) ∧ u[kA1]? = (some (qA1, .inl (g 0, 220, .inl ex1)) : Option (Nat × va_E)))) := by
  intro sz
  refine q_into (by decide) (Nat.le_of_ble_eq_true rfl) ?_
  intro p e s m below meth c ls hsz C0 V hl
  have hx := C0.1
  have hb := C0.2.1
  have hl : lv_has ls 8 [(0, .ref qO0), (1, .int 10), (2, .int 0)] := hl
  have n_A1_O0 := q_df hA1 hO0
  have n_O0_A1 := Ne.symm (q_df hA1 hO0)
  have hF : q_un ws ws [kO0, kA1] := q_u0
  refine lv_iload_n hx hb d_2_26_0 rfl (lv_at hl 2 rfl) ?_
  refine lv_i2l hx hb d_2_26_1 rfl ?_
  refine q_tl (v := 0) (by decide) ?_
  refine lv_lstore_n (lv' := [(3, .long 0), (0, .ref qO0), (1, .int 10), (2, .int 0)]) hx hb d_2_26_2 rfl hl (by decide) rfl (fun ls hl => ?_)
  refine lv_iconst (v := 0) hx hb d_2_26_3 (by decide) ?_
  refine lv_istore (lv' := [(5, .int 0), (3, .long 0), (0, .ref qO0), (1, .int 10), (2, .int 0)]) hx hb d_2_26_4 hl (by decide) rfl (fun ls hl => ?_)
  refine q_loop (X := Int32 × Int64 × (Nat → Int32)) (fun z H locs ls w4 => (0 ≤ z.1.toInt ∧ z.1.toInt ≤ y1.toInt) ∧ q_Wd D g (va_A ws sz) s w4 H locs ∧ lv_has ls 8 [(5, .int z.1), (3, .long z.2.1), (0, .ref qO0), (1, .int 10), (2, .int 0)] ∧ q_un ws w4 [kO0, kA1] ∧ w4[kO0]? = (some (qO0, .inr (2, [.ref qA1, .int y1, .int 0])) : Option (Nat × va_E)) ∧ w4[kA1]? = (some (qA1, .inl (g 0, 220, .inl z.2.2)) : Option (Nat × va_E))) (fun z => (y1.toInt - z.1.toInt).toNat) ?_ ((0 : Int32), (0 : Int64), (f2 : (Nat → Int32))) _ _ _ ws ⟨(show 0 ≤ (0 : Int32).toInt ∧ (0 : Int32).toInt ≤ y1.toInt from by have t1 : 0 ≤ y1.toInt := q_leI y1lo; have t2 : y1.toInt ≤ 220 := q_leI y1hi; have e0 : (0 : Int32).toInt = 0 := (by decide); have e1 : (0 : Int32).toInt = 0 := (by decide); omega), V, hl, hF, hO0, hA1⟩
  rintro ⟨lx1, lx2, lx3⟩ H locs ls w4 ⟨i5, V, hl, hF, hO0, hA1⟩ ih6
  replace i5 : 0 ≤ lx1.toInt ∧ lx1.toInt ≤ y1.toInt := i5
  replace hl : lv_has ls 8 [(5, .int lx1), (3, .long lx2), (0, .ref qO0), (1, .int 10), (2, .int 0)] := hl
  replace hO0 : w4[kO0]? = (some (qO0, .inr (2, [.ref qA1, .int y1, .int 0])) : Option (Nat × va_E)) := hO0
  replace hA1 : w4[kA1]? = (some (qA1, .inl (g 0, 220, .inl lx3)) : Option (Nat × va_E)) := hA1
  refine lv_iload hx hb d_2_26_6 (lv_at hl 0 rfl) ?_
  refine lv_aload_n hx hb d_2_26_8 rfl (lv_at hl 2 rfl) ?_
  refine q_get (ci := 2) (j := 1) (v := .int y1) C0 V i_Big rfl rfl hO0 (by decide) w_85 rfl d_2_26_9 ?_
  refine lv_icmp_ge (tgt := 56) hx hb d_2_26_12 (by decide) (fun c7 => ?_) (fun c7 => ?_)
  ·
    refine lv_lload_n hx hb d_2_26_56 rfl (lv_at hl 1 rfl) ?_
    refine lv_lconst (v := 0) hx hb d_2_26_57 (by decide) ?_
    refine W.lcmp hx hb d_2_26_58 ?_
    refine lv_if_eq (tgt := 95) hx hb d_2_26_59 (by decide) (fun c8 => ?_) (fun c8 => ?_)
    ·
      exact q_retv C0 V (Or.inl ⟨lx3, hF, hO0, hA1⟩) d_2_26_95
    ·
      refine lv_aload_n hx hb d_2_26_62 rfl (lv_at hl 2 rfl) ?_
      refine q_get (ci := 2) (j := 1) (v := .int y1) C0 V i_Big rfl rfl hO0 (by decide) w_85 rfl d_2_26_63 ?_
      refine lv_aload_n hx hb d_2_26_66 rfl (lv_at hl 2 rfl) ?_
      refine q_get (ci := 2) (j := 0) (v := .ref qA1) C0 V i_Big rfl rfl hO0 (by decide) w_84 rfl d_2_26_67 ?_
      refine q_alen (t := 0) (v := 220) C0 V hA1 rfl (by first | rfl | decide) d_2_26_70 ?_
      refine lv_icmp_ge (tgt := 95) hx hb d_2_26_71 (by decide) (fun c9 => ?_) (fun c9 => ?_)
      ·
        exact q_retv C0 V (Or.inl ⟨lx3, hF, hO0, hA1⟩) d_2_26_95
      ·
        refine lv_aload_n hx hb d_2_26_74 rfl (lv_at hl 2 rfl) ?_
        refine q_get (ci := 2) (j := 0) (v := .ref qA1) C0 V i_Big rfl rfl hO0 (by decide) w_84 rfl d_2_26_75 ?_
        refine lv_aload_n hx hb d_2_26_78 rfl (lv_at hl 2 rfl) ?_
        refine q_get (ci := 2) (j := 1) (v := .int y1) C0 V i_Big rfl rfl hO0 (by decide) w_85 rfl d_2_26_79 ?_
        refine lv_lload_n hx hb d_2_26_82 rfl (lv_at hl 1 rfl) ?_
        refine lv_l2i hx hb d_2_26_83 rfl ?_
        refine q_iast C0 V hA1 (q_ix (x := y1.toInt) rfl (by have t1 : 0 ≤ y1.toInt := q_leI y1lo; have t2 : y1.toInt ≤ 220 := q_leI y1hi; have t3 : y1.toInt ≤ lx1.toInt := q_leI c7; have t4 : y1.toInt < 220 := q_nleI c9; omega) (by have t1 : 0 ≤ y1.toInt := q_leI y1lo; have t2 : y1.toInt ≤ 220 := q_leI y1hi; have t3 : y1.toInt ≤ lx1.toInt := q_leI c7; have t4 : y1.toInt < 220 := q_nleI c9; omega)) d_2_26_84 (fun H locs w10 hu11 hA1 V => ?_)
        replace hA1 : w10[kA1]? = (some (qA1, .inl (g 0, 220, .inl (upd lx3 y1.toNatClampNeg lx2.toInt32))) : Option (Nat × va_E)) := hA1
        replace hF := q_us hF hu11 (.tail _ (.head _))
        refine lv_aload_n hx hb d_2_26_85 rfl (lv_at hl 2 rfl) ?_
        refine lv_dup hx hb d_2_26_86 rfl ?_
        replace hO0 := (hu11 _ n_O0_A1).trans (hO0)
        refine q_get (ci := 2) (j := 1) (v := .int y1) C0 V i_Big rfl rfl hO0 (by decide) w_85 rfl d_2_26_87 ?_
        refine lv_iconst (v := 1) hx hb d_2_26_90 (by decide) ?_
        refine lv_iadd hx hb d_2_26_91 ?_
        refine q_put (ci := 2) (j := 1) (v := .int (y1 + 1)) (ty := .int) C0 V i_Big o_Big n_Big rfl rfl hO0 (by decide) w_85 rfl rfl rfl rfl (Nat.le_of_ble_eq_true rfl) d_2_26_92 (fun H locs w12 hu13 hO0 V => ?_)
        replace hO0 : w12[kO0]? = (some (qO0, .inr (2, [.ref qA1, .int (y1 + 1), .int 0])) : Option (Nat × va_E)) := hO0
        replace hF := q_us hF hu13 (.head _)
        have e16 : 0 ≤ y1 + 1 := q_Ile (x := 0) (y := (y1.toInt + 1)) (by decide) (q_addI (x := y1.toInt) (y := 1) rfl (by decide) (by have t1 : 0 ≤ y1.toInt := q_leI y1lo; have t2 : y1.toInt ≤ 220 := q_leI y1hi; have t3 : y1.toInt ≤ lx1.toInt := q_leI c7; have t4 : y1.toInt < 220 := q_nleI c9; omega) (by have t1 : 0 ≤ y1.toInt := q_leI y1lo; have t2 : y1.toInt ≤ 220 := q_leI y1hi; have t3 : y1.toInt ≤ lx1.toInt := q_leI c7; have t4 : y1.toInt < 220 := q_nleI c9; omega)) (by have t1 : 0 ≤ y1.toInt := q_leI y1lo; have t2 : y1.toInt ≤ 220 := q_leI y1hi; have t3 : y1.toInt ≤ lx1.toInt := q_leI c7; have t4 : y1.toInt < 220 := q_nleI c9; omega)
        have e17 : y1 + 1 ≤ 220 := q_Ile (x := (y1.toInt + 1)) (y := 220) (q_addI (x := y1.toInt) (y := 1) rfl (by decide) (by have t1 : 0 ≤ y1.toInt := q_leI y1lo; have t2 : y1.toInt ≤ 220 := q_leI y1hi; have t3 : y1.toInt ≤ lx1.toInt := q_leI c7; have t4 : y1.toInt < 220 := q_nleI c9; omega) (by have t1 : 0 ≤ y1.toInt := q_leI y1lo; have t2 : y1.toInt ≤ 220 := q_leI y1hi; have t3 : y1.toInt ≤ lx1.toInt := q_leI c7; have t4 : y1.toInt < 220 := q_nleI c9; omega)) (by decide) (by have t1 : 0 ≤ y1.toInt := q_leI y1lo; have t2 : y1.toInt ≤ 220 := q_leI y1hi; have t3 : y1.toInt ≤ lx1.toInt := q_leI c7; have t4 : y1.toInt < 220 := q_nleI c9; omega)
        generalize y1 + 1 = zn14 at hO0 e16 e17
        replace hA1 := (hu13 _ n_A1_O0).trans (hA1)
        exact q_retv C0 V (Or.inr (⟨zn14, (upd lx3 y1.toNatClampNeg lx2.toInt32), e16, e17, hF, hO0, hA1⟩)) d_2_26_95
  ·
    refine lv_aload_n hx hb d_2_26_15 rfl (lv_at hl 2 rfl) ?_
    refine q_get (ci := 2) (j := 0) (v := .ref qA1) C0 V i_Big rfl rfl hO0 (by decide) w_84 rfl d_2_26_16 ?_
    refine lv_iload hx hb d_2_26_19 (lv_at hl 0 rfl) ?_
    refine q_iald C0 V hA1 (q_ix (x := lx1.toInt) rfl (by have t1 : 0 ≤ y1.toInt := q_leI y1lo; have t2 : y1.toInt ≤ 220 := q_leI y1hi; have t3 : lx1.toInt < y1.toInt := q_nleI c7; omega) (by have t1 : 0 ≤ y1.toInt := q_leI y1lo; have t2 : y1.toInt ≤ 220 := q_leI y1hi; have t3 : lx1.toInt < y1.toInt := q_nleI c7; omega)) d_2_26_21 ?_
    refine lv_i2l hx hb d_2_26_22 rfl ?_
    refine lv_iload_n hx hb d_2_26_23 rfl (lv_at hl 3 rfl) ?_
    refine lv_i2l hx hb d_2_26_24 rfl ?_
    refine q_tl (v := 10) (by decide) ?_
    refine lv_lmul hx hb d_2_26_25 ?_
    refine lv_lload_n hx hb d_2_26_26 rfl (lv_at hl 1 rfl) ?_
    refine lv_ladd hx hb d_2_26_27 ?_
    refine lv_lstore (lv' := [(6, .long ((((lx3 lx1.toNatClampNeg).toInt64) * 10) + lx2)), (5, .int lx1), (3, .long lx2), (0, .ref qO0), (1, .int 10), (2, .int 0)]) hx hb d_2_26_28 hl (by decide) rfl (fun ls hl => ?_)
    refine lv_aload_n hx hb d_2_26_30 rfl (lv_at hl 3 rfl) ?_
    refine q_get (ci := 2) (j := 0) (v := .ref qA1) C0 V i_Big rfl rfl hO0 (by decide) w_84 rfl d_2_26_31 ?_
    refine lv_iload hx hb d_2_26_34 (lv_at hl 1 rfl) ?_
    refine lv_lload hx hb d_2_26_36 (lv_at hl 0 rfl) ?_
    refine q_ldc2 C0 rfl w_201 d_2_26_38 ?_
    refine lv_land hx hb d_2_26_41 ?_
    refine lv_l2i hx hb d_2_26_42 rfl ?_
    refine q_iast C0 V hA1 (q_ix (x := lx1.toInt) rfl (by have t1 : 0 ≤ y1.toInt := q_leI y1lo; have t2 : y1.toInt ≤ 220 := q_leI y1hi; have t3 : lx1.toInt < y1.toInt := q_nleI c7; omega) (by have t1 : 0 ≤ y1.toInt := q_leI y1lo; have t2 : y1.toInt ≤ 220 := q_leI y1hi; have t3 : lx1.toInt < y1.toInt := q_nleI c7; omega)) d_2_26_43 (fun H locs w18 hu19 hA1 V => ?_)
    replace hA1 : w18[kA1]? = (some (qA1, .inl (g 0, 220, .inl (upd lx3 lx1.toNatClampNeg ((((((lx3 lx1.toNatClampNeg).toInt64) * 10) + lx2) &&& 2147483647).toInt32)))) : Option (Nat × va_E)) := hA1
    replace hF := q_us hF hu19 (.tail _ (.head _))
    refine lv_lload hx hb d_2_26_44 (lv_at hl 0 rfl) ?_
    refine lv_bipush (v := 31) hx hb d_2_26_46 (by decide) ?_
    refine lv_lushr hx hb d_2_26_48 rfl ?_
    refine lv_lstore_n (lv' := [(3, .long ((((((lx3 lx1.toNatClampNeg).toInt64) * 10) + lx2).toUInt64 >>> ((31 : Int32).toInt64.toUInt64 &&& Int64.toUInt64 63)).toInt64)), (6, .long ((((lx3 lx1.toNatClampNeg).toInt64) * 10) + lx2)), (5, .int lx1), (0, .ref qO0), (1, .int 10), (2, .int 0)]) hx hb d_2_26_49 rfl hl (by decide) rfl (fun ls hl => ?_)
    refine lv_iinc (v := lx1 + 1) (lv' := [(5, .int (lx1 + 1)), (3, .long ((((((lx3 lx1.toNatClampNeg).toInt64) * 10) + lx2).toUInt64 >>> ((31 : Int32).toInt64.toUInt64 &&& Int64.toUInt64 63)).toInt64)), (6, .long ((((lx3 lx1.toNatClampNeg).toInt64) * 10) + lx2)), (0, .ref qO0), (1, .int 10), (2, .int 0)]) hx hb d_2_26_50 hl (k := 2) rfl (rfl) (by decide) rfl (fun ls hl => ?_)
    refine lv_goto (tgt := 6) hx hb d_2_26_53 (by decide) ?_
    replace hO0 := (hu19 _ n_O0_A1).trans (hO0)
    exact ih6 ((lx1 + 1 : Int32), ((((((lx3 lx1.toNatClampNeg).toInt64) * 10) + lx2).toUInt64 >>> ((31 : Int32).toInt64.toUInt64 &&& Int64.toUInt64 63)).toInt64 : Int64), (upd lx3 lx1.toNatClampNeg ((((((lx3 lx1.toNatClampNeg).toInt64) * 10) + lx2) &&& 2147483647).toInt32) : Nat → Int32)) _ _ _ _ (show (y1.toInt - (lx1 + 1 : Int32).toInt).toNat < (y1.toInt - lx1.toInt).toNat from by have t1 : 0 ≤ y1.toInt := q_leI y1lo; have t2 : y1.toInt ≤ 220 := q_leI y1hi; have t3 : lx1.toInt < y1.toInt := q_nleI c7; have e0 : (lx1 + 1 : Int32).toInt = (lx1.toInt + 1) := (q_addI (x := lx1.toInt) (y := 1) rfl (by decide) (by have t1 : 0 ≤ y1.toInt := q_leI y1lo; have t2 : y1.toInt ≤ 220 := q_leI y1hi; have t3 : lx1.toInt < y1.toInt := q_nleI c7; omega) (by have t1 : 0 ≤ y1.toInt := q_leI y1lo; have t2 : y1.toInt ≤ 220 := q_leI y1hi; have t3 : lx1.toInt < y1.toInt := q_nleI c7; omega)); omega) ⟨(show 0 ≤ (lx1 + 1 : Int32).toInt ∧ (lx1 + 1 : Int32).toInt ≤ y1.toInt from by have t1 : 0 ≤ y1.toInt := q_leI y1lo; have t2 : y1.toInt ≤ 220 := q_leI y1hi; have t3 : lx1.toInt < y1.toInt := q_nleI c7; have e0 : (lx1 + 1 : Int32).toInt = (lx1.toInt + 1) := (q_addI (x := lx1.toInt) (y := 1) rfl (by decide) (by have t1 : 0 ≤ y1.toInt := q_leI y1lo; have t2 : y1.toInt ≤ 220 := q_leI y1hi; have t3 : lx1.toInt < y1.toInt := q_nleI c7; omega) (by have t1 : 0 ≤ y1.toInt := q_leI y1lo; have t2 : y1.toInt ≤ 220 := q_leI y1hi; have t3 : lx1.toInt < y1.toInt := q_nleI c7; omega)); omega), V, q_lw hl (q_lw1 0 rfl (q_lw1 1 rfl (q_lw1 3 rfl (q_lw1 4 rfl (q_lw1 5 rfl q_lw0))))), hF, hO0, hA1⟩
theorem d_8_13_62 : decode prog_8_method_13_code 62 = .ok (.aload_n 0, 1) := by decide +kernel
theorem d_8_13_63 : decode prog_8_method_13_code 63 = .ok (.getfield 32, 3) := by decide +kernel
theorem d_8_13_66 : decode prog_8_method_13_code 66 = .ok (.bipush 10, 2) := by decide +kernel
theorem d_8_13_68 : decode prog_8_method_13_code 68 = .ok (.iconst 0, 1) := by decide +kernel
theorem d_8_13_69 : decode prog_8_method_13_code 69 = .ok (.invokevirtual 102, 3) := by decide +kernel
theorem w_784 : (Cond.methodLink "NumberHouse$Mill" (102 : Nat) ({ cls := "NumberHouse$Big", name := "multiplySmall", desc := "(II)V" } : MethodName)) ∈ q_tbl := q_of 784 (by decide +kernel) (by decide +kernel)
theorem LV_Mil_102 : q_LV "NumberHouse$Mill" 102 y_Big_multiplySmall prog_2_method_26_code 8 none 2 := ⟨w_606, w_4, w_784, w_604, w_605, ⟨by decide, by decide, by decide +kernel⟩⟩
theorem d_8_13_72 : decode prog_8_method_13_code 72 = .ok (.iinc 2 1, 3) := by decide +kernel
theorem d_8_13_75 : decode prog_8_method_13_code 75 = .ok (.iinc 3 1, 3) := by decide +kernel
theorem d_8_13_78 : decode prog_8_method_13_code 78 = .ok (.goto (-32), 3) := by decide +kernel
set_option maxRecDepth 100000 in
set_option maxHeartbeats 4000000 in
theorem c_Mil_countFigures_3 (l : Launch) (D : va_G) (g : Nat → ClassId) (ws : va_W) (kO0 kO1 kO6 kA11 kA16 qO0 qO1 qO2 qO3 qO4 qO5 qO6 qO7 qO8 qO9 qO10 qA11 qA16 : Nat) (y1 : Int32) (y2 : Int32) (f3 : Nat → Int32) (hO0 : ws[kO0]? = (some (qO0, .inr (4, [.ref qO1, .ref qO2, .ref qO3, .ref qO4, .ref qO5, .ref qO6, .ref qO7, .ref qO8, .ref qO9, .ref qO10])) : Option (Nat × va_E))) (hO1 : ws[kO1]? = (some (qO1, .inr (2, [.ref qA11, .int y1, .int y2])) : Option (Nat × va_E))) (hO6 : ws[kO6]? = (some (qO6, .inr (2, [.ref qA16, .int 0, .int 0])) : Option (Nat × va_E))) (hA11 : ws[kA11]? = (some (qA11, .inl (g 0, 220, .inl f3)) : Option (Nat × va_E))) (hA16 : ws[kA16]? = (some (qA16, .inl (g 0, 220, .inl (fun _ => 0))) : Option (Nat × va_E))) (n_A11_A16 : kA11 ≠ kA16) (n_O1_O6 : kO1 ≠ kO6) (y1lo : 0 ≤ y1) (y1hi : y1 ≤ 3) (y2lo : 0 ≤ y2) (y2hi : y2 ≤ 1) : q_mI l y_Mil_countFigures prog_8_method_13_code 4 (.int) 4 0 0 D g [.ref qO0, .ref qO1] ws (fun r u => (∃ (ex0 : Int32) (ex1 : Int32) (ex2 : Nat → Int32), 0 ≤ ex1 ∧ ex1 ≤ 220 ∧ 1 ≤ ex0 ∧ ex0 ≤ 70 ∧ ex0 = r ∧ q_un ws u [kO6, kA16] ∧ u[kO6]? = (some (qO6, .inr (2, [.ref qA16, .int ex1, .int 0])) : Option (Nat × va_E)) ∧ u[kA16]? = (some (qA16, .inl (g 0, 220, .inl ex2)) : Option (Nat × va_E))) ∨ (y1 = 0 ∧ 1 = r ∧ q_un ws u [kO6, kA16] ∧ u[kO6]? = (some (qO6, .inr (2, [.ref qA16, .int 0, .int 0])) : Option (Nat × va_E)) ∧ u[kA16]? = (some (qA16, .inl (g 0, 220, .inl (fun _ => 0))) : Option (Nat × va_E)))) := by
  intro sz
  refine q_into (by decide) (Nat.le_of_ble_eq_true rfl) ?_
  intro p e s m below meth c ls hsz C0 V hl
  have hx := C0.1
  have hb := C0.2.1
  have hl : lv_has ls 4 [(0, .ref qO0), (1, .ref qO1)] := hl
  have n_A11_O6 := q_df hA11 hO6
  have n_O0_A16 := Ne.symm (q_df hA16 hO0)
  have n_O0_O6 := q_dc hO0 hO6 (q_pd 4 2 rfl)
  have n_O1_A16 := Ne.symm (q_df hA16 hO1)
  have hF : q_un ws ws [kO6, kA16] := q_u0
  refine lv_aload_n hx hb d_8_13_0 rfl (lv_at hl 1 rfl) ?_
  refine q_get (ci := 2) (j := 1) (v := .int y1) C0 V i_Big rfl rfl hO1 (by decide) w_89 rfl d_8_13_1 ?_
  refine lv_if_ne (tgt := 9) hx hb d_8_13_4 (by decide) (fun c1 => ?_) (fun c1 => ?_)
  ·
    refine lv_aload_n hx hb d_8_13_9 rfl (lv_at hl 1 rfl) ?_
    refine q_goi V (q_runV (As := []) (rest := []) (d := 3) (mc := 0) (ms := 0) (ci := 2) C0 V rfl LV_Mil_85 (c_Big_bitLength_4 l D g ws kO1 kA11 qO1 qA11 y1 y2 f3 hO1 hA11 (q_Ile (x := 1) (y := y1.toInt) (by decide) rfl (by have t1 : 0 ≤ y1.toInt := q_leI y1lo; have t2 : y1.toInt ≤ 3 := q_leI y1hi; have t3 : y1.toInt ≠ 0 := q_neI c1; omega)) y1hi y2lo y2hi _) rfl rfl hO1 rfl hl.1 rfl (Nat.le_of_ble_eq_true rfl) ⟨by decide, by decide⟩ ⟨Nat.le_of_ble_eq_true rfl, Nat.le_of_ble_eq_true rfl⟩ d_8_13_10) (fun v4 u3 H locs hp2 V => ?_)
    obtain ⟨y7, f5, f6, rfl, rfl⟩ := hp2
    refine lv_iconst (v := 1) hx hb d_8_13_13 (by decide) ?_
    refine lv_isub hx hb d_8_13_14 ?_
    refine lv_i2l hx hb d_8_13_15 rfl ?_
    refine q_ldc2 C0 rfl w_764 d_8_13_16 ?_
    refine lv_lmul hx hb d_8_13_19 ?_
    refine q_ldc2 C0 rfl w_765 d_8_13_20 ?_
    refine lv_ldiv hx hb d_8_13_23 (by decide) ?_
    refine lv_l2i hx hb d_8_13_24 rfl ?_
    refine lv_iconst (v := 1) hx hb d_8_13_25 (by decide) ?_
    refine lv_iadd hx hb d_8_13_26 ?_
    obtain ⟨cf9, hc10⟩ : ∃ z : Int32, ((((((((y1 - 1) * 31) + y7) - 1).toInt64) * 301029995) / 1000000000).toInt32) + 1 = z := ⟨_, rfl⟩
    refine q_ti (v := cf9) hc10 ?_
    have e11 : 1 ≤ cf9 := hc10 ▸ (q_cnt (x := ((((y1.toInt - 1) * 31) + y7.toInt) - 1)) (q_subI (x := (((y1.toInt - 1) * 31) + y7.toInt)) (y := 1) (q_addI (x := ((y1.toInt - 1) * 31)) (y := y7.toInt) (q_mulI (x := (y1.toInt - 1)) (y := 31) (q_subI (x := y1.toInt) (y := 1) rfl (by decide) (by have t1 : 0 ≤ y1.toInt := q_leI y1lo; have t2 : y1.toInt ≤ 3 := q_leI y1hi; have t3 : y1.toInt ≠ 0 := q_neI c1; omega) (by have t1 : 0 ≤ y1.toInt := q_leI y1lo; have t2 : y1.toInt ≤ 3 := q_leI y1hi; have t3 : y1.toInt ≠ 0 := q_neI c1; omega)) (by decide) (by have t1 : 0 ≤ y1.toInt := q_leI y1lo; have t2 : y1.toInt ≤ 3 := q_leI y1hi; have t3 : y1.toInt ≠ 0 := q_neI c1; omega) (by have t1 : 0 ≤ y1.toInt := q_leI y1lo; have t2 : y1.toInt ≤ 3 := q_leI y1hi; have t3 : y1.toInt ≠ 0 := q_neI c1; omega)) rfl (by have t1 : 0 ≤ y1.toInt := q_leI y1lo; have t2 : y1.toInt ≤ 3 := q_leI y1hi; have t3 : y1.toInt ≠ 0 := q_neI c1; have t4 : 0 ≤ y7.toInt := q_leI f5; have t5 : y7.toInt ≤ 63 := q_leI f6; omega) (by have t1 : 0 ≤ y1.toInt := q_leI y1lo; have t2 : y1.toInt ≤ 3 := q_leI y1hi; have t3 : y1.toInt ≠ 0 := q_neI c1; have t4 : 0 ≤ y7.toInt := q_leI f5; have t5 : y7.toInt ≤ 63 := q_leI f6; omega)) (by decide) (by have t1 : 0 ≤ y1.toInt := q_leI y1lo; have t2 : y1.toInt ≤ 3 := q_leI y1hi; have t3 : y1.toInt ≠ 0 := q_neI c1; have t4 : 0 ≤ y7.toInt := q_leI f5; have t5 : y7.toInt ≤ 63 := q_leI f6; omega) (by have t1 : 0 ≤ y1.toInt := q_leI y1lo; have t2 : y1.toInt ≤ 3 := q_leI y1hi; have t3 : y1.toInt ≠ 0 := q_neI c1; have t4 : 0 ≤ y7.toInt := q_leI f5; have t5 : y7.toInt ≤ 63 := q_leI f6; omega)) (by have t1 : 0 ≤ y1.toInt := q_leI y1lo; have t2 : y1.toInt ≤ 3 := q_leI y1hi; have t3 : y1.toInt ≠ 0 := q_neI c1; have t4 : 0 ≤ y7.toInt := q_leI f5; have t5 : y7.toInt ≤ 63 := q_leI f6; omega) (by have t1 : 0 ≤ y1.toInt := q_leI y1lo; have t2 : y1.toInt ≤ 3 := q_leI y1hi; have t3 : y1.toInt ≠ 0 := q_neI c1; have t4 : 0 ≤ y7.toInt := q_leI f5; have t5 : y7.toInt ≤ 63 := q_leI f6; omega)).1
    have e12 : cf9 ≤ 62 := hc10 ▸ (q_cnt (x := ((((y1.toInt - 1) * 31) + y7.toInt) - 1)) (q_subI (x := (((y1.toInt - 1) * 31) + y7.toInt)) (y := 1) (q_addI (x := ((y1.toInt - 1) * 31)) (y := y7.toInt) (q_mulI (x := (y1.toInt - 1)) (y := 31) (q_subI (x := y1.toInt) (y := 1) rfl (by decide) (by have t1 : 0 ≤ y1.toInt := q_leI y1lo; have t2 : y1.toInt ≤ 3 := q_leI y1hi; have t3 : y1.toInt ≠ 0 := q_neI c1; omega) (by have t1 : 0 ≤ y1.toInt := q_leI y1lo; have t2 : y1.toInt ≤ 3 := q_leI y1hi; have t3 : y1.toInt ≠ 0 := q_neI c1; omega)) (by decide) (by have t1 : 0 ≤ y1.toInt := q_leI y1lo; have t2 : y1.toInt ≤ 3 := q_leI y1hi; have t3 : y1.toInt ≠ 0 := q_neI c1; omega) (by have t1 : 0 ≤ y1.toInt := q_leI y1lo; have t2 : y1.toInt ≤ 3 := q_leI y1hi; have t3 : y1.toInt ≠ 0 := q_neI c1; omega)) rfl (by have t1 : 0 ≤ y1.toInt := q_leI y1lo; have t2 : y1.toInt ≤ 3 := q_leI y1hi; have t3 : y1.toInt ≠ 0 := q_neI c1; have t4 : 0 ≤ y7.toInt := q_leI f5; have t5 : y7.toInt ≤ 63 := q_leI f6; omega) (by have t1 : 0 ≤ y1.toInt := q_leI y1lo; have t2 : y1.toInt ≤ 3 := q_leI y1hi; have t3 : y1.toInt ≠ 0 := q_neI c1; have t4 : 0 ≤ y7.toInt := q_leI f5; have t5 : y7.toInt ≤ 63 := q_leI f6; omega)) (by decide) (by have t1 : 0 ≤ y1.toInt := q_leI y1lo; have t2 : y1.toInt ≤ 3 := q_leI y1hi; have t3 : y1.toInt ≠ 0 := q_neI c1; have t4 : 0 ≤ y7.toInt := q_leI f5; have t5 : y7.toInt ≤ 63 := q_leI f6; omega) (by have t1 : 0 ≤ y1.toInt := q_leI y1lo; have t2 : y1.toInt ≤ 3 := q_leI y1hi; have t3 : y1.toInt ≠ 0 := q_neI c1; have t4 : 0 ≤ y7.toInt := q_leI f5; have t5 : y7.toInt ≤ 63 := q_leI f6; omega)) (by have t1 : 0 ≤ y1.toInt := q_leI y1lo; have t2 : y1.toInt ≤ 3 := q_leI y1hi; have t3 : y1.toInt ≠ 0 := q_neI c1; have t4 : 0 ≤ y7.toInt := q_leI f5; have t5 : y7.toInt ≤ 63 := q_leI f6; omega) (by have t1 : 0 ≤ y1.toInt := q_leI y1lo; have t2 : y1.toInt ≤ 3 := q_leI y1hi; have t3 : y1.toInt ≠ 0 := q_neI c1; have t4 : 0 ≤ y7.toInt := q_leI f5; have t5 : y7.toInt ≤ 63 := q_leI f6; omega)).2
    refine lv_istore_n (lv' := [(2, .int cf9), (0, .ref qO0), (1, .ref qO1)]) hx hb d_8_13_27 rfl hl (by decide) rfl (fun ls hl => ?_)
    refine lv_aload_n hx hb d_8_13_28 rfl (lv_at hl 1 rfl) ?_
    refine q_get (ci := 4) (j := 5) (v := .ref qO6) C0 V i_Mil rfl rfl hO0 (by decide) w_124 rfl d_8_13_29 ?_
    refine lv_lconst (v := 1) hx hb d_8_13_32 (by decide) ?_
    refine q_gov V (q_runV (As := [.long 1]) (rest := []) (d := 2) (mc := 0) (ms := 0) (ci := 2) C0 V rfl LV_Mil_77 (c_Big_setLong_3 l D g ws kO6 kA16 qO6 qA16 hO6 hA16 _) rfl rfl hO6 rfl hl.1 rfl (Nat.le_of_ble_eq_true rfl) ⟨by decide, by decide⟩ ⟨Nat.le_of_ble_eq_true rfl, Nat.le_of_ble_eq_true rfl⟩ d_8_13_33) (fun u14 H locs hp13 V => ?_)
    obtain ⟨hg15, hO6, hA16⟩ := hp13
    replace hF := q_uc hF hg15 (q_sc (.head _) (q_sc (.tail _ (.head _)) (fun _ h => absurd h List.not_mem_nil)))
    refine lv_aload_n hx hb d_8_13_36 rfl (lv_at hl 1 rfl) ?_
    replace hO0 := (hg15 _ (q_nc n_O0_O6 (q_nc n_O0_A16 List.not_mem_nil))).trans (hO0)
    refine q_get (ci := 4) (j := 5) (v := .ref qO6) C0 V i_Mil rfl rfl hO0 (by decide) w_124 rfl d_8_13_37 ?_
    refine lv_iload_n hx hb d_8_13_40 rfl (lv_at hl 0 rfl) ?_
    refine q_gov V (q_runV (As := [.int cf9]) (rest := []) (d := 2) (mc := 0) (ms := 0) (ci := 2) C0 V rfl LV_Mil_149 (c_Big_timesTen_3 l D g u14 kO6 kA16 qO6 qA16 cf9 hO6 hA16 e11 e12 _) rfl rfl hO6 rfl hl.1 rfl (Nat.le_of_ble_eq_true rfl) ⟨by decide, by decide⟩ ⟨Nat.le_of_ble_eq_true rfl, Nat.le_of_ble_eq_true rfl⟩ d_8_13_41) (fun u17 H locs hp16 V => ?_)
    obtain ⟨y20, y21, f18, f19, hg22, hO6, hA16⟩ := hp16
    replace hF := q_uc hF hg22 (q_sc (.head _) (q_sc (.tail _ (.head _)) (fun _ h => absurd h List.not_mem_nil)))
    refine lv_iconst (v := 0) hx hb d_8_13_44 (by decide) ?_
    refine lv_istore_n (lv' := [(3, .int 0), (2, .int cf9), (0, .ref qO0), (1, .ref qO1)]) hx hb d_8_13_45 rfl hl (by decide) rfl (fun ls hl => ?_)
    refine lv_iload_n hx hb d_8_13_46 rfl (lv_at hl 0 rfl) ?_
    refine lv_iconst (v := 3) hx hb d_8_13_47 (by decide) ?_
    refine lv_icmp_ge (tgt := 81) hx hb d_8_13_48 (by decide) (fun c23 => absurd c23 (by decide)) (fun c23 => ?_)
    refine lv_aload_n hx hb d_8_13_51 rfl (lv_at hl 3 rfl) ?_
    refine lv_aload_n hx hb d_8_13_52 rfl (lv_at hl 2 rfl) ?_
    replace hO0 := (hg22 _ (q_nc n_O0_O6 (q_nc n_O0_A16 List.not_mem_nil))).trans (hO0)
    refine q_get (ci := 4) (j := 5) (v := .ref qO6) C0 V i_Mil rfl rfl hO0 (by decide) w_124 rfl d_8_13_53 ?_
    replace hO1 := (hg22 _ (q_nc n_O1_O6 (q_nc n_O1_A16 List.not_mem_nil))).trans ((hg15 _ (q_nc n_O1_O6 (q_nc n_O1_A16 List.not_mem_nil))).trans (hO1))
    replace hA11 := (hg22 _ (q_nc n_A11_O6 (q_nc n_A11_A16 List.not_mem_nil))).trans ((hg15 _ (q_nc n_A11_O6 (q_nc n_A11_A16 List.not_mem_nil))).trans (hA11))
    refine q_goi V (q_runV (As := [.ref qO6]) (rest := []) (d := 2) (mc := 0) (ms := 0) (ci := 2) C0 V rfl LV_Mil_112 (c_Big_compareSize_3 l D g u17 kO1 kO6 kA11 kA16 qO1 qO6 qA11 qA16 y1 y2 y20 f3 y21 hO1 hO6 hA11 hA16 (q_Ile (x := 1) (y := y1.toInt) (by decide) rfl (by have t1 : 0 ≤ y1.toInt := q_leI y1lo; have t2 : y1.toInt ≤ 3 := q_leI y1hi; have t3 : y1.toInt ≠ 0 := q_neI c1; omega)) y1hi y2lo y2hi f18 f19 _) rfl rfl hO1 rfl hl.1 rfl (Nat.le_of_ble_eq_true rfl) ⟨by decide, by decide⟩ ⟨Nat.le_of_ble_eq_true rfl, Nat.le_of_ble_eq_true rfl⟩ d_8_13_56) (fun v26 u25 H locs hp24 V => ?_)
    rcases hp24 with ⟨rfl, rfl⟩ | ⟨rfl, rfl⟩ | ⟨rfl, rfl⟩
    ·
      refine lv_if_lt (tgt := 81) hx hb d_8_13_59 (by decide) (fun c30 => absurd c30 (by decide)) (fun c30 => ?_)
      refine lv_aload_n hx hb d_8_13_62 rfl (lv_at hl 2 rfl) ?_
      refine q_get (ci := 4) (j := 5) (v := .ref qO6) C0 V i_Mil rfl rfl hO0 (by decide) w_124 rfl d_8_13_63 ?_
      refine lv_bipush (v := 10) hx hb d_8_13_66 (by decide) ?_
      refine lv_iconst (v := 0) hx hb d_8_13_68 (by decide) ?_
      refine q_gov V (q_runV (As := [.int 10, .int 0]) (rest := []) (d := 1) (mc := 0) (ms := 0) (ci := 2) C0 V rfl LV_Mil_102 (c_Big_multiplySmall_4 l D g u17 kO6 kA16 qO6 qA16 y20 y21 hO6 hA16 f18 f19 _) rfl rfl hO6 rfl hl.1 rfl (Nat.le_of_ble_eq_true rfl) ⟨by decide, by decide⟩ ⟨Nat.le_of_ble_eq_true rfl, Nat.le_of_ble_eq_true rfl⟩ d_8_13_69) (fun u32 H locs hp31 V => ?_)
      rcases hp31 with ⟨y33, hg34, hO6, hA16⟩ | ⟨y37, y38, f35, f36, hg39, hO6, hA16⟩
      ·
        replace hF := q_uc hF hg34 (q_sc (.head _) (q_sc (.tail _ (.head _)) (fun _ h => absurd h List.not_mem_nil)))
        refine lv_iinc (v := cf9 + 1) (lv' := [(2, .int (cf9 + 1)), (3, .int 0), (0, .ref qO0), (1, .ref qO1)]) hx hb d_8_13_72 hl (k := 1) rfl (rfl) (by decide) rfl (fun ls hl => ?_)
        refine lv_iinc (v := 1) (lv' := [(3, .int 1), (2, .int (cf9 + 1)), (0, .ref qO0), (1, .ref qO1)]) hx hb d_8_13_75 hl (k := 1) rfl (by decide) (by decide) rfl (fun ls hl => ?_)
        refine lv_goto (tgt := 46) hx hb d_8_13_78 (by decide) ?_
        refine lv_iload_n hx hb d_8_13_46 rfl (lv_at hl 0 rfl) ?_
        refine lv_iconst (v := 3) hx hb d_8_13_47 (by decide) ?_
        refine lv_icmp_ge (tgt := 81) hx hb d_8_13_48 (by decide) (fun c40 => absurd c40 (by decide)) (fun c40 => ?_)
        refine lv_aload_n hx hb d_8_13_51 rfl (lv_at hl 3 rfl) ?_
        refine lv_aload_n hx hb d_8_13_52 rfl (lv_at hl 2 rfl) ?_
        replace hO0 := (hg34 _ (q_nc n_O0_O6 (q_nc n_O0_A16 List.not_mem_nil))).trans (hO0)
        refine q_get (ci := 4) (j := 5) (v := .ref qO6) C0 V i_Mil rfl rfl hO0 (by decide) w_124 rfl d_8_13_53 ?_
        replace hO1 := (hg34 _ (q_nc n_O1_O6 (q_nc n_O1_A16 List.not_mem_nil))).trans (hO1)
        replace hA11 := (hg34 _ (q_nc n_A11_O6 (q_nc n_A11_A16 List.not_mem_nil))).trans (hA11)
        refine q_goi V (q_runV (As := [.ref qO6]) (rest := []) (d := 2) (mc := 0) (ms := 0) (ci := 2) C0 V rfl LV_Mil_112 (c_Big_compareSize_3 l D g u32 kO1 kO6 kA11 kA16 qO1 qO6 qA11 qA16 y1 y2 y20 f3 y33 hO1 hO6 hA11 hA16 (q_Ile (x := 1) (y := y1.toInt) (by decide) rfl (by have t1 : 0 ≤ y1.toInt := q_leI y1lo; have t2 : y1.toInt ≤ 3 := q_leI y1hi; have t3 : y1.toInt ≠ 0 := q_neI c1; omega)) y1hi y2lo y2hi f18 f19 _) rfl rfl hO1 rfl hl.1 rfl (Nat.le_of_ble_eq_true rfl) ⟨by decide, by decide⟩ ⟨Nat.le_of_ble_eq_true rfl, Nat.le_of_ble_eq_true rfl⟩ d_8_13_56) (fun v43 u42 H locs hp41 V => ?_)
        rcases hp41 with ⟨rfl, rfl⟩ | ⟨rfl, rfl⟩ | ⟨rfl, rfl⟩
        ·
          refine lv_if_lt (tgt := 81) hx hb d_8_13_59 (by decide) (fun c47 => absurd c47 (by decide)) (fun c47 => ?_)
          refine lv_aload_n hx hb d_8_13_62 rfl (lv_at hl 2 rfl) ?_
          refine q_get (ci := 4) (j := 5) (v := .ref qO6) C0 V i_Mil rfl rfl hO0 (by decide) w_124 rfl d_8_13_63 ?_
          refine lv_bipush (v := 10) hx hb d_8_13_66 (by decide) ?_
          refine lv_iconst (v := 0) hx hb d_8_13_68 (by decide) ?_
          refine q_gov V (q_runV (As := [.int 10, .int 0]) (rest := []) (d := 1) (mc := 0) (ms := 0) (ci := 2) C0 V rfl LV_Mil_102 (c_Big_multiplySmall_4 l D g u32 kO6 kA16 qO6 qA16 y20 y33 hO6 hA16 f18 f19 _) rfl rfl hO6 rfl hl.1 rfl (Nat.le_of_ble_eq_true rfl) ⟨by decide, by decide⟩ ⟨Nat.le_of_ble_eq_true rfl, Nat.le_of_ble_eq_true rfl⟩ d_8_13_69) (fun u49 H locs hp48 V => ?_)
          rcases hp48 with ⟨y50, hg51, hO6, hA16⟩ | ⟨y54, y55, f52, f53, hg56, hO6, hA16⟩
          ·
            replace hF := q_uc hF hg51 (q_sc (.head _) (q_sc (.tail _ (.head _)) (fun _ h => absurd h List.not_mem_nil)))
            refine lv_iinc (v := (cf9 + 1) + 1) (lv' := [(2, .int ((cf9 + 1) + 1)), (3, .int 1), (0, .ref qO0), (1, .ref qO1)]) hx hb d_8_13_72 hl (k := 1) rfl (rfl) (by decide) rfl (fun ls hl => ?_)
            refine lv_iinc (v := 2) (lv' := [(3, .int 2), (2, .int ((cf9 + 1) + 1)), (0, .ref qO0), (1, .ref qO1)]) hx hb d_8_13_75 hl (k := 1) rfl (by decide) (by decide) rfl (fun ls hl => ?_)
            refine lv_goto (tgt := 46) hx hb d_8_13_78 (by decide) ?_
            refine lv_iload_n hx hb d_8_13_46 rfl (lv_at hl 0 rfl) ?_
            refine lv_iconst (v := 3) hx hb d_8_13_47 (by decide) ?_
            refine lv_icmp_ge (tgt := 81) hx hb d_8_13_48 (by decide) (fun c57 => absurd c57 (by decide)) (fun c57 => ?_)
            refine lv_aload_n hx hb d_8_13_51 rfl (lv_at hl 3 rfl) ?_
            refine lv_aload_n hx hb d_8_13_52 rfl (lv_at hl 2 rfl) ?_
            replace hO0 := (hg51 _ (q_nc n_O0_O6 (q_nc n_O0_A16 List.not_mem_nil))).trans (hO0)
            refine q_get (ci := 4) (j := 5) (v := .ref qO6) C0 V i_Mil rfl rfl hO0 (by decide) w_124 rfl d_8_13_53 ?_
            replace hO1 := (hg51 _ (q_nc n_O1_O6 (q_nc n_O1_A16 List.not_mem_nil))).trans (hO1)
            replace hA11 := (hg51 _ (q_nc n_A11_O6 (q_nc n_A11_A16 List.not_mem_nil))).trans (hA11)
            refine q_goi V (q_runV (As := [.ref qO6]) (rest := []) (d := 2) (mc := 0) (ms := 0) (ci := 2) C0 V rfl LV_Mil_112 (c_Big_compareSize_3 l D g u49 kO1 kO6 kA11 kA16 qO1 qO6 qA11 qA16 y1 y2 y20 f3 y50 hO1 hO6 hA11 hA16 (q_Ile (x := 1) (y := y1.toInt) (by decide) rfl (by have t1 : 0 ≤ y1.toInt := q_leI y1lo; have t2 : y1.toInt ≤ 3 := q_leI y1hi; have t3 : y1.toInt ≠ 0 := q_neI c1; omega)) y1hi y2lo y2hi f18 f19 _) rfl rfl hO1 rfl hl.1 rfl (Nat.le_of_ble_eq_true rfl) ⟨by decide, by decide⟩ ⟨Nat.le_of_ble_eq_true rfl, Nat.le_of_ble_eq_true rfl⟩ d_8_13_56) (fun v60 u59 H locs hp58 V => ?_)
            rcases hp58 with ⟨rfl, rfl⟩ | ⟨rfl, rfl⟩ | ⟨rfl, rfl⟩
            ·
              refine lv_if_lt (tgt := 81) hx hb d_8_13_59 (by decide) (fun c64 => absurd c64 (by decide)) (fun c64 => ?_)
              refine lv_aload_n hx hb d_8_13_62 rfl (lv_at hl 2 rfl) ?_
              refine q_get (ci := 4) (j := 5) (v := .ref qO6) C0 V i_Mil rfl rfl hO0 (by decide) w_124 rfl d_8_13_63 ?_
              refine lv_bipush (v := 10) hx hb d_8_13_66 (by decide) ?_
              refine lv_iconst (v := 0) hx hb d_8_13_68 (by decide) ?_
              refine q_gov V (q_runV (As := [.int 10, .int 0]) (rest := []) (d := 1) (mc := 0) (ms := 0) (ci := 2) C0 V rfl LV_Mil_102 (c_Big_multiplySmall_4 l D g u49 kO6 kA16 qO6 qA16 y20 y50 hO6 hA16 f18 f19 _) rfl rfl hO6 rfl hl.1 rfl (Nat.le_of_ble_eq_true rfl) ⟨by decide, by decide⟩ ⟨Nat.le_of_ble_eq_true rfl, Nat.le_of_ble_eq_true rfl⟩ d_8_13_69) (fun u66 H locs hp65 V => ?_)
              rcases hp65 with ⟨y67, hg68, hO6, hA16⟩ | ⟨y71, y72, f69, f70, hg73, hO6, hA16⟩
              ·
                replace hF := q_uc hF hg68 (q_sc (.head _) (q_sc (.tail _ (.head _)) (fun _ h => absurd h List.not_mem_nil)))
                refine lv_iinc (v := ((cf9 + 1) + 1) + 1) (lv' := [(2, .int (((cf9 + 1) + 1) + 1)), (3, .int 2), (0, .ref qO0), (1, .ref qO1)]) hx hb d_8_13_72 hl (k := 1) rfl (rfl) (by decide) rfl (fun ls hl => ?_)
                refine lv_iinc (v := 3) (lv' := [(3, .int 3), (2, .int (((cf9 + 1) + 1) + 1)), (0, .ref qO0), (1, .ref qO1)]) hx hb d_8_13_75 hl (k := 1) rfl (by decide) (by decide) rfl (fun ls hl => ?_)
                refine lv_goto (tgt := 46) hx hb d_8_13_78 (by decide) ?_
                refine lv_iload_n hx hb d_8_13_46 rfl (lv_at hl 0 rfl) ?_
                refine lv_iconst (v := 3) hx hb d_8_13_47 (by decide) ?_
                refine lv_icmp_ge (tgt := 81) hx hb d_8_13_48 (by decide) (fun c74 => ?_) (fun c74 => absurd (by decide) c74)
                refine lv_iload_n hx hb d_8_13_81 rfl (lv_at hl 1 rfl) ?_
                exact q_reti C0 V (Or.inl ⟨(((cf9 + 1) + 1) + 1), y20, y67, f18, f19, (q_Ile (x := 1) (y := (((cf9.toInt + 1) + 1) + 1)) (by decide) (q_addI (x := ((cf9.toInt + 1) + 1)) (y := 1) (q_addI (x := (cf9.toInt + 1)) (y := 1) (q_addI (x := cf9.toInt) (y := 1) rfl (by decide) (by have t1 : 1 ≤ cf9.toInt := q_leI e11; have t2 : cf9.toInt ≤ 62 := q_leI e12; omega) (by have t1 : 1 ≤ cf9.toInt := q_leI e11; have t2 : cf9.toInt ≤ 62 := q_leI e12; omega)) (by decide) (by have t1 : 1 ≤ cf9.toInt := q_leI e11; have t2 : cf9.toInt ≤ 62 := q_leI e12; omega) (by have t1 : 1 ≤ cf9.toInt := q_leI e11; have t2 : cf9.toInt ≤ 62 := q_leI e12; omega)) (by decide) (by have t1 : 1 ≤ cf9.toInt := q_leI e11; have t2 : cf9.toInt ≤ 62 := q_leI e12; omega) (by have t1 : 1 ≤ cf9.toInt := q_leI e11; have t2 : cf9.toInt ≤ 62 := q_leI e12; omega)) (by have t1 : 1 ≤ cf9.toInt := q_leI e11; have t2 : cf9.toInt ≤ 62 := q_leI e12; omega)), (q_Ile (x := (((cf9.toInt + 1) + 1) + 1)) (y := 70) (q_addI (x := ((cf9.toInt + 1) + 1)) (y := 1) (q_addI (x := (cf9.toInt + 1)) (y := 1) (q_addI (x := cf9.toInt) (y := 1) rfl (by decide) (by have t1 : 1 ≤ cf9.toInt := q_leI e11; have t2 : cf9.toInt ≤ 62 := q_leI e12; omega) (by have t1 : 1 ≤ cf9.toInt := q_leI e11; have t2 : cf9.toInt ≤ 62 := q_leI e12; omega)) (by decide) (by have t1 : 1 ≤ cf9.toInt := q_leI e11; have t2 : cf9.toInt ≤ 62 := q_leI e12; omega) (by have t1 : 1 ≤ cf9.toInt := q_leI e11; have t2 : cf9.toInt ≤ 62 := q_leI e12; omega)) (by decide) (by have t1 : 1 ≤ cf9.toInt := q_leI e11; have t2 : cf9.toInt ≤ 62 := q_leI e12; omega) (by have t1 : 1 ≤ cf9.toInt := q_leI e11; have t2 : cf9.toInt ≤ 62 := q_leI e12; omega)) (by decide) (by have t1 : 1 ≤ cf9.toInt := q_leI e11; have t2 : cf9.toInt ≤ 62 := q_leI e12; omega)), rfl, hF, hO6, hA16⟩) d_8_13_82
              ·
                replace hF := q_uc hF hg73 (q_sc (.head _) (q_sc (.tail _ (.head _)) (fun _ h => absurd h List.not_mem_nil)))
                refine lv_iinc (v := ((cf9 + 1) + 1) + 1) (lv' := [(2, .int (((cf9 + 1) + 1) + 1)), (3, .int 2), (0, .ref qO0), (1, .ref qO1)]) hx hb d_8_13_72 hl (k := 1) rfl (rfl) (by decide) rfl (fun ls hl => ?_)
                refine lv_iinc (v := 3) (lv' := [(3, .int 3), (2, .int (((cf9 + 1) + 1) + 1)), (0, .ref qO0), (1, .ref qO1)]) hx hb d_8_13_75 hl (k := 1) rfl (by decide) (by decide) rfl (fun ls hl => ?_)
                refine lv_goto (tgt := 46) hx hb d_8_13_78 (by decide) ?_
                refine lv_iload_n hx hb d_8_13_46 rfl (lv_at hl 0 rfl) ?_
                refine lv_iconst (v := 3) hx hb d_8_13_47 (by decide) ?_
                refine lv_icmp_ge (tgt := 81) hx hb d_8_13_48 (by decide) (fun c75 => ?_) (fun c75 => absurd (by decide) c75)
                refine lv_iload_n hx hb d_8_13_81 rfl (lv_at hl 1 rfl) ?_
                exact q_reti C0 V (Or.inl ⟨(((cf9 + 1) + 1) + 1), y71, y72, f69, f70, (q_Ile (x := 1) (y := (((cf9.toInt + 1) + 1) + 1)) (by decide) (q_addI (x := ((cf9.toInt + 1) + 1)) (y := 1) (q_addI (x := (cf9.toInt + 1)) (y := 1) (q_addI (x := cf9.toInt) (y := 1) rfl (by decide) (by have t1 : 1 ≤ cf9.toInt := q_leI e11; have t2 : cf9.toInt ≤ 62 := q_leI e12; omega) (by have t1 : 1 ≤ cf9.toInt := q_leI e11; have t2 : cf9.toInt ≤ 62 := q_leI e12; omega)) (by decide) (by have t1 : 1 ≤ cf9.toInt := q_leI e11; have t2 : cf9.toInt ≤ 62 := q_leI e12; omega) (by have t1 : 1 ≤ cf9.toInt := q_leI e11; have t2 : cf9.toInt ≤ 62 := q_leI e12; omega)) (by decide) (by have t1 : 1 ≤ cf9.toInt := q_leI e11; have t2 : cf9.toInt ≤ 62 := q_leI e12; omega) (by have t1 : 1 ≤ cf9.toInt := q_leI e11; have t2 : cf9.toInt ≤ 62 := q_leI e12; omega)) (by have t1 : 1 ≤ cf9.toInt := q_leI e11; have t2 : cf9.toInt ≤ 62 := q_leI e12; omega)), (q_Ile (x := (((cf9.toInt + 1) + 1) + 1)) (y := 70) (q_addI (x := ((cf9.toInt + 1) + 1)) (y := 1) (q_addI (x := (cf9.toInt + 1)) (y := 1) (q_addI (x := cf9.toInt) (y := 1) rfl (by decide) (by have t1 : 1 ≤ cf9.toInt := q_leI e11; have t2 : cf9.toInt ≤ 62 := q_leI e12; omega) (by have t1 : 1 ≤ cf9.toInt := q_leI e11; have t2 : cf9.toInt ≤ 62 := q_leI e12; omega)) (by decide) (by have t1 : 1 ≤ cf9.toInt := q_leI e11; have t2 : cf9.toInt ≤ 62 := q_leI e12; omega) (by have t1 : 1 ≤ cf9.toInt := q_leI e11; have t2 : cf9.toInt ≤ 62 := q_leI e12; omega)) (by decide) (by have t1 : 1 ≤ cf9.toInt := q_leI e11; have t2 : cf9.toInt ≤ 62 := q_leI e12; omega) (by have t1 : 1 ≤ cf9.toInt := q_leI e11; have t2 : cf9.toInt ≤ 62 := q_leI e12; omega)) (by decide) (by have t1 : 1 ≤ cf9.toInt := q_leI e11; have t2 : cf9.toInt ≤ 62 := q_leI e12; omega)), rfl, hF, hO6, hA16⟩) d_8_13_82
            ·
              refine lv_if_lt (tgt := 81) hx hb d_8_13_59 (by decide) (fun c76 => absurd c76 (by decide)) (fun c76 => ?_)
              refine lv_aload_n hx hb d_8_13_62 rfl (lv_at hl 2 rfl) ?_
              refine q_get (ci := 4) (j := 5) (v := .ref qO6) C0 V i_Mil rfl rfl hO0 (by decide) w_124 rfl d_8_13_63 ?_
              refine lv_bipush (v := 10) hx hb d_8_13_66 (by decide) ?_
              refine lv_iconst (v := 0) hx hb d_8_13_68 (by decide) ?_
              refine q_gov V (q_runV (As := [.int 10, .int 0]) (rest := []) (d := 1) (mc := 0) (ms := 0) (ci := 2) C0 V rfl LV_Mil_102 (c_Big_multiplySmall_4 l D g u49 kO6 kA16 qO6 qA16 y20 y50 hO6 hA16 f18 f19 _) rfl rfl hO6 rfl hl.1 rfl (Nat.le_of_ble_eq_true rfl) ⟨by decide, by decide⟩ ⟨Nat.le_of_ble_eq_true rfl, Nat.le_of_ble_eq_true rfl⟩ d_8_13_69) (fun u78 H locs hp77 V => ?_)
              rcases hp77 with ⟨y79, hg80, hO6, hA16⟩ | ⟨y83, y84, f81, f82, hg85, hO6, hA16⟩
              ·
                replace hF := q_uc hF hg80 (q_sc (.head _) (q_sc (.tail _ (.head _)) (fun _ h => absurd h List.not_mem_nil)))
                refine lv_iinc (v := ((cf9 + 1) + 1) + 1) (lv' := [(2, .int (((cf9 + 1) + 1) + 1)), (3, .int 2), (0, .ref qO0), (1, .ref qO1)]) hx hb d_8_13_72 hl (k := 1) rfl (rfl) (by decide) rfl (fun ls hl => ?_)
                refine lv_iinc (v := 3) (lv' := [(3, .int 3), (2, .int (((cf9 + 1) + 1) + 1)), (0, .ref qO0), (1, .ref qO1)]) hx hb d_8_13_75 hl (k := 1) rfl (by decide) (by decide) rfl (fun ls hl => ?_)
                refine lv_goto (tgt := 46) hx hb d_8_13_78 (by decide) ?_
                refine lv_iload_n hx hb d_8_13_46 rfl (lv_at hl 0 rfl) ?_
                refine lv_iconst (v := 3) hx hb d_8_13_47 (by decide) ?_
                refine lv_icmp_ge (tgt := 81) hx hb d_8_13_48 (by decide) (fun c86 => ?_) (fun c86 => absurd (by decide) c86)
                refine lv_iload_n hx hb d_8_13_81 rfl (lv_at hl 1 rfl) ?_
                exact q_reti C0 V (Or.inl ⟨(((cf9 + 1) + 1) + 1), y20, y79, f18, f19, (q_Ile (x := 1) (y := (((cf9.toInt + 1) + 1) + 1)) (by decide) (q_addI (x := ((cf9.toInt + 1) + 1)) (y := 1) (q_addI (x := (cf9.toInt + 1)) (y := 1) (q_addI (x := cf9.toInt) (y := 1) rfl (by decide) (by have t1 : 1 ≤ cf9.toInt := q_leI e11; have t2 : cf9.toInt ≤ 62 := q_leI e12; omega) (by have t1 : 1 ≤ cf9.toInt := q_leI e11; have t2 : cf9.toInt ≤ 62 := q_leI e12; omega)) (by decide) (by have t1 : 1 ≤ cf9.toInt := q_leI e11; have t2 : cf9.toInt ≤ 62 := q_leI e12; omega) (by have t1 : 1 ≤ cf9.toInt := q_leI e11; have t2 : cf9.toInt ≤ 62 := q_leI e12; omega)) (by decide) (by have t1 : 1 ≤ cf9.toInt := q_leI e11; have t2 : cf9.toInt ≤ 62 := q_leI e12; omega) (by have t1 : 1 ≤ cf9.toInt := q_leI e11; have t2 : cf9.toInt ≤ 62 := q_leI e12; omega)) (by have t1 : 1 ≤ cf9.toInt := q_leI e11; have t2 : cf9.toInt ≤ 62 := q_leI e12; omega)), (q_Ile (x := (((cf9.toInt + 1) + 1) + 1)) (y := 70) (q_addI (x := ((cf9.toInt + 1) + 1)) (y := 1) (q_addI (x := (cf9.toInt + 1)) (y := 1) (q_addI (x := cf9.toInt) (y := 1) rfl (by decide) (by have t1 : 1 ≤ cf9.toInt := q_leI e11; have t2 : cf9.toInt ≤ 62 := q_leI e12; omega) (by have t1 : 1 ≤ cf9.toInt := q_leI e11; have t2 : cf9.toInt ≤ 62 := q_leI e12; omega)) (by decide) (by have t1 : 1 ≤ cf9.toInt := q_leI e11; have t2 : cf9.toInt ≤ 62 := q_leI e12; omega) (by have t1 : 1 ≤ cf9.toInt := q_leI e11; have t2 : cf9.toInt ≤ 62 := q_leI e12; omega)) (by decide) (by have t1 : 1 ≤ cf9.toInt := q_leI e11; have t2 : cf9.toInt ≤ 62 := q_leI e12; omega) (by have t1 : 1 ≤ cf9.toInt := q_leI e11; have t2 : cf9.toInt ≤ 62 := q_leI e12; omega)) (by decide) (by have t1 : 1 ≤ cf9.toInt := q_leI e11; have t2 : cf9.toInt ≤ 62 := q_leI e12; omega)), rfl, hF, hO6, hA16⟩) d_8_13_82
              ·
                replace hF := q_uc hF hg85 (q_sc (.head _) (q_sc (.tail _ (.head _)) (fun _ h => absurd h List.not_mem_nil)))
                refine lv_iinc (v := ((cf9 + 1) + 1) + 1) (lv' := [(2, .int (((cf9 + 1) + 1) + 1)), (3, .int 2), (0, .ref qO0), (1, .ref qO1)]) hx hb d_8_13_72 hl (k := 1) rfl (rfl) (by decide) rfl (fun ls hl => ?_)
                refine lv_iinc (v := 3) (lv' := [(3, .int 3), (2, .int (((cf9 + 1) + 1) + 1)), (0, .ref qO0), (1, .ref qO1)]) hx hb d_8_13_75 hl (k := 1) rfl (by decide) (by decide) rfl (fun ls hl => ?_)
                refine lv_goto (tgt := 46) hx hb d_8_13_78 (by decide) ?_
                refine lv_iload_n hx hb d_8_13_46 rfl (lv_at hl 0 rfl) ?_
                refine lv_iconst (v := 3) hx hb d_8_13_47 (by decide) ?_
                refine lv_icmp_ge (tgt := 81) hx hb d_8_13_48 (by decide) (fun c87 => ?_) (fun c87 => absurd (by decide) c87)
                refine lv_iload_n hx hb d_8_13_81 rfl (lv_at hl 1 rfl) ?_
                exact q_reti C0 V (Or.inl ⟨(((cf9 + 1) + 1) + 1), y83, y84, f81, f82, (q_Ile (x := 1) (y := (((cf9.toInt + 1) + 1) + 1)) (by decide) (q_addI (x := ((cf9.toInt + 1) + 1)) (y := 1) (q_addI (x := (cf9.toInt + 1)) (y := 1) (q_addI (x := cf9.toInt) (y := 1) rfl (by decide) (by have t1 : 1 ≤ cf9.toInt := q_leI e11; have t2 : cf9.toInt ≤ 62 := q_leI e12; omega) (by have t1 : 1 ≤ cf9.toInt := q_leI e11; have t2 : cf9.toInt ≤ 62 := q_leI e12; omega)) (by decide) (by have t1 : 1 ≤ cf9.toInt := q_leI e11; have t2 : cf9.toInt ≤ 62 := q_leI e12; omega) (by have t1 : 1 ≤ cf9.toInt := q_leI e11; have t2 : cf9.toInt ≤ 62 := q_leI e12; omega)) (by decide) (by have t1 : 1 ≤ cf9.toInt := q_leI e11; have t2 : cf9.toInt ≤ 62 := q_leI e12; omega) (by have t1 : 1 ≤ cf9.toInt := q_leI e11; have t2 : cf9.toInt ≤ 62 := q_leI e12; omega)) (by have t1 : 1 ≤ cf9.toInt := q_leI e11; have t2 : cf9.toInt ≤ 62 := q_leI e12; omega)), (q_Ile (x := (((cf9.toInt + 1) + 1) + 1)) (y := 70) (q_addI (x := ((cf9.toInt + 1) + 1)) (y := 1) (q_addI (x := (cf9.toInt + 1)) (y := 1) (q_addI (x := cf9.toInt) (y := 1) rfl (by decide) (by have t1 : 1 ≤ cf9.toInt := q_leI e11; have t2 : cf9.toInt ≤ 62 := q_leI e12; omega) (by have t1 : 1 ≤ cf9.toInt := q_leI e11; have t2 : cf9.toInt ≤ 62 := q_leI e12; omega)) (by decide) (by have t1 : 1 ≤ cf9.toInt := q_leI e11; have t2 : cf9.toInt ≤ 62 := q_leI e12; omega) (by have t1 : 1 ≤ cf9.toInt := q_leI e11; have t2 : cf9.toInt ≤ 62 := q_leI e12; omega)) (by decide) (by have t1 : 1 ≤ cf9.toInt := q_leI e11; have t2 : cf9.toInt ≤ 62 := q_leI e12; omega) (by have t1 : 1 ≤ cf9.toInt := q_leI e11; have t2 : cf9.toInt ≤ 62 := q_leI e12; omega)) (by decide) (by have t1 : 1 ≤ cf9.toInt := q_leI e11; have t2 : cf9.toInt ≤ 62 := q_leI e12; omega)), rfl, hF, hO6, hA16⟩) d_8_13_82
            ·
              refine lv_if_lt (tgt := 81) hx hb d_8_13_59 (by decide) (fun c88 => ?_) (fun c88 => absurd (by decide) c88)
              refine lv_iload_n hx hb d_8_13_81 rfl (lv_at hl 1 rfl) ?_
              exact q_reti C0 V (Or.inl ⟨((cf9 + 1) + 1), y20, y50, f18, f19, (q_Ile (x := 1) (y := ((cf9.toInt + 1) + 1)) (by decide) (q_addI (x := (cf9.toInt + 1)) (y := 1) (q_addI (x := cf9.toInt) (y := 1) rfl (by decide) (by have t1 : 1 ≤ cf9.toInt := q_leI e11; have t2 : cf9.toInt ≤ 62 := q_leI e12; omega) (by have t1 : 1 ≤ cf9.toInt := q_leI e11; have t2 : cf9.toInt ≤ 62 := q_leI e12; omega)) (by decide) (by have t1 : 1 ≤ cf9.toInt := q_leI e11; have t2 : cf9.toInt ≤ 62 := q_leI e12; omega) (by have t1 : 1 ≤ cf9.toInt := q_leI e11; have t2 : cf9.toInt ≤ 62 := q_leI e12; omega)) (by have t1 : 1 ≤ cf9.toInt := q_leI e11; have t2 : cf9.toInt ≤ 62 := q_leI e12; omega)), (q_Ile (x := ((cf9.toInt + 1) + 1)) (y := 70) (q_addI (x := (cf9.toInt + 1)) (y := 1) (q_addI (x := cf9.toInt) (y := 1) rfl (by decide) (by have t1 : 1 ≤ cf9.toInt := q_leI e11; have t2 : cf9.toInt ≤ 62 := q_leI e12; omega) (by have t1 : 1 ≤ cf9.toInt := q_leI e11; have t2 : cf9.toInt ≤ 62 := q_leI e12; omega)) (by decide) (by have t1 : 1 ≤ cf9.toInt := q_leI e11; have t2 : cf9.toInt ≤ 62 := q_leI e12; omega) (by have t1 : 1 ≤ cf9.toInt := q_leI e11; have t2 : cf9.toInt ≤ 62 := q_leI e12; omega)) (by decide) (by have t1 : 1 ≤ cf9.toInt := q_leI e11; have t2 : cf9.toInt ≤ 62 := q_leI e12; omega)), rfl, hF, hO6, hA16⟩) d_8_13_82
          ·
            replace hF := q_uc hF hg56 (q_sc (.head _) (q_sc (.tail _ (.head _)) (fun _ h => absurd h List.not_mem_nil)))
            refine lv_iinc (v := (cf9 + 1) + 1) (lv' := [(2, .int ((cf9 + 1) + 1)), (3, .int 1), (0, .ref qO0), (1, .ref qO1)]) hx hb d_8_13_72 hl (k := 1) rfl (rfl) (by decide) rfl (fun ls hl => ?_)
            refine lv_iinc (v := 2) (lv' := [(3, .int 2), (2, .int ((cf9 + 1) + 1)), (0, .ref qO0), (1, .ref qO1)]) hx hb d_8_13_75 hl (k := 1) rfl (by decide) (by decide) rfl (fun ls hl => ?_)
            refine lv_goto (tgt := 46) hx hb d_8_13_78 (by decide) ?_
            refine lv_iload_n hx hb d_8_13_46 rfl (lv_at hl 0 rfl) ?_
            refine lv_iconst (v := 3) hx hb d_8_13_47 (by decide) ?_
            refine lv_icmp_ge (tgt := 81) hx hb d_8_13_48 (by decide) (fun c89 => absurd c89 (by decide)) (fun c89 => ?_)
            refine lv_aload_n hx hb d_8_13_51 rfl (lv_at hl 3 rfl) ?_
            refine lv_aload_n hx hb d_8_13_52 rfl (lv_at hl 2 rfl) ?_
            replace hO0 := (hg56 _ (q_nc n_O0_O6 (q_nc n_O0_A16 List.not_mem_nil))).trans (hO0)
            refine q_get (ci := 4) (j := 5) (v := .ref qO6) C0 V i_Mil rfl rfl hO0 (by decide) w_124 rfl d_8_13_53 ?_
            replace hO1 := (hg56 _ (q_nc n_O1_O6 (q_nc n_O1_A16 List.not_mem_nil))).trans (hO1)
            replace hA11 := (hg56 _ (q_nc n_A11_O6 (q_nc n_A11_A16 List.not_mem_nil))).trans (hA11)
            refine q_goi V (q_runV (As := [.ref qO6]) (rest := []) (d := 2) (mc := 0) (ms := 0) (ci := 2) C0 V rfl LV_Mil_112 (c_Big_compareSize_3 l D g u49 kO1 kO6 kA11 kA16 qO1 qO6 qA11 qA16 y1 y2 y54 f3 y55 hO1 hO6 hA11 hA16 (q_Ile (x := 1) (y := y1.toInt) (by decide) rfl (by have t1 : 0 ≤ y1.toInt := q_leI y1lo; have t2 : y1.toInt ≤ 3 := q_leI y1hi; have t3 : y1.toInt ≠ 0 := q_neI c1; omega)) y1hi y2lo y2hi f52 f53 _) rfl rfl hO1 rfl hl.1 rfl (Nat.le_of_ble_eq_true rfl) ⟨by decide, by decide⟩ ⟨Nat.le_of_ble_eq_true rfl, Nat.le_of_ble_eq_true rfl⟩ d_8_13_56) (fun v92 u91 H locs hp90 V => ?_)
            rcases hp90 with ⟨rfl, rfl⟩ | ⟨rfl, rfl⟩ | ⟨rfl, rfl⟩
            ·
              refine lv_if_lt (tgt := 81) hx hb d_8_13_59 (by decide) (fun c96 => absurd c96 (by decide)) (fun c96 => ?_)
              refine lv_aload_n hx hb d_8_13_62 rfl (lv_at hl 2 rfl) ?_
              refine q_get (ci := 4) (j := 5) (v := .ref qO6) C0 V i_Mil rfl rfl hO0 (by decide) w_124 rfl d_8_13_63 ?_
              refine lv_bipush (v := 10) hx hb d_8_13_66 (by decide) ?_
              refine lv_iconst (v := 0) hx hb d_8_13_68 (by decide) ?_
              refine q_gov V (q_runV (As := [.int 10, .int 0]) (rest := []) (d := 1) (mc := 0) (ms := 0) (ci := 2) C0 V rfl LV_Mil_102 (c_Big_multiplySmall_4 l D g u49 kO6 kA16 qO6 qA16 y54 y55 hO6 hA16 f52 f53 _) rfl rfl hO6 rfl hl.1 rfl (Nat.le_of_ble_eq_true rfl) ⟨by decide, by decide⟩ ⟨Nat.le_of_ble_eq_true rfl, Nat.le_of_ble_eq_true rfl⟩ d_8_13_69) (fun u98 H locs hp97 V => ?_)
              rcases hp97 with ⟨y99, hg100, hO6, hA16⟩ | ⟨y103, y104, f101, f102, hg105, hO6, hA16⟩
              ·
                replace hF := q_uc hF hg100 (q_sc (.head _) (q_sc (.tail _ (.head _)) (fun _ h => absurd h List.not_mem_nil)))
                refine lv_iinc (v := ((cf9 + 1) + 1) + 1) (lv' := [(2, .int (((cf9 + 1) + 1) + 1)), (3, .int 2), (0, .ref qO0), (1, .ref qO1)]) hx hb d_8_13_72 hl (k := 1) rfl (rfl) (by decide) rfl (fun ls hl => ?_)
                refine lv_iinc (v := 3) (lv' := [(3, .int 3), (2, .int (((cf9 + 1) + 1) + 1)), (0, .ref qO0), (1, .ref qO1)]) hx hb d_8_13_75 hl (k := 1) rfl (by decide) (by decide) rfl (fun ls hl => ?_)
                refine lv_goto (tgt := 46) hx hb d_8_13_78 (by decide) ?_
                refine lv_iload_n hx hb d_8_13_46 rfl (lv_at hl 0 rfl) ?_
                refine lv_iconst (v := 3) hx hb d_8_13_47 (by decide) ?_
                refine lv_icmp_ge (tgt := 81) hx hb d_8_13_48 (by decide) (fun c106 => ?_) (fun c106 => absurd (by decide) c106)
                refine lv_iload_n hx hb d_8_13_81 rfl (lv_at hl 1 rfl) ?_
                exact q_reti C0 V (Or.inl ⟨(((cf9 + 1) + 1) + 1), y54, y99, f52, f53, (q_Ile (x := 1) (y := (((cf9.toInt + 1) + 1) + 1)) (by decide) (q_addI (x := ((cf9.toInt + 1) + 1)) (y := 1) (q_addI (x := (cf9.toInt + 1)) (y := 1) (q_addI (x := cf9.toInt) (y := 1) rfl (by decide) (by have t1 : 1 ≤ cf9.toInt := q_leI e11; have t2 : cf9.toInt ≤ 62 := q_leI e12; omega) (by have t1 : 1 ≤ cf9.toInt := q_leI e11; have t2 : cf9.toInt ≤ 62 := q_leI e12; omega)) (by decide) (by have t1 : 1 ≤ cf9.toInt := q_leI e11; have t2 : cf9.toInt ≤ 62 := q_leI e12; omega) (by have t1 : 1 ≤ cf9.toInt := q_leI e11; have t2 : cf9.toInt ≤ 62 := q_leI e12; omega)) (by decide) (by have t1 : 1 ≤ cf9.toInt := q_leI e11; have t2 : cf9.toInt ≤ 62 := q_leI e12; omega) (by have t1 : 1 ≤ cf9.toInt := q_leI e11; have t2 : cf9.toInt ≤ 62 := q_leI e12; omega)) (by have t1 : 1 ≤ cf9.toInt := q_leI e11; have t2 : cf9.toInt ≤ 62 := q_leI e12; omega)), (q_Ile (x := (((cf9.toInt + 1) + 1) + 1)) (y := 70) (q_addI (x := ((cf9.toInt + 1) + 1)) (y := 1) (q_addI (x := (cf9.toInt + 1)) (y := 1) (q_addI (x := cf9.toInt) (y := 1) rfl (by decide) (by have t1 : 1 ≤ cf9.toInt := q_leI e11; have t2 : cf9.toInt ≤ 62 := q_leI e12; omega) (by have t1 : 1 ≤ cf9.toInt := q_leI e11; have t2 : cf9.toInt ≤ 62 := q_leI e12; omega)) (by decide) (by have t1 : 1 ≤ cf9.toInt := q_leI e11; have t2 : cf9.toInt ≤ 62 := q_leI e12; omega) (by have t1 : 1 ≤ cf9.toInt := q_leI e11; have t2 : cf9.toInt ≤ 62 := q_leI e12; omega)) (by decide) (by have t1 : 1 ≤ cf9.toInt := q_leI e11; have t2 : cf9.toInt ≤ 62 := q_leI e12; omega) (by have t1 : 1 ≤ cf9.toInt := q_leI e11; have t2 : cf9.toInt ≤ 62 := q_leI e12; omega)) (by decide) (by have t1 : 1 ≤ cf9.toInt := q_leI e11; have t2 : cf9.toInt ≤ 62 := q_leI e12; omega)), rfl, hF, hO6, hA16⟩) d_8_13_82
              ·
                replace hF := q_uc hF hg105 (q_sc (.head _) (q_sc (.tail _ (.head _)) (fun _ h => absurd h List.not_mem_nil)))
                refine lv_iinc (v := ((cf9 + 1) + 1) + 1) (lv' := [(2, .int (((cf9 + 1) + 1) + 1)), (3, .int 2), (0, .ref qO0), (1, .ref qO1)]) hx hb d_8_13_72 hl (k := 1) rfl (rfl) (by decide) rfl (fun ls hl => ?_)
                refine lv_iinc (v := 3) (lv' := [(3, .int 3), (2, .int (((cf9 + 1) + 1) + 1)), (0, .ref qO0), (1, .ref qO1)]) hx hb d_8_13_75 hl (k := 1) rfl (by decide) (by decide) rfl (fun ls hl => ?_)
                refine lv_goto (tgt := 46) hx hb d_8_13_78 (by decide) ?_
                refine lv_iload_n hx hb d_8_13_46 rfl (lv_at hl 0 rfl) ?_
                refine lv_iconst (v := 3) hx hb d_8_13_47 (by decide) ?_
                refine lv_icmp_ge (tgt := 81) hx hb d_8_13_48 (by decide) (fun c107 => ?_) (fun c107 => absurd (by decide) c107)
                refine lv_iload_n hx hb d_8_13_81 rfl (lv_at hl 1 rfl) ?_
                exact q_reti C0 V (Or.inl ⟨(((cf9 + 1) + 1) + 1), y103, y104, f101, f102, (q_Ile (x := 1) (y := (((cf9.toInt + 1) + 1) + 1)) (by decide) (q_addI (x := ((cf9.toInt + 1) + 1)) (y := 1) (q_addI (x := (cf9.toInt + 1)) (y := 1) (q_addI (x := cf9.toInt) (y := 1) rfl (by decide) (by have t1 : 1 ≤ cf9.toInt := q_leI e11; have t2 : cf9.toInt ≤ 62 := q_leI e12; omega) (by have t1 : 1 ≤ cf9.toInt := q_leI e11; have t2 : cf9.toInt ≤ 62 := q_leI e12; omega)) (by decide) (by have t1 : 1 ≤ cf9.toInt := q_leI e11; have t2 : cf9.toInt ≤ 62 := q_leI e12; omega) (by have t1 : 1 ≤ cf9.toInt := q_leI e11; have t2 : cf9.toInt ≤ 62 := q_leI e12; omega)) (by decide) (by have t1 : 1 ≤ cf9.toInt := q_leI e11; have t2 : cf9.toInt ≤ 62 := q_leI e12; omega) (by have t1 : 1 ≤ cf9.toInt := q_leI e11; have t2 : cf9.toInt ≤ 62 := q_leI e12; omega)) (by have t1 : 1 ≤ cf9.toInt := q_leI e11; have t2 : cf9.toInt ≤ 62 := q_leI e12; omega)), (q_Ile (x := (((cf9.toInt + 1) + 1) + 1)) (y := 70) (q_addI (x := ((cf9.toInt + 1) + 1)) (y := 1) (q_addI (x := (cf9.toInt + 1)) (y := 1) (q_addI (x := cf9.toInt) (y := 1) rfl (by decide) (by have t1 : 1 ≤ cf9.toInt := q_leI e11; have t2 : cf9.toInt ≤ 62 := q_leI e12; omega) (by have t1 : 1 ≤ cf9.toInt := q_leI e11; have t2 : cf9.toInt ≤ 62 := q_leI e12; omega)) (by decide) (by have t1 : 1 ≤ cf9.toInt := q_leI e11; have t2 : cf9.toInt ≤ 62 := q_leI e12; omega) (by have t1 : 1 ≤ cf9.toInt := q_leI e11; have t2 : cf9.toInt ≤ 62 := q_leI e12; omega)) (by decide) (by have t1 : 1 ≤ cf9.toInt := q_leI e11; have t2 : cf9.toInt ≤ 62 := q_leI e12; omega) (by have t1 : 1 ≤ cf9.toInt := q_leI e11; have t2 : cf9.toInt ≤ 62 := q_leI e12; omega)) (by decide) (by have t1 : 1 ≤ cf9.toInt := q_leI e11; have t2 : cf9.toInt ≤ 62 := q_leI e12; omega)), rfl, hF, hO6, hA16⟩) d_8_13_82
            ·
              refine lv_if_lt (tgt := 81) hx hb d_8_13_59 (by decide) (fun c108 => absurd c108 (by decide)) (fun c108 => ?_)
              refine lv_aload_n hx hb d_8_13_62 rfl (lv_at hl 2 rfl) ?_
              refine q_get (ci := 4) (j := 5) (v := .ref qO6) C0 V i_Mil rfl rfl hO0 (by decide) w_124 rfl d_8_13_63 ?_
              refine lv_bipush (v := 10) hx hb d_8_13_66 (by decide) ?_
              refine lv_iconst (v := 0) hx hb d_8_13_68 (by decide) ?_
              refine q_gov V (q_runV (As := [.int 10, .int 0]) (rest := []) (d := 1) (mc := 0) (ms := 0) (ci := 2) C0 V rfl LV_Mil_102 (c_Big_multiplySmall_4 l D g u49 kO6 kA16 qO6 qA16 y54 y55 hO6 hA16 f52 f53 _) rfl rfl hO6 rfl hl.1 rfl (Nat.le_of_ble_eq_true rfl) ⟨by decide, by decide⟩ ⟨Nat.le_of_ble_eq_true rfl, Nat.le_of_ble_eq_true rfl⟩ d_8_13_69) (fun u110 H locs hp109 V => ?_)
              rcases hp109 with ⟨y111, hg112, hO6, hA16⟩ | ⟨y115, y116, f113, f114, hg117, hO6, hA16⟩
              ·
                replace hF := q_uc hF hg112 (q_sc (.head _) (q_sc (.tail _ (.head _)) (fun _ h => absurd h List.not_mem_nil)))
                refine lv_iinc (v := ((cf9 + 1) + 1) + 1) (lv' := [(2, .int (((cf9 + 1) + 1) + 1)), (3, .int 2), (0, .ref qO0), (1, .ref qO1)]) hx hb d_8_13_72 hl (k := 1) rfl (rfl) (by decide) rfl (fun ls hl => ?_)
                refine lv_iinc (v := 3) (lv' := [(3, .int 3), (2, .int (((cf9 + 1) + 1) + 1)), (0, .ref qO0), (1, .ref qO1)]) hx hb d_8_13_75 hl (k := 1) rfl (by decide) (by decide) rfl (fun ls hl => ?_)
                refine lv_goto (tgt := 46) hx hb d_8_13_78 (by decide) ?_
                refine lv_iload_n hx hb d_8_13_46 rfl (lv_at hl 0 rfl) ?_
                refine lv_iconst (v := 3) hx hb d_8_13_47 (by decide) ?_
                refine lv_icmp_ge (tgt := 81) hx hb d_8_13_48 (by decide) (fun c118 => ?_) (fun c118 => absurd (by decide) c118)
                refine lv_iload_n hx hb d_8_13_81 rfl (lv_at hl 1 rfl) ?_
                exact q_reti C0 V (Or.inl ⟨(((cf9 + 1) + 1) + 1), y54, y111, f52, f53, (q_Ile (x := 1) (y := (((cf9.toInt + 1) + 1) + 1)) (by decide) (q_addI (x := ((cf9.toInt + 1) + 1)) (y := 1) (q_addI (x := (cf9.toInt + 1)) (y := 1) (q_addI (x := cf9.toInt) (y := 1) rfl (by decide) (by have t1 : 1 ≤ cf9.toInt := q_leI e11; have t2 : cf9.toInt ≤ 62 := q_leI e12; omega) (by have t1 : 1 ≤ cf9.toInt := q_leI e11; have t2 : cf9.toInt ≤ 62 := q_leI e12; omega)) (by decide) (by have t1 : 1 ≤ cf9.toInt := q_leI e11; have t2 : cf9.toInt ≤ 62 := q_leI e12; omega) (by have t1 : 1 ≤ cf9.toInt := q_leI e11; have t2 : cf9.toInt ≤ 62 := q_leI e12; omega)) (by decide) (by have t1 : 1 ≤ cf9.toInt := q_leI e11; have t2 : cf9.toInt ≤ 62 := q_leI e12; omega) (by have t1 : 1 ≤ cf9.toInt := q_leI e11; have t2 : cf9.toInt ≤ 62 := q_leI e12; omega)) (by have t1 : 1 ≤ cf9.toInt := q_leI e11; have t2 : cf9.toInt ≤ 62 := q_leI e12; omega)), (q_Ile (x := (((cf9.toInt + 1) + 1) + 1)) (y := 70) (q_addI (x := ((cf9.toInt + 1) + 1)) (y := 1) (q_addI (x := (cf9.toInt + 1)) (y := 1) (q_addI (x := cf9.toInt) (y := 1) rfl (by decide) (by have t1 : 1 ≤ cf9.toInt := q_leI e11; have t2 : cf9.toInt ≤ 62 := q_leI e12; omega) (by have t1 : 1 ≤ cf9.toInt := q_leI e11; have t2 : cf9.toInt ≤ 62 := q_leI e12; omega)) (by decide) (by have t1 : 1 ≤ cf9.toInt := q_leI e11; have t2 : cf9.toInt ≤ 62 := q_leI e12; omega) (by have t1 : 1 ≤ cf9.toInt := q_leI e11; have t2 : cf9.toInt ≤ 62 := q_leI e12; omega)) (by decide) (by have t1 : 1 ≤ cf9.toInt := q_leI e11; have t2 : cf9.toInt ≤ 62 := q_leI e12; omega) (by have t1 : 1 ≤ cf9.toInt := q_leI e11; have t2 : cf9.toInt ≤ 62 := q_leI e12; omega)) (by decide) (by have t1 : 1 ≤ cf9.toInt := q_leI e11; have t2 : cf9.toInt ≤ 62 := q_leI e12; omega)), rfl, hF, hO6, hA16⟩) d_8_13_82
              ·
                replace hF := q_uc hF hg117 (q_sc (.head _) (q_sc (.tail _ (.head _)) (fun _ h => absurd h List.not_mem_nil)))
                refine lv_iinc (v := ((cf9 + 1) + 1) + 1) (lv' := [(2, .int (((cf9 + 1) + 1) + 1)), (3, .int 2), (0, .ref qO0), (1, .ref qO1)]) hx hb d_8_13_72 hl (k := 1) rfl (rfl) (by decide) rfl (fun ls hl => ?_)
                refine lv_iinc (v := 3) (lv' := [(3, .int 3), (2, .int (((cf9 + 1) + 1) + 1)), (0, .ref qO0), (1, .ref qO1)]) hx hb d_8_13_75 hl (k := 1) rfl (by decide) (by decide) rfl (fun ls hl => ?_)
                refine lv_goto (tgt := 46) hx hb d_8_13_78 (by decide) ?_
                refine lv_iload_n hx hb d_8_13_46 rfl (lv_at hl 0 rfl) ?_
                refine lv_iconst (v := 3) hx hb d_8_13_47 (by decide) ?_
                refine lv_icmp_ge (tgt := 81) hx hb d_8_13_48 (by decide) (fun c119 => ?_) (fun c119 => absurd (by decide) c119)
                refine lv_iload_n hx hb d_8_13_81 rfl (lv_at hl 1 rfl) ?_
                exact q_reti C0 V (Or.inl ⟨(((cf9 + 1) + 1) + 1), y115, y116, f113, f114, (q_Ile (x := 1) (y := (((cf9.toInt + 1) + 1) + 1)) (by decide) (q_addI (x := ((cf9.toInt + 1) + 1)) (y := 1) (q_addI (x := (cf9.toInt + 1)) (y := 1) (q_addI (x := cf9.toInt) (y := 1) rfl (by decide) (by have t1 : 1 ≤ cf9.toInt := q_leI e11; have t2 : cf9.toInt ≤ 62 := q_leI e12; omega) (by have t1 : 1 ≤ cf9.toInt := q_leI e11; have t2 : cf9.toInt ≤ 62 := q_leI e12; omega)) (by decide) (by have t1 : 1 ≤ cf9.toInt := q_leI e11; have t2 : cf9.toInt ≤ 62 := q_leI e12; omega) (by have t1 : 1 ≤ cf9.toInt := q_leI e11; have t2 : cf9.toInt ≤ 62 := q_leI e12; omega)) (by decide) (by have t1 : 1 ≤ cf9.toInt := q_leI e11; have t2 : cf9.toInt ≤ 62 := q_leI e12; omega) (by have t1 : 1 ≤ cf9.toInt := q_leI e11; have t2 : cf9.toInt ≤ 62 := q_leI e12; omega)) (by have t1 : 1 ≤ cf9.toInt := q_leI e11; have t2 : cf9.toInt ≤ 62 := q_leI e12; omega)), (q_Ile (x := (((cf9.toInt + 1) + 1) + 1)) (y := 70) (q_addI (x := ((cf9.toInt + 1) + 1)) (y := 1) (q_addI (x := (cf9.toInt + 1)) (y := 1) (q_addI (x := cf9.toInt) (y := 1) rfl (by decide) (by have t1 : 1 ≤ cf9.toInt := q_leI e11; have t2 : cf9.toInt ≤ 62 := q_leI e12; omega) (by have t1 : 1 ≤ cf9.toInt := q_leI e11; have t2 : cf9.toInt ≤ 62 := q_leI e12; omega)) (by decide) (by have t1 : 1 ≤ cf9.toInt := q_leI e11; have t2 : cf9.toInt ≤ 62 := q_leI e12; omega) (by have t1 : 1 ≤ cf9.toInt := q_leI e11; have t2 : cf9.toInt ≤ 62 := q_leI e12; omega)) (by decide) (by have t1 : 1 ≤ cf9.toInt := q_leI e11; have t2 : cf9.toInt ≤ 62 := q_leI e12; omega) (by have t1 : 1 ≤ cf9.toInt := q_leI e11; have t2 : cf9.toInt ≤ 62 := q_leI e12; omega)) (by decide) (by have t1 : 1 ≤ cf9.toInt := q_leI e11; have t2 : cf9.toInt ≤ 62 := q_leI e12; omega)), rfl, hF, hO6, hA16⟩) d_8_13_82
            ·
              refine lv_if_lt (tgt := 81) hx hb d_8_13_59 (by decide) (fun c120 => ?_) (fun c120 => absurd (by decide) c120)
              refine lv_iload_n hx hb d_8_13_81 rfl (lv_at hl 1 rfl) ?_
              exact q_reti C0 V (Or.inl ⟨((cf9 + 1) + 1), y54, y55, f52, f53, (q_Ile (x := 1) (y := ((cf9.toInt + 1) + 1)) (by decide) (q_addI (x := (cf9.toInt + 1)) (y := 1) (q_addI (x := cf9.toInt) (y := 1) rfl (by decide) (by have t1 : 1 ≤ cf9.toInt := q_leI e11; have t2 : cf9.toInt ≤ 62 := q_leI e12; omega) (by have t1 : 1 ≤ cf9.toInt := q_leI e11; have t2 : cf9.toInt ≤ 62 := q_leI e12; omega)) (by decide) (by have t1 : 1 ≤ cf9.toInt := q_leI e11; have t2 : cf9.toInt ≤ 62 := q_leI e12; omega) (by have t1 : 1 ≤ cf9.toInt := q_leI e11; have t2 : cf9.toInt ≤ 62 := q_leI e12; omega)) (by have t1 : 1 ≤ cf9.toInt := q_leI e11; have t2 : cf9.toInt ≤ 62 := q_leI e12; omega)), (q_Ile (x := ((cf9.toInt + 1) + 1)) (y := 70) (q_addI (x := (cf9.toInt + 1)) (y := 1) (q_addI (x := cf9.toInt) (y := 1) rfl (by decide) (by have t1 : 1 ≤ cf9.toInt := q_leI e11; have t2 : cf9.toInt ≤ 62 := q_leI e12; omega) (by have t1 : 1 ≤ cf9.toInt := q_leI e11; have t2 : cf9.toInt ≤ 62 := q_leI e12; omega)) (by decide) (by have t1 : 1 ≤ cf9.toInt := q_leI e11; have t2 : cf9.toInt ≤ 62 := q_leI e12; omega) (by have t1 : 1 ≤ cf9.toInt := q_leI e11; have t2 : cf9.toInt ≤ 62 := q_leI e12; omega)) (by decide) (by have t1 : 1 ≤ cf9.toInt := q_leI e11; have t2 : cf9.toInt ≤ 62 := q_leI e12; omega)), rfl, hF, hO6, hA16⟩) d_8_13_82
        ·
          refine lv_if_lt (tgt := 81) hx hb d_8_13_59 (by decide) (fun c121 => absurd c121 (by decide)) (fun c121 => ?_)
          refine lv_aload_n hx hb d_8_13_62 rfl (lv_at hl 2 rfl) ?_
          refine q_get (ci := 4) (j := 5) (v := .ref qO6) C0 V i_Mil rfl rfl hO0 (by decide) w_124 rfl d_8_13_63 ?_
          refine lv_bipush (v := 10) hx hb d_8_13_66 (by decide) ?_
          refine lv_iconst (v := 0) hx hb d_8_13_68 (by decide) ?_
          refine q_gov V (q_runV (As := [.int 10, .int 0]) (rest := []) (d := 1) (mc := 0) (ms := 0) (ci := 2) C0 V rfl LV_Mil_102 (c_Big_multiplySmall_4 l D g u32 kO6 kA16 qO6 qA16 y20 y33 hO6 hA16 f18 f19 _) rfl rfl hO6 rfl hl.1 rfl (Nat.le_of_ble_eq_true rfl) ⟨by decide, by decide⟩ ⟨Nat.le_of_ble_eq_true rfl, Nat.le_of_ble_eq_true rfl⟩ d_8_13_69) (fun u123 H locs hp122 V => ?_)
          rcases hp122 with ⟨y124, hg125, hO6, hA16⟩ | ⟨y128, y129, f126, f127, hg130, hO6, hA16⟩
          ·
            replace hF := q_uc hF hg125 (q_sc (.head _) (q_sc (.tail _ (.head _)) (fun _ h => absurd h List.not_mem_nil)))
            refine lv_iinc (v := (cf9 + 1) + 1) (lv' := [(2, .int ((cf9 + 1) + 1)), (3, .int 1), (0, .ref qO0), (1, .ref qO1)]) hx hb d_8_13_72 hl (k := 1) rfl (rfl) (by decide) rfl (fun ls hl => ?_)
            refine lv_iinc (v := 2) (lv' := [(3, .int 2), (2, .int ((cf9 + 1) + 1)), (0, .ref qO0), (1, .ref qO1)]) hx hb d_8_13_75 hl (k := 1) rfl (by decide) (by decide) rfl (fun ls hl => ?_)
            refine lv_goto (tgt := 46) hx hb d_8_13_78 (by decide) ?_
            refine lv_iload_n hx hb d_8_13_46 rfl (lv_at hl 0 rfl) ?_
            refine lv_iconst (v := 3) hx hb d_8_13_47 (by decide) ?_
            refine lv_icmp_ge (tgt := 81) hx hb d_8_13_48 (by decide) (fun c131 => absurd c131 (by decide)) (fun c131 => ?_)
            refine lv_aload_n hx hb d_8_13_51 rfl (lv_at hl 3 rfl) ?_
            refine lv_aload_n hx hb d_8_13_52 rfl (lv_at hl 2 rfl) ?_
            replace hO0 := (hg125 _ (q_nc n_O0_O6 (q_nc n_O0_A16 List.not_mem_nil))).trans (hO0)
            refine q_get (ci := 4) (j := 5) (v := .ref qO6) C0 V i_Mil rfl rfl hO0 (by decide) w_124 rfl d_8_13_53 ?_
            replace hO1 := (hg125 _ (q_nc n_O1_O6 (q_nc n_O1_A16 List.not_mem_nil))).trans (hO1)
            replace hA11 := (hg125 _ (q_nc n_A11_O6 (q_nc n_A11_A16 List.not_mem_nil))).trans (hA11)
            refine q_goi V (q_runV (As := [.ref qO6]) (rest := []) (d := 2) (mc := 0) (ms := 0) (ci := 2) C0 V rfl LV_Mil_112 (c_Big_compareSize_3 l D g u123 kO1 kO6 kA11 kA16 qO1 qO6 qA11 qA16 y1 y2 y20 f3 y124 hO1 hO6 hA11 hA16 (q_Ile (x := 1) (y := y1.toInt) (by decide) rfl (by have t1 : 0 ≤ y1.toInt := q_leI y1lo; have t2 : y1.toInt ≤ 3 := q_leI y1hi; have t3 : y1.toInt ≠ 0 := q_neI c1; omega)) y1hi y2lo y2hi f18 f19 _) rfl rfl hO1 rfl hl.1 rfl (Nat.le_of_ble_eq_true rfl) ⟨by decide, by decide⟩ ⟨Nat.le_of_ble_eq_true rfl, Nat.le_of_ble_eq_true rfl⟩ d_8_13_56) (fun v134 u133 H locs hp132 V => ?_)
            rcases hp132 with ⟨rfl, rfl⟩ | ⟨rfl, rfl⟩ | ⟨rfl, rfl⟩
            ·
              refine lv_if_lt (tgt := 81) hx hb d_8_13_59 (by decide) (fun c138 => absurd c138 (by decide)) (fun c138 => ?_)
              refine lv_aload_n hx hb d_8_13_62 rfl (lv_at hl 2 rfl) ?_
              refine q_get (ci := 4) (j := 5) (v := .ref qO6) C0 V i_Mil rfl rfl hO0 (by decide) w_124 rfl d_8_13_63 ?_
              refine lv_bipush (v := 10) hx hb d_8_13_66 (by decide) ?_
              refine lv_iconst (v := 0) hx hb d_8_13_68 (by decide) ?_
              refine q_gov V (q_runV (As := [.int 10, .int 0]) (rest := []) (d := 1) (mc := 0) (ms := 0) (ci := 2) C0 V rfl LV_Mil_102 (c_Big_multiplySmall_4 l D g u123 kO6 kA16 qO6 qA16 y20 y124 hO6 hA16 f18 f19 _) rfl rfl hO6 rfl hl.1 rfl (Nat.le_of_ble_eq_true rfl) ⟨by decide, by decide⟩ ⟨Nat.le_of_ble_eq_true rfl, Nat.le_of_ble_eq_true rfl⟩ d_8_13_69) (fun u140 H locs hp139 V => ?_)
              rcases hp139 with ⟨y141, hg142, hO6, hA16⟩ | ⟨y145, y146, f143, f144, hg147, hO6, hA16⟩
              ·
                replace hF := q_uc hF hg142 (q_sc (.head _) (q_sc (.tail _ (.head _)) (fun _ h => absurd h List.not_mem_nil)))
                refine lv_iinc (v := ((cf9 + 1) + 1) + 1) (lv' := [(2, .int (((cf9 + 1) + 1) + 1)), (3, .int 2), (0, .ref qO0), (1, .ref qO1)]) hx hb d_8_13_72 hl (k := 1) rfl (rfl) (by decide) rfl (fun ls hl => ?_)
                refine lv_iinc (v := 3) (lv' := [(3, .int 3), (2, .int (((cf9 + 1) + 1) + 1)), (0, .ref qO0), (1, .ref qO1)]) hx hb d_8_13_75 hl (k := 1) rfl (by decide) (by decide) rfl (fun ls hl => ?_)
                refine lv_goto (tgt := 46) hx hb d_8_13_78 (by decide) ?_
                refine lv_iload_n hx hb d_8_13_46 rfl (lv_at hl 0 rfl) ?_
                refine lv_iconst (v := 3) hx hb d_8_13_47 (by decide) ?_
                refine lv_icmp_ge (tgt := 81) hx hb d_8_13_48 (by decide) (fun c148 => ?_) (fun c148 => absurd (by decide) c148)
                refine lv_iload_n hx hb d_8_13_81 rfl (lv_at hl 1 rfl) ?_
                exact q_reti C0 V (Or.inl ⟨(((cf9 + 1) + 1) + 1), y20, y141, f18, f19, (q_Ile (x := 1) (y := (((cf9.toInt + 1) + 1) + 1)) (by decide) (q_addI (x := ((cf9.toInt + 1) + 1)) (y := 1) (q_addI (x := (cf9.toInt + 1)) (y := 1) (q_addI (x := cf9.toInt) (y := 1) rfl (by decide) (by have t1 : 1 ≤ cf9.toInt := q_leI e11; have t2 : cf9.toInt ≤ 62 := q_leI e12; omega) (by have t1 : 1 ≤ cf9.toInt := q_leI e11; have t2 : cf9.toInt ≤ 62 := q_leI e12; omega)) (by decide) (by have t1 : 1 ≤ cf9.toInt := q_leI e11; have t2 : cf9.toInt ≤ 62 := q_leI e12; omega) (by have t1 : 1 ≤ cf9.toInt := q_leI e11; have t2 : cf9.toInt ≤ 62 := q_leI e12; omega)) (by decide) (by have t1 : 1 ≤ cf9.toInt := q_leI e11; have t2 : cf9.toInt ≤ 62 := q_leI e12; omega) (by have t1 : 1 ≤ cf9.toInt := q_leI e11; have t2 : cf9.toInt ≤ 62 := q_leI e12; omega)) (by have t1 : 1 ≤ cf9.toInt := q_leI e11; have t2 : cf9.toInt ≤ 62 := q_leI e12; omega)), (q_Ile (x := (((cf9.toInt + 1) + 1) + 1)) (y := 70) (q_addI (x := ((cf9.toInt + 1) + 1)) (y := 1) (q_addI (x := (cf9.toInt + 1)) (y := 1) (q_addI (x := cf9.toInt) (y := 1) rfl (by decide) (by have t1 : 1 ≤ cf9.toInt := q_leI e11; have t2 : cf9.toInt ≤ 62 := q_leI e12; omega) (by have t1 : 1 ≤ cf9.toInt := q_leI e11; have t2 : cf9.toInt ≤ 62 := q_leI e12; omega)) (by decide) (by have t1 : 1 ≤ cf9.toInt := q_leI e11; have t2 : cf9.toInt ≤ 62 := q_leI e12; omega) (by have t1 : 1 ≤ cf9.toInt := q_leI e11; have t2 : cf9.toInt ≤ 62 := q_leI e12; omega)) (by decide) (by have t1 : 1 ≤ cf9.toInt := q_leI e11; have t2 : cf9.toInt ≤ 62 := q_leI e12; omega) (by have t1 : 1 ≤ cf9.toInt := q_leI e11; have t2 : cf9.toInt ≤ 62 := q_leI e12; omega)) (by decide) (by have t1 : 1 ≤ cf9.toInt := q_leI e11; have t2 : cf9.toInt ≤ 62 := q_leI e12; omega)), rfl, hF, hO6, hA16⟩) d_8_13_82
              ·
                replace hF := q_uc hF hg147 (q_sc (.head _) (q_sc (.tail _ (.head _)) (fun _ h => absurd h List.not_mem_nil)))
                refine lv_iinc (v := ((cf9 + 1) + 1) + 1) (lv' := [(2, .int (((cf9 + 1) + 1) + 1)), (3, .int 2), (0, .ref qO0), (1, .ref qO1)]) hx hb d_8_13_72 hl (k := 1) rfl (rfl) (by decide) rfl (fun ls hl => ?_)
                refine lv_iinc (v := 3) (lv' := [(3, .int 3), (2, .int (((cf9 + 1) + 1) + 1)), (0, .ref qO0), (1, .ref qO1)]) hx hb d_8_13_75 hl (k := 1) rfl (by decide) (by decide) rfl (fun ls hl => ?_)
                refine lv_goto (tgt := 46) hx hb d_8_13_78 (by decide) ?_
                refine lv_iload_n hx hb d_8_13_46 rfl (lv_at hl 0 rfl) ?_
                refine lv_iconst (v := 3) hx hb d_8_13_47 (by decide) ?_
                refine lv_icmp_ge (tgt := 81) hx hb d_8_13_48 (by decide) (fun c149 => ?_) (fun c149 => absurd (by decide) c149)
                refine lv_iload_n hx hb d_8_13_81 rfl (lv_at hl 1 rfl) ?_
                exact q_reti C0 V (Or.inl ⟨(((cf9 + 1) + 1) + 1), y145, y146, f143, f144, (q_Ile (x := 1) (y := (((cf9.toInt + 1) + 1) + 1)) (by decide) (q_addI (x := ((cf9.toInt + 1) + 1)) (y := 1) (q_addI (x := (cf9.toInt + 1)) (y := 1) (q_addI (x := cf9.toInt) (y := 1) rfl (by decide) (by have t1 : 1 ≤ cf9.toInt := q_leI e11; have t2 : cf9.toInt ≤ 62 := q_leI e12; omega) (by have t1 : 1 ≤ cf9.toInt := q_leI e11; have t2 : cf9.toInt ≤ 62 := q_leI e12; omega)) (by decide) (by have t1 : 1 ≤ cf9.toInt := q_leI e11; have t2 : cf9.toInt ≤ 62 := q_leI e12; omega) (by have t1 : 1 ≤ cf9.toInt := q_leI e11; have t2 : cf9.toInt ≤ 62 := q_leI e12; omega)) (by decide) (by have t1 : 1 ≤ cf9.toInt := q_leI e11; have t2 : cf9.toInt ≤ 62 := q_leI e12; omega) (by have t1 : 1 ≤ cf9.toInt := q_leI e11; have t2 : cf9.toInt ≤ 62 := q_leI e12; omega)) (by have t1 : 1 ≤ cf9.toInt := q_leI e11; have t2 : cf9.toInt ≤ 62 := q_leI e12; omega)), (q_Ile (x := (((cf9.toInt + 1) + 1) + 1)) (y := 70) (q_addI (x := ((cf9.toInt + 1) + 1)) (y := 1) (q_addI (x := (cf9.toInt + 1)) (y := 1) (q_addI (x := cf9.toInt) (y := 1) rfl (by decide) (by have t1 : 1 ≤ cf9.toInt := q_leI e11; have t2 : cf9.toInt ≤ 62 := q_leI e12; omega) (by have t1 : 1 ≤ cf9.toInt := q_leI e11; have t2 : cf9.toInt ≤ 62 := q_leI e12; omega)) (by decide) (by have t1 : 1 ≤ cf9.toInt := q_leI e11; have t2 : cf9.toInt ≤ 62 := q_leI e12; omega) (by have t1 : 1 ≤ cf9.toInt := q_leI e11; have t2 : cf9.toInt ≤ 62 := q_leI e12; omega)) (by decide) (by have t1 : 1 ≤ cf9.toInt := q_leI e11; have t2 : cf9.toInt ≤ 62 := q_leI e12; omega) (by have t1 : 1 ≤ cf9.toInt := q_leI e11; have t2 : cf9.toInt ≤ 62 := q_leI e12; omega)) (by decide) (by have t1 : 1 ≤ cf9.toInt := q_leI e11; have t2 : cf9.toInt ≤ 62 := q_leI e12; omega)), rfl, hF, hO6, hA16⟩) d_8_13_82
            ·
              refine lv_if_lt (tgt := 81) hx hb d_8_13_59 (by decide) (fun c150 => absurd c150 (by decide)) (fun c150 => ?_)
              refine lv_aload_n hx hb d_8_13_62 rfl (lv_at hl 2 rfl) ?_
              refine q_get (ci := 4) (j := 5) (v := .ref qO6) C0 V i_Mil rfl rfl hO0 (by decide) w_124 rfl d_8_13_63 ?_
              refine lv_bipush (v := 10) hx hb d_8_13_66 (by decide) ?_
              refine lv_iconst (v := 0) hx hb d_8_13_68 (by decide) ?_
              refine q_gov V (q_runV (As := [.int 10, .int 0]) (rest := []) (d := 1) (mc := 0) (ms := 0) (ci := 2) C0 V rfl LV_Mil_102 (c_Big_multiplySmall_4 l D g u123 kO6 kA16 qO6 qA16 y20 y124 hO6 hA16 f18 f19 _) rfl rfl hO6 rfl hl.1 rfl (Nat.le_of_ble_eq_true rfl) ⟨by decide, by decide⟩ ⟨Nat.le_of_ble_eq_true rfl, Nat.le_of_ble_eq_true rfl⟩ d_8_13_69) (fun u152 H locs hp151 V => ?_)
              rcases hp151 with ⟨y153, hg154, hO6, hA16⟩ | ⟨y157, y158, f155, f156, hg159, hO6, hA16⟩
              ·
                replace hF := q_uc hF hg154 (q_sc (.head _) (q_sc (.tail _ (.head _)) (fun _ h => absurd h List.not_mem_nil)))
                refine lv_iinc (v := ((cf9 + 1) + 1) + 1) (lv' := [(2, .int (((cf9 + 1) + 1) + 1)), (3, .int 2), (0, .ref qO0), (1, .ref qO1)]) hx hb d_8_13_72 hl (k := 1) rfl (rfl) (by decide) rfl (fun ls hl => ?_)
                refine lv_iinc (v := 3) (lv' := [(3, .int 3), (2, .int (((cf9 + 1) + 1) + 1)), (0, .ref qO0), (1, .ref qO1)]) hx hb d_8_13_75 hl (k := 1) rfl (by decide) (by decide) rfl (fun ls hl => ?_)
                refine lv_goto (tgt := 46) hx hb d_8_13_78 (by decide) ?_
                refine lv_iload_n hx hb d_8_13_46 rfl (lv_at hl 0 rfl) ?_
                refine lv_iconst (v := 3) hx hb d_8_13_47 (by decide) ?_
                refine lv_icmp_ge (tgt := 81) hx hb d_8_13_48 (by decide) (fun c160 => ?_) (fun c160 => absurd (by decide) c160)
                refine lv_iload_n hx hb d_8_13_81 rfl (lv_at hl 1 rfl) ?_
                exact q_reti C0 V (Or.inl ⟨(((cf9 + 1) + 1) + 1), y20, y153, f18, f19, (q_Ile (x := 1) (y := (((cf9.toInt + 1) + 1) + 1)) (by decide) (q_addI (x := ((cf9.toInt + 1) + 1)) (y := 1) (q_addI (x := (cf9.toInt + 1)) (y := 1) (q_addI (x := cf9.toInt) (y := 1) rfl (by decide) (by have t1 : 1 ≤ cf9.toInt := q_leI e11; have t2 : cf9.toInt ≤ 62 := q_leI e12; omega) (by have t1 : 1 ≤ cf9.toInt := q_leI e11; have t2 : cf9.toInt ≤ 62 := q_leI e12; omega)) (by decide) (by have t1 : 1 ≤ cf9.toInt := q_leI e11; have t2 : cf9.toInt ≤ 62 := q_leI e12; omega) (by have t1 : 1 ≤ cf9.toInt := q_leI e11; have t2 : cf9.toInt ≤ 62 := q_leI e12; omega)) (by decide) (by have t1 : 1 ≤ cf9.toInt := q_leI e11; have t2 : cf9.toInt ≤ 62 := q_leI e12; omega) (by have t1 : 1 ≤ cf9.toInt := q_leI e11; have t2 : cf9.toInt ≤ 62 := q_leI e12; omega)) (by have t1 : 1 ≤ cf9.toInt := q_leI e11; have t2 : cf9.toInt ≤ 62 := q_leI e12; omega)), (q_Ile (x := (((cf9.toInt + 1) + 1) + 1)) (y := 70) (q_addI (x := ((cf9.toInt + 1) + 1)) (y := 1) (q_addI (x := (cf9.toInt + 1)) (y := 1) (q_addI (x := cf9.toInt) (y := 1) rfl (by decide) (by have t1 : 1 ≤ cf9.toInt := q_leI e11; have t2 : cf9.toInt ≤ 62 := q_leI e12; omega) (by have t1 : 1 ≤ cf9.toInt := q_leI e11; have t2 : cf9.toInt ≤ 62 := q_leI e12; omega)) (by decide) (by have t1 : 1 ≤ cf9.toInt := q_leI e11; have t2 : cf9.toInt ≤ 62 := q_leI e12; omega) (by have t1 : 1 ≤ cf9.toInt := q_leI e11; have t2 : cf9.toInt ≤ 62 := q_leI e12; omega)) (by decide) (by have t1 : 1 ≤ cf9.toInt := q_leI e11; have t2 : cf9.toInt ≤ 62 := q_leI e12; omega) (by have t1 : 1 ≤ cf9.toInt := q_leI e11; have t2 : cf9.toInt ≤ 62 := q_leI e12; omega)) (by decide) (by have t1 : 1 ≤ cf9.toInt := q_leI e11; have t2 : cf9.toInt ≤ 62 := q_leI e12; omega)), rfl, hF, hO6, hA16⟩) d_8_13_82
              ·
                replace hF := q_uc hF hg159 (q_sc (.head _) (q_sc (.tail _ (.head _)) (fun _ h => absurd h List.not_mem_nil)))
                refine lv_iinc (v := ((cf9 + 1) + 1) + 1) (lv' := [(2, .int (((cf9 + 1) + 1) + 1)), (3, .int 2), (0, .ref qO0), (1, .ref qO1)]) hx hb d_8_13_72 hl (k := 1) rfl (rfl) (by decide) rfl (fun ls hl => ?_)
                refine lv_iinc (v := 3) (lv' := [(3, .int 3), (2, .int (((cf9 + 1) + 1) + 1)), (0, .ref qO0), (1, .ref qO1)]) hx hb d_8_13_75 hl (k := 1) rfl (by decide) (by decide) rfl (fun ls hl => ?_)
                refine lv_goto (tgt := 46) hx hb d_8_13_78 (by decide) ?_
                refine lv_iload_n hx hb d_8_13_46 rfl (lv_at hl 0 rfl) ?_
                refine lv_iconst (v := 3) hx hb d_8_13_47 (by decide) ?_
                refine lv_icmp_ge (tgt := 81) hx hb d_8_13_48 (by decide) (fun c161 => ?_) (fun c161 => absurd (by decide) c161)
                refine lv_iload_n hx hb d_8_13_81 rfl (lv_at hl 1 rfl) ?_
                exact q_reti C0 V (Or.inl ⟨(((cf9 + 1) + 1) + 1), y157, y158, f155, f156, (q_Ile (x := 1) (y := (((cf9.toInt + 1) + 1) + 1)) (by decide) (q_addI (x := ((cf9.toInt + 1) + 1)) (y := 1) (q_addI (x := (cf9.toInt + 1)) (y := 1) (q_addI (x := cf9.toInt) (y := 1) rfl (by decide) (by have t1 : 1 ≤ cf9.toInt := q_leI e11; have t2 : cf9.toInt ≤ 62 := q_leI e12; omega) (by have t1 : 1 ≤ cf9.toInt := q_leI e11; have t2 : cf9.toInt ≤ 62 := q_leI e12; omega)) (by decide) (by have t1 : 1 ≤ cf9.toInt := q_leI e11; have t2 : cf9.toInt ≤ 62 := q_leI e12; omega) (by have t1 : 1 ≤ cf9.toInt := q_leI e11; have t2 : cf9.toInt ≤ 62 := q_leI e12; omega)) (by decide) (by have t1 : 1 ≤ cf9.toInt := q_leI e11; have t2 : cf9.toInt ≤ 62 := q_leI e12; omega) (by have t1 : 1 ≤ cf9.toInt := q_leI e11; have t2 : cf9.toInt ≤ 62 := q_leI e12; omega)) (by have t1 : 1 ≤ cf9.toInt := q_leI e11; have t2 : cf9.toInt ≤ 62 := q_leI e12; omega)), (q_Ile (x := (((cf9.toInt + 1) + 1) + 1)) (y := 70) (q_addI (x := ((cf9.toInt + 1) + 1)) (y := 1) (q_addI (x := (cf9.toInt + 1)) (y := 1) (q_addI (x := cf9.toInt) (y := 1) rfl (by decide) (by have t1 : 1 ≤ cf9.toInt := q_leI e11; have t2 : cf9.toInt ≤ 62 := q_leI e12; omega) (by have t1 : 1 ≤ cf9.toInt := q_leI e11; have t2 : cf9.toInt ≤ 62 := q_leI e12; omega)) (by decide) (by have t1 : 1 ≤ cf9.toInt := q_leI e11; have t2 : cf9.toInt ≤ 62 := q_leI e12; omega) (by have t1 : 1 ≤ cf9.toInt := q_leI e11; have t2 : cf9.toInt ≤ 62 := q_leI e12; omega)) (by decide) (by have t1 : 1 ≤ cf9.toInt := q_leI e11; have t2 : cf9.toInt ≤ 62 := q_leI e12; omega) (by have t1 : 1 ≤ cf9.toInt := q_leI e11; have t2 : cf9.toInt ≤ 62 := q_leI e12; omega)) (by decide) (by have t1 : 1 ≤ cf9.toInt := q_leI e11; have t2 : cf9.toInt ≤ 62 := q_leI e12; omega)), rfl, hF, hO6, hA16⟩) d_8_13_82
            ·
              refine lv_if_lt (tgt := 81) hx hb d_8_13_59 (by decide) (fun c162 => ?_) (fun c162 => absurd (by decide) c162)
              refine lv_iload_n hx hb d_8_13_81 rfl (lv_at hl 1 rfl) ?_
              exact q_reti C0 V (Or.inl ⟨((cf9 + 1) + 1), y20, y124, f18, f19, (q_Ile (x := 1) (y := ((cf9.toInt + 1) + 1)) (by decide) (q_addI (x := (cf9.toInt + 1)) (y := 1) (q_addI (x := cf9.toInt) (y := 1) rfl (by decide) (by have t1 : 1 ≤ cf9.toInt := q_leI e11; have t2 : cf9.toInt ≤ 62 := q_leI e12; omega) (by have t1 : 1 ≤ cf9.toInt := q_leI e11; have t2 : cf9.toInt ≤ 62 := q_leI e12; omega)) (by decide) (by have t1 : 1 ≤ cf9.toInt := q_leI e11; have t2 : cf9.toInt ≤ 62 := q_leI e12; omega) (by have t1 : 1 ≤ cf9.toInt := q_leI e11; have t2 : cf9.toInt ≤ 62 := q_leI e12; omega)) (by have t1 : 1 ≤ cf9.toInt := q_leI e11; have t2 : cf9.toInt ≤ 62 := q_leI e12; omega)), (q_Ile (x := ((cf9.toInt + 1) + 1)) (y := 70) (q_addI (x := (cf9.toInt + 1)) (y := 1) (q_addI (x := cf9.toInt) (y := 1) rfl (by decide) (by have t1 : 1 ≤ cf9.toInt := q_leI e11; have t2 : cf9.toInt ≤ 62 := q_leI e12; omega) (by have t1 : 1 ≤ cf9.toInt := q_leI e11; have t2 : cf9.toInt ≤ 62 := q_leI e12; omega)) (by decide) (by have t1 : 1 ≤ cf9.toInt := q_leI e11; have t2 : cf9.toInt ≤ 62 := q_leI e12; omega) (by have t1 : 1 ≤ cf9.toInt := q_leI e11; have t2 : cf9.toInt ≤ 62 := q_leI e12; omega)) (by decide) (by have t1 : 1 ≤ cf9.toInt := q_leI e11; have t2 : cf9.toInt ≤ 62 := q_leI e12; omega)), rfl, hF, hO6, hA16⟩) d_8_13_82
          ·
            replace hF := q_uc hF hg130 (q_sc (.head _) (q_sc (.tail _ (.head _)) (fun _ h => absurd h List.not_mem_nil)))
            refine lv_iinc (v := (cf9 + 1) + 1) (lv' := [(2, .int ((cf9 + 1) + 1)), (3, .int 1), (0, .ref qO0), (1, .ref qO1)]) hx hb d_8_13_72 hl (k := 1) rfl (rfl) (by decide) rfl (fun ls hl => ?_)
            refine lv_iinc (v := 2) (lv' := [(3, .int 2), (2, .int ((cf9 + 1) + 1)), (0, .ref qO0), (1, .ref qO1)]) hx hb d_8_13_75 hl (k := 1) rfl (by decide) (by decide) rfl (fun ls hl => ?_)
            refine lv_goto (tgt := 46) hx hb d_8_13_78 (by decide) ?_
            refine lv_iload_n hx hb d_8_13_46 rfl (lv_at hl 0 rfl) ?_
            refine lv_iconst (v := 3) hx hb d_8_13_47 (by decide) ?_
            refine lv_icmp_ge (tgt := 81) hx hb d_8_13_48 (by decide) (fun c163 => absurd c163 (by decide)) (fun c163 => ?_)
            refine lv_aload_n hx hb d_8_13_51 rfl (lv_at hl 3 rfl) ?_
            refine lv_aload_n hx hb d_8_13_52 rfl (lv_at hl 2 rfl) ?_
            replace hO0 := (hg130 _ (q_nc n_O0_O6 (q_nc n_O0_A16 List.not_mem_nil))).trans (hO0)
            refine q_get (ci := 4) (j := 5) (v := .ref qO6) C0 V i_Mil rfl rfl hO0 (by decide) w_124 rfl d_8_13_53 ?_
            replace hO1 := (hg130 _ (q_nc n_O1_O6 (q_nc n_O1_A16 List.not_mem_nil))).trans (hO1)
            replace hA11 := (hg130 _ (q_nc n_A11_O6 (q_nc n_A11_A16 List.not_mem_nil))).trans (hA11)
            refine q_goi V (q_runV (As := [.ref qO6]) (rest := []) (d := 2) (mc := 0) (ms := 0) (ci := 2) C0 V rfl LV_Mil_112 (c_Big_compareSize_3 l D g u123 kO1 kO6 kA11 kA16 qO1 qO6 qA11 qA16 y1 y2 y128 f3 y129 hO1 hO6 hA11 hA16 (q_Ile (x := 1) (y := y1.toInt) (by decide) rfl (by have t1 : 0 ≤ y1.toInt := q_leI y1lo; have t2 : y1.toInt ≤ 3 := q_leI y1hi; have t3 : y1.toInt ≠ 0 := q_neI c1; omega)) y1hi y2lo y2hi f126 f127 _) rfl rfl hO1 rfl hl.1 rfl (Nat.le_of_ble_eq_true rfl) ⟨by decide, by decide⟩ ⟨Nat.le_of_ble_eq_true rfl, Nat.le_of_ble_eq_true rfl⟩ d_8_13_56) (fun v166 u165 H locs hp164 V => ?_)
            rcases hp164 with ⟨rfl, rfl⟩ | ⟨rfl, rfl⟩ | ⟨rfl, rfl⟩
            ·
              refine lv_if_lt (tgt := 81) hx hb d_8_13_59 (by decide) (fun c170 => absurd c170 (by decide)) (fun c170 => ?_)
              refine lv_aload_n hx hb d_8_13_62 rfl (lv_at hl 2 rfl) ?_
              refine q_get (ci := 4) (j := 5) (v := .ref qO6) C0 V i_Mil rfl rfl hO0 (by decide) w_124 rfl d_8_13_63 ?_
              refine lv_bipush (v := 10) hx hb d_8_13_66 (by decide) ?_
              refine lv_iconst (v := 0) hx hb d_8_13_68 (by decide) ?_
              refine q_gov V (q_runV (As := [.int 10, .int 0]) (rest := []) (d := 1) (mc := 0) (ms := 0) (ci := 2) C0 V rfl LV_Mil_102 (c_Big_multiplySmall_4 l D g u123 kO6 kA16 qO6 qA16 y128 y129 hO6 hA16 f126 f127 _) rfl rfl hO6 rfl hl.1 rfl (Nat.le_of_ble_eq_true rfl) ⟨by decide, by decide⟩ ⟨Nat.le_of_ble_eq_true rfl, Nat.le_of_ble_eq_true rfl⟩ d_8_13_69) (fun u172 H locs hp171 V => ?_)
              rcases hp171 with ⟨y173, hg174, hO6, hA16⟩ | ⟨y177, y178, f175, f176, hg179, hO6, hA16⟩
              ·
                replace hF := q_uc hF hg174 (q_sc (.head _) (q_sc (.tail _ (.head _)) (fun _ h => absurd h List.not_mem_nil)))
                refine lv_iinc (v := ((cf9 + 1) + 1) + 1) (lv' := [(2, .int (((cf9 + 1) + 1) + 1)), (3, .int 2), (0, .ref qO0), (1, .ref qO1)]) hx hb d_8_13_72 hl (k := 1) rfl (rfl) (by decide) rfl (fun ls hl => ?_)
                refine lv_iinc (v := 3) (lv' := [(3, .int 3), (2, .int (((cf9 + 1) + 1) + 1)), (0, .ref qO0), (1, .ref qO1)]) hx hb d_8_13_75 hl (k := 1) rfl (by decide) (by decide) rfl (fun ls hl => ?_)
                refine lv_goto (tgt := 46) hx hb d_8_13_78 (by decide) ?_
                refine lv_iload_n hx hb d_8_13_46 rfl (lv_at hl 0 rfl) ?_
                refine lv_iconst (v := 3) hx hb d_8_13_47 (by decide) ?_
                refine lv_icmp_ge (tgt := 81) hx hb d_8_13_48 (by decide) (fun c180 => ?_) (fun c180 => absurd (by decide) c180)
                refine lv_iload_n hx hb d_8_13_81 rfl (lv_at hl 1 rfl) ?_
                exact q_reti C0 V (Or.inl ⟨(((cf9 + 1) + 1) + 1), y128, y173, f126, f127, (q_Ile (x := 1) (y := (((cf9.toInt + 1) + 1) + 1)) (by decide) (q_addI (x := ((cf9.toInt + 1) + 1)) (y := 1) (q_addI (x := (cf9.toInt + 1)) (y := 1) (q_addI (x := cf9.toInt) (y := 1) rfl (by decide) (by have t1 : 1 ≤ cf9.toInt := q_leI e11; have t2 : cf9.toInt ≤ 62 := q_leI e12; omega) (by have t1 : 1 ≤ cf9.toInt := q_leI e11; have t2 : cf9.toInt ≤ 62 := q_leI e12; omega)) (by decide) (by have t1 : 1 ≤ cf9.toInt := q_leI e11; have t2 : cf9.toInt ≤ 62 := q_leI e12; omega) (by have t1 : 1 ≤ cf9.toInt := q_leI e11; have t2 : cf9.toInt ≤ 62 := q_leI e12; omega)) (by decide) (by have t1 : 1 ≤ cf9.toInt := q_leI e11; have t2 : cf9.toInt ≤ 62 := q_leI e12; omega) (by have t1 : 1 ≤ cf9.toInt := q_leI e11; have t2 : cf9.toInt ≤ 62 := q_leI e12; omega)) (by have t1 : 1 ≤ cf9.toInt := q_leI e11; have t2 : cf9.toInt ≤ 62 := q_leI e12; omega)), (q_Ile (x := (((cf9.toInt + 1) + 1) + 1)) (y := 70) (q_addI (x := ((cf9.toInt + 1) + 1)) (y := 1) (q_addI (x := (cf9.toInt + 1)) (y := 1) (q_addI (x := cf9.toInt) (y := 1) rfl (by decide) (by have t1 : 1 ≤ cf9.toInt := q_leI e11; have t2 : cf9.toInt ≤ 62 := q_leI e12; omega) (by have t1 : 1 ≤ cf9.toInt := q_leI e11; have t2 : cf9.toInt ≤ 62 := q_leI e12; omega)) (by decide) (by have t1 : 1 ≤ cf9.toInt := q_leI e11; have t2 : cf9.toInt ≤ 62 := q_leI e12; omega) (by have t1 : 1 ≤ cf9.toInt := q_leI e11; have t2 : cf9.toInt ≤ 62 := q_leI e12; omega)) (by decide) (by have t1 : 1 ≤ cf9.toInt := q_leI e11; have t2 : cf9.toInt ≤ 62 := q_leI e12; omega) (by have t1 : 1 ≤ cf9.toInt := q_leI e11; have t2 : cf9.toInt ≤ 62 := q_leI e12; omega)) (by decide) (by have t1 : 1 ≤ cf9.toInt := q_leI e11; have t2 : cf9.toInt ≤ 62 := q_leI e12; omega)), rfl, hF, hO6, hA16⟩) d_8_13_82
              ·
                replace hF := q_uc hF hg179 (q_sc (.head _) (q_sc (.tail _ (.head _)) (fun _ h => absurd h List.not_mem_nil)))
                refine lv_iinc (v := ((cf9 + 1) + 1) + 1) (lv' := [(2, .int (((cf9 + 1) + 1) + 1)), (3, .int 2), (0, .ref qO0), (1, .ref qO1)]) hx hb d_8_13_72 hl (k := 1) rfl (rfl) (by decide) rfl (fun ls hl => ?_)
                refine lv_iinc (v := 3) (lv' := [(3, .int 3), (2, .int (((cf9 + 1) + 1) + 1)), (0, .ref qO0), (1, .ref qO1)]) hx hb d_8_13_75 hl (k := 1) rfl (by decide) (by decide) rfl (fun ls hl => ?_)
                refine lv_goto (tgt := 46) hx hb d_8_13_78 (by decide) ?_
                refine lv_iload_n hx hb d_8_13_46 rfl (lv_at hl 0 rfl) ?_
                refine lv_iconst (v := 3) hx hb d_8_13_47 (by decide) ?_
                refine lv_icmp_ge (tgt := 81) hx hb d_8_13_48 (by decide) (fun c181 => ?_) (fun c181 => absurd (by decide) c181)
                refine lv_iload_n hx hb d_8_13_81 rfl (lv_at hl 1 rfl) ?_
                exact q_reti C0 V (Or.inl ⟨(((cf9 + 1) + 1) + 1), y177, y178, f175, f176, (q_Ile (x := 1) (y := (((cf9.toInt + 1) + 1) + 1)) (by decide) (q_addI (x := ((cf9.toInt + 1) + 1)) (y := 1) (q_addI (x := (cf9.toInt + 1)) (y := 1) (q_addI (x := cf9.toInt) (y := 1) rfl (by decide) (by have t1 : 1 ≤ cf9.toInt := q_leI e11; have t2 : cf9.toInt ≤ 62 := q_leI e12; omega) (by have t1 : 1 ≤ cf9.toInt := q_leI e11; have t2 : cf9.toInt ≤ 62 := q_leI e12; omega)) (by decide) (by have t1 : 1 ≤ cf9.toInt := q_leI e11; have t2 : cf9.toInt ≤ 62 := q_leI e12; omega) (by have t1 : 1 ≤ cf9.toInt := q_leI e11; have t2 : cf9.toInt ≤ 62 := q_leI e12; omega)) (by decide) (by have t1 : 1 ≤ cf9.toInt := q_leI e11; have t2 : cf9.toInt ≤ 62 := q_leI e12; omega) (by have t1 : 1 ≤ cf9.toInt := q_leI e11; have t2 : cf9.toInt ≤ 62 := q_leI e12; omega)) (by have t1 : 1 ≤ cf9.toInt := q_leI e11; have t2 : cf9.toInt ≤ 62 := q_leI e12; omega)), (q_Ile (x := (((cf9.toInt + 1) + 1) + 1)) (y := 70) (q_addI (x := ((cf9.toInt + 1) + 1)) (y := 1) (q_addI (x := (cf9.toInt + 1)) (y := 1) (q_addI (x := cf9.toInt) (y := 1) rfl (by decide) (by have t1 : 1 ≤ cf9.toInt := q_leI e11; have t2 : cf9.toInt ≤ 62 := q_leI e12; omega) (by have t1 : 1 ≤ cf9.toInt := q_leI e11; have t2 : cf9.toInt ≤ 62 := q_leI e12; omega)) (by decide) (by have t1 : 1 ≤ cf9.toInt := q_leI e11; have t2 : cf9.toInt ≤ 62 := q_leI e12; omega) (by have t1 : 1 ≤ cf9.toInt := q_leI e11; have t2 : cf9.toInt ≤ 62 := q_leI e12; omega)) (by decide) (by have t1 : 1 ≤ cf9.toInt := q_leI e11; have t2 : cf9.toInt ≤ 62 := q_leI e12; omega) (by have t1 : 1 ≤ cf9.toInt := q_leI e11; have t2 : cf9.toInt ≤ 62 := q_leI e12; omega)) (by decide) (by have t1 : 1 ≤ cf9.toInt := q_leI e11; have t2 : cf9.toInt ≤ 62 := q_leI e12; omega)), rfl, hF, hO6, hA16⟩) d_8_13_82
            ·
              refine lv_if_lt (tgt := 81) hx hb d_8_13_59 (by decide) (fun c182 => absurd c182 (by decide)) (fun c182 => ?_)
              refine lv_aload_n hx hb d_8_13_62 rfl (lv_at hl 2 rfl) ?_
              refine q_get (ci := 4) (j := 5) (v := .ref qO6) C0 V i_Mil rfl rfl hO0 (by decide) w_124 rfl d_8_13_63 ?_
              refine lv_bipush (v := 10) hx hb d_8_13_66 (by decide) ?_
              refine lv_iconst (v := 0) hx hb d_8_13_68 (by decide) ?_
              refine q_gov V (q_runV (As := [.int 10, .int 0]) (rest := []) (d := 1) (mc := 0) (ms := 0) (ci := 2) C0 V rfl LV_Mil_102 (c_Big_multiplySmall_4 l D g u123 kO6 kA16 qO6 qA16 y128 y129 hO6 hA16 f126 f127 _) rfl rfl hO6 rfl hl.1 rfl (Nat.le_of_ble_eq_true rfl) ⟨by decide, by decide⟩ ⟨Nat.le_of_ble_eq_true rfl, Nat.le_of_ble_eq_true rfl⟩ d_8_13_69) (fun u184 H locs hp183 V => ?_)
              rcases hp183 with ⟨y185, hg186, hO6, hA16⟩ | ⟨y189, y190, f187, f188, hg191, hO6, hA16⟩
              ·
                replace hF := q_uc hF hg186 (q_sc (.head _) (q_sc (.tail _ (.head _)) (fun _ h => absurd h List.not_mem_nil)))
                refine lv_iinc (v := ((cf9 + 1) + 1) + 1) (lv' := [(2, .int (((cf9 + 1) + 1) + 1)), (3, .int 2), (0, .ref qO0), (1, .ref qO1)]) hx hb d_8_13_72 hl (k := 1) rfl (rfl) (by decide) rfl (fun ls hl => ?_)
                refine lv_iinc (v := 3) (lv' := [(3, .int 3), (2, .int (((cf9 + 1) + 1) + 1)), (0, .ref qO0), (1, .ref qO1)]) hx hb d_8_13_75 hl (k := 1) rfl (by decide) (by decide) rfl (fun ls hl => ?_)
                refine lv_goto (tgt := 46) hx hb d_8_13_78 (by decide) ?_
                refine lv_iload_n hx hb d_8_13_46 rfl (lv_at hl 0 rfl) ?_
                refine lv_iconst (v := 3) hx hb d_8_13_47 (by decide) ?_
                refine lv_icmp_ge (tgt := 81) hx hb d_8_13_48 (by decide) (fun c192 => ?_) (fun c192 => absurd (by decide) c192)
                refine lv_iload_n hx hb d_8_13_81 rfl (lv_at hl 1 rfl) ?_
                exact q_reti C0 V (Or.inl ⟨(((cf9 + 1) + 1) + 1), y128, y185, f126, f127, (q_Ile (x := 1) (y := (((cf9.toInt + 1) + 1) + 1)) (by decide) (q_addI (x := ((cf9.toInt + 1) + 1)) (y := 1) (q_addI (x := (cf9.toInt + 1)) (y := 1) (q_addI (x := cf9.toInt) (y := 1) rfl (by decide) (by have t1 : 1 ≤ cf9.toInt := q_leI e11; have t2 : cf9.toInt ≤ 62 := q_leI e12; omega) (by have t1 : 1 ≤ cf9.toInt := q_leI e11; have t2 : cf9.toInt ≤ 62 := q_leI e12; omega)) (by decide) (by have t1 : 1 ≤ cf9.toInt := q_leI e11; have t2 : cf9.toInt ≤ 62 := q_leI e12; omega) (by have t1 : 1 ≤ cf9.toInt := q_leI e11; have t2 : cf9.toInt ≤ 62 := q_leI e12; omega)) (by decide) (by have t1 : 1 ≤ cf9.toInt := q_leI e11; have t2 : cf9.toInt ≤ 62 := q_leI e12; omega) (by have t1 : 1 ≤ cf9.toInt := q_leI e11; have t2 : cf9.toInt ≤ 62 := q_leI e12; omega)) (by have t1 : 1 ≤ cf9.toInt := q_leI e11; have t2 : cf9.toInt ≤ 62 := q_leI e12; omega)), (q_Ile (x := (((cf9.toInt + 1) + 1) + 1)) (y := 70) (q_addI (x := ((cf9.toInt + 1) + 1)) (y := 1) (q_addI (x := (cf9.toInt + 1)) (y := 1) (q_addI (x := cf9.toInt) (y := 1) rfl (by decide) (by have t1 : 1 ≤ cf9.toInt := q_leI e11; have t2 : cf9.toInt ≤ 62 := q_leI e12; omega) (by have t1 : 1 ≤ cf9.toInt := q_leI e11; have t2 : cf9.toInt ≤ 62 := q_leI e12; omega)) (by decide) (by have t1 : 1 ≤ cf9.toInt := q_leI e11; have t2 : cf9.toInt ≤ 62 := q_leI e12; omega) (by have t1 : 1 ≤ cf9.toInt := q_leI e11; have t2 : cf9.toInt ≤ 62 := q_leI e12; omega)) (by decide) (by have t1 : 1 ≤ cf9.toInt := q_leI e11; have t2 : cf9.toInt ≤ 62 := q_leI e12; omega) (by have t1 : 1 ≤ cf9.toInt := q_leI e11; have t2 : cf9.toInt ≤ 62 := q_leI e12; omega)) (by decide) (by have t1 : 1 ≤ cf9.toInt := q_leI e11; have t2 : cf9.toInt ≤ 62 := q_leI e12; omega)), rfl, hF, hO6, hA16⟩) d_8_13_82
              ·
                replace hF := q_uc hF hg191 (q_sc (.head _) (q_sc (.tail _ (.head _)) (fun _ h => absurd h List.not_mem_nil)))
                refine lv_iinc (v := ((cf9 + 1) + 1) + 1) (lv' := [(2, .int (((cf9 + 1) + 1) + 1)), (3, .int 2), (0, .ref qO0), (1, .ref qO1)]) hx hb d_8_13_72 hl (k := 1) rfl (rfl) (by decide) rfl (fun ls hl => ?_)
                refine lv_iinc (v := 3) (lv' := [(3, .int 3), (2, .int (((cf9 + 1) + 1) + 1)), (0, .ref qO0), (1, .ref qO1)]) hx hb d_8_13_75 hl (k := 1) rfl (by decide) (by decide) rfl (fun ls hl => ?_)
                refine lv_goto (tgt := 46) hx hb d_8_13_78 (by decide) ?_
                refine lv_iload_n hx hb d_8_13_46 rfl (lv_at hl 0 rfl) ?_
                refine lv_iconst (v := 3) hx hb d_8_13_47 (by decide) ?_
                refine lv_icmp_ge (tgt := 81) hx hb d_8_13_48 (by decide) (fun c193 => ?_) (fun c193 => absurd (by decide) c193)
                refine lv_iload_n hx hb d_8_13_81 rfl (lv_at hl 1 rfl) ?_
                exact q_reti C0 V (Or.inl ⟨(((cf9 + 1) + 1) + 1), y189, y190, f187, f188, (q_Ile (x := 1) (y := (((cf9.toInt + 1) + 1) + 1)) (by decide) (q_addI (x := ((cf9.toInt + 1) + 1)) (y := 1) (q_addI (x := (cf9.toInt + 1)) (y := 1) (q_addI (x := cf9.toInt) (y := 1) rfl (by decide) (by have t1 : 1 ≤ cf9.toInt := q_leI e11; have t2 : cf9.toInt ≤ 62 := q_leI e12; omega) (by have t1 : 1 ≤ cf9.toInt := q_leI e11; have t2 : cf9.toInt ≤ 62 := q_leI e12; omega)) (by decide) (by have t1 : 1 ≤ cf9.toInt := q_leI e11; have t2 : cf9.toInt ≤ 62 := q_leI e12; omega) (by have t1 : 1 ≤ cf9.toInt := q_leI e11; have t2 : cf9.toInt ≤ 62 := q_leI e12; omega)) (by decide) (by have t1 : 1 ≤ cf9.toInt := q_leI e11; have t2 : cf9.toInt ≤ 62 := q_leI e12; omega) (by have t1 : 1 ≤ cf9.toInt := q_leI e11; have t2 : cf9.toInt ≤ 62 := q_leI e12; omega)) (by have t1 : 1 ≤ cf9.toInt := q_leI e11; have t2 : cf9.toInt ≤ 62 := q_leI e12; omega)), (q_Ile (x := (((cf9.toInt + 1) + 1) + 1)) (y := 70) (q_addI (x := ((cf9.toInt + 1) + 1)) (y := 1) (q_addI (x := (cf9.toInt + 1)) (y := 1) (q_addI (x := cf9.toInt) (y := 1) rfl (by decide) (by have t1 : 1 ≤ cf9.toInt := q_leI e11; have t2 : cf9.toInt ≤ 62 := q_leI e12; omega) (by have t1 : 1 ≤ cf9.toInt := q_leI e11; have t2 : cf9.toInt ≤ 62 := q_leI e12; omega)) (by decide) (by have t1 : 1 ≤ cf9.toInt := q_leI e11; have t2 : cf9.toInt ≤ 62 := q_leI e12; omega) (by have t1 : 1 ≤ cf9.toInt := q_leI e11; have t2 : cf9.toInt ≤ 62 := q_leI e12; omega)) (by decide) (by have t1 : 1 ≤ cf9.toInt := q_leI e11; have t2 : cf9.toInt ≤ 62 := q_leI e12; omega) (by have t1 : 1 ≤ cf9.toInt := q_leI e11; have t2 : cf9.toInt ≤ 62 := q_leI e12; omega)) (by decide) (by have t1 : 1 ≤ cf9.toInt := q_leI e11; have t2 : cf9.toInt ≤ 62 := q_leI e12; omega)), rfl, hF, hO6, hA16⟩) d_8_13_82
            ·
              refine lv_if_lt (tgt := 81) hx hb d_8_13_59 (by decide) (fun c194 => ?_) (fun c194 => absurd (by decide) c194)
              refine lv_iload_n hx hb d_8_13_81 rfl (lv_at hl 1 rfl) ?_
              exact q_reti C0 V (Or.inl ⟨((cf9 + 1) + 1), y128, y129, f126, f127, (q_Ile (x := 1) (y := ((cf9.toInt + 1) + 1)) (by decide) (q_addI (x := (cf9.toInt + 1)) (y := 1) (q_addI (x := cf9.toInt) (y := 1) rfl (by decide) (by have t1 : 1 ≤ cf9.toInt := q_leI e11; have t2 : cf9.toInt ≤ 62 := q_leI e12; omega) (by have t1 : 1 ≤ cf9.toInt := q_leI e11; have t2 : cf9.toInt ≤ 62 := q_leI e12; omega)) (by decide) (by have t1 : 1 ≤ cf9.toInt := q_leI e11; have t2 : cf9.toInt ≤ 62 := q_leI e12; omega) (by have t1 : 1 ≤ cf9.toInt := q_leI e11; have t2 : cf9.toInt ≤ 62 := q_leI e12; omega)) (by have t1 : 1 ≤ cf9.toInt := q_leI e11; have t2 : cf9.toInt ≤ 62 := q_leI e12; omega)), (q_Ile (x := ((cf9.toInt + 1) + 1)) (y := 70) (q_addI (x := (cf9.toInt + 1)) (y := 1) (q_addI (x := cf9.toInt) (y := 1) rfl (by decide) (by have t1 : 1 ≤ cf9.toInt := q_leI e11; have t2 : cf9.toInt ≤ 62 := q_leI e12; omega) (by have t1 : 1 ≤ cf9.toInt := q_leI e11; have t2 : cf9.toInt ≤ 62 := q_leI e12; omega)) (by decide) (by have t1 : 1 ≤ cf9.toInt := q_leI e11; have t2 : cf9.toInt ≤ 62 := q_leI e12; omega) (by have t1 : 1 ≤ cf9.toInt := q_leI e11; have t2 : cf9.toInt ≤ 62 := q_leI e12; omega)) (by decide) (by have t1 : 1 ≤ cf9.toInt := q_leI e11; have t2 : cf9.toInt ≤ 62 := q_leI e12; omega)), rfl, hF, hO6, hA16⟩) d_8_13_82
        ·
          refine lv_if_lt (tgt := 81) hx hb d_8_13_59 (by decide) (fun c195 => ?_) (fun c195 => absurd (by decide) c195)
          refine lv_iload_n hx hb d_8_13_81 rfl (lv_at hl 1 rfl) ?_
          exact q_reti C0 V (Or.inl ⟨(cf9 + 1), y20, y33, f18, f19, (q_Ile (x := 1) (y := (cf9.toInt + 1)) (by decide) (q_addI (x := cf9.toInt) (y := 1) rfl (by decide) (by have t1 : 1 ≤ cf9.toInt := q_leI e11; have t2 : cf9.toInt ≤ 62 := q_leI e12; omega) (by have t1 : 1 ≤ cf9.toInt := q_leI e11; have t2 : cf9.toInt ≤ 62 := q_leI e12; omega)) (by have t1 : 1 ≤ cf9.toInt := q_leI e11; have t2 : cf9.toInt ≤ 62 := q_leI e12; omega)), (q_Ile (x := (cf9.toInt + 1)) (y := 70) (q_addI (x := cf9.toInt) (y := 1) rfl (by decide) (by have t1 : 1 ≤ cf9.toInt := q_leI e11; have t2 : cf9.toInt ≤ 62 := q_leI e12; omega) (by have t1 : 1 ≤ cf9.toInt := q_leI e11; have t2 : cf9.toInt ≤ 62 := q_leI e12; omega)) (by decide) (by have t1 : 1 ≤ cf9.toInt := q_leI e11; have t2 : cf9.toInt ≤ 62 := q_leI e12; omega)), rfl, hF, hO6, hA16⟩) d_8_13_82
      ·
        replace hF := q_uc hF hg39 (q_sc (.head _) (q_sc (.tail _ (.head _)) (fun _ h => absurd h List.not_mem_nil)))
        refine lv_iinc (v := cf9 + 1) (lv' := [(2, .int (cf9 + 1)), (3, .int 0), (0, .ref qO0), (1, .ref qO1)]) hx hb d_8_13_72 hl (k := 1) rfl (rfl) (by decide) rfl (fun ls hl => ?_)
        refine lv_iinc (v := 1) (lv' := [(3, .int 1), (2, .int (cf9 + 1)), (0, .ref qO0), (1, .ref qO1)]) hx hb d_8_13_75 hl (k := 1) rfl (by decide) (by decide) rfl (fun ls hl => ?_)
        refine lv_goto (tgt := 46) hx hb d_8_13_78 (by decide) ?_
        refine lv_iload_n hx hb d_8_13_46 rfl (lv_at hl 0 rfl) ?_
        refine lv_iconst (v := 3) hx hb d_8_13_47 (by decide) ?_
        refine lv_icmp_ge (tgt := 81) hx hb d_8_13_48 (by decide) (fun c196 => absurd c196 (by decide)) (fun c196 => ?_)
        refine lv_aload_n hx hb d_8_13_51 rfl (lv_at hl 3 rfl) ?_
        refine lv_aload_n hx hb d_8_13_52 rfl (lv_at hl 2 rfl) ?_
        replace hO0 := (hg39 _ (q_nc n_O0_O6 (q_nc n_O0_A16 List.not_mem_nil))).trans (hO0)
        refine q_get (ci := 4) (j := 5) (v := .ref qO6) C0 V i_Mil rfl rfl hO0 (by decide) w_124 rfl d_8_13_53 ?_
        replace hO1 := (hg39 _ (q_nc n_O1_O6 (q_nc n_O1_A16 List.not_mem_nil))).trans (hO1)
        replace hA11 := (hg39 _ (q_nc n_A11_O6 (q_nc n_A11_A16 List.not_mem_nil))).trans (hA11)
        refine q_goi V (q_runV (As := [.ref qO6]) (rest := []) (d := 2) (mc := 0) (ms := 0) (ci := 2) C0 V rfl LV_Mil_112 (c_Big_compareSize_3 l D g u32 kO1 kO6 kA11 kA16 qO1 qO6 qA11 qA16 y1 y2 y37 f3 y38 hO1 hO6 hA11 hA16 (q_Ile (x := 1) (y := y1.toInt) (by decide) rfl (by have t1 : 0 ≤ y1.toInt := q_leI y1lo; have t2 : y1.toInt ≤ 3 := q_leI y1hi; have t3 : y1.toInt ≠ 0 := q_neI c1; omega)) y1hi y2lo y2hi f35 f36 _) rfl rfl hO1 rfl hl.1 rfl (Nat.le_of_ble_eq_true rfl) ⟨by decide, by decide⟩ ⟨Nat.le_of_ble_eq_true rfl, Nat.le_of_ble_eq_true rfl⟩ d_8_13_56) (fun v199 u198 H locs hp197 V => ?_)
        rcases hp197 with ⟨rfl, rfl⟩ | ⟨rfl, rfl⟩ | ⟨rfl, rfl⟩
        ·
          refine lv_if_lt (tgt := 81) hx hb d_8_13_59 (by decide) (fun c203 => absurd c203 (by decide)) (fun c203 => ?_)
          refine lv_aload_n hx hb d_8_13_62 rfl (lv_at hl 2 rfl) ?_
          refine q_get (ci := 4) (j := 5) (v := .ref qO6) C0 V i_Mil rfl rfl hO0 (by decide) w_124 rfl d_8_13_63 ?_
          refine lv_bipush (v := 10) hx hb d_8_13_66 (by decide) ?_
          refine lv_iconst (v := 0) hx hb d_8_13_68 (by decide) ?_
          refine q_gov V (q_runV (As := [.int 10, .int 0]) (rest := []) (d := 1) (mc := 0) (ms := 0) (ci := 2) C0 V rfl LV_Mil_102 (c_Big_multiplySmall_4 l D g u32 kO6 kA16 qO6 qA16 y37 y38 hO6 hA16 f35 f36 _) rfl rfl hO6 rfl hl.1 rfl (Nat.le_of_ble_eq_true rfl) ⟨by decide, by decide⟩ ⟨Nat.le_of_ble_eq_true rfl, Nat.le_of_ble_eq_true rfl⟩ d_8_13_69) (fun u205 H locs hp204 V => ?_)
          rcases hp204 with ⟨y206, hg207, hO6, hA16⟩ | ⟨y210, y211, f208, f209, hg212, hO6, hA16⟩
          ·
            replace hF := q_uc hF hg207 (q_sc (.head _) (q_sc (.tail _ (.head _)) (fun _ h => absurd h List.not_mem_nil)))
            refine lv_iinc (v := (cf9 + 1) + 1) (lv' := [(2, .int ((cf9 + 1) + 1)), (3, .int 1), (0, .ref qO0), (1, .ref qO1)]) hx hb d_8_13_72 hl (k := 1) rfl (rfl) (by decide) rfl (fun ls hl => ?_)
            refine lv_iinc (v := 2) (lv' := [(3, .int 2), (2, .int ((cf9 + 1) + 1)), (0, .ref qO0), (1, .ref qO1)]) hx hb d_8_13_75 hl (k := 1) rfl (by decide) (by decide) rfl (fun ls hl => ?_)
            refine lv_goto (tgt := 46) hx hb d_8_13_78 (by decide) ?_
            refine lv_iload_n hx hb d_8_13_46 rfl (lv_at hl 0 rfl) ?_
            refine lv_iconst (v := 3) hx hb d_8_13_47 (by decide) ?_
            refine lv_icmp_ge (tgt := 81) hx hb d_8_13_48 (by decide) (fun c213 => absurd c213 (by decide)) (fun c213 => ?_)
            refine lv_aload_n hx hb d_8_13_51 rfl (lv_at hl 3 rfl) ?_
            refine lv_aload_n hx hb d_8_13_52 rfl (lv_at hl 2 rfl) ?_
            replace hO0 := (hg207 _ (q_nc n_O0_O6 (q_nc n_O0_A16 List.not_mem_nil))).trans (hO0)
            refine q_get (ci := 4) (j := 5) (v := .ref qO6) C0 V i_Mil rfl rfl hO0 (by decide) w_124 rfl d_8_13_53 ?_
            replace hO1 := (hg207 _ (q_nc n_O1_O6 (q_nc n_O1_A16 List.not_mem_nil))).trans (hO1)
            replace hA11 := (hg207 _ (q_nc n_A11_O6 (q_nc n_A11_A16 List.not_mem_nil))).trans (hA11)
            refine q_goi V (q_runV (As := [.ref qO6]) (rest := []) (d := 2) (mc := 0) (ms := 0) (ci := 2) C0 V rfl LV_Mil_112 (c_Big_compareSize_3 l D g u205 kO1 kO6 kA11 kA16 qO1 qO6 qA11 qA16 y1 y2 y37 f3 y206 hO1 hO6 hA11 hA16 (q_Ile (x := 1) (y := y1.toInt) (by decide) rfl (by have t1 : 0 ≤ y1.toInt := q_leI y1lo; have t2 : y1.toInt ≤ 3 := q_leI y1hi; have t3 : y1.toInt ≠ 0 := q_neI c1; omega)) y1hi y2lo y2hi f35 f36 _) rfl rfl hO1 rfl hl.1 rfl (Nat.le_of_ble_eq_true rfl) ⟨by decide, by decide⟩ ⟨Nat.le_of_ble_eq_true rfl, Nat.le_of_ble_eq_true rfl⟩ d_8_13_56) (fun v216 u215 H locs hp214 V => ?_)
            rcases hp214 with ⟨rfl, rfl⟩ | ⟨rfl, rfl⟩ | ⟨rfl, rfl⟩
            ·
              refine lv_if_lt (tgt := 81) hx hb d_8_13_59 (by decide) (fun c220 => absurd c220 (by decide)) (fun c220 => ?_)
              refine lv_aload_n hx hb d_8_13_62 rfl (lv_at hl 2 rfl) ?_
              refine q_get (ci := 4) (j := 5) (v := .ref qO6) C0 V i_Mil rfl rfl hO0 (by decide) w_124 rfl d_8_13_63 ?_
              refine lv_bipush (v := 10) hx hb d_8_13_66 (by decide) ?_
              refine lv_iconst (v := 0) hx hb d_8_13_68 (by decide) ?_
              refine q_gov V (q_runV (As := [.int 10, .int 0]) (rest := []) (d := 1) (mc := 0) (ms := 0) (ci := 2) C0 V rfl LV_Mil_102 (c_Big_multiplySmall_4 l D g u205 kO6 kA16 qO6 qA16 y37 y206 hO6 hA16 f35 f36 _) rfl rfl hO6 rfl hl.1 rfl (Nat.le_of_ble_eq_true rfl) ⟨by decide, by decide⟩ ⟨Nat.le_of_ble_eq_true rfl, Nat.le_of_ble_eq_true rfl⟩ d_8_13_69) (fun u222 H locs hp221 V => ?_)
              rcases hp221 with ⟨y223, hg224, hO6, hA16⟩ | ⟨y227, y228, f225, f226, hg229, hO6, hA16⟩
              ·
                replace hF := q_uc hF hg224 (q_sc (.head _) (q_sc (.tail _ (.head _)) (fun _ h => absurd h List.not_mem_nil)))
                refine lv_iinc (v := ((cf9 + 1) + 1) + 1) (lv' := [(2, .int (((cf9 + 1) + 1) + 1)), (3, .int 2), (0, .ref qO0), (1, .ref qO1)]) hx hb d_8_13_72 hl (k := 1) rfl (rfl) (by decide) rfl (fun ls hl => ?_)
                refine lv_iinc (v := 3) (lv' := [(3, .int 3), (2, .int (((cf9 + 1) + 1) + 1)), (0, .ref qO0), (1, .ref qO1)]) hx hb d_8_13_75 hl (k := 1) rfl (by decide) (by decide) rfl (fun ls hl => ?_)
                refine lv_goto (tgt := 46) hx hb d_8_13_78 (by decide) ?_
                refine lv_iload_n hx hb d_8_13_46 rfl (lv_at hl 0 rfl) ?_
                refine lv_iconst (v := 3) hx hb d_8_13_47 (by decide) ?_
                refine lv_icmp_ge (tgt := 81) hx hb d_8_13_48 (by decide) (fun c230 => ?_) (fun c230 => absurd (by decide) c230)
                refine lv_iload_n hx hb d_8_13_81 rfl (lv_at hl 1 rfl) ?_
                exact q_reti C0 V (Or.inl ⟨(((cf9 + 1) + 1) + 1), y37, y223, f35, f36, (q_Ile (x := 1) (y := (((cf9.toInt + 1) + 1) + 1)) (by decide) (q_addI (x := ((cf9.toInt + 1) + 1)) (y := 1) (q_addI (x := (cf9.toInt + 1)) (y := 1) (q_addI (x := cf9.toInt) (y := 1) rfl (by decide) (by have t1 : 1 ≤ cf9.toInt := q_leI e11; have t2 : cf9.toInt ≤ 62 := q_leI e12; omega) (by have t1 : 1 ≤ cf9.toInt := q_leI e11; have t2 : cf9.toInt ≤ 62 := q_leI e12; omega)) (by decide) (by have t1 : 1 ≤ cf9.toInt := q_leI e11; have t2 : cf9.toInt ≤ 62 := q_leI e12; omega) (by have t1 : 1 ≤ cf9.toInt := q_leI e11; have t2 : cf9.toInt ≤ 62 := q_leI e12; omega)) (by decide) (by have t1 : 1 ≤ cf9.toInt := q_leI e11; have t2 : cf9.toInt ≤ 62 := q_leI e12; omega) (by have t1 : 1 ≤ cf9.toInt := q_leI e11; have t2 : cf9.toInt ≤ 62 := q_leI e12; omega)) (by have t1 : 1 ≤ cf9.toInt := q_leI e11; have t2 : cf9.toInt ≤ 62 := q_leI e12; omega)), (q_Ile (x := (((cf9.toInt + 1) + 1) + 1)) (y := 70) (q_addI (x := ((cf9.toInt + 1) + 1)) (y := 1) (q_addI (x := (cf9.toInt + 1)) (y := 1) (q_addI (x := cf9.toInt) (y := 1) rfl (by decide) (by have t1 : 1 ≤ cf9.toInt := q_leI e11; have t2 : cf9.toInt ≤ 62 := q_leI e12; omega) (by have t1 : 1 ≤ cf9.toInt := q_leI e11; have t2 : cf9.toInt ≤ 62 := q_leI e12; omega)) (by decide) (by have t1 : 1 ≤ cf9.toInt := q_leI e11; have t2 : cf9.toInt ≤ 62 := q_leI e12; omega) (by have t1 : 1 ≤ cf9.toInt := q_leI e11; have t2 : cf9.toInt ≤ 62 := q_leI e12; omega)) (by decide) (by have t1 : 1 ≤ cf9.toInt := q_leI e11; have t2 : cf9.toInt ≤ 62 := q_leI e12; omega) (by have t1 : 1 ≤ cf9.toInt := q_leI e11; have t2 : cf9.toInt ≤ 62 := q_leI e12; omega)) (by decide) (by have t1 : 1 ≤ cf9.toInt := q_leI e11; have t2 : cf9.toInt ≤ 62 := q_leI e12; omega)), rfl, hF, hO6, hA16⟩) d_8_13_82
              ·
                replace hF := q_uc hF hg229 (q_sc (.head _) (q_sc (.tail _ (.head _)) (fun _ h => absurd h List.not_mem_nil)))
                refine lv_iinc (v := ((cf9 + 1) + 1) + 1) (lv' := [(2, .int (((cf9 + 1) + 1) + 1)), (3, .int 2), (0, .ref qO0), (1, .ref qO1)]) hx hb d_8_13_72 hl (k := 1) rfl (rfl) (by decide) rfl (fun ls hl => ?_)
                refine lv_iinc (v := 3) (lv' := [(3, .int 3), (2, .int (((cf9 + 1) + 1) + 1)), (0, .ref qO0), (1, .ref qO1)]) hx hb d_8_13_75 hl (k := 1) rfl (by decide) (by decide) rfl (fun ls hl => ?_)
                refine lv_goto (tgt := 46) hx hb d_8_13_78 (by decide) ?_
                refine lv_iload_n hx hb d_8_13_46 rfl (lv_at hl 0 rfl) ?_
                refine lv_iconst (v := 3) hx hb d_8_13_47 (by decide) ?_
                refine lv_icmp_ge (tgt := 81) hx hb d_8_13_48 (by decide) (fun c231 => ?_) (fun c231 => absurd (by decide) c231)
                refine lv_iload_n hx hb d_8_13_81 rfl (lv_at hl 1 rfl) ?_
                exact q_reti C0 V (Or.inl ⟨(((cf9 + 1) + 1) + 1), y227, y228, f225, f226, (q_Ile (x := 1) (y := (((cf9.toInt + 1) + 1) + 1)) (by decide) (q_addI (x := ((cf9.toInt + 1) + 1)) (y := 1) (q_addI (x := (cf9.toInt + 1)) (y := 1) (q_addI (x := cf9.toInt) (y := 1) rfl (by decide) (by have t1 : 1 ≤ cf9.toInt := q_leI e11; have t2 : cf9.toInt ≤ 62 := q_leI e12; omega) (by have t1 : 1 ≤ cf9.toInt := q_leI e11; have t2 : cf9.toInt ≤ 62 := q_leI e12; omega)) (by decide) (by have t1 : 1 ≤ cf9.toInt := q_leI e11; have t2 : cf9.toInt ≤ 62 := q_leI e12; omega) (by have t1 : 1 ≤ cf9.toInt := q_leI e11; have t2 : cf9.toInt ≤ 62 := q_leI e12; omega)) (by decide) (by have t1 : 1 ≤ cf9.toInt := q_leI e11; have t2 : cf9.toInt ≤ 62 := q_leI e12; omega) (by have t1 : 1 ≤ cf9.toInt := q_leI e11; have t2 : cf9.toInt ≤ 62 := q_leI e12; omega)) (by have t1 : 1 ≤ cf9.toInt := q_leI e11; have t2 : cf9.toInt ≤ 62 := q_leI e12; omega)), (q_Ile (x := (((cf9.toInt + 1) + 1) + 1)) (y := 70) (q_addI (x := ((cf9.toInt + 1) + 1)) (y := 1) (q_addI (x := (cf9.toInt + 1)) (y := 1) (q_addI (x := cf9.toInt) (y := 1) rfl (by decide) (by have t1 : 1 ≤ cf9.toInt := q_leI e11; have t2 : cf9.toInt ≤ 62 := q_leI e12; omega) (by have t1 : 1 ≤ cf9.toInt := q_leI e11; have t2 : cf9.toInt ≤ 62 := q_leI e12; omega)) (by decide) (by have t1 : 1 ≤ cf9.toInt := q_leI e11; have t2 : cf9.toInt ≤ 62 := q_leI e12; omega) (by have t1 : 1 ≤ cf9.toInt := q_leI e11; have t2 : cf9.toInt ≤ 62 := q_leI e12; omega)) (by decide) (by have t1 : 1 ≤ cf9.toInt := q_leI e11; have t2 : cf9.toInt ≤ 62 := q_leI e12; omega) (by have t1 : 1 ≤ cf9.toInt := q_leI e11; have t2 : cf9.toInt ≤ 62 := q_leI e12; omega)) (by decide) (by have t1 : 1 ≤ cf9.toInt := q_leI e11; have t2 : cf9.toInt ≤ 62 := q_leI e12; omega)), rfl, hF, hO6, hA16⟩) d_8_13_82
            ·
              refine lv_if_lt (tgt := 81) hx hb d_8_13_59 (by decide) (fun c232 => absurd c232 (by decide)) (fun c232 => ?_)
              refine lv_aload_n hx hb d_8_13_62 rfl (lv_at hl 2 rfl) ?_
              refine q_get (ci := 4) (j := 5) (v := .ref qO6) C0 V i_Mil rfl rfl hO0 (by decide) w_124 rfl d_8_13_63 ?_
              refine lv_bipush (v := 10) hx hb d_8_13_66 (by decide) ?_
              refine lv_iconst (v := 0) hx hb d_8_13_68 (by decide) ?_
              refine q_gov V (q_runV (As := [.int 10, .int 0]) (rest := []) (d := 1) (mc := 0) (ms := 0) (ci := 2) C0 V rfl LV_Mil_102 (c_Big_multiplySmall_4 l D g u205 kO6 kA16 qO6 qA16 y37 y206 hO6 hA16 f35 f36 _) rfl rfl hO6 rfl hl.1 rfl (Nat.le_of_ble_eq_true rfl) ⟨by decide, by decide⟩ ⟨Nat.le_of_ble_eq_true rfl, Nat.le_of_ble_eq_true rfl⟩ d_8_13_69) (fun u234 H locs hp233 V => ?_)
              rcases hp233 with ⟨y235, hg236, hO6, hA16⟩ | ⟨y239, y240, f237, f238, hg241, hO6, hA16⟩
              ·
                replace hF := q_uc hF hg236 (q_sc (.head _) (q_sc (.tail _ (.head _)) (fun _ h => absurd h List.not_mem_nil)))
                refine lv_iinc (v := ((cf9 + 1) + 1) + 1) (lv' := [(2, .int (((cf9 + 1) + 1) + 1)), (3, .int 2), (0, .ref qO0), (1, .ref qO1)]) hx hb d_8_13_72 hl (k := 1) rfl (rfl) (by decide) rfl (fun ls hl => ?_)
                refine lv_iinc (v := 3) (lv' := [(3, .int 3), (2, .int (((cf9 + 1) + 1) + 1)), (0, .ref qO0), (1, .ref qO1)]) hx hb d_8_13_75 hl (k := 1) rfl (by decide) (by decide) rfl (fun ls hl => ?_)
                refine lv_goto (tgt := 46) hx hb d_8_13_78 (by decide) ?_
                refine lv_iload_n hx hb d_8_13_46 rfl (lv_at hl 0 rfl) ?_
                refine lv_iconst (v := 3) hx hb d_8_13_47 (by decide) ?_
                refine lv_icmp_ge (tgt := 81) hx hb d_8_13_48 (by decide) (fun c242 => ?_) (fun c242 => absurd (by decide) c242)
                refine lv_iload_n hx hb d_8_13_81 rfl (lv_at hl 1 rfl) ?_
                exact q_reti C0 V (Or.inl ⟨(((cf9 + 1) + 1) + 1), y37, y235, f35, f36, (q_Ile (x := 1) (y := (((cf9.toInt + 1) + 1) + 1)) (by decide) (q_addI (x := ((cf9.toInt + 1) + 1)) (y := 1) (q_addI (x := (cf9.toInt + 1)) (y := 1) (q_addI (x := cf9.toInt) (y := 1) rfl (by decide) (by have t1 : 1 ≤ cf9.toInt := q_leI e11; have t2 : cf9.toInt ≤ 62 := q_leI e12; omega) (by have t1 : 1 ≤ cf9.toInt := q_leI e11; have t2 : cf9.toInt ≤ 62 := q_leI e12; omega)) (by decide) (by have t1 : 1 ≤ cf9.toInt := q_leI e11; have t2 : cf9.toInt ≤ 62 := q_leI e12; omega) (by have t1 : 1 ≤ cf9.toInt := q_leI e11; have t2 : cf9.toInt ≤ 62 := q_leI e12; omega)) (by decide) (by have t1 : 1 ≤ cf9.toInt := q_leI e11; have t2 : cf9.toInt ≤ 62 := q_leI e12; omega) (by have t1 : 1 ≤ cf9.toInt := q_leI e11; have t2 : cf9.toInt ≤ 62 := q_leI e12; omega)) (by have t1 : 1 ≤ cf9.toInt := q_leI e11; have t2 : cf9.toInt ≤ 62 := q_leI e12; omega)), (q_Ile (x := (((cf9.toInt + 1) + 1) + 1)) (y := 70) (q_addI (x := ((cf9.toInt + 1) + 1)) (y := 1) (q_addI (x := (cf9.toInt + 1)) (y := 1) (q_addI (x := cf9.toInt) (y := 1) rfl (by decide) (by have t1 : 1 ≤ cf9.toInt := q_leI e11; have t2 : cf9.toInt ≤ 62 := q_leI e12; omega) (by have t1 : 1 ≤ cf9.toInt := q_leI e11; have t2 : cf9.toInt ≤ 62 := q_leI e12; omega)) (by decide) (by have t1 : 1 ≤ cf9.toInt := q_leI e11; have t2 : cf9.toInt ≤ 62 := q_leI e12; omega) (by have t1 : 1 ≤ cf9.toInt := q_leI e11; have t2 : cf9.toInt ≤ 62 := q_leI e12; omega)) (by decide) (by have t1 : 1 ≤ cf9.toInt := q_leI e11; have t2 : cf9.toInt ≤ 62 := q_leI e12; omega) (by have t1 : 1 ≤ cf9.toInt := q_leI e11; have t2 : cf9.toInt ≤ 62 := q_leI e12; omega)) (by decide) (by have t1 : 1 ≤ cf9.toInt := q_leI e11; have t2 : cf9.toInt ≤ 62 := q_leI e12; omega)), rfl, hF, hO6, hA16⟩) d_8_13_82
              ·
                replace hF := q_uc hF hg241 (q_sc (.head _) (q_sc (.tail _ (.head _)) (fun _ h => absurd h List.not_mem_nil)))
                refine lv_iinc (v := ((cf9 + 1) + 1) + 1) (lv' := [(2, .int (((cf9 + 1) + 1) + 1)), (3, .int 2), (0, .ref qO0), (1, .ref qO1)]) hx hb d_8_13_72 hl (k := 1) rfl (rfl) (by decide) rfl (fun ls hl => ?_)
                refine lv_iinc (v := 3) (lv' := [(3, .int 3), (2, .int (((cf9 + 1) + 1) + 1)), (0, .ref qO0), (1, .ref qO1)]) hx hb d_8_13_75 hl (k := 1) rfl (by decide) (by decide) rfl (fun ls hl => ?_)
                refine lv_goto (tgt := 46) hx hb d_8_13_78 (by decide) ?_
                refine lv_iload_n hx hb d_8_13_46 rfl (lv_at hl 0 rfl) ?_
                refine lv_iconst (v := 3) hx hb d_8_13_47 (by decide) ?_
                refine lv_icmp_ge (tgt := 81) hx hb d_8_13_48 (by decide) (fun c243 => ?_) (fun c243 => absurd (by decide) c243)
                refine lv_iload_n hx hb d_8_13_81 rfl (lv_at hl 1 rfl) ?_
                exact q_reti C0 V (Or.inl ⟨(((cf9 + 1) + 1) + 1), y239, y240, f237, f238, (q_Ile (x := 1) (y := (((cf9.toInt + 1) + 1) + 1)) (by decide) (q_addI (x := ((cf9.toInt + 1) + 1)) (y := 1) (q_addI (x := (cf9.toInt + 1)) (y := 1) (q_addI (x := cf9.toInt) (y := 1) rfl (by decide) (by have t1 : 1 ≤ cf9.toInt := q_leI e11; have t2 : cf9.toInt ≤ 62 := q_leI e12; omega) (by have t1 : 1 ≤ cf9.toInt := q_leI e11; have t2 : cf9.toInt ≤ 62 := q_leI e12; omega)) (by decide) (by have t1 : 1 ≤ cf9.toInt := q_leI e11; have t2 : cf9.toInt ≤ 62 := q_leI e12; omega) (by have t1 : 1 ≤ cf9.toInt := q_leI e11; have t2 : cf9.toInt ≤ 62 := q_leI e12; omega)) (by decide) (by have t1 : 1 ≤ cf9.toInt := q_leI e11; have t2 : cf9.toInt ≤ 62 := q_leI e12; omega) (by have t1 : 1 ≤ cf9.toInt := q_leI e11; have t2 : cf9.toInt ≤ 62 := q_leI e12; omega)) (by have t1 : 1 ≤ cf9.toInt := q_leI e11; have t2 : cf9.toInt ≤ 62 := q_leI e12; omega)), (q_Ile (x := (((cf9.toInt + 1) + 1) + 1)) (y := 70) (q_addI (x := ((cf9.toInt + 1) + 1)) (y := 1) (q_addI (x := (cf9.toInt + 1)) (y := 1) (q_addI (x := cf9.toInt) (y := 1) rfl (by decide) (by have t1 : 1 ≤ cf9.toInt := q_leI e11; have t2 : cf9.toInt ≤ 62 := q_leI e12; omega) (by have t1 : 1 ≤ cf9.toInt := q_leI e11; have t2 : cf9.toInt ≤ 62 := q_leI e12; omega)) (by decide) (by have t1 : 1 ≤ cf9.toInt := q_leI e11; have t2 : cf9.toInt ≤ 62 := q_leI e12; omega) (by have t1 : 1 ≤ cf9.toInt := q_leI e11; have t2 : cf9.toInt ≤ 62 := q_leI e12; omega)) (by decide) (by have t1 : 1 ≤ cf9.toInt := q_leI e11; have t2 : cf9.toInt ≤ 62 := q_leI e12; omega) (by have t1 : 1 ≤ cf9.toInt := q_leI e11; have t2 : cf9.toInt ≤ 62 := q_leI e12; omega)) (by decide) (by have t1 : 1 ≤ cf9.toInt := q_leI e11; have t2 : cf9.toInt ≤ 62 := q_leI e12; omega)), rfl, hF, hO6, hA16⟩) d_8_13_82
            ·
              refine lv_if_lt (tgt := 81) hx hb d_8_13_59 (by decide) (fun c244 => ?_) (fun c244 => absurd (by decide) c244)
              refine lv_iload_n hx hb d_8_13_81 rfl (lv_at hl 1 rfl) ?_
              exact q_reti C0 V (Or.inl ⟨((cf9 + 1) + 1), y37, y206, f35, f36, (q_Ile (x := 1) (y := ((cf9.toInt + 1) + 1)) (by decide) (q_addI (x := (cf9.toInt + 1)) (y := 1) (q_addI (x := cf9.toInt) (y := 1) rfl (by decide) (by have t1 : 1 ≤ cf9.toInt := q_leI e11; have t2 : cf9.toInt ≤ 62 := q_leI e12; omega) (by have t1 : 1 ≤ cf9.toInt := q_leI e11; have t2 : cf9.toInt ≤ 62 := q_leI e12; omega)) (by decide) (by have t1 : 1 ≤ cf9.toInt := q_leI e11; have t2 : cf9.toInt ≤ 62 := q_leI e12; omega) (by have t1 : 1 ≤ cf9.toInt := q_leI e11; have t2 : cf9.toInt ≤ 62 := q_leI e12; omega)) (by have t1 : 1 ≤ cf9.toInt := q_leI e11; have t2 : cf9.toInt ≤ 62 := q_leI e12; omega)), (q_Ile (x := ((cf9.toInt + 1) + 1)) (y := 70) (q_addI (x := (cf9.toInt + 1)) (y := 1) (q_addI (x := cf9.toInt) (y := 1) rfl (by decide) (by have t1 : 1 ≤ cf9.toInt := q_leI e11; have t2 : cf9.toInt ≤ 62 := q_leI e12; omega) (by have t1 : 1 ≤ cf9.toInt := q_leI e11; have t2 : cf9.toInt ≤ 62 := q_leI e12; omega)) (by decide) (by have t1 : 1 ≤ cf9.toInt := q_leI e11; have t2 : cf9.toInt ≤ 62 := q_leI e12; omega) (by have t1 : 1 ≤ cf9.toInt := q_leI e11; have t2 : cf9.toInt ≤ 62 := q_leI e12; omega)) (by decide) (by have t1 : 1 ≤ cf9.toInt := q_leI e11; have t2 : cf9.toInt ≤ 62 := q_leI e12; omega)), rfl, hF, hO6, hA16⟩) d_8_13_82
          ·
            replace hF := q_uc hF hg212 (q_sc (.head _) (q_sc (.tail _ (.head _)) (fun _ h => absurd h List.not_mem_nil)))
            refine lv_iinc (v := (cf9 + 1) + 1) (lv' := [(2, .int ((cf9 + 1) + 1)), (3, .int 1), (0, .ref qO0), (1, .ref qO1)]) hx hb d_8_13_72 hl (k := 1) rfl (rfl) (by decide) rfl (fun ls hl => ?_)
            refine lv_iinc (v := 2) (lv' := [(3, .int 2), (2, .int ((cf9 + 1) + 1)), (0, .ref qO0), (1, .ref qO1)]) hx hb d_8_13_75 hl (k := 1) rfl (by decide) (by decide) rfl (fun ls hl => ?_)
            refine lv_goto (tgt := 46) hx hb d_8_13_78 (by decide) ?_
            refine lv_iload_n hx hb d_8_13_46 rfl (lv_at hl 0 rfl) ?_
            refine lv_iconst (v := 3) hx hb d_8_13_47 (by decide) ?_
            refine lv_icmp_ge (tgt := 81) hx hb d_8_13_48 (by decide) (fun c245 => absurd c245 (by decide)) (fun c245 => ?_)
            refine lv_aload_n hx hb d_8_13_51 rfl (lv_at hl 3 rfl) ?_
            refine lv_aload_n hx hb d_8_13_52 rfl (lv_at hl 2 rfl) ?_
            replace hO0 := (hg212 _ (q_nc n_O0_O6 (q_nc n_O0_A16 List.not_mem_nil))).trans (hO0)
            refine q_get (ci := 4) (j := 5) (v := .ref qO6) C0 V i_Mil rfl rfl hO0 (by decide) w_124 rfl d_8_13_53 ?_
            replace hO1 := (hg212 _ (q_nc n_O1_O6 (q_nc n_O1_A16 List.not_mem_nil))).trans (hO1)
            replace hA11 := (hg212 _ (q_nc n_A11_O6 (q_nc n_A11_A16 List.not_mem_nil))).trans (hA11)
            refine q_goi V (q_runV (As := [.ref qO6]) (rest := []) (d := 2) (mc := 0) (ms := 0) (ci := 2) C0 V rfl LV_Mil_112 (c_Big_compareSize_3 l D g u205 kO1 kO6 kA11 kA16 qO1 qO6 qA11 qA16 y1 y2 y210 f3 y211 hO1 hO6 hA11 hA16 (q_Ile (x := 1) (y := y1.toInt) (by decide) rfl (by have t1 : 0 ≤ y1.toInt := q_leI y1lo; have t2 : y1.toInt ≤ 3 := q_leI y1hi; have t3 : y1.toInt ≠ 0 := q_neI c1; omega)) y1hi y2lo y2hi f208 f209 _) rfl rfl hO1 rfl hl.1 rfl (Nat.le_of_ble_eq_true rfl) ⟨by decide, by decide⟩ ⟨Nat.le_of_ble_eq_true rfl, Nat.le_of_ble_eq_true rfl⟩ d_8_13_56) (fun v248 u247 H locs hp246 V => ?_)
            rcases hp246 with ⟨rfl, rfl⟩ | ⟨rfl, rfl⟩ | ⟨rfl, rfl⟩
            ·
              refine lv_if_lt (tgt := 81) hx hb d_8_13_59 (by decide) (fun c252 => absurd c252 (by decide)) (fun c252 => ?_)
              refine lv_aload_n hx hb d_8_13_62 rfl (lv_at hl 2 rfl) ?_
              refine q_get (ci := 4) (j := 5) (v := .ref qO6) C0 V i_Mil rfl rfl hO0 (by decide) w_124 rfl d_8_13_63 ?_
              refine lv_bipush (v := 10) hx hb d_8_13_66 (by decide) ?_
              refine lv_iconst (v := 0) hx hb d_8_13_68 (by decide) ?_
              refine q_gov V (q_runV (As := [.int 10, .int 0]) (rest := []) (d := 1) (mc := 0) (ms := 0) (ci := 2) C0 V rfl LV_Mil_102 (c_Big_multiplySmall_4 l D g u205 kO6 kA16 qO6 qA16 y210 y211 hO6 hA16 f208 f209 _) rfl rfl hO6 rfl hl.1 rfl (Nat.le_of_ble_eq_true rfl) ⟨by decide, by decide⟩ ⟨Nat.le_of_ble_eq_true rfl, Nat.le_of_ble_eq_true rfl⟩ d_8_13_69) (fun u254 H locs hp253 V => ?_)
              rcases hp253 with ⟨y255, hg256, hO6, hA16⟩ | ⟨y259, y260, f257, f258, hg261, hO6, hA16⟩
              ·
                replace hF := q_uc hF hg256 (q_sc (.head _) (q_sc (.tail _ (.head _)) (fun _ h => absurd h List.not_mem_nil)))
                refine lv_iinc (v := ((cf9 + 1) + 1) + 1) (lv' := [(2, .int (((cf9 + 1) + 1) + 1)), (3, .int 2), (0, .ref qO0), (1, .ref qO1)]) hx hb d_8_13_72 hl (k := 1) rfl (rfl) (by decide) rfl (fun ls hl => ?_)
                refine lv_iinc (v := 3) (lv' := [(3, .int 3), (2, .int (((cf9 + 1) + 1) + 1)), (0, .ref qO0), (1, .ref qO1)]) hx hb d_8_13_75 hl (k := 1) rfl (by decide) (by decide) rfl (fun ls hl => ?_)
                refine lv_goto (tgt := 46) hx hb d_8_13_78 (by decide) ?_
                refine lv_iload_n hx hb d_8_13_46 rfl (lv_at hl 0 rfl) ?_
                refine lv_iconst (v := 3) hx hb d_8_13_47 (by decide) ?_
                refine lv_icmp_ge (tgt := 81) hx hb d_8_13_48 (by decide) (fun c262 => ?_) (fun c262 => absurd (by decide) c262)
                refine lv_iload_n hx hb d_8_13_81 rfl (lv_at hl 1 rfl) ?_
                exact q_reti C0 V (Or.inl ⟨(((cf9 + 1) + 1) + 1), y210, y255, f208, f209, (q_Ile (x := 1) (y := (((cf9.toInt + 1) + 1) + 1)) (by decide) (q_addI (x := ((cf9.toInt + 1) + 1)) (y := 1) (q_addI (x := (cf9.toInt + 1)) (y := 1) (q_addI (x := cf9.toInt) (y := 1) rfl (by decide) (by have t1 : 1 ≤ cf9.toInt := q_leI e11; have t2 : cf9.toInt ≤ 62 := q_leI e12; omega) (by have t1 : 1 ≤ cf9.toInt := q_leI e11; have t2 : cf9.toInt ≤ 62 := q_leI e12; omega)) (by decide) (by have t1 : 1 ≤ cf9.toInt := q_leI e11; have t2 : cf9.toInt ≤ 62 := q_leI e12; omega) (by have t1 : 1 ≤ cf9.toInt := q_leI e11; have t2 : cf9.toInt ≤ 62 := q_leI e12; omega)) (by decide) (by have t1 : 1 ≤ cf9.toInt := q_leI e11; have t2 : cf9.toInt ≤ 62 := q_leI e12; omega) (by have t1 : 1 ≤ cf9.toInt := q_leI e11; have t2 : cf9.toInt ≤ 62 := q_leI e12; omega)) (by have t1 : 1 ≤ cf9.toInt := q_leI e11; have t2 : cf9.toInt ≤ 62 := q_leI e12; omega)), (q_Ile (x := (((cf9.toInt + 1) + 1) + 1)) (y := 70) (q_addI (x := ((cf9.toInt + 1) + 1)) (y := 1) (q_addI (x := (cf9.toInt + 1)) (y := 1) (q_addI (x := cf9.toInt) (y := 1) rfl (by decide) (by have t1 : 1 ≤ cf9.toInt := q_leI e11; have t2 : cf9.toInt ≤ 62 := q_leI e12; omega) (by have t1 : 1 ≤ cf9.toInt := q_leI e11; have t2 : cf9.toInt ≤ 62 := q_leI e12; omega)) (by decide) (by have t1 : 1 ≤ cf9.toInt := q_leI e11; have t2 : cf9.toInt ≤ 62 := q_leI e12; omega) (by have t1 : 1 ≤ cf9.toInt := q_leI e11; have t2 : cf9.toInt ≤ 62 := q_leI e12; omega)) (by decide) (by have t1 : 1 ≤ cf9.toInt := q_leI e11; have t2 : cf9.toInt ≤ 62 := q_leI e12; omega) (by have t1 : 1 ≤ cf9.toInt := q_leI e11; have t2 : cf9.toInt ≤ 62 := q_leI e12; omega)) (by decide) (by have t1 : 1 ≤ cf9.toInt := q_leI e11; have t2 : cf9.toInt ≤ 62 := q_leI e12; omega)), rfl, hF, hO6, hA16⟩) d_8_13_82
              ·
                replace hF := q_uc hF hg261 (q_sc (.head _) (q_sc (.tail _ (.head _)) (fun _ h => absurd h List.not_mem_nil)))
                refine lv_iinc (v := ((cf9 + 1) + 1) + 1) (lv' := [(2, .int (((cf9 + 1) + 1) + 1)), (3, .int 2), (0, .ref qO0), (1, .ref qO1)]) hx hb d_8_13_72 hl (k := 1) rfl (rfl) (by decide) rfl (fun ls hl => ?_)
                refine lv_iinc (v := 3) (lv' := [(3, .int 3), (2, .int (((cf9 + 1) + 1) + 1)), (0, .ref qO0), (1, .ref qO1)]) hx hb d_8_13_75 hl (k := 1) rfl (by decide) (by decide) rfl (fun ls hl => ?_)
                refine lv_goto (tgt := 46) hx hb d_8_13_78 (by decide) ?_
                refine lv_iload_n hx hb d_8_13_46 rfl (lv_at hl 0 rfl) ?_
                refine lv_iconst (v := 3) hx hb d_8_13_47 (by decide) ?_
                refine lv_icmp_ge (tgt := 81) hx hb d_8_13_48 (by decide) (fun c263 => ?_) (fun c263 => absurd (by decide) c263)
                refine lv_iload_n hx hb d_8_13_81 rfl (lv_at hl 1 rfl) ?_
                exact q_reti C0 V (Or.inl ⟨(((cf9 + 1) + 1) + 1), y259, y260, f257, f258, (q_Ile (x := 1) (y := (((cf9.toInt + 1) + 1) + 1)) (by decide) (q_addI (x := ((cf9.toInt + 1) + 1)) (y := 1) (q_addI (x := (cf9.toInt + 1)) (y := 1) (q_addI (x := cf9.toInt) (y := 1) rfl (by decide) (by have t1 : 1 ≤ cf9.toInt := q_leI e11; have t2 : cf9.toInt ≤ 62 := q_leI e12; omega) (by have t1 : 1 ≤ cf9.toInt := q_leI e11; have t2 : cf9.toInt ≤ 62 := q_leI e12; omega)) (by decide) (by have t1 : 1 ≤ cf9.toInt := q_leI e11; have t2 : cf9.toInt ≤ 62 := q_leI e12; omega) (by have t1 : 1 ≤ cf9.toInt := q_leI e11; have t2 : cf9.toInt ≤ 62 := q_leI e12; omega)) (by decide) (by have t1 : 1 ≤ cf9.toInt := q_leI e11; have t2 : cf9.toInt ≤ 62 := q_leI e12; omega) (by have t1 : 1 ≤ cf9.toInt := q_leI e11; have t2 : cf9.toInt ≤ 62 := q_leI e12; omega)) (by have t1 : 1 ≤ cf9.toInt := q_leI e11; have t2 : cf9.toInt ≤ 62 := q_leI e12; omega)), (q_Ile (x := (((cf9.toInt + 1) + 1) + 1)) (y := 70) (q_addI (x := ((cf9.toInt + 1) + 1)) (y := 1) (q_addI (x := (cf9.toInt + 1)) (y := 1) (q_addI (x := cf9.toInt) (y := 1) rfl (by decide) (by have t1 : 1 ≤ cf9.toInt := q_leI e11; have t2 : cf9.toInt ≤ 62 := q_leI e12; omega) (by have t1 : 1 ≤ cf9.toInt := q_leI e11; have t2 : cf9.toInt ≤ 62 := q_leI e12; omega)) (by decide) (by have t1 : 1 ≤ cf9.toInt := q_leI e11; have t2 : cf9.toInt ≤ 62 := q_leI e12; omega) (by have t1 : 1 ≤ cf9.toInt := q_leI e11; have t2 : cf9.toInt ≤ 62 := q_leI e12; omega)) (by decide) (by have t1 : 1 ≤ cf9.toInt := q_leI e11; have t2 : cf9.toInt ≤ 62 := q_leI e12; omega) (by have t1 : 1 ≤ cf9.toInt := q_leI e11; have t2 : cf9.toInt ≤ 62 := q_leI e12; omega)) (by decide) (by have t1 : 1 ≤ cf9.toInt := q_leI e11; have t2 : cf9.toInt ≤ 62 := q_leI e12; omega)), rfl, hF, hO6, hA16⟩) d_8_13_82
            ·
              refine lv_if_lt (tgt := 81) hx hb d_8_13_59 (by decide) (fun c264 => absurd c264 (by decide)) (fun c264 => ?_)
              refine lv_aload_n hx hb d_8_13_62 rfl (lv_at hl 2 rfl) ?_
              refine q_get (ci := 4) (j := 5) (v := .ref qO6) C0 V i_Mil rfl rfl hO0 (by decide) w_124 rfl d_8_13_63 ?_
              refine lv_bipush (v := 10) hx hb d_8_13_66 (by decide) ?_
              refine lv_iconst (v := 0) hx hb d_8_13_68 (by decide) ?_
              refine q_gov V (q_runV (As := [.int 10, .int 0]) (rest := []) (d := 1) (mc := 0) (ms := 0) (ci := 2) C0 V rfl LV_Mil_102 (c_Big_multiplySmall_4 l D g u205 kO6 kA16 qO6 qA16 y210 y211 hO6 hA16 f208 f209 _) rfl rfl hO6 rfl hl.1 rfl (Nat.le_of_ble_eq_true rfl) ⟨by decide, by decide⟩ ⟨Nat.le_of_ble_eq_true rfl, Nat.le_of_ble_eq_true rfl⟩ d_8_13_69) (fun u266 H locs hp265 V => ?_)
              rcases hp265 with ⟨y267, hg268, hO6, hA16⟩ | ⟨y271, y272, f269, f270, hg273, hO6, hA16⟩
              ·
                replace hF := q_uc hF hg268 (q_sc (.head _) (q_sc (.tail _ (.head _)) (fun _ h => absurd h List.not_mem_nil)))
                refine lv_iinc (v := ((cf9 + 1) + 1) + 1) (lv' := [(2, .int (((cf9 + 1) + 1) + 1)), (3, .int 2), (0, .ref qO0), (1, .ref qO1)]) hx hb d_8_13_72 hl (k := 1) rfl (rfl) (by decide) rfl (fun ls hl => ?_)
                refine lv_iinc (v := 3) (lv' := [(3, .int 3), (2, .int (((cf9 + 1) + 1) + 1)), (0, .ref qO0), (1, .ref qO1)]) hx hb d_8_13_75 hl (k := 1) rfl (by decide) (by decide) rfl (fun ls hl => ?_)
                refine lv_goto (tgt := 46) hx hb d_8_13_78 (by decide) ?_
                refine lv_iload_n hx hb d_8_13_46 rfl (lv_at hl 0 rfl) ?_
                refine lv_iconst (v := 3) hx hb d_8_13_47 (by decide) ?_
                refine lv_icmp_ge (tgt := 81) hx hb d_8_13_48 (by decide) (fun c274 => ?_) (fun c274 => absurd (by decide) c274)
                refine lv_iload_n hx hb d_8_13_81 rfl (lv_at hl 1 rfl) ?_
                exact q_reti C0 V (Or.inl ⟨(((cf9 + 1) + 1) + 1), y210, y267, f208, f209, (q_Ile (x := 1) (y := (((cf9.toInt + 1) + 1) + 1)) (by decide) (q_addI (x := ((cf9.toInt + 1) + 1)) (y := 1) (q_addI (x := (cf9.toInt + 1)) (y := 1) (q_addI (x := cf9.toInt) (y := 1) rfl (by decide) (by have t1 : 1 ≤ cf9.toInt := q_leI e11; have t2 : cf9.toInt ≤ 62 := q_leI e12; omega) (by have t1 : 1 ≤ cf9.toInt := q_leI e11; have t2 : cf9.toInt ≤ 62 := q_leI e12; omega)) (by decide) (by have t1 : 1 ≤ cf9.toInt := q_leI e11; have t2 : cf9.toInt ≤ 62 := q_leI e12; omega) (by have t1 : 1 ≤ cf9.toInt := q_leI e11; have t2 : cf9.toInt ≤ 62 := q_leI e12; omega)) (by decide) (by have t1 : 1 ≤ cf9.toInt := q_leI e11; have t2 : cf9.toInt ≤ 62 := q_leI e12; omega) (by have t1 : 1 ≤ cf9.toInt := q_leI e11; have t2 : cf9.toInt ≤ 62 := q_leI e12; omega)) (by have t1 : 1 ≤ cf9.toInt := q_leI e11; have t2 : cf9.toInt ≤ 62 := q_leI e12; omega)), (q_Ile (x := (((cf9.toInt + 1) + 1) + 1)) (y := 70) (q_addI (x := ((cf9.toInt + 1) + 1)) (y := 1) (q_addI (x := (cf9.toInt + 1)) (y := 1) (q_addI (x := cf9.toInt) (y := 1) rfl (by decide) (by have t1 : 1 ≤ cf9.toInt := q_leI e11; have t2 : cf9.toInt ≤ 62 := q_leI e12; omega) (by have t1 : 1 ≤ cf9.toInt := q_leI e11; have t2 : cf9.toInt ≤ 62 := q_leI e12; omega)) (by decide) (by have t1 : 1 ≤ cf9.toInt := q_leI e11; have t2 : cf9.toInt ≤ 62 := q_leI e12; omega) (by have t1 : 1 ≤ cf9.toInt := q_leI e11; have t2 : cf9.toInt ≤ 62 := q_leI e12; omega)) (by decide) (by have t1 : 1 ≤ cf9.toInt := q_leI e11; have t2 : cf9.toInt ≤ 62 := q_leI e12; omega) (by have t1 : 1 ≤ cf9.toInt := q_leI e11; have t2 : cf9.toInt ≤ 62 := q_leI e12; omega)) (by decide) (by have t1 : 1 ≤ cf9.toInt := q_leI e11; have t2 : cf9.toInt ≤ 62 := q_leI e12; omega)), rfl, hF, hO6, hA16⟩) d_8_13_82
              ·
                replace hF := q_uc hF hg273 (q_sc (.head _) (q_sc (.tail _ (.head _)) (fun _ h => absurd h List.not_mem_nil)))
                refine lv_iinc (v := ((cf9 + 1) + 1) + 1) (lv' := [(2, .int (((cf9 + 1) + 1) + 1)), (3, .int 2), (0, .ref qO0), (1, .ref qO1)]) hx hb d_8_13_72 hl (k := 1) rfl (rfl) (by decide) rfl (fun ls hl => ?_)
                refine lv_iinc (v := 3) (lv' := [(3, .int 3), (2, .int (((cf9 + 1) + 1) + 1)), (0, .ref qO0), (1, .ref qO1)]) hx hb d_8_13_75 hl (k := 1) rfl (by decide) (by decide) rfl (fun ls hl => ?_)
                refine lv_goto (tgt := 46) hx hb d_8_13_78 (by decide) ?_
                refine lv_iload_n hx hb d_8_13_46 rfl (lv_at hl 0 rfl) ?_
                refine lv_iconst (v := 3) hx hb d_8_13_47 (by decide) ?_
                refine lv_icmp_ge (tgt := 81) hx hb d_8_13_48 (by decide) (fun c275 => ?_) (fun c275 => absurd (by decide) c275)
                refine lv_iload_n hx hb d_8_13_81 rfl (lv_at hl 1 rfl) ?_
                exact q_reti C0 V (Or.inl ⟨(((cf9 + 1) + 1) + 1), y271, y272, f269, f270, (q_Ile (x := 1) (y := (((cf9.toInt + 1) + 1) + 1)) (by decide) (q_addI (x := ((cf9.toInt + 1) + 1)) (y := 1) (q_addI (x := (cf9.toInt + 1)) (y := 1) (q_addI (x := cf9.toInt) (y := 1) rfl (by decide) (by have t1 : 1 ≤ cf9.toInt := q_leI e11; have t2 : cf9.toInt ≤ 62 := q_leI e12; omega) (by have t1 : 1 ≤ cf9.toInt := q_leI e11; have t2 : cf9.toInt ≤ 62 := q_leI e12; omega)) (by decide) (by have t1 : 1 ≤ cf9.toInt := q_leI e11; have t2 : cf9.toInt ≤ 62 := q_leI e12; omega) (by have t1 : 1 ≤ cf9.toInt := q_leI e11; have t2 : cf9.toInt ≤ 62 := q_leI e12; omega)) (by decide) (by have t1 : 1 ≤ cf9.toInt := q_leI e11; have t2 : cf9.toInt ≤ 62 := q_leI e12; omega) (by have t1 : 1 ≤ cf9.toInt := q_leI e11; have t2 : cf9.toInt ≤ 62 := q_leI e12; omega)) (by have t1 : 1 ≤ cf9.toInt := q_leI e11; have t2 : cf9.toInt ≤ 62 := q_leI e12; omega)), (q_Ile (x := (((cf9.toInt + 1) + 1) + 1)) (y := 70) (q_addI (x := ((cf9.toInt + 1) + 1)) (y := 1) (q_addI (x := (cf9.toInt + 1)) (y := 1) (q_addI (x := cf9.toInt) (y := 1) rfl (by decide) (by have t1 : 1 ≤ cf9.toInt := q_leI e11; have t2 : cf9.toInt ≤ 62 := q_leI e12; omega) (by have t1 : 1 ≤ cf9.toInt := q_leI e11; have t2 : cf9.toInt ≤ 62 := q_leI e12; omega)) (by decide) (by have t1 : 1 ≤ cf9.toInt := q_leI e11; have t2 : cf9.toInt ≤ 62 := q_leI e12; omega) (by have t1 : 1 ≤ cf9.toInt := q_leI e11; have t2 : cf9.toInt ≤ 62 := q_leI e12; omega)) (by decide) (by have t1 : 1 ≤ cf9.toInt := q_leI e11; have t2 : cf9.toInt ≤ 62 := q_leI e12; omega) (by have t1 : 1 ≤ cf9.toInt := q_leI e11; have t2 : cf9.toInt ≤ 62 := q_leI e12; omega)) (by decide) (by have t1 : 1 ≤ cf9.toInt := q_leI e11; have t2 : cf9.toInt ≤ 62 := q_leI e12; omega)), rfl, hF, hO6, hA16⟩) d_8_13_82
            ·
              refine lv_if_lt (tgt := 81) hx hb d_8_13_59 (by decide) (fun c276 => ?_) (fun c276 => absurd (by decide) c276)
              refine lv_iload_n hx hb d_8_13_81 rfl (lv_at hl 1 rfl) ?_
              exact q_reti C0 V (Or.inl ⟨((cf9 + 1) + 1), y210, y211, f208, f209, (q_Ile (x := 1) (y := ((cf9.toInt + 1) + 1)) (by decide) (q_addI (x := (cf9.toInt + 1)) (y := 1) (q_addI (x := cf9.toInt) (y := 1) rfl (by decide) (by have t1 : 1 ≤ cf9.toInt := q_leI e11; have t2 : cf9.toInt ≤ 62 := q_leI e12; omega) (by have t1 : 1 ≤ cf9.toInt := q_leI e11; have t2 : cf9.toInt ≤ 62 := q_leI e12; omega)) (by decide) (by have t1 : 1 ≤ cf9.toInt := q_leI e11; have t2 : cf9.toInt ≤ 62 := q_leI e12; omega) (by have t1 : 1 ≤ cf9.toInt := q_leI e11; have t2 : cf9.toInt ≤ 62 := q_leI e12; omega)) (by have t1 : 1 ≤ cf9.toInt := q_leI e11; have t2 : cf9.toInt ≤ 62 := q_leI e12; omega)), (q_Ile (x := ((cf9.toInt + 1) + 1)) (y := 70) (q_addI (x := (cf9.toInt + 1)) (y := 1) (q_addI (x := cf9.toInt) (y := 1) rfl (by decide) (by have t1 : 1 ≤ cf9.toInt := q_leI e11; have t2 : cf9.toInt ≤ 62 := q_leI e12; omega) (by have t1 : 1 ≤ cf9.toInt := q_leI e11; have t2 : cf9.toInt ≤ 62 := q_leI e12; omega)) (by decide) (by have t1 : 1 ≤ cf9.toInt := q_leI e11; have t2 : cf9.toInt ≤ 62 := q_leI e12; omega) (by have t1 : 1 ≤ cf9.toInt := q_leI e11; have t2 : cf9.toInt ≤ 62 := q_leI e12; omega)) (by decide) (by have t1 : 1 ≤ cf9.toInt := q_leI e11; have t2 : cf9.toInt ≤ 62 := q_leI e12; omega)), rfl, hF, hO6, hA16⟩) d_8_13_82
        ·
          refine lv_if_lt (tgt := 81) hx hb d_8_13_59 (by decide) (fun c277 => absurd c277 (by decide)) (fun c277 => ?_)
          refine lv_aload_n hx hb d_8_13_62 rfl (lv_at hl 2 rfl) ?_
          refine q_get (ci := 4) (j := 5) (v := .ref qO6) C0 V i_Mil rfl rfl hO0 (by decide) w_124 rfl d_8_13_63 ?_
          refine lv_bipush (v := 10) hx hb d_8_13_66 (by decide) ?_
          refine lv_iconst (v := 0) hx hb d_8_13_68 (by decide) ?_
          refine q_gov V (q_runV (As := [.int 10, .int 0]) (rest := []) (d := 1) (mc := 0) (ms := 0) (ci := 2) C0 V rfl LV_Mil_102 (c_Big_multiplySmall_4 l D g u32 kO6 kA16 qO6 qA16 y37 y38 hO6 hA16 f35 f36 _) rfl rfl hO6 rfl hl.1 rfl (Nat.le_of_ble_eq_true rfl) ⟨by decide, by decide⟩ ⟨Nat.le_of_ble_eq_true rfl, Nat.le_of_ble_eq_true rfl⟩ d_8_13_69) (fun u279 H locs hp278 V => ?_)
          rcases hp278 with ⟨y280, hg281, hO6, hA16⟩ | ⟨y284, y285, f282, f283, hg286, hO6, hA16⟩
          ·
            replace hF := q_uc hF hg281 (q_sc (.head _) (q_sc (.tail _ (.head _)) (fun _ h => absurd h List.not_mem_nil)))
            refine lv_iinc (v := (cf9 + 1) + 1) (lv' := [(2, .int ((cf9 + 1) + 1)), (3, .int 1), (0, .ref qO0), (1, .ref qO1)]) hx hb d_8_13_72 hl (k := 1) rfl (rfl) (by decide) rfl (fun ls hl => ?_)
            refine lv_iinc (v := 2) (lv' := [(3, .int 2), (2, .int ((cf9 + 1) + 1)), (0, .ref qO0), (1, .ref qO1)]) hx hb d_8_13_75 hl (k := 1) rfl (by decide) (by decide) rfl (fun ls hl => ?_)
            refine lv_goto (tgt := 46) hx hb d_8_13_78 (by decide) ?_
            refine lv_iload_n hx hb d_8_13_46 rfl (lv_at hl 0 rfl) ?_
            refine lv_iconst (v := 3) hx hb d_8_13_47 (by decide) ?_
            refine lv_icmp_ge (tgt := 81) hx hb d_8_13_48 (by decide) (fun c287 => absurd c287 (by decide)) (fun c287 => ?_)
            refine lv_aload_n hx hb d_8_13_51 rfl (lv_at hl 3 rfl) ?_
            refine lv_aload_n hx hb d_8_13_52 rfl (lv_at hl 2 rfl) ?_
            replace hO0 := (hg281 _ (q_nc n_O0_O6 (q_nc n_O0_A16 List.not_mem_nil))).trans (hO0)
            refine q_get (ci := 4) (j := 5) (v := .ref qO6) C0 V i_Mil rfl rfl hO0 (by decide) w_124 rfl d_8_13_53 ?_
            replace hO1 := (hg281 _ (q_nc n_O1_O6 (q_nc n_O1_A16 List.not_mem_nil))).trans (hO1)
            replace hA11 := (hg281 _ (q_nc n_A11_O6 (q_nc n_A11_A16 List.not_mem_nil))).trans (hA11)
            refine q_goi V (q_runV (As := [.ref qO6]) (rest := []) (d := 2) (mc := 0) (ms := 0) (ci := 2) C0 V rfl LV_Mil_112 (c_Big_compareSize_3 l D g u279 kO1 kO6 kA11 kA16 qO1 qO6 qA11 qA16 y1 y2 y37 f3 y280 hO1 hO6 hA11 hA16 (q_Ile (x := 1) (y := y1.toInt) (by decide) rfl (by have t1 : 0 ≤ y1.toInt := q_leI y1lo; have t2 : y1.toInt ≤ 3 := q_leI y1hi; have t3 : y1.toInt ≠ 0 := q_neI c1; omega)) y1hi y2lo y2hi f35 f36 _) rfl rfl hO1 rfl hl.1 rfl (Nat.le_of_ble_eq_true rfl) ⟨by decide, by decide⟩ ⟨Nat.le_of_ble_eq_true rfl, Nat.le_of_ble_eq_true rfl⟩ d_8_13_56) (fun v290 u289 H locs hp288 V => ?_)
            rcases hp288 with ⟨rfl, rfl⟩ | ⟨rfl, rfl⟩ | ⟨rfl, rfl⟩
            ·
              refine lv_if_lt (tgt := 81) hx hb d_8_13_59 (by decide) (fun c294 => absurd c294 (by decide)) (fun c294 => ?_)
              refine lv_aload_n hx hb d_8_13_62 rfl (lv_at hl 2 rfl) ?_
              refine q_get (ci := 4) (j := 5) (v := .ref qO6) C0 V i_Mil rfl rfl hO0 (by decide) w_124 rfl d_8_13_63 ?_
              refine lv_bipush (v := 10) hx hb d_8_13_66 (by decide) ?_
              refine lv_iconst (v := 0) hx hb d_8_13_68 (by decide) ?_
              refine q_gov V (q_runV (As := [.int 10, .int 0]) (rest := []) (d := 1) (mc := 0) (ms := 0) (ci := 2) C0 V rfl LV_Mil_102 (c_Big_multiplySmall_4 l D g u279 kO6 kA16 qO6 qA16 y37 y280 hO6 hA16 f35 f36 _) rfl rfl hO6 rfl hl.1 rfl (Nat.le_of_ble_eq_true rfl) ⟨by decide, by decide⟩ ⟨Nat.le_of_ble_eq_true rfl, Nat.le_of_ble_eq_true rfl⟩ d_8_13_69) (fun u296 H locs hp295 V => ?_)
              rcases hp295 with ⟨y297, hg298, hO6, hA16⟩ | ⟨y301, y302, f299, f300, hg303, hO6, hA16⟩
              ·
                replace hF := q_uc hF hg298 (q_sc (.head _) (q_sc (.tail _ (.head _)) (fun _ h => absurd h List.not_mem_nil)))
                refine lv_iinc (v := ((cf9 + 1) + 1) + 1) (lv' := [(2, .int (((cf9 + 1) + 1) + 1)), (3, .int 2), (0, .ref qO0), (1, .ref qO1)]) hx hb d_8_13_72 hl (k := 1) rfl (rfl) (by decide) rfl (fun ls hl => ?_)
                refine lv_iinc (v := 3) (lv' := [(3, .int 3), (2, .int (((cf9 + 1) + 1) + 1)), (0, .ref qO0), (1, .ref qO1)]) hx hb d_8_13_75 hl (k := 1) rfl (by decide) (by decide) rfl (fun ls hl => ?_)
                refine lv_goto (tgt := 46) hx hb d_8_13_78 (by decide) ?_
                refine lv_iload_n hx hb d_8_13_46 rfl (lv_at hl 0 rfl) ?_
                refine lv_iconst (v := 3) hx hb d_8_13_47 (by decide) ?_
                refine lv_icmp_ge (tgt := 81) hx hb d_8_13_48 (by decide) (fun c304 => ?_) (fun c304 => absurd (by decide) c304)
                refine lv_iload_n hx hb d_8_13_81 rfl (lv_at hl 1 rfl) ?_
                exact q_reti C0 V (Or.inl ⟨(((cf9 + 1) + 1) + 1), y37, y297, f35, f36, (q_Ile (x := 1) (y := (((cf9.toInt + 1) + 1) + 1)) (by decide) (q_addI (x := ((cf9.toInt + 1) + 1)) (y := 1) (q_addI (x := (cf9.toInt + 1)) (y := 1) (q_addI (x := cf9.toInt) (y := 1) rfl (by decide) (by have t1 : 1 ≤ cf9.toInt := q_leI e11; have t2 : cf9.toInt ≤ 62 := q_leI e12; omega) (by have t1 : 1 ≤ cf9.toInt := q_leI e11; have t2 : cf9.toInt ≤ 62 := q_leI e12; omega)) (by decide) (by have t1 : 1 ≤ cf9.toInt := q_leI e11; have t2 : cf9.toInt ≤ 62 := q_leI e12; omega) (by have t1 : 1 ≤ cf9.toInt := q_leI e11; have t2 : cf9.toInt ≤ 62 := q_leI e12; omega)) (by decide) (by have t1 : 1 ≤ cf9.toInt := q_leI e11; have t2 : cf9.toInt ≤ 62 := q_leI e12; omega) (by have t1 : 1 ≤ cf9.toInt := q_leI e11; have t2 : cf9.toInt ≤ 62 := q_leI e12; omega)) (by have t1 : 1 ≤ cf9.toInt := q_leI e11; have t2 : cf9.toInt ≤ 62 := q_leI e12; omega)), (q_Ile (x := (((cf9.toInt + 1) + 1) + 1)) (y := 70) (q_addI (x := ((cf9.toInt + 1) + 1)) (y := 1) (q_addI (x := (cf9.toInt + 1)) (y := 1) (q_addI (x := cf9.toInt) (y := 1) rfl (by decide) (by have t1 : 1 ≤ cf9.toInt := q_leI e11; have t2 : cf9.toInt ≤ 62 := q_leI e12; omega) (by have t1 : 1 ≤ cf9.toInt := q_leI e11; have t2 : cf9.toInt ≤ 62 := q_leI e12; omega)) (by decide) (by have t1 : 1 ≤ cf9.toInt := q_leI e11; have t2 : cf9.toInt ≤ 62 := q_leI e12; omega) (by have t1 : 1 ≤ cf9.toInt := q_leI e11; have t2 : cf9.toInt ≤ 62 := q_leI e12; omega)) (by decide) (by have t1 : 1 ≤ cf9.toInt := q_leI e11; have t2 : cf9.toInt ≤ 62 := q_leI e12; omega) (by have t1 : 1 ≤ cf9.toInt := q_leI e11; have t2 : cf9.toInt ≤ 62 := q_leI e12; omega)) (by decide) (by have t1 : 1 ≤ cf9.toInt := q_leI e11; have t2 : cf9.toInt ≤ 62 := q_leI e12; omega)), rfl, hF, hO6, hA16⟩) d_8_13_82
              ·
                replace hF := q_uc hF hg303 (q_sc (.head _) (q_sc (.tail _ (.head _)) (fun _ h => absurd h List.not_mem_nil)))
                refine lv_iinc (v := ((cf9 + 1) + 1) + 1) (lv' := [(2, .int (((cf9 + 1) + 1) + 1)), (3, .int 2), (0, .ref qO0), (1, .ref qO1)]) hx hb d_8_13_72 hl (k := 1) rfl (rfl) (by decide) rfl (fun ls hl => ?_)
                refine lv_iinc (v := 3) (lv' := [(3, .int 3), (2, .int (((cf9 + 1) + 1) + 1)), (0, .ref qO0), (1, .ref qO1)]) hx hb d_8_13_75 hl (k := 1) rfl (by decide) (by decide) rfl (fun ls hl => ?_)
                refine lv_goto (tgt := 46) hx hb d_8_13_78 (by decide) ?_
                refine lv_iload_n hx hb d_8_13_46 rfl (lv_at hl 0 rfl) ?_
                refine lv_iconst (v := 3) hx hb d_8_13_47 (by decide) ?_
                refine lv_icmp_ge (tgt := 81) hx hb d_8_13_48 (by decide) (fun c305 => ?_) (fun c305 => absurd (by decide) c305)
                refine lv_iload_n hx hb d_8_13_81 rfl (lv_at hl 1 rfl) ?_
                exact q_reti C0 V (Or.inl ⟨(((cf9 + 1) + 1) + 1), y301, y302, f299, f300, (q_Ile (x := 1) (y := (((cf9.toInt + 1) + 1) + 1)) (by decide) (q_addI (x := ((cf9.toInt + 1) + 1)) (y := 1) (q_addI (x := (cf9.toInt + 1)) (y := 1) (q_addI (x := cf9.toInt) (y := 1) rfl (by decide) (by have t1 : 1 ≤ cf9.toInt := q_leI e11; have t2 : cf9.toInt ≤ 62 := q_leI e12; omega) (by have t1 : 1 ≤ cf9.toInt := q_leI e11; have t2 : cf9.toInt ≤ 62 := q_leI e12; omega)) (by decide) (by have t1 : 1 ≤ cf9.toInt := q_leI e11; have t2 : cf9.toInt ≤ 62 := q_leI e12; omega) (by have t1 : 1 ≤ cf9.toInt := q_leI e11; have t2 : cf9.toInt ≤ 62 := q_leI e12; omega)) (by decide) (by have t1 : 1 ≤ cf9.toInt := q_leI e11; have t2 : cf9.toInt ≤ 62 := q_leI e12; omega) (by have t1 : 1 ≤ cf9.toInt := q_leI e11; have t2 : cf9.toInt ≤ 62 := q_leI e12; omega)) (by have t1 : 1 ≤ cf9.toInt := q_leI e11; have t2 : cf9.toInt ≤ 62 := q_leI e12; omega)), (q_Ile (x := (((cf9.toInt + 1) + 1) + 1)) (y := 70) (q_addI (x := ((cf9.toInt + 1) + 1)) (y := 1) (q_addI (x := (cf9.toInt + 1)) (y := 1) (q_addI (x := cf9.toInt) (y := 1) rfl (by decide) (by have t1 : 1 ≤ cf9.toInt := q_leI e11; have t2 : cf9.toInt ≤ 62 := q_leI e12; omega) (by have t1 : 1 ≤ cf9.toInt := q_leI e11; have t2 : cf9.toInt ≤ 62 := q_leI e12; omega)) (by decide) (by have t1 : 1 ≤ cf9.toInt := q_leI e11; have t2 : cf9.toInt ≤ 62 := q_leI e12; omega) (by have t1 : 1 ≤ cf9.toInt := q_leI e11; have t2 : cf9.toInt ≤ 62 := q_leI e12; omega)) (by decide) (by have t1 : 1 ≤ cf9.toInt := q_leI e11; have t2 : cf9.toInt ≤ 62 := q_leI e12; omega) (by have t1 : 1 ≤ cf9.toInt := q_leI e11; have t2 : cf9.toInt ≤ 62 := q_leI e12; omega)) (by decide) (by have t1 : 1 ≤ cf9.toInt := q_leI e11; have t2 : cf9.toInt ≤ 62 := q_leI e12; omega)), rfl, hF, hO6, hA16⟩) d_8_13_82
            ·
              refine lv_if_lt (tgt := 81) hx hb d_8_13_59 (by decide) (fun c306 => absurd c306 (by decide)) (fun c306 => ?_)
              refine lv_aload_n hx hb d_8_13_62 rfl (lv_at hl 2 rfl) ?_
              refine q_get (ci := 4) (j := 5) (v := .ref qO6) C0 V i_Mil rfl rfl hO0 (by decide) w_124 rfl d_8_13_63 ?_
              refine lv_bipush (v := 10) hx hb d_8_13_66 (by decide) ?_
              refine lv_iconst (v := 0) hx hb d_8_13_68 (by decide) ?_
              refine q_gov V (q_runV (As := [.int 10, .int 0]) (rest := []) (d := 1) (mc := 0) (ms := 0) (ci := 2) C0 V rfl LV_Mil_102 (c_Big_multiplySmall_4 l D g u279 kO6 kA16 qO6 qA16 y37 y280 hO6 hA16 f35 f36 _) rfl rfl hO6 rfl hl.1 rfl (Nat.le_of_ble_eq_true rfl) ⟨by decide, by decide⟩ ⟨Nat.le_of_ble_eq_true rfl, Nat.le_of_ble_eq_true rfl⟩ d_8_13_69) (fun u308 H locs hp307 V => ?_)
              rcases hp307 with ⟨y309, hg310, hO6, hA16⟩ | ⟨y313, y314, f311, f312, hg315, hO6, hA16⟩
              ·
                replace hF := q_uc hF hg310 (q_sc (.head _) (q_sc (.tail _ (.head _)) (fun _ h => absurd h List.not_mem_nil)))
                refine lv_iinc (v := ((cf9 + 1) + 1) + 1) (lv' := [(2, .int (((cf9 + 1) + 1) + 1)), (3, .int 2), (0, .ref qO0), (1, .ref qO1)]) hx hb d_8_13_72 hl (k := 1) rfl (rfl) (by decide) rfl (fun ls hl => ?_)
                refine lv_iinc (v := 3) (lv' := [(3, .int 3), (2, .int (((cf9 + 1) + 1) + 1)), (0, .ref qO0), (1, .ref qO1)]) hx hb d_8_13_75 hl (k := 1) rfl (by decide) (by decide) rfl (fun ls hl => ?_)
                refine lv_goto (tgt := 46) hx hb d_8_13_78 (by decide) ?_
                refine lv_iload_n hx hb d_8_13_46 rfl (lv_at hl 0 rfl) ?_
                refine lv_iconst (v := 3) hx hb d_8_13_47 (by decide) ?_
                refine lv_icmp_ge (tgt := 81) hx hb d_8_13_48 (by decide) (fun c316 => ?_) (fun c316 => absurd (by decide) c316)
                refine lv_iload_n hx hb d_8_13_81 rfl (lv_at hl 1 rfl) ?_
                exact q_reti C0 V (Or.inl ⟨(((cf9 + 1) + 1) + 1), y37, y309, f35, f36, (q_Ile (x := 1) (y := (((cf9.toInt + 1) + 1) + 1)) (by decide) (q_addI (x := ((cf9.toInt + 1) + 1)) (y := 1) (q_addI (x := (cf9.toInt + 1)) (y := 1) (q_addI (x := cf9.toInt) (y := 1) rfl (by decide) (by have t1 : 1 ≤ cf9.toInt := q_leI e11; have t2 : cf9.toInt ≤ 62 := q_leI e12; omega) (by have t1 : 1 ≤ cf9.toInt := q_leI e11; have t2 : cf9.toInt ≤ 62 := q_leI e12; omega)) (by decide) (by have t1 : 1 ≤ cf9.toInt := q_leI e11; have t2 : cf9.toInt ≤ 62 := q_leI e12; omega) (by have t1 : 1 ≤ cf9.toInt := q_leI e11; have t2 : cf9.toInt ≤ 62 := q_leI e12; omega)) (by decide) (by have t1 : 1 ≤ cf9.toInt := q_leI e11; have t2 : cf9.toInt ≤ 62 := q_leI e12; omega) (by have t1 : 1 ≤ cf9.toInt := q_leI e11; have t2 : cf9.toInt ≤ 62 := q_leI e12; omega)) (by have t1 : 1 ≤ cf9.toInt := q_leI e11; have t2 : cf9.toInt ≤ 62 := q_leI e12; omega)), (q_Ile (x := (((cf9.toInt + 1) + 1) + 1)) (y := 70) (q_addI (x := ((cf9.toInt + 1) + 1)) (y := 1) (q_addI (x := (cf9.toInt + 1)) (y := 1) (q_addI (x := cf9.toInt) (y := 1) rfl (by decide) (by have t1 : 1 ≤ cf9.toInt := q_leI e11; have t2 : cf9.toInt ≤ 62 := q_leI e12; omega) (by have t1 : 1 ≤ cf9.toInt := q_leI e11; have t2 : cf9.toInt ≤ 62 := q_leI e12; omega)) (by decide) (by have t1 : 1 ≤ cf9.toInt := q_leI e11; have t2 : cf9.toInt ≤ 62 := q_leI e12; omega) (by have t1 : 1 ≤ cf9.toInt := q_leI e11; have t2 : cf9.toInt ≤ 62 := q_leI e12; omega)) (by decide) (by have t1 : 1 ≤ cf9.toInt := q_leI e11; have t2 : cf9.toInt ≤ 62 := q_leI e12; omega) (by have t1 : 1 ≤ cf9.toInt := q_leI e11; have t2 : cf9.toInt ≤ 62 := q_leI e12; omega)) (by decide) (by have t1 : 1 ≤ cf9.toInt := q_leI e11; have t2 : cf9.toInt ≤ 62 := q_leI e12; omega)), rfl, hF, hO6, hA16⟩) d_8_13_82
              ·
                replace hF := q_uc hF hg315 (q_sc (.head _) (q_sc (.tail _ (.head _)) (fun _ h => absurd h List.not_mem_nil)))
                refine lv_iinc (v := ((cf9 + 1) + 1) + 1) (lv' := [(2, .int (((cf9 + 1) + 1) + 1)), (3, .int 2), (0, .ref qO0), (1, .ref qO1)]) hx hb d_8_13_72 hl (k := 1) rfl (rfl) (by decide) rfl (fun ls hl => ?_)
                refine lv_iinc (v := 3) (lv' := [(3, .int 3), (2, .int (((cf9 + 1) + 1) + 1)), (0, .ref qO0), (1, .ref qO1)]) hx hb d_8_13_75 hl (k := 1) rfl (by decide) (by decide) rfl (fun ls hl => ?_)
                refine lv_goto (tgt := 46) hx hb d_8_13_78 (by decide) ?_
                refine lv_iload_n hx hb d_8_13_46 rfl (lv_at hl 0 rfl) ?_
                refine lv_iconst (v := 3) hx hb d_8_13_47 (by decide) ?_
                refine lv_icmp_ge (tgt := 81) hx hb d_8_13_48 (by decide) (fun c317 => ?_) (fun c317 => absurd (by decide) c317)
                refine lv_iload_n hx hb d_8_13_81 rfl (lv_at hl 1 rfl) ?_
                exact q_reti C0 V (Or.inl ⟨(((cf9 + 1) + 1) + 1), y313, y314, f311, f312, (q_Ile (x := 1) (y := (((cf9.toInt + 1) + 1) + 1)) (by decide) (q_addI (x := ((cf9.toInt + 1) + 1)) (y := 1) (q_addI (x := (cf9.toInt + 1)) (y := 1) (q_addI (x := cf9.toInt) (y := 1) rfl (by decide) (by have t1 : 1 ≤ cf9.toInt := q_leI e11; have t2 : cf9.toInt ≤ 62 := q_leI e12; omega) (by have t1 : 1 ≤ cf9.toInt := q_leI e11; have t2 : cf9.toInt ≤ 62 := q_leI e12; omega)) (by decide) (by have t1 : 1 ≤ cf9.toInt := q_leI e11; have t2 : cf9.toInt ≤ 62 := q_leI e12; omega) (by have t1 : 1 ≤ cf9.toInt := q_leI e11; have t2 : cf9.toInt ≤ 62 := q_leI e12; omega)) (by decide) (by have t1 : 1 ≤ cf9.toInt := q_leI e11; have t2 : cf9.toInt ≤ 62 := q_leI e12; omega) (by have t1 : 1 ≤ cf9.toInt := q_leI e11; have t2 : cf9.toInt ≤ 62 := q_leI e12; omega)) (by have t1 : 1 ≤ cf9.toInt := q_leI e11; have t2 : cf9.toInt ≤ 62 := q_leI e12; omega)), (q_Ile (x := (((cf9.toInt + 1) + 1) + 1)) (y := 70) (q_addI (x := ((cf9.toInt + 1) + 1)) (y := 1) (q_addI (x := (cf9.toInt + 1)) (y := 1) (q_addI (x := cf9.toInt) (y := 1) rfl (by decide) (by have t1 : 1 ≤ cf9.toInt := q_leI e11; have t2 : cf9.toInt ≤ 62 := q_leI e12; omega) (by have t1 : 1 ≤ cf9.toInt := q_leI e11; have t2 : cf9.toInt ≤ 62 := q_leI e12; omega)) (by decide) (by have t1 : 1 ≤ cf9.toInt := q_leI e11; have t2 : cf9.toInt ≤ 62 := q_leI e12; omega) (by have t1 : 1 ≤ cf9.toInt := q_leI e11; have t2 : cf9.toInt ≤ 62 := q_leI e12; omega)) (by decide) (by have t1 : 1 ≤ cf9.toInt := q_leI e11; have t2 : cf9.toInt ≤ 62 := q_leI e12; omega) (by have t1 : 1 ≤ cf9.toInt := q_leI e11; have t2 : cf9.toInt ≤ 62 := q_leI e12; omega)) (by decide) (by have t1 : 1 ≤ cf9.toInt := q_leI e11; have t2 : cf9.toInt ≤ 62 := q_leI e12; omega)), rfl, hF, hO6, hA16⟩) d_8_13_82
            ·
              refine lv_if_lt (tgt := 81) hx hb d_8_13_59 (by decide) (fun c318 => ?_) (fun c318 => absurd (by decide) c318)
              refine lv_iload_n hx hb d_8_13_81 rfl (lv_at hl 1 rfl) ?_
              exact q_reti C0 V (Or.inl ⟨((cf9 + 1) + 1), y37, y280, f35, f36, (q_Ile (x := 1) (y := ((cf9.toInt + 1) + 1)) (by decide) (q_addI (x := (cf9.toInt + 1)) (y := 1) (q_addI (x := cf9.toInt) (y := 1) rfl (by decide) (by have t1 : 1 ≤ cf9.toInt := q_leI e11; have t2 : cf9.toInt ≤ 62 := q_leI e12; omega) (by have t1 : 1 ≤ cf9.toInt := q_leI e11; have t2 : cf9.toInt ≤ 62 := q_leI e12; omega)) (by decide) (by have t1 : 1 ≤ cf9.toInt := q_leI e11; have t2 : cf9.toInt ≤ 62 := q_leI e12; omega) (by have t1 : 1 ≤ cf9.toInt := q_leI e11; have t2 : cf9.toInt ≤ 62 := q_leI e12; omega)) (by have t1 : 1 ≤ cf9.toInt := q_leI e11; have t2 : cf9.toInt ≤ 62 := q_leI e12; omega)), (q_Ile (x := ((cf9.toInt + 1) + 1)) (y := 70) (q_addI (x := (cf9.toInt + 1)) (y := 1) (q_addI (x := cf9.toInt) (y := 1) rfl (by decide) (by have t1 : 1 ≤ cf9.toInt := q_leI e11; have t2 : cf9.toInt ≤ 62 := q_leI e12; omega) (by have t1 : 1 ≤ cf9.toInt := q_leI e11; have t2 : cf9.toInt ≤ 62 := q_leI e12; omega)) (by decide) (by have t1 : 1 ≤ cf9.toInt := q_leI e11; have t2 : cf9.toInt ≤ 62 := q_leI e12; omega) (by have t1 : 1 ≤ cf9.toInt := q_leI e11; have t2 : cf9.toInt ≤ 62 := q_leI e12; omega)) (by decide) (by have t1 : 1 ≤ cf9.toInt := q_leI e11; have t2 : cf9.toInt ≤ 62 := q_leI e12; omega)), rfl, hF, hO6, hA16⟩) d_8_13_82
          ·
            replace hF := q_uc hF hg286 (q_sc (.head _) (q_sc (.tail _ (.head _)) (fun _ h => absurd h List.not_mem_nil)))
            refine lv_iinc (v := (cf9 + 1) + 1) (lv' := [(2, .int ((cf9 + 1) + 1)), (3, .int 1), (0, .ref qO0), (1, .ref qO1)]) hx hb d_8_13_72 hl (k := 1) rfl (rfl) (by decide) rfl (fun ls hl => ?_)
            refine lv_iinc (v := 2) (lv' := [(3, .int 2), (2, .int ((cf9 + 1) + 1)), (0, .ref qO0), (1, .ref qO1)]) hx hb d_8_13_75 hl (k := 1) rfl (by decide) (by decide) rfl (fun ls hl => ?_)
            refine lv_goto (tgt := 46) hx hb d_8_13_78 (by decide) ?_
            refine lv_iload_n hx hb d_8_13_46 rfl (lv_at hl 0 rfl) ?_
            refine lv_iconst (v := 3) hx hb d_8_13_47 (by decide) ?_
            refine lv_icmp_ge (tgt := 81) hx hb d_8_13_48 (by decide) (fun c319 => absurd c319 (by decide)) (fun c319 => ?_)
            refine lv_aload_n hx hb d_8_13_51 rfl (lv_at hl 3 rfl) ?_
            refine lv_aload_n hx hb d_8_13_52 rfl (lv_at hl 2 rfl) ?_
            replace hO0 := (hg286 _ (q_nc n_O0_O6 (q_nc n_O0_A16 List.not_mem_nil))).trans (hO0)
            refine q_get (ci := 4) (j := 5) (v := .ref qO6) C0 V i_Mil rfl rfl hO0 (by decide) w_124 rfl d_8_13_53 ?_
            replace hO1 := (hg286 _ (q_nc n_O1_O6 (q_nc n_O1_A16 List.not_mem_nil))).trans (hO1)
            replace hA11 := (hg286 _ (q_nc n_A11_O6 (q_nc n_A11_A16 List.not_mem_nil))).trans (hA11)
            refine q_goi V (q_runV (As := [.ref qO6]) (rest := []) (d := 2) (mc := 0) (ms := 0) (ci := 2) C0 V rfl LV_Mil_112 (c_Big_compareSize_3 l D g u279 kO1 kO6 kA11 kA16 qO1 qO6 qA11 qA16 y1 y2 y284 f3 y285 hO1 hO6 hA11 hA16 (q_Ile (x := 1) (y := y1.toInt) (by decide) rfl (by have t1 : 0 ≤ y1.toInt := q_leI y1lo; have t2 : y1.toInt ≤ 3 := q_leI y1hi; have t3 : y1.toInt ≠ 0 := q_neI c1; omega)) y1hi y2lo y2hi f282 f283 _) rfl rfl hO1 rfl hl.1 rfl (Nat.le_of_ble_eq_true rfl) ⟨by decide, by decide⟩ ⟨Nat.le_of_ble_eq_true rfl, Nat.le_of_ble_eq_true rfl⟩ d_8_13_56) (fun v322 u321 H locs hp320 V => ?_)
            rcases hp320 with ⟨rfl, rfl⟩ | ⟨rfl, rfl⟩ | ⟨rfl, rfl⟩
            ·
              refine lv_if_lt (tgt := 81) hx hb d_8_13_59 (by decide) (fun c326 => absurd c326 (by decide)) (fun c326 => ?_)
              refine lv_aload_n hx hb d_8_13_62 rfl (lv_at hl 2 rfl) ?_
              refine q_get (ci := 4) (j := 5) (v := .ref qO6) C0 V i_Mil rfl rfl hO0 (by decide) w_124 rfl d_8_13_63 ?_
              refine lv_bipush (v := 10) hx hb d_8_13_66 (by decide) ?_
              refine lv_iconst (v := 0) hx hb d_8_13_68 (by decide) ?_
              refine q_gov V (q_runV (As := [.int 10, .int 0]) (rest := []) (d := 1) (mc := 0) (ms := 0) (ci := 2) C0 V rfl LV_Mil_102 (c_Big_multiplySmall_4 l D g u279 kO6 kA16 qO6 qA16 y284 y285 hO6 hA16 f282 f283 _) rfl rfl hO6 rfl hl.1 rfl (Nat.le_of_ble_eq_true rfl) ⟨by decide, by decide⟩ ⟨Nat.le_of_ble_eq_true rfl, Nat.le_of_ble_eq_true rfl⟩ d_8_13_69) (fun u328 H locs hp327 V => ?_)
              rcases hp327 with ⟨y329, hg330, hO6, hA16⟩ | ⟨y333, y334, f331, f332, hg335, hO6, hA16⟩
              ·
                replace hF := q_uc hF hg330 (q_sc (.head _) (q_sc (.tail _ (.head _)) (fun _ h => absurd h List.not_mem_nil)))
                refine lv_iinc (v := ((cf9 + 1) + 1) + 1) (lv' := [(2, .int (((cf9 + 1) + 1) + 1)), (3, .int 2), (0, .ref qO0), (1, .ref qO1)]) hx hb d_8_13_72 hl (k := 1) rfl (rfl) (by decide) rfl (fun ls hl => ?_)
                refine lv_iinc (v := 3) (lv' := [(3, .int 3), (2, .int (((cf9 + 1) + 1) + 1)), (0, .ref qO0), (1, .ref qO1)]) hx hb d_8_13_75 hl (k := 1) rfl (by decide) (by decide) rfl (fun ls hl => ?_)
                refine lv_goto (tgt := 46) hx hb d_8_13_78 (by decide) ?_
                refine lv_iload_n hx hb d_8_13_46 rfl (lv_at hl 0 rfl) ?_
                refine lv_iconst (v := 3) hx hb d_8_13_47 (by decide) ?_
                refine lv_icmp_ge (tgt := 81) hx hb d_8_13_48 (by decide) (fun c336 => ?_) (fun c336 => absurd (by decide) c336)
                refine lv_iload_n hx hb d_8_13_81 rfl (lv_at hl 1 rfl) ?_
                exact q_reti C0 V (Or.inl ⟨(((cf9 + 1) + 1) + 1), y284, y329, f282, f283, (q_Ile (x := 1) (y := (((cf9.toInt + 1) + 1) + 1)) (by decide) (q_addI (x := ((cf9.toInt + 1) + 1)) (y := 1) (q_addI (x := (cf9.toInt + 1)) (y := 1) (q_addI (x := cf9.toInt) (y := 1) rfl (by decide) (by have t1 : 1 ≤ cf9.toInt := q_leI e11; have t2 : cf9.toInt ≤ 62 := q_leI e12; omega) (by have t1 : 1 ≤ cf9.toInt := q_leI e11; have t2 : cf9.toInt ≤ 62 := q_leI e12; omega)) (by decide) (by have t1 : 1 ≤ cf9.toInt := q_leI e11; have t2 : cf9.toInt ≤ 62 := q_leI e12; omega) (by have t1 : 1 ≤ cf9.toInt := q_leI e11; have t2 : cf9.toInt ≤ 62 := q_leI e12; omega)) (by decide) (by have t1 : 1 ≤ cf9.toInt := q_leI e11; have t2 : cf9.toInt ≤ 62 := q_leI e12; omega) (by have t1 : 1 ≤ cf9.toInt := q_leI e11; have t2 : cf9.toInt ≤ 62 := q_leI e12; omega)) (by have t1 : 1 ≤ cf9.toInt := q_leI e11; have t2 : cf9.toInt ≤ 62 := q_leI e12; omega)), (q_Ile (x := (((cf9.toInt + 1) + 1) + 1)) (y := 70) (q_addI (x := ((cf9.toInt + 1) + 1)) (y := 1) (q_addI (x := (cf9.toInt + 1)) (y := 1) (q_addI (x := cf9.toInt) (y := 1) rfl (by decide) (by have t1 : 1 ≤ cf9.toInt := q_leI e11; have t2 : cf9.toInt ≤ 62 := q_leI e12; omega) (by have t1 : 1 ≤ cf9.toInt := q_leI e11; have t2 : cf9.toInt ≤ 62 := q_leI e12; omega)) (by decide) (by have t1 : 1 ≤ cf9.toInt := q_leI e11; have t2 : cf9.toInt ≤ 62 := q_leI e12; omega) (by have t1 : 1 ≤ cf9.toInt := q_leI e11; have t2 : cf9.toInt ≤ 62 := q_leI e12; omega)) (by decide) (by have t1 : 1 ≤ cf9.toInt := q_leI e11; have t2 : cf9.toInt ≤ 62 := q_leI e12; omega) (by have t1 : 1 ≤ cf9.toInt := q_leI e11; have t2 : cf9.toInt ≤ 62 := q_leI e12; omega)) (by decide) (by have t1 : 1 ≤ cf9.toInt := q_leI e11; have t2 : cf9.toInt ≤ 62 := q_leI e12; omega)), rfl, hF, hO6, hA16⟩) d_8_13_82
              ·
                replace hF := q_uc hF hg335 (q_sc (.head _) (q_sc (.tail _ (.head _)) (fun _ h => absurd h List.not_mem_nil)))
                refine lv_iinc (v := ((cf9 + 1) + 1) + 1) (lv' := [(2, .int (((cf9 + 1) + 1) + 1)), (3, .int 2), (0, .ref qO0), (1, .ref qO1)]) hx hb d_8_13_72 hl (k := 1) rfl (rfl) (by decide) rfl (fun ls hl => ?_)
                refine lv_iinc (v := 3) (lv' := [(3, .int 3), (2, .int (((cf9 + 1) + 1) + 1)), (0, .ref qO0), (1, .ref qO1)]) hx hb d_8_13_75 hl (k := 1) rfl (by decide) (by decide) rfl (fun ls hl => ?_)
                refine lv_goto (tgt := 46) hx hb d_8_13_78 (by decide) ?_
                refine lv_iload_n hx hb d_8_13_46 rfl (lv_at hl 0 rfl) ?_
                refine lv_iconst (v := 3) hx hb d_8_13_47 (by decide) ?_
                refine lv_icmp_ge (tgt := 81) hx hb d_8_13_48 (by decide) (fun c337 => ?_) (fun c337 => absurd (by decide) c337)
                refine lv_iload_n hx hb d_8_13_81 rfl (lv_at hl 1 rfl) ?_
                exact q_reti C0 V (Or.inl ⟨(((cf9 + 1) + 1) + 1), y333, y334, f331, f332, (q_Ile (x := 1) (y := (((cf9.toInt + 1) + 1) + 1)) (by decide) (q_addI (x := ((cf9.toInt + 1) + 1)) (y := 1) (q_addI (x := (cf9.toInt + 1)) (y := 1) (q_addI (x := cf9.toInt) (y := 1) rfl (by decide) (by have t1 : 1 ≤ cf9.toInt := q_leI e11; have t2 : cf9.toInt ≤ 62 := q_leI e12; omega) (by have t1 : 1 ≤ cf9.toInt := q_leI e11; have t2 : cf9.toInt ≤ 62 := q_leI e12; omega)) (by decide) (by have t1 : 1 ≤ cf9.toInt := q_leI e11; have t2 : cf9.toInt ≤ 62 := q_leI e12; omega) (by have t1 : 1 ≤ cf9.toInt := q_leI e11; have t2 : cf9.toInt ≤ 62 := q_leI e12; omega)) (by decide) (by have t1 : 1 ≤ cf9.toInt := q_leI e11; have t2 : cf9.toInt ≤ 62 := q_leI e12; omega) (by have t1 : 1 ≤ cf9.toInt := q_leI e11; have t2 : cf9.toInt ≤ 62 := q_leI e12; omega)) (by have t1 : 1 ≤ cf9.toInt := q_leI e11; have t2 : cf9.toInt ≤ 62 := q_leI e12; omega)), (q_Ile (x := (((cf9.toInt + 1) + 1) + 1)) (y := 70) (q_addI (x := ((cf9.toInt + 1) + 1)) (y := 1) (q_addI (x := (cf9.toInt + 1)) (y := 1) (q_addI (x := cf9.toInt) (y := 1) rfl (by decide) (by have t1 : 1 ≤ cf9.toInt := q_leI e11; have t2 : cf9.toInt ≤ 62 := q_leI e12; omega) (by have t1 : 1 ≤ cf9.toInt := q_leI e11; have t2 : cf9.toInt ≤ 62 := q_leI e12; omega)) (by decide) (by have t1 : 1 ≤ cf9.toInt := q_leI e11; have t2 : cf9.toInt ≤ 62 := q_leI e12; omega) (by have t1 : 1 ≤ cf9.toInt := q_leI e11; have t2 : cf9.toInt ≤ 62 := q_leI e12; omega)) (by decide) (by have t1 : 1 ≤ cf9.toInt := q_leI e11; have t2 : cf9.toInt ≤ 62 := q_leI e12; omega) (by have t1 : 1 ≤ cf9.toInt := q_leI e11; have t2 : cf9.toInt ≤ 62 := q_leI e12; omega)) (by decide) (by have t1 : 1 ≤ cf9.toInt := q_leI e11; have t2 : cf9.toInt ≤ 62 := q_leI e12; omega)), rfl, hF, hO6, hA16⟩) d_8_13_82
            ·
              refine lv_if_lt (tgt := 81) hx hb d_8_13_59 (by decide) (fun c338 => absurd c338 (by decide)) (fun c338 => ?_)
              refine lv_aload_n hx hb d_8_13_62 rfl (lv_at hl 2 rfl) ?_
              refine q_get (ci := 4) (j := 5) (v := .ref qO6) C0 V i_Mil rfl rfl hO0 (by decide) w_124 rfl d_8_13_63 ?_
              refine lv_bipush (v := 10) hx hb d_8_13_66 (by decide) ?_
              refine lv_iconst (v := 0) hx hb d_8_13_68 (by decide) ?_
              refine q_gov V (q_runV (As := [.int 10, .int 0]) (rest := []) (d := 1) (mc := 0) (ms := 0) (ci := 2) C0 V rfl LV_Mil_102 (c_Big_multiplySmall_4 l D g u279 kO6 kA16 qO6 qA16 y284 y285 hO6 hA16 f282 f283 _) rfl rfl hO6 rfl hl.1 rfl (Nat.le_of_ble_eq_true rfl) ⟨by decide, by decide⟩ ⟨Nat.le_of_ble_eq_true rfl, Nat.le_of_ble_eq_true rfl⟩ d_8_13_69) (fun u340 H locs hp339 V => ?_)
              rcases hp339 with ⟨y341, hg342, hO6, hA16⟩ | ⟨y345, y346, f343, f344, hg347, hO6, hA16⟩
              ·
                replace hF := q_uc hF hg342 (q_sc (.head _) (q_sc (.tail _ (.head _)) (fun _ h => absurd h List.not_mem_nil)))
                refine lv_iinc (v := ((cf9 + 1) + 1) + 1) (lv' := [(2, .int (((cf9 + 1) + 1) + 1)), (3, .int 2), (0, .ref qO0), (1, .ref qO1)]) hx hb d_8_13_72 hl (k := 1) rfl (rfl) (by decide) rfl (fun ls hl => ?_)
                refine lv_iinc (v := 3) (lv' := [(3, .int 3), (2, .int (((cf9 + 1) + 1) + 1)), (0, .ref qO0), (1, .ref qO1)]) hx hb d_8_13_75 hl (k := 1) rfl (by decide) (by decide) rfl (fun ls hl => ?_)
                refine lv_goto (tgt := 46) hx hb d_8_13_78 (by decide) ?_
                refine lv_iload_n hx hb d_8_13_46 rfl (lv_at hl 0 rfl) ?_
                refine lv_iconst (v := 3) hx hb d_8_13_47 (by decide) ?_
                refine lv_icmp_ge (tgt := 81) hx hb d_8_13_48 (by decide) (fun c348 => ?_) (fun c348 => absurd (by decide) c348)
                refine lv_iload_n hx hb d_8_13_81 rfl (lv_at hl 1 rfl) ?_
                exact q_reti C0 V (Or.inl ⟨(((cf9 + 1) + 1) + 1), y284, y341, f282, f283, (q_Ile (x := 1) (y := (((cf9.toInt + 1) + 1) + 1)) (by decide) (q_addI (x := ((cf9.toInt + 1) + 1)) (y := 1) (q_addI (x := (cf9.toInt + 1)) (y := 1) (q_addI (x := cf9.toInt) (y := 1) rfl (by decide) (by have t1 : 1 ≤ cf9.toInt := q_leI e11; have t2 : cf9.toInt ≤ 62 := q_leI e12; omega) (by have t1 : 1 ≤ cf9.toInt := q_leI e11; have t2 : cf9.toInt ≤ 62 := q_leI e12; omega)) (by decide) (by have t1 : 1 ≤ cf9.toInt := q_leI e11; have t2 : cf9.toInt ≤ 62 := q_leI e12; omega) (by have t1 : 1 ≤ cf9.toInt := q_leI e11; have t2 : cf9.toInt ≤ 62 := q_leI e12; omega)) (by decide) (by have t1 : 1 ≤ cf9.toInt := q_leI e11; have t2 : cf9.toInt ≤ 62 := q_leI e12; omega) (by have t1 : 1 ≤ cf9.toInt := q_leI e11; have t2 : cf9.toInt ≤ 62 := q_leI e12; omega)) (by have t1 : 1 ≤ cf9.toInt := q_leI e11; have t2 : cf9.toInt ≤ 62 := q_leI e12; omega)), (q_Ile (x := (((cf9.toInt + 1) + 1) + 1)) (y := 70) (q_addI (x := ((cf9.toInt + 1) + 1)) (y := 1) (q_addI (x := (cf9.toInt + 1)) (y := 1) (q_addI (x := cf9.toInt) (y := 1) rfl (by decide) (by have t1 : 1 ≤ cf9.toInt := q_leI e11; have t2 : cf9.toInt ≤ 62 := q_leI e12; omega) (by have t1 : 1 ≤ cf9.toInt := q_leI e11; have t2 : cf9.toInt ≤ 62 := q_leI e12; omega)) (by decide) (by have t1 : 1 ≤ cf9.toInt := q_leI e11; have t2 : cf9.toInt ≤ 62 := q_leI e12; omega) (by have t1 : 1 ≤ cf9.toInt := q_leI e11; have t2 : cf9.toInt ≤ 62 := q_leI e12; omega)) (by decide) (by have t1 : 1 ≤ cf9.toInt := q_leI e11; have t2 : cf9.toInt ≤ 62 := q_leI e12; omega) (by have t1 : 1 ≤ cf9.toInt := q_leI e11; have t2 : cf9.toInt ≤ 62 := q_leI e12; omega)) (by decide) (by have t1 : 1 ≤ cf9.toInt := q_leI e11; have t2 : cf9.toInt ≤ 62 := q_leI e12; omega)), rfl, hF, hO6, hA16⟩) d_8_13_82
              ·
                replace hF := q_uc hF hg347 (q_sc (.head _) (q_sc (.tail _ (.head _)) (fun _ h => absurd h List.not_mem_nil)))
                refine lv_iinc (v := ((cf9 + 1) + 1) + 1) (lv' := [(2, .int (((cf9 + 1) + 1) + 1)), (3, .int 2), (0, .ref qO0), (1, .ref qO1)]) hx hb d_8_13_72 hl (k := 1) rfl (rfl) (by decide) rfl (fun ls hl => ?_)
                refine lv_iinc (v := 3) (lv' := [(3, .int 3), (2, .int (((cf9 + 1) + 1) + 1)), (0, .ref qO0), (1, .ref qO1)]) hx hb d_8_13_75 hl (k := 1) rfl (by decide) (by decide) rfl (fun ls hl => ?_)
                refine lv_goto (tgt := 46) hx hb d_8_13_78 (by decide) ?_
                refine lv_iload_n hx hb d_8_13_46 rfl (lv_at hl 0 rfl) ?_
                refine lv_iconst (v := 3) hx hb d_8_13_47 (by decide) ?_
                refine lv_icmp_ge (tgt := 81) hx hb d_8_13_48 (by decide) (fun c349 => ?_) (fun c349 => absurd (by decide) c349)
                refine lv_iload_n hx hb d_8_13_81 rfl (lv_at hl 1 rfl) ?_
                exact q_reti C0 V (Or.inl ⟨(((cf9 + 1) + 1) + 1), y345, y346, f343, f344, (q_Ile (x := 1) (y := (((cf9.toInt + 1) + 1) + 1)) (by decide) (q_addI (x := ((cf9.toInt + 1) + 1)) (y := 1) (q_addI (x := (cf9.toInt + 1)) (y := 1) (q_addI (x := cf9.toInt) (y := 1) rfl (by decide) (by have t1 : 1 ≤ cf9.toInt := q_leI e11; have t2 : cf9.toInt ≤ 62 := q_leI e12; omega) (by have t1 : 1 ≤ cf9.toInt := q_leI e11; have t2 : cf9.toInt ≤ 62 := q_leI e12; omega)) (by decide) (by have t1 : 1 ≤ cf9.toInt := q_leI e11; have t2 : cf9.toInt ≤ 62 := q_leI e12; omega) (by have t1 : 1 ≤ cf9.toInt := q_leI e11; have t2 : cf9.toInt ≤ 62 := q_leI e12; omega)) (by decide) (by have t1 : 1 ≤ cf9.toInt := q_leI e11; have t2 : cf9.toInt ≤ 62 := q_leI e12; omega) (by have t1 : 1 ≤ cf9.toInt := q_leI e11; have t2 : cf9.toInt ≤ 62 := q_leI e12; omega)) (by have t1 : 1 ≤ cf9.toInt := q_leI e11; have t2 : cf9.toInt ≤ 62 := q_leI e12; omega)), (q_Ile (x := (((cf9.toInt + 1) + 1) + 1)) (y := 70) (q_addI (x := ((cf9.toInt + 1) + 1)) (y := 1) (q_addI (x := (cf9.toInt + 1)) (y := 1) (q_addI (x := cf9.toInt) (y := 1) rfl (by decide) (by have t1 : 1 ≤ cf9.toInt := q_leI e11; have t2 : cf9.toInt ≤ 62 := q_leI e12; omega) (by have t1 : 1 ≤ cf9.toInt := q_leI e11; have t2 : cf9.toInt ≤ 62 := q_leI e12; omega)) (by decide) (by have t1 : 1 ≤ cf9.toInt := q_leI e11; have t2 : cf9.toInt ≤ 62 := q_leI e12; omega) (by have t1 : 1 ≤ cf9.toInt := q_leI e11; have t2 : cf9.toInt ≤ 62 := q_leI e12; omega)) (by decide) (by have t1 : 1 ≤ cf9.toInt := q_leI e11; have t2 : cf9.toInt ≤ 62 := q_leI e12; omega) (by have t1 : 1 ≤ cf9.toInt := q_leI e11; have t2 : cf9.toInt ≤ 62 := q_leI e12; omega)) (by decide) (by have t1 : 1 ≤ cf9.toInt := q_leI e11; have t2 : cf9.toInt ≤ 62 := q_leI e12; omega)), rfl, hF, hO6, hA16⟩) d_8_13_82
            ·
              refine lv_if_lt (tgt := 81) hx hb d_8_13_59 (by decide) (fun c350 => ?_) (fun c350 => absurd (by decide) c350)
              refine lv_iload_n hx hb d_8_13_81 rfl (lv_at hl 1 rfl) ?_
              exact q_reti C0 V (Or.inl ⟨((cf9 + 1) + 1), y284, y285, f282, f283, (q_Ile (x := 1) (y := ((cf9.toInt + 1) + 1)) (by decide) (q_addI (x := (cf9.toInt + 1)) (y := 1) (q_addI (x := cf9.toInt) (y := 1) rfl (by decide) (by have t1 : 1 ≤ cf9.toInt := q_leI e11; have t2 : cf9.toInt ≤ 62 := q_leI e12; omega) (by have t1 : 1 ≤ cf9.toInt := q_leI e11; have t2 : cf9.toInt ≤ 62 := q_leI e12; omega)) (by decide) (by have t1 : 1 ≤ cf9.toInt := q_leI e11; have t2 : cf9.toInt ≤ 62 := q_leI e12; omega) (by have t1 : 1 ≤ cf9.toInt := q_leI e11; have t2 : cf9.toInt ≤ 62 := q_leI e12; omega)) (by have t1 : 1 ≤ cf9.toInt := q_leI e11; have t2 : cf9.toInt ≤ 62 := q_leI e12; omega)), (q_Ile (x := ((cf9.toInt + 1) + 1)) (y := 70) (q_addI (x := (cf9.toInt + 1)) (y := 1) (q_addI (x := cf9.toInt) (y := 1) rfl (by decide) (by have t1 : 1 ≤ cf9.toInt := q_leI e11; have t2 : cf9.toInt ≤ 62 := q_leI e12; omega) (by have t1 : 1 ≤ cf9.toInt := q_leI e11; have t2 : cf9.toInt ≤ 62 := q_leI e12; omega)) (by decide) (by have t1 : 1 ≤ cf9.toInt := q_leI e11; have t2 : cf9.toInt ≤ 62 := q_leI e12; omega) (by have t1 : 1 ≤ cf9.toInt := q_leI e11; have t2 : cf9.toInt ≤ 62 := q_leI e12; omega)) (by decide) (by have t1 : 1 ≤ cf9.toInt := q_leI e11; have t2 : cf9.toInt ≤ 62 := q_leI e12; omega)), rfl, hF, hO6, hA16⟩) d_8_13_82
        ·
          refine lv_if_lt (tgt := 81) hx hb d_8_13_59 (by decide) (fun c351 => ?_) (fun c351 => absurd (by decide) c351)
          refine lv_iload_n hx hb d_8_13_81 rfl (lv_at hl 1 rfl) ?_
          exact q_reti C0 V (Or.inl ⟨(cf9 + 1), y37, y38, f35, f36, (q_Ile (x := 1) (y := (cf9.toInt + 1)) (by decide) (q_addI (x := cf9.toInt) (y := 1) rfl (by decide) (by have t1 : 1 ≤ cf9.toInt := q_leI e11; have t2 : cf9.toInt ≤ 62 := q_leI e12; omega) (by have t1 : 1 ≤ cf9.toInt := q_leI e11; have t2 : cf9.toInt ≤ 62 := q_leI e12; omega)) (by have t1 : 1 ≤ cf9.toInt := q_leI e11; have t2 : cf9.toInt ≤ 62 := q_leI e12; omega)), (q_Ile (x := (cf9.toInt + 1)) (y := 70) (q_addI (x := cf9.toInt) (y := 1) rfl (by decide) (by have t1 : 1 ≤ cf9.toInt := q_leI e11; have t2 : cf9.toInt ≤ 62 := q_leI e12; omega) (by have t1 : 1 ≤ cf9.toInt := q_leI e11; have t2 : cf9.toInt ≤ 62 := q_leI e12; omega)) (by decide) (by have t1 : 1 ≤ cf9.toInt := q_leI e11; have t2 : cf9.toInt ≤ 62 := q_leI e12; omega)), rfl, hF, hO6, hA16⟩) d_8_13_82
    ·
      refine lv_if_lt (tgt := 81) hx hb d_8_13_59 (by decide) (fun c352 => absurd c352 (by decide)) (fun c352 => ?_)
      refine lv_aload_n hx hb d_8_13_62 rfl (lv_at hl 2 rfl) ?_
      refine q_get (ci := 4) (j := 5) (v := .ref qO6) C0 V i_Mil rfl rfl hO0 (by decide) w_124 rfl d_8_13_63 ?_
      refine lv_bipush (v := 10) hx hb d_8_13_66 (by decide) ?_
      refine lv_iconst (v := 0) hx hb d_8_13_68 (by decide) ?_
      refine q_gov V (q_runV (As := [.int 10, .int 0]) (rest := []) (d := 1) (mc := 0) (ms := 0) (ci := 2) C0 V rfl LV_Mil_102 (c_Big_multiplySmall_4 l D g u17 kO6 kA16 qO6 qA16 y20 y21 hO6 hA16 f18 f19 _) rfl rfl hO6 rfl hl.1 rfl (Nat.le_of_ble_eq_true rfl) ⟨by decide, by decide⟩ ⟨Nat.le_of_ble_eq_true rfl, Nat.le_of_ble_eq_true rfl⟩ d_8_13_69) (fun u354 H locs hp353 V => ?_)
      rcases hp353 with ⟨y355, hg356, hO6, hA16⟩ | ⟨y359, y360, f357, f358, hg361, hO6, hA16⟩
      ·
        replace hF := q_uc hF hg356 (q_sc (.head _) (q_sc (.tail _ (.head _)) (fun _ h => absurd h List.not_mem_nil)))
        refine lv_iinc (v := cf9 + 1) (lv' := [(2, .int (cf9 + 1)), (3, .int 0), (0, .ref qO0), (1, .ref qO1)]) hx hb d_8_13_72 hl (k := 1) rfl (rfl) (by decide) rfl (fun ls hl => ?_)
        refine lv_iinc (v := 1) (lv' := [(3, .int 1), (2, .int (cf9 + 1)), (0, .ref qO0), (1, .ref qO1)]) hx hb d_8_13_75 hl (k := 1) rfl (by decide) (by decide) rfl (fun ls hl => ?_)
        refine lv_goto (tgt := 46) hx hb d_8_13_78 (by decide) ?_
        refine lv_iload_n hx hb d_8_13_46 rfl (lv_at hl 0 rfl) ?_
        refine lv_iconst (v := 3) hx hb d_8_13_47 (by decide) ?_
        refine lv_icmp_ge (tgt := 81) hx hb d_8_13_48 (by decide) (fun c362 => absurd c362 (by decide)) (fun c362 => ?_)
        refine lv_aload_n hx hb d_8_13_51 rfl (lv_at hl 3 rfl) ?_
        refine lv_aload_n hx hb d_8_13_52 rfl (lv_at hl 2 rfl) ?_
        replace hO0 := (hg356 _ (q_nc n_O0_O6 (q_nc n_O0_A16 List.not_mem_nil))).trans (hO0)
        refine q_get (ci := 4) (j := 5) (v := .ref qO6) C0 V i_Mil rfl rfl hO0 (by decide) w_124 rfl d_8_13_53 ?_
        replace hO1 := (hg356 _ (q_nc n_O1_O6 (q_nc n_O1_A16 List.not_mem_nil))).trans (hO1)
        replace hA11 := (hg356 _ (q_nc n_A11_O6 (q_nc n_A11_A16 List.not_mem_nil))).trans (hA11)
        refine q_goi V (q_runV (As := [.ref qO6]) (rest := []) (d := 2) (mc := 0) (ms := 0) (ci := 2) C0 V rfl LV_Mil_112 (c_Big_compareSize_3 l D g u354 kO1 kO6 kA11 kA16 qO1 qO6 qA11 qA16 y1 y2 y20 f3 y355 hO1 hO6 hA11 hA16 (q_Ile (x := 1) (y := y1.toInt) (by decide) rfl (by have t1 : 0 ≤ y1.toInt := q_leI y1lo; have t2 : y1.toInt ≤ 3 := q_leI y1hi; have t3 : y1.toInt ≠ 0 := q_neI c1; omega)) y1hi y2lo y2hi f18 f19 _) rfl rfl hO1 rfl hl.1 rfl (Nat.le_of_ble_eq_true rfl) ⟨by decide, by decide⟩ ⟨Nat.le_of_ble_eq_true rfl, Nat.le_of_ble_eq_true rfl⟩ d_8_13_56) (fun v365 u364 H locs hp363 V => ?_)
        rcases hp363 with ⟨rfl, rfl⟩ | ⟨rfl, rfl⟩ | ⟨rfl, rfl⟩
        ·
          refine lv_if_lt (tgt := 81) hx hb d_8_13_59 (by decide) (fun c369 => absurd c369 (by decide)) (fun c369 => ?_)
          refine lv_aload_n hx hb d_8_13_62 rfl (lv_at hl 2 rfl) ?_
          refine q_get (ci := 4) (j := 5) (v := .ref qO6) C0 V i_Mil rfl rfl hO0 (by decide) w_124 rfl d_8_13_63 ?_
          refine lv_bipush (v := 10) hx hb d_8_13_66 (by decide) ?_
          refine lv_iconst (v := 0) hx hb d_8_13_68 (by decide) ?_
          refine q_gov V (q_runV (As := [.int 10, .int 0]) (rest := []) (d := 1) (mc := 0) (ms := 0) (ci := 2) C0 V rfl LV_Mil_102 (c_Big_multiplySmall_4 l D g u354 kO6 kA16 qO6 qA16 y20 y355 hO6 hA16 f18 f19 _) rfl rfl hO6 rfl hl.1 rfl (Nat.le_of_ble_eq_true rfl) ⟨by decide, by decide⟩ ⟨Nat.le_of_ble_eq_true rfl, Nat.le_of_ble_eq_true rfl⟩ d_8_13_69) (fun u371 H locs hp370 V => ?_)
          rcases hp370 with ⟨y372, hg373, hO6, hA16⟩ | ⟨y376, y377, f374, f375, hg378, hO6, hA16⟩
          ·
            replace hF := q_uc hF hg373 (q_sc (.head _) (q_sc (.tail _ (.head _)) (fun _ h => absurd h List.not_mem_nil)))
            refine lv_iinc (v := (cf9 + 1) + 1) (lv' := [(2, .int ((cf9 + 1) + 1)), (3, .int 1), (0, .ref qO0), (1, .ref qO1)]) hx hb d_8_13_72 hl (k := 1) rfl (rfl) (by decide) rfl (fun ls hl => ?_)
            refine lv_iinc (v := 2) (lv' := [(3, .int 2), (2, .int ((cf9 + 1) + 1)), (0, .ref qO0), (1, .ref qO1)]) hx hb d_8_13_75 hl (k := 1) rfl (by decide) (by decide) rfl (fun ls hl => ?_)
            refine lv_goto (tgt := 46) hx hb d_8_13_78 (by decide) ?_
            refine lv_iload_n hx hb d_8_13_46 rfl (lv_at hl 0 rfl) ?_
            refine lv_iconst (v := 3) hx hb d_8_13_47 (by decide) ?_
            refine lv_icmp_ge (tgt := 81) hx hb d_8_13_48 (by decide) (fun c379 => absurd c379 (by decide)) (fun c379 => ?_)
            refine lv_aload_n hx hb d_8_13_51 rfl (lv_at hl 3 rfl) ?_
            refine lv_aload_n hx hb d_8_13_52 rfl (lv_at hl 2 rfl) ?_
            replace hO0 := (hg373 _ (q_nc n_O0_O6 (q_nc n_O0_A16 List.not_mem_nil))).trans (hO0)
            refine q_get (ci := 4) (j := 5) (v := .ref qO6) C0 V i_Mil rfl rfl hO0 (by decide) w_124 rfl d_8_13_53 ?_
            replace hO1 := (hg373 _ (q_nc n_O1_O6 (q_nc n_O1_A16 List.not_mem_nil))).trans (hO1)
            replace hA11 := (hg373 _ (q_nc n_A11_O6 (q_nc n_A11_A16 List.not_mem_nil))).trans (hA11)
            refine q_goi V (q_runV (As := [.ref qO6]) (rest := []) (d := 2) (mc := 0) (ms := 0) (ci := 2) C0 V rfl LV_Mil_112 (c_Big_compareSize_3 l D g u371 kO1 kO6 kA11 kA16 qO1 qO6 qA11 qA16 y1 y2 y20 f3 y372 hO1 hO6 hA11 hA16 (q_Ile (x := 1) (y := y1.toInt) (by decide) rfl (by have t1 : 0 ≤ y1.toInt := q_leI y1lo; have t2 : y1.toInt ≤ 3 := q_leI y1hi; have t3 : y1.toInt ≠ 0 := q_neI c1; omega)) y1hi y2lo y2hi f18 f19 _) rfl rfl hO1 rfl hl.1 rfl (Nat.le_of_ble_eq_true rfl) ⟨by decide, by decide⟩ ⟨Nat.le_of_ble_eq_true rfl, Nat.le_of_ble_eq_true rfl⟩ d_8_13_56) (fun v382 u381 H locs hp380 V => ?_)
            rcases hp380 with ⟨rfl, rfl⟩ | ⟨rfl, rfl⟩ | ⟨rfl, rfl⟩
            ·
              refine lv_if_lt (tgt := 81) hx hb d_8_13_59 (by decide) (fun c386 => absurd c386 (by decide)) (fun c386 => ?_)
              refine lv_aload_n hx hb d_8_13_62 rfl (lv_at hl 2 rfl) ?_
              refine q_get (ci := 4) (j := 5) (v := .ref qO6) C0 V i_Mil rfl rfl hO0 (by decide) w_124 rfl d_8_13_63 ?_
              refine lv_bipush (v := 10) hx hb d_8_13_66 (by decide) ?_
              refine lv_iconst (v := 0) hx hb d_8_13_68 (by decide) ?_
              refine q_gov V (q_runV (As := [.int 10, .int 0]) (rest := []) (d := 1) (mc := 0) (ms := 0) (ci := 2) C0 V rfl LV_Mil_102 (c_Big_multiplySmall_4 l D g u371 kO6 kA16 qO6 qA16 y20 y372 hO6 hA16 f18 f19 _) rfl rfl hO6 rfl hl.1 rfl (Nat.le_of_ble_eq_true rfl) ⟨by decide, by decide⟩ ⟨Nat.le_of_ble_eq_true rfl, Nat.le_of_ble_eq_true rfl⟩ d_8_13_69) (fun u388 H locs hp387 V => ?_)
              rcases hp387 with ⟨y389, hg390, hO6, hA16⟩ | ⟨y393, y394, f391, f392, hg395, hO6, hA16⟩
              ·
                replace hF := q_uc hF hg390 (q_sc (.head _) (q_sc (.tail _ (.head _)) (fun _ h => absurd h List.not_mem_nil)))
                refine lv_iinc (v := ((cf9 + 1) + 1) + 1) (lv' := [(2, .int (((cf9 + 1) + 1) + 1)), (3, .int 2), (0, .ref qO0), (1, .ref qO1)]) hx hb d_8_13_72 hl (k := 1) rfl (rfl) (by decide) rfl (fun ls hl => ?_)
                refine lv_iinc (v := 3) (lv' := [(3, .int 3), (2, .int (((cf9 + 1) + 1) + 1)), (0, .ref qO0), (1, .ref qO1)]) hx hb d_8_13_75 hl (k := 1) rfl (by decide) (by decide) rfl (fun ls hl => ?_)
                refine lv_goto (tgt := 46) hx hb d_8_13_78 (by decide) ?_
                refine lv_iload_n hx hb d_8_13_46 rfl (lv_at hl 0 rfl) ?_
                refine lv_iconst (v := 3) hx hb d_8_13_47 (by decide) ?_
                refine lv_icmp_ge (tgt := 81) hx hb d_8_13_48 (by decide) (fun c396 => ?_) (fun c396 => absurd (by decide) c396)
                refine lv_iload_n hx hb d_8_13_81 rfl (lv_at hl 1 rfl) ?_
                exact q_reti C0 V (Or.inl ⟨(((cf9 + 1) + 1) + 1), y20, y389, f18, f19, (q_Ile (x := 1) (y := (((cf9.toInt + 1) + 1) + 1)) (by decide) (q_addI (x := ((cf9.toInt + 1) + 1)) (y := 1) (q_addI (x := (cf9.toInt + 1)) (y := 1) (q_addI (x := cf9.toInt) (y := 1) rfl (by decide) (by have t1 : 1 ≤ cf9.toInt := q_leI e11; have t2 : cf9.toInt ≤ 62 := q_leI e12; omega) (by have t1 : 1 ≤ cf9.toInt := q_leI e11; have t2 : cf9.toInt ≤ 62 := q_leI e12; omega)) (by decide) (by have t1 : 1 ≤ cf9.toInt := q_leI e11; have t2 : cf9.toInt ≤ 62 := q_leI e12; omega) (by have t1 : 1 ≤ cf9.toInt := q_leI e11; have t2 : cf9.toInt ≤ 62 := q_leI e12; omega)) (by decide) (by have t1 : 1 ≤ cf9.toInt := q_leI e11; have t2 : cf9.toInt ≤ 62 := q_leI e12; omega) (by have t1 : 1 ≤ cf9.toInt := q_leI e11; have t2 : cf9.toInt ≤ 62 := q_leI e12; omega)) (by have t1 : 1 ≤ cf9.toInt := q_leI e11; have t2 : cf9.toInt ≤ 62 := q_leI e12; omega)), (q_Ile (x := (((cf9.toInt + 1) + 1) + 1)) (y := 70) (q_addI (x := ((cf9.toInt + 1) + 1)) (y := 1) (q_addI (x := (cf9.toInt + 1)) (y := 1) (q_addI (x := cf9.toInt) (y := 1) rfl (by decide) (by have t1 : 1 ≤ cf9.toInt := q_leI e11; have t2 : cf9.toInt ≤ 62 := q_leI e12; omega) (by have t1 : 1 ≤ cf9.toInt := q_leI e11; have t2 : cf9.toInt ≤ 62 := q_leI e12; omega)) (by decide) (by have t1 : 1 ≤ cf9.toInt := q_leI e11; have t2 : cf9.toInt ≤ 62 := q_leI e12; omega) (by have t1 : 1 ≤ cf9.toInt := q_leI e11; have t2 : cf9.toInt ≤ 62 := q_leI e12; omega)) (by decide) (by have t1 : 1 ≤ cf9.toInt := q_leI e11; have t2 : cf9.toInt ≤ 62 := q_leI e12; omega) (by have t1 : 1 ≤ cf9.toInt := q_leI e11; have t2 : cf9.toInt ≤ 62 := q_leI e12; omega)) (by decide) (by have t1 : 1 ≤ cf9.toInt := q_leI e11; have t2 : cf9.toInt ≤ 62 := q_leI e12; omega)), rfl, hF, hO6, hA16⟩) d_8_13_82
              ·
                replace hF := q_uc hF hg395 (q_sc (.head _) (q_sc (.tail _ (.head _)) (fun _ h => absurd h List.not_mem_nil)))
                refine lv_iinc (v := ((cf9 + 1) + 1) + 1) (lv' := [(2, .int (((cf9 + 1) + 1) + 1)), (3, .int 2), (0, .ref qO0), (1, .ref qO1)]) hx hb d_8_13_72 hl (k := 1) rfl (rfl) (by decide) rfl (fun ls hl => ?_)
                refine lv_iinc (v := 3) (lv' := [(3, .int 3), (2, .int (((cf9 + 1) + 1) + 1)), (0, .ref qO0), (1, .ref qO1)]) hx hb d_8_13_75 hl (k := 1) rfl (by decide) (by decide) rfl (fun ls hl => ?_)
                refine lv_goto (tgt := 46) hx hb d_8_13_78 (by decide) ?_
                refine lv_iload_n hx hb d_8_13_46 rfl (lv_at hl 0 rfl) ?_
                refine lv_iconst (v := 3) hx hb d_8_13_47 (by decide) ?_
                refine lv_icmp_ge (tgt := 81) hx hb d_8_13_48 (by decide) (fun c397 => ?_) (fun c397 => absurd (by decide) c397)
                refine lv_iload_n hx hb d_8_13_81 rfl (lv_at hl 1 rfl) ?_
                exact q_reti C0 V (Or.inl ⟨(((cf9 + 1) + 1) + 1), y393, y394, f391, f392, (q_Ile (x := 1) (y := (((cf9.toInt + 1) + 1) + 1)) (by decide) (q_addI (x := ((cf9.toInt + 1) + 1)) (y := 1) (q_addI (x := (cf9.toInt + 1)) (y := 1) (q_addI (x := cf9.toInt) (y := 1) rfl (by decide) (by have t1 : 1 ≤ cf9.toInt := q_leI e11; have t2 : cf9.toInt ≤ 62 := q_leI e12; omega) (by have t1 : 1 ≤ cf9.toInt := q_leI e11; have t2 : cf9.toInt ≤ 62 := q_leI e12; omega)) (by decide) (by have t1 : 1 ≤ cf9.toInt := q_leI e11; have t2 : cf9.toInt ≤ 62 := q_leI e12; omega) (by have t1 : 1 ≤ cf9.toInt := q_leI e11; have t2 : cf9.toInt ≤ 62 := q_leI e12; omega)) (by decide) (by have t1 : 1 ≤ cf9.toInt := q_leI e11; have t2 : cf9.toInt ≤ 62 := q_leI e12; omega) (by have t1 : 1 ≤ cf9.toInt := q_leI e11; have t2 : cf9.toInt ≤ 62 := q_leI e12; omega)) (by have t1 : 1 ≤ cf9.toInt := q_leI e11; have t2 : cf9.toInt ≤ 62 := q_leI e12; omega)), (q_Ile (x := (((cf9.toInt + 1) + 1) + 1)) (y := 70) (q_addI (x := ((cf9.toInt + 1) + 1)) (y := 1) (q_addI (x := (cf9.toInt + 1)) (y := 1) (q_addI (x := cf9.toInt) (y := 1) rfl (by decide) (by have t1 : 1 ≤ cf9.toInt := q_leI e11; have t2 : cf9.toInt ≤ 62 := q_leI e12; omega) (by have t1 : 1 ≤ cf9.toInt := q_leI e11; have t2 : cf9.toInt ≤ 62 := q_leI e12; omega)) (by decide) (by have t1 : 1 ≤ cf9.toInt := q_leI e11; have t2 : cf9.toInt ≤ 62 := q_leI e12; omega) (by have t1 : 1 ≤ cf9.toInt := q_leI e11; have t2 : cf9.toInt ≤ 62 := q_leI e12; omega)) (by decide) (by have t1 : 1 ≤ cf9.toInt := q_leI e11; have t2 : cf9.toInt ≤ 62 := q_leI e12; omega) (by have t1 : 1 ≤ cf9.toInt := q_leI e11; have t2 : cf9.toInt ≤ 62 := q_leI e12; omega)) (by decide) (by have t1 : 1 ≤ cf9.toInt := q_leI e11; have t2 : cf9.toInt ≤ 62 := q_leI e12; omega)), rfl, hF, hO6, hA16⟩) d_8_13_82
            ·
              refine lv_if_lt (tgt := 81) hx hb d_8_13_59 (by decide) (fun c398 => absurd c398 (by decide)) (fun c398 => ?_)
              refine lv_aload_n hx hb d_8_13_62 rfl (lv_at hl 2 rfl) ?_
              refine q_get (ci := 4) (j := 5) (v := .ref qO6) C0 V i_Mil rfl rfl hO0 (by decide) w_124 rfl d_8_13_63 ?_
              refine lv_bipush (v := 10) hx hb d_8_13_66 (by decide) ?_
              refine lv_iconst (v := 0) hx hb d_8_13_68 (by decide) ?_
              refine q_gov V (q_runV (As := [.int 10, .int 0]) (rest := []) (d := 1) (mc := 0) (ms := 0) (ci := 2) C0 V rfl LV_Mil_102 (c_Big_multiplySmall_4 l D g u371 kO6 kA16 qO6 qA16 y20 y372 hO6 hA16 f18 f19 _) rfl rfl hO6 rfl hl.1 rfl (Nat.le_of_ble_eq_true rfl) ⟨by decide, by decide⟩ ⟨Nat.le_of_ble_eq_true rfl, Nat.le_of_ble_eq_true rfl⟩ d_8_13_69) (fun u400 H locs hp399 V => ?_)
              rcases hp399 with ⟨y401, hg402, hO6, hA16⟩ | ⟨y405, y406, f403, f404, hg407, hO6, hA16⟩
              ·
                replace hF := q_uc hF hg402 (q_sc (.head _) (q_sc (.tail _ (.head _)) (fun _ h => absurd h List.not_mem_nil)))
                refine lv_iinc (v := ((cf9 + 1) + 1) + 1) (lv' := [(2, .int (((cf9 + 1) + 1) + 1)), (3, .int 2), (0, .ref qO0), (1, .ref qO1)]) hx hb d_8_13_72 hl (k := 1) rfl (rfl) (by decide) rfl (fun ls hl => ?_)
                refine lv_iinc (v := 3) (lv' := [(3, .int 3), (2, .int (((cf9 + 1) + 1) + 1)), (0, .ref qO0), (1, .ref qO1)]) hx hb d_8_13_75 hl (k := 1) rfl (by decide) (by decide) rfl (fun ls hl => ?_)
                refine lv_goto (tgt := 46) hx hb d_8_13_78 (by decide) ?_
                refine lv_iload_n hx hb d_8_13_46 rfl (lv_at hl 0 rfl) ?_
                refine lv_iconst (v := 3) hx hb d_8_13_47 (by decide) ?_
                refine lv_icmp_ge (tgt := 81) hx hb d_8_13_48 (by decide) (fun c408 => ?_) (fun c408 => absurd (by decide) c408)
                refine lv_iload_n hx hb d_8_13_81 rfl (lv_at hl 1 rfl) ?_
                exact q_reti C0 V (Or.inl ⟨(((cf9 + 1) + 1) + 1), y20, y401, f18, f19, (q_Ile (x := 1) (y := (((cf9.toInt + 1) + 1) + 1)) (by decide) (q_addI (x := ((cf9.toInt + 1) + 1)) (y := 1) (q_addI (x := (cf9.toInt + 1)) (y := 1) (q_addI (x := cf9.toInt) (y := 1) rfl (by decide) (by have t1 : 1 ≤ cf9.toInt := q_leI e11; have t2 : cf9.toInt ≤ 62 := q_leI e12; omega) (by have t1 : 1 ≤ cf9.toInt := q_leI e11; have t2 : cf9.toInt ≤ 62 := q_leI e12; omega)) (by decide) (by have t1 : 1 ≤ cf9.toInt := q_leI e11; have t2 : cf9.toInt ≤ 62 := q_leI e12; omega) (by have t1 : 1 ≤ cf9.toInt := q_leI e11; have t2 : cf9.toInt ≤ 62 := q_leI e12; omega)) (by decide) (by have t1 : 1 ≤ cf9.toInt := q_leI e11; have t2 : cf9.toInt ≤ 62 := q_leI e12; omega) (by have t1 : 1 ≤ cf9.toInt := q_leI e11; have t2 : cf9.toInt ≤ 62 := q_leI e12; omega)) (by have t1 : 1 ≤ cf9.toInt := q_leI e11; have t2 : cf9.toInt ≤ 62 := q_leI e12; omega)), (q_Ile (x := (((cf9.toInt + 1) + 1) + 1)) (y := 70) (q_addI (x := ((cf9.toInt + 1) + 1)) (y := 1) (q_addI (x := (cf9.toInt + 1)) (y := 1) (q_addI (x := cf9.toInt) (y := 1) rfl (by decide) (by have t1 : 1 ≤ cf9.toInt := q_leI e11; have t2 : cf9.toInt ≤ 62 := q_leI e12; omega) (by have t1 : 1 ≤ cf9.toInt := q_leI e11; have t2 : cf9.toInt ≤ 62 := q_leI e12; omega)) (by decide) (by have t1 : 1 ≤ cf9.toInt := q_leI e11; have t2 : cf9.toInt ≤ 62 := q_leI e12; omega) (by have t1 : 1 ≤ cf9.toInt := q_leI e11; have t2 : cf9.toInt ≤ 62 := q_leI e12; omega)) (by decide) (by have t1 : 1 ≤ cf9.toInt := q_leI e11; have t2 : cf9.toInt ≤ 62 := q_leI e12; omega) (by have t1 : 1 ≤ cf9.toInt := q_leI e11; have t2 : cf9.toInt ≤ 62 := q_leI e12; omega)) (by decide) (by have t1 : 1 ≤ cf9.toInt := q_leI e11; have t2 : cf9.toInt ≤ 62 := q_leI e12; omega)), rfl, hF, hO6, hA16⟩) d_8_13_82
              ·
                replace hF := q_uc hF hg407 (q_sc (.head _) (q_sc (.tail _ (.head _)) (fun _ h => absurd h List.not_mem_nil)))
                refine lv_iinc (v := ((cf9 + 1) + 1) + 1) (lv' := [(2, .int (((cf9 + 1) + 1) + 1)), (3, .int 2), (0, .ref qO0), (1, .ref qO1)]) hx hb d_8_13_72 hl (k := 1) rfl (rfl) (by decide) rfl (fun ls hl => ?_)
                refine lv_iinc (v := 3) (lv' := [(3, .int 3), (2, .int (((cf9 + 1) + 1) + 1)), (0, .ref qO0), (1, .ref qO1)]) hx hb d_8_13_75 hl (k := 1) rfl (by decide) (by decide) rfl (fun ls hl => ?_)
                refine lv_goto (tgt := 46) hx hb d_8_13_78 (by decide) ?_
                refine lv_iload_n hx hb d_8_13_46 rfl (lv_at hl 0 rfl) ?_
                refine lv_iconst (v := 3) hx hb d_8_13_47 (by decide) ?_
                refine lv_icmp_ge (tgt := 81) hx hb d_8_13_48 (by decide) (fun c409 => ?_) (fun c409 => absurd (by decide) c409)
                refine lv_iload_n hx hb d_8_13_81 rfl (lv_at hl 1 rfl) ?_
                exact q_reti C0 V (Or.inl ⟨(((cf9 + 1) + 1) + 1), y405, y406, f403, f404, (q_Ile (x := 1) (y := (((cf9.toInt + 1) + 1) + 1)) (by decide) (q_addI (x := ((cf9.toInt + 1) + 1)) (y := 1) (q_addI (x := (cf9.toInt + 1)) (y := 1) (q_addI (x := cf9.toInt) (y := 1) rfl (by decide) (by have t1 : 1 ≤ cf9.toInt := q_leI e11; have t2 : cf9.toInt ≤ 62 := q_leI e12; omega) (by have t1 : 1 ≤ cf9.toInt := q_leI e11; have t2 : cf9.toInt ≤ 62 := q_leI e12; omega)) (by decide) (by have t1 : 1 ≤ cf9.toInt := q_leI e11; have t2 : cf9.toInt ≤ 62 := q_leI e12; omega) (by have t1 : 1 ≤ cf9.toInt := q_leI e11; have t2 : cf9.toInt ≤ 62 := q_leI e12; omega)) (by decide) (by have t1 : 1 ≤ cf9.toInt := q_leI e11; have t2 : cf9.toInt ≤ 62 := q_leI e12; omega) (by have t1 : 1 ≤ cf9.toInt := q_leI e11; have t2 : cf9.toInt ≤ 62 := q_leI e12; omega)) (by have t1 : 1 ≤ cf9.toInt := q_leI e11; have t2 : cf9.toInt ≤ 62 := q_leI e12; omega)), (q_Ile (x := (((cf9.toInt + 1) + 1) + 1)) (y := 70) (q_addI (x := ((cf9.toInt + 1) + 1)) (y := 1) (q_addI (x := (cf9.toInt + 1)) (y := 1) (q_addI (x := cf9.toInt) (y := 1) rfl (by decide) (by have t1 : 1 ≤ cf9.toInt := q_leI e11; have t2 : cf9.toInt ≤ 62 := q_leI e12; omega) (by have t1 : 1 ≤ cf9.toInt := q_leI e11; have t2 : cf9.toInt ≤ 62 := q_leI e12; omega)) (by decide) (by have t1 : 1 ≤ cf9.toInt := q_leI e11; have t2 : cf9.toInt ≤ 62 := q_leI e12; omega) (by have t1 : 1 ≤ cf9.toInt := q_leI e11; have t2 : cf9.toInt ≤ 62 := q_leI e12; omega)) (by decide) (by have t1 : 1 ≤ cf9.toInt := q_leI e11; have t2 : cf9.toInt ≤ 62 := q_leI e12; omega) (by have t1 : 1 ≤ cf9.toInt := q_leI e11; have t2 : cf9.toInt ≤ 62 := q_leI e12; omega)) (by decide) (by have t1 : 1 ≤ cf9.toInt := q_leI e11; have t2 : cf9.toInt ≤ 62 := q_leI e12; omega)), rfl, hF, hO6, hA16⟩) d_8_13_82
            ·
              refine lv_if_lt (tgt := 81) hx hb d_8_13_59 (by decide) (fun c410 => ?_) (fun c410 => absurd (by decide) c410)
              refine lv_iload_n hx hb d_8_13_81 rfl (lv_at hl 1 rfl) ?_
              exact q_reti C0 V (Or.inl ⟨((cf9 + 1) + 1), y20, y372, f18, f19, (q_Ile (x := 1) (y := ((cf9.toInt + 1) + 1)) (by decide) (q_addI (x := (cf9.toInt + 1)) (y := 1) (q_addI (x := cf9.toInt) (y := 1) rfl (by decide) (by have t1 : 1 ≤ cf9.toInt := q_leI e11; have t2 : cf9.toInt ≤ 62 := q_leI e12; omega) (by have t1 : 1 ≤ cf9.toInt := q_leI e11; have t2 : cf9.toInt ≤ 62 := q_leI e12; omega)) (by decide) (by have t1 : 1 ≤ cf9.toInt := q_leI e11; have t2 : cf9.toInt ≤ 62 := q_leI e12; omega) (by have t1 : 1 ≤ cf9.toInt := q_leI e11; have t2 : cf9.toInt ≤ 62 := q_leI e12; omega)) (by have t1 : 1 ≤ cf9.toInt := q_leI e11; have t2 : cf9.toInt ≤ 62 := q_leI e12; omega)), (q_Ile (x := ((cf9.toInt + 1) + 1)) (y := 70) (q_addI (x := (cf9.toInt + 1)) (y := 1) (q_addI (x := cf9.toInt) (y := 1) rfl (by decide) (by have t1 : 1 ≤ cf9.toInt := q_leI e11; have t2 : cf9.toInt ≤ 62 := q_leI e12; omega) (by have t1 : 1 ≤ cf9.toInt := q_leI e11; have t2 : cf9.toInt ≤ 62 := q_leI e12; omega)) (by decide) (by have t1 : 1 ≤ cf9.toInt := q_leI e11; have t2 : cf9.toInt ≤ 62 := q_leI e12; omega) (by have t1 : 1 ≤ cf9.toInt := q_leI e11; have t2 : cf9.toInt ≤ 62 := q_leI e12; omega)) (by decide) (by have t1 : 1 ≤ cf9.toInt := q_leI e11; have t2 : cf9.toInt ≤ 62 := q_leI e12; omega)), rfl, hF, hO6, hA16⟩) d_8_13_82
          ·
            replace hF := q_uc hF hg378 (q_sc (.head _) (q_sc (.tail _ (.head _)) (fun _ h => absurd h List.not_mem_nil)))
            refine lv_iinc (v := (cf9 + 1) + 1) (lv' := [(2, .int ((cf9 + 1) + 1)), (3, .int 1), (0, .ref qO0), (1, .ref qO1)]) hx hb d_8_13_72 hl (k := 1) rfl (rfl) (by decide) rfl (fun ls hl => ?_)
            refine lv_iinc (v := 2) (lv' := [(3, .int 2), (2, .int ((cf9 + 1) + 1)), (0, .ref qO0), (1, .ref qO1)]) hx hb d_8_13_75 hl (k := 1) rfl (by decide) (by decide) rfl (fun ls hl => ?_)
            refine lv_goto (tgt := 46) hx hb d_8_13_78 (by decide) ?_
            refine lv_iload_n hx hb d_8_13_46 rfl (lv_at hl 0 rfl) ?_
            refine lv_iconst (v := 3) hx hb d_8_13_47 (by decide) ?_
            refine lv_icmp_ge (tgt := 81) hx hb d_8_13_48 (by decide) (fun c411 => absurd c411 (by decide)) (fun c411 => ?_)
            refine lv_aload_n hx hb d_8_13_51 rfl (lv_at hl 3 rfl) ?_
            refine lv_aload_n hx hb d_8_13_52 rfl (lv_at hl 2 rfl) ?_
            replace hO0 := (hg378 _ (q_nc n_O0_O6 (q_nc n_O0_A16 List.not_mem_nil))).trans (hO0)
            refine q_get (ci := 4) (j := 5) (v := .ref qO6) C0 V i_Mil rfl rfl hO0 (by decide) w_124 rfl d_8_13_53 ?_
            replace hO1 := (hg378 _ (q_nc n_O1_O6 (q_nc n_O1_A16 List.not_mem_nil))).trans (hO1)
            replace hA11 := (hg378 _ (q_nc n_A11_O6 (q_nc n_A11_A16 List.not_mem_nil))).trans (hA11)
            refine q_goi V (q_runV (As := [.ref qO6]) (rest := []) (d := 2) (mc := 0) (ms := 0) (ci := 2) C0 V rfl LV_Mil_112 (c_Big_compareSize_3 l D g u371 kO1 kO6 kA11 kA16 qO1 qO6 qA11 qA16 y1 y2 y376 f3 y377 hO1 hO6 hA11 hA16 (q_Ile (x := 1) (y := y1.toInt) (by decide) rfl (by have t1 : 0 ≤ y1.toInt := q_leI y1lo; have t2 : y1.toInt ≤ 3 := q_leI y1hi; have t3 : y1.toInt ≠ 0 := q_neI c1; omega)) y1hi y2lo y2hi f374 f375 _) rfl rfl hO1 rfl hl.1 rfl (Nat.le_of_ble_eq_true rfl) ⟨by decide, by decide⟩ ⟨Nat.le_of_ble_eq_true rfl, Nat.le_of_ble_eq_true rfl⟩ d_8_13_56) (fun v414 u413 H locs hp412 V => ?_)
            rcases hp412 with ⟨rfl, rfl⟩ | ⟨rfl, rfl⟩ | ⟨rfl, rfl⟩
            ·
              refine lv_if_lt (tgt := 81) hx hb d_8_13_59 (by decide) (fun c418 => absurd c418 (by decide)) (fun c418 => ?_)
              refine lv_aload_n hx hb d_8_13_62 rfl (lv_at hl 2 rfl) ?_
              refine q_get (ci := 4) (j := 5) (v := .ref qO6) C0 V i_Mil rfl rfl hO0 (by decide) w_124 rfl d_8_13_63 ?_
              refine lv_bipush (v := 10) hx hb d_8_13_66 (by decide) ?_
              refine lv_iconst (v := 0) hx hb d_8_13_68 (by decide) ?_
              refine q_gov V (q_runV (As := [.int 10, .int 0]) (rest := []) (d := 1) (mc := 0) (ms := 0) (ci := 2) C0 V rfl LV_Mil_102 (c_Big_multiplySmall_4 l D g u371 kO6 kA16 qO6 qA16 y376 y377 hO6 hA16 f374 f375 _) rfl rfl hO6 rfl hl.1 rfl (Nat.le_of_ble_eq_true rfl) ⟨by decide, by decide⟩ ⟨Nat.le_of_ble_eq_true rfl, Nat.le_of_ble_eq_true rfl⟩ d_8_13_69) (fun u420 H locs hp419 V => ?_)
              rcases hp419 with ⟨y421, hg422, hO6, hA16⟩ | ⟨y425, y426, f423, f424, hg427, hO6, hA16⟩
              ·
                replace hF := q_uc hF hg422 (q_sc (.head _) (q_sc (.tail _ (.head _)) (fun _ h => absurd h List.not_mem_nil)))
                refine lv_iinc (v := ((cf9 + 1) + 1) + 1) (lv' := [(2, .int (((cf9 + 1) + 1) + 1)), (3, .int 2), (0, .ref qO0), (1, .ref qO1)]) hx hb d_8_13_72 hl (k := 1) rfl (rfl) (by decide) rfl (fun ls hl => ?_)
                refine lv_iinc (v := 3) (lv' := [(3, .int 3), (2, .int (((cf9 + 1) + 1) + 1)), (0, .ref qO0), (1, .ref qO1)]) hx hb d_8_13_75 hl (k := 1) rfl (by decide) (by decide) rfl (fun ls hl => ?_)
                refine lv_goto (tgt := 46) hx hb d_8_13_78 (by decide) ?_
                refine lv_iload_n hx hb d_8_13_46 rfl (lv_at hl 0 rfl) ?_
                refine lv_iconst (v := 3) hx hb d_8_13_47 (by decide) ?_
                refine lv_icmp_ge (tgt := 81) hx hb d_8_13_48 (by decide) (fun c428 => ?_) (fun c428 => absurd (by decide) c428)
                refine lv_iload_n hx hb d_8_13_81 rfl (lv_at hl 1 rfl) ?_
                exact q_reti C0 V (Or.inl ⟨(((cf9 + 1) + 1) + 1), y376, y421, f374, f375, (q_Ile (x := 1) (y := (((cf9.toInt + 1) + 1) + 1)) (by decide) (q_addI (x := ((cf9.toInt + 1) + 1)) (y := 1) (q_addI (x := (cf9.toInt + 1)) (y := 1) (q_addI (x := cf9.toInt) (y := 1) rfl (by decide) (by have t1 : 1 ≤ cf9.toInt := q_leI e11; have t2 : cf9.toInt ≤ 62 := q_leI e12; omega) (by have t1 : 1 ≤ cf9.toInt := q_leI e11; have t2 : cf9.toInt ≤ 62 := q_leI e12; omega)) (by decide) (by have t1 : 1 ≤ cf9.toInt := q_leI e11; have t2 : cf9.toInt ≤ 62 := q_leI e12; omega) (by have t1 : 1 ≤ cf9.toInt := q_leI e11; have t2 : cf9.toInt ≤ 62 := q_leI e12; omega)) (by decide) (by have t1 : 1 ≤ cf9.toInt := q_leI e11; have t2 : cf9.toInt ≤ 62 := q_leI e12; omega) (by have t1 : 1 ≤ cf9.toInt := q_leI e11; have t2 : cf9.toInt ≤ 62 := q_leI e12; omega)) (by have t1 : 1 ≤ cf9.toInt := q_leI e11; have t2 : cf9.toInt ≤ 62 := q_leI e12; omega)), (q_Ile (x := (((cf9.toInt + 1) + 1) + 1)) (y := 70) (q_addI (x := ((cf9.toInt + 1) + 1)) (y := 1) (q_addI (x := (cf9.toInt + 1)) (y := 1) (q_addI (x := cf9.toInt) (y := 1) rfl (by decide) (by have t1 : 1 ≤ cf9.toInt := q_leI e11; have t2 : cf9.toInt ≤ 62 := q_leI e12; omega) (by have t1 : 1 ≤ cf9.toInt := q_leI e11; have t2 : cf9.toInt ≤ 62 := q_leI e12; omega)) (by decide) (by have t1 : 1 ≤ cf9.toInt := q_leI e11; have t2 : cf9.toInt ≤ 62 := q_leI e12; omega) (by have t1 : 1 ≤ cf9.toInt := q_leI e11; have t2 : cf9.toInt ≤ 62 := q_leI e12; omega)) (by decide) (by have t1 : 1 ≤ cf9.toInt := q_leI e11; have t2 : cf9.toInt ≤ 62 := q_leI e12; omega) (by have t1 : 1 ≤ cf9.toInt := q_leI e11; have t2 : cf9.toInt ≤ 62 := q_leI e12; omega)) (by decide) (by have t1 : 1 ≤ cf9.toInt := q_leI e11; have t2 : cf9.toInt ≤ 62 := q_leI e12; omega)), rfl, hF, hO6, hA16⟩) d_8_13_82
              ·
                replace hF := q_uc hF hg427 (q_sc (.head _) (q_sc (.tail _ (.head _)) (fun _ h => absurd h List.not_mem_nil)))
                refine lv_iinc (v := ((cf9 + 1) + 1) + 1) (lv' := [(2, .int (((cf9 + 1) + 1) + 1)), (3, .int 2), (0, .ref qO0), (1, .ref qO1)]) hx hb d_8_13_72 hl (k := 1) rfl (rfl) (by decide) rfl (fun ls hl => ?_)
                refine lv_iinc (v := 3) (lv' := [(3, .int 3), (2, .int (((cf9 + 1) + 1) + 1)), (0, .ref qO0), (1, .ref qO1)]) hx hb d_8_13_75 hl (k := 1) rfl (by decide) (by decide) rfl (fun ls hl => ?_)
                refine lv_goto (tgt := 46) hx hb d_8_13_78 (by decide) ?_
                refine lv_iload_n hx hb d_8_13_46 rfl (lv_at hl 0 rfl) ?_
                refine lv_iconst (v := 3) hx hb d_8_13_47 (by decide) ?_
                refine lv_icmp_ge (tgt := 81) hx hb d_8_13_48 (by decide) (fun c429 => ?_) (fun c429 => absurd (by decide) c429)
                refine lv_iload_n hx hb d_8_13_81 rfl (lv_at hl 1 rfl) ?_
                exact q_reti C0 V (Or.inl ⟨(((cf9 + 1) + 1) + 1), y425, y426, f423, f424, (q_Ile (x := 1) (y := (((cf9.toInt + 1) + 1) + 1)) (by decide) (q_addI (x := ((cf9.toInt + 1) + 1)) (y := 1) (q_addI (x := (cf9.toInt + 1)) (y := 1) (q_addI (x := cf9.toInt) (y := 1) rfl (by decide) (by have t1 : 1 ≤ cf9.toInt := q_leI e11; have t2 : cf9.toInt ≤ 62 := q_leI e12; omega) (by have t1 : 1 ≤ cf9.toInt := q_leI e11; have t2 : cf9.toInt ≤ 62 := q_leI e12; omega)) (by decide) (by have t1 : 1 ≤ cf9.toInt := q_leI e11; have t2 : cf9.toInt ≤ 62 := q_leI e12; omega) (by have t1 : 1 ≤ cf9.toInt := q_leI e11; have t2 : cf9.toInt ≤ 62 := q_leI e12; omega)) (by decide) (by have t1 : 1 ≤ cf9.toInt := q_leI e11; have t2 : cf9.toInt ≤ 62 := q_leI e12; omega) (by have t1 : 1 ≤ cf9.toInt := q_leI e11; have t2 : cf9.toInt ≤ 62 := q_leI e12; omega)) (by have t1 : 1 ≤ cf9.toInt := q_leI e11; have t2 : cf9.toInt ≤ 62 := q_leI e12; omega)), (q_Ile (x := (((cf9.toInt + 1) + 1) + 1)) (y := 70) (q_addI (x := ((cf9.toInt + 1) + 1)) (y := 1) (q_addI (x := (cf9.toInt + 1)) (y := 1) (q_addI (x := cf9.toInt) (y := 1) rfl (by decide) (by have t1 : 1 ≤ cf9.toInt := q_leI e11; have t2 : cf9.toInt ≤ 62 := q_leI e12; omega) (by have t1 : 1 ≤ cf9.toInt := q_leI e11; have t2 : cf9.toInt ≤ 62 := q_leI e12; omega)) (by decide) (by have t1 : 1 ≤ cf9.toInt := q_leI e11; have t2 : cf9.toInt ≤ 62 := q_leI e12; omega) (by have t1 : 1 ≤ cf9.toInt := q_leI e11; have t2 : cf9.toInt ≤ 62 := q_leI e12; omega)) (by decide) (by have t1 : 1 ≤ cf9.toInt := q_leI e11; have t2 : cf9.toInt ≤ 62 := q_leI e12; omega) (by have t1 : 1 ≤ cf9.toInt := q_leI e11; have t2 : cf9.toInt ≤ 62 := q_leI e12; omega)) (by decide) (by have t1 : 1 ≤ cf9.toInt := q_leI e11; have t2 : cf9.toInt ≤ 62 := q_leI e12; omega)), rfl, hF, hO6, hA16⟩) d_8_13_82
            ·
              refine lv_if_lt (tgt := 81) hx hb d_8_13_59 (by decide) (fun c430 => absurd c430 (by decide)) (fun c430 => ?_)
              refine lv_aload_n hx hb d_8_13_62 rfl (lv_at hl 2 rfl) ?_
              refine q_get (ci := 4) (j := 5) (v := .ref qO6) C0 V i_Mil rfl rfl hO0 (by decide) w_124 rfl d_8_13_63 ?_
              refine lv_bipush (v := 10) hx hb d_8_13_66 (by decide) ?_
              refine lv_iconst (v := 0) hx hb d_8_13_68 (by decide) ?_
              refine q_gov V (q_runV (As := [.int 10, .int 0]) (rest := []) (d := 1) (mc := 0) (ms := 0) (ci := 2) C0 V rfl LV_Mil_102 (c_Big_multiplySmall_4 l D g u371 kO6 kA16 qO6 qA16 y376 y377 hO6 hA16 f374 f375 _) rfl rfl hO6 rfl hl.1 rfl (Nat.le_of_ble_eq_true rfl) ⟨by decide, by decide⟩ ⟨Nat.le_of_ble_eq_true rfl, Nat.le_of_ble_eq_true rfl⟩ d_8_13_69) (fun u432 H locs hp431 V => ?_)
              rcases hp431 with ⟨y433, hg434, hO6, hA16⟩ | ⟨y437, y438, f435, f436, hg439, hO6, hA16⟩
              ·
                replace hF := q_uc hF hg434 (q_sc (.head _) (q_sc (.tail _ (.head _)) (fun _ h => absurd h List.not_mem_nil)))
                refine lv_iinc (v := ((cf9 + 1) + 1) + 1) (lv' := [(2, .int (((cf9 + 1) + 1) + 1)), (3, .int 2), (0, .ref qO0), (1, .ref qO1)]) hx hb d_8_13_72 hl (k := 1) rfl (rfl) (by decide) rfl (fun ls hl => ?_)
                refine lv_iinc (v := 3) (lv' := [(3, .int 3), (2, .int (((cf9 + 1) + 1) + 1)), (0, .ref qO0), (1, .ref qO1)]) hx hb d_8_13_75 hl (k := 1) rfl (by decide) (by decide) rfl (fun ls hl => ?_)
                refine lv_goto (tgt := 46) hx hb d_8_13_78 (by decide) ?_
                refine lv_iload_n hx hb d_8_13_46 rfl (lv_at hl 0 rfl) ?_
                refine lv_iconst (v := 3) hx hb d_8_13_47 (by decide) ?_
                refine lv_icmp_ge (tgt := 81) hx hb d_8_13_48 (by decide) (fun c440 => ?_) (fun c440 => absurd (by decide) c440)
                refine lv_iload_n hx hb d_8_13_81 rfl (lv_at hl 1 rfl) ?_
                exact q_reti C0 V (Or.inl ⟨(((cf9 + 1) + 1) + 1), y376, y433, f374, f375, (q_Ile (x := 1) (y := (((cf9.toInt + 1) + 1) + 1)) (by decide) (q_addI (x := ((cf9.toInt + 1) + 1)) (y := 1) (q_addI (x := (cf9.toInt + 1)) (y := 1) (q_addI (x := cf9.toInt) (y := 1) rfl (by decide) (by have t1 : 1 ≤ cf9.toInt := q_leI e11; have t2 : cf9.toInt ≤ 62 := q_leI e12; omega) (by have t1 : 1 ≤ cf9.toInt := q_leI e11; have t2 : cf9.toInt ≤ 62 := q_leI e12; omega)) (by decide) (by have t1 : 1 ≤ cf9.toInt := q_leI e11; have t2 : cf9.toInt ≤ 62 := q_leI e12; omega) (by have t1 : 1 ≤ cf9.toInt := q_leI e11; have t2 : cf9.toInt ≤ 62 := q_leI e12; omega)) (by decide) (by have t1 : 1 ≤ cf9.toInt := q_leI e11; have t2 : cf9.toInt ≤ 62 := q_leI e12; omega) (by have t1 : 1 ≤ cf9.toInt := q_leI e11; have t2 : cf9.toInt ≤ 62 := q_leI e12; omega)) (by have t1 : 1 ≤ cf9.toInt := q_leI e11; have t2 : cf9.toInt ≤ 62 := q_leI e12; omega)), (q_Ile (x := (((cf9.toInt + 1) + 1) + 1)) (y := 70) (q_addI (x := ((cf9.toInt + 1) + 1)) (y := 1) (q_addI (x := (cf9.toInt + 1)) (y := 1) (q_addI (x := cf9.toInt) (y := 1) rfl (by decide) (by have t1 : 1 ≤ cf9.toInt := q_leI e11; have t2 : cf9.toInt ≤ 62 := q_leI e12; omega) (by have t1 : 1 ≤ cf9.toInt := q_leI e11; have t2 : cf9.toInt ≤ 62 := q_leI e12; omega)) (by decide) (by have t1 : 1 ≤ cf9.toInt := q_leI e11; have t2 : cf9.toInt ≤ 62 := q_leI e12; omega) (by have t1 : 1 ≤ cf9.toInt := q_leI e11; have t2 : cf9.toInt ≤ 62 := q_leI e12; omega)) (by decide) (by have t1 : 1 ≤ cf9.toInt := q_leI e11; have t2 : cf9.toInt ≤ 62 := q_leI e12; omega) (by have t1 : 1 ≤ cf9.toInt := q_leI e11; have t2 : cf9.toInt ≤ 62 := q_leI e12; omega)) (by decide) (by have t1 : 1 ≤ cf9.toInt := q_leI e11; have t2 : cf9.toInt ≤ 62 := q_leI e12; omega)), rfl, hF, hO6, hA16⟩) d_8_13_82
              ·
                replace hF := q_uc hF hg439 (q_sc (.head _) (q_sc (.tail _ (.head _)) (fun _ h => absurd h List.not_mem_nil)))
                refine lv_iinc (v := ((cf9 + 1) + 1) + 1) (lv' := [(2, .int (((cf9 + 1) + 1) + 1)), (3, .int 2), (0, .ref qO0), (1, .ref qO1)]) hx hb d_8_13_72 hl (k := 1) rfl (rfl) (by decide) rfl (fun ls hl => ?_)
                refine lv_iinc (v := 3) (lv' := [(3, .int 3), (2, .int (((cf9 + 1) + 1) + 1)), (0, .ref qO0), (1, .ref qO1)]) hx hb d_8_13_75 hl (k := 1) rfl (by decide) (by decide) rfl (fun ls hl => ?_)
                refine lv_goto (tgt := 46) hx hb d_8_13_78 (by decide) ?_
                refine lv_iload_n hx hb d_8_13_46 rfl (lv_at hl 0 rfl) ?_
                refine lv_iconst (v := 3) hx hb d_8_13_47 (by decide) ?_
                refine lv_icmp_ge (tgt := 81) hx hb d_8_13_48 (by decide) (fun c441 => ?_) (fun c441 => absurd (by decide) c441)
                refine lv_iload_n hx hb d_8_13_81 rfl (lv_at hl 1 rfl) ?_
                exact q_reti C0 V (Or.inl ⟨(((cf9 + 1) + 1) + 1), y437, y438, f435, f436, (q_Ile (x := 1) (y := (((cf9.toInt + 1) + 1) + 1)) (by decide) (q_addI (x := ((cf9.toInt + 1) + 1)) (y := 1) (q_addI (x := (cf9.toInt + 1)) (y := 1) (q_addI (x := cf9.toInt) (y := 1) rfl (by decide) (by have t1 : 1 ≤ cf9.toInt := q_leI e11; have t2 : cf9.toInt ≤ 62 := q_leI e12; omega) (by have t1 : 1 ≤ cf9.toInt := q_leI e11; have t2 : cf9.toInt ≤ 62 := q_leI e12; omega)) (by decide) (by have t1 : 1 ≤ cf9.toInt := q_leI e11; have t2 : cf9.toInt ≤ 62 := q_leI e12; omega) (by have t1 : 1 ≤ cf9.toInt := q_leI e11; have t2 : cf9.toInt ≤ 62 := q_leI e12; omega)) (by decide) (by have t1 : 1 ≤ cf9.toInt := q_leI e11; have t2 : cf9.toInt ≤ 62 := q_leI e12; omega) (by have t1 : 1 ≤ cf9.toInt := q_leI e11; have t2 : cf9.toInt ≤ 62 := q_leI e12; omega)) (by have t1 : 1 ≤ cf9.toInt := q_leI e11; have t2 : cf9.toInt ≤ 62 := q_leI e12; omega)), (q_Ile (x := (((cf9.toInt + 1) + 1) + 1)) (y := 70) (q_addI (x := ((cf9.toInt + 1) + 1)) (y := 1) (q_addI (x := (cf9.toInt + 1)) (y := 1) (q_addI (x := cf9.toInt) (y := 1) rfl (by decide) (by have t1 : 1 ≤ cf9.toInt := q_leI e11; have t2 : cf9.toInt ≤ 62 := q_leI e12; omega) (by have t1 : 1 ≤ cf9.toInt := q_leI e11; have t2 : cf9.toInt ≤ 62 := q_leI e12; omega)) (by decide) (by have t1 : 1 ≤ cf9.toInt := q_leI e11; have t2 : cf9.toInt ≤ 62 := q_leI e12; omega) (by have t1 : 1 ≤ cf9.toInt := q_leI e11; have t2 : cf9.toInt ≤ 62 := q_leI e12; omega)) (by decide) (by have t1 : 1 ≤ cf9.toInt := q_leI e11; have t2 : cf9.toInt ≤ 62 := q_leI e12; omega) (by have t1 : 1 ≤ cf9.toInt := q_leI e11; have t2 : cf9.toInt ≤ 62 := q_leI e12; omega)) (by decide) (by have t1 : 1 ≤ cf9.toInt := q_leI e11; have t2 : cf9.toInt ≤ 62 := q_leI e12; omega)), rfl, hF, hO6, hA16⟩) d_8_13_82
            ·
              refine lv_if_lt (tgt := 81) hx hb d_8_13_59 (by decide) (fun c442 => ?_) (fun c442 => absurd (by decide) c442)
              refine lv_iload_n hx hb d_8_13_81 rfl (lv_at hl 1 rfl) ?_
              exact q_reti C0 V (Or.inl ⟨((cf9 + 1) + 1), y376, y377, f374, f375, (q_Ile (x := 1) (y := ((cf9.toInt + 1) + 1)) (by decide) (q_addI (x := (cf9.toInt + 1)) (y := 1) (q_addI (x := cf9.toInt) (y := 1) rfl (by decide) (by have t1 : 1 ≤ cf9.toInt := q_leI e11; have t2 : cf9.toInt ≤ 62 := q_leI e12; omega) (by have t1 : 1 ≤ cf9.toInt := q_leI e11; have t2 : cf9.toInt ≤ 62 := q_leI e12; omega)) (by decide) (by have t1 : 1 ≤ cf9.toInt := q_leI e11; have t2 : cf9.toInt ≤ 62 := q_leI e12; omega) (by have t1 : 1 ≤ cf9.toInt := q_leI e11; have t2 : cf9.toInt ≤ 62 := q_leI e12; omega)) (by have t1 : 1 ≤ cf9.toInt := q_leI e11; have t2 : cf9.toInt ≤ 62 := q_leI e12; omega)), (q_Ile (x := ((cf9.toInt + 1) + 1)) (y := 70) (q_addI (x := (cf9.toInt + 1)) (y := 1) (q_addI (x := cf9.toInt) (y := 1) rfl (by decide) (by have t1 : 1 ≤ cf9.toInt := q_leI e11; have t2 : cf9.toInt ≤ 62 := q_leI e12; omega) (by have t1 : 1 ≤ cf9.toInt := q_leI e11; have t2 : cf9.toInt ≤ 62 := q_leI e12; omega)) (by decide) (by have t1 : 1 ≤ cf9.toInt := q_leI e11; have t2 : cf9.toInt ≤ 62 := q_leI e12; omega) (by have t1 : 1 ≤ cf9.toInt := q_leI e11; have t2 : cf9.toInt ≤ 62 := q_leI e12; omega)) (by decide) (by have t1 : 1 ≤ cf9.toInt := q_leI e11; have t2 : cf9.toInt ≤ 62 := q_leI e12; omega)), rfl, hF, hO6, hA16⟩) d_8_13_82
        ·
          refine lv_if_lt (tgt := 81) hx hb d_8_13_59 (by decide) (fun c443 => absurd c443 (by decide)) (fun c443 => ?_)
          refine lv_aload_n hx hb d_8_13_62 rfl (lv_at hl 2 rfl) ?_
          refine q_get (ci := 4) (j := 5) (v := .ref qO6) C0 V i_Mil rfl rfl hO0 (by decide) w_124 rfl d_8_13_63 ?_
          refine lv_bipush (v := 10) hx hb d_8_13_66 (by decide) ?_
          refine lv_iconst (v := 0) hx hb d_8_13_68 (by decide) ?_
          refine q_gov V (q_runV (As := [.int 10, .int 0]) (rest := []) (d := 1) (mc := 0) (ms := 0) (ci := 2) C0 V rfl LV_Mil_102 (c_Big_multiplySmall_4 l D g u354 kO6 kA16 qO6 qA16 y20 y355 hO6 hA16 f18 f19 _) rfl rfl hO6 rfl hl.1 rfl (Nat.le_of_ble_eq_true rfl) ⟨by decide, by decide⟩ ⟨Nat.le_of_ble_eq_true rfl, Nat.le_of_ble_eq_true rfl⟩ d_8_13_69) (fun u445 H locs hp444 V => ?_)
          rcases hp444 with ⟨y446, hg447, hO6, hA16⟩ | ⟨y450, y451, f448, f449, hg452, hO6, hA16⟩
          ·
            replace hF := q_uc hF hg447 (q_sc (.head _) (q_sc (.tail _ (.head _)) (fun _ h => absurd h List.not_mem_nil)))
            refine lv_iinc (v := (cf9 + 1) + 1) (lv' := [(2, .int ((cf9 + 1) + 1)), (3, .int 1), (0, .ref qO0), (1, .ref qO1)]) hx hb d_8_13_72 hl (k := 1) rfl (rfl) (by decide) rfl (fun ls hl => ?_)
            refine lv_iinc (v := 2) (lv' := [(3, .int 2), (2, .int ((cf9 + 1) + 1)), (0, .ref qO0), (1, .ref qO1)]) hx hb d_8_13_75 hl (k := 1) rfl (by decide) (by decide) rfl (fun ls hl => ?_)
            refine lv_goto (tgt := 46) hx hb d_8_13_78 (by decide) ?_
            refine lv_iload_n hx hb d_8_13_46 rfl (lv_at hl 0 rfl) ?_
            refine lv_iconst (v := 3) hx hb d_8_13_47 (by decide) ?_
            refine lv_icmp_ge (tgt := 81) hx hb d_8_13_48 (by decide) (fun c453 => absurd c453 (by decide)) (fun c453 => ?_)
            refine lv_aload_n hx hb d_8_13_51 rfl (lv_at hl 3 rfl) ?_
            refine lv_aload_n hx hb d_8_13_52 rfl (lv_at hl 2 rfl) ?_
            replace hO0 := (hg447 _ (q_nc n_O0_O6 (q_nc n_O0_A16 List.not_mem_nil))).trans (hO0)
            refine q_get (ci := 4) (j := 5) (v := .ref qO6) C0 V i_Mil rfl rfl hO0 (by decide) w_124 rfl d_8_13_53 ?_
            replace hO1 := (hg447 _ (q_nc n_O1_O6 (q_nc n_O1_A16 List.not_mem_nil))).trans (hO1)
            replace hA11 := (hg447 _ (q_nc n_A11_O6 (q_nc n_A11_A16 List.not_mem_nil))).trans (hA11)
            refine q_goi V (q_runV (As := [.ref qO6]) (rest := []) (d := 2) (mc := 0) (ms := 0) (ci := 2) C0 V rfl LV_Mil_112 (c_Big_compareSize_3 l D g u445 kO1 kO6 kA11 kA16 qO1 qO6 qA11 qA16 y1 y2 y20 f3 y446 hO1 hO6 hA11 hA16 (q_Ile (x := 1) (y := y1.toInt) (by decide) rfl (by have t1 : 0 ≤ y1.toInt := q_leI y1lo; have t2 : y1.toInt ≤ 3 := q_leI y1hi; have t3 : y1.toInt ≠ 0 := q_neI c1; omega)) y1hi y2lo y2hi f18 f19 _) rfl rfl hO1 rfl hl.1 rfl (Nat.le_of_ble_eq_true rfl) ⟨by decide, by decide⟩ ⟨Nat.le_of_ble_eq_true rfl, Nat.le_of_ble_eq_true rfl⟩ d_8_13_56) (fun v456 u455 H locs hp454 V => ?_)
            rcases hp454 with ⟨rfl, rfl⟩ | ⟨rfl, rfl⟩ | ⟨rfl, rfl⟩
            ·
              refine lv_if_lt (tgt := 81) hx hb d_8_13_59 (by decide) (fun c460 => absurd c460 (by decide)) (fun c460 => ?_)
              refine lv_aload_n hx hb d_8_13_62 rfl (lv_at hl 2 rfl) ?_
              refine q_get (ci := 4) (j := 5) (v := .ref qO6) C0 V i_Mil rfl rfl hO0 (by decide) w_124 rfl d_8_13_63 ?_
              refine lv_bipush (v := 10) hx hb d_8_13_66 (by decide) ?_
              refine lv_iconst (v := 0) hx hb d_8_13_68 (by decide) ?_
              refine q_gov V (q_runV (As := [.int 10, .int 0]) (rest := []) (d := 1) (mc := 0) (ms := 0) (ci := 2) C0 V rfl LV_Mil_102 (c_Big_multiplySmall_4 l D g u445 kO6 kA16 qO6 qA16 y20 y446 hO6 hA16 f18 f19 _) rfl rfl hO6 rfl hl.1 rfl (Nat.le_of_ble_eq_true rfl) ⟨by decide, by decide⟩ ⟨Nat.le_of_ble_eq_true rfl, Nat.le_of_ble_eq_true rfl⟩ d_8_13_69) (fun u462 H locs hp461 V => ?_)
              rcases hp461 with ⟨y463, hg464, hO6, hA16⟩ | ⟨y467, y468, f465, f466, hg469, hO6, hA16⟩
              ·
                replace hF := q_uc hF hg464 (q_sc (.head _) (q_sc (.tail _ (.head _)) (fun _ h => absurd h List.not_mem_nil)))
                refine lv_iinc (v := ((cf9 + 1) + 1) + 1) (lv' := [(2, .int (((cf9 + 1) + 1) + 1)), (3, .int 2), (0, .ref qO0), (1, .ref qO1)]) hx hb d_8_13_72 hl (k := 1) rfl (rfl) (by decide) rfl (fun ls hl => ?_)
                refine lv_iinc (v := 3) (lv' := [(3, .int 3), (2, .int (((cf9 + 1) + 1) + 1)), (0, .ref qO0), (1, .ref qO1)]) hx hb d_8_13_75 hl (k := 1) rfl (by decide) (by decide) rfl (fun ls hl => ?_)
                refine lv_goto (tgt := 46) hx hb d_8_13_78 (by decide) ?_
                refine lv_iload_n hx hb d_8_13_46 rfl (lv_at hl 0 rfl) ?_
                refine lv_iconst (v := 3) hx hb d_8_13_47 (by decide) ?_
                refine lv_icmp_ge (tgt := 81) hx hb d_8_13_48 (by decide) (fun c470 => ?_) (fun c470 => absurd (by decide) c470)
                refine lv_iload_n hx hb d_8_13_81 rfl (lv_at hl 1 rfl) ?_
                exact q_reti C0 V (Or.inl ⟨(((cf9 + 1) + 1) + 1), y20, y463, f18, f19, (q_Ile (x := 1) (y := (((cf9.toInt + 1) + 1) + 1)) (by decide) (q_addI (x := ((cf9.toInt + 1) + 1)) (y := 1) (q_addI (x := (cf9.toInt + 1)) (y := 1) (q_addI (x := cf9.toInt) (y := 1) rfl (by decide) (by have t1 : 1 ≤ cf9.toInt := q_leI e11; have t2 : cf9.toInt ≤ 62 := q_leI e12; omega) (by have t1 : 1 ≤ cf9.toInt := q_leI e11; have t2 : cf9.toInt ≤ 62 := q_leI e12; omega)) (by decide) (by have t1 : 1 ≤ cf9.toInt := q_leI e11; have t2 : cf9.toInt ≤ 62 := q_leI e12; omega) (by have t1 : 1 ≤ cf9.toInt := q_leI e11; have t2 : cf9.toInt ≤ 62 := q_leI e12; omega)) (by decide) (by have t1 : 1 ≤ cf9.toInt := q_leI e11; have t2 : cf9.toInt ≤ 62 := q_leI e12; omega) (by have t1 : 1 ≤ cf9.toInt := q_leI e11; have t2 : cf9.toInt ≤ 62 := q_leI e12; omega)) (by have t1 : 1 ≤ cf9.toInt := q_leI e11; have t2 : cf9.toInt ≤ 62 := q_leI e12; omega)), (q_Ile (x := (((cf9.toInt + 1) + 1) + 1)) (y := 70) (q_addI (x := ((cf9.toInt + 1) + 1)) (y := 1) (q_addI (x := (cf9.toInt + 1)) (y := 1) (q_addI (x := cf9.toInt) (y := 1) rfl (by decide) (by have t1 : 1 ≤ cf9.toInt := q_leI e11; have t2 : cf9.toInt ≤ 62 := q_leI e12; omega) (by have t1 : 1 ≤ cf9.toInt := q_leI e11; have t2 : cf9.toInt ≤ 62 := q_leI e12; omega)) (by decide) (by have t1 : 1 ≤ cf9.toInt := q_leI e11; have t2 : cf9.toInt ≤ 62 := q_leI e12; omega) (by have t1 : 1 ≤ cf9.toInt := q_leI e11; have t2 : cf9.toInt ≤ 62 := q_leI e12; omega)) (by decide) (by have t1 : 1 ≤ cf9.toInt := q_leI e11; have t2 : cf9.toInt ≤ 62 := q_leI e12; omega) (by have t1 : 1 ≤ cf9.toInt := q_leI e11; have t2 : cf9.toInt ≤ 62 := q_leI e12; omega)) (by decide) (by have t1 : 1 ≤ cf9.toInt := q_leI e11; have t2 : cf9.toInt ≤ 62 := q_leI e12; omega)), rfl, hF, hO6, hA16⟩) d_8_13_82
              ·
                replace hF := q_uc hF hg469 (q_sc (.head _) (q_sc (.tail _ (.head _)) (fun _ h => absurd h List.not_mem_nil)))
                refine lv_iinc (v := ((cf9 + 1) + 1) + 1) (lv' := [(2, .int (((cf9 + 1) + 1) + 1)), (3, .int 2), (0, .ref qO0), (1, .ref qO1)]) hx hb d_8_13_72 hl (k := 1) rfl (rfl) (by decide) rfl (fun ls hl => ?_)
                refine lv_iinc (v := 3) (lv' := [(3, .int 3), (2, .int (((cf9 + 1) + 1) + 1)), (0, .ref qO0), (1, .ref qO1)]) hx hb d_8_13_75 hl (k := 1) rfl (by decide) (by decide) rfl (fun ls hl => ?_)
                refine lv_goto (tgt := 46) hx hb d_8_13_78 (by decide) ?_
                refine lv_iload_n hx hb d_8_13_46 rfl (lv_at hl 0 rfl) ?_
                refine lv_iconst (v := 3) hx hb d_8_13_47 (by decide) ?_
                refine lv_icmp_ge (tgt := 81) hx hb d_8_13_48 (by decide) (fun c471 => ?_) (fun c471 => absurd (by decide) c471)
                refine lv_iload_n hx hb d_8_13_81 rfl (lv_at hl 1 rfl) ?_
                exact q_reti C0 V (Or.inl ⟨(((cf9 + 1) + 1) + 1), y467, y468, f465, f466, (q_Ile (x := 1) (y := (((cf9.toInt + 1) + 1) + 1)) (by decide) (q_addI (x := ((cf9.toInt + 1) + 1)) (y := 1) (q_addI (x := (cf9.toInt + 1)) (y := 1) (q_addI (x := cf9.toInt) (y := 1) rfl (by decide) (by have t1 : 1 ≤ cf9.toInt := q_leI e11; have t2 : cf9.toInt ≤ 62 := q_leI e12; omega) (by have t1 : 1 ≤ cf9.toInt := q_leI e11; have t2 : cf9.toInt ≤ 62 := q_leI e12; omega)) (by decide) (by have t1 : 1 ≤ cf9.toInt := q_leI e11; have t2 : cf9.toInt ≤ 62 := q_leI e12; omega) (by have t1 : 1 ≤ cf9.toInt := q_leI e11; have t2 : cf9.toInt ≤ 62 := q_leI e12; omega)) (by decide) (by have t1 : 1 ≤ cf9.toInt := q_leI e11; have t2 : cf9.toInt ≤ 62 := q_leI e12; omega) (by have t1 : 1 ≤ cf9.toInt := q_leI e11; have t2 : cf9.toInt ≤ 62 := q_leI e12; omega)) (by have t1 : 1 ≤ cf9.toInt := q_leI e11; have t2 : cf9.toInt ≤ 62 := q_leI e12; omega)), (q_Ile (x := (((cf9.toInt + 1) + 1) + 1)) (y := 70) (q_addI (x := ((cf9.toInt + 1) + 1)) (y := 1) (q_addI (x := (cf9.toInt + 1)) (y := 1) (q_addI (x := cf9.toInt) (y := 1) rfl (by decide) (by have t1 : 1 ≤ cf9.toInt := q_leI e11; have t2 : cf9.toInt ≤ 62 := q_leI e12; omega) (by have t1 : 1 ≤ cf9.toInt := q_leI e11; have t2 : cf9.toInt ≤ 62 := q_leI e12; omega)) (by decide) (by have t1 : 1 ≤ cf9.toInt := q_leI e11; have t2 : cf9.toInt ≤ 62 := q_leI e12; omega) (by have t1 : 1 ≤ cf9.toInt := q_leI e11; have t2 : cf9.toInt ≤ 62 := q_leI e12; omega)) (by decide) (by have t1 : 1 ≤ cf9.toInt := q_leI e11; have t2 : cf9.toInt ≤ 62 := q_leI e12; omega) (by have t1 : 1 ≤ cf9.toInt := q_leI e11; have t2 : cf9.toInt ≤ 62 := q_leI e12; omega)) (by decide) (by have t1 : 1 ≤ cf9.toInt := q_leI e11; have t2 : cf9.toInt ≤ 62 := q_leI e12; omega)), rfl, hF, hO6, hA16⟩) d_8_13_82
            ·
              refine lv_if_lt (tgt := 81) hx hb d_8_13_59 (by decide) (fun c472 => absurd c472 (by decide)) (fun c472 => ?_)
              refine lv_aload_n hx hb d_8_13_62 rfl (lv_at hl 2 rfl) ?_
              refine q_get (ci := 4) (j := 5) (v := .ref qO6) C0 V i_Mil rfl rfl hO0 (by decide) w_124 rfl d_8_13_63 ?_
              refine lv_bipush (v := 10) hx hb d_8_13_66 (by decide) ?_
              refine lv_iconst (v := 0) hx hb d_8_13_68 (by decide) ?_
              refine q_gov V (q_runV (As := [.int 10, .int 0]) (rest := []) (d := 1) (mc := 0) (ms := 0) (ci := 2) C0 V rfl LV_Mil_102 (c_Big_multiplySmall_4 l D g u445 kO6 kA16 qO6 qA16 y20 y446 hO6 hA16 f18 f19 _) rfl rfl hO6 rfl hl.1 rfl (Nat.le_of_ble_eq_true rfl) ⟨by decide, by decide⟩ ⟨Nat.le_of_ble_eq_true rfl, Nat.le_of_ble_eq_true rfl⟩ d_8_13_69) (fun u474 H locs hp473 V => ?_)
              rcases hp473 with ⟨y475, hg476, hO6, hA16⟩ | ⟨y479, y480, f477, f478, hg481, hO6, hA16⟩
              ·
                replace hF := q_uc hF hg476 (q_sc (.head _) (q_sc (.tail _ (.head _)) (fun _ h => absurd h List.not_mem_nil)))
                refine lv_iinc (v := ((cf9 + 1) + 1) + 1) (lv' := [(2, .int (((cf9 + 1) + 1) + 1)), (3, .int 2), (0, .ref qO0), (1, .ref qO1)]) hx hb d_8_13_72 hl (k := 1) rfl (rfl) (by decide) rfl (fun ls hl => ?_)
                refine lv_iinc (v := 3) (lv' := [(3, .int 3), (2, .int (((cf9 + 1) + 1) + 1)), (0, .ref qO0), (1, .ref qO1)]) hx hb d_8_13_75 hl (k := 1) rfl (by decide) (by decide) rfl (fun ls hl => ?_)
                refine lv_goto (tgt := 46) hx hb d_8_13_78 (by decide) ?_
                refine lv_iload_n hx hb d_8_13_46 rfl (lv_at hl 0 rfl) ?_
                refine lv_iconst (v := 3) hx hb d_8_13_47 (by decide) ?_
                refine lv_icmp_ge (tgt := 81) hx hb d_8_13_48 (by decide) (fun c482 => ?_) (fun c482 => absurd (by decide) c482)
                refine lv_iload_n hx hb d_8_13_81 rfl (lv_at hl 1 rfl) ?_
                exact q_reti C0 V (Or.inl ⟨(((cf9 + 1) + 1) + 1), y20, y475, f18, f19, (q_Ile (x := 1) (y := (((cf9.toInt + 1) + 1) + 1)) (by decide) (q_addI (x := ((cf9.toInt + 1) + 1)) (y := 1) (q_addI (x := (cf9.toInt + 1)) (y := 1) (q_addI (x := cf9.toInt) (y := 1) rfl (by decide) (by have t1 : 1 ≤ cf9.toInt := q_leI e11; have t2 : cf9.toInt ≤ 62 := q_leI e12; omega) (by have t1 : 1 ≤ cf9.toInt := q_leI e11; have t2 : cf9.toInt ≤ 62 := q_leI e12; omega)) (by decide) (by have t1 : 1 ≤ cf9.toInt := q_leI e11; have t2 : cf9.toInt ≤ 62 := q_leI e12; omega) (by have t1 : 1 ≤ cf9.toInt := q_leI e11; have t2 : cf9.toInt ≤ 62 := q_leI e12; omega)) (by decide) (by have t1 : 1 ≤ cf9.toInt := q_leI e11; have t2 : cf9.toInt ≤ 62 := q_leI e12; omega) (by have t1 : 1 ≤ cf9.toInt := q_leI e11; have t2 : cf9.toInt ≤ 62 := q_leI e12; omega)) (by have t1 : 1 ≤ cf9.toInt := q_leI e11; have t2 : cf9.toInt ≤ 62 := q_leI e12; omega)), (q_Ile (x := (((cf9.toInt + 1) + 1) + 1)) (y := 70) (q_addI (x := ((cf9.toInt + 1) + 1)) (y := 1) (q_addI (x := (cf9.toInt + 1)) (y := 1) (q_addI (x := cf9.toInt) (y := 1) rfl (by decide) (by have t1 : 1 ≤ cf9.toInt := q_leI e11; have t2 : cf9.toInt ≤ 62 := q_leI e12; omega) (by have t1 : 1 ≤ cf9.toInt := q_leI e11; have t2 : cf9.toInt ≤ 62 := q_leI e12; omega)) (by decide) (by have t1 : 1 ≤ cf9.toInt := q_leI e11; have t2 : cf9.toInt ≤ 62 := q_leI e12; omega) (by have t1 : 1 ≤ cf9.toInt := q_leI e11; have t2 : cf9.toInt ≤ 62 := q_leI e12; omega)) (by decide) (by have t1 : 1 ≤ cf9.toInt := q_leI e11; have t2 : cf9.toInt ≤ 62 := q_leI e12; omega) (by have t1 : 1 ≤ cf9.toInt := q_leI e11; have t2 : cf9.toInt ≤ 62 := q_leI e12; omega)) (by decide) (by have t1 : 1 ≤ cf9.toInt := q_leI e11; have t2 : cf9.toInt ≤ 62 := q_leI e12; omega)), rfl, hF, hO6, hA16⟩) d_8_13_82
              ·
                replace hF := q_uc hF hg481 (q_sc (.head _) (q_sc (.tail _ (.head _)) (fun _ h => absurd h List.not_mem_nil)))
                refine lv_iinc (v := ((cf9 + 1) + 1) + 1) (lv' := [(2, .int (((cf9 + 1) + 1) + 1)), (3, .int 2), (0, .ref qO0), (1, .ref qO1)]) hx hb d_8_13_72 hl (k := 1) rfl (rfl) (by decide) rfl (fun ls hl => ?_)
                refine lv_iinc (v := 3) (lv' := [(3, .int 3), (2, .int (((cf9 + 1) + 1) + 1)), (0, .ref qO0), (1, .ref qO1)]) hx hb d_8_13_75 hl (k := 1) rfl (by decide) (by decide) rfl (fun ls hl => ?_)
                refine lv_goto (tgt := 46) hx hb d_8_13_78 (by decide) ?_
                refine lv_iload_n hx hb d_8_13_46 rfl (lv_at hl 0 rfl) ?_
                refine lv_iconst (v := 3) hx hb d_8_13_47 (by decide) ?_
                refine lv_icmp_ge (tgt := 81) hx hb d_8_13_48 (by decide) (fun c483 => ?_) (fun c483 => absurd (by decide) c483)
                refine lv_iload_n hx hb d_8_13_81 rfl (lv_at hl 1 rfl) ?_
                exact q_reti C0 V (Or.inl ⟨(((cf9 + 1) + 1) + 1), y479, y480, f477, f478, (q_Ile (x := 1) (y := (((cf9.toInt + 1) + 1) + 1)) (by decide) (q_addI (x := ((cf9.toInt + 1) + 1)) (y := 1) (q_addI (x := (cf9.toInt + 1)) (y := 1) (q_addI (x := cf9.toInt) (y := 1) rfl (by decide) (by have t1 : 1 ≤ cf9.toInt := q_leI e11; have t2 : cf9.toInt ≤ 62 := q_leI e12; omega) (by have t1 : 1 ≤ cf9.toInt := q_leI e11; have t2 : cf9.toInt ≤ 62 := q_leI e12; omega)) (by decide) (by have t1 : 1 ≤ cf9.toInt := q_leI e11; have t2 : cf9.toInt ≤ 62 := q_leI e12; omega) (by have t1 : 1 ≤ cf9.toInt := q_leI e11; have t2 : cf9.toInt ≤ 62 := q_leI e12; omega)) (by decide) (by have t1 : 1 ≤ cf9.toInt := q_leI e11; have t2 : cf9.toInt ≤ 62 := q_leI e12; omega) (by have t1 : 1 ≤ cf9.toInt := q_leI e11; have t2 : cf9.toInt ≤ 62 := q_leI e12; omega)) (by have t1 : 1 ≤ cf9.toInt := q_leI e11; have t2 : cf9.toInt ≤ 62 := q_leI e12; omega)), (q_Ile (x := (((cf9.toInt + 1) + 1) + 1)) (y := 70) (q_addI (x := ((cf9.toInt + 1) + 1)) (y := 1) (q_addI (x := (cf9.toInt + 1)) (y := 1) (q_addI (x := cf9.toInt) (y := 1) rfl (by decide) (by have t1 : 1 ≤ cf9.toInt := q_leI e11; have t2 : cf9.toInt ≤ 62 := q_leI e12; omega) (by have t1 : 1 ≤ cf9.toInt := q_leI e11; have t2 : cf9.toInt ≤ 62 := q_leI e12; omega)) (by decide) (by have t1 : 1 ≤ cf9.toInt := q_leI e11; have t2 : cf9.toInt ≤ 62 := q_leI e12; omega) (by have t1 : 1 ≤ cf9.toInt := q_leI e11; have t2 : cf9.toInt ≤ 62 := q_leI e12; omega)) (by decide) (by have t1 : 1 ≤ cf9.toInt := q_leI e11; have t2 : cf9.toInt ≤ 62 := q_leI e12; omega) (by have t1 : 1 ≤ cf9.toInt := q_leI e11; have t2 : cf9.toInt ≤ 62 := q_leI e12; omega)) (by decide) (by have t1 : 1 ≤ cf9.toInt := q_leI e11; have t2 : cf9.toInt ≤ 62 := q_leI e12; omega)), rfl, hF, hO6, hA16⟩) d_8_13_82
            ·
              refine lv_if_lt (tgt := 81) hx hb d_8_13_59 (by decide) (fun c484 => ?_) (fun c484 => absurd (by decide) c484)
              refine lv_iload_n hx hb d_8_13_81 rfl (lv_at hl 1 rfl) ?_
              exact q_reti C0 V (Or.inl ⟨((cf9 + 1) + 1), y20, y446, f18, f19, (q_Ile (x := 1) (y := ((cf9.toInt + 1) + 1)) (by decide) (q_addI (x := (cf9.toInt + 1)) (y := 1) (q_addI (x := cf9.toInt) (y := 1) rfl (by decide) (by have t1 : 1 ≤ cf9.toInt := q_leI e11; have t2 : cf9.toInt ≤ 62 := q_leI e12; omega) (by have t1 : 1 ≤ cf9.toInt := q_leI e11; have t2 : cf9.toInt ≤ 62 := q_leI e12; omega)) (by decide) (by have t1 : 1 ≤ cf9.toInt := q_leI e11; have t2 : cf9.toInt ≤ 62 := q_leI e12; omega) (by have t1 : 1 ≤ cf9.toInt := q_leI e11; have t2 : cf9.toInt ≤ 62 := q_leI e12; omega)) (by have t1 : 1 ≤ cf9.toInt := q_leI e11; have t2 : cf9.toInt ≤ 62 := q_leI e12; omega)), (q_Ile (x := ((cf9.toInt + 1) + 1)) (y := 70) (q_addI (x := (cf9.toInt + 1)) (y := 1) (q_addI (x := cf9.toInt) (y := 1) rfl (by decide) (by have t1 : 1 ≤ cf9.toInt := q_leI e11; have t2 : cf9.toInt ≤ 62 := q_leI e12; omega) (by have t1 : 1 ≤ cf9.toInt := q_leI e11; have t2 : cf9.toInt ≤ 62 := q_leI e12; omega)) (by decide) (by have t1 : 1 ≤ cf9.toInt := q_leI e11; have t2 : cf9.toInt ≤ 62 := q_leI e12; omega) (by have t1 : 1 ≤ cf9.toInt := q_leI e11; have t2 : cf9.toInt ≤ 62 := q_leI e12; omega)) (by decide) (by have t1 : 1 ≤ cf9.toInt := q_leI e11; have t2 : cf9.toInt ≤ 62 := q_leI e12; omega)), rfl, hF, hO6, hA16⟩) d_8_13_82
          ·
            replace hF := q_uc hF hg452 (q_sc (.head _) (q_sc (.tail _ (.head _)) (fun _ h => absurd h List.not_mem_nil)))
            refine lv_iinc (v := (cf9 + 1) + 1) (lv' := [(2, .int ((cf9 + 1) + 1)), (3, .int 1), (0, .ref qO0), (1, .ref qO1)]) hx hb d_8_13_72 hl (k := 1) rfl (rfl) (by decide) rfl (fun ls hl => ?_)
            refine lv_iinc (v := 2) (lv' := [(3, .int 2), (2, .int ((cf9 + 1) + 1)), (0, .ref qO0), (1, .ref qO1)]) hx hb d_8_13_75 hl (k := 1) rfl (by decide) (by decide) rfl (fun ls hl => ?_)
            refine lv_goto (tgt := 46) hx hb d_8_13_78 (by decide) ?_
            refine lv_iload_n hx hb d_8_13_46 rfl (lv_at hl 0 rfl) ?_
            refine lv_iconst (v := 3) hx hb d_8_13_47 (by decide) ?_
            refine lv_icmp_ge (tgt := 81) hx hb d_8_13_48 (by decide) (fun c485 => absurd c485 (by decide)) (fun c485 => ?_)
            refine lv_aload_n hx hb d_8_13_51 rfl (lv_at hl 3 rfl) ?_
            refine lv_aload_n hx hb d_8_13_52 rfl (lv_at hl 2 rfl) ?_
            replace hO0 := (hg452 _ (q_nc n_O0_O6 (q_nc n_O0_A16 List.not_mem_nil))).trans (hO0)
            refine q_get (ci := 4) (j := 5) (v := .ref qO6) C0 V i_Mil rfl rfl hO0 (by decide) w_124 rfl d_8_13_53 ?_
            replace hO1 := (hg452 _ (q_nc n_O1_O6 (q_nc n_O1_A16 List.not_mem_nil))).trans (hO1)
            replace hA11 := (hg452 _ (q_nc n_A11_O6 (q_nc n_A11_A16 List.not_mem_nil))).trans (hA11)
            refine q_goi V (q_runV (As := [.ref qO6]) (rest := []) (d := 2) (mc := 0) (ms := 0) (ci := 2) C0 V rfl LV_Mil_112 (c_Big_compareSize_3 l D g u445 kO1 kO6 kA11 kA16 qO1 qO6 qA11 qA16 y1 y2 y450 f3 y451 hO1 hO6 hA11 hA16 (q_Ile (x := 1) (y := y1.toInt) (by decide) rfl (by have t1 : 0 ≤ y1.toInt := q_leI y1lo; have t2 : y1.toInt ≤ 3 := q_leI y1hi; have t3 : y1.toInt ≠ 0 := q_neI c1; omega)) y1hi y2lo y2hi f448 f449 _) rfl rfl hO1 rfl hl.1 rfl (Nat.le_of_ble_eq_true rfl) ⟨by decide, by decide⟩ ⟨Nat.le_of_ble_eq_true rfl, Nat.le_of_ble_eq_true rfl⟩ d_8_13_56) (fun v488 u487 H locs hp486 V => ?_)
            rcases hp486 with ⟨rfl, rfl⟩ | ⟨rfl, rfl⟩ | ⟨rfl, rfl⟩
            ·
              refine lv_if_lt (tgt := 81) hx hb d_8_13_59 (by decide) (fun c492 => absurd c492 (by decide)) (fun c492 => ?_)
              refine lv_aload_n hx hb d_8_13_62 rfl (lv_at hl 2 rfl) ?_
              refine q_get (ci := 4) (j := 5) (v := .ref qO6) C0 V i_Mil rfl rfl hO0 (by decide) w_124 rfl d_8_13_63 ?_
              refine lv_bipush (v := 10) hx hb d_8_13_66 (by decide) ?_
              refine lv_iconst (v := 0) hx hb d_8_13_68 (by decide) ?_
              refine q_gov V (q_runV (As := [.int 10, .int 0]) (rest := []) (d := 1) (mc := 0) (ms := 0) (ci := 2) C0 V rfl LV_Mil_102 (c_Big_multiplySmall_4 l D g u445 kO6 kA16 qO6 qA16 y450 y451 hO6 hA16 f448 f449 _) rfl rfl hO6 rfl hl.1 rfl (Nat.le_of_ble_eq_true rfl) ⟨by decide, by decide⟩ ⟨Nat.le_of_ble_eq_true rfl, Nat.le_of_ble_eq_true rfl⟩ d_8_13_69) (fun u494 H locs hp493 V => ?_)
              rcases hp493 with ⟨y495, hg496, hO6, hA16⟩ | ⟨y499, y500, f497, f498, hg501, hO6, hA16⟩
              ·
                replace hF := q_uc hF hg496 (q_sc (.head _) (q_sc (.tail _ (.head _)) (fun _ h => absurd h List.not_mem_nil)))
                refine lv_iinc (v := ((cf9 + 1) + 1) + 1) (lv' := [(2, .int (((cf9 + 1) + 1) + 1)), (3, .int 2), (0, .ref qO0), (1, .ref qO1)]) hx hb d_8_13_72 hl (k := 1) rfl (rfl) (by decide) rfl (fun ls hl => ?_)
                refine lv_iinc (v := 3) (lv' := [(3, .int 3), (2, .int (((cf9 + 1) + 1) + 1)), (0, .ref qO0), (1, .ref qO1)]) hx hb d_8_13_75 hl (k := 1) rfl (by decide) (by decide) rfl (fun ls hl => ?_)
                refine lv_goto (tgt := 46) hx hb d_8_13_78 (by decide) ?_
                refine lv_iload_n hx hb d_8_13_46 rfl (lv_at hl 0 rfl) ?_
                refine lv_iconst (v := 3) hx hb d_8_13_47 (by decide) ?_
                refine lv_icmp_ge (tgt := 81) hx hb d_8_13_48 (by decide) (fun c502 => ?_) (fun c502 => absurd (by decide) c502)
                refine lv_iload_n hx hb d_8_13_81 rfl (lv_at hl 1 rfl) ?_
                exact q_reti C0 V (Or.inl ⟨(((cf9 + 1) + 1) + 1), y450, y495, f448, f449, (q_Ile (x := 1) (y := (((cf9.toInt + 1) + 1) + 1)) (by decide) (q_addI (x := ((cf9.toInt + 1) + 1)) (y := 1) (q_addI (x := (cf9.toInt + 1)) (y := 1) (q_addI (x := cf9.toInt) (y := 1) rfl (by decide) (by have t1 : 1 ≤ cf9.toInt := q_leI e11; have t2 : cf9.toInt ≤ 62 := q_leI e12; omega) (by have t1 : 1 ≤ cf9.toInt := q_leI e11; have t2 : cf9.toInt ≤ 62 := q_leI e12; omega)) (by decide) (by have t1 : 1 ≤ cf9.toInt := q_leI e11; have t2 : cf9.toInt ≤ 62 := q_leI e12; omega) (by have t1 : 1 ≤ cf9.toInt := q_leI e11; have t2 : cf9.toInt ≤ 62 := q_leI e12; omega)) (by decide) (by have t1 : 1 ≤ cf9.toInt := q_leI e11; have t2 : cf9.toInt ≤ 62 := q_leI e12; omega) (by have t1 : 1 ≤ cf9.toInt := q_leI e11; have t2 : cf9.toInt ≤ 62 := q_leI e12; omega)) (by have t1 : 1 ≤ cf9.toInt := q_leI e11; have t2 : cf9.toInt ≤ 62 := q_leI e12; omega)), (q_Ile (x := (((cf9.toInt + 1) + 1) + 1)) (y := 70) (q_addI (x := ((cf9.toInt + 1) + 1)) (y := 1) (q_addI (x := (cf9.toInt + 1)) (y := 1) (q_addI (x := cf9.toInt) (y := 1) rfl (by decide) (by have t1 : 1 ≤ cf9.toInt := q_leI e11; have t2 : cf9.toInt ≤ 62 := q_leI e12; omega) (by have t1 : 1 ≤ cf9.toInt := q_leI e11; have t2 : cf9.toInt ≤ 62 := q_leI e12; omega)) (by decide) (by have t1 : 1 ≤ cf9.toInt := q_leI e11; have t2 : cf9.toInt ≤ 62 := q_leI e12; omega) (by have t1 : 1 ≤ cf9.toInt := q_leI e11; have t2 : cf9.toInt ≤ 62 := q_leI e12; omega)) (by decide) (by have t1 : 1 ≤ cf9.toInt := q_leI e11; have t2 : cf9.toInt ≤ 62 := q_leI e12; omega) (by have t1 : 1 ≤ cf9.toInt := q_leI e11; have t2 : cf9.toInt ≤ 62 := q_leI e12; omega)) (by decide) (by have t1 : 1 ≤ cf9.toInt := q_leI e11; have t2 : cf9.toInt ≤ 62 := q_leI e12; omega)), rfl, hF, hO6, hA16⟩) d_8_13_82
              ·
                replace hF := q_uc hF hg501 (q_sc (.head _) (q_sc (.tail _ (.head _)) (fun _ h => absurd h List.not_mem_nil)))
                refine lv_iinc (v := ((cf9 + 1) + 1) + 1) (lv' := [(2, .int (((cf9 + 1) + 1) + 1)), (3, .int 2), (0, .ref qO0), (1, .ref qO1)]) hx hb d_8_13_72 hl (k := 1) rfl (rfl) (by decide) rfl (fun ls hl => ?_)
                refine lv_iinc (v := 3) (lv' := [(3, .int 3), (2, .int (((cf9 + 1) + 1) + 1)), (0, .ref qO0), (1, .ref qO1)]) hx hb d_8_13_75 hl (k := 1) rfl (by decide) (by decide) rfl (fun ls hl => ?_)
                refine lv_goto (tgt := 46) hx hb d_8_13_78 (by decide) ?_
                refine lv_iload_n hx hb d_8_13_46 rfl (lv_at hl 0 rfl) ?_
                refine lv_iconst (v := 3) hx hb d_8_13_47 (by decide) ?_
                refine lv_icmp_ge (tgt := 81) hx hb d_8_13_48 (by decide) (fun c503 => ?_) (fun c503 => absurd (by decide) c503)
                refine lv_iload_n hx hb d_8_13_81 rfl (lv_at hl 1 rfl) ?_
                exact q_reti C0 V (Or.inl ⟨(((cf9 + 1) + 1) + 1), y499, y500, f497, f498, (q_Ile (x := 1) (y := (((cf9.toInt + 1) + 1) + 1)) (by decide) (q_addI (x := ((cf9.toInt + 1) + 1)) (y := 1) (q_addI (x := (cf9.toInt + 1)) (y := 1) (q_addI (x := cf9.toInt) (y := 1) rfl (by decide) (by have t1 : 1 ≤ cf9.toInt := q_leI e11; have t2 : cf9.toInt ≤ 62 := q_leI e12; omega) (by have t1 : 1 ≤ cf9.toInt := q_leI e11; have t2 : cf9.toInt ≤ 62 := q_leI e12; omega)) (by decide) (by have t1 : 1 ≤ cf9.toInt := q_leI e11; have t2 : cf9.toInt ≤ 62 := q_leI e12; omega) (by have t1 : 1 ≤ cf9.toInt := q_leI e11; have t2 : cf9.toInt ≤ 62 := q_leI e12; omega)) (by decide) (by have t1 : 1 ≤ cf9.toInt := q_leI e11; have t2 : cf9.toInt ≤ 62 := q_leI e12; omega) (by have t1 : 1 ≤ cf9.toInt := q_leI e11; have t2 : cf9.toInt ≤ 62 := q_leI e12; omega)) (by have t1 : 1 ≤ cf9.toInt := q_leI e11; have t2 : cf9.toInt ≤ 62 := q_leI e12; omega)), (q_Ile (x := (((cf9.toInt + 1) + 1) + 1)) (y := 70) (q_addI (x := ((cf9.toInt + 1) + 1)) (y := 1) (q_addI (x := (cf9.toInt + 1)) (y := 1) (q_addI (x := cf9.toInt) (y := 1) rfl (by decide) (by have t1 : 1 ≤ cf9.toInt := q_leI e11; have t2 : cf9.toInt ≤ 62 := q_leI e12; omega) (by have t1 : 1 ≤ cf9.toInt := q_leI e11; have t2 : cf9.toInt ≤ 62 := q_leI e12; omega)) (by decide) (by have t1 : 1 ≤ cf9.toInt := q_leI e11; have t2 : cf9.toInt ≤ 62 := q_leI e12; omega) (by have t1 : 1 ≤ cf9.toInt := q_leI e11; have t2 : cf9.toInt ≤ 62 := q_leI e12; omega)) (by decide) (by have t1 : 1 ≤ cf9.toInt := q_leI e11; have t2 : cf9.toInt ≤ 62 := q_leI e12; omega) (by have t1 : 1 ≤ cf9.toInt := q_leI e11; have t2 : cf9.toInt ≤ 62 := q_leI e12; omega)) (by decide) (by have t1 : 1 ≤ cf9.toInt := q_leI e11; have t2 : cf9.toInt ≤ 62 := q_leI e12; omega)), rfl, hF, hO6, hA16⟩) d_8_13_82
            ·
              refine lv_if_lt (tgt := 81) hx hb d_8_13_59 (by decide) (fun c504 => absurd c504 (by decide)) (fun c504 => ?_)
              refine lv_aload_n hx hb d_8_13_62 rfl (lv_at hl 2 rfl) ?_
              refine q_get (ci := 4) (j := 5) (v := .ref qO6) C0 V i_Mil rfl rfl hO0 (by decide) w_124 rfl d_8_13_63 ?_
              refine lv_bipush (v := 10) hx hb d_8_13_66 (by decide) ?_
              refine lv_iconst (v := 0) hx hb d_8_13_68 (by decide) ?_
              refine q_gov V (q_runV (As := [.int 10, .int 0]) (rest := []) (d := 1) (mc := 0) (ms := 0) (ci := 2) C0 V rfl LV_Mil_102 (c_Big_multiplySmall_4 l D g u445 kO6 kA16 qO6 qA16 y450 y451 hO6 hA16 f448 f449 _) rfl rfl hO6 rfl hl.1 rfl (Nat.le_of_ble_eq_true rfl) ⟨by decide, by decide⟩ ⟨Nat.le_of_ble_eq_true rfl, Nat.le_of_ble_eq_true rfl⟩ d_8_13_69) (fun u506 H locs hp505 V => ?_)
              rcases hp505 with ⟨y507, hg508, hO6, hA16⟩ | ⟨y511, y512, f509, f510, hg513, hO6, hA16⟩
              ·
                replace hF := q_uc hF hg508 (q_sc (.head _) (q_sc (.tail _ (.head _)) (fun _ h => absurd h List.not_mem_nil)))
                refine lv_iinc (v := ((cf9 + 1) + 1) + 1) (lv' := [(2, .int (((cf9 + 1) + 1) + 1)), (3, .int 2), (0, .ref qO0), (1, .ref qO1)]) hx hb d_8_13_72 hl (k := 1) rfl (rfl) (by decide) rfl (fun ls hl => ?_)
                refine lv_iinc (v := 3) (lv' := [(3, .int 3), (2, .int (((cf9 + 1) + 1) + 1)), (0, .ref qO0), (1, .ref qO1)]) hx hb d_8_13_75 hl (k := 1) rfl (by decide) (by decide) rfl (fun ls hl => ?_)
                refine lv_goto (tgt := 46) hx hb d_8_13_78 (by decide) ?_
                refine lv_iload_n hx hb d_8_13_46 rfl (lv_at hl 0 rfl) ?_
                refine lv_iconst (v := 3) hx hb d_8_13_47 (by decide) ?_
                refine lv_icmp_ge (tgt := 81) hx hb d_8_13_48 (by decide) (fun c514 => ?_) (fun c514 => absurd (by decide) c514)
                refine lv_iload_n hx hb d_8_13_81 rfl (lv_at hl 1 rfl) ?_
                exact q_reti C0 V (Or.inl ⟨(((cf9 + 1) + 1) + 1), y450, y507, f448, f449, (q_Ile (x := 1) (y := (((cf9.toInt + 1) + 1) + 1)) (by decide) (q_addI (x := ((cf9.toInt + 1) + 1)) (y := 1) (q_addI (x := (cf9.toInt + 1)) (y := 1) (q_addI (x := cf9.toInt) (y := 1) rfl (by decide) (by have t1 : 1 ≤ cf9.toInt := q_leI e11; have t2 : cf9.toInt ≤ 62 := q_leI e12; omega) (by have t1 : 1 ≤ cf9.toInt := q_leI e11; have t2 : cf9.toInt ≤ 62 := q_leI e12; omega)) (by decide) (by have t1 : 1 ≤ cf9.toInt := q_leI e11; have t2 : cf9.toInt ≤ 62 := q_leI e12; omega) (by have t1 : 1 ≤ cf9.toInt := q_leI e11; have t2 : cf9.toInt ≤ 62 := q_leI e12; omega)) (by decide) (by have t1 : 1 ≤ cf9.toInt := q_leI e11; have t2 : cf9.toInt ≤ 62 := q_leI e12; omega) (by have t1 : 1 ≤ cf9.toInt := q_leI e11; have t2 : cf9.toInt ≤ 62 := q_leI e12; omega)) (by have t1 : 1 ≤ cf9.toInt := q_leI e11; have t2 : cf9.toInt ≤ 62 := q_leI e12; omega)), (q_Ile (x := (((cf9.toInt + 1) + 1) + 1)) (y := 70) (q_addI (x := ((cf9.toInt + 1) + 1)) (y := 1) (q_addI (x := (cf9.toInt + 1)) (y := 1) (q_addI (x := cf9.toInt) (y := 1) rfl (by decide) (by have t1 : 1 ≤ cf9.toInt := q_leI e11; have t2 : cf9.toInt ≤ 62 := q_leI e12; omega) (by have t1 : 1 ≤ cf9.toInt := q_leI e11; have t2 : cf9.toInt ≤ 62 := q_leI e12; omega)) (by decide) (by have t1 : 1 ≤ cf9.toInt := q_leI e11; have t2 : cf9.toInt ≤ 62 := q_leI e12; omega) (by have t1 : 1 ≤ cf9.toInt := q_leI e11; have t2 : cf9.toInt ≤ 62 := q_leI e12; omega)) (by decide) (by have t1 : 1 ≤ cf9.toInt := q_leI e11; have t2 : cf9.toInt ≤ 62 := q_leI e12; omega) (by have t1 : 1 ≤ cf9.toInt := q_leI e11; have t2 : cf9.toInt ≤ 62 := q_leI e12; omega)) (by decide) (by have t1 : 1 ≤ cf9.toInt := q_leI e11; have t2 : cf9.toInt ≤ 62 := q_leI e12; omega)), rfl, hF, hO6, hA16⟩) d_8_13_82
              ·
                replace hF := q_uc hF hg513 (q_sc (.head _) (q_sc (.tail _ (.head _)) (fun _ h => absurd h List.not_mem_nil)))
                refine lv_iinc (v := ((cf9 + 1) + 1) + 1) (lv' := [(2, .int (((cf9 + 1) + 1) + 1)), (3, .int 2), (0, .ref qO0), (1, .ref qO1)]) hx hb d_8_13_72 hl (k := 1) rfl (rfl) (by decide) rfl (fun ls hl => ?_)
                refine lv_iinc (v := 3) (lv' := [(3, .int 3), (2, .int (((cf9 + 1) + 1) + 1)), (0, .ref qO0), (1, .ref qO1)]) hx hb d_8_13_75 hl (k := 1) rfl (by decide) (by decide) rfl (fun ls hl => ?_)
                refine lv_goto (tgt := 46) hx hb d_8_13_78 (by decide) ?_
                refine lv_iload_n hx hb d_8_13_46 rfl (lv_at hl 0 rfl) ?_
                refine lv_iconst (v := 3) hx hb d_8_13_47 (by decide) ?_
                refine lv_icmp_ge (tgt := 81) hx hb d_8_13_48 (by decide) (fun c515 => ?_) (fun c515 => absurd (by decide) c515)
                refine lv_iload_n hx hb d_8_13_81 rfl (lv_at hl 1 rfl) ?_
                exact q_reti C0 V (Or.inl ⟨(((cf9 + 1) + 1) + 1), y511, y512, f509, f510, (q_Ile (x := 1) (y := (((cf9.toInt + 1) + 1) + 1)) (by decide) (q_addI (x := ((cf9.toInt + 1) + 1)) (y := 1) (q_addI (x := (cf9.toInt + 1)) (y := 1) (q_addI (x := cf9.toInt) (y := 1) rfl (by decide) (by have t1 : 1 ≤ cf9.toInt := q_leI e11; have t2 : cf9.toInt ≤ 62 := q_leI e12; omega) (by have t1 : 1 ≤ cf9.toInt := q_leI e11; have t2 : cf9.toInt ≤ 62 := q_leI e12; omega)) (by decide) (by have t1 : 1 ≤ cf9.toInt := q_leI e11; have t2 : cf9.toInt ≤ 62 := q_leI e12; omega) (by have t1 : 1 ≤ cf9.toInt := q_leI e11; have t2 : cf9.toInt ≤ 62 := q_leI e12; omega)) (by decide) (by have t1 : 1 ≤ cf9.toInt := q_leI e11; have t2 : cf9.toInt ≤ 62 := q_leI e12; omega) (by have t1 : 1 ≤ cf9.toInt := q_leI e11; have t2 : cf9.toInt ≤ 62 := q_leI e12; omega)) (by have t1 : 1 ≤ cf9.toInt := q_leI e11; have t2 : cf9.toInt ≤ 62 := q_leI e12; omega)), (q_Ile (x := (((cf9.toInt + 1) + 1) + 1)) (y := 70) (q_addI (x := ((cf9.toInt + 1) + 1)) (y := 1) (q_addI (x := (cf9.toInt + 1)) (y := 1) (q_addI (x := cf9.toInt) (y := 1) rfl (by decide) (by have t1 : 1 ≤ cf9.toInt := q_leI e11; have t2 : cf9.toInt ≤ 62 := q_leI e12; omega) (by have t1 : 1 ≤ cf9.toInt := q_leI e11; have t2 : cf9.toInt ≤ 62 := q_leI e12; omega)) (by decide) (by have t1 : 1 ≤ cf9.toInt := q_leI e11; have t2 : cf9.toInt ≤ 62 := q_leI e12; omega) (by have t1 : 1 ≤ cf9.toInt := q_leI e11; have t2 : cf9.toInt ≤ 62 := q_leI e12; omega)) (by decide) (by have t1 : 1 ≤ cf9.toInt := q_leI e11; have t2 : cf9.toInt ≤ 62 := q_leI e12; omega) (by have t1 : 1 ≤ cf9.toInt := q_leI e11; have t2 : cf9.toInt ≤ 62 := q_leI e12; omega)) (by decide) (by have t1 : 1 ≤ cf9.toInt := q_leI e11; have t2 : cf9.toInt ≤ 62 := q_leI e12; omega)), rfl, hF, hO6, hA16⟩) d_8_13_82
            ·
              refine lv_if_lt (tgt := 81) hx hb d_8_13_59 (by decide) (fun c516 => ?_) (fun c516 => absurd (by decide) c516)
              refine lv_iload_n hx hb d_8_13_81 rfl (lv_at hl 1 rfl) ?_
              exact q_reti C0 V (Or.inl ⟨((cf9 + 1) + 1), y450, y451, f448, f449, (q_Ile (x := 1) (y := ((cf9.toInt + 1) + 1)) (by decide) (q_addI (x := (cf9.toInt + 1)) (y := 1) (q_addI (x := cf9.toInt) (y := 1) rfl (by decide) (by have t1 : 1 ≤ cf9.toInt := q_leI e11; have t2 : cf9.toInt ≤ 62 := q_leI e12; omega) (by have t1 : 1 ≤ cf9.toInt := q_leI e11; have t2 : cf9.toInt ≤ 62 := q_leI e12; omega)) (by decide) (by have t1 : 1 ≤ cf9.toInt := q_leI e11; have t2 : cf9.toInt ≤ 62 := q_leI e12; omega) (by have t1 : 1 ≤ cf9.toInt := q_leI e11; have t2 : cf9.toInt ≤ 62 := q_leI e12; omega)) (by have t1 : 1 ≤ cf9.toInt := q_leI e11; have t2 : cf9.toInt ≤ 62 := q_leI e12; omega)), (q_Ile (x := ((cf9.toInt + 1) + 1)) (y := 70) (q_addI (x := (cf9.toInt + 1)) (y := 1) (q_addI (x := cf9.toInt) (y := 1) rfl (by decide) (by have t1 : 1 ≤ cf9.toInt := q_leI e11; have t2 : cf9.toInt ≤ 62 := q_leI e12; omega) (by have t1 : 1 ≤ cf9.toInt := q_leI e11; have t2 : cf9.toInt ≤ 62 := q_leI e12; omega)) (by decide) (by have t1 : 1 ≤ cf9.toInt := q_leI e11; have t2 : cf9.toInt ≤ 62 := q_leI e12; omega) (by have t1 : 1 ≤ cf9.toInt := q_leI e11; have t2 : cf9.toInt ≤ 62 := q_leI e12; omega)) (by decide) (by have t1 : 1 ≤ cf9.toInt := q_leI e11; have t2 : cf9.toInt ≤ 62 := q_leI e12; omega)), rfl, hF, hO6, hA16⟩) d_8_13_82
        ·
          refine lv_if_lt (tgt := 81) hx hb d_8_13_59 (by decide) (fun c517 => ?_) (fun c517 => absurd (by decide) c517)
          refine lv_iload_n hx hb d_8_13_81 rfl (lv_at hl 1 rfl) ?_
          exact q_reti C0 V (Or.inl ⟨(cf9 + 1), y20, y355, f18, f19, (q_Ile (x := 1) (y := (cf9.toInt + 1)) (by decide) (q_addI (x := cf9.toInt) (y := 1) rfl (by decide) (by have t1 : 1 ≤ cf9.toInt := q_leI e11; have t2 : cf9.toInt ≤ 62 := q_leI e12; omega) (by have t1 : 1 ≤ cf9.toInt := q_leI e11; have t2 : cf9.toInt ≤ 62 := q_leI e12; omega)) (by have t1 : 1 ≤ cf9.toInt := q_leI e11; have t2 : cf9.toInt ≤ 62 := q_leI e12; omega)), (q_Ile (x := (cf9.toInt + 1)) (y := 70) (q_addI (x := cf9.toInt) (y := 1) rfl (by decide) (by have t1 : 1 ≤ cf9.toInt := q_leI e11; have t2 : cf9.toInt ≤ 62 := q_leI e12; omega) (by have t1 : 1 ≤ cf9.toInt := q_leI e11; have t2 : cf9.toInt ≤ 62 := q_leI e12; omega)) (by decide) (by have t1 : 1 ≤ cf9.toInt := q_leI e11; have t2 : cf9.toInt ≤ 62 := q_leI e12; omega)), rfl, hF, hO6, hA16⟩) d_8_13_82
      ·
        replace hF := q_uc hF hg361 (q_sc (.head _) (q_sc (.tail _ (.head _)) (fun _ h => absurd h List.not_mem_nil)))
        refine lv_iinc (v := cf9 + 1) (lv' := [(2, .int (cf9 + 1)), (3, .int 0), (0, .ref qO0), (1, .ref qO1)]) hx hb d_8_13_72 hl (k := 1) rfl (rfl) (by decide) rfl (fun ls hl => ?_)
        refine lv_iinc (v := 1) (lv' := [(3, .int 1), (2, .int (cf9 + 1)), (0, .ref qO0), (1, .ref qO1)]) hx hb d_8_13_75 hl (k := 1) rfl (by decide) (by decide) rfl (fun ls hl => ?_)
        refine lv_goto (tgt := 46) hx hb d_8_13_78 (by decide) ?_
        refine lv_iload_n hx hb d_8_13_46 rfl (lv_at hl 0 rfl) ?_
        refine lv_iconst (v := 3) hx hb d_8_13_47 (by decide) ?_
        refine lv_icmp_ge (tgt := 81) hx hb d_8_13_48 (by decide) (fun c518 => absurd c518 (by decide)) (fun c518 => ?_)
        refine lv_aload_n hx hb d_8_13_51 rfl (lv_at hl 3 rfl) ?_
        refine lv_aload_n hx hb d_8_13_52 rfl (lv_at hl 2 rfl) ?_
        replace hO0 := (hg361 _ (q_nc n_O0_O6 (q_nc n_O0_A16 List.not_mem_nil))).trans (hO0)
        refine q_get (ci := 4) (j := 5) (v := .ref qO6) C0 V i_Mil rfl rfl hO0 (by decide) w_124 rfl d_8_13_53 ?_
        replace hO1 := (hg361 _ (q_nc n_O1_O6 (q_nc n_O1_A16 List.not_mem_nil))).trans (hO1)
        replace hA11 := (hg361 _ (q_nc n_A11_O6 (q_nc n_A11_A16 List.not_mem_nil))).trans (hA11)
        refine q_goi V (q_runV (As := [.ref qO6]) (rest := []) (d := 2) (mc := 0) (ms := 0) (ci := 2) C0 V rfl LV_Mil_112 (c_Big_compareSize_3 l D g u354 kO1 kO6 kA11 kA16 qO1 qO6 qA11 qA16 y1 y2 y359 f3 y360 hO1 hO6 hA11 hA16 (q_Ile (x := 1) (y := y1.toInt) (by decide) rfl (by have t1 : 0 ≤ y1.toInt := q_leI y1lo; have t2 : y1.toInt ≤ 3 := q_leI y1hi; have t3 : y1.toInt ≠ 0 := q_neI c1; omega)) y1hi y2lo y2hi f357 f358 _) rfl rfl hO1 rfl hl.1 rfl (Nat.le_of_ble_eq_true rfl) ⟨by decide, by decide⟩ ⟨Nat.le_of_ble_eq_true rfl, Nat.le_of_ble_eq_true rfl⟩ d_8_13_56) (fun v521 u520 H locs hp519 V => ?_)
        rcases hp519 with ⟨rfl, rfl⟩ | ⟨rfl, rfl⟩ | ⟨rfl, rfl⟩
        ·
          refine lv_if_lt (tgt := 81) hx hb d_8_13_59 (by decide) (fun c525 => absurd c525 (by decide)) (fun c525 => ?_)
          refine lv_aload_n hx hb d_8_13_62 rfl (lv_at hl 2 rfl) ?_
          refine q_get (ci := 4) (j := 5) (v := .ref qO6) C0 V i_Mil rfl rfl hO0 (by decide) w_124 rfl d_8_13_63 ?_
          refine lv_bipush (v := 10) hx hb d_8_13_66 (by decide) ?_
          refine lv_iconst (v := 0) hx hb d_8_13_68 (by decide) ?_
          refine q_gov V (q_runV (As := [.int 10, .int 0]) (rest := []) (d := 1) (mc := 0) (ms := 0) (ci := 2) C0 V rfl LV_Mil_102 (c_Big_multiplySmall_4 l D g u354 kO6 kA16 qO6 qA16 y359 y360 hO6 hA16 f357 f358 _) rfl rfl hO6 rfl hl.1 rfl (Nat.le_of_ble_eq_true rfl) ⟨by decide, by decide⟩ ⟨Nat.le_of_ble_eq_true rfl, Nat.le_of_ble_eq_true rfl⟩ d_8_13_69) (fun u527 H locs hp526 V => ?_)
          rcases hp526 with ⟨y528, hg529, hO6, hA16⟩ | ⟨y532, y533, f530, f531, hg534, hO6, hA16⟩
          ·
            replace hF := q_uc hF hg529 (q_sc (.head _) (q_sc (.tail _ (.head _)) (fun _ h => absurd h List.not_mem_nil)))
            refine lv_iinc (v := (cf9 + 1) + 1) (lv' := [(2, .int ((cf9 + 1) + 1)), (3, .int 1), (0, .ref qO0), (1, .ref qO1)]) hx hb d_8_13_72 hl (k := 1) rfl (rfl) (by decide) rfl (fun ls hl => ?_)
            refine lv_iinc (v := 2) (lv' := [(3, .int 2), (2, .int ((cf9 + 1) + 1)), (0, .ref qO0), (1, .ref qO1)]) hx hb d_8_13_75 hl (k := 1) rfl (by decide) (by decide) rfl (fun ls hl => ?_)
            refine lv_goto (tgt := 46) hx hb d_8_13_78 (by decide) ?_
            refine lv_iload_n hx hb d_8_13_46 rfl (lv_at hl 0 rfl) ?_
            refine lv_iconst (v := 3) hx hb d_8_13_47 (by decide) ?_
            refine lv_icmp_ge (tgt := 81) hx hb d_8_13_48 (by decide) (fun c535 => absurd c535 (by decide)) (fun c535 => ?_)
            refine lv_aload_n hx hb d_8_13_51 rfl (lv_at hl 3 rfl) ?_
            refine lv_aload_n hx hb d_8_13_52 rfl (lv_at hl 2 rfl) ?_
            replace hO0 := (hg529 _ (q_nc n_O0_O6 (q_nc n_O0_A16 List.not_mem_nil))).trans (hO0)
            refine q_get (ci := 4) (j := 5) (v := .ref qO6) C0 V i_Mil rfl rfl hO0 (by decide) w_124 rfl d_8_13_53 ?_
            replace hO1 := (hg529 _ (q_nc n_O1_O6 (q_nc n_O1_A16 List.not_mem_nil))).trans (hO1)
            replace hA11 := (hg529 _ (q_nc n_A11_O6 (q_nc n_A11_A16 List.not_mem_nil))).trans (hA11)
            refine q_goi V (q_runV (As := [.ref qO6]) (rest := []) (d := 2) (mc := 0) (ms := 0) (ci := 2) C0 V rfl LV_Mil_112 (c_Big_compareSize_3 l D g u527 kO1 kO6 kA11 kA16 qO1 qO6 qA11 qA16 y1 y2 y359 f3 y528 hO1 hO6 hA11 hA16 (q_Ile (x := 1) (y := y1.toInt) (by decide) rfl (by have t1 : 0 ≤ y1.toInt := q_leI y1lo; have t2 : y1.toInt ≤ 3 := q_leI y1hi; have t3 : y1.toInt ≠ 0 := q_neI c1; omega)) y1hi y2lo y2hi f357 f358 _) rfl rfl hO1 rfl hl.1 rfl (Nat.le_of_ble_eq_true rfl) ⟨by decide, by decide⟩ ⟨Nat.le_of_ble_eq_true rfl, Nat.le_of_ble_eq_true rfl⟩ d_8_13_56) (fun v538 u537 H locs hp536 V => ?_)
            rcases hp536 with ⟨rfl, rfl⟩ | ⟨rfl, rfl⟩ | ⟨rfl, rfl⟩
            ·
              refine lv_if_lt (tgt := 81) hx hb d_8_13_59 (by decide) (fun c542 => absurd c542 (by decide)) (fun c542 => ?_)
              refine lv_aload_n hx hb d_8_13_62 rfl (lv_at hl 2 rfl) ?_
              refine q_get (ci := 4) (j := 5) (v := .ref qO6) C0 V i_Mil rfl rfl hO0 (by decide) w_124 rfl d_8_13_63 ?_
              refine lv_bipush (v := 10) hx hb d_8_13_66 (by decide) ?_
              refine lv_iconst (v := 0) hx hb d_8_13_68 (by decide) ?_
              refine q_gov V (q_runV (As := [.int 10, .int 0]) (rest := []) (d := 1) (mc := 0) (ms := 0) (ci := 2) C0 V rfl LV_Mil_102 (c_Big_multiplySmall_4 l D g u527 kO6 kA16 qO6 qA16 y359 y528 hO6 hA16 f357 f358 _) rfl rfl hO6 rfl hl.1 rfl (Nat.le_of_ble_eq_true rfl) ⟨by decide, by decide⟩ ⟨Nat.le_of_ble_eq_true rfl, Nat.le_of_ble_eq_true rfl⟩ d_8_13_69) (fun u544 H locs hp543 V => ?_)
              rcases hp543 with ⟨y545, hg546, hO6, hA16⟩ | ⟨y549, y550, f547, f548, hg551, hO6, hA16⟩
              ·
                replace hF := q_uc hF hg546 (q_sc (.head _) (q_sc (.tail _ (.head _)) (fun _ h => absurd h List.not_mem_nil)))
                refine lv_iinc (v := ((cf9 + 1) + 1) + 1) (lv' := [(2, .int (((cf9 + 1) + 1) + 1)), (3, .int 2), (0, .ref qO0), (1, .ref qO1)]) hx hb d_8_13_72 hl (k := 1) rfl (rfl) (by decide) rfl (fun ls hl => ?_)
                refine lv_iinc (v := 3) (lv' := [(3, .int 3), (2, .int (((cf9 + 1) + 1) + 1)), (0, .ref qO0), (1, .ref qO1)]) hx hb d_8_13_75 hl (k := 1) rfl (by decide) (by decide) rfl (fun ls hl => ?_)
                refine lv_goto (tgt := 46) hx hb d_8_13_78 (by decide) ?_
                refine lv_iload_n hx hb d_8_13_46 rfl (lv_at hl 0 rfl) ?_
                refine lv_iconst (v := 3) hx hb d_8_13_47 (by decide) ?_
                refine lv_icmp_ge (tgt := 81) hx hb d_8_13_48 (by decide) (fun c552 => ?_) (fun c552 => absurd (by decide) c552)
                refine lv_iload_n hx hb d_8_13_81 rfl (lv_at hl 1 rfl) ?_
                exact q_reti C0 V (Or.inl ⟨(((cf9 + 1) + 1) + 1), y359, y545, f357, f358, (q_Ile (x := 1) (y := (((cf9.toInt + 1) + 1) + 1)) (by decide) (q_addI (x := ((cf9.toInt + 1) + 1)) (y := 1) (q_addI (x := (cf9.toInt + 1)) (y := 1) (q_addI (x := cf9.toInt) (y := 1) rfl (by decide) (by have t1 : 1 ≤ cf9.toInt := q_leI e11; have t2 : cf9.toInt ≤ 62 := q_leI e12; omega) (by have t1 : 1 ≤ cf9.toInt := q_leI e11; have t2 : cf9.toInt ≤ 62 := q_leI e12; omega)) (by decide) (by have t1 : 1 ≤ cf9.toInt := q_leI e11; have t2 : cf9.toInt ≤ 62 := q_leI e12; omega) (by have t1 : 1 ≤ cf9.toInt := q_leI e11; have t2 : cf9.toInt ≤ 62 := q_leI e12; omega)) (by decide) (by have t1 : 1 ≤ cf9.toInt := q_leI e11; have t2 : cf9.toInt ≤ 62 := q_leI e12; omega) (by have t1 : 1 ≤ cf9.toInt := q_leI e11; have t2 : cf9.toInt ≤ 62 := q_leI e12; omega)) (by have t1 : 1 ≤ cf9.toInt := q_leI e11; have t2 : cf9.toInt ≤ 62 := q_leI e12; omega)), (q_Ile (x := (((cf9.toInt + 1) + 1) + 1)) (y := 70) (q_addI (x := ((cf9.toInt + 1) + 1)) (y := 1) (q_addI (x := (cf9.toInt + 1)) (y := 1) (q_addI (x := cf9.toInt) (y := 1) rfl (by decide) (by have t1 : 1 ≤ cf9.toInt := q_leI e11; have t2 : cf9.toInt ≤ 62 := q_leI e12; omega) (by have t1 : 1 ≤ cf9.toInt := q_leI e11; have t2 : cf9.toInt ≤ 62 := q_leI e12; omega)) (by decide) (by have t1 : 1 ≤ cf9.toInt := q_leI e11; have t2 : cf9.toInt ≤ 62 := q_leI e12; omega) (by have t1 : 1 ≤ cf9.toInt := q_leI e11; have t2 : cf9.toInt ≤ 62 := q_leI e12; omega)) (by decide) (by have t1 : 1 ≤ cf9.toInt := q_leI e11; have t2 : cf9.toInt ≤ 62 := q_leI e12; omega) (by have t1 : 1 ≤ cf9.toInt := q_leI e11; have t2 : cf9.toInt ≤ 62 := q_leI e12; omega)) (by decide) (by have t1 : 1 ≤ cf9.toInt := q_leI e11; have t2 : cf9.toInt ≤ 62 := q_leI e12; omega)), rfl, hF, hO6, hA16⟩) d_8_13_82
              ·
                replace hF := q_uc hF hg551 (q_sc (.head _) (q_sc (.tail _ (.head _)) (fun _ h => absurd h List.not_mem_nil)))
                refine lv_iinc (v := ((cf9 + 1) + 1) + 1) (lv' := [(2, .int (((cf9 + 1) + 1) + 1)), (3, .int 2), (0, .ref qO0), (1, .ref qO1)]) hx hb d_8_13_72 hl (k := 1) rfl (rfl) (by decide) rfl (fun ls hl => ?_)
                refine lv_iinc (v := 3) (lv' := [(3, .int 3), (2, .int (((cf9 + 1) + 1) + 1)), (0, .ref qO0), (1, .ref qO1)]) hx hb d_8_13_75 hl (k := 1) rfl (by decide) (by decide) rfl (fun ls hl => ?_)
                refine lv_goto (tgt := 46) hx hb d_8_13_78 (by decide) ?_
                refine lv_iload_n hx hb d_8_13_46 rfl (lv_at hl 0 rfl) ?_
                refine lv_iconst (v := 3) hx hb d_8_13_47 (by decide) ?_
                refine lv_icmp_ge (tgt := 81) hx hb d_8_13_48 (by decide) (fun c553 => ?_) (fun c553 => absurd (by decide) c553)
                refine lv_iload_n hx hb d_8_13_81 rfl (lv_at hl 1 rfl) ?_
                exact q_reti C0 V (Or.inl ⟨(((cf9 + 1) + 1) + 1), y549, y550, f547, f548, (q_Ile (x := 1) (y := (((cf9.toInt + 1) + 1) + 1)) (by decide) (q_addI (x := ((cf9.toInt + 1) + 1)) (y := 1) (q_addI (x := (cf9.toInt + 1)) (y := 1) (q_addI (x := cf9.toInt) (y := 1) rfl (by decide) (by have t1 : 1 ≤ cf9.toInt := q_leI e11; have t2 : cf9.toInt ≤ 62 := q_leI e12; omega) (by have t1 : 1 ≤ cf9.toInt := q_leI e11; have t2 : cf9.toInt ≤ 62 := q_leI e12; omega)) (by decide) (by have t1 : 1 ≤ cf9.toInt := q_leI e11; have t2 : cf9.toInt ≤ 62 := q_leI e12; omega) (by have t1 : 1 ≤ cf9.toInt := q_leI e11; have t2 : cf9.toInt ≤ 62 := q_leI e12; omega)) (by decide) (by have t1 : 1 ≤ cf9.toInt := q_leI e11; have t2 : cf9.toInt ≤ 62 := q_leI e12; omega) (by have t1 : 1 ≤ cf9.toInt := q_leI e11; have t2 : cf9.toInt ≤ 62 := q_leI e12; omega)) (by have t1 : 1 ≤ cf9.toInt := q_leI e11; have t2 : cf9.toInt ≤ 62 := q_leI e12; omega)), (q_Ile (x := (((cf9.toInt + 1) + 1) + 1)) (y := 70) (q_addI (x := ((cf9.toInt + 1) + 1)) (y := 1) (q_addI (x := (cf9.toInt + 1)) (y := 1) (q_addI (x := cf9.toInt) (y := 1) rfl (by decide) (by have t1 : 1 ≤ cf9.toInt := q_leI e11; have t2 : cf9.toInt ≤ 62 := q_leI e12; omega) (by have t1 : 1 ≤ cf9.toInt := q_leI e11; have t2 : cf9.toInt ≤ 62 := q_leI e12; omega)) (by decide) (by have t1 : 1 ≤ cf9.toInt := q_leI e11; have t2 : cf9.toInt ≤ 62 := q_leI e12; omega) (by have t1 : 1 ≤ cf9.toInt := q_leI e11; have t2 : cf9.toInt ≤ 62 := q_leI e12; omega)) (by decide) (by have t1 : 1 ≤ cf9.toInt := q_leI e11; have t2 : cf9.toInt ≤ 62 := q_leI e12; omega) (by have t1 : 1 ≤ cf9.toInt := q_leI e11; have t2 : cf9.toInt ≤ 62 := q_leI e12; omega)) (by decide) (by have t1 : 1 ≤ cf9.toInt := q_leI e11; have t2 : cf9.toInt ≤ 62 := q_leI e12; omega)), rfl, hF, hO6, hA16⟩) d_8_13_82
            ·
              refine lv_if_lt (tgt := 81) hx hb d_8_13_59 (by decide) (fun c554 => absurd c554 (by decide)) (fun c554 => ?_)
              refine lv_aload_n hx hb d_8_13_62 rfl (lv_at hl 2 rfl) ?_
              refine q_get (ci := 4) (j := 5) (v := .ref qO6) C0 V i_Mil rfl rfl hO0 (by decide) w_124 rfl d_8_13_63 ?_
              refine lv_bipush (v := 10) hx hb d_8_13_66 (by decide) ?_
              refine lv_iconst (v := 0) hx hb d_8_13_68 (by decide) ?_
              refine q_gov V (q_runV (As := [.int 10, .int 0]) (rest := []) (d := 1) (mc := 0) (ms := 0) (ci := 2) C0 V rfl LV_Mil_102 (c_Big_multiplySmall_4 l D g u527 kO6 kA16 qO6 qA16 y359 y528 hO6 hA16 f357 f358 _) rfl rfl hO6 rfl hl.1 rfl (Nat.le_of_ble_eq_true rfl) ⟨by decide, by decide⟩ ⟨Nat.le_of_ble_eq_true rfl, Nat.le_of_ble_eq_true rfl⟩ d_8_13_69) (fun u556 H locs hp555 V => ?_)
              rcases hp555 with ⟨y557, hg558, hO6, hA16⟩ | ⟨y561, y562, f559, f560, hg563, hO6, hA16⟩
              ·
                replace hF := q_uc hF hg558 (q_sc (.head _) (q_sc (.tail _ (.head _)) (fun _ h => absurd h List.not_mem_nil)))
                refine lv_iinc (v := ((cf9 + 1) + 1) + 1) (lv' := [(2, .int (((cf9 + 1) + 1) + 1)), (3, .int 2), (0, .ref qO0), (1, .ref qO1)]) hx hb d_8_13_72 hl (k := 1) rfl (rfl) (by decide) rfl (fun ls hl => ?_)
                refine lv_iinc (v := 3) (lv' := [(3, .int 3), (2, .int (((cf9 + 1) + 1) + 1)), (0, .ref qO0), (1, .ref qO1)]) hx hb d_8_13_75 hl (k := 1) rfl (by decide) (by decide) rfl (fun ls hl => ?_)
                refine lv_goto (tgt := 46) hx hb d_8_13_78 (by decide) ?_
                refine lv_iload_n hx hb d_8_13_46 rfl (lv_at hl 0 rfl) ?_
                refine lv_iconst (v := 3) hx hb d_8_13_47 (by decide) ?_
                refine lv_icmp_ge (tgt := 81) hx hb d_8_13_48 (by decide) (fun c564 => ?_) (fun c564 => absurd (by decide) c564)
                refine lv_iload_n hx hb d_8_13_81 rfl (lv_at hl 1 rfl) ?_
                exact q_reti C0 V (Or.inl ⟨(((cf9 + 1) + 1) + 1), y359, y557, f357, f358, (q_Ile (x := 1) (y := (((cf9.toInt + 1) + 1) + 1)) (by decide) (q_addI (x := ((cf9.toInt + 1) + 1)) (y := 1) (q_addI (x := (cf9.toInt + 1)) (y := 1) (q_addI (x := cf9.toInt) (y := 1) rfl (by decide) (by have t1 : 1 ≤ cf9.toInt := q_leI e11; have t2 : cf9.toInt ≤ 62 := q_leI e12; omega) (by have t1 : 1 ≤ cf9.toInt := q_leI e11; have t2 : cf9.toInt ≤ 62 := q_leI e12; omega)) (by decide) (by have t1 : 1 ≤ cf9.toInt := q_leI e11; have t2 : cf9.toInt ≤ 62 := q_leI e12; omega) (by have t1 : 1 ≤ cf9.toInt := q_leI e11; have t2 : cf9.toInt ≤ 62 := q_leI e12; omega)) (by decide) (by have t1 : 1 ≤ cf9.toInt := q_leI e11; have t2 : cf9.toInt ≤ 62 := q_leI e12; omega) (by have t1 : 1 ≤ cf9.toInt := q_leI e11; have t2 : cf9.toInt ≤ 62 := q_leI e12; omega)) (by have t1 : 1 ≤ cf9.toInt := q_leI e11; have t2 : cf9.toInt ≤ 62 := q_leI e12; omega)), (q_Ile (x := (((cf9.toInt + 1) + 1) + 1)) (y := 70) (q_addI (x := ((cf9.toInt + 1) + 1)) (y := 1) (q_addI (x := (cf9.toInt + 1)) (y := 1) (q_addI (x := cf9.toInt) (y := 1) rfl (by decide) (by have t1 : 1 ≤ cf9.toInt := q_leI e11; have t2 : cf9.toInt ≤ 62 := q_leI e12; omega) (by have t1 : 1 ≤ cf9.toInt := q_leI e11; have t2 : cf9.toInt ≤ 62 := q_leI e12; omega)) (by decide) (by have t1 : 1 ≤ cf9.toInt := q_leI e11; have t2 : cf9.toInt ≤ 62 := q_leI e12; omega) (by have t1 : 1 ≤ cf9.toInt := q_leI e11; have t2 : cf9.toInt ≤ 62 := q_leI e12; omega)) (by decide) (by have t1 : 1 ≤ cf9.toInt := q_leI e11; have t2 : cf9.toInt ≤ 62 := q_leI e12; omega) (by have t1 : 1 ≤ cf9.toInt := q_leI e11; have t2 : cf9.toInt ≤ 62 := q_leI e12; omega)) (by decide) (by have t1 : 1 ≤ cf9.toInt := q_leI e11; have t2 : cf9.toInt ≤ 62 := q_leI e12; omega)), rfl, hF, hO6, hA16⟩) d_8_13_82
              ·
                replace hF := q_uc hF hg563 (q_sc (.head _) (q_sc (.tail _ (.head _)) (fun _ h => absurd h List.not_mem_nil)))
                refine lv_iinc (v := ((cf9 + 1) + 1) + 1) (lv' := [(2, .int (((cf9 + 1) + 1) + 1)), (3, .int 2), (0, .ref qO0), (1, .ref qO1)]) hx hb d_8_13_72 hl (k := 1) rfl (rfl) (by decide) rfl (fun ls hl => ?_)
                refine lv_iinc (v := 3) (lv' := [(3, .int 3), (2, .int (((cf9 + 1) + 1) + 1)), (0, .ref qO0), (1, .ref qO1)]) hx hb d_8_13_75 hl (k := 1) rfl (by decide) (by decide) rfl (fun ls hl => ?_)
                refine lv_goto (tgt := 46) hx hb d_8_13_78 (by decide) ?_
                refine lv_iload_n hx hb d_8_13_46 rfl (lv_at hl 0 rfl) ?_
                refine lv_iconst (v := 3) hx hb d_8_13_47 (by decide) ?_
                refine lv_icmp_ge (tgt := 81) hx hb d_8_13_48 (by decide) (fun c565 => ?_) (fun c565 => absurd (by decide) c565)
                refine lv_iload_n hx hb d_8_13_81 rfl (lv_at hl 1 rfl) ?_
                exact q_reti C0 V (Or.inl ⟨(((cf9 + 1) + 1) + 1), y561, y562, f559, f560, (q_Ile (x := 1) (y := (((cf9.toInt + 1) + 1) + 1)) (by decide) (q_addI (x := ((cf9.toInt + 1) + 1)) (y := 1) (q_addI (x := (cf9.toInt + 1)) (y := 1) (q_addI (x := cf9.toInt) (y := 1) rfl (by decide) (by have t1 : 1 ≤ cf9.toInt := q_leI e11; have t2 : cf9.toInt ≤ 62 := q_leI e12; omega) (by have t1 : 1 ≤ cf9.toInt := q_leI e11; have t2 : cf9.toInt ≤ 62 := q_leI e12; omega)) (by decide) (by have t1 : 1 ≤ cf9.toInt := q_leI e11; have t2 : cf9.toInt ≤ 62 := q_leI e12; omega) (by have t1 : 1 ≤ cf9.toInt := q_leI e11; have t2 : cf9.toInt ≤ 62 := q_leI e12; omega)) (by decide) (by have t1 : 1 ≤ cf9.toInt := q_leI e11; have t2 : cf9.toInt ≤ 62 := q_leI e12; omega) (by have t1 : 1 ≤ cf9.toInt := q_leI e11; have t2 : cf9.toInt ≤ 62 := q_leI e12; omega)) (by have t1 : 1 ≤ cf9.toInt := q_leI e11; have t2 : cf9.toInt ≤ 62 := q_leI e12; omega)), (q_Ile (x := (((cf9.toInt + 1) + 1) + 1)) (y := 70) (q_addI (x := ((cf9.toInt + 1) + 1)) (y := 1) (q_addI (x := (cf9.toInt + 1)) (y := 1) (q_addI (x := cf9.toInt) (y := 1) rfl (by decide) (by have t1 : 1 ≤ cf9.toInt := q_leI e11; have t2 : cf9.toInt ≤ 62 := q_leI e12; omega) (by have t1 : 1 ≤ cf9.toInt := q_leI e11; have t2 : cf9.toInt ≤ 62 := q_leI e12; omega)) (by decide) (by have t1 : 1 ≤ cf9.toInt := q_leI e11; have t2 : cf9.toInt ≤ 62 := q_leI e12; omega) (by have t1 : 1 ≤ cf9.toInt := q_leI e11; have t2 : cf9.toInt ≤ 62 := q_leI e12; omega)) (by decide) (by have t1 : 1 ≤ cf9.toInt := q_leI e11; have t2 : cf9.toInt ≤ 62 := q_leI e12; omega) (by have t1 : 1 ≤ cf9.toInt := q_leI e11; have t2 : cf9.toInt ≤ 62 := q_leI e12; omega)) (by decide) (by have t1 : 1 ≤ cf9.toInt := q_leI e11; have t2 : cf9.toInt ≤ 62 := q_leI e12; omega)), rfl, hF, hO6, hA16⟩) d_8_13_82
            ·
              refine lv_if_lt (tgt := 81) hx hb d_8_13_59 (by decide) (fun c566 => ?_) (fun c566 => absurd (by decide) c566)
              refine lv_iload_n hx hb d_8_13_81 rfl (lv_at hl 1 rfl) ?_
              exact q_reti C0 V (Or.inl ⟨((cf9 + 1) + 1), y359, y528, f357, f358, (q_Ile (x := 1) (y := ((cf9.toInt + 1) + 1)) (by decide) (q_addI (x := (cf9.toInt + 1)) (y := 1) (q_addI (x := cf9.toInt) (y := 1) rfl (by decide) (by have t1 : 1 ≤ cf9.toInt := q_leI e11; have t2 : cf9.toInt ≤ 62 := q_leI e12; omega) (by have t1 : 1 ≤ cf9.toInt := q_leI e11; have t2 : cf9.toInt ≤ 62 := q_leI e12; omega)) (by decide) (by have t1 : 1 ≤ cf9.toInt := q_leI e11; have t2 : cf9.toInt ≤ 62 := q_leI e12; omega) (by have t1 : 1 ≤ cf9.toInt := q_leI e11; have t2 : cf9.toInt ≤ 62 := q_leI e12; omega)) (by have t1 : 1 ≤ cf9.toInt := q_leI e11; have t2 : cf9.toInt ≤ 62 := q_leI e12; omega)), (q_Ile (x := ((cf9.toInt + 1) + 1)) (y := 70) (q_addI (x := (cf9.toInt + 1)) (y := 1) (q_addI (x := cf9.toInt) (y := 1) rfl (by decide) (by have t1 : 1 ≤ cf9.toInt := q_leI e11; have t2 : cf9.toInt ≤ 62 := q_leI e12; omega) (by have t1 : 1 ≤ cf9.toInt := q_leI e11; have t2 : cf9.toInt ≤ 62 := q_leI e12; omega)) (by decide) (by have t1 : 1 ≤ cf9.toInt := q_leI e11; have t2 : cf9.toInt ≤ 62 := q_leI e12; omega) (by have t1 : 1 ≤ cf9.toInt := q_leI e11; have t2 : cf9.toInt ≤ 62 := q_leI e12; omega)) (by decide) (by have t1 : 1 ≤ cf9.toInt := q_leI e11; have t2 : cf9.toInt ≤ 62 := q_leI e12; omega)), rfl, hF, hO6, hA16⟩) d_8_13_82
          ·
            replace hF := q_uc hF hg534 (q_sc (.head _) (q_sc (.tail _ (.head _)) (fun _ h => absurd h List.not_mem_nil)))
            refine lv_iinc (v := (cf9 + 1) + 1) (lv' := [(2, .int ((cf9 + 1) + 1)), (3, .int 1), (0, .ref qO0), (1, .ref qO1)]) hx hb d_8_13_72 hl (k := 1) rfl (rfl) (by decide) rfl (fun ls hl => ?_)
            refine lv_iinc (v := 2) (lv' := [(3, .int 2), (2, .int ((cf9 + 1) + 1)), (0, .ref qO0), (1, .ref qO1)]) hx hb d_8_13_75 hl (k := 1) rfl (by decide) (by decide) rfl (fun ls hl => ?_)
            refine lv_goto (tgt := 46) hx hb d_8_13_78 (by decide) ?_
            refine lv_iload_n hx hb d_8_13_46 rfl (lv_at hl 0 rfl) ?_
            refine lv_iconst (v := 3) hx hb d_8_13_47 (by decide) ?_
            refine lv_icmp_ge (tgt := 81) hx hb d_8_13_48 (by decide) (fun c567 => absurd c567 (by decide)) (fun c567 => ?_)
            refine lv_aload_n hx hb d_8_13_51 rfl (lv_at hl 3 rfl) ?_
            refine lv_aload_n hx hb d_8_13_52 rfl (lv_at hl 2 rfl) ?_
            replace hO0 := (hg534 _ (q_nc n_O0_O6 (q_nc n_O0_A16 List.not_mem_nil))).trans (hO0)
            refine q_get (ci := 4) (j := 5) (v := .ref qO6) C0 V i_Mil rfl rfl hO0 (by decide) w_124 rfl d_8_13_53 ?_
            replace hO1 := (hg534 _ (q_nc n_O1_O6 (q_nc n_O1_A16 List.not_mem_nil))).trans (hO1)
            replace hA11 := (hg534 _ (q_nc n_A11_O6 (q_nc n_A11_A16 List.not_mem_nil))).trans (hA11)
            refine q_goi V (q_runV (As := [.ref qO6]) (rest := []) (d := 2) (mc := 0) (ms := 0) (ci := 2) C0 V rfl LV_Mil_112 (c_Big_compareSize_3 l D g u527 kO1 kO6 kA11 kA16 qO1 qO6 qA11 qA16 y1 y2 y532 f3 y533 hO1 hO6 hA11 hA16 (q_Ile (x := 1) (y := y1.toInt) (by decide) rfl (by have t1 : 0 ≤ y1.toInt := q_leI y1lo; have t2 : y1.toInt ≤ 3 := q_leI y1hi; have t3 : y1.toInt ≠ 0 := q_neI c1; omega)) y1hi y2lo y2hi f530 f531 _) rfl rfl hO1 rfl hl.1 rfl (Nat.le_of_ble_eq_true rfl) ⟨by decide, by decide⟩ ⟨Nat.le_of_ble_eq_true rfl, Nat.le_of_ble_eq_true rfl⟩ d_8_13_56) (fun v570 u569 H locs hp568 V => ?_)
            rcases hp568 with ⟨rfl, rfl⟩ | ⟨rfl, rfl⟩ | ⟨rfl, rfl⟩
            ·
              refine lv_if_lt (tgt := 81) hx hb d_8_13_59 (by decide) (fun c574 => absurd c574 (by decide)) (fun c574 => ?_)
              refine lv_aload_n hx hb d_8_13_62 rfl (lv_at hl 2 rfl) ?_
              refine q_get (ci := 4) (j := 5) (v := .ref qO6) C0 V i_Mil rfl rfl hO0 (by decide) w_124 rfl d_8_13_63 ?_
              refine lv_bipush (v := 10) hx hb d_8_13_66 (by decide) ?_
              refine lv_iconst (v := 0) hx hb d_8_13_68 (by decide) ?_
              refine q_gov V (q_runV (As := [.int 10, .int 0]) (rest := []) (d := 1) (mc := 0) (ms := 0) (ci := 2) C0 V rfl LV_Mil_102 (c_Big_multiplySmall_4 l D g u527 kO6 kA16 qO6 qA16 y532 y533 hO6 hA16 f530 f531 _) rfl rfl hO6 rfl hl.1 rfl (Nat.le_of_ble_eq_true rfl) ⟨by decide, by decide⟩ ⟨Nat.le_of_ble_eq_true rfl, Nat.le_of_ble_eq_true rfl⟩ d_8_13_69) (fun u576 H locs hp575 V => ?_)
              rcases hp575 with ⟨y577, hg578, hO6, hA16⟩ | ⟨y581, y582, f579, f580, hg583, hO6, hA16⟩
              ·
                replace hF := q_uc hF hg578 (q_sc (.head _) (q_sc (.tail _ (.head _)) (fun _ h => absurd h List.not_mem_nil)))
                refine lv_iinc (v := ((cf9 + 1) + 1) + 1) (lv' := [(2, .int (((cf9 + 1) + 1) + 1)), (3, .int 2), (0, .ref qO0), (1, .ref qO1)]) hx hb d_8_13_72 hl (k := 1) rfl (rfl) (by decide) rfl (fun ls hl => ?_)
                refine lv_iinc (v := 3) (lv' := [(3, .int 3), (2, .int (((cf9 + 1) + 1) + 1)), (0, .ref qO0), (1, .ref qO1)]) hx hb d_8_13_75 hl (k := 1) rfl (by decide) (by decide) rfl (fun ls hl => ?_)
                refine lv_goto (tgt := 46) hx hb d_8_13_78 (by decide) ?_
                refine lv_iload_n hx hb d_8_13_46 rfl (lv_at hl 0 rfl) ?_
                refine lv_iconst (v := 3) hx hb d_8_13_47 (by decide) ?_
                refine lv_icmp_ge (tgt := 81) hx hb d_8_13_48 (by decide) (fun c584 => ?_) (fun c584 => absurd (by decide) c584)
                refine lv_iload_n hx hb d_8_13_81 rfl (lv_at hl 1 rfl) ?_
                exact q_reti C0 V (Or.inl ⟨(((cf9 + 1) + 1) + 1), y532, y577, f530, f531, (q_Ile (x := 1) (y := (((cf9.toInt + 1) + 1) + 1)) (by decide) (q_addI (x := ((cf9.toInt + 1) + 1)) (y := 1) (q_addI (x := (cf9.toInt + 1)) (y := 1) (q_addI (x := cf9.toInt) (y := 1) rfl (by decide) (by have t1 : 1 ≤ cf9.toInt := q_leI e11; have t2 : cf9.toInt ≤ 62 := q_leI e12; omega) (by have t1 : 1 ≤ cf9.toInt := q_leI e11; have t2 : cf9.toInt ≤ 62 := q_leI e12; omega)) (by decide) (by have t1 : 1 ≤ cf9.toInt := q_leI e11; have t2 : cf9.toInt ≤ 62 := q_leI e12; omega) (by have t1 : 1 ≤ cf9.toInt := q_leI e11; have t2 : cf9.toInt ≤ 62 := q_leI e12; omega)) (by decide) (by have t1 : 1 ≤ cf9.toInt := q_leI e11; have t2 : cf9.toInt ≤ 62 := q_leI e12; omega) (by have t1 : 1 ≤ cf9.toInt := q_leI e11; have t2 : cf9.toInt ≤ 62 := q_leI e12; omega)) (by have t1 : 1 ≤ cf9.toInt := q_leI e11; have t2 : cf9.toInt ≤ 62 := q_leI e12; omega)), (q_Ile (x := (((cf9.toInt + 1) + 1) + 1)) (y := 70) (q_addI (x := ((cf9.toInt + 1) + 1)) (y := 1) (q_addI (x := (cf9.toInt + 1)) (y := 1) (q_addI (x := cf9.toInt) (y := 1) rfl (by decide) (by have t1 : 1 ≤ cf9.toInt := q_leI e11; have t2 : cf9.toInt ≤ 62 := q_leI e12; omega) (by have t1 : 1 ≤ cf9.toInt := q_leI e11; have t2 : cf9.toInt ≤ 62 := q_leI e12; omega)) (by decide) (by have t1 : 1 ≤ cf9.toInt := q_leI e11; have t2 : cf9.toInt ≤ 62 := q_leI e12; omega) (by have t1 : 1 ≤ cf9.toInt := q_leI e11; have t2 : cf9.toInt ≤ 62 := q_leI e12; omega)) (by decide) (by have t1 : 1 ≤ cf9.toInt := q_leI e11; have t2 : cf9.toInt ≤ 62 := q_leI e12; omega) (by have t1 : 1 ≤ cf9.toInt := q_leI e11; have t2 : cf9.toInt ≤ 62 := q_leI e12; omega)) (by decide) (by have t1 : 1 ≤ cf9.toInt := q_leI e11; have t2 : cf9.toInt ≤ 62 := q_leI e12; omega)), rfl, hF, hO6, hA16⟩) d_8_13_82
              ·
                replace hF := q_uc hF hg583 (q_sc (.head _) (q_sc (.tail _ (.head _)) (fun _ h => absurd h List.not_mem_nil)))
                refine lv_iinc (v := ((cf9 + 1) + 1) + 1) (lv' := [(2, .int (((cf9 + 1) + 1) + 1)), (3, .int 2), (0, .ref qO0), (1, .ref qO1)]) hx hb d_8_13_72 hl (k := 1) rfl (rfl) (by decide) rfl (fun ls hl => ?_)
                refine lv_iinc (v := 3) (lv' := [(3, .int 3), (2, .int (((cf9 + 1) + 1) + 1)), (0, .ref qO0), (1, .ref qO1)]) hx hb d_8_13_75 hl (k := 1) rfl (by decide) (by decide) rfl (fun ls hl => ?_)
                refine lv_goto (tgt := 46) hx hb d_8_13_78 (by decide) ?_
                refine lv_iload_n hx hb d_8_13_46 rfl (lv_at hl 0 rfl) ?_
                refine lv_iconst (v := 3) hx hb d_8_13_47 (by decide) ?_
                refine lv_icmp_ge (tgt := 81) hx hb d_8_13_48 (by decide) (fun c585 => ?_) (fun c585 => absurd (by decide) c585)
                refine lv_iload_n hx hb d_8_13_81 rfl (lv_at hl 1 rfl) ?_
                exact q_reti C0 V (Or.inl ⟨(((cf9 + 1) + 1) + 1), y581, y582, f579, f580, (q_Ile (x := 1) (y := (((cf9.toInt + 1) + 1) + 1)) (by decide) (q_addI (x := ((cf9.toInt + 1) + 1)) (y := 1) (q_addI (x := (cf9.toInt + 1)) (y := 1) (q_addI (x := cf9.toInt) (y := 1) rfl (by decide) (by have t1 : 1 ≤ cf9.toInt := q_leI e11; have t2 : cf9.toInt ≤ 62 := q_leI e12; omega) (by have t1 : 1 ≤ cf9.toInt := q_leI e11; have t2 : cf9.toInt ≤ 62 := q_leI e12; omega)) (by decide) (by have t1 : 1 ≤ cf9.toInt := q_leI e11; have t2 : cf9.toInt ≤ 62 := q_leI e12; omega) (by have t1 : 1 ≤ cf9.toInt := q_leI e11; have t2 : cf9.toInt ≤ 62 := q_leI e12; omega)) (by decide) (by have t1 : 1 ≤ cf9.toInt := q_leI e11; have t2 : cf9.toInt ≤ 62 := q_leI e12; omega) (by have t1 : 1 ≤ cf9.toInt := q_leI e11; have t2 : cf9.toInt ≤ 62 := q_leI e12; omega)) (by have t1 : 1 ≤ cf9.toInt := q_leI e11; have t2 : cf9.toInt ≤ 62 := q_leI e12; omega)), (q_Ile (x := (((cf9.toInt + 1) + 1) + 1)) (y := 70) (q_addI (x := ((cf9.toInt + 1) + 1)) (y := 1) (q_addI (x := (cf9.toInt + 1)) (y := 1) (q_addI (x := cf9.toInt) (y := 1) rfl (by decide) (by have t1 : 1 ≤ cf9.toInt := q_leI e11; have t2 : cf9.toInt ≤ 62 := q_leI e12; omega) (by have t1 : 1 ≤ cf9.toInt := q_leI e11; have t2 : cf9.toInt ≤ 62 := q_leI e12; omega)) (by decide) (by have t1 : 1 ≤ cf9.toInt := q_leI e11; have t2 : cf9.toInt ≤ 62 := q_leI e12; omega) (by have t1 : 1 ≤ cf9.toInt := q_leI e11; have t2 : cf9.toInt ≤ 62 := q_leI e12; omega)) (by decide) (by have t1 : 1 ≤ cf9.toInt := q_leI e11; have t2 : cf9.toInt ≤ 62 := q_leI e12; omega) (by have t1 : 1 ≤ cf9.toInt := q_leI e11; have t2 : cf9.toInt ≤ 62 := q_leI e12; omega)) (by decide) (by have t1 : 1 ≤ cf9.toInt := q_leI e11; have t2 : cf9.toInt ≤ 62 := q_leI e12; omega)), rfl, hF, hO6, hA16⟩) d_8_13_82
            ·
              refine lv_if_lt (tgt := 81) hx hb d_8_13_59 (by decide) (fun c586 => absurd c586 (by decide)) (fun c586 => ?_)
              refine lv_aload_n hx hb d_8_13_62 rfl (lv_at hl 2 rfl) ?_
              refine q_get (ci := 4) (j := 5) (v := .ref qO6) C0 V i_Mil rfl rfl hO0 (by decide) w_124 rfl d_8_13_63 ?_
              refine lv_bipush (v := 10) hx hb d_8_13_66 (by decide) ?_
              refine lv_iconst (v := 0) hx hb d_8_13_68 (by decide) ?_
              refine q_gov V (q_runV (As := [.int 10, .int 0]) (rest := []) (d := 1) (mc := 0) (ms := 0) (ci := 2) C0 V rfl LV_Mil_102 (c_Big_multiplySmall_4 l D g u527 kO6 kA16 qO6 qA16 y532 y533 hO6 hA16 f530 f531 _) rfl rfl hO6 rfl hl.1 rfl (Nat.le_of_ble_eq_true rfl) ⟨by decide, by decide⟩ ⟨Nat.le_of_ble_eq_true rfl, Nat.le_of_ble_eq_true rfl⟩ d_8_13_69) (fun u588 H locs hp587 V => ?_)
              rcases hp587 with ⟨y589, hg590, hO6, hA16⟩ | ⟨y593, y594, f591, f592, hg595, hO6, hA16⟩
              ·
                replace hF := q_uc hF hg590 (q_sc (.head _) (q_sc (.tail _ (.head _)) (fun _ h => absurd h List.not_mem_nil)))
                refine lv_iinc (v := ((cf9 + 1) + 1) + 1) (lv' := [(2, .int (((cf9 + 1) + 1) + 1)), (3, .int 2), (0, .ref qO0), (1, .ref qO1)]) hx hb d_8_13_72 hl (k := 1) rfl (rfl) (by decide) rfl (fun ls hl => ?_)
                refine lv_iinc (v := 3) (lv' := [(3, .int 3), (2, .int (((cf9 + 1) + 1) + 1)), (0, .ref qO0), (1, .ref qO1)]) hx hb d_8_13_75 hl (k := 1) rfl (by decide) (by decide) rfl (fun ls hl => ?_)
                refine lv_goto (tgt := 46) hx hb d_8_13_78 (by decide) ?_
                refine lv_iload_n hx hb d_8_13_46 rfl (lv_at hl 0 rfl) ?_
                refine lv_iconst (v := 3) hx hb d_8_13_47 (by decide) ?_
                refine lv_icmp_ge (tgt := 81) hx hb d_8_13_48 (by decide) (fun c596 => ?_) (fun c596 => absurd (by decide) c596)
                refine lv_iload_n hx hb d_8_13_81 rfl (lv_at hl 1 rfl) ?_
                exact q_reti C0 V (Or.inl ⟨(((cf9 + 1) + 1) + 1), y532, y589, f530, f531, (q_Ile (x := 1) (y := (((cf9.toInt + 1) + 1) + 1)) (by decide) (q_addI (x := ((cf9.toInt + 1) + 1)) (y := 1) (q_addI (x := (cf9.toInt + 1)) (y := 1) (q_addI (x := cf9.toInt) (y := 1) rfl (by decide) (by have t1 : 1 ≤ cf9.toInt := q_leI e11; have t2 : cf9.toInt ≤ 62 := q_leI e12; omega) (by have t1 : 1 ≤ cf9.toInt := q_leI e11; have t2 : cf9.toInt ≤ 62 := q_leI e12; omega)) (by decide) (by have t1 : 1 ≤ cf9.toInt := q_leI e11; have t2 : cf9.toInt ≤ 62 := q_leI e12; omega) (by have t1 : 1 ≤ cf9.toInt := q_leI e11; have t2 : cf9.toInt ≤ 62 := q_leI e12; omega)) (by decide) (by have t1 : 1 ≤ cf9.toInt := q_leI e11; have t2 : cf9.toInt ≤ 62 := q_leI e12; omega) (by have t1 : 1 ≤ cf9.toInt := q_leI e11; have t2 : cf9.toInt ≤ 62 := q_leI e12; omega)) (by have t1 : 1 ≤ cf9.toInt := q_leI e11; have t2 : cf9.toInt ≤ 62 := q_leI e12; omega)), (q_Ile (x := (((cf9.toInt + 1) + 1) + 1)) (y := 70) (q_addI (x := ((cf9.toInt + 1) + 1)) (y := 1) (q_addI (x := (cf9.toInt + 1)) (y := 1) (q_addI (x := cf9.toInt) (y := 1) rfl (by decide) (by have t1 : 1 ≤ cf9.toInt := q_leI e11; have t2 : cf9.toInt ≤ 62 := q_leI e12; omega) (by have t1 : 1 ≤ cf9.toInt := q_leI e11; have t2 : cf9.toInt ≤ 62 := q_leI e12; omega)) (by decide) (by have t1 : 1 ≤ cf9.toInt := q_leI e11; have t2 : cf9.toInt ≤ 62 := q_leI e12; omega) (by have t1 : 1 ≤ cf9.toInt := q_leI e11; have t2 : cf9.toInt ≤ 62 := q_leI e12; omega)) (by decide) (by have t1 : 1 ≤ cf9.toInt := q_leI e11; have t2 : cf9.toInt ≤ 62 := q_leI e12; omega) (by have t1 : 1 ≤ cf9.toInt := q_leI e11; have t2 : cf9.toInt ≤ 62 := q_leI e12; omega)) (by decide) (by have t1 : 1 ≤ cf9.toInt := q_leI e11; have t2 : cf9.toInt ≤ 62 := q_leI e12; omega)), rfl, hF, hO6, hA16⟩) d_8_13_82
              ·
                replace hF := q_uc hF hg595 (q_sc (.head _) (q_sc (.tail _ (.head _)) (fun _ h => absurd h List.not_mem_nil)))
                refine lv_iinc (v := ((cf9 + 1) + 1) + 1) (lv' := [(2, .int (((cf9 + 1) + 1) + 1)), (3, .int 2), (0, .ref qO0), (1, .ref qO1)]) hx hb d_8_13_72 hl (k := 1) rfl (rfl) (by decide) rfl (fun ls hl => ?_)
                refine lv_iinc (v := 3) (lv' := [(3, .int 3), (2, .int (((cf9 + 1) + 1) + 1)), (0, .ref qO0), (1, .ref qO1)]) hx hb d_8_13_75 hl (k := 1) rfl (by decide) (by decide) rfl (fun ls hl => ?_)
                refine lv_goto (tgt := 46) hx hb d_8_13_78 (by decide) ?_
                refine lv_iload_n hx hb d_8_13_46 rfl (lv_at hl 0 rfl) ?_
                refine lv_iconst (v := 3) hx hb d_8_13_47 (by decide) ?_
                refine lv_icmp_ge (tgt := 81) hx hb d_8_13_48 (by decide) (fun c597 => ?_) (fun c597 => absurd (by decide) c597)
                refine lv_iload_n hx hb d_8_13_81 rfl (lv_at hl 1 rfl) ?_
                exact q_reti C0 V (Or.inl ⟨(((cf9 + 1) + 1) + 1), y593, y594, f591, f592, (q_Ile (x := 1) (y := (((cf9.toInt + 1) + 1) + 1)) (by decide) (q_addI (x := ((cf9.toInt + 1) + 1)) (y := 1) (q_addI (x := (cf9.toInt + 1)) (y := 1) (q_addI (x := cf9.toInt) (y := 1) rfl (by decide) (by have t1 : 1 ≤ cf9.toInt := q_leI e11; have t2 : cf9.toInt ≤ 62 := q_leI e12; omega) (by have t1 : 1 ≤ cf9.toInt := q_leI e11; have t2 : cf9.toInt ≤ 62 := q_leI e12; omega)) (by decide) (by have t1 : 1 ≤ cf9.toInt := q_leI e11; have t2 : cf9.toInt ≤ 62 := q_leI e12; omega) (by have t1 : 1 ≤ cf9.toInt := q_leI e11; have t2 : cf9.toInt ≤ 62 := q_leI e12; omega)) (by decide) (by have t1 : 1 ≤ cf9.toInt := q_leI e11; have t2 : cf9.toInt ≤ 62 := q_leI e12; omega) (by have t1 : 1 ≤ cf9.toInt := q_leI e11; have t2 : cf9.toInt ≤ 62 := q_leI e12; omega)) (by have t1 : 1 ≤ cf9.toInt := q_leI e11; have t2 : cf9.toInt ≤ 62 := q_leI e12; omega)), (q_Ile (x := (((cf9.toInt + 1) + 1) + 1)) (y := 70) (q_addI (x := ((cf9.toInt + 1) + 1)) (y := 1) (q_addI (x := (cf9.toInt + 1)) (y := 1) (q_addI (x := cf9.toInt) (y := 1) rfl (by decide) (by have t1 : 1 ≤ cf9.toInt := q_leI e11; have t2 : cf9.toInt ≤ 62 := q_leI e12; omega) (by have t1 : 1 ≤ cf9.toInt := q_leI e11; have t2 : cf9.toInt ≤ 62 := q_leI e12; omega)) (by decide) (by have t1 : 1 ≤ cf9.toInt := q_leI e11; have t2 : cf9.toInt ≤ 62 := q_leI e12; omega) (by have t1 : 1 ≤ cf9.toInt := q_leI e11; have t2 : cf9.toInt ≤ 62 := q_leI e12; omega)) (by decide) (by have t1 : 1 ≤ cf9.toInt := q_leI e11; have t2 : cf9.toInt ≤ 62 := q_leI e12; omega) (by have t1 : 1 ≤ cf9.toInt := q_leI e11; have t2 : cf9.toInt ≤ 62 := q_leI e12; omega)) (by decide) (by have t1 : 1 ≤ cf9.toInt := q_leI e11; have t2 : cf9.toInt ≤ 62 := q_leI e12; omega)), rfl, hF, hO6, hA16⟩) d_8_13_82
            ·
              refine lv_if_lt (tgt := 81) hx hb d_8_13_59 (by decide) (fun c598 => ?_) (fun c598 => absurd (by decide) c598)
              refine lv_iload_n hx hb d_8_13_81 rfl (lv_at hl 1 rfl) ?_
              exact q_reti C0 V (Or.inl ⟨((cf9 + 1) + 1), y532, y533, f530, f531, (q_Ile (x := 1) (y := ((cf9.toInt + 1) + 1)) (by decide) (q_addI (x := (cf9.toInt + 1)) (y := 1) (q_addI (x := cf9.toInt) (y := 1) rfl (by decide) (by have t1 : 1 ≤ cf9.toInt := q_leI e11; have t2 : cf9.toInt ≤ 62 := q_leI e12; omega) (by have t1 : 1 ≤ cf9.toInt := q_leI e11; have t2 : cf9.toInt ≤ 62 := q_leI e12; omega)) (by decide) (by have t1 : 1 ≤ cf9.toInt := q_leI e11; have t2 : cf9.toInt ≤ 62 := q_leI e12; omega) (by have t1 : 1 ≤ cf9.toInt := q_leI e11; have t2 : cf9.toInt ≤ 62 := q_leI e12; omega)) (by have t1 : 1 ≤ cf9.toInt := q_leI e11; have t2 : cf9.toInt ≤ 62 := q_leI e12; omega)), (q_Ile (x := ((cf9.toInt + 1) + 1)) (y := 70) (q_addI (x := (cf9.toInt + 1)) (y := 1) (q_addI (x := cf9.toInt) (y := 1) rfl (by decide) (by have t1 : 1 ≤ cf9.toInt := q_leI e11; have t2 : cf9.toInt ≤ 62 := q_leI e12; omega) (by have t1 : 1 ≤ cf9.toInt := q_leI e11; have t2 : cf9.toInt ≤ 62 := q_leI e12; omega)) (by decide) (by have t1 : 1 ≤ cf9.toInt := q_leI e11; have t2 : cf9.toInt ≤ 62 := q_leI e12; omega) (by have t1 : 1 ≤ cf9.toInt := q_leI e11; have t2 : cf9.toInt ≤ 62 := q_leI e12; omega)) (by decide) (by have t1 : 1 ≤ cf9.toInt := q_leI e11; have t2 : cf9.toInt ≤ 62 := q_leI e12; omega)), rfl, hF, hO6, hA16⟩) d_8_13_82
        ·
          refine lv_if_lt (tgt := 81) hx hb d_8_13_59 (by decide) (fun c599 => absurd c599 (by decide)) (fun c599 => ?_)
          refine lv_aload_n hx hb d_8_13_62 rfl (lv_at hl 2 rfl) ?_
          refine q_get (ci := 4) (j := 5) (v := .ref qO6) C0 V i_Mil rfl rfl hO0 (by decide) w_124 rfl d_8_13_63 ?_
          refine lv_bipush (v := 10) hx hb d_8_13_66 (by decide) ?_
          refine lv_iconst (v := 0) hx hb d_8_13_68 (by decide) ?_
          refine q_gov V (q_runV (As := [.int 10, .int 0]) (rest := []) (d := 1) (mc := 0) (ms := 0) (ci := 2) C0 V rfl LV_Mil_102 (c_Big_multiplySmall_4 l D g u354 kO6 kA16 qO6 qA16 y359 y360 hO6 hA16 f357 f358 _) rfl rfl hO6 rfl hl.1 rfl (Nat.le_of_ble_eq_true rfl) ⟨by decide, by decide⟩ ⟨Nat.le_of_ble_eq_true rfl, Nat.le_of_ble_eq_true rfl⟩ d_8_13_69) (fun u601 H locs hp600 V => ?_)
          rcases hp600 with ⟨y602, hg603, hO6, hA16⟩ | ⟨y606, y607, f604, f605, hg608, hO6, hA16⟩
          ·
            replace hF := q_uc hF hg603 (q_sc (.head _) (q_sc (.tail _ (.head _)) (fun _ h => absurd h List.not_mem_nil)))
            refine lv_iinc (v := (cf9 + 1) + 1) (lv' := [(2, .int ((cf9 + 1) + 1)), (3, .int 1), (0, .ref qO0), (1, .ref qO1)]) hx hb d_8_13_72 hl (k := 1) rfl (rfl) (by decide) rfl (fun ls hl => ?_)
            refine lv_iinc (v := 2) (lv' := [(3, .int 2), (2, .int ((cf9 + 1) + 1)), (0, .ref qO0), (1, .ref qO1)]) hx hb d_8_13_75 hl (k := 1) rfl (by decide) (by decide) rfl (fun ls hl => ?_)
            refine lv_goto (tgt := 46) hx hb d_8_13_78 (by decide) ?_
            refine lv_iload_n hx hb d_8_13_46 rfl (lv_at hl 0 rfl) ?_
            refine lv_iconst (v := 3) hx hb d_8_13_47 (by decide) ?_
            refine lv_icmp_ge (tgt := 81) hx hb d_8_13_48 (by decide) (fun c609 => absurd c609 (by decide)) (fun c609 => ?_)
            refine lv_aload_n hx hb d_8_13_51 rfl (lv_at hl 3 rfl) ?_
            refine lv_aload_n hx hb d_8_13_52 rfl (lv_at hl 2 rfl) ?_
            replace hO0 := (hg603 _ (q_nc n_O0_O6 (q_nc n_O0_A16 List.not_mem_nil))).trans (hO0)
            refine q_get (ci := 4) (j := 5) (v := .ref qO6) C0 V i_Mil rfl rfl hO0 (by decide) w_124 rfl d_8_13_53 ?_
            replace hO1 := (hg603 _ (q_nc n_O1_O6 (q_nc n_O1_A16 List.not_mem_nil))).trans (hO1)
            replace hA11 := (hg603 _ (q_nc n_A11_O6 (q_nc n_A11_A16 List.not_mem_nil))).trans (hA11)
            refine q_goi V (q_runV (As := [.ref qO6]) (rest := []) (d := 2) (mc := 0) (ms := 0) (ci := 2) C0 V rfl LV_Mil_112 (c_Big_compareSize_3 l D g u601 kO1 kO6 kA11 kA16 qO1 qO6 qA11 qA16 y1 y2 y359 f3 y602 hO1 hO6 hA11 hA16 (q_Ile (x := 1) (y := y1.toInt) (by decide) rfl (by have t1 : 0 ≤ y1.toInt := q_leI y1lo; have t2 : y1.toInt ≤ 3 := q_leI y1hi; have t3 : y1.toInt ≠ 0 := q_neI c1; omega)) y1hi y2lo y2hi f357 f358 _) rfl rfl hO1 rfl hl.1 rfl (Nat.le_of_ble_eq_true rfl) ⟨by decide, by decide⟩ ⟨Nat.le_of_ble_eq_true rfl, Nat.le_of_ble_eq_true rfl⟩ d_8_13_56) (fun v612 u611 H locs hp610 V => ?_)
            rcases hp610 with ⟨rfl, rfl⟩ | ⟨rfl, rfl⟩ | ⟨rfl, rfl⟩
            ·
              refine lv_if_lt (tgt := 81) hx hb d_8_13_59 (by decide) (fun c616 => absurd c616 (by decide)) (fun c616 => ?_)
              refine lv_aload_n hx hb d_8_13_62 rfl (lv_at hl 2 rfl) ?_
              refine q_get (ci := 4) (j := 5) (v := .ref qO6) C0 V i_Mil rfl rfl hO0 (by decide) w_124 rfl d_8_13_63 ?_
              refine lv_bipush (v := 10) hx hb d_8_13_66 (by decide) ?_
              refine lv_iconst (v := 0) hx hb d_8_13_68 (by decide) ?_
              refine q_gov V (q_runV (As := [.int 10, .int 0]) (rest := []) (d := 1) (mc := 0) (ms := 0) (ci := 2) C0 V rfl LV_Mil_102 (c_Big_multiplySmall_4 l D g u601 kO6 kA16 qO6 qA16 y359 y602 hO6 hA16 f357 f358 _) rfl rfl hO6 rfl hl.1 rfl (Nat.le_of_ble_eq_true rfl) ⟨by decide, by decide⟩ ⟨Nat.le_of_ble_eq_true rfl, Nat.le_of_ble_eq_true rfl⟩ d_8_13_69) (fun u618 H locs hp617 V => ?_)
              rcases hp617 with ⟨y619, hg620, hO6, hA16⟩ | ⟨y623, y624, f621, f622, hg625, hO6, hA16⟩
              ·
                replace hF := q_uc hF hg620 (q_sc (.head _) (q_sc (.tail _ (.head _)) (fun _ h => absurd h List.not_mem_nil)))
                refine lv_iinc (v := ((cf9 + 1) + 1) + 1) (lv' := [(2, .int (((cf9 + 1) + 1) + 1)), (3, .int 2), (0, .ref qO0), (1, .ref qO1)]) hx hb d_8_13_72 hl (k := 1) rfl (rfl) (by decide) rfl (fun ls hl => ?_)
                refine lv_iinc (v := 3) (lv' := [(3, .int 3), (2, .int (((cf9 + 1) + 1) + 1)), (0, .ref qO0), (1, .ref qO1)]) hx hb d_8_13_75 hl (k := 1) rfl (by decide) (by decide) rfl (fun ls hl => ?_)
                refine lv_goto (tgt := 46) hx hb d_8_13_78 (by decide) ?_
                refine lv_iload_n hx hb d_8_13_46 rfl (lv_at hl 0 rfl) ?_
                refine lv_iconst (v := 3) hx hb d_8_13_47 (by decide) ?_
                refine lv_icmp_ge (tgt := 81) hx hb d_8_13_48 (by decide) (fun c626 => ?_) (fun c626 => absurd (by decide) c626)
                refine lv_iload_n hx hb d_8_13_81 rfl (lv_at hl 1 rfl) ?_
                exact q_reti C0 V (Or.inl ⟨(((cf9 + 1) + 1) + 1), y359, y619, f357, f358, (q_Ile (x := 1) (y := (((cf9.toInt + 1) + 1) + 1)) (by decide) (q_addI (x := ((cf9.toInt + 1) + 1)) (y := 1) (q_addI (x := (cf9.toInt + 1)) (y := 1) (q_addI (x := cf9.toInt) (y := 1) rfl (by decide) (by have t1 : 1 ≤ cf9.toInt := q_leI e11; have t2 : cf9.toInt ≤ 62 := q_leI e12; omega) (by have t1 : 1 ≤ cf9.toInt := q_leI e11; have t2 : cf9.toInt ≤ 62 := q_leI e12; omega)) (by decide) (by have t1 : 1 ≤ cf9.toInt := q_leI e11; have t2 : cf9.toInt ≤ 62 := q_leI e12; omega) (by have t1 : 1 ≤ cf9.toInt := q_leI e11; have t2 : cf9.toInt ≤ 62 := q_leI e12; omega)) (by decide) (by have t1 : 1 ≤ cf9.toInt := q_leI e11; have t2 : cf9.toInt ≤ 62 := q_leI e12; omega) (by have t1 : 1 ≤ cf9.toInt := q_leI e11; have t2 : cf9.toInt ≤ 62 := q_leI e12; omega)) (by have t1 : 1 ≤ cf9.toInt := q_leI e11; have t2 : cf9.toInt ≤ 62 := q_leI e12; omega)), (q_Ile (x := (((cf9.toInt + 1) + 1) + 1)) (y := 70) (q_addI (x := ((cf9.toInt + 1) + 1)) (y := 1) (q_addI (x := (cf9.toInt + 1)) (y := 1) (q_addI (x := cf9.toInt) (y := 1) rfl (by decide) (by have t1 : 1 ≤ cf9.toInt := q_leI e11; have t2 : cf9.toInt ≤ 62 := q_leI e12; omega) (by have t1 : 1 ≤ cf9.toInt := q_leI e11; have t2 : cf9.toInt ≤ 62 := q_leI e12; omega)) (by decide) (by have t1 : 1 ≤ cf9.toInt := q_leI e11; have t2 : cf9.toInt ≤ 62 := q_leI e12; omega) (by have t1 : 1 ≤ cf9.toInt := q_leI e11; have t2 : cf9.toInt ≤ 62 := q_leI e12; omega)) (by decide) (by have t1 : 1 ≤ cf9.toInt := q_leI e11; have t2 : cf9.toInt ≤ 62 := q_leI e12; omega) (by have t1 : 1 ≤ cf9.toInt := q_leI e11; have t2 : cf9.toInt ≤ 62 := q_leI e12; omega)) (by decide) (by have t1 : 1 ≤ cf9.toInt := q_leI e11; have t2 : cf9.toInt ≤ 62 := q_leI e12; omega)), rfl, hF, hO6, hA16⟩) d_8_13_82
              ·
                replace hF := q_uc hF hg625 (q_sc (.head _) (q_sc (.tail _ (.head _)) (fun _ h => absurd h List.not_mem_nil)))
                refine lv_iinc (v := ((cf9 + 1) + 1) + 1) (lv' := [(2, .int (((cf9 + 1) + 1) + 1)), (3, .int 2), (0, .ref qO0), (1, .ref qO1)]) hx hb d_8_13_72 hl (k := 1) rfl (rfl) (by decide) rfl (fun ls hl => ?_)
                refine lv_iinc (v := 3) (lv' := [(3, .int 3), (2, .int (((cf9 + 1) + 1) + 1)), (0, .ref qO0), (1, .ref qO1)]) hx hb d_8_13_75 hl (k := 1) rfl (by decide) (by decide) rfl (fun ls hl => ?_)
                refine lv_goto (tgt := 46) hx hb d_8_13_78 (by decide) ?_
                refine lv_iload_n hx hb d_8_13_46 rfl (lv_at hl 0 rfl) ?_
                refine lv_iconst (v := 3) hx hb d_8_13_47 (by decide) ?_
                refine lv_icmp_ge (tgt := 81) hx hb d_8_13_48 (by decide) (fun c627 => ?_) (fun c627 => absurd (by decide) c627)
                refine lv_iload_n hx hb d_8_13_81 rfl (lv_at hl 1 rfl) ?_
                exact q_reti C0 V (Or.inl ⟨(((cf9 + 1) + 1) + 1), y623, y624, f621, f622, (q_Ile (x := 1) (y := (((cf9.toInt + 1) + 1) + 1)) (by decide) (q_addI (x := ((cf9.toInt + 1) + 1)) (y := 1) (q_addI (x := (cf9.toInt + 1)) (y := 1) (q_addI (x := cf9.toInt) (y := 1) rfl (by decide) (by have t1 : 1 ≤ cf9.toInt := q_leI e11; have t2 : cf9.toInt ≤ 62 := q_leI e12; omega) (by have t1 : 1 ≤ cf9.toInt := q_leI e11; have t2 : cf9.toInt ≤ 62 := q_leI e12; omega)) (by decide) (by have t1 : 1 ≤ cf9.toInt := q_leI e11; have t2 : cf9.toInt ≤ 62 := q_leI e12; omega) (by have t1 : 1 ≤ cf9.toInt := q_leI e11; have t2 : cf9.toInt ≤ 62 := q_leI e12; omega)) (by decide) (by have t1 : 1 ≤ cf9.toInt := q_leI e11; have t2 : cf9.toInt ≤ 62 := q_leI e12; omega) (by have t1 : 1 ≤ cf9.toInt := q_leI e11; have t2 : cf9.toInt ≤ 62 := q_leI e12; omega)) (by have t1 : 1 ≤ cf9.toInt := q_leI e11; have t2 : cf9.toInt ≤ 62 := q_leI e12; omega)), (q_Ile (x := (((cf9.toInt + 1) + 1) + 1)) (y := 70) (q_addI (x := ((cf9.toInt + 1) + 1)) (y := 1) (q_addI (x := (cf9.toInt + 1)) (y := 1) (q_addI (x := cf9.toInt) (y := 1) rfl (by decide) (by have t1 : 1 ≤ cf9.toInt := q_leI e11; have t2 : cf9.toInt ≤ 62 := q_leI e12; omega) (by have t1 : 1 ≤ cf9.toInt := q_leI e11; have t2 : cf9.toInt ≤ 62 := q_leI e12; omega)) (by decide) (by have t1 : 1 ≤ cf9.toInt := q_leI e11; have t2 : cf9.toInt ≤ 62 := q_leI e12; omega) (by have t1 : 1 ≤ cf9.toInt := q_leI e11; have t2 : cf9.toInt ≤ 62 := q_leI e12; omega)) (by decide) (by have t1 : 1 ≤ cf9.toInt := q_leI e11; have t2 : cf9.toInt ≤ 62 := q_leI e12; omega) (by have t1 : 1 ≤ cf9.toInt := q_leI e11; have t2 : cf9.toInt ≤ 62 := q_leI e12; omega)) (by decide) (by have t1 : 1 ≤ cf9.toInt := q_leI e11; have t2 : cf9.toInt ≤ 62 := q_leI e12; omega)), rfl, hF, hO6, hA16⟩) d_8_13_82
            ·
              refine lv_if_lt (tgt := 81) hx hb d_8_13_59 (by decide) (fun c628 => absurd c628 (by decide)) (fun c628 => ?_)
              refine lv_aload_n hx hb d_8_13_62 rfl (lv_at hl 2 rfl) ?_
              refine q_get (ci := 4) (j := 5) (v := .ref qO6) C0 V i_Mil rfl rfl hO0 (by decide) w_124 rfl d_8_13_63 ?_
              refine lv_bipush (v := 10) hx hb d_8_13_66 (by decide) ?_
              refine lv_iconst (v := 0) hx hb d_8_13_68 (by decide) ?_
              refine q_gov V (q_runV (As := [.int 10, .int 0]) (rest := []) (d := 1) (mc := 0) (ms := 0) (ci := 2) C0 V rfl LV_Mil_102 (c_Big_multiplySmall_4 l D g u601 kO6 kA16 qO6 qA16 y359 y602 hO6 hA16 f357 f358 _) rfl rfl hO6 rfl hl.1 rfl (Nat.le_of_ble_eq_true rfl) ⟨by decide, by decide⟩ ⟨Nat.le_of_ble_eq_true rfl, Nat.le_of_ble_eq_true rfl⟩ d_8_13_69) (fun u630 H locs hp629 V => ?_)
              rcases hp629 with ⟨y631, hg632, hO6, hA16⟩ | ⟨y635, y636, f633, f634, hg637, hO6, hA16⟩
              ·
                replace hF := q_uc hF hg632 (q_sc (.head _) (q_sc (.tail _ (.head _)) (fun _ h => absurd h List.not_mem_nil)))
                refine lv_iinc (v := ((cf9 + 1) + 1) + 1) (lv' := [(2, .int (((cf9 + 1) + 1) + 1)), (3, .int 2), (0, .ref qO0), (1, .ref qO1)]) hx hb d_8_13_72 hl (k := 1) rfl (rfl) (by decide) rfl (fun ls hl => ?_)
                refine lv_iinc (v := 3) (lv' := [(3, .int 3), (2, .int (((cf9 + 1) + 1) + 1)), (0, .ref qO0), (1, .ref qO1)]) hx hb d_8_13_75 hl (k := 1) rfl (by decide) (by decide) rfl (fun ls hl => ?_)
                refine lv_goto (tgt := 46) hx hb d_8_13_78 (by decide) ?_
                refine lv_iload_n hx hb d_8_13_46 rfl (lv_at hl 0 rfl) ?_
                refine lv_iconst (v := 3) hx hb d_8_13_47 (by decide) ?_
                refine lv_icmp_ge (tgt := 81) hx hb d_8_13_48 (by decide) (fun c638 => ?_) (fun c638 => absurd (by decide) c638)
                refine lv_iload_n hx hb d_8_13_81 rfl (lv_at hl 1 rfl) ?_
                exact q_reti C0 V (Or.inl ⟨(((cf9 + 1) + 1) + 1), y359, y631, f357, f358, (q_Ile (x := 1) (y := (((cf9.toInt + 1) + 1) + 1)) (by decide) (q_addI (x := ((cf9.toInt + 1) + 1)) (y := 1) (q_addI (x := (cf9.toInt + 1)) (y := 1) (q_addI (x := cf9.toInt) (y := 1) rfl (by decide) (by have t1 : 1 ≤ cf9.toInt := q_leI e11; have t2 : cf9.toInt ≤ 62 := q_leI e12; omega) (by have t1 : 1 ≤ cf9.toInt := q_leI e11; have t2 : cf9.toInt ≤ 62 := q_leI e12; omega)) (by decide) (by have t1 : 1 ≤ cf9.toInt := q_leI e11; have t2 : cf9.toInt ≤ 62 := q_leI e12; omega) (by have t1 : 1 ≤ cf9.toInt := q_leI e11; have t2 : cf9.toInt ≤ 62 := q_leI e12; omega)) (by decide) (by have t1 : 1 ≤ cf9.toInt := q_leI e11; have t2 : cf9.toInt ≤ 62 := q_leI e12; omega) (by have t1 : 1 ≤ cf9.toInt := q_leI e11; have t2 : cf9.toInt ≤ 62 := q_leI e12; omega)) (by have t1 : 1 ≤ cf9.toInt := q_leI e11; have t2 : cf9.toInt ≤ 62 := q_leI e12; omega)), (q_Ile (x := (((cf9.toInt + 1) + 1) + 1)) (y := 70) (q_addI (x := ((cf9.toInt + 1) + 1)) (y := 1) (q_addI (x := (cf9.toInt + 1)) (y := 1) (q_addI (x := cf9.toInt) (y := 1) rfl (by decide) (by have t1 : 1 ≤ cf9.toInt := q_leI e11; have t2 : cf9.toInt ≤ 62 := q_leI e12; omega) (by have t1 : 1 ≤ cf9.toInt := q_leI e11; have t2 : cf9.toInt ≤ 62 := q_leI e12; omega)) (by decide) (by have t1 : 1 ≤ cf9.toInt := q_leI e11; have t2 : cf9.toInt ≤ 62 := q_leI e12; omega) (by have t1 : 1 ≤ cf9.toInt := q_leI e11; have t2 : cf9.toInt ≤ 62 := q_leI e12; omega)) (by decide) (by have t1 : 1 ≤ cf9.toInt := q_leI e11; have t2 : cf9.toInt ≤ 62 := q_leI e12; omega) (by have t1 : 1 ≤ cf9.toInt := q_leI e11; have t2 : cf9.toInt ≤ 62 := q_leI e12; omega)) (by decide) (by have t1 : 1 ≤ cf9.toInt := q_leI e11; have t2 : cf9.toInt ≤ 62 := q_leI e12; omega)), rfl, hF, hO6, hA16⟩) d_8_13_82
              ·
                replace hF := q_uc hF hg637 (q_sc (.head _) (q_sc (.tail _ (.head _)) (fun _ h => absurd h List.not_mem_nil)))
                refine lv_iinc (v := ((cf9 + 1) + 1) + 1) (lv' := [(2, .int (((cf9 + 1) + 1) + 1)), (3, .int 2), (0, .ref qO0), (1, .ref qO1)]) hx hb d_8_13_72 hl (k := 1) rfl (rfl) (by decide) rfl (fun ls hl => ?_)
                refine lv_iinc (v := 3) (lv' := [(3, .int 3), (2, .int (((cf9 + 1) + 1) + 1)), (0, .ref qO0), (1, .ref qO1)]) hx hb d_8_13_75 hl (k := 1) rfl (by decide) (by decide) rfl (fun ls hl => ?_)
                refine lv_goto (tgt := 46) hx hb d_8_13_78 (by decide) ?_
                refine lv_iload_n hx hb d_8_13_46 rfl (lv_at hl 0 rfl) ?_
                refine lv_iconst (v := 3) hx hb d_8_13_47 (by decide) ?_
                refine lv_icmp_ge (tgt := 81) hx hb d_8_13_48 (by decide) (fun c639 => ?_) (fun c639 => absurd (by decide) c639)
                refine lv_iload_n hx hb d_8_13_81 rfl (lv_at hl 1 rfl) ?_
                exact q_reti C0 V (Or.inl ⟨(((cf9 + 1) + 1) + 1), y635, y636, f633, f634, (q_Ile (x := 1) (y := (((cf9.toInt + 1) + 1) + 1)) (by decide) (q_addI (x := ((cf9.toInt + 1) + 1)) (y := 1) (q_addI (x := (cf9.toInt + 1)) (y := 1) (q_addI (x := cf9.toInt) (y := 1) rfl (by decide) (by have t1 : 1 ≤ cf9.toInt := q_leI e11; have t2 : cf9.toInt ≤ 62 := q_leI e12; omega) (by have t1 : 1 ≤ cf9.toInt := q_leI e11; have t2 : cf9.toInt ≤ 62 := q_leI e12; omega)) (by decide) (by have t1 : 1 ≤ cf9.toInt := q_leI e11; have t2 : cf9.toInt ≤ 62 := q_leI e12; omega) (by have t1 : 1 ≤ cf9.toInt := q_leI e11; have t2 : cf9.toInt ≤ 62 := q_leI e12; omega)) (by decide) (by have t1 : 1 ≤ cf9.toInt := q_leI e11; have t2 : cf9.toInt ≤ 62 := q_leI e12; omega) (by have t1 : 1 ≤ cf9.toInt := q_leI e11; have t2 : cf9.toInt ≤ 62 := q_leI e12; omega)) (by have t1 : 1 ≤ cf9.toInt := q_leI e11; have t2 : cf9.toInt ≤ 62 := q_leI e12; omega)), (q_Ile (x := (((cf9.toInt + 1) + 1) + 1)) (y := 70) (q_addI (x := ((cf9.toInt + 1) + 1)) (y := 1) (q_addI (x := (cf9.toInt + 1)) (y := 1) (q_addI (x := cf9.toInt) (y := 1) rfl (by decide) (by have t1 : 1 ≤ cf9.toInt := q_leI e11; have t2 : cf9.toInt ≤ 62 := q_leI e12; omega) (by have t1 : 1 ≤ cf9.toInt := q_leI e11; have t2 : cf9.toInt ≤ 62 := q_leI e12; omega)) (by decide) (by have t1 : 1 ≤ cf9.toInt := q_leI e11; have t2 : cf9.toInt ≤ 62 := q_leI e12; omega) (by have t1 : 1 ≤ cf9.toInt := q_leI e11; have t2 : cf9.toInt ≤ 62 := q_leI e12; omega)) (by decide) (by have t1 : 1 ≤ cf9.toInt := q_leI e11; have t2 : cf9.toInt ≤ 62 := q_leI e12; omega) (by have t1 : 1 ≤ cf9.toInt := q_leI e11; have t2 : cf9.toInt ≤ 62 := q_leI e12; omega)) (by decide) (by have t1 : 1 ≤ cf9.toInt := q_leI e11; have t2 : cf9.toInt ≤ 62 := q_leI e12; omega)), rfl, hF, hO6, hA16⟩) d_8_13_82
            ·
              refine lv_if_lt (tgt := 81) hx hb d_8_13_59 (by decide) (fun c640 => ?_) (fun c640 => absurd (by decide) c640)
              refine lv_iload_n hx hb d_8_13_81 rfl (lv_at hl 1 rfl) ?_
              exact q_reti C0 V (Or.inl ⟨((cf9 + 1) + 1), y359, y602, f357, f358, (q_Ile (x := 1) (y := ((cf9.toInt + 1) + 1)) (by decide) (q_addI (x := (cf9.toInt + 1)) (y := 1) (q_addI (x := cf9.toInt) (y := 1) rfl (by decide) (by have t1 : 1 ≤ cf9.toInt := q_leI e11; have t2 : cf9.toInt ≤ 62 := q_leI e12; omega) (by have t1 : 1 ≤ cf9.toInt := q_leI e11; have t2 : cf9.toInt ≤ 62 := q_leI e12; omega)) (by decide) (by have t1 : 1 ≤ cf9.toInt := q_leI e11; have t2 : cf9.toInt ≤ 62 := q_leI e12; omega) (by have t1 : 1 ≤ cf9.toInt := q_leI e11; have t2 : cf9.toInt ≤ 62 := q_leI e12; omega)) (by have t1 : 1 ≤ cf9.toInt := q_leI e11; have t2 : cf9.toInt ≤ 62 := q_leI e12; omega)), (q_Ile (x := ((cf9.toInt + 1) + 1)) (y := 70) (q_addI (x := (cf9.toInt + 1)) (y := 1) (q_addI (x := cf9.toInt) (y := 1) rfl (by decide) (by have t1 : 1 ≤ cf9.toInt := q_leI e11; have t2 : cf9.toInt ≤ 62 := q_leI e12; omega) (by have t1 : 1 ≤ cf9.toInt := q_leI e11; have t2 : cf9.toInt ≤ 62 := q_leI e12; omega)) (by decide) (by have t1 : 1 ≤ cf9.toInt := q_leI e11; have t2 : cf9.toInt ≤ 62 := q_leI e12; omega) (by have t1 : 1 ≤ cf9.toInt := q_leI e11; have t2 : cf9.toInt ≤ 62 := q_leI e12; omega)) (by decide) (by have t1 : 1 ≤ cf9.toInt := q_leI e11; have t2 : cf9.toInt ≤ 62 := q_leI e12; omega)), rfl, hF, hO6, hA16⟩) d_8_13_82
          ·
            replace hF := q_uc hF hg608 (q_sc (.head _) (q_sc (.tail _ (.head _)) (fun _ h => absurd h List.not_mem_nil)))
            refine lv_iinc (v := (cf9 + 1) + 1) (lv' := [(2, .int ((cf9 + 1) + 1)), (3, .int 1), (0, .ref qO0), (1, .ref qO1)]) hx hb d_8_13_72 hl (k := 1) rfl (rfl) (by decide) rfl (fun ls hl => ?_)
            refine lv_iinc (v := 2) (lv' := [(3, .int 2), (2, .int ((cf9 + 1) + 1)), (0, .ref qO0), (1, .ref qO1)]) hx hb d_8_13_75 hl (k := 1) rfl (by decide) (by decide) rfl (fun ls hl => ?_)
            refine lv_goto (tgt := 46) hx hb d_8_13_78 (by decide) ?_
            refine lv_iload_n hx hb d_8_13_46 rfl (lv_at hl 0 rfl) ?_
            refine lv_iconst (v := 3) hx hb d_8_13_47 (by decide) ?_
            refine lv_icmp_ge (tgt := 81) hx hb d_8_13_48 (by decide) (fun c641 => absurd c641 (by decide)) (fun c641 => ?_)
            refine lv_aload_n hx hb d_8_13_51 rfl (lv_at hl 3 rfl) ?_
            refine lv_aload_n hx hb d_8_13_52 rfl (lv_at hl 2 rfl) ?_
            replace hO0 := (hg608 _ (q_nc n_O0_O6 (q_nc n_O0_A16 List.not_mem_nil))).trans (hO0)
            refine q_get (ci := 4) (j := 5) (v := .ref qO6) C0 V i_Mil rfl rfl hO0 (by decide) w_124 rfl d_8_13_53 ?_
            replace hO1 := (hg608 _ (q_nc n_O1_O6 (q_nc n_O1_A16 List.not_mem_nil))).trans (hO1)
            replace hA11 := (hg608 _ (q_nc n_A11_O6 (q_nc n_A11_A16 List.not_mem_nil))).trans (hA11)
            refine q_goi V (q_runV (As := [.ref qO6]) (rest := []) (d := 2) (mc := 0) (ms := 0) (ci := 2) C0 V rfl LV_Mil_112 (c_Big_compareSize_3 l D g u601 kO1 kO6 kA11 kA16 qO1 qO6 qA11 qA16 y1 y2 y606 f3 y607 hO1 hO6 hA11 hA16 (q_Ile (x := 1) (y := y1.toInt) (by decide) rfl (by have t1 : 0 ≤ y1.toInt := q_leI y1lo; have t2 : y1.toInt ≤ 3 := q_leI y1hi; have t3 : y1.toInt ≠ 0 := q_neI c1; omega)) y1hi y2lo y2hi f604 f605 _) rfl rfl hO1 rfl hl.1 rfl (Nat.le_of_ble_eq_true rfl) ⟨by decide, by decide⟩ ⟨Nat.le_of_ble_eq_true rfl, Nat.le_of_ble_eq_true rfl⟩ d_8_13_56) (fun v644 u643 H locs hp642 V => ?_)
            rcases hp642 with ⟨rfl, rfl⟩ | ⟨rfl, rfl⟩ | ⟨rfl, rfl⟩
            ·
              refine lv_if_lt (tgt := 81) hx hb d_8_13_59 (by decide) (fun c648 => absurd c648 (by decide)) (fun c648 => ?_)
              refine lv_aload_n hx hb d_8_13_62 rfl (lv_at hl 2 rfl) ?_
              refine q_get (ci := 4) (j := 5) (v := .ref qO6) C0 V i_Mil rfl rfl hO0 (by decide) w_124 rfl d_8_13_63 ?_
              refine lv_bipush (v := 10) hx hb d_8_13_66 (by decide) ?_
              refine lv_iconst (v := 0) hx hb d_8_13_68 (by decide) ?_
              refine q_gov V (q_runV (As := [.int 10, .int 0]) (rest := []) (d := 1) (mc := 0) (ms := 0) (ci := 2) C0 V rfl LV_Mil_102 (c_Big_multiplySmall_4 l D g u601 kO6 kA16 qO6 qA16 y606 y607 hO6 hA16 f604 f605 _) rfl rfl hO6 rfl hl.1 rfl (Nat.le_of_ble_eq_true rfl) ⟨by decide, by decide⟩ ⟨Nat.le_of_ble_eq_true rfl, Nat.le_of_ble_eq_true rfl⟩ d_8_13_69) (fun u650 H locs hp649 V => ?_)
              rcases hp649 with ⟨y651, hg652, hO6, hA16⟩ | ⟨y655, y656, f653, f654, hg657, hO6, hA16⟩
              ·
                replace hF := q_uc hF hg652 (q_sc (.head _) (q_sc (.tail _ (.head _)) (fun _ h => absurd h List.not_mem_nil)))
                refine lv_iinc (v := ((cf9 + 1) + 1) + 1) (lv' := [(2, .int (((cf9 + 1) + 1) + 1)), (3, .int 2), (0, .ref qO0), (1, .ref qO1)]) hx hb d_8_13_72 hl (k := 1) rfl (rfl) (by decide) rfl (fun ls hl => ?_)
                refine lv_iinc (v := 3) (lv' := [(3, .int 3), (2, .int (((cf9 + 1) + 1) + 1)), (0, .ref qO0), (1, .ref qO1)]) hx hb d_8_13_75 hl (k := 1) rfl (by decide) (by decide) rfl (fun ls hl => ?_)
                refine lv_goto (tgt := 46) hx hb d_8_13_78 (by decide) ?_
                refine lv_iload_n hx hb d_8_13_46 rfl (lv_at hl 0 rfl) ?_
                refine lv_iconst (v := 3) hx hb d_8_13_47 (by decide) ?_
                refine lv_icmp_ge (tgt := 81) hx hb d_8_13_48 (by decide) (fun c658 => ?_) (fun c658 => absurd (by decide) c658)
                refine lv_iload_n hx hb d_8_13_81 rfl (lv_at hl 1 rfl) ?_
                exact q_reti C0 V (Or.inl ⟨(((cf9 + 1) + 1) + 1), y606, y651, f604, f605, (q_Ile (x := 1) (y := (((cf9.toInt + 1) + 1) + 1)) (by decide) (q_addI (x := ((cf9.toInt + 1) + 1)) (y := 1) (q_addI (x := (cf9.toInt + 1)) (y := 1) (q_addI (x := cf9.toInt) (y := 1) rfl (by decide) (by have t1 : 1 ≤ cf9.toInt := q_leI e11; have t2 : cf9.toInt ≤ 62 := q_leI e12; omega) (by have t1 : 1 ≤ cf9.toInt := q_leI e11; have t2 : cf9.toInt ≤ 62 := q_leI e12; omega)) (by decide) (by have t1 : 1 ≤ cf9.toInt := q_leI e11; have t2 : cf9.toInt ≤ 62 := q_leI e12; omega) (by have t1 : 1 ≤ cf9.toInt := q_leI e11; have t2 : cf9.toInt ≤ 62 := q_leI e12; omega)) (by decide) (by have t1 : 1 ≤ cf9.toInt := q_leI e11; have t2 : cf9.toInt ≤ 62 := q_leI e12; omega) (by have t1 : 1 ≤ cf9.toInt := q_leI e11; have t2 : cf9.toInt ≤ 62 := q_leI e12; omega)) (by have t1 : 1 ≤ cf9.toInt := q_leI e11; have t2 : cf9.toInt ≤ 62 := q_leI e12; omega)), (q_Ile (x := (((cf9.toInt + 1) + 1) + 1)) (y := 70) (q_addI (x := ((cf9.toInt + 1) + 1)) (y := 1) (q_addI (x := (cf9.toInt + 1)) (y := 1) (q_addI (x := cf9.toInt) (y := 1) rfl (by decide) (by have t1 : 1 ≤ cf9.toInt := q_leI e11; have t2 : cf9.toInt ≤ 62 := q_leI e12; omega) (by have t1 : 1 ≤ cf9.toInt := q_leI e11; have t2 : cf9.toInt ≤ 62 := q_leI e12; omega)) (by decide) (by have t1 : 1 ≤ cf9.toInt := q_leI e11; have t2 : cf9.toInt ≤ 62 := q_leI e12; omega) (by have t1 : 1 ≤ cf9.toInt := q_leI e11; have t2 : cf9.toInt ≤ 62 := q_leI e12; omega)) (by decide) (by have t1 : 1 ≤ cf9.toInt := q_leI e11; have t2 : cf9.toInt ≤ 62 := q_leI e12; omega) (by have t1 : 1 ≤ cf9.toInt := q_leI e11; have t2 : cf9.toInt ≤ 62 := q_leI e12; omega)) (by decide) (by have t1 : 1 ≤ cf9.toInt := q_leI e11; have t2 : cf9.toInt ≤ 62 := q_leI e12; omega)), rfl, hF, hO6, hA16⟩) d_8_13_82
              ·
                replace hF := q_uc hF hg657 (q_sc (.head _) (q_sc (.tail _ (.head _)) (fun _ h => absurd h List.not_mem_nil)))
                refine lv_iinc (v := ((cf9 + 1) + 1) + 1) (lv' := [(2, .int (((cf9 + 1) + 1) + 1)), (3, .int 2), (0, .ref qO0), (1, .ref qO1)]) hx hb d_8_13_72 hl (k := 1) rfl (rfl) (by decide) rfl (fun ls hl => ?_)
                refine lv_iinc (v := 3) (lv' := [(3, .int 3), (2, .int (((cf9 + 1) + 1) + 1)), (0, .ref qO0), (1, .ref qO1)]) hx hb d_8_13_75 hl (k := 1) rfl (by decide) (by decide) rfl (fun ls hl => ?_)
                refine lv_goto (tgt := 46) hx hb d_8_13_78 (by decide) ?_
                refine lv_iload_n hx hb d_8_13_46 rfl (lv_at hl 0 rfl) ?_
                refine lv_iconst (v := 3) hx hb d_8_13_47 (by decide) ?_
                refine lv_icmp_ge (tgt := 81) hx hb d_8_13_48 (by decide) (fun c659 => ?_) (fun c659 => absurd (by decide) c659)
                refine lv_iload_n hx hb d_8_13_81 rfl (lv_at hl 1 rfl) ?_
                exact q_reti C0 V (Or.inl ⟨(((cf9 + 1) + 1) + 1), y655, y656, f653, f654, (q_Ile (x := 1) (y := (((cf9.toInt + 1) + 1) + 1)) (by decide) (q_addI (x := ((cf9.toInt + 1) + 1)) (y := 1) (q_addI (x := (cf9.toInt + 1)) (y := 1) (q_addI (x := cf9.toInt) (y := 1) rfl (by decide) (by have t1 : 1 ≤ cf9.toInt := q_leI e11; have t2 : cf9.toInt ≤ 62 := q_leI e12; omega) (by have t1 : 1 ≤ cf9.toInt := q_leI e11; have t2 : cf9.toInt ≤ 62 := q_leI e12; omega)) (by decide) (by have t1 : 1 ≤ cf9.toInt := q_leI e11; have t2 : cf9.toInt ≤ 62 := q_leI e12; omega) (by have t1 : 1 ≤ cf9.toInt := q_leI e11; have t2 : cf9.toInt ≤ 62 := q_leI e12; omega)) (by decide) (by have t1 : 1 ≤ cf9.toInt := q_leI e11; have t2 : cf9.toInt ≤ 62 := q_leI e12; omega) (by have t1 : 1 ≤ cf9.toInt := q_leI e11; have t2 : cf9.toInt ≤ 62 := q_leI e12; omega)) (by have t1 : 1 ≤ cf9.toInt := q_leI e11; have t2 : cf9.toInt ≤ 62 := q_leI e12; omega)), (q_Ile (x := (((cf9.toInt + 1) + 1) + 1)) (y := 70) (q_addI (x := ((cf9.toInt + 1) + 1)) (y := 1) (q_addI (x := (cf9.toInt + 1)) (y := 1) (q_addI (x := cf9.toInt) (y := 1) rfl (by decide) (by have t1 : 1 ≤ cf9.toInt := q_leI e11; have t2 : cf9.toInt ≤ 62 := q_leI e12; omega) (by have t1 : 1 ≤ cf9.toInt := q_leI e11; have t2 : cf9.toInt ≤ 62 := q_leI e12; omega)) (by decide) (by have t1 : 1 ≤ cf9.toInt := q_leI e11; have t2 : cf9.toInt ≤ 62 := q_leI e12; omega) (by have t1 : 1 ≤ cf9.toInt := q_leI e11; have t2 : cf9.toInt ≤ 62 := q_leI e12; omega)) (by decide) (by have t1 : 1 ≤ cf9.toInt := q_leI e11; have t2 : cf9.toInt ≤ 62 := q_leI e12; omega) (by have t1 : 1 ≤ cf9.toInt := q_leI e11; have t2 : cf9.toInt ≤ 62 := q_leI e12; omega)) (by decide) (by have t1 : 1 ≤ cf9.toInt := q_leI e11; have t2 : cf9.toInt ≤ 62 := q_leI e12; omega)), rfl, hF, hO6, hA16⟩) d_8_13_82
            ·
              refine lv_if_lt (tgt := 81) hx hb d_8_13_59 (by decide) (fun c660 => absurd c660 (by decide)) (fun c660 => ?_)
              refine lv_aload_n hx hb d_8_13_62 rfl (lv_at hl 2 rfl) ?_
              refine q_get (ci := 4) (j := 5) (v := .ref qO6) C0 V i_Mil rfl rfl hO0 (by decide) w_124 rfl d_8_13_63 ?_
              refine lv_bipush (v := 10) hx hb d_8_13_66 (by decide) ?_
              refine lv_iconst (v := 0) hx hb d_8_13_68 (by decide) ?_
              refine q_gov V (q_runV (As := [.int 10, .int 0]) (rest := []) (d := 1) (mc := 0) (ms := 0) (ci := 2) C0 V rfl LV_Mil_102 (c_Big_multiplySmall_4 l D g u601 kO6 kA16 qO6 qA16 y606 y607 hO6 hA16 f604 f605 _) rfl rfl hO6 rfl hl.1 rfl (Nat.le_of_ble_eq_true rfl) ⟨by decide, by decide⟩ ⟨Nat.le_of_ble_eq_true rfl, Nat.le_of_ble_eq_true rfl⟩ d_8_13_69) (fun u662 H locs hp661 V => ?_)
              rcases hp661 with ⟨y663, hg664, hO6, hA16⟩ | ⟨y667, y668, f665, f666, hg669, hO6, hA16⟩
              ·
                replace hF := q_uc hF hg664 (q_sc (.head _) (q_sc (.tail _ (.head _)) (fun _ h => absurd h List.not_mem_nil)))
                refine lv_iinc (v := ((cf9 + 1) + 1) + 1) (lv' := [(2, .int (((cf9 + 1) + 1) + 1)), (3, .int 2), (0, .ref qO0), (1, .ref qO1)]) hx hb d_8_13_72 hl (k := 1) rfl (rfl) (by decide) rfl (fun ls hl => ?_)
                refine lv_iinc (v := 3) (lv' := [(3, .int 3), (2, .int (((cf9 + 1) + 1) + 1)), (0, .ref qO0), (1, .ref qO1)]) hx hb d_8_13_75 hl (k := 1) rfl (by decide) (by decide) rfl (fun ls hl => ?_)
                refine lv_goto (tgt := 46) hx hb d_8_13_78 (by decide) ?_
                refine lv_iload_n hx hb d_8_13_46 rfl (lv_at hl 0 rfl) ?_
                refine lv_iconst (v := 3) hx hb d_8_13_47 (by decide) ?_
                refine lv_icmp_ge (tgt := 81) hx hb d_8_13_48 (by decide) (fun c670 => ?_) (fun c670 => absurd (by decide) c670)
                refine lv_iload_n hx hb d_8_13_81 rfl (lv_at hl 1 rfl) ?_
                exact q_reti C0 V (Or.inl ⟨(((cf9 + 1) + 1) + 1), y606, y663, f604, f605, (q_Ile (x := 1) (y := (((cf9.toInt + 1) + 1) + 1)) (by decide) (q_addI (x := ((cf9.toInt + 1) + 1)) (y := 1) (q_addI (x := (cf9.toInt + 1)) (y := 1) (q_addI (x := cf9.toInt) (y := 1) rfl (by decide) (by have t1 : 1 ≤ cf9.toInt := q_leI e11; have t2 : cf9.toInt ≤ 62 := q_leI e12; omega) (by have t1 : 1 ≤ cf9.toInt := q_leI e11; have t2 : cf9.toInt ≤ 62 := q_leI e12; omega)) (by decide) (by have t1 : 1 ≤ cf9.toInt := q_leI e11; have t2 : cf9.toInt ≤ 62 := q_leI e12; omega) (by have t1 : 1 ≤ cf9.toInt := q_leI e11; have t2 : cf9.toInt ≤ 62 := q_leI e12; omega)) (by decide) (by have t1 : 1 ≤ cf9.toInt := q_leI e11; have t2 : cf9.toInt ≤ 62 := q_leI e12; omega) (by have t1 : 1 ≤ cf9.toInt := q_leI e11; have t2 : cf9.toInt ≤ 62 := q_leI e12; omega)) (by have t1 : 1 ≤ cf9.toInt := q_leI e11; have t2 : cf9.toInt ≤ 62 := q_leI e12; omega)), (q_Ile (x := (((cf9.toInt + 1) + 1) + 1)) (y := 70) (q_addI (x := ((cf9.toInt + 1) + 1)) (y := 1) (q_addI (x := (cf9.toInt + 1)) (y := 1) (q_addI (x := cf9.toInt) (y := 1) rfl (by decide) (by have t1 : 1 ≤ cf9.toInt := q_leI e11; have t2 : cf9.toInt ≤ 62 := q_leI e12; omega) (by have t1 : 1 ≤ cf9.toInt := q_leI e11; have t2 : cf9.toInt ≤ 62 := q_leI e12; omega)) (by decide) (by have t1 : 1 ≤ cf9.toInt := q_leI e11; have t2 : cf9.toInt ≤ 62 := q_leI e12; omega) (by have t1 : 1 ≤ cf9.toInt := q_leI e11; have t2 : cf9.toInt ≤ 62 := q_leI e12; omega)) (by decide) (by have t1 : 1 ≤ cf9.toInt := q_leI e11; have t2 : cf9.toInt ≤ 62 := q_leI e12; omega) (by have t1 : 1 ≤ cf9.toInt := q_leI e11; have t2 : cf9.toInt ≤ 62 := q_leI e12; omega)) (by decide) (by have t1 : 1 ≤ cf9.toInt := q_leI e11; have t2 : cf9.toInt ≤ 62 := q_leI e12; omega)), rfl, hF, hO6, hA16⟩) d_8_13_82
              ·
                replace hF := q_uc hF hg669 (q_sc (.head _) (q_sc (.tail _ (.head _)) (fun _ h => absurd h List.not_mem_nil)))
                refine lv_iinc (v := ((cf9 + 1) + 1) + 1) (lv' := [(2, .int (((cf9 + 1) + 1) + 1)), (3, .int 2), (0, .ref qO0), (1, .ref qO1)]) hx hb d_8_13_72 hl (k := 1) rfl (rfl) (by decide) rfl (fun ls hl => ?_)
                refine lv_iinc (v := 3) (lv' := [(3, .int 3), (2, .int (((cf9 + 1) + 1) + 1)), (0, .ref qO0), (1, .ref qO1)]) hx hb d_8_13_75 hl (k := 1) rfl (by decide) (by decide) rfl (fun ls hl => ?_)
                refine lv_goto (tgt := 46) hx hb d_8_13_78 (by decide) ?_
                refine lv_iload_n hx hb d_8_13_46 rfl (lv_at hl 0 rfl) ?_
                refine lv_iconst (v := 3) hx hb d_8_13_47 (by decide) ?_
                refine lv_icmp_ge (tgt := 81) hx hb d_8_13_48 (by decide) (fun c671 => ?_) (fun c671 => absurd (by decide) c671)
                refine lv_iload_n hx hb d_8_13_81 rfl (lv_at hl 1 rfl) ?_
                exact q_reti C0 V (Or.inl ⟨(((cf9 + 1) + 1) + 1), y667, y668, f665, f666, (q_Ile (x := 1) (y := (((cf9.toInt + 1) + 1) + 1)) (by decide) (q_addI (x := ((cf9.toInt + 1) + 1)) (y := 1) (q_addI (x := (cf9.toInt + 1)) (y := 1) (q_addI (x := cf9.toInt) (y := 1) rfl (by decide) (by have t1 : 1 ≤ cf9.toInt := q_leI e11; have t2 : cf9.toInt ≤ 62 := q_leI e12; omega) (by have t1 : 1 ≤ cf9.toInt := q_leI e11; have t2 : cf9.toInt ≤ 62 := q_leI e12; omega)) (by decide) (by have t1 : 1 ≤ cf9.toInt := q_leI e11; have t2 : cf9.toInt ≤ 62 := q_leI e12; omega) (by have t1 : 1 ≤ cf9.toInt := q_leI e11; have t2 : cf9.toInt ≤ 62 := q_leI e12; omega)) (by decide) (by have t1 : 1 ≤ cf9.toInt := q_leI e11; have t2 : cf9.toInt ≤ 62 := q_leI e12; omega) (by have t1 : 1 ≤ cf9.toInt := q_leI e11; have t2 : cf9.toInt ≤ 62 := q_leI e12; omega)) (by have t1 : 1 ≤ cf9.toInt := q_leI e11; have t2 : cf9.toInt ≤ 62 := q_leI e12; omega)), (q_Ile (x := (((cf9.toInt + 1) + 1) + 1)) (y := 70) (q_addI (x := ((cf9.toInt + 1) + 1)) (y := 1) (q_addI (x := (cf9.toInt + 1)) (y := 1) (q_addI (x := cf9.toInt) (y := 1) rfl (by decide) (by have t1 : 1 ≤ cf9.toInt := q_leI e11; have t2 : cf9.toInt ≤ 62 := q_leI e12; omega) (by have t1 : 1 ≤ cf9.toInt := q_leI e11; have t2 : cf9.toInt ≤ 62 := q_leI e12; omega)) (by decide) (by have t1 : 1 ≤ cf9.toInt := q_leI e11; have t2 : cf9.toInt ≤ 62 := q_leI e12; omega) (by have t1 : 1 ≤ cf9.toInt := q_leI e11; have t2 : cf9.toInt ≤ 62 := q_leI e12; omega)) (by decide) (by have t1 : 1 ≤ cf9.toInt := q_leI e11; have t2 : cf9.toInt ≤ 62 := q_leI e12; omega) (by have t1 : 1 ≤ cf9.toInt := q_leI e11; have t2 : cf9.toInt ≤ 62 := q_leI e12; omega)) (by decide) (by have t1 : 1 ≤ cf9.toInt := q_leI e11; have t2 : cf9.toInt ≤ 62 := q_leI e12; omega)), rfl, hF, hO6, hA16⟩) d_8_13_82
            ·
              refine lv_if_lt (tgt := 81) hx hb d_8_13_59 (by decide) (fun c672 => ?_) (fun c672 => absurd (by decide) c672)
              refine lv_iload_n hx hb d_8_13_81 rfl (lv_at hl 1 rfl) ?_
              exact q_reti C0 V (Or.inl ⟨((cf9 + 1) + 1), y606, y607, f604, f605, (q_Ile (x := 1) (y := ((cf9.toInt + 1) + 1)) (by decide) (q_addI (x := (cf9.toInt + 1)) (y := 1) (q_addI (x := cf9.toInt) (y := 1) rfl (by decide) (by have t1 : 1 ≤ cf9.toInt := q_leI e11; have t2 : cf9.toInt ≤ 62 := q_leI e12; omega) (by have t1 : 1 ≤ cf9.toInt := q_leI e11; have t2 : cf9.toInt ≤ 62 := q_leI e12; omega)) (by decide) (by have t1 : 1 ≤ cf9.toInt := q_leI e11; have t2 : cf9.toInt ≤ 62 := q_leI e12; omega) (by have t1 : 1 ≤ cf9.toInt := q_leI e11; have t2 : cf9.toInt ≤ 62 := q_leI e12; omega)) (by have t1 : 1 ≤ cf9.toInt := q_leI e11; have t2 : cf9.toInt ≤ 62 := q_leI e12; omega)), (q_Ile (x := ((cf9.toInt + 1) + 1)) (y := 70) (q_addI (x := (cf9.toInt + 1)) (y := 1) (q_addI (x := cf9.toInt) (y := 1) rfl (by decide) (by have t1 : 1 ≤ cf9.toInt := q_leI e11; have t2 : cf9.toInt ≤ 62 := q_leI e12; omega) (by have t1 : 1 ≤ cf9.toInt := q_leI e11; have t2 : cf9.toInt ≤ 62 := q_leI e12; omega)) (by decide) (by have t1 : 1 ≤ cf9.toInt := q_leI e11; have t2 : cf9.toInt ≤ 62 := q_leI e12; omega) (by have t1 : 1 ≤ cf9.toInt := q_leI e11; have t2 : cf9.toInt ≤ 62 := q_leI e12; omega)) (by decide) (by have t1 : 1 ≤ cf9.toInt := q_leI e11; have t2 : cf9.toInt ≤ 62 := q_leI e12; omega)), rfl, hF, hO6, hA16⟩) d_8_13_82
        ·
          refine lv_if_lt (tgt := 81) hx hb d_8_13_59 (by decide) (fun c673 => ?_) (fun c673 => absurd (by decide) c673)
          refine lv_iload_n hx hb d_8_13_81 rfl (lv_at hl 1 rfl) ?_
          exact q_reti C0 V (Or.inl ⟨(cf9 + 1), y359, y360, f357, f358, (q_Ile (x := 1) (y := (cf9.toInt + 1)) (by decide) (q_addI (x := cf9.toInt) (y := 1) rfl (by decide) (by have t1 : 1 ≤ cf9.toInt := q_leI e11; have t2 : cf9.toInt ≤ 62 := q_leI e12; omega) (by have t1 : 1 ≤ cf9.toInt := q_leI e11; have t2 : cf9.toInt ≤ 62 := q_leI e12; omega)) (by have t1 : 1 ≤ cf9.toInt := q_leI e11; have t2 : cf9.toInt ≤ 62 := q_leI e12; omega)), (q_Ile (x := (cf9.toInt + 1)) (y := 70) (q_addI (x := cf9.toInt) (y := 1) rfl (by decide) (by have t1 : 1 ≤ cf9.toInt := q_leI e11; have t2 : cf9.toInt ≤ 62 := q_leI e12; omega) (by have t1 : 1 ≤ cf9.toInt := q_leI e11; have t2 : cf9.toInt ≤ 62 := q_leI e12; omega)) (by decide) (by have t1 : 1 ≤ cf9.toInt := q_leI e11; have t2 : cf9.toInt ≤ 62 := q_leI e12; omega)), rfl, hF, hO6, hA16⟩) d_8_13_82
    ·
      refine lv_if_lt (tgt := 81) hx hb d_8_13_59 (by decide) (fun c674 => ?_) (fun c674 => absurd (by decide) c674)
      refine lv_iload_n hx hb d_8_13_81 rfl (lv_at hl 1 rfl) ?_
      exact q_reti C0 V (Or.inl ⟨(cf9), y20, y21, f18, f19, (q_Ile (x := 1) (y := cf9.toInt) (by decide) rfl (by have t1 : 1 ≤ cf9.toInt := q_leI e11; have t2 : cf9.toInt ≤ 62 := q_leI e12; omega)), (q_Ile (x := cf9.toInt) (y := 70) rfl (by decide) (by have t1 : 1 ≤ cf9.toInt := q_leI e11; have t2 : cf9.toInt ≤ 62 := q_leI e12; omega)), rfl, hF, hO6, hA16⟩) d_8_13_82
  ·
    refine lv_iconst (v := 1) hx hb d_8_13_7 (by decide) ?_
    exact q_reti C0 V (Or.inr (⟨c1, rfl, hF, hO6, hA16⟩)) d_8_13_8
set_option maxRecDepth 100000 in
set_option maxHeartbeats 4000000 in
theorem c_Big_copy_12 (l : Launch) (D : va_G) (g : Nat → ClassId) (ws : va_W) (kO0 kO1 kA2 kA3 qO0 qO1 qA2 qA3 : Nat) (y1 : Int32) (y2 : Int32) (f3 : Nat → Int32) (hO0 : ws[kO0]? = (some (qO0, .inr (2, [.ref qA2, .int 0, .int 0])) : Option (Nat × va_E))) (hO1 : ws[kO1]? = (some (qO1, .inr (2, [.ref qA3, .int y1, .int y2])) : Option (Nat × va_E))) (hA2 : ws[kA2]? = (some (qA2, .inl (g 0, 108, .inl (fun _ => 0))) : Option (Nat × va_E))) (hA3 : ws[kA3]? = (some (qA3, .inl (g 0, 220, .inl f3)) : Option (Nat × va_E))) (n_A3_A2 : kA3 ≠ kA2) (n_O1_O0 : kO1 ≠ kO0) (y1lo : 0 ≤ y1) (y1hi : y1 ≤ 3) (y2lo : 0 ≤ y2) (y2hi : y2 ≤ 1) : q_mV l y_Big_copy prog_2_method_4_code 2 2 0 0 D g [.ref qO0, .ref qO1] ws (fun u => q_un ws u [kO0, kA2] ∧ u[kO0]? = (some (qO0, .inr (2, [.ref qA2, .int y1, .int y2])) : Option (Nat × va_E)) ∧ u[kA2]? = (some (qA2, .inl (g 0, 108, .inl (va_cpy f3 (fun _ => 0) (0 : Int32).toNatClampNeg (0 : Int32).toNatClampNeg y1.toNatClampNeg))) : Option (Nat × va_E))) := by
  intro sz
  refine q_into (by decide) (Nat.le_of_ble_eq_true rfl) ?_
  intro p e s m below meth c ls hsz C0 V hl
  have hx := C0.1
  have hb := C0.2.1
  have hl : lv_has ls 2 [(0, .ref qO0), (1, .ref qO1)] := hl
  have n_A2_O0 := q_df hA2 hO0
  have n_A3_O0 := q_df hA3 hO0
  have n_O0_A2 := Ne.symm (q_df hA2 hO0)
  have n_O1_A2 := Ne.symm (q_df hA2 hO1)
  have hF : q_un ws ws [kO0, kA2] := q_u0
  refine lv_aload_n hx hb d_2_4_0 rfl (lv_at hl 0 rfl) ?_
  refine lv_aload_n hx hb d_2_4_1 rfl (lv_at hl 1 rfl) ?_
  refine q_get (ci := 2) (j := 1) (v := .int y1) C0 V i_Big rfl rfl hO1 (by decide) w_85 rfl d_2_4_2 ?_
  refine lv_aload_n hx hb d_2_4_5 rfl (lv_at hl 0 rfl) ?_
  refine q_get (ci := 2) (j := 0) (v := .ref qA2) C0 V i_Big rfl rfl hO0 (by decide) w_84 rfl d_2_4_6 ?_
  refine q_alen (t := 0) (v := 108) C0 V hA2 rfl (by first | rfl | decide) d_2_4_9 ?_
  refine q_min C0 hl.1 rfl w_773 w_774 w_7 w_775 ⟨Nat.le_of_ble_eq_true rfl, Nat.le_of_ble_eq_true rfl⟩ ⟨Nat.le_of_ble_eq_true rfl, Nat.le_of_ble_eq_true rfl⟩ d_2_4_10 ?_
  refine q_ti (v := y1) (if_neg (Int32.not_lt.mpr (q_Ile (x := y1.toInt) (y := 108) rfl (by decide) (by have t1 : 0 ≤ y1.toInt := q_leI y1lo; have t2 : y1.toInt ≤ 3 := q_leI y1hi; omega)))) ?_
  refine q_put (ci := 2) (j := 1) (v := .int y1) (ty := .int) C0 V i_Big o_Big n_Big rfl rfl hO0 (by decide) w_85 rfl rfl rfl rfl (Nat.le_of_ble_eq_true rfl) d_2_4_13 (fun H locs w1 hu2 hO0 V => ?_)
  replace hO0 : w1[kO0]? = (some (qO0, .inr (2, [.ref qA2, .int y1, .int 0])) : Option (Nat × va_E)) := hO0
  replace hF := q_us hF hu2 (.head _)
  refine lv_aload_n hx hb d_2_4_16 rfl (lv_at hl 1 rfl) ?_
  replace hO1 := (hu2 _ n_O1_O0).trans (hO1)
  refine q_get (ci := 2) (j := 0) (v := .ref qA3) C0 V i_Big rfl rfl hO1 (by decide) w_84 rfl d_2_4_17 ?_
  refine lv_iconst (v := 0) hx hb d_2_4_20 (by decide) ?_
  refine lv_aload_n hx hb d_2_4_21 rfl (lv_at hl 0 rfl) ?_
  refine q_get (ci := 2) (j := 0) (v := .ref qA2) C0 V i_Big rfl rfl hO0 (by decide) w_84 rfl d_2_4_22 ?_
  refine lv_iconst (v := 0) hx hb d_2_4_25 (by decide) ?_
  refine lv_aload_n hx hb d_2_4_26 rfl (lv_at hl 0 rfl) ?_
  refine q_get (ci := 2) (j := 1) (v := .int y1) C0 V i_Big rfl rfl hO0 (by decide) w_85 rfl d_2_4_27 ?_
  replace hA3 := (hu2 _ n_A3_O0).trans (hA3)
  replace hA2 := (hu2 _ n_A2_O0).trans (hA2)
  refine q_copy C0 V hl.1 rfl w_791 w_793 w_792 w_29 hA3 hA2 (by decide) (by decide) (Int32.not_lt.mpr (q_Ile (x := 0) (y := y1.toInt) (by decide) rfl (by have t1 : 0 ≤ y1.toInt := q_leI y1lo; have t2 : y1.toInt ≤ 3 := q_leI y1hi; omega))) (by have e := q_clI (x := y1.toInt) rfl (by have t1 : 0 ≤ y1.toInt := q_leI y1lo; have t2 : y1.toInt ≤ 3 := q_leI y1hi; omega); have e1 : (0 : Int32).toNatClampNeg = 0 := rfl; have t1 : 0 ≤ y1.toInt := q_leI y1lo; have t2 : y1.toInt ≤ 3 := q_leI y1hi; omega) (by have e := q_clI (x := y1.toInt) rfl (by have t1 : 0 ≤ y1.toInt := q_leI y1lo; have t2 : y1.toInt ≤ 3 := q_leI y1hi; omega); have e1 : (0 : Int32).toNatClampNeg = 0 := rfl; have t1 : 0 ≤ y1.toInt := q_leI y1lo; have t2 : y1.toInt ≤ 3 := q_leI y1hi; omega) ⟨Nat.le_of_ble_eq_true rfl, Nat.le_of_ble_eq_true rfl⟩ d_2_4_30 (fun H locs w3 hu4 hA2 V => ?_)
  replace hA2 : w3[kA2]? = (some (qA2, .inl (g 0, 108, .inl (va_cpy f3 (fun _ => 0) (0 : Int32).toNatClampNeg (0 : Int32).toNatClampNeg y1.toNatClampNeg))) : Option (Nat × va_E)) := hA2
  replace hF := q_us hF hu4 (.tail _ (.head _))
  refine lv_aload_n hx hb d_2_4_33 rfl (lv_at hl 0 rfl) ?_
  refine lv_aload_n hx hb d_2_4_34 rfl (lv_at hl 1 rfl) ?_
  replace hO1 := (hu4 _ n_O1_A2).trans (hO1)
  refine q_get (ci := 2) (j := 2) (v := .int y2) C0 V i_Big rfl rfl hO1 (by decide) w_94 rfl d_2_4_35 ?_
  replace hO0 := (hu4 _ n_O0_A2).trans (hO0)
  refine q_put (ci := 2) (j := 2) (v := .int y2) (ty := .boolean) C0 V i_Big o_Big n_Big rfl rfl hO0 (by decide) w_94 rfl rfl (q_nz01 (q_Ile (x := 0) (y := y2.toInt) (by decide) rfl (by have t1 : 0 ≤ y2.toInt := q_leI y2lo; have t2 : y2.toInt ≤ 1 := q_leI y2hi; omega)) (q_Ile (x := y2.toInt) (y := 1) rfl (by decide) (by have t1 : 0 ≤ y2.toInt := q_leI y2lo; have t2 : y2.toInt ≤ 1 := q_leI y2hi; omega))) (q_fz01 (q_Ile (x := 0) (y := y2.toInt) (by decide) rfl (by have t1 : 0 ≤ y2.toInt := q_leI y2lo; have t2 : y2.toInt ≤ 1 := q_leI y2hi; omega)) (q_Ile (x := y2.toInt) (y := 1) rfl (by decide) (by have t1 : 0 ≤ y2.toInt := q_leI y2lo; have t2 : y2.toInt ≤ 1 := q_leI y2hi; omega))) (Nat.le_of_ble_eq_true rfl) d_2_4_38 (fun H locs w5 hu6 hO0 V => ?_)
  replace hO0 : w5[kO0]? = (some (qO0, .inr (2, [.ref qA2, .int y1, .int y2])) : Option (Nat × va_E)) := hO0
  replace hF := q_us hF hu6 (.head _)
  replace hA2 := (hu6 _ n_A2_O0).trans (hA2)
  exact q_retv C0 V (⟨hF, hO0, hA2⟩) d_2_4_41
set_option maxRecDepth 100000 in
set_option maxHeartbeats 4000000 in
theorem c_DW_settle_4 (l : Launch) (D : va_G) (g : Nat → ClassId) (ws : va_W) (kO0 kO1 kO2 kO4 kA5 kO6 kO12 kA17 kA23 qO0 qO1 qO2 qO3 qO4 qA5 qO6 qO8 qO9 qO10 qO11 qO12 qO13 qO14 qO15 qO16 qA17 qA23 : Nat) (y1 : Int32) (y2 : Int32) (f3 : Nat → Int32) (hO0 : ws[kO0]? = (some (qO0, .inr (5, [.ref qO3, .long 0, .ref qO4, .int 0])) : Option (Nat × va_E))) (hO1 : ws[kO1]? = (some (qO1, .inr (2, [.ref qA5, .int y1, .int y2])) : Option (Nat × va_E))) (hO2 : ws[kO2]? = (some (qO2, .inr (3, [.ref qO6, .int 0, .int 1])) : Option (Nat × va_E))) (hO4 : ws[kO4]? = (some (qO4, .inr (4, [.ref qO1, .ref qO8, .ref qO9, .ref qO10, .ref qO11, .ref qO12, .ref qO13, .ref qO14, .ref qO15, .ref qO16])) : Option (Nat × va_E))) (hA5 : ws[kA5]? = (some (qA5, .inl (g 0, 220, .inl f3)) : Option (Nat × va_E))) (hO6 : ws[kO6]? = (some (qO6, .inr (2, [.ref qA17, .int 0, .int 0])) : Option (Nat × va_E))) (hO12 : ws[kO12]? = (some (qO12, .inr (2, [.ref qA23, .int 0, .int 0])) : Option (Nat × va_E))) (hA17 : ws[kA17]? = (some (qA17, .inl (g 0, 108, .inl (fun _ => 0))) : Option (Nat × va_E))) (hA23 : ws[kA23]? = (some (qA23, .inl (g 0, 220, .inl (fun _ => 0))) : Option (Nat × va_E))) (n_A17_A23 : kA17 ≠ kA23) (n_A5_A17 : kA5 ≠ kA17) (n_A5_A23 : kA5 ≠ kA23) (n_O1_O12 : kO1 ≠ kO12) (n_O1_O6 : kO1 ≠ kO6) (n_O12_O6 : kO12 ≠ kO6) (y1lo : 0 ≤ y1) (y1hi : y1 ≤ 3) (y2lo : 0 ≤ y2) (y2hi : y2 ≤ 1) : q_mI l y_DW_settle prog_4_method_2_code 6 (.boolean) 5 0 0 D g [.ref qO0, .ref qO1, .long 0, .ref qO2] ws (fun r u => (∃ (ex0 : Int32) (ex1 : Int32) (ex2 : Nat → Int32), 0 ≤ ex1 ∧ ex1 ≤ 220 ∧ 1 ≤ ex0 ∧ ex0 ≤ 70 ∧ 1 = r ∧ q_un ws u [kO2, kO6, kO12, kA17, kA23] ∧ u[kO2]? = (some (qO2, .inr (3, [.ref qO6, .int 0, .int ex0])) : Option (Nat × va_E)) ∧ u[kO6]? = (some (qO6, .inr (2, [.ref qA17, .int y1, .int y2])) : Option (Nat × va_E)) ∧ u[kO12]? = (some (qO12, .inr (2, [.ref qA23, .int ex1, .int 0])) : Option (Nat × va_E)) ∧ u[kA17]? = (some (qA17, .inl (g 0, 108, .inl (va_cpy f3 (fun _ => 0) (0 : Int32).toNatClampNeg (0 : Int32).toNatClampNeg y1.toNatClampNeg))) : Option (Nat × va_E)) ∧ u[kA23]? = (some (qA23, .inl (g 0, 220, .inl ex2)) : Option (Nat × va_E))) ∨ (y1 = 0 ∧ 1 = r ∧ q_un ws u [kO2, kO6, kO12, kA17, kA23] ∧ u[kO2]? = (some (qO2, .inr (3, [.ref qO6, .int 0, .int 1])) : Option (Nat × va_E)) ∧ u[kO6]? = (some (qO6, .inr (2, [.ref qA17, .int y1, .int y2])) : Option (Nat × va_E)) ∧ u[kO12]? = (some (qO12, .inr (2, [.ref qA23, .int 0, .int 0])) : Option (Nat × va_E)) ∧ u[kA17]? = (some (qA17, .inl (g 0, 108, .inl (va_cpy f3 (fun _ => 0) (0 : Int32).toNatClampNeg (0 : Int32).toNatClampNeg y1.toNatClampNeg))) : Option (Nat × va_E)) ∧ u[kA23]? = (some (qA23, .inl (g 0, 220, .inl (fun _ => 0))) : Option (Nat × va_E)))) := by
  intro sz
  refine q_into (by decide) (Nat.le_of_ble_eq_true rfl) ?_
  intro p e s m below meth c ls hsz C0 V hl
  have hx := C0.1
  have hb := C0.2.1
  have hl : lv_has ls 6 [(0, .ref qO0), (1, .ref qO1), (2, .long 0), (4, .ref qO2)] := hl
  have n_A17_O12 := q_df hA17 hO12
  have n_A17_O2 := q_df hA17 hO2
  have n_A23_A17 := Ne.symm n_A17_A23
  have n_A23_O2 := q_df hA23 hO2
  have n_A23_O6 := q_df hA23 hO6
  have n_A5_O12 := q_df hA5 hO12
  have n_A5_O2 := q_df hA5 hO2
  have n_A5_O6 := q_df hA5 hO6
  have n_O0_A17 := Ne.symm (q_df hA17 hO0)
  have n_O0_A23 := Ne.symm (q_df hA23 hO0)
  have n_O0_O12 := q_dc hO0 hO12 (q_pd 5 2 rfl)
  have n_O0_O2 := q_dc hO0 hO2 (q_pd 5 3 rfl)
  have n_O0_O6 := q_dc hO0 hO6 (q_pd 5 2 rfl)
  have n_O1_A17 := Ne.symm (q_df hA17 hO1)
  have n_O1_A23 := Ne.symm (q_df hA23 hO1)
  have n_O1_O2 := q_dc hO1 hO2 (q_pd 2 3 rfl)
  have n_O12_A17 := Ne.symm (q_df hA17 hO12)
  have n_O12_O2 := q_dc hO12 hO2 (q_pd 2 3 rfl)
  have n_O2_A17 := Ne.symm (q_df hA17 hO2)
  have n_O2_A23 := Ne.symm (q_df hA23 hO2)
  have n_O2_O12 := q_dc hO2 hO12 (q_pd 3 2 rfl)
  have n_O2_O6 := q_dc hO2 hO6 (q_pd 3 2 rfl)
  have n_O4_A17 := Ne.symm (q_df hA17 hO4)
  have n_O4_A23 := Ne.symm (q_df hA23 hO4)
  have n_O4_O12 := q_dc hO4 hO12 (q_pd 4 2 rfl)
  have n_O4_O2 := q_dc hO4 hO2 (q_pd 4 3 rfl)
  have n_O4_O6 := q_dc hO4 hO6 (q_pd 4 2 rfl)
  have n_O6_A23 := Ne.symm (q_df hA23 hO6)
  have n_O6_O12 := Ne.symm n_O12_O6
  have n_O6_O2 := q_dc hO6 hO2 (q_pd 2 3 rfl)
  have hF : q_un ws ws [kO2, kO6, kO12, kA17, kA23] := q_u0
  refine lv_aload_n hx hb d_4_2_0 rfl (lv_at hl 0 rfl) ?_
  refine q_get (ci := 5) (j := 2) (v := .ref qO4) C0 V i_DW rfl rfl hO0 (by decide) w_214 rfl d_4_2_1 ?_
  refine lv_aload_n hx hb d_4_2_4 rfl (lv_at hl 1 rfl) ?_
  refine q_goi V (q_runV (As := [.ref qO1]) (rest := []) (d := 4) (mc := 0) (ms := 0) (ci := 4) C0 V rfl LV_DW_34 (c_Mil_countFigures_3 l D g ws kO4 kO1 kO12 kA5 kA23 qO4 qO1 qO8 qO9 qO10 qO11 qO12 qO13 qO14 qO15 qO16 qA5 qA23 y1 y2 f3 hO4 hO1 hO12 hA5 hA23 n_A5_A23 n_O1_O12 y1lo y1hi y2lo y2hi _) rfl rfl hO4 rfl hl.1 rfl (Nat.le_of_ble_eq_true rfl) ⟨by decide, by decide⟩ ⟨Nat.le_of_ble_eq_true rfl, Nat.le_of_ble_eq_true rfl⟩ d_4_2_5) (fun v3 u2 H locs hp1 V => ?_)
  rcases hp1 with ⟨y8, y9, y10, f4, f5, f6, f7, rfl, hg11, hO12, hA23⟩ | ⟨c12, rfl, hg13, hO12, hA23⟩
  ·
    replace hF := q_uc hF hg11 (q_sc (.tail _ (.tail _ (.head _))) (q_sc (List.mem_of_getElem? (i := 4) rfl) (fun _ h => absurd h List.not_mem_nil)))
    refine lv_istore (lv' := [(5, .int y8), (0, .ref qO0), (1, .ref qO1), (2, .long 0), (4, .ref qO2)]) hx hb d_4_2_8 hl (by decide) rfl (fun ls hl => ?_)
    refine lv_iload hx hb d_4_2_10 (lv_at hl 0 rfl) ?_
    refine lv_sipush (v := 1000) hx hb d_4_2_12 (by decide) ?_
    refine lv_icmp_gt (tgt := 34) hx hb d_4_2_15 (by decide) (fun c14 => absurd c14 (Int32.not_lt.mpr (q_Ile (x := y8.toInt) (y := 1000) rfl (by decide) (by have t1 : 1 ≤ y8.toInt := q_leI f6; have t2 : y8.toInt ≤ 70 := q_leI f7; omega)))) (fun c14 => ?_)
    refine lv_lload_n hx hb d_4_2_18 rfl (lv_at hl 3 rfl) ?_
    refine q_ldc2 C0 rfl w_1089 d_4_2_19 ?_
    refine W.lcmp hx hb d_4_2_22 ?_
    refine q_ti (v := 1) (by decide) ?_
    refine lv_if_lt (tgt := 34) hx hb d_4_2_23 (by decide) (fun c15 => absurd c15 (by decide)) (fun c15 => ?_)
    refine lv_lload_n hx hb d_4_2_26 rfl (lv_at hl 3 rfl) ?_
    refine q_ldc2 C0 rfl w_1090 d_4_2_27 ?_
    refine W.lcmp hx hb d_4_2_30 ?_
    refine q_ti (v := (-1)) (by decide) ?_
    refine lv_if_le (tgt := 36) hx hb d_4_2_31 (by decide) (fun c16 => ?_) (fun c16 => absurd (by decide) c16)
    refine lv_aload hx hb d_4_2_36 (lv_at hl 4 rfl) ?_
    replace hO2 := (hg11 _ (q_nc n_O2_O12 (q_nc n_O2_A23 List.not_mem_nil))).trans (hO2)
    refine q_get (ci := 3) (j := 0) (v := .ref qO6) C0 V i_Dec rfl rfl hO2 (by decide) w_171 rfl d_4_2_38 ?_
    refine lv_aload_n hx hb d_4_2_41 rfl (lv_at hl 2 rfl) ?_
    replace hO6 := (hg11 _ (q_nc n_O6_O12 (q_nc n_O6_A23 List.not_mem_nil))).trans (hO6)
    replace hO1 := (hg11 _ (q_nc n_O1_O12 (q_nc n_O1_A23 List.not_mem_nil))).trans (hO1)
    replace hA17 := (hg11 _ (q_nc n_A17_O12 (q_nc n_A17_A23 List.not_mem_nil))).trans (hA17)
    replace hA5 := (hg11 _ (q_nc n_A5_O12 (q_nc n_A5_A23 List.not_mem_nil))).trans (hA5)
    refine q_gov V (q_runV (As := [.ref qO1]) (rest := []) (d := 2) (mc := 0) (ms := 0) (ci := 2) C0 V rfl LV_DW_44 (c_Big_copy_12 l D g u2 kO6 kO1 kA17 kA5 qO6 qO1 qA17 qA5 y1 y2 f3 hO6 hO1 hA17 hA5 n_A5_A17 n_O1_O6 y1lo y1hi y2lo y2hi _) rfl rfl hO6 rfl hl.1 rfl (Nat.le_of_ble_eq_true rfl) ⟨by decide, by decide⟩ ⟨Nat.le_of_ble_eq_true rfl, Nat.le_of_ble_eq_true rfl⟩ d_4_2_42) (fun u18 H locs hp17 V => ?_)
    obtain ⟨hg19, hO6, hA17⟩ := hp17
    replace hF := q_uc hF hg19 (q_sc (.tail _ (.head _)) (q_sc (List.mem_of_getElem? (i := 3) rfl) (fun _ h => absurd h List.not_mem_nil)))
    refine lv_aload hx hb d_4_2_45 (lv_at hl 4 rfl) ?_
    refine lv_lload_n hx hb d_4_2_47 rfl (lv_at hl 3 rfl) ?_
    refine lv_l2i hx hb d_4_2_48 rfl ?_
    refine q_ti (v := 0) (by decide) ?_
    replace hO2 := (hg19 _ (q_nc n_O2_O6 (q_nc n_O2_A17 List.not_mem_nil))).trans (hO2)
    refine q_put (ci := 3) (j := 1) (v := .int 0) (ty := .int) C0 V i_Dec o_Dec n_Dec rfl rfl hO2 (by decide) w_176 rfl rfl rfl rfl (Nat.le_of_ble_eq_true rfl) d_4_2_49 (fun H locs w20 hu21 hO2 V => ?_)
    replace hO2 : w20[kO2]? = (some (qO2, .inr (3, [.ref qO6, .int 0, .int 1])) : Option (Nat × va_E)) := hO2
    replace hF := q_us hF hu21 (.head _)
    refine lv_aload hx hb d_4_2_52 (lv_at hl 4 rfl) ?_
    refine lv_iload hx hb d_4_2_54 (lv_at hl 0 rfl) ?_
    refine q_put (ci := 3) (j := 2) (v := .int y8) (ty := .int) C0 V i_Dec o_Dec n_Dec rfl rfl hO2 (by decide) w_180 rfl rfl rfl rfl (Nat.le_of_ble_eq_true rfl) d_4_2_56 (fun H locs w22 hu23 hO2 V => ?_)
    replace hO2 : w22[kO2]? = (some (qO2, .inr (3, [.ref qO6, .int 0, .int y8])) : Option (Nat × va_E)) := hO2
    replace hF := q_us hF hu23 (.head _)
    refine lv_iconst (v := 1) hx hb d_4_2_59 (by decide) ?_
    replace hO6 := (hu23 _ n_O6_O2).trans ((hu21 _ n_O6_O2).trans (hO6))
    replace hO12 := (hu23 _ n_O12_O2).trans ((hu21 _ n_O12_O2).trans ((hg19 _ (q_nc n_O12_O6 (q_nc n_O12_A17 List.not_mem_nil))).trans (hO12)))
    replace hA17 := (hu23 _ n_A17_O2).trans ((hu21 _ n_A17_O2).trans (hA17))
    replace hA23 := (hu23 _ n_A23_O2).trans ((hu21 _ n_A23_O2).trans ((hg19 _ (q_nc n_A23_O6 (q_nc n_A23_A17 List.not_mem_nil))).trans (hA23)))
    exact q_retz C0 V (rfl) (Or.inl ⟨y8, y9, y10, f4, f5, f6, f7, rfl, hF, hO2, hO6, hO12, hA17, hA23⟩) d_4_2_60
  ·
    replace hF := q_uc hF hg13 (q_sc (.tail _ (.tail _ (.head _))) (q_sc (List.mem_of_getElem? (i := 4) rfl) (fun _ h => absurd h List.not_mem_nil)))
    refine lv_istore (lv' := [(5, .int 1), (0, .ref qO0), (1, .ref qO1), (2, .long 0), (4, .ref qO2)]) hx hb d_4_2_8 hl (by decide) rfl (fun ls hl => ?_)
    refine lv_iload hx hb d_4_2_10 (lv_at hl 0 rfl) ?_
    refine lv_sipush (v := 1000) hx hb d_4_2_12 (by decide) ?_
    refine lv_icmp_gt (tgt := 34) hx hb d_4_2_15 (by decide) (fun c24 => absurd c24 (by decide)) (fun c24 => ?_)
    refine lv_lload_n hx hb d_4_2_18 rfl (lv_at hl 3 rfl) ?_
    refine q_ldc2 C0 rfl w_1089 d_4_2_19 ?_
    refine W.lcmp hx hb d_4_2_22 ?_
    refine q_ti (v := 1) (by decide) ?_
    refine lv_if_lt (tgt := 34) hx hb d_4_2_23 (by decide) (fun c25 => absurd c25 (by decide)) (fun c25 => ?_)
    refine lv_lload_n hx hb d_4_2_26 rfl (lv_at hl 3 rfl) ?_
    refine q_ldc2 C0 rfl w_1090 d_4_2_27 ?_
    refine W.lcmp hx hb d_4_2_30 ?_
    refine q_ti (v := (-1)) (by decide) ?_
    refine lv_if_le (tgt := 36) hx hb d_4_2_31 (by decide) (fun c26 => ?_) (fun c26 => absurd (by decide) c26)
    refine lv_aload hx hb d_4_2_36 (lv_at hl 4 rfl) ?_
    replace hO2 := (hg13 _ (q_nc n_O2_O12 (q_nc n_O2_A23 List.not_mem_nil))).trans (hO2)
    refine q_get (ci := 3) (j := 0) (v := .ref qO6) C0 V i_Dec rfl rfl hO2 (by decide) w_171 rfl d_4_2_38 ?_
    refine lv_aload_n hx hb d_4_2_41 rfl (lv_at hl 2 rfl) ?_
    replace hO6 := (hg13 _ (q_nc n_O6_O12 (q_nc n_O6_A23 List.not_mem_nil))).trans (hO6)
    replace hO1 := (hg13 _ (q_nc n_O1_O12 (q_nc n_O1_A23 List.not_mem_nil))).trans (hO1)
    replace hA17 := (hg13 _ (q_nc n_A17_O12 (q_nc n_A17_A23 List.not_mem_nil))).trans (hA17)
    replace hA5 := (hg13 _ (q_nc n_A5_O12 (q_nc n_A5_A23 List.not_mem_nil))).trans (hA5)
    refine q_gov V (q_runV (As := [.ref qO1]) (rest := []) (d := 2) (mc := 0) (ms := 0) (ci := 2) C0 V rfl LV_DW_44 (c_Big_copy_12 l D g u2 kO6 kO1 kA17 kA5 qO6 qO1 qA17 qA5 y1 y2 f3 hO6 hO1 hA17 hA5 n_A5_A17 n_O1_O6 y1lo y1hi y2lo y2hi _) rfl rfl hO6 rfl hl.1 rfl (Nat.le_of_ble_eq_true rfl) ⟨by decide, by decide⟩ ⟨Nat.le_of_ble_eq_true rfl, Nat.le_of_ble_eq_true rfl⟩ d_4_2_42) (fun u28 H locs hp27 V => ?_)
    obtain ⟨hg29, hO6, hA17⟩ := hp27
    replace hF := q_uc hF hg29 (q_sc (.tail _ (.head _)) (q_sc (List.mem_of_getElem? (i := 3) rfl) (fun _ h => absurd h List.not_mem_nil)))
    refine lv_aload hx hb d_4_2_45 (lv_at hl 4 rfl) ?_
    refine lv_lload_n hx hb d_4_2_47 rfl (lv_at hl 3 rfl) ?_
    refine lv_l2i hx hb d_4_2_48 rfl ?_
    refine q_ti (v := 0) (by decide) ?_
    replace hO2 := (hg29 _ (q_nc n_O2_O6 (q_nc n_O2_A17 List.not_mem_nil))).trans (hO2)
    refine q_put (ci := 3) (j := 1) (v := .int 0) (ty := .int) C0 V i_Dec o_Dec n_Dec rfl rfl hO2 (by decide) w_176 rfl rfl rfl rfl (Nat.le_of_ble_eq_true rfl) d_4_2_49 (fun H locs w30 hu31 hO2 V => ?_)
    replace hO2 : w30[kO2]? = (some (qO2, .inr (3, [.ref qO6, .int 0, .int 1])) : Option (Nat × va_E)) := hO2
    replace hF := q_us hF hu31 (.head _)
    refine lv_aload hx hb d_4_2_52 (lv_at hl 4 rfl) ?_
    refine lv_iload hx hb d_4_2_54 (lv_at hl 0 rfl) ?_
    refine q_put (ci := 3) (j := 2) (v := .int 1) (ty := .int) C0 V i_Dec o_Dec n_Dec rfl rfl hO2 (by decide) w_180 rfl rfl rfl rfl (Nat.le_of_ble_eq_true rfl) d_4_2_56 (fun H locs w32 hu33 hO2 V => ?_)
    replace hO2 : w32[kO2]? = (some (qO2, .inr (3, [.ref qO6, .int 0, .int 1])) : Option (Nat × va_E)) := hO2
    replace hF := q_us hF hu33 (.head _)
    refine lv_iconst (v := 1) hx hb d_4_2_59 (by decide) ?_
    replace hO6 := (hu33 _ n_O6_O2).trans ((hu31 _ n_O6_O2).trans (hO6))
    replace hO12 := (hu33 _ n_O12_O2).trans ((hu31 _ n_O12_O2).trans ((hg29 _ (q_nc n_O12_O6 (q_nc n_O12_A17 List.not_mem_nil))).trans (hO12)))
    replace hA17 := (hu33 _ n_A17_O2).trans ((hu31 _ n_A17_O2).trans (hA17))
    replace hA23 := (hu33 _ n_A23_O2).trans ((hu31 _ n_A23_O2).trans ((hg29 _ (q_nc n_A23_O6 (q_nc n_A23_A17 List.not_mem_nil))).trans (hA23)))
    exact q_retz C0 V (rfl) (Or.inr (⟨c12, rfl, hF, hO2, hO6, hO12, hA17, hA23⟩)) d_4_2_60
set_option maxRecDepth 100000 in
set_option maxHeartbeats 4000000 in
theorem c_Big_push_13 (l : Launch) (D : va_G) (g : Nat → ClassId) (ws : va_W) (kO0 kA1 qO0 qA1 : Nat) (x1 : Int32) (hO0 : ws[kO0]? = (some (qO0, .inr (2, [.ref qA1, .int 0, .int 0])) : Option (Nat × va_E))) (hA1 : ws[kA1]? = (some (qA1, .inl (g 0, 68, .inl (fun _ => 0))) : Option (Nat × va_E))) : q_mV l y_Big_push prog_2_method_6_code 2 1 0 0 D g [.ref qO0, .int x1] ws (fun u => q_un ws u [kO0, kA1] ∧ u[kO0]? = (some (qO0, .inr (2, [.ref qA1, .int 1, .int 0])) : Option (Nat × va_E)) ∧ u[kA1]? = (some (qA1, .inl (g 0, 68, .inl (upd (fun _ => 0) 0 x1))) : Option (Nat × va_E))) := by
  intro sz
  refine q_into (by decide) (Nat.le_of_ble_eq_true rfl) ?_
  intro p e s m below meth c ls hsz C0 V hl
  have hx := C0.1
  have hb := C0.2.1
  have hl : lv_has ls 2 [(0, .ref qO0), (1, .int x1)] := hl
  have n_A1_O0 := q_df hA1 hO0
  have n_O0_A1 := Ne.symm (q_df hA1 hO0)
  have hF : q_un ws ws [kO0, kA1] := q_u0
  refine lv_aload_n hx hb d_2_6_0 rfl (lv_at hl 0 rfl) ?_
  refine q_get (ci := 2) (j := 1) (v := .int 0) C0 V i_Big rfl rfl hO0 (by decide) w_85 rfl d_2_6_1 ?_
  refine lv_aload_n hx hb d_2_6_4 rfl (lv_at hl 0 rfl) ?_
  refine q_get (ci := 2) (j := 0) (v := .ref qA1) C0 V i_Big rfl rfl hO0 (by decide) w_84 rfl d_2_6_5 ?_
  refine q_alen (t := 0) (v := 68) C0 V hA1 rfl (by first | rfl | decide) d_2_6_8 ?_
  refine lv_icmp_ge (tgt := 32) hx hb d_2_6_9 (by decide) (fun c1 => absurd c1 (by decide)) (fun c1 => ?_)
  refine lv_aload_n hx hb d_2_6_12 rfl (lv_at hl 0 rfl) ?_
  refine q_get (ci := 2) (j := 0) (v := .ref qA1) C0 V i_Big rfl rfl hO0 (by decide) w_84 rfl d_2_6_13 ?_
  refine lv_aload_n hx hb d_2_6_16 rfl (lv_at hl 0 rfl) ?_
  refine q_get (ci := 2) (j := 1) (v := .int 0) C0 V i_Big rfl rfl hO0 (by decide) w_85 rfl d_2_6_17 ?_
  refine lv_iload_n hx hb d_2_6_20 rfl (lv_at hl 1 rfl) ?_
  refine q_iast C0 V hA1 (by unfold vp_in; decide) d_2_6_21 (fun H locs w2 hu3 hA1 V => ?_)
  replace hA1 : w2[kA1]? = (some (qA1, .inl (g 0, 68, .inl (upd (fun _ => 0) 0 x1))) : Option (Nat × va_E)) := hA1
  replace hF := q_us hF hu3 (.tail _ (.head _))
  refine lv_aload_n hx hb d_2_6_22 rfl (lv_at hl 0 rfl) ?_
  refine lv_dup hx hb d_2_6_23 rfl ?_
  replace hO0 := (hu3 _ n_O0_A1).trans (hO0)
  refine q_get (ci := 2) (j := 1) (v := .int 0) C0 V i_Big rfl rfl hO0 (by decide) w_85 rfl d_2_6_24 ?_
  refine lv_iconst (v := 1) hx hb d_2_6_27 (by decide) ?_
  refine lv_iadd hx hb d_2_6_28 ?_
  refine q_ti (v := 1) (by decide) ?_
  refine q_put (ci := 2) (j := 1) (v := .int 1) (ty := .int) C0 V i_Big o_Big n_Big rfl rfl hO0 (by decide) w_85 rfl rfl rfl rfl (Nat.le_of_ble_eq_true rfl) d_2_6_29 (fun H locs w4 hu5 hO0 V => ?_)
  replace hO0 : w4[kO0]? = (some (qO0, .inr (2, [.ref qA1, .int 1, .int 0])) : Option (Nat × va_E)) := hO0
  replace hF := q_us hF hu5 (.head _)
  replace hA1 := (hu5 _ n_A1_O0).trans (hA1)
  exact q_retv C0 V (⟨hF, hO0, hA1⟩) d_2_6_32
set_option maxRecDepth 100000 in
set_option maxHeartbeats 4000000 in
theorem c_Big_push_14 (l : Launch) (D : va_G) (g : Nat → ClassId) (ws : va_W) (kO0 kA1 qO0 qA1 : Nat) (x1 : Int32) (v2 : Int32) (hO0 : ws[kO0]? = (some (qO0, .inr (2, [.ref qA1, .int 1, .int 0])) : Option (Nat × va_E))) (hA1 : ws[kA1]? = (some (qA1, .inl (g 0, 68, .inl (upd (fun _ => 0) 0 v2))) : Option (Nat × va_E))) : q_mV l y_Big_push prog_2_method_6_code 2 1 0 0 D g [.ref qO0, .int x1] ws (fun u => q_un ws u [kO0, kA1] ∧ u[kO0]? = (some (qO0, .inr (2, [.ref qA1, .int 2, .int 0])) : Option (Nat × va_E)) ∧ u[kA1]? = (some (qA1, .inl (g 0, 68, .inl (upd (upd (fun _ => 0) 0 v2) 1 x1))) : Option (Nat × va_E))) := by
  intro sz
  refine q_into (by decide) (Nat.le_of_ble_eq_true rfl) ?_
  intro p e s m below meth c ls hsz C0 V hl
  have hx := C0.1
  have hb := C0.2.1
  have hl : lv_has ls 2 [(0, .ref qO0), (1, .int x1)] := hl
  have n_A1_O0 := q_df hA1 hO0
  have n_O0_A1 := Ne.symm (q_df hA1 hO0)
  have hF : q_un ws ws [kO0, kA1] := q_u0
  refine lv_aload_n hx hb d_2_6_0 rfl (lv_at hl 0 rfl) ?_
  refine q_get (ci := 2) (j := 1) (v := .int 1) C0 V i_Big rfl rfl hO0 (by decide) w_85 rfl d_2_6_1 ?_
  refine lv_aload_n hx hb d_2_6_4 rfl (lv_at hl 0 rfl) ?_
  refine q_get (ci := 2) (j := 0) (v := .ref qA1) C0 V i_Big rfl rfl hO0 (by decide) w_84 rfl d_2_6_5 ?_
  refine q_alen (t := 0) (v := 68) C0 V hA1 rfl (by first | rfl | decide) d_2_6_8 ?_
  refine lv_icmp_ge (tgt := 32) hx hb d_2_6_9 (by decide) (fun c1 => absurd c1 (by decide)) (fun c1 => ?_)
  refine lv_aload_n hx hb d_2_6_12 rfl (lv_at hl 0 rfl) ?_
  refine q_get (ci := 2) (j := 0) (v := .ref qA1) C0 V i_Big rfl rfl hO0 (by decide) w_84 rfl d_2_6_13 ?_
  refine lv_aload_n hx hb d_2_6_16 rfl (lv_at hl 0 rfl) ?_
  refine q_get (ci := 2) (j := 1) (v := .int 1) C0 V i_Big rfl rfl hO0 (by decide) w_85 rfl d_2_6_17 ?_
  refine lv_iload_n hx hb d_2_6_20 rfl (lv_at hl 1 rfl) ?_
  refine q_iast C0 V hA1 (by unfold vp_in; decide) d_2_6_21 (fun H locs w2 hu3 hA1 V => ?_)
  replace hA1 : w2[kA1]? = (some (qA1, .inl (g 0, 68, .inl (upd (upd (fun _ => 0) 0 v2) 1 x1))) : Option (Nat × va_E)) := hA1
  replace hF := q_us hF hu3 (.tail _ (.head _))
  refine lv_aload_n hx hb d_2_6_22 rfl (lv_at hl 0 rfl) ?_
  refine lv_dup hx hb d_2_6_23 rfl ?_
  replace hO0 := (hu3 _ n_O0_A1).trans (hO0)
  refine q_get (ci := 2) (j := 1) (v := .int 1) C0 V i_Big rfl rfl hO0 (by decide) w_85 rfl d_2_6_24 ?_
  refine lv_iconst (v := 1) hx hb d_2_6_27 (by decide) ?_
  refine lv_iadd hx hb d_2_6_28 ?_
  refine q_ti (v := 2) (by decide) ?_
  refine q_put (ci := 2) (j := 1) (v := .int 2) (ty := .int) C0 V i_Big o_Big n_Big rfl rfl hO0 (by decide) w_85 rfl rfl rfl rfl (Nat.le_of_ble_eq_true rfl) d_2_6_29 (fun H locs w4 hu5 hO0 V => ?_)
  replace hO0 : w4[kO0]? = (some (qO0, .inr (2, [.ref qA1, .int 2, .int 0])) : Option (Nat × va_E)) := hO0
  replace hF := q_us hF hu5 (.head _)
  replace hA1 := (hu5 _ n_A1_O0).trans (hA1)
  exact q_retv C0 V (⟨hF, hO0, hA1⟩) d_2_6_32
set_option maxRecDepth 100000 in
set_option maxHeartbeats 4000000 in
theorem c_Big_push_15 (l : Launch) (D : va_G) (g : Nat → ClassId) (ws : va_W) (kO0 kA1 qO0 qA1 : Nat) (x1 : Int32) (v2 : Int32) (v3 : Int32) (hO0 : ws[kO0]? = (some (qO0, .inr (2, [.ref qA1, .int 2, .int 0])) : Option (Nat × va_E))) (hA1 : ws[kA1]? = (some (qA1, .inl (g 0, 68, .inl (upd (upd (fun _ => 0) 0 v2) 1 v3))) : Option (Nat × va_E))) : q_mV l y_Big_push prog_2_method_6_code 2 1 0 0 D g [.ref qO0, .int x1] ws (fun u => q_un ws u [kO0, kA1] ∧ u[kO0]? = (some (qO0, .inr (2, [.ref qA1, .int 3, .int 0])) : Option (Nat × va_E)) ∧ u[kA1]? = (some (qA1, .inl (g 0, 68, .inl (upd (upd (upd (fun _ => 0) 0 v2) 1 v3) 2 x1))) : Option (Nat × va_E))) := by
  intro sz
  refine q_into (by decide) (Nat.le_of_ble_eq_true rfl) ?_
  intro p e s m below meth c ls hsz C0 V hl
  have hx := C0.1
  have hb := C0.2.1
  have hl : lv_has ls 2 [(0, .ref qO0), (1, .int x1)] := hl
  have n_A1_O0 := q_df hA1 hO0
  have n_O0_A1 := Ne.symm (q_df hA1 hO0)
  have hF : q_un ws ws [kO0, kA1] := q_u0
  refine lv_aload_n hx hb d_2_6_0 rfl (lv_at hl 0 rfl) ?_
  refine q_get (ci := 2) (j := 1) (v := .int 2) C0 V i_Big rfl rfl hO0 (by decide) w_85 rfl d_2_6_1 ?_
  refine lv_aload_n hx hb d_2_6_4 rfl (lv_at hl 0 rfl) ?_
  refine q_get (ci := 2) (j := 0) (v := .ref qA1) C0 V i_Big rfl rfl hO0 (by decide) w_84 rfl d_2_6_5 ?_
  refine q_alen (t := 0) (v := 68) C0 V hA1 rfl (by first | rfl | decide) d_2_6_8 ?_
  refine lv_icmp_ge (tgt := 32) hx hb d_2_6_9 (by decide) (fun c1 => absurd c1 (by decide)) (fun c1 => ?_)
  refine lv_aload_n hx hb d_2_6_12 rfl (lv_at hl 0 rfl) ?_
  refine q_get (ci := 2) (j := 0) (v := .ref qA1) C0 V i_Big rfl rfl hO0 (by decide) w_84 rfl d_2_6_13 ?_
  refine lv_aload_n hx hb d_2_6_16 rfl (lv_at hl 0 rfl) ?_
  refine q_get (ci := 2) (j := 1) (v := .int 2) C0 V i_Big rfl rfl hO0 (by decide) w_85 rfl d_2_6_17 ?_
  refine lv_iload_n hx hb d_2_6_20 rfl (lv_at hl 1 rfl) ?_
  refine q_iast C0 V hA1 (by unfold vp_in; decide) d_2_6_21 (fun H locs w2 hu3 hA1 V => ?_)
  replace hA1 : w2[kA1]? = (some (qA1, .inl (g 0, 68, .inl (upd (upd (upd (fun _ => 0) 0 v2) 1 v3) 2 x1))) : Option (Nat × va_E)) := hA1
  replace hF := q_us hF hu3 (.tail _ (.head _))
  refine lv_aload_n hx hb d_2_6_22 rfl (lv_at hl 0 rfl) ?_
  refine lv_dup hx hb d_2_6_23 rfl ?_
  replace hO0 := (hu3 _ n_O0_A1).trans (hO0)
  refine q_get (ci := 2) (j := 1) (v := .int 2) C0 V i_Big rfl rfl hO0 (by decide) w_85 rfl d_2_6_24 ?_
  refine lv_iconst (v := 1) hx hb d_2_6_27 (by decide) ?_
  refine lv_iadd hx hb d_2_6_28 ?_
  refine q_ti (v := 3) (by decide) ?_
  refine q_put (ci := 2) (j := 1) (v := .int 3) (ty := .int) C0 V i_Big o_Big n_Big rfl rfl hO0 (by decide) w_85 rfl rfl rfl rfl (Nat.le_of_ble_eq_true rfl) d_2_6_29 (fun H locs w4 hu5 hO0 V => ?_)
  replace hO0 : w4[kO0]? = (some (qO0, .inr (2, [.ref qA1, .int 3, .int 0])) : Option (Nat × va_E)) := hO0
  replace hF := q_us hF hu5 (.head _)
  replace hA1 := (hu5 _ n_A1_O0).trans (hA1)
  exact q_retv C0 V (⟨hF, hO0, hA1⟩) d_2_6_32
set_option maxRecDepth 100000 in
set_option maxHeartbeats 4000000 in
theorem c_Big_trim_9 (l : Launch) (D : va_G) (g : Nat → ClassId) (ws : va_W) (kO0 kA1 qO0 qA1 : Nat) (v1 : Int32) (v2 : Int32) (v3 : Int32) (hO0 : ws[kO0]? = (some (qO0, .inr (2, [.ref qA1, .int 3, .int 0])) : Option (Nat × va_E))) (hA1 : ws[kA1]? = (some (qA1, .inl (g 0, 68, .inl (upd (upd (upd (fun _ => 0) 0 v1) 1 v2) 2 v3))) : Option (Nat × va_E))) : q_mV l y_Big_trim prog_2_method_7_code 2 1 0 0 D g [.ref qO0] ws (fun u => (¬ v3 = 0 ∧ q_un ws u [kO0] ∧ u[kO0]? = (some (qO0, .inr (2, [.ref qA1, .int 3, .int 0])) : Option (Nat × va_E))) ∨ (v3 = 0 ∧ ¬ v2 = 0 ∧ q_un ws u [kO0] ∧ u[kO0]? = (some (qO0, .inr (2, [.ref qA1, .int 2, .int 0])) : Option (Nat × va_E))) ∨ (v3 = 0 ∧ v2 = 0 ∧ ¬ v1 = 0 ∧ q_un ws u [kO0] ∧ u[kO0]? = (some (qO0, .inr (2, [.ref qA1, .int 1, .int 0])) : Option (Nat × va_E))) ∨ (v3 = 0 ∧ v2 = 0 ∧ v1 = 0 ∧ q_un ws u [kO0] ∧ u[kO0]? = (some (qO0, .inr (2, [.ref qA1, .int 0, .int 0])) : Option (Nat × va_E)))) := by
  intro sz
  refine q_into (by decide) (Nat.le_of_ble_eq_true rfl) ?_
  intro p e s m below meth c ls hsz C0 V hl
  have hx := C0.1
  have hb := C0.2.1
  have hl : lv_has ls 2 [(0, .ref qO0)] := hl
  have n_A1_O0 := q_df hA1 hO0
  have hF : q_un ws ws [kO0] := q_u0
  refine lv_aload_n hx hb d_2_7_0 rfl (lv_at hl 0 rfl) ?_
  refine q_get (ci := 2) (j := 1) (v := .int 3) C0 V i_Big rfl rfl hO0 (by decide) w_85 rfl d_2_7_1 ?_
  refine lv_istore_n (lv' := [(1, .int 3), (0, .ref qO0)]) hx hb d_2_7_4 rfl hl (by decide) rfl (fun ls hl => ?_)
  refine lv_iload_n hx hb d_2_7_5 rfl (lv_at hl 0 rfl) ?_
  refine lv_if_le (tgt := 26) hx hb d_2_7_6 (by decide) (fun c1 => absurd c1 (by decide)) (fun c1 => ?_)
  refine lv_aload_n hx hb d_2_7_9 rfl (lv_at hl 1 rfl) ?_
  refine q_get (ci := 2) (j := 0) (v := .ref qA1) C0 V i_Big rfl rfl hO0 (by decide) w_84 rfl d_2_7_10 ?_
  refine lv_iload_n hx hb d_2_7_13 rfl (lv_at hl 0 rfl) ?_
  refine lv_iconst (v := 1) hx hb d_2_7_14 (by decide) ?_
  refine lv_isub hx hb d_2_7_15 ?_
  refine q_ti (v := 2) (by decide) ?_
  refine q_iald C0 V hA1 (by unfold vp_in; decide) d_2_7_16 ?_
  refine q_ti (v := v3) (by first | rfl | decide | simp [upd, vp_updL, sb_cl0]) ?_
  refine lv_if_ne (tgt := 26) hx hb d_2_7_17 (by decide) (fun c2 => ?_) (fun c2 => ?_)
  ·
    refine lv_aload_n hx hb d_2_7_26 rfl (lv_at hl 1 rfl) ?_
    refine lv_iload_n hx hb d_2_7_27 rfl (lv_at hl 0 rfl) ?_
    refine q_put (ci := 2) (j := 1) (v := .int 3) (ty := .int) C0 V i_Big o_Big n_Big rfl rfl hO0 (by decide) w_85 rfl rfl rfl rfl (Nat.le_of_ble_eq_true rfl) d_2_7_28 (fun H locs w3 hu4 hO0 V => ?_)
    replace hO0 : w3[kO0]? = (some (qO0, .inr (2, [.ref qA1, .int 3, .int 0])) : Option (Nat × va_E)) := hO0
    replace hF := q_us hF hu4 (.head _)
    refine lv_aload_n hx hb d_2_7_31 rfl (lv_at hl 1 rfl) ?_
    refine lv_aload_n hx hb d_2_7_32 rfl (lv_at hl 1 rfl) ?_
    refine q_get (ci := 2) (j := 2) (v := .int 0) C0 V i_Big rfl rfl hO0 (by decide) w_94 rfl d_2_7_33 ?_
    refine lv_if_eq (tgt := 47) hx hb d_2_7_36 (by decide) (fun c5 => ?_) (fun c5 => absurd (by decide) c5)
    refine lv_iconst (v := 0) hx hb d_2_7_47 (by decide) ?_
    refine q_put (ci := 2) (j := 2) (v := .int 0) (ty := .boolean) C0 V i_Big o_Big n_Big rfl rfl hO0 (by decide) w_94 rfl rfl rfl rfl (Nat.le_of_ble_eq_true rfl) d_2_7_48 (fun H locs w6 hu7 hO0 V => ?_)
    replace hO0 : w6[kO0]? = (some (qO0, .inr (2, [.ref qA1, .int 3, .int 0])) : Option (Nat × va_E)) := hO0
    replace hF := q_us hF hu7 (.head _)
    exact q_retv C0 V (Or.inl ⟨c2, hF, hO0⟩) d_2_7_51
  ·
    refine lv_iinc (v := 2) (lv' := [(1, .int 2), (0, .ref qO0)]) hx hb d_2_7_20 hl (k := 0) rfl (by decide) (by decide) rfl (fun ls hl => ?_)
    refine lv_goto (tgt := 5) hx hb d_2_7_23 (by decide) ?_
    refine lv_iload_n hx hb d_2_7_5 rfl (lv_at hl 0 rfl) ?_
    refine lv_if_le (tgt := 26) hx hb d_2_7_6 (by decide) (fun c8 => absurd c8 (by decide)) (fun c8 => ?_)
    refine lv_aload_n hx hb d_2_7_9 rfl (lv_at hl 1 rfl) ?_
    refine q_get (ci := 2) (j := 0) (v := .ref qA1) C0 V i_Big rfl rfl hO0 (by decide) w_84 rfl d_2_7_10 ?_
    refine lv_iload_n hx hb d_2_7_13 rfl (lv_at hl 0 rfl) ?_
    refine lv_iconst (v := 1) hx hb d_2_7_14 (by decide) ?_
    refine lv_isub hx hb d_2_7_15 ?_
    refine q_ti (v := 1) (by decide) ?_
    refine q_iald C0 V hA1 (by unfold vp_in; decide) d_2_7_16 ?_
    refine q_ti (v := v2) (by first | rfl | decide | simp [upd, vp_updL, sb_cl0]) ?_
    refine lv_if_ne (tgt := 26) hx hb d_2_7_17 (by decide) (fun c9 => ?_) (fun c9 => ?_)
    ·
      refine lv_aload_n hx hb d_2_7_26 rfl (lv_at hl 1 rfl) ?_
      refine lv_iload_n hx hb d_2_7_27 rfl (lv_at hl 0 rfl) ?_
      refine q_put (ci := 2) (j := 1) (v := .int 2) (ty := .int) C0 V i_Big o_Big n_Big rfl rfl hO0 (by decide) w_85 rfl rfl rfl rfl (Nat.le_of_ble_eq_true rfl) d_2_7_28 (fun H locs w10 hu11 hO0 V => ?_)
      replace hO0 : w10[kO0]? = (some (qO0, .inr (2, [.ref qA1, .int 2, .int 0])) : Option (Nat × va_E)) := hO0
      replace hF := q_us hF hu11 (.head _)
      refine lv_aload_n hx hb d_2_7_31 rfl (lv_at hl 1 rfl) ?_
      refine lv_aload_n hx hb d_2_7_32 rfl (lv_at hl 1 rfl) ?_
      refine q_get (ci := 2) (j := 2) (v := .int 0) C0 V i_Big rfl rfl hO0 (by decide) w_94 rfl d_2_7_33 ?_
      refine lv_if_eq (tgt := 47) hx hb d_2_7_36 (by decide) (fun c12 => ?_) (fun c12 => absurd (by decide) c12)
      refine lv_iconst (v := 0) hx hb d_2_7_47 (by decide) ?_
      refine q_put (ci := 2) (j := 2) (v := .int 0) (ty := .boolean) C0 V i_Big o_Big n_Big rfl rfl hO0 (by decide) w_94 rfl rfl rfl rfl (Nat.le_of_ble_eq_true rfl) d_2_7_48 (fun H locs w13 hu14 hO0 V => ?_)
      replace hO0 : w13[kO0]? = (some (qO0, .inr (2, [.ref qA1, .int 2, .int 0])) : Option (Nat × va_E)) := hO0
      replace hF := q_us hF hu14 (.head _)
      exact q_retv C0 V (Or.inr (Or.inl ⟨c2, c9, hF, hO0⟩)) d_2_7_51
    ·
      refine lv_iinc (v := 1) (lv' := [(1, .int 1), (0, .ref qO0)]) hx hb d_2_7_20 hl (k := 0) rfl (by decide) (by decide) rfl (fun ls hl => ?_)
      refine lv_goto (tgt := 5) hx hb d_2_7_23 (by decide) ?_
      refine lv_iload_n hx hb d_2_7_5 rfl (lv_at hl 0 rfl) ?_
      refine lv_if_le (tgt := 26) hx hb d_2_7_6 (by decide) (fun c15 => absurd c15 (by decide)) (fun c15 => ?_)
      refine lv_aload_n hx hb d_2_7_9 rfl (lv_at hl 1 rfl) ?_
      refine q_get (ci := 2) (j := 0) (v := .ref qA1) C0 V i_Big rfl rfl hO0 (by decide) w_84 rfl d_2_7_10 ?_
      refine lv_iload_n hx hb d_2_7_13 rfl (lv_at hl 0 rfl) ?_
      refine lv_iconst (v := 1) hx hb d_2_7_14 (by decide) ?_
      refine lv_isub hx hb d_2_7_15 ?_
      refine q_ti (v := 0) (by decide) ?_
      refine q_iald C0 V hA1 (by unfold vp_in; decide) d_2_7_16 ?_
      refine q_ti (v := v1) (by first | rfl | decide | simp [upd, vp_updL, sb_cl0]) ?_
      refine lv_if_ne (tgt := 26) hx hb d_2_7_17 (by decide) (fun c16 => ?_) (fun c16 => ?_)
      ·
        refine lv_aload_n hx hb d_2_7_26 rfl (lv_at hl 1 rfl) ?_
        refine lv_iload_n hx hb d_2_7_27 rfl (lv_at hl 0 rfl) ?_
        refine q_put (ci := 2) (j := 1) (v := .int 1) (ty := .int) C0 V i_Big o_Big n_Big rfl rfl hO0 (by decide) w_85 rfl rfl rfl rfl (Nat.le_of_ble_eq_true rfl) d_2_7_28 (fun H locs w17 hu18 hO0 V => ?_)
        replace hO0 : w17[kO0]? = (some (qO0, .inr (2, [.ref qA1, .int 1, .int 0])) : Option (Nat × va_E)) := hO0
        replace hF := q_us hF hu18 (.head _)
        refine lv_aload_n hx hb d_2_7_31 rfl (lv_at hl 1 rfl) ?_
        refine lv_aload_n hx hb d_2_7_32 rfl (lv_at hl 1 rfl) ?_
        refine q_get (ci := 2) (j := 2) (v := .int 0) C0 V i_Big rfl rfl hO0 (by decide) w_94 rfl d_2_7_33 ?_
        refine lv_if_eq (tgt := 47) hx hb d_2_7_36 (by decide) (fun c19 => ?_) (fun c19 => absurd (by decide) c19)
        refine lv_iconst (v := 0) hx hb d_2_7_47 (by decide) ?_
        refine q_put (ci := 2) (j := 2) (v := .int 0) (ty := .boolean) C0 V i_Big o_Big n_Big rfl rfl hO0 (by decide) w_94 rfl rfl rfl rfl (Nat.le_of_ble_eq_true rfl) d_2_7_48 (fun H locs w20 hu21 hO0 V => ?_)
        replace hO0 : w20[kO0]? = (some (qO0, .inr (2, [.ref qA1, .int 1, .int 0])) : Option (Nat × va_E)) := hO0
        replace hF := q_us hF hu21 (.head _)
        exact q_retv C0 V (Or.inr (Or.inr (Or.inl ⟨c2, c9, c16, hF, hO0⟩))) d_2_7_51
      ·
        refine lv_iinc (v := 0) (lv' := [(1, .int 0), (0, .ref qO0)]) hx hb d_2_7_20 hl (k := 0) rfl (by decide) (by decide) rfl (fun ls hl => ?_)
        refine lv_goto (tgt := 5) hx hb d_2_7_23 (by decide) ?_
        refine lv_iload_n hx hb d_2_7_5 rfl (lv_at hl 0 rfl) ?_
        refine lv_if_le (tgt := 26) hx hb d_2_7_6 (by decide) (fun c22 => ?_) (fun c22 => absurd (by decide) c22)
        refine lv_aload_n hx hb d_2_7_26 rfl (lv_at hl 1 rfl) ?_
        refine lv_iload_n hx hb d_2_7_27 rfl (lv_at hl 0 rfl) ?_
        refine q_put (ci := 2) (j := 1) (v := .int 0) (ty := .int) C0 V i_Big o_Big n_Big rfl rfl hO0 (by decide) w_85 rfl rfl rfl rfl (Nat.le_of_ble_eq_true rfl) d_2_7_28 (fun H locs w23 hu24 hO0 V => ?_)
        replace hO0 : w23[kO0]? = (some (qO0, .inr (2, [.ref qA1, .int 0, .int 0])) : Option (Nat × va_E)) := hO0
        replace hF := q_us hF hu24 (.head _)
        refine lv_aload_n hx hb d_2_7_31 rfl (lv_at hl 1 rfl) ?_
        refine lv_aload_n hx hb d_2_7_32 rfl (lv_at hl 1 rfl) ?_
        refine q_get (ci := 2) (j := 2) (v := .int 0) C0 V i_Big rfl rfl hO0 (by decide) w_94 rfl d_2_7_33 ?_
        refine lv_if_eq (tgt := 47) hx hb d_2_7_36 (by decide) (fun c25 => ?_) (fun c25 => absurd (by decide) c25)
        refine lv_iconst (v := 0) hx hb d_2_7_47 (by decide) ?_
        refine q_put (ci := 2) (j := 2) (v := .int 0) (ty := .boolean) C0 V i_Big o_Big n_Big rfl rfl hO0 (by decide) w_94 rfl rfl rfl rfl (Nat.le_of_ble_eq_true rfl) d_2_7_48 (fun H locs w26 hu27 hO0 V => ?_)
        replace hO0 : w26[kO0]? = (some (qO0, .inr (2, [.ref qA1, .int 0, .int 0])) : Option (Nat × va_E)) := hO0
        replace hF := q_us hF hu27 (.head _)
        exact q_retv C0 V (Or.inr (Or.inr (Or.inr (⟨c2, c9, c16, hF, hO0⟩)))) d_2_7_51
set_option maxRecDepth 100000 in
set_option maxHeartbeats 4000000 in
theorem c_Big_setLong_5 (l : Launch) (D : va_G) (g : Nat → ClassId) (ws : va_W) (kO0 kA1 qO0 qA1 : Nat) (x1 : Int64) (hO0 : ws[kO0]? = (some (qO0, .inr (2, [.ref qA1, .int 0, .int 0])) : Option (Nat × va_E))) (hA1 : ws[kA1]? = (some (qA1, .inl (g 0, 68, .inl (fun _ => 0))) : Option (Nat × va_E))) : q_mV l y_Big_setLong prog_2_method_3_code 6 2 0 0 D g [.ref qO0, .long x1] ws (fun u => ∃ (ex0 : Int32) (ex1 : Int32) (ex2 : Nat → Int32), 0 ≤ ex0 ∧ ex0 ≤ 3 ∧ 0 ≤ ex1 ∧ ex1 ≤ 1 ∧ q_un ws u [kO0, kA1] ∧ u[kO0]? = (some (qO0, .inr (2, [.ref qA1, .int ex0, .int ex1])) : Option (Nat × va_E)) ∧ u[kA1]? = (some (qA1, .inl (g 0, 68, .inl ex2)) : Option (Nat × va_E))) := by
  intro sz
  refine q_into (by decide) (Nat.le_of_ble_eq_true rfl) ?_
  intro p e s m below meth c ls hsz C0 V hl
  have hx := C0.1
  have hb := C0.2.1
  have hl : lv_has ls 6 [(0, .ref qO0), (1, .long x1)] := hl
  have n_A1_O0 := q_df hA1 hO0
  have hF : q_un ws ws [kO0, kA1] := q_u0
  refine lv_aload_n hx hb d_2_3_0 rfl (lv_at hl 0 rfl) ?_
  refine q_gov V (q_runV (As := []) (rest := []) (d := 1) (mc := 0) (ms := 0) (ci := 2) C0 V rfl LV_Big_21 (c_Big_clear l D g ws kO0 qO0 qA1 0 0 hO0 _) rfl rfl hO0 rfl hl.1 rfl (Nat.le_of_ble_eq_true rfl) ⟨by decide, by decide⟩ ⟨Nat.le_of_ble_eq_true rfl, Nat.le_of_ble_eq_true rfl⟩ d_2_3_1) (fun u2 H locs hp1 V => ?_)
  obtain ⟨hg3, hO0⟩ := hp1
  replace hF := q_uc hF hg3 (q_sc (.head _) (fun _ h => absurd h List.not_mem_nil))
  refine lv_lload_n hx hb d_2_3_4 rfl (lv_at hl 1 rfl) ?_
  refine q_absl C0 hl.1 rfl w_198 w_199 w_7 w_200 ⟨Nat.le_of_ble_eq_true rfl, Nat.le_of_ble_eq_true rfl⟩ ⟨Nat.le_of_ble_eq_true rfl, Nat.le_of_ble_eq_true rfl⟩ d_2_3_5 ?_
  refine lv_lstore_n (lv' := [(3, .long (if 0 < x1 then x1 else -x1)), (0, .ref qO0), (1, .long x1)]) hx hb d_2_3_8 rfl hl (by decide) rfl (fun ls hl => ?_)
  refine lv_iconst (v := 0) hx hb d_2_3_9 (by decide) ?_
  refine lv_istore (lv' := [(5, .int 0), (3, .long (if 0 < x1 then x1 else -x1)), (0, .ref qO0), (1, .long x1)]) hx hb d_2_3_10 hl (by decide) rfl (fun ls hl => ?_)
  refine lv_iload hx hb d_2_3_12 (lv_at hl 0 rfl) ?_
  refine lv_iconst (v := 3) hx hb d_2_3_14 (by decide) ?_
  refine lv_icmp_ge (tgt := 39) hx hb d_2_3_15 (by decide) (fun c4 => absurd c4 (by decide)) (fun c4 => ?_)
  refine lv_aload_n hx hb d_2_3_18 rfl (lv_at hl 2 rfl) ?_
  refine lv_lload_n hx hb d_2_3_19 rfl (lv_at hl 1 rfl) ?_
  refine q_ldc2 C0 rfl w_201 d_2_3_20 ?_
  refine lv_land hx hb d_2_3_23 ?_
  refine lv_l2i hx hb d_2_3_24 rfl ?_
  replace hA1 := (hg3 _ (q_nc n_A1_O0 List.not_mem_nil)).trans (hA1)
  refine q_gov V (q_runV (As := [.int (((if 0 < x1 then x1 else -x1) &&& 2147483647).toInt32)]) (rest := []) (d := 1) (mc := 0) (ms := 0) (ci := 2) C0 V rfl LV_Big_32 (c_Big_push_13 l D g u2 kO0 kA1 qO0 qA1 (((if 0 < x1 then x1 else -x1) &&& 2147483647).toInt32) hO0 hA1 _) rfl rfl hO0 rfl hl.1 rfl (Nat.le_of_ble_eq_true rfl) ⟨by decide, by decide⟩ ⟨Nat.le_of_ble_eq_true rfl, Nat.le_of_ble_eq_true rfl⟩ d_2_3_25) (fun u6 H locs hp5 V => ?_)
  obtain ⟨hg7, hO0, hA1⟩ := hp5
  replace hF := q_uc hF hg7 (q_sc (.head _) (q_sc (.tail _ (.head _)) (fun _ h => absurd h List.not_mem_nil)))
  refine lv_lload_n hx hb d_2_3_28 rfl (lv_at hl 1 rfl) ?_
  refine lv_bipush (v := 31) hx hb d_2_3_29 (by decide) ?_
  refine lv_lushr hx hb d_2_3_31 rfl ?_
  refine lv_lstore_n (lv' := [(3, .long (((if 0 < x1 then x1 else -x1).toUInt64 >>> ((31 : Int32).toInt64.toUInt64 &&& Int64.toUInt64 63)).toInt64)), (5, .int 0), (0, .ref qO0), (1, .long x1)]) hx hb d_2_3_32 rfl hl (by decide) rfl (fun ls hl => ?_)
  refine lv_iinc (v := 1) (lv' := [(5, .int 1), (3, .long (((if 0 < x1 then x1 else -x1).toUInt64 >>> ((31 : Int32).toInt64.toUInt64 &&& Int64.toUInt64 63)).toInt64)), (0, .ref qO0), (1, .long x1)]) hx hb d_2_3_33 hl (k := 1) rfl (by decide) (by decide) rfl (fun ls hl => ?_)
  refine lv_goto (tgt := 12) hx hb d_2_3_36 (by decide) ?_
  refine lv_iload hx hb d_2_3_12 (lv_at hl 0 rfl) ?_
  refine lv_iconst (v := 3) hx hb d_2_3_14 (by decide) ?_
  refine lv_icmp_ge (tgt := 39) hx hb d_2_3_15 (by decide) (fun c8 => absurd c8 (by decide)) (fun c8 => ?_)
  refine lv_aload_n hx hb d_2_3_18 rfl (lv_at hl 2 rfl) ?_
  refine lv_lload_n hx hb d_2_3_19 rfl (lv_at hl 1 rfl) ?_
  refine q_ldc2 C0 rfl w_201 d_2_3_20 ?_
  refine lv_land hx hb d_2_3_23 ?_
  refine lv_l2i hx hb d_2_3_24 rfl ?_
  refine q_gov V (q_runV (As := [.int (((((if 0 < x1 then x1 else -x1).toUInt64 >>> ((31 : Int32).toInt64.toUInt64 &&& Int64.toUInt64 63)).toInt64) &&& 2147483647).toInt32)]) (rest := []) (d := 1) (mc := 0) (ms := 0) (ci := 2) C0 V rfl LV_Big_32 (c_Big_push_14 l D g u6 kO0 kA1 qO0 qA1 (((((if 0 < x1 then x1 else -x1).toUInt64 >>> ((31 : Int32).toInt64.toUInt64 &&& Int64.toUInt64 63)).toInt64) &&& 2147483647).toInt32) (((if 0 < x1 then x1 else -x1) &&& 2147483647).toInt32) hO0 hA1 _) rfl rfl hO0 rfl hl.1 rfl (Nat.le_of_ble_eq_true rfl) ⟨by decide, by decide⟩ ⟨Nat.le_of_ble_eq_true rfl, Nat.le_of_ble_eq_true rfl⟩ d_2_3_25) (fun u10 H locs hp9 V => ?_)
  obtain ⟨hg11, hO0, hA1⟩ := hp9
  replace hF := q_uc hF hg11 (q_sc (.head _) (q_sc (.tail _ (.head _)) (fun _ h => absurd h List.not_mem_nil)))
  refine lv_lload_n hx hb d_2_3_28 rfl (lv_at hl 1 rfl) ?_
  refine lv_bipush (v := 31) hx hb d_2_3_29 (by decide) ?_
  refine lv_lushr hx hb d_2_3_31 rfl ?_
  refine lv_lstore_n (lv' := [(3, .long (((((if 0 < x1 then x1 else -x1).toUInt64 >>> ((31 : Int32).toInt64.toUInt64 &&& Int64.toUInt64 63)).toInt64).toUInt64 >>> ((31 : Int32).toInt64.toUInt64 &&& Int64.toUInt64 63)).toInt64)), (5, .int 1), (0, .ref qO0), (1, .long x1)]) hx hb d_2_3_32 rfl hl (by decide) rfl (fun ls hl => ?_)
  refine lv_iinc (v := 2) (lv' := [(5, .int 2), (3, .long (((((if 0 < x1 then x1 else -x1).toUInt64 >>> ((31 : Int32).toInt64.toUInt64 &&& Int64.toUInt64 63)).toInt64).toUInt64 >>> ((31 : Int32).toInt64.toUInt64 &&& Int64.toUInt64 63)).toInt64)), (0, .ref qO0), (1, .long x1)]) hx hb d_2_3_33 hl (k := 1) rfl (by decide) (by decide) rfl (fun ls hl => ?_)
  refine lv_goto (tgt := 12) hx hb d_2_3_36 (by decide) ?_
  refine lv_iload hx hb d_2_3_12 (lv_at hl 0 rfl) ?_
  refine lv_iconst (v := 3) hx hb d_2_3_14 (by decide) ?_
  refine lv_icmp_ge (tgt := 39) hx hb d_2_3_15 (by decide) (fun c12 => absurd c12 (by decide)) (fun c12 => ?_)
  refine lv_aload_n hx hb d_2_3_18 rfl (lv_at hl 2 rfl) ?_
  refine lv_lload_n hx hb d_2_3_19 rfl (lv_at hl 1 rfl) ?_
  refine q_ldc2 C0 rfl w_201 d_2_3_20 ?_
  refine lv_land hx hb d_2_3_23 ?_
  refine lv_l2i hx hb d_2_3_24 rfl ?_
  refine q_gov V (q_runV (As := [.int (((((((if 0 < x1 then x1 else -x1).toUInt64 >>> ((31 : Int32).toInt64.toUInt64 &&& Int64.toUInt64 63)).toInt64).toUInt64 >>> ((31 : Int32).toInt64.toUInt64 &&& Int64.toUInt64 63)).toInt64) &&& 2147483647).toInt32)]) (rest := []) (d := 1) (mc := 0) (ms := 0) (ci := 2) C0 V rfl LV_Big_32 (c_Big_push_15 l D g u10 kO0 kA1 qO0 qA1 (((((((if 0 < x1 then x1 else -x1).toUInt64 >>> ((31 : Int32).toInt64.toUInt64 &&& Int64.toUInt64 63)).toInt64).toUInt64 >>> ((31 : Int32).toInt64.toUInt64 &&& Int64.toUInt64 63)).toInt64) &&& 2147483647).toInt32) (((if 0 < x1 then x1 else -x1) &&& 2147483647).toInt32) (((((if 0 < x1 then x1 else -x1).toUInt64 >>> ((31 : Int32).toInt64.toUInt64 &&& Int64.toUInt64 63)).toInt64) &&& 2147483647).toInt32) hO0 hA1 _) rfl rfl hO0 rfl hl.1 rfl (Nat.le_of_ble_eq_true rfl) ⟨by decide, by decide⟩ ⟨Nat.le_of_ble_eq_true rfl, Nat.le_of_ble_eq_true rfl⟩ d_2_3_25) (fun u14 H locs hp13 V => ?_)
  obtain ⟨hg15, hO0, hA1⟩ := hp13
  replace hF := q_uc hF hg15 (q_sc (.head _) (q_sc (.tail _ (.head _)) (fun _ h => absurd h List.not_mem_nil)))
  refine lv_lload_n hx hb d_2_3_28 rfl (lv_at hl 1 rfl) ?_
  refine lv_bipush (v := 31) hx hb d_2_3_29 (by decide) ?_
  refine lv_lushr hx hb d_2_3_31 rfl ?_
  refine lv_lstore_n (lv' := [(3, .long (((((((if 0 < x1 then x1 else -x1).toUInt64 >>> ((31 : Int32).toInt64.toUInt64 &&& Int64.toUInt64 63)).toInt64).toUInt64 >>> ((31 : Int32).toInt64.toUInt64 &&& Int64.toUInt64 63)).toInt64).toUInt64 >>> ((31 : Int32).toInt64.toUInt64 &&& Int64.toUInt64 63)).toInt64)), (5, .int 2), (0, .ref qO0), (1, .long x1)]) hx hb d_2_3_32 rfl hl (by decide) rfl (fun ls hl => ?_)
  refine lv_iinc (v := 3) (lv' := [(5, .int 3), (3, .long (((((((if 0 < x1 then x1 else -x1).toUInt64 >>> ((31 : Int32).toInt64.toUInt64 &&& Int64.toUInt64 63)).toInt64).toUInt64 >>> ((31 : Int32).toInt64.toUInt64 &&& Int64.toUInt64 63)).toInt64).toUInt64 >>> ((31 : Int32).toInt64.toUInt64 &&& Int64.toUInt64 63)).toInt64)), (0, .ref qO0), (1, .long x1)]) hx hb d_2_3_33 hl (k := 1) rfl (by decide) (by decide) rfl (fun ls hl => ?_)
  refine lv_goto (tgt := 12) hx hb d_2_3_36 (by decide) ?_
  refine lv_iload hx hb d_2_3_12 (lv_at hl 0 rfl) ?_
  refine lv_iconst (v := 3) hx hb d_2_3_14 (by decide) ?_
  refine lv_icmp_ge (tgt := 39) hx hb d_2_3_15 (by decide) (fun c16 => ?_) (fun c16 => absurd (by decide) c16)
  refine lv_aload_n hx hb d_2_3_39 rfl (lv_at hl 2 rfl) ?_
  refine q_gov V (q_runV (As := []) (rest := []) (d := 1) (mc := 0) (ms := 0) (ci := 2) C0 V rfl LV_Big_36 (c_Big_trim_9 l D g u14 kO0 kA1 qO0 qA1 (((if 0 < x1 then x1 else -x1) &&& 2147483647).toInt32) (((((if 0 < x1 then x1 else -x1).toUInt64 >>> ((31 : Int32).toInt64.toUInt64 &&& Int64.toUInt64 63)).toInt64) &&& 2147483647).toInt32) (((((((if 0 < x1 then x1 else -x1).toUInt64 >>> ((31 : Int32).toInt64.toUInt64 &&& Int64.toUInt64 63)).toInt64).toUInt64 >>> ((31 : Int32).toInt64.toUInt64 &&& Int64.toUInt64 63)).toInt64) &&& 2147483647).toInt32) hO0 hA1 _) rfl rfl hO0 rfl hl.1 rfl (Nat.le_of_ble_eq_true rfl) ⟨by decide, by decide⟩ ⟨Nat.le_of_ble_eq_true rfl, Nat.le_of_ble_eq_true rfl⟩ d_2_3_40) (fun u18 H locs hp17 V => ?_)
  rcases hp17 with ⟨c19, hg20, hO0⟩ | ⟨c21, c22, hg23, hO0⟩ | ⟨c24, c25, c26, hg27, hO0⟩ | ⟨c28, c29, c30, hg31, hO0⟩
  ·
    replace hF := q_uc hF hg20 (q_sc (.head _) (fun _ h => absurd h List.not_mem_nil))
    refine lv_aload_n hx hb d_2_3_43 rfl (lv_at hl 2 rfl) ?_
    refine lv_lload_n hx hb d_2_3_44 rfl (lv_at hl 3 rfl) ?_
    refine lv_lconst (v := 0) hx hb d_2_3_45 (by decide) ?_
    refine W.lcmp hx hb d_2_3_46 ?_
    refine lv_if_ge (tgt := 54) hx hb d_2_3_47 (by decide) (fun c32 => ?_) (fun c32 => ?_)
    ·
      refine lv_iconst (v := 0) hx hb d_2_3_54 (by decide) ?_
      refine q_put (ci := 2) (j := 2) (v := .int 0) (ty := .boolean) C0 V i_Big o_Big n_Big rfl rfl hO0 (by decide) w_94 rfl rfl rfl rfl (Nat.le_of_ble_eq_true rfl) d_2_3_55 (fun H locs w33 hu34 hO0 V => ?_)
      replace hO0 : w33[kO0]? = (some (qO0, .inr (2, [.ref qA1, .int 3, .int 0])) : Option (Nat × va_E)) := hO0
      replace hF := q_us hF hu34 (.head _)
      obtain ⟨zn35, hz36⟩ : ∃ z : Int32, (3 : Int32) = z := ⟨_, rfl⟩
      have e37 : 0 ≤ zn35 := hz36 ▸ (by decide)
      have e38 : zn35 ≤ 3 := hz36 ▸ (by decide)
      replace hO0 : w33[kO0]? = (some (qO0, .inr (2, [.ref qA1, .int zn35, .int 0])) : Option (Nat × va_E)) := q_re hO0 (by rw [← hz36])
      obtain ⟨zn39, hz40⟩ : ∃ z : Int32, (0 : Int32) = z := ⟨_, rfl⟩
      have e41 : 0 ≤ zn39 := hz40 ▸ (by decide)
      have e42 : zn39 ≤ 1 := hz40 ▸ (by decide)
      replace hO0 : w33[kO0]? = (some (qO0, .inr (2, [.ref qA1, .int zn35, .int zn39])) : Option (Nat × va_E)) := q_re hO0 (by rw [← hz40])
      replace hA1 := (hu34 _ n_A1_O0).trans ((hg20 _ (q_nc n_A1_O0 List.not_mem_nil)).trans (hA1))
      exact q_retv C0 V (⟨zn35, zn39, (upd (upd (upd (fun _ => 0) 0 (((if 0 < x1 then x1 else -x1) &&& 2147483647).toInt32)) 1 (((((if 0 < x1 then x1 else -x1).toUInt64 >>> ((31 : Int32).toInt64.toUInt64 &&& Int64.toUInt64 63)).toInt64) &&& 2147483647).toInt32)) 2 (((((((if 0 < x1 then x1 else -x1).toUInt64 >>> ((31 : Int32).toInt64.toUInt64 &&& Int64.toUInt64 63)).toInt64).toUInt64 >>> ((31 : Int32).toInt64.toUInt64 &&& Int64.toUInt64 63)).toInt64) &&& 2147483647).toInt32)), e37, e38, e41, e42, hF, hO0, hA1⟩) d_2_3_58
    ·
      refine lv_iconst (v := 1) hx hb d_2_3_50 (by decide) ?_
      refine lv_goto (tgt := 55) hx hb d_2_3_51 (by decide) ?_
      refine q_put (ci := 2) (j := 2) (v := .int 1) (ty := .boolean) C0 V i_Big o_Big n_Big rfl rfl hO0 (by decide) w_94 rfl rfl rfl rfl (Nat.le_of_ble_eq_true rfl) d_2_3_55 (fun H locs w43 hu44 hO0 V => ?_)
      replace hO0 : w43[kO0]? = (some (qO0, .inr (2, [.ref qA1, .int 3, .int 1])) : Option (Nat × va_E)) := hO0
      replace hF := q_us hF hu44 (.head _)
      obtain ⟨zn45, hz46⟩ : ∃ z : Int32, (3 : Int32) = z := ⟨_, rfl⟩
      have e47 : 0 ≤ zn45 := hz46 ▸ (by decide)
      have e48 : zn45 ≤ 3 := hz46 ▸ (by decide)
      replace hO0 : w43[kO0]? = (some (qO0, .inr (2, [.ref qA1, .int zn45, .int 1])) : Option (Nat × va_E)) := q_re hO0 (by rw [← hz46])
      obtain ⟨zn49, hz50⟩ : ∃ z : Int32, (1 : Int32) = z := ⟨_, rfl⟩
      have e51 : 0 ≤ zn49 := hz50 ▸ (by decide)
      have e52 : zn49 ≤ 1 := hz50 ▸ (by decide)
      replace hO0 : w43[kO0]? = (some (qO0, .inr (2, [.ref qA1, .int zn45, .int zn49])) : Option (Nat × va_E)) := q_re hO0 (by rw [← hz50])
      replace hA1 := (hu44 _ n_A1_O0).trans ((hg20 _ (q_nc n_A1_O0 List.not_mem_nil)).trans (hA1))
      exact q_retv C0 V (⟨zn45, zn49, (upd (upd (upd (fun _ => 0) 0 (((if 0 < x1 then x1 else -x1) &&& 2147483647).toInt32)) 1 (((((if 0 < x1 then x1 else -x1).toUInt64 >>> ((31 : Int32).toInt64.toUInt64 &&& Int64.toUInt64 63)).toInt64) &&& 2147483647).toInt32)) 2 (((((((if 0 < x1 then x1 else -x1).toUInt64 >>> ((31 : Int32).toInt64.toUInt64 &&& Int64.toUInt64 63)).toInt64).toUInt64 >>> ((31 : Int32).toInt64.toUInt64 &&& Int64.toUInt64 63)).toInt64) &&& 2147483647).toInt32)), e47, e48, e51, e52, hF, hO0, hA1⟩) d_2_3_58
  ·
    replace hF := q_uc hF hg23 (q_sc (.head _) (fun _ h => absurd h List.not_mem_nil))
    refine lv_aload_n hx hb d_2_3_43 rfl (lv_at hl 2 rfl) ?_
    refine lv_lload_n hx hb d_2_3_44 rfl (lv_at hl 3 rfl) ?_
    refine lv_lconst (v := 0) hx hb d_2_3_45 (by decide) ?_
    refine W.lcmp hx hb d_2_3_46 ?_
    refine lv_if_ge (tgt := 54) hx hb d_2_3_47 (by decide) (fun c53 => ?_) (fun c53 => ?_)
    ·
      refine lv_iconst (v := 0) hx hb d_2_3_54 (by decide) ?_
      refine q_put (ci := 2) (j := 2) (v := .int 0) (ty := .boolean) C0 V i_Big o_Big n_Big rfl rfl hO0 (by decide) w_94 rfl rfl rfl rfl (Nat.le_of_ble_eq_true rfl) d_2_3_55 (fun H locs w54 hu55 hO0 V => ?_)
      replace hO0 : w54[kO0]? = (some (qO0, .inr (2, [.ref qA1, .int 2, .int 0])) : Option (Nat × va_E)) := hO0
      replace hF := q_us hF hu55 (.head _)
      obtain ⟨zn56, hz57⟩ : ∃ z : Int32, (2 : Int32) = z := ⟨_, rfl⟩
      have e58 : 0 ≤ zn56 := hz57 ▸ (by decide)
      have e59 : zn56 ≤ 3 := hz57 ▸ (by decide)
      replace hO0 : w54[kO0]? = (some (qO0, .inr (2, [.ref qA1, .int zn56, .int 0])) : Option (Nat × va_E)) := q_re hO0 (by rw [← hz57])
      obtain ⟨zn60, hz61⟩ : ∃ z : Int32, (0 : Int32) = z := ⟨_, rfl⟩
      have e62 : 0 ≤ zn60 := hz61 ▸ (by decide)
      have e63 : zn60 ≤ 1 := hz61 ▸ (by decide)
      replace hO0 : w54[kO0]? = (some (qO0, .inr (2, [.ref qA1, .int zn56, .int zn60])) : Option (Nat × va_E)) := q_re hO0 (by rw [← hz61])
      replace hA1 := (hu55 _ n_A1_O0).trans ((hg23 _ (q_nc n_A1_O0 List.not_mem_nil)).trans (hA1))
      exact q_retv C0 V (⟨zn56, zn60, (upd (upd (upd (fun _ => 0) 0 (((if 0 < x1 then x1 else -x1) &&& 2147483647).toInt32)) 1 (((((if 0 < x1 then x1 else -x1).toUInt64 >>> ((31 : Int32).toInt64.toUInt64 &&& Int64.toUInt64 63)).toInt64) &&& 2147483647).toInt32)) 2 (((((((if 0 < x1 then x1 else -x1).toUInt64 >>> ((31 : Int32).toInt64.toUInt64 &&& Int64.toUInt64 63)).toInt64).toUInt64 >>> ((31 : Int32).toInt64.toUInt64 &&& Int64.toUInt64 63)).toInt64) &&& 2147483647).toInt32)), e58, e59, e62, e63, hF, hO0, hA1⟩) d_2_3_58
    ·
      refine lv_iconst (v := 1) hx hb d_2_3_50 (by decide) ?_
      refine lv_goto (tgt := 55) hx hb d_2_3_51 (by decide) ?_
      refine q_put (ci := 2) (j := 2) (v := .int 1) (ty := .boolean) C0 V i_Big o_Big n_Big rfl rfl hO0 (by decide) w_94 rfl rfl rfl rfl (Nat.le_of_ble_eq_true rfl) d_2_3_55 (fun H locs w64 hu65 hO0 V => ?_)
      replace hO0 : w64[kO0]? = (some (qO0, .inr (2, [.ref qA1, .int 2, .int 1])) : Option (Nat × va_E)) := hO0
      replace hF := q_us hF hu65 (.head _)
      obtain ⟨zn66, hz67⟩ : ∃ z : Int32, (2 : Int32) = z := ⟨_, rfl⟩
      have e68 : 0 ≤ zn66 := hz67 ▸ (by decide)
      have e69 : zn66 ≤ 3 := hz67 ▸ (by decide)
      replace hO0 : w64[kO0]? = (some (qO0, .inr (2, [.ref qA1, .int zn66, .int 1])) : Option (Nat × va_E)) := q_re hO0 (by rw [← hz67])
      obtain ⟨zn70, hz71⟩ : ∃ z : Int32, (1 : Int32) = z := ⟨_, rfl⟩
      have e72 : 0 ≤ zn70 := hz71 ▸ (by decide)
      have e73 : zn70 ≤ 1 := hz71 ▸ (by decide)
      replace hO0 : w64[kO0]? = (some (qO0, .inr (2, [.ref qA1, .int zn66, .int zn70])) : Option (Nat × va_E)) := q_re hO0 (by rw [← hz71])
      replace hA1 := (hu65 _ n_A1_O0).trans ((hg23 _ (q_nc n_A1_O0 List.not_mem_nil)).trans (hA1))
      exact q_retv C0 V (⟨zn66, zn70, (upd (upd (upd (fun _ => 0) 0 (((if 0 < x1 then x1 else -x1) &&& 2147483647).toInt32)) 1 (((((if 0 < x1 then x1 else -x1).toUInt64 >>> ((31 : Int32).toInt64.toUInt64 &&& Int64.toUInt64 63)).toInt64) &&& 2147483647).toInt32)) 2 (((((((if 0 < x1 then x1 else -x1).toUInt64 >>> ((31 : Int32).toInt64.toUInt64 &&& Int64.toUInt64 63)).toInt64).toUInt64 >>> ((31 : Int32).toInt64.toUInt64 &&& Int64.toUInt64 63)).toInt64) &&& 2147483647).toInt32)), e68, e69, e72, e73, hF, hO0, hA1⟩) d_2_3_58
  ·
    replace hF := q_uc hF hg27 (q_sc (.head _) (fun _ h => absurd h List.not_mem_nil))
    refine lv_aload_n hx hb d_2_3_43 rfl (lv_at hl 2 rfl) ?_
    refine lv_lload_n hx hb d_2_3_44 rfl (lv_at hl 3 rfl) ?_
    refine lv_lconst (v := 0) hx hb d_2_3_45 (by decide) ?_
    refine W.lcmp hx hb d_2_3_46 ?_
    refine lv_if_ge (tgt := 54) hx hb d_2_3_47 (by decide) (fun c74 => ?_) (fun c74 => ?_)
    ·
      refine lv_iconst (v := 0) hx hb d_2_3_54 (by decide) ?_
      refine q_put (ci := 2) (j := 2) (v := .int 0) (ty := .boolean) C0 V i_Big o_Big n_Big rfl rfl hO0 (by decide) w_94 rfl rfl rfl rfl (Nat.le_of_ble_eq_true rfl) d_2_3_55 (fun H locs w75 hu76 hO0 V => ?_)
      replace hO0 : w75[kO0]? = (some (qO0, .inr (2, [.ref qA1, .int 1, .int 0])) : Option (Nat × va_E)) := hO0
      replace hF := q_us hF hu76 (.head _)
      obtain ⟨zn77, hz78⟩ : ∃ z : Int32, (1 : Int32) = z := ⟨_, rfl⟩
      have e79 : 0 ≤ zn77 := hz78 ▸ (by decide)
      have e80 : zn77 ≤ 3 := hz78 ▸ (by decide)
      replace hO0 : w75[kO0]? = (some (qO0, .inr (2, [.ref qA1, .int zn77, .int 0])) : Option (Nat × va_E)) := q_re hO0 (by rw [← hz78])
      obtain ⟨zn81, hz82⟩ : ∃ z : Int32, (0 : Int32) = z := ⟨_, rfl⟩
      have e83 : 0 ≤ zn81 := hz82 ▸ (by decide)
      have e84 : zn81 ≤ 1 := hz82 ▸ (by decide)
      replace hO0 : w75[kO0]? = (some (qO0, .inr (2, [.ref qA1, .int zn77, .int zn81])) : Option (Nat × va_E)) := q_re hO0 (by rw [← hz82])
      replace hA1 := (hu76 _ n_A1_O0).trans ((hg27 _ (q_nc n_A1_O0 List.not_mem_nil)).trans (hA1))
      exact q_retv C0 V (⟨zn77, zn81, (upd (upd (upd (fun _ => 0) 0 (((if 0 < x1 then x1 else -x1) &&& 2147483647).toInt32)) 1 (((((if 0 < x1 then x1 else -x1).toUInt64 >>> ((31 : Int32).toInt64.toUInt64 &&& Int64.toUInt64 63)).toInt64) &&& 2147483647).toInt32)) 2 (((((((if 0 < x1 then x1 else -x1).toUInt64 >>> ((31 : Int32).toInt64.toUInt64 &&& Int64.toUInt64 63)).toInt64).toUInt64 >>> ((31 : Int32).toInt64.toUInt64 &&& Int64.toUInt64 63)).toInt64) &&& 2147483647).toInt32)), e79, e80, e83, e84, hF, hO0, hA1⟩) d_2_3_58
    ·
      refine lv_iconst (v := 1) hx hb d_2_3_50 (by decide) ?_
      refine lv_goto (tgt := 55) hx hb d_2_3_51 (by decide) ?_
      refine q_put (ci := 2) (j := 2) (v := .int 1) (ty := .boolean) C0 V i_Big o_Big n_Big rfl rfl hO0 (by decide) w_94 rfl rfl rfl rfl (Nat.le_of_ble_eq_true rfl) d_2_3_55 (fun H locs w85 hu86 hO0 V => ?_)
      replace hO0 : w85[kO0]? = (some (qO0, .inr (2, [.ref qA1, .int 1, .int 1])) : Option (Nat × va_E)) := hO0
      replace hF := q_us hF hu86 (.head _)
      obtain ⟨zn87, hz88⟩ : ∃ z : Int32, (1 : Int32) = z := ⟨_, rfl⟩
      have e89 : 0 ≤ zn87 := hz88 ▸ (by decide)
      have e90 : zn87 ≤ 3 := hz88 ▸ (by decide)
      replace hO0 : w85[kO0]? = (some (qO0, .inr (2, [.ref qA1, .int zn87, .int 1])) : Option (Nat × va_E)) := q_re hO0 (by rw [← hz88])
      obtain ⟨zn91, hz92⟩ : ∃ z : Int32, (1 : Int32) = z := ⟨_, rfl⟩
      have e93 : 0 ≤ zn91 := hz92 ▸ (by decide)
      have e94 : zn91 ≤ 1 := hz92 ▸ (by decide)
      replace hO0 : w85[kO0]? = (some (qO0, .inr (2, [.ref qA1, .int zn87, .int zn91])) : Option (Nat × va_E)) := q_re hO0 (by rw [← hz92])
      replace hA1 := (hu86 _ n_A1_O0).trans ((hg27 _ (q_nc n_A1_O0 List.not_mem_nil)).trans (hA1))
      exact q_retv C0 V (⟨zn87, zn91, (upd (upd (upd (fun _ => 0) 0 (((if 0 < x1 then x1 else -x1) &&& 2147483647).toInt32)) 1 (((((if 0 < x1 then x1 else -x1).toUInt64 >>> ((31 : Int32).toInt64.toUInt64 &&& Int64.toUInt64 63)).toInt64) &&& 2147483647).toInt32)) 2 (((((((if 0 < x1 then x1 else -x1).toUInt64 >>> ((31 : Int32).toInt64.toUInt64 &&& Int64.toUInt64 63)).toInt64).toUInt64 >>> ((31 : Int32).toInt64.toUInt64 &&& Int64.toUInt64 63)).toInt64) &&& 2147483647).toInt32)), e89, e90, e93, e94, hF, hO0, hA1⟩) d_2_3_58
  ·
    replace hF := q_uc hF hg31 (q_sc (.head _) (fun _ h => absurd h List.not_mem_nil))
    refine lv_aload_n hx hb d_2_3_43 rfl (lv_at hl 2 rfl) ?_
    refine lv_lload_n hx hb d_2_3_44 rfl (lv_at hl 3 rfl) ?_
    refine lv_lconst (v := 0) hx hb d_2_3_45 (by decide) ?_
    refine W.lcmp hx hb d_2_3_46 ?_
    refine lv_if_ge (tgt := 54) hx hb d_2_3_47 (by decide) (fun c95 => ?_) (fun c95 => ?_)
    ·
      refine lv_iconst (v := 0) hx hb d_2_3_54 (by decide) ?_
      refine q_put (ci := 2) (j := 2) (v := .int 0) (ty := .boolean) C0 V i_Big o_Big n_Big rfl rfl hO0 (by decide) w_94 rfl rfl rfl rfl (Nat.le_of_ble_eq_true rfl) d_2_3_55 (fun H locs w96 hu97 hO0 V => ?_)
      replace hO0 : w96[kO0]? = (some (qO0, .inr (2, [.ref qA1, .int 0, .int 0])) : Option (Nat × va_E)) := hO0
      replace hF := q_us hF hu97 (.head _)
      obtain ⟨zn98, hz99⟩ : ∃ z : Int32, (0 : Int32) = z := ⟨_, rfl⟩
      have e100 : 0 ≤ zn98 := hz99 ▸ (by decide)
      have e101 : zn98 ≤ 3 := hz99 ▸ (by decide)
      replace hO0 : w96[kO0]? = (some (qO0, .inr (2, [.ref qA1, .int zn98, .int 0])) : Option (Nat × va_E)) := q_re hO0 (by rw [← hz99])
      obtain ⟨zn102, hz103⟩ : ∃ z : Int32, (0 : Int32) = z := ⟨_, rfl⟩
      have e104 : 0 ≤ zn102 := hz103 ▸ (by decide)
      have e105 : zn102 ≤ 1 := hz103 ▸ (by decide)
      replace hO0 : w96[kO0]? = (some (qO0, .inr (2, [.ref qA1, .int zn98, .int zn102])) : Option (Nat × va_E)) := q_re hO0 (by rw [← hz103])
      replace hA1 := (hu97 _ n_A1_O0).trans ((hg31 _ (q_nc n_A1_O0 List.not_mem_nil)).trans (hA1))
      exact q_retv C0 V (⟨zn98, zn102, (upd (upd (upd (fun _ => 0) 0 (((if 0 < x1 then x1 else -x1) &&& 2147483647).toInt32)) 1 (((((if 0 < x1 then x1 else -x1).toUInt64 >>> ((31 : Int32).toInt64.toUInt64 &&& Int64.toUInt64 63)).toInt64) &&& 2147483647).toInt32)) 2 (((((((if 0 < x1 then x1 else -x1).toUInt64 >>> ((31 : Int32).toInt64.toUInt64 &&& Int64.toUInt64 63)).toInt64).toUInt64 >>> ((31 : Int32).toInt64.toUInt64 &&& Int64.toUInt64 63)).toInt64) &&& 2147483647).toInt32)), e100, e101, e104, e105, hF, hO0, hA1⟩) d_2_3_58
    ·
      refine lv_iconst (v := 1) hx hb d_2_3_50 (by decide) ?_
      refine lv_goto (tgt := 55) hx hb d_2_3_51 (by decide) ?_
      refine q_put (ci := 2) (j := 2) (v := .int 1) (ty := .boolean) C0 V i_Big o_Big n_Big rfl rfl hO0 (by decide) w_94 rfl rfl rfl rfl (Nat.le_of_ble_eq_true rfl) d_2_3_55 (fun H locs w106 hu107 hO0 V => ?_)
      replace hO0 : w106[kO0]? = (some (qO0, .inr (2, [.ref qA1, .int 0, .int 1])) : Option (Nat × va_E)) := hO0
      replace hF := q_us hF hu107 (.head _)
      obtain ⟨zn108, hz109⟩ : ∃ z : Int32, (0 : Int32) = z := ⟨_, rfl⟩
      have e110 : 0 ≤ zn108 := hz109 ▸ (by decide)
      have e111 : zn108 ≤ 3 := hz109 ▸ (by decide)
      replace hO0 : w106[kO0]? = (some (qO0, .inr (2, [.ref qA1, .int zn108, .int 1])) : Option (Nat × va_E)) := q_re hO0 (by rw [← hz109])
      obtain ⟨zn112, hz113⟩ : ∃ z : Int32, (1 : Int32) = z := ⟨_, rfl⟩
      have e114 : 0 ≤ zn112 := hz113 ▸ (by decide)
      have e115 : zn112 ≤ 1 := hz113 ▸ (by decide)
      replace hO0 : w106[kO0]? = (some (qO0, .inr (2, [.ref qA1, .int zn108, .int zn112])) : Option (Nat × va_E)) := q_re hO0 (by rw [← hz113])
      replace hA1 := (hu107 _ n_A1_O0).trans ((hg31 _ (q_nc n_A1_O0 List.not_mem_nil)).trans (hA1))
      exact q_retv C0 V (⟨zn108, zn112, (upd (upd (upd (fun _ => 0) 0 (((if 0 < x1 then x1 else -x1) &&& 2147483647).toInt32)) 1 (((((if 0 < x1 then x1 else -x1).toUInt64 >>> ((31 : Int32).toInt64.toUInt64 &&& Int64.toUInt64 63)).toInt64) &&& 2147483647).toInt32)) 2 (((((((if 0 < x1 then x1 else -x1).toUInt64 >>> ((31 : Int32).toInt64.toUInt64 &&& Int64.toUInt64 63)).toInt64).toUInt64 >>> ((31 : Int32).toInt64.toUInt64 &&& Int64.toUInt64 63)).toInt64) &&& 2147483647).toInt32)), e110, e111, e114, e115, hF, hO0, hA1⟩) d_2_3_58
theorem d_1_5_0 : decode prog_1_method_5_code 0 = .ok (.iload_n 1, 1) := by decide +kernel
theorem d_1_5_1 : decode prog_1_method_5_code 1 = .ok (.iload_n 2, 1) := by decide +kernel
theorem d_1_5_2 : decode prog_1_method_5_code 2 = .ok (.invokestatic 118, 3) := by decide +kernel
theorem d_1_5_5 : decode prog_1_method_5_code 5 = .ok (.iload_n 1, 1) := by decide +kernel
theorem d_1_5_6 : decode prog_1_method_5_code 6 = .ok (.iconst 3, 1) := by decide +kernel
theorem d_1_5_7 : decode prog_1_method_5_code 7 = .ok (.if_icmp .ne 12, 3) := by decide +kernel
theorem d_1_5_19 : decode prog_1_method_5_code 19 = .ok (.iconst 1, 1) := by decide +kernel
theorem d_1_5_20 : decode prog_1_method_5_code 20 = .ok (.goto 4, 3) := by decide +kernel
theorem d_1_5_24 : decode prog_1_method_5_code 24 = .ok (.invokestatic 104, 3) := by decide +kernel
theorem d_1_5_27 : decode prog_1_method_5_code 27 = .ok (.iload_n 1, 1) := by decide +kernel
theorem d_1_5_28 : decode prog_1_method_5_code 28 = .ok (.ifCond .ne 16, 3) := by decide +kernel
theorem d_1_5_44 : decode prog_1_method_5_code 44 = .ok (.iload_n 1, 1) := by decide +kernel
theorem d_1_5_45 : decode prog_1_method_5_code 45 = .ok (.iconst 1, 1) := by decide +kernel
theorem d_1_5_46 : decode prog_1_method_5_code 46 = .ok (.if_icmp .ne 39, 3) := by decide +kernel
theorem d_1_5_85 : decode prog_1_method_5_code 85 = .ok (.aload_n 0, 1) := by decide +kernel
theorem d_1_5_86 : decode prog_1_method_5_code 86 = .ok (.iload_n 1, 1) := by decide +kernel
theorem d_1_5_87 : decode prog_1_method_5_code 87 = .ok (.invokevirtual 157, 3) := by decide +kernel
theorem d_1_5_90 : decode prog_1_method_5_code 90 = .ok (.iload_n 2, 1) := by decide +kernel
theorem d_1_5_91 : decode prog_1_method_5_code 91 = .ok (.lload_n 3, 1) := by decide +kernel
theorem d_1_5_92 : decode prog_1_method_5_code 92 = .ok (.lastore, 1) := by decide +kernel
theorem d_1_5_93 : decode prog_1_method_5_code 93 = .ok (.return_, 1) := by decide +kernel
theorem d_1_5_49 : decode prog_1_method_5_code 49 = .ok (.aload_n 0, 1) := by decide +kernel
theorem d_1_5_50 : decode prog_1_method_5_code 50 = .ok (.getfield 43, 3) := by decide +kernel
theorem d_1_5_53 : decode prog_1_method_5_code 53 = .ok (.getfield 141, 3) := by decide +kernel
theorem d_1_5_56 : decode prog_1_method_5_code 56 = .ok (.lload_n 3, 1) := by decide +kernel
theorem d_1_5_57 : decode prog_1_method_5_code 57 = .ok (.invokevirtual 164, 3) := by decide +kernel
theorem w_1103 : (Cond.methodLink "NumberHouse" (164 : Nat) ({ cls := "NumberHouse$Big", name := "setLong", desc := "(J)V" } : MethodName)) ∈ q_tbl := q_of 1103 (by decide +kernel) (by decide +kernel)
theorem LV_NH_164 : q_LV "NumberHouse" 164 y_Big_setLong prog_2_method_3_code 6 none 1 := ⟨w_193, w_4, w_1103, w_191, w_192, ⟨by decide, by decide, by decide +kernel⟩⟩
theorem d_1_5_60 : decode prog_1_method_5_code 60 = .ok (.aload_n 0, 1) := by decide +kernel
theorem d_1_5_61 : decode prog_1_method_5_code 61 = .ok (.getfield 52, 3) := by decide +kernel
theorem d_1_5_64 : decode prog_1_method_5_code 64 = .ok (.aload_n 0, 1) := by decide +kernel
theorem d_1_5_65 : decode prog_1_method_5_code 65 = .ok (.getfield 43, 3) := by decide +kernel
theorem d_1_5_68 : decode prog_1_method_5_code 68 = .ok (.getfield 141, 3) := by decide +kernel
theorem d_1_5_71 : decode prog_1_method_5_code 71 = .ok (.lconst 0, 1) := by decide +kernel
theorem d_1_5_72 : decode prog_1_method_5_code 72 = .ok (.aload_n 0, 1) := by decide +kernel
theorem d_1_5_73 : decode prog_1_method_5_code 73 = .ok (.getfield 29, 3) := by decide +kernel
theorem d_1_5_76 : decode prog_1_method_5_code 76 = .ok (.iload_n 2, 1) := by decide +kernel
theorem d_1_5_77 : decode prog_1_method_5_code 77 = .ok (.aaload, 1) := by decide +kernel
theorem d_1_5_78 : decode prog_1_method_5_code 78 = .ok (.invokevirtual 153, 3) := by decide +kernel
theorem d_1_5_81 : decode prog_1_method_5_code 81 = .ok (.pop, 1) := by decide +kernel
theorem d_1_5_82 : decode prog_1_method_5_code 82 = .ok (.goto 11, 3) := by decide +kernel
theorem d_1_5_31 : decode prog_1_method_5_code 31 = .ok (.aload_n 0, 1) := by decide +kernel
theorem d_1_5_32 : decode prog_1_method_5_code 32 = .ok (.getfield 23, 3) := by decide +kernel
theorem d_1_5_35 : decode prog_1_method_5_code 35 = .ok (.iload_n 2, 1) := by decide +kernel
theorem d_1_5_36 : decode prog_1_method_5_code 36 = .ok (.aaload, 1) := by decide +kernel
theorem d_1_5_37 : decode prog_1_method_5_code 37 = .ok (.lload_n 3, 1) := by decide +kernel
theorem d_1_5_38 : decode prog_1_method_5_code 38 = .ok (.invokevirtual 164, 3) := by decide +kernel
theorem d_1_5_41 : decode prog_1_method_5_code 41 = .ok (.goto 52, 3) := by decide +kernel
theorem d_1_5_10 : decode prog_1_method_5_code 10 = .ok (.lload_n 3, 1) := by decide +kernel
theorem d_1_5_11 : decode prog_1_method_5_code 11 = .ok (.bipush 32, 2) := by decide +kernel
theorem d_1_5_13 : decode prog_1_method_5_code 13 = .ok (.lushr, 1) := by decide +kernel
theorem d_1_5_14 : decode prog_1_method_5_code 14 = .ok (.lconst 0, 1) := by decide +kernel
theorem d_1_5_15 : decode prog_1_method_5_code 15 = .ok (.lcmp, 1) := by decide +kernel
theorem d_1_5_16 : decode prog_1_method_5_code 16 = .ok (.ifCond .ne 7, 3) := by decide +kernel
theorem d_1_5_23 : decode prog_1_method_5_code 23 = .ok (.iconst 0, 1) := by decide +kernel
def y_NH_put : MethodName := ⟨"NumberHouse", "put", "(IIJ)V"⟩
set_option maxRecDepth 100000 in
set_option maxHeartbeats 4000000 in
/-- put on a fresh object -/
theorem c_NH_put (l : Launch) (D : va_G) (g : Nat → ClassId) (ws : va_W) (hlt : l.stackTraces = false) ( qO0 qO1 qO2 qA3 qA4 qA5 qA6 qO7 qO8 qO9 qO10 qO11 qO12 qO13 qO14 qO17 qO18 qO19 qO20 qO21 qO22 qO23 qO24 qO25 qO26 qO27 qA35 qA40 : Nat) (x1 : Int32) (x2 : Int32) (x3 : Int64) (f4 : Nat → Option Nat) (f5 : Nat → Option Nat) (hO0 : ws[0]? = (some (qO0, .inr (0, [.ref qO1, .ref qO2, .ref qA3, .ref qA4, .ref qA5, .ref qA6, .ref qO7, .ref qO8, .ref qO9, .ref qO10, .ref qO11, .ref qO12, .ref qO13, .ref qO14])) : Option (Nat × va_E))) (hA3 : ws[5]? = (some (qA3, .inl (g 4, 10, .inr (.inr (.inr (.inr f4))))) : Option (Nat × va_E))) (hA4 : ws[6]? = (some (qA4, .inl (g 5, 10, .inr (.inr (.inr (.inr f5))))) : Option (Nat × va_E))) (hA5 : ws[7]? = (some (qA5, .inl (g 1, 10, .inr (.inl (fun _ => 0)))) : Option (Nat × va_E))) (hA6 : ws[8]? = (some (qA6, .inl (g 1, 10, .inr (.inl (fun _ => 0)))) : Option (Nat × va_E))) (hO7 : ws[9]? = (some (qO7, .inr (4, [.ref qO17, .ref qO18, .ref qO19, .ref qO20, .ref qO21, .ref qO22, .ref qO23, .ref qO24, .ref qO25, .ref qO26])) : Option (Nat × va_E))) (hO8 : ws[30]? = (some (qO8, .inr (5, [.ref qO27, .long 0, .ref qO7, .int 0])) : Option (Nat × va_E))) (hO17 : ws[10]? = (some (qO17, .inr (2, [.ref qA35, .int 0, .int 0])) : Option (Nat × va_E))) (hO22 : ws[20]? = (some (qO22, .inr (2, [.ref qA40, .int 0, .int 0])) : Option (Nat × va_E))) (hA35 : ws[11]? = (some (qA35, .inl (g 0, 220, .inl (fun _ => 0))) : Option (Nat × va_E))) (hA40 : ws[21]? = (some (qA40, .inl (g 0, 220, .inl (fun _ => 0))) : Option (Nat × va_E))) (qW qWL qD qDN qDL : Nat → Nat) (hfW : ∀ i, i < 10 → f4 i = some (qW i)) (FW : ∀ i, i < 10 → ws[66 + 5 * i]? = (some (qW i, .inr (2, [.ref (qWL i), .int 0, .int 0])) : Option (Nat × va_E))) (FWL : ∀ i, i < 10 → ws[67 + 5 * i]? = (some (qWL i, .inl (g 0, 68, .inl (fun _ => 0))) : Option (Nat × va_E))) (hfD : ∀ i, i < 10 → f5 i = some (qD i)) (FD : ∀ i, i < 10 → ws[68 + 5 * i]? = (some (qD i, .inr (3, [.ref (qDN i), .int 0, .int 1])) : Option (Nat × va_E))) (FDN : ∀ i, i < 10 → ws[69 + 5 * i]? = (some (qDN i, .inr (2, [.ref (qDL i), .int 0, .int 0])) : Option (Nat × va_E))) (FDL : ∀ i, i < 10 → ws[70 + 5 * i]? = (some (qDL i, .inl (g 0, 108, .inl (fun _ => 0))) : Option (Nat × va_E))) : q_xV l y_NH_put prog_1_method_5_code 5 9 2 12 D g [.ref qO0, .int x1, .int x2, .long x3] ws (fun u => (((0 ≤ x1.toInt ∧ x1.toInt ≤ 3) ∧ (0 ≤ x2.toInt ∧ x2.toInt ≤ 9)) ∧ (x1.toInt = 3 → lg_cmp ((x3.toUInt64 >>> ((32 : Int32).toInt64.toUInt64 &&& Int64.toUInt64 63)).toInt64) 0 = 0)) ∧ q_ge 116 ws u) (fun E u => (("java/lang/IllegalArgumentException" = E ∧ (¬ ((0 ≤ x1.toInt ∧ x1.toInt ≤ 3) ∧ (0 ≤ x2.toInt ∧ x2.toInt ≤ 9)) ∨ (x1.toInt = 3 ∧ ¬ lg_cmp ((x3.toUInt64 >>> ((32 : Int32).toInt64.toUInt64 &&& Int64.toUInt64 63)).toInt64) 0 = 0)))) ∧ q_ge 116 ws u) := by
  intro sz
  refine q_intoX (by decide) (Nat.le_of_ble_eq_true rfl) ?_
  intro p e s m below meth c ls hsz C0 V hno hl
  have hx := C0.1
  have hb := C0.2.1
  have hl : lv_has ls 5 [(0, .ref qO0), (1, .int x1), (2, .int x2), (3, .long x3)] := hl
  have hF : q_ge 116 ws ws := q_g0
  refine lv_iload_n hx hb d_1_5_0 rfl (lv_at hl 1 rfl) ?_
  refine lv_iload_n hx hb d_1_5_1 rfl (lv_at hl 2 rfl) ?_
  refine q_goxv V (q_runSX (As := [.int x1, .int x2]) (rest := []) (d := 8) (mc := 1) (ms := 6) C0 V rfl LS_NH_118 (c_NH_needRegister l D g ws hlt x1 x2 _) rfl hl.1 rfl (Nat.le_of_ble_eq_true rfl) ⟨by decide, by decide⟩ ⟨Nat.le_of_ble_eq_true rfl, Nat.le_of_ble_eq_true rfl⟩ d_1_5_2) (fun qx Ex ce u2 H locs hp1 V hce hcv hcl => ?_) (fun u2 H locs hp1 V => ?_)
  ·
    rcases hp1 with ⟨c3, rfl, rfl⟩ | ⟨c5, c6, rfl, rfl⟩ | ⟨c8, c9, c10, rfl, rfl⟩ | ⟨c12, c13, c14, c15, rfl, rfl⟩
    ·
      exact q_outT hno C0 V (⟨⟨rfl, (show ¬ ((0 ≤ x1.toInt ∧ x1.toInt ≤ 3) ∧ (0 ≤ x2.toInt ∧ x2.toInt ≤ 9)) ∨ (x1.toInt = 3 ∧ ¬ lg_cmp ((x3.toUInt64 >>> ((32 : Int32).toInt64.toUInt64 &&& Int64.toUInt64 63)).toInt64) 0 = 0) from by exact Or.inl (by have t1 : x1.toInt < 0 := q_ltI c3; omega))⟩, hF⟩) hce hcv hcl (Nat.le_of_ble_eq_true rfl) (Nat.le_of_ble_eq_true rfl)
    ·
      exact q_outT hno C0 V (⟨⟨rfl, (show ¬ ((0 ≤ x1.toInt ∧ x1.toInt ≤ 3) ∧ (0 ≤ x2.toInt ∧ x2.toInt ≤ 9)) ∨ (x1.toInt = 3 ∧ ¬ lg_cmp ((x3.toUInt64 >>> ((32 : Int32).toInt64.toUInt64 &&& Int64.toUInt64 63)).toInt64) 0 = 0) from by exact Or.inl (by have t1 : 0 ≤ x1.toInt := q_nltI c5; have t2 : 3 < x1.toInt := q_ltI c6; omega))⟩, hF⟩) hce hcv hcl (Nat.le_of_ble_eq_true rfl) (Nat.le_of_ble_eq_true rfl)
    ·
      exact q_outT hno C0 V (⟨⟨rfl, (show ¬ ((0 ≤ x1.toInt ∧ x1.toInt ≤ 3) ∧ (0 ≤ x2.toInt ∧ x2.toInt ≤ 9)) ∨ (x1.toInt = 3 ∧ ¬ lg_cmp ((x3.toUInt64 >>> ((32 : Int32).toInt64.toUInt64 &&& Int64.toUInt64 63)).toInt64) 0 = 0) from by exact Or.inl (by have t1 : 0 ≤ x1.toInt := q_nltI c8; have t2 : x1.toInt ≤ 3 := q_nltI c9; have t3 : x2.toInt < 0 := q_ltI c10; omega))⟩, hF⟩) hce hcv hcl (Nat.le_of_ble_eq_true rfl) (Nat.le_of_ble_eq_true rfl)
    ·
      exact q_outT hno C0 V (⟨⟨rfl, (show ¬ ((0 ≤ x1.toInt ∧ x1.toInt ≤ 3) ∧ (0 ≤ x2.toInt ∧ x2.toInt ≤ 9)) ∨ (x1.toInt = 3 ∧ ¬ lg_cmp ((x3.toUInt64 >>> ((32 : Int32).toInt64.toUInt64 &&& Int64.toUInt64 63)).toInt64) 0 = 0) from by exact Or.inl (by have t1 : 0 ≤ x1.toInt := q_nltI c12; have t2 : x1.toInt ≤ 3 := q_nltI c13; have t3 : 0 ≤ x2.toInt := q_nltI c14; have t4 : 10 ≤ x2.toInt := q_leI c15; omega))⟩, hF⟩) hce hcv hcl (Nat.le_of_ble_eq_true rfl) (Nat.le_of_ble_eq_true rfl)
  ·
    obtain ⟨c17, c18, c19, c20, rfl⟩ := hp1
    refine lv_iload_n hx hb d_1_5_5 rfl (lv_at hl 1 rfl) ?_
    refine lv_iconst (v := 3) hx hb d_1_5_6 (by decide) ?_
    refine lv_icmp_ne (tgt := 19) hx hb d_1_5_7 (by decide) (fun c22 => ?_) (fun c22 => ?_)
    ·
      refine lv_iconst (v := 1) hx hb d_1_5_19 (by decide) ?_
      refine lv_goto (tgt := 24) hx hb d_1_5_20 (by decide) ?_
      refine q_goxv V (q_runSX (As := [.int 1]) (rest := []) (d := 7) (mc := 1) (ms := 6) C0 V rfl LS_NH_104 (c_NH_need l D g ws hlt 1 _) rfl hl.1 rfl (Nat.le_of_ble_eq_true rfl) ⟨by decide, by decide⟩ ⟨Nat.le_of_ble_eq_true rfl, Nat.le_of_ble_eq_true rfl⟩ d_1_5_24) (fun qx Ex ce u24 H locs hp23 V hce hcv hcl => ?_) (fun u24 H locs hp23 V => ?_)
      ·
        obtain ⟨c25, rfl, rfl⟩ := hp23
        exact absurd c25 (by decide)
      ·
        obtain ⟨c27, rfl⟩ := hp23
        refine lv_iload_n hx hb d_1_5_27 rfl (lv_at hl 1 rfl) ?_
        refine lv_if_ne (tgt := 44) hx hb d_1_5_28 (by decide) (fun c29 => ?_) (fun c29 => ?_)
        ·
          refine lv_iload_n hx hb d_1_5_44 rfl (lv_at hl 1 rfl) ?_
          refine lv_iconst (v := 1) hx hb d_1_5_45 (by decide) ?_
          refine lv_icmp_ne (tgt := 85) hx hb d_1_5_46 (by decide) (fun c30 => ?_) (fun c30 => ?_)
          ·
            refine lv_aload_n hx hb d_1_5_85 rfl (lv_at hl 0 rfl) ?_
            refine lv_iload_n hx hb d_1_5_86 rfl (lv_at hl 1 rfl) ?_
            refine q_ti (v := 2) (q_Ieq (x := x1.toInt) (y := 2) rfl (by decide) (by have t1 : 0 ≤ x1.toInt := q_nltI c17; have t2 : x1.toInt ≤ 3 := q_nltI c18; have t3 : x1.toInt ≠ 3 := q_neI c22; have t4 : x1.toInt ≠ 0 := q_neI c29; have t5 : x1.toInt ≠ 1 := q_neI c30; omega)) ?_
            refine q_gor (post := fun r u => qA5 = r ∧ ws = u) V (q_runV (As := [.int 2]) (rest := []) (d := 1) (mc := 0) (ms := 0) (ci := 0) C0 V rfl LV_NH_157 (c_NH_floatRow_2 l D g ws qO0 qO1 qO2 qA3 qA4 qA5 qA6 qO7 qO8 qO9 qO10 qO11 qO12 qO13 qO14 hO0 _) rfl rfl hO0 rfl hl.1 rfl (Nat.le_of_ble_eq_true rfl) ⟨by decide, by decide⟩ ⟨Nat.le_of_ble_eq_true rfl, Nat.le_of_ble_eq_true rfl⟩ d_1_5_87) (fun v33 u32 H locs hp31 V => ?_)
            obtain ⟨rfl, rfl⟩ := hp31
            refine lv_iload_n hx hb d_1_5_90 rfl (lv_at hl 2 rfl) ?_
            refine lv_lload_n hx hb d_1_5_91 rfl (lv_at hl 3 rfl) ?_
            refine q_last C0 V hA5 (q_ix (x := x2.toInt) rfl (by have t1 : 0 ≤ x2.toInt := q_nltI c19; have t2 : x2.toInt < 10 := q_nleI c20; omega) (by have t1 : 0 ≤ x2.toInt := q_nltI c19; have t2 : x2.toInt < 10 := q_nleI c20; omega)) d_1_5_92 (fun H locs w35 hu36 hA5 V => ?_)
            replace hA5 : w35[7]? = (some (qA5, .inl (g 1, 10, .inr (.inl (vp_updL (fun _ => 0) x2.toNatClampNeg x3)))) : Option (Nat × va_E)) := hA5
            replace hF := q_gs hF hu36 (Nat.le_of_ble_eq_true rfl)
            exact q_retX (q_retv C0 V (⟨(show ((0 ≤ x1.toInt ∧ x1.toInt ≤ 3) ∧ (0 ≤ x2.toInt ∧ x2.toInt ≤ 9)) ∧ (x1.toInt = 3 → lg_cmp ((x3.toUInt64 >>> ((32 : Int32).toInt64.toUInt64 &&& Int64.toUInt64 63)).toInt64) 0 = 0) from by exact ⟨by have t1 : 0 ≤ x1.toInt := q_nltI c17; have t2 : x1.toInt ≤ 3 := q_nltI c18; have t3 : 0 ≤ x2.toInt := q_nltI c19; have t4 : x2.toInt < 10 := q_nleI c20; have t5 : x1.toInt ≠ 3 := q_neI c22; have t6 : x1.toInt ≠ 0 := q_neI c29; have t7 : x1.toInt ≠ 1 := q_neI c30; omega, fun h => absurd h (by have t1 : 0 ≤ x1.toInt := q_nltI c17; have t2 : x1.toInt ≤ 3 := q_nltI c18; have t3 : 0 ≤ x2.toInt := q_nltI c19; have t4 : x2.toInt < 10 := q_nleI c20; have t5 : x1.toInt ≠ 3 := q_neI c22; have t6 : x1.toInt ≠ 0 := q_neI c29; have t7 : x1.toInt ≠ 1 := q_neI c30; omega)⟩), hF⟩) d_1_5_93)
          ·
            refine lv_aload_n hx hb d_1_5_49 rfl (lv_at hl 0 rfl) ?_
            refine q_get (ci := 0) (j := 6) (v := .ref qO7) C0 V i_NH rfl rfl hO0 (by decide) w_430 rfl d_1_5_50 ?_
            refine q_get (ci := 4) (j := 0) (v := .ref qO17) C0 V i_Mil rfl rfl hO7 (by decide) w_112 rfl d_1_5_53 ?_
            refine lv_lload_n hx hb d_1_5_56 rfl (lv_at hl 3 rfl) ?_
            refine q_gov V (q_runV (As := [.long x3]) (rest := []) (d := 2) (mc := 0) (ms := 0) (ci := 2) C0 V rfl LV_NH_164 (c_Big_setLong_4 l D g ws 10 11 qO17 qA35 x3 hO17 hA35 _) rfl rfl hO17 rfl hl.1 rfl (Nat.le_of_ble_eq_true rfl) ⟨by decide, by decide⟩ ⟨Nat.le_of_ble_eq_true rfl, Nat.le_of_ble_eq_true rfl⟩ d_1_5_57) (fun u38 H locs hp37 V => ?_)
            obtain ⟨y43, y44, y45, f39, f40, f41, f42, hg46, hO17, hA35⟩ := hp37
            replace hF := q_gc hF hg46 (q_al (Nat.le_of_ble_eq_true rfl) (q_al (Nat.le_of_ble_eq_true rfl) (fun _ h => absurd h List.not_mem_nil)))
            refine lv_aload_n hx hb d_1_5_60 rfl (lv_at hl 0 rfl) ?_
            replace hO0 := (hg46 _ (q_nc (q_pd 0 10 rfl) (q_nc (q_pd 0 11 rfl) List.not_mem_nil))).trans (hO0)
            refine q_get (ci := 0) (j := 7) (v := .ref qO8) C0 V i_NH rfl rfl hO0 (by decide) w_431 rfl d_1_5_61 ?_
            refine lv_aload_n hx hb d_1_5_64 rfl (lv_at hl 0 rfl) ?_
            refine q_get (ci := 0) (j := 6) (v := .ref qO7) C0 V i_NH rfl rfl hO0 (by decide) w_430 rfl d_1_5_65 ?_
            replace hO7 := (hg46 _ (q_nc (q_pd 9 10 rfl) (q_nc (q_pd 9 11 rfl) List.not_mem_nil))).trans (hO7)
            refine q_get (ci := 4) (j := 0) (v := .ref qO17) C0 V i_Mil rfl rfl hO7 (by decide) w_112 rfl d_1_5_68 ?_
            refine lv_lconst (v := 0) hx hb d_1_5_71 (by decide) ?_
            refine lv_aload_n hx hb d_1_5_72 rfl (lv_at hl 0 rfl) ?_
            refine q_get (ci := 0) (j := 3) (v := .ref qA4) C0 V i_NH rfl rfl hO0 (by decide) w_427 rfl d_1_5_73 ?_
            refine lv_iload_n hx hb d_1_5_76 rfl (lv_at hl 2 rfl) ?_
            replace hA4 := (hg46 _ (q_nc (q_pd 6 10 rfl) (q_nc (q_pd 6 11 rfl) List.not_mem_nil))).trans (hA4)
            have r47 : x2.toNatClampNeg < 10 := (q_r10 (x := x2.toInt) rfl (by have t1 : 0 ≤ x2.toInt := q_nltI c19; have t2 : x2.toInt < 10 := q_nleI c20; omega) (by have t1 : 0 ≤ x2.toInt := q_nltI c19; have t2 : x2.toInt < 10 := q_nleI c20; omega))
            replace FD := fun (i : Nat) (hi : i < 10) => (hg46 _ (q_nc (q_f5 rfl) (q_nc (q_f5 rfl) List.not_mem_nil))).trans (FD i hi)
            have hr48 : u38[68 + 5 * x2.toNatClampNeg]? = (some (qD x2.toNatClampNeg, .inr (3, [.ref (qDN x2.toNatClampNeg), .int 0, .int 1])) : Option (Nat × va_E)) := FD _ r47
            replace FDN := fun (i : Nat) (hi : i < 10) => (hg46 _ (q_nc (q_f5 rfl) (q_nc (q_f5 rfl) List.not_mem_nil))).trans (FDN i hi)
            have hr49 : u38[69 + 5 * x2.toNatClampNeg]? = (some (qDN x2.toNatClampNeg, .inr (2, [.ref (qDL x2.toNatClampNeg), .int 0, .int 0])) : Option (Nat × va_E)) := FDN _ r47
            replace FDL := fun (i : Nat) (hi : i < 10) => (hg46 _ (q_nc (q_f5 rfl) (q_nc (q_f5 rfl) List.not_mem_nil))).trans (FDL i hi)
            have hr50 : u38[70 + 5 * x2.toNatClampNeg]? = (some (qDL x2.toNatClampNeg, .inl (g 0, 108, .inl (fun _ => 0))) : Option (Nat × va_E)) := FDL _ r47
            have hh : x2.toNatClampNeg < 10 := (q_r10 (x := x2.toInt) rfl (by have t1 : 0 ≤ x2.toInt := q_nltI c19; have t2 : x2.toInt < 10 := q_nleI c20; omega) (by have t1 : 0 ≤ x2.toInt := q_nltI c19; have t2 : x2.toInt < 10 := q_nleI c20; omega))
            refine q_aald (t := 5) (q := qD x2.toNatClampNeg) C0 V hA4 rfl (q_ix (x := x2.toInt) rfl (by have t1 : 0 ≤ x2.toInt := q_nltI c19; have t2 : x2.toInt < 10 := q_nleI c20; omega) (by have t1 : 0 ≤ x2.toInt := q_nltI c19; have t2 : x2.toInt < 10 := q_nleI c20; omega)) (hfD _ hh) d_1_5_77 ?_
            replace hO8 := (hg46 _ (q_nc (q_pd 30 10 rfl) (q_nc (q_pd 30 11 rfl) List.not_mem_nil))).trans (hO8)
            replace hO22 := (hg46 _ (q_nc (q_pd 20 10 rfl) (q_nc (q_pd 20 11 rfl) List.not_mem_nil))).trans (hO22)
            replace hA40 := (hg46 _ (q_nc (q_pd 21 10 rfl) (q_nc (q_pd 21 11 rfl) List.not_mem_nil))).trans (hA40)
            refine q_goi V (q_runV (As := [.ref qO17, .long 0, .ref (qD x2.toNatClampNeg)]) (rest := []) (d := 5) (mc := 0) (ms := 0) (ci := 5) C0 V rfl LV_NH_153 (c_DW_settle_4 l D g u38 30 10 (68 + 5 * x2.toNatClampNeg) 9 11 (69 + 5 * x2.toNatClampNeg) 20 (70 + 5 * x2.toNatClampNeg) 21 qO8 qO17 (qD x2.toNatClampNeg) qO27 qO7 qA35 (qDN x2.toNatClampNeg) qO18 qO19 qO20 qO21 qO22 qO23 qO24 qO25 qO26 (qDL x2.toNatClampNeg) qA40 y43 y44 y45 hO8 hO17 hr48 hO7 hA35 hr49 hO22 hr50 hA40 (q_f5 rfl) (Ne.symm (q_f5 rfl)) (q_pd 11 21 rfl) (q_pd 10 20 rfl) (Ne.symm (q_f5 rfl)) (Ne.symm (q_f5 rfl)) f39 f40 f41 f42 _) rfl rfl hO8 rfl hl.1 rfl (Nat.le_of_ble_eq_true rfl) ⟨by decide, by decide⟩ ⟨Nat.le_of_ble_eq_true rfl, Nat.le_of_ble_eq_true rfl⟩ d_1_5_78) (fun v53 u52 H locs hp51 V => ?_)
            rcases hp51 with ⟨y58, y59, y60, f54, f55, f56, f57, rfl, hg61, hr48, hr49, hO22, hr50, hA40⟩ | ⟨c62, rfl, hg63, hr48, hr49, hO22, hr50, hA40⟩
            ·
              replace hF := q_gc hF hg61 (q_al (by omega) (q_al (by omega) (q_al (Nat.le_of_ble_eq_true rfl) (q_al (by omega) (q_al (Nat.le_of_ble_eq_true rfl) (fun _ h => absurd h List.not_mem_nil))))))
              refine lv_pop hx hb d_1_5_81 rfl ?_
              refine lv_goto (tgt := 93) hx hb d_1_5_82 (by decide) ?_
              exact q_retX (q_retv C0 V (⟨(show ((0 ≤ x1.toInt ∧ x1.toInt ≤ 3) ∧ (0 ≤ x2.toInt ∧ x2.toInt ≤ 9)) ∧ (x1.toInt = 3 → lg_cmp ((x3.toUInt64 >>> ((32 : Int32).toInt64.toUInt64 &&& Int64.toUInt64 63)).toInt64) 0 = 0) from by exact ⟨by have t1 : 0 ≤ x1.toInt := q_nltI c17; have t2 : x1.toInt ≤ 3 := q_nltI c18; have t3 : 0 ≤ x2.toInt := q_nltI c19; have t4 : x2.toInt < 10 := q_nleI c20; have t5 : x1.toInt ≠ 3 := q_neI c22; have t6 : x1.toInt ≠ 0 := q_neI c29; have t7 : x1.toInt = 1 := q_eqI c30; have t8 : 0 ≤ y43.toInt := q_leI f39; have t9 : y43.toInt ≤ 3 := q_leI f40; have t10 : 0 ≤ y44.toInt := q_leI f41; have t11 : y44.toInt ≤ 1 := q_leI f42; have t12 : 0 ≤ y59.toInt := q_leI f54; have t13 : y59.toInt ≤ 220 := q_leI f55; have t14 : 1 ≤ y58.toInt := q_leI f56; have t15 : y58.toInt ≤ 70 := q_leI f57; omega, fun h => absurd h (by have t1 : 0 ≤ x1.toInt := q_nltI c17; have t2 : x1.toInt ≤ 3 := q_nltI c18; have t3 : 0 ≤ x2.toInt := q_nltI c19; have t4 : x2.toInt < 10 := q_nleI c20; have t5 : x1.toInt ≠ 3 := q_neI c22; have t6 : x1.toInt ≠ 0 := q_neI c29; have t7 : x1.toInt = 1 := q_eqI c30; have t8 : 0 ≤ y43.toInt := q_leI f39; have t9 : y43.toInt ≤ 3 := q_leI f40; have t10 : 0 ≤ y44.toInt := q_leI f41; have t11 : y44.toInt ≤ 1 := q_leI f42; have t12 : 0 ≤ y59.toInt := q_leI f54; have t13 : y59.toInt ≤ 220 := q_leI f55; have t14 : 1 ≤ y58.toInt := q_leI f56; have t15 : y58.toInt ≤ 70 := q_leI f57; omega)⟩), hF⟩) d_1_5_93)
            ·
              replace hF := q_gc hF hg63 (q_al (by omega) (q_al (by omega) (q_al (Nat.le_of_ble_eq_true rfl) (q_al (by omega) (q_al (Nat.le_of_ble_eq_true rfl) (fun _ h => absurd h List.not_mem_nil))))))
              refine lv_pop hx hb d_1_5_81 rfl ?_
              refine lv_goto (tgt := 93) hx hb d_1_5_82 (by decide) ?_
              exact q_retX (q_retv C0 V (⟨(show ((0 ≤ x1.toInt ∧ x1.toInt ≤ 3) ∧ (0 ≤ x2.toInt ∧ x2.toInt ≤ 9)) ∧ (x1.toInt = 3 → lg_cmp ((x3.toUInt64 >>> ((32 : Int32).toInt64.toUInt64 &&& Int64.toUInt64 63)).toInt64) 0 = 0) from by exact ⟨by have t1 : 0 ≤ x1.toInt := q_nltI c17; have t2 : x1.toInt ≤ 3 := q_nltI c18; have t3 : 0 ≤ x2.toInt := q_nltI c19; have t4 : x2.toInt < 10 := q_nleI c20; have t5 : x1.toInt ≠ 3 := q_neI c22; have t6 : x1.toInt ≠ 0 := q_neI c29; have t7 : x1.toInt = 1 := q_eqI c30; have t8 : y43.toInt = 0 := q_eqI c62; have t9 : 0 ≤ y43.toInt := q_leI f39; have t10 : y43.toInt ≤ 3 := q_leI f40; have t11 : 0 ≤ y44.toInt := q_leI f41; have t12 : y44.toInt ≤ 1 := q_leI f42; omega, fun h => absurd h (by have t1 : 0 ≤ x1.toInt := q_nltI c17; have t2 : x1.toInt ≤ 3 := q_nltI c18; have t3 : 0 ≤ x2.toInt := q_nltI c19; have t4 : x2.toInt < 10 := q_nleI c20; have t5 : x1.toInt ≠ 3 := q_neI c22; have t6 : x1.toInt ≠ 0 := q_neI c29; have t7 : x1.toInt = 1 := q_eqI c30; have t8 : y43.toInt = 0 := q_eqI c62; have t9 : 0 ≤ y43.toInt := q_leI f39; have t10 : y43.toInt ≤ 3 := q_leI f40; have t11 : 0 ≤ y44.toInt := q_leI f41; have t12 : y44.toInt ≤ 1 := q_leI f42; omega)⟩), hF⟩) d_1_5_93)
        ·
          refine lv_aload_n hx hb d_1_5_31 rfl (lv_at hl 0 rfl) ?_
          refine q_get (ci := 0) (j := 2) (v := .ref qA3) C0 V i_NH rfl rfl hO0 (by decide) w_426 rfl d_1_5_32 ?_
          refine lv_iload_n hx hb d_1_5_35 rfl (lv_at hl 2 rfl) ?_
          have r64 : x2.toNatClampNeg < 10 := (q_r10 (x := x2.toInt) rfl (by have t1 : 0 ≤ x2.toInt := q_nltI c19; have t2 : x2.toInt < 10 := q_nleI c20; omega) (by have t1 : 0 ≤ x2.toInt := q_nltI c19; have t2 : x2.toInt < 10 := q_nleI c20; omega))
          have hr65 : ws[66 + 5 * x2.toNatClampNeg]? = (some (qW x2.toNatClampNeg, .inr (2, [.ref (qWL x2.toNatClampNeg), .int 0, .int 0])) : Option (Nat × va_E)) := FW _ r64
          have hr66 : ws[67 + 5 * x2.toNatClampNeg]? = (some (qWL x2.toNatClampNeg, .inl (g 0, 68, .inl (fun _ => 0))) : Option (Nat × va_E)) := FWL _ r64
          have hh : x2.toNatClampNeg < 10 := (q_r10 (x := x2.toInt) rfl (by have t1 : 0 ≤ x2.toInt := q_nltI c19; have t2 : x2.toInt < 10 := q_nleI c20; omega) (by have t1 : 0 ≤ x2.toInt := q_nltI c19; have t2 : x2.toInt < 10 := q_nleI c20; omega))
          refine q_aald (t := 4) (q := qW x2.toNatClampNeg) C0 V hA3 rfl (q_ix (x := x2.toInt) rfl (by have t1 : 0 ≤ x2.toInt := q_nltI c19; have t2 : x2.toInt < 10 := q_nleI c20; omega) (by have t1 : 0 ≤ x2.toInt := q_nltI c19; have t2 : x2.toInt < 10 := q_nleI c20; omega)) (hfW _ hh) d_1_5_36 ?_
          refine lv_lload_n hx hb d_1_5_37 rfl (lv_at hl 3 rfl) ?_
          refine q_gov V (q_runV (As := [.long x3]) (rest := []) (d := 2) (mc := 0) (ms := 0) (ci := 2) C0 V rfl LV_NH_164 (c_Big_setLong_5 l D g ws (66 + 5 * x2.toNatClampNeg) (67 + 5 * x2.toNatClampNeg) (qW x2.toNatClampNeg) (qWL x2.toNatClampNeg) x3 hr65 hr66 _) rfl rfl hr65 rfl hl.1 rfl (Nat.le_of_ble_eq_true rfl) ⟨by decide, by decide⟩ ⟨Nat.le_of_ble_eq_true rfl, Nat.le_of_ble_eq_true rfl⟩ d_1_5_38) (fun u68 H locs hp67 V => ?_)
          obtain ⟨y73, y74, y75, f69, f70, f71, f72, hg76, hr65, hr66⟩ := hp67
          replace hF := q_gc hF hg76 (q_al (by omega) (q_al (by omega) (fun _ h => absurd h List.not_mem_nil)))
          refine lv_goto (tgt := 93) hx hb d_1_5_41 (by decide) ?_
          exact q_retX (q_retv C0 V (⟨(show ((0 ≤ x1.toInt ∧ x1.toInt ≤ 3) ∧ (0 ≤ x2.toInt ∧ x2.toInt ≤ 9)) ∧ (x1.toInt = 3 → lg_cmp ((x3.toUInt64 >>> ((32 : Int32).toInt64.toUInt64 &&& Int64.toUInt64 63)).toInt64) 0 = 0) from by exact ⟨by have t1 : 0 ≤ x1.toInt := q_nltI c17; have t2 : x1.toInt ≤ 3 := q_nltI c18; have t3 : 0 ≤ x2.toInt := q_nltI c19; have t4 : x2.toInt < 10 := q_nleI c20; have t5 : x1.toInt ≠ 3 := q_neI c22; have t6 : x1.toInt = 0 := q_eqI c29; have t7 : 0 ≤ y73.toInt := q_leI f69; have t8 : y73.toInt ≤ 3 := q_leI f70; have t9 : 0 ≤ y74.toInt := q_leI f71; have t10 : y74.toInt ≤ 1 := q_leI f72; omega, fun h => absurd h (by have t1 : 0 ≤ x1.toInt := q_nltI c17; have t2 : x1.toInt ≤ 3 := q_nltI c18; have t3 : 0 ≤ x2.toInt := q_nltI c19; have t4 : x2.toInt < 10 := q_nleI c20; have t5 : x1.toInt ≠ 3 := q_neI c22; have t6 : x1.toInt = 0 := q_eqI c29; have t7 : 0 ≤ y73.toInt := q_leI f69; have t8 : y73.toInt ≤ 3 := q_leI f70; have t9 : 0 ≤ y74.toInt := q_leI f71; have t10 : y74.toInt ≤ 1 := q_leI f72; omega)⟩), hF⟩) d_1_5_93)
    ·
      refine lv_lload_n hx hb d_1_5_10 rfl (lv_at hl 3 rfl) ?_
      refine lv_bipush (v := 32) hx hb d_1_5_11 (by decide) ?_
      refine lv_lushr hx hb d_1_5_13 rfl ?_
      refine lv_lconst (v := 0) hx hb d_1_5_14 (by decide) ?_
      refine W.lcmp hx hb d_1_5_15 ?_
      refine lv_if_ne (tgt := 23) hx hb d_1_5_16 (by decide) (fun c77 => ?_) (fun c77 => ?_)
      ·
        refine lv_iconst (v := 0) hx hb d_1_5_23 (by decide) ?_
        refine q_goxv V (q_runSX (As := [.int 0]) (rest := []) (d := 7) (mc := 1) (ms := 6) C0 V rfl LS_NH_104 (c_NH_need l D g ws hlt 0 _) rfl hl.1 rfl (Nat.le_of_ble_eq_true rfl) ⟨by decide, by decide⟩ ⟨Nat.le_of_ble_eq_true rfl, Nat.le_of_ble_eq_true rfl⟩ d_1_5_24) (fun qx Ex ce u79 H locs hp78 V hce hcv hcl => ?_) (fun u79 H locs hp78 V => ?_)
        ·
          obtain ⟨c80, rfl, rfl⟩ := hp78
          exact q_outT hno C0 V (⟨⟨rfl, (show ¬ ((0 ≤ x1.toInt ∧ x1.toInt ≤ 3) ∧ (0 ≤ x2.toInt ∧ x2.toInt ≤ 9)) ∨ (x1.toInt = 3 ∧ ¬ lg_cmp ((x3.toUInt64 >>> ((32 : Int32).toInt64.toUInt64 &&& Int64.toUInt64 63)).toInt64) 0 = 0) from by exact Or.inr ⟨by have t1 : 0 ≤ x1.toInt := q_nltI c17; have t2 : x1.toInt ≤ 3 := q_nltI c18; have t3 : 0 ≤ x2.toInt := q_nltI c19; have t4 : x2.toInt < 10 := q_nleI c20; have t5 : x1.toInt = 3 := q_eqI c22; omega, c77⟩)⟩, hF⟩) hce hcv hcl (Nat.le_of_ble_eq_true rfl) (Nat.le_of_ble_eq_true rfl)
        ·
          obtain ⟨c82, rfl⟩ := hp78
          exact absurd c82 (by decide)
      ·
        refine lv_iconst (v := 1) hx hb d_1_5_19 (by decide) ?_
        refine lv_goto (tgt := 24) hx hb d_1_5_20 (by decide) ?_
        refine q_goxv V (q_runSX (As := [.int 1]) (rest := []) (d := 7) (mc := 1) (ms := 6) C0 V rfl LS_NH_104 (c_NH_need l D g ws hlt 1 _) rfl hl.1 rfl (Nat.le_of_ble_eq_true rfl) ⟨by decide, by decide⟩ ⟨Nat.le_of_ble_eq_true rfl, Nat.le_of_ble_eq_true rfl⟩ d_1_5_24) (fun qx Ex ce u85 H locs hp84 V hce hcv hcl => ?_) (fun u85 H locs hp84 V => ?_)
        ·
          obtain ⟨c86, rfl, rfl⟩ := hp84
          exact absurd c86 (by decide)
        ·
          obtain ⟨c88, rfl⟩ := hp84
          refine lv_iload_n hx hb d_1_5_27 rfl (lv_at hl 1 rfl) ?_
          refine q_ti (v := 3) c22 ?_
          refine lv_if_ne (tgt := 44) hx hb d_1_5_28 (by decide) (fun c90 => ?_) (fun c90 => absurd c90 (by decide))
          refine lv_iload_n hx hb d_1_5_44 rfl (lv_at hl 1 rfl) ?_
          refine q_ti (v := 3) c22 ?_
          refine lv_iconst (v := 1) hx hb d_1_5_45 (by decide) ?_
          refine lv_icmp_ne (tgt := 85) hx hb d_1_5_46 (by decide) (fun c91 => ?_) (fun c91 => absurd c91 (by decide))
          refine lv_aload_n hx hb d_1_5_85 rfl (lv_at hl 0 rfl) ?_
          refine lv_iload_n hx hb d_1_5_86 rfl (lv_at hl 1 rfl) ?_
          refine q_ti (v := 3) c22 ?_
          refine q_gor (post := fun r u => qA6 = r ∧ ws = u) V (q_runV (As := [.int 3]) (rest := []) (d := 1) (mc := 0) (ms := 0) (ci := 0) C0 V rfl LV_NH_157 (c_NH_floatRow l D g ws qO0 qO1 qO2 qA3 qA4 qA5 qA6 qO7 qO8 qO9 qO10 qO11 qO12 qO13 qO14 hO0 _) rfl rfl hO0 rfl hl.1 rfl (Nat.le_of_ble_eq_true rfl) ⟨by decide, by decide⟩ ⟨Nat.le_of_ble_eq_true rfl, Nat.le_of_ble_eq_true rfl⟩ d_1_5_87) (fun v94 u93 H locs hp92 V => ?_)
          obtain ⟨rfl, rfl⟩ := hp92
          refine lv_iload_n hx hb d_1_5_90 rfl (lv_at hl 2 rfl) ?_
          refine lv_lload_n hx hb d_1_5_91 rfl (lv_at hl 3 rfl) ?_
          refine q_last C0 V hA6 (q_ix (x := x2.toInt) rfl (by have t1 : 0 ≤ x2.toInt := q_nltI c19; have t2 : x2.toInt < 10 := q_nleI c20; omega) (by have t1 : 0 ≤ x2.toInt := q_nltI c19; have t2 : x2.toInt < 10 := q_nleI c20; omega)) d_1_5_92 (fun H locs w96 hu97 hA6 V => ?_)
          replace hA6 : w96[8]? = (some (qA6, .inl (g 1, 10, .inr (.inl (vp_updL (fun _ => 0) x2.toNatClampNeg x3)))) : Option (Nat × va_E)) := hA6
          replace hF := q_gs hF hu97 (Nat.le_of_ble_eq_true rfl)
          exact q_retX (q_retv C0 V (⟨(show ((0 ≤ x1.toInt ∧ x1.toInt ≤ 3) ∧ (0 ≤ x2.toInt ∧ x2.toInt ≤ 9)) ∧ (x1.toInt = 3 → lg_cmp ((x3.toUInt64 >>> ((32 : Int32).toInt64.toUInt64 &&& Int64.toUInt64 63)).toInt64) 0 = 0) from by exact ⟨by have t1 : 0 ≤ x1.toInt := q_nltI c17; have t2 : x1.toInt ≤ 3 := q_nltI c18; have t3 : 0 ≤ x2.toInt := q_nltI c19; have t4 : x2.toInt < 10 := q_nleI c20; have t5 : x1.toInt = 3 := q_eqI c22; omega, fun h => c77⟩), hF⟩) d_1_5_93)
