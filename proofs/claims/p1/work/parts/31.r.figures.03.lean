set_option maxRecDepth 100000 in
set_option maxHeartbeats 4000000 in
theorem c_FR_add_26 (l : Launch) (D : va_G) (g : Nat → ClassId) (ws : va_W) (kO0 kA7 qO0 qA1 qA2 qA3 qA4 qA5 qA6 qA7 : Nat) (hO0 : ws[kO0]? = (some (qO0, .inr (15, [.int 0, .ref qA1, .ref qA2, .ref qA3, .ref qA4, .ref qA5, .ref qA6, .ref qA7, .int 1, .int 0, .int 0, .long 0, .int 23, .int 255, .long 0, .int (-149), .long 0, .int 0])) : Option (Nat × va_E))) (hA7 : ws[kA7]? = (some (qA7, .inl (g 0, 1600, .inl (upd (fun _ => 0) 0 48))) : Option (Nat × va_E))) : q_mV l y_FR_add prog_17_method_16_code 2 1 0 0 D g [.ref qO0, .int 101] ws (fun u => q_un ws u [kO0, kA7] ∧ u[kO0]? = (some (qO0, .inr (15, [.int 0, .ref qA1, .ref qA2, .ref qA3, .ref qA4, .ref qA5, .ref qA6, .ref qA7, .int 2, .int 0, .int 0, .long 0, .int 23, .int 255, .long 0, .int (-149), .long 0, .int 0])) : Option (Nat × va_E)) ∧ u[kA7]? = (some (qA7, .inl (g 0, 1600, .inl (upd (upd (fun _ => 0) 0 48) 1 101))) : Option (Nat × va_E))) := by
  intro sz
  refine q_into (by decide) (Nat.le_of_ble_eq_true rfl) ?_
  intro p e s m below meth c ls hsz C0 V hl
  have hx := C0.1
  have hb := C0.2.1
  have hl : lv_has ls 2 [(0, .ref qO0), (1, .int 101)] := hl
  have n_A7_O0 := q_df hA7 hO0
  have n_O0_A7 := Ne.symm (q_df hA7 hO0)
  have hF : q_un ws ws [kO0, kA7] := q_u0
  refine lv_aload_n hx hb d_17_16_0 rfl (lv_at hl 0 rfl) ?_
  refine q_get (ci := 15) (j := 7) (v := .ref qA7) C0 V i_FR rfl rfl hO0 (by decide) w_2082 rfl d_17_16_1 ?_
  refine lv_aload_n hx hb d_17_16_4 rfl (lv_at hl 0 rfl) ?_
  refine q_get (ci := 15) (j := 8) (v := .int 1) C0 V i_FR rfl rfl hO0 (by decide) w_2084 rfl d_17_16_5 ?_
  refine lv_iload_n hx hb d_17_16_8 rfl (lv_at hl 1 rfl) ?_
  refine q_iast C0 V hA7 (by unfold vp_in; decide) d_17_16_9 (fun H locs w1 hu2 hA7 V => ?_)
  replace hA7 : w1[kA7]? = (some (qA7, .inl (g 0, 1600, .inl (upd (upd (fun _ => 0) 0 48) 1 101))) : Option (Nat × va_E)) := hA7
  replace hF := q_us hF hu2 (.tail _ (.head _))
  refine lv_aload_n hx hb d_17_16_10 rfl (lv_at hl 0 rfl) ?_
  refine lv_dup hx hb d_17_16_11 rfl ?_
  replace hO0 := (hu2 _ n_O0_A7).trans (hO0)
  refine q_get (ci := 15) (j := 8) (v := .int 1) C0 V i_FR rfl rfl hO0 (by decide) w_2084 rfl d_17_16_12 ?_
  refine lv_iconst (v := 1) hx hb d_17_16_15 (by decide) ?_
  refine lv_iadd hx hb d_17_16_16 ?_
  refine q_ti (v := 2) (by decide) ?_
  refine q_put (ci := 15) (j := 8) (v := .int 2) (ty := .int) C0 V i_FR o_FR n_FR rfl rfl hO0 (by decide) w_2084 rfl rfl rfl rfl (Nat.le_of_ble_eq_true rfl) d_17_16_17 (fun H locs w3 hu4 hO0 V => ?_)
  replace hO0 : w3[kO0]? = (some (qO0, .inr (15, [.int 0, .ref qA1, .ref qA2, .ref qA3, .ref qA4, .ref qA5, .ref qA6, .ref qA7, .int 2, .int 0, .int 0, .long 0, .int 23, .int 255, .long 0, .int (-149), .long 0, .int 0])) : Option (Nat × va_E)) := hO0
  replace hF := q_us hF hu4 (.head _)
  replace hA7 := (hu4 _ n_A7_O0).trans (hA7)
  exact q_retv C0 V (⟨hF, hO0, hA7⟩) d_17_16_20
set_option maxRecDepth 100000 in
set_option maxHeartbeats 4000000 in
theorem c_FR_add_27 (l : Launch) (D : va_G) (g : Nat → ClassId) (ws : va_W) (kO0 kA7 qO0 qA1 qA2 qA3 qA4 qA5 qA6 qA7 : Nat) (hO0 : ws[kO0]? = (some (qO0, .inr (15, [.int 0, .ref qA1, .ref qA2, .ref qA3, .ref qA4, .ref qA5, .ref qA6, .ref qA7, .int 2, .int 0, .int 0, .long 0, .int 23, .int 255, .long 0, .int (-149), .long 0, .int 0])) : Option (Nat × va_E))) (hA7 : ws[kA7]? = (some (qA7, .inl (g 0, 1600, .inl (upd (upd (fun _ => 0) 0 48) 1 101))) : Option (Nat × va_E))) : q_mV l y_FR_add prog_17_method_16_code 2 1 0 0 D g [.ref qO0, .int 43] ws (fun u => q_un ws u [kO0, kA7] ∧ u[kO0]? = (some (qO0, .inr (15, [.int 0, .ref qA1, .ref qA2, .ref qA3, .ref qA4, .ref qA5, .ref qA6, .ref qA7, .int 3, .int 0, .int 0, .long 0, .int 23, .int 255, .long 0, .int (-149), .long 0, .int 0])) : Option (Nat × va_E)) ∧ u[kA7]? = (some (qA7, .inl (g 0, 1600, .inl (upd (upd (upd (fun _ => 0) 0 48) 1 101) 2 43))) : Option (Nat × va_E))) := by
  intro sz
  refine q_into (by decide) (Nat.le_of_ble_eq_true rfl) ?_
  intro p e s m below meth c ls hsz C0 V hl
  have hx := C0.1
  have hb := C0.2.1
  have hl : lv_has ls 2 [(0, .ref qO0), (1, .int 43)] := hl
  have n_A7_O0 := q_df hA7 hO0
  have n_O0_A7 := Ne.symm (q_df hA7 hO0)
  have hF : q_un ws ws [kO0, kA7] := q_u0
  refine lv_aload_n hx hb d_17_16_0 rfl (lv_at hl 0 rfl) ?_
  refine q_get (ci := 15) (j := 7) (v := .ref qA7) C0 V i_FR rfl rfl hO0 (by decide) w_2082 rfl d_17_16_1 ?_
  refine lv_aload_n hx hb d_17_16_4 rfl (lv_at hl 0 rfl) ?_
  refine q_get (ci := 15) (j := 8) (v := .int 2) C0 V i_FR rfl rfl hO0 (by decide) w_2084 rfl d_17_16_5 ?_
  refine lv_iload_n hx hb d_17_16_8 rfl (lv_at hl 1 rfl) ?_
  refine q_iast C0 V hA7 (by unfold vp_in; decide) d_17_16_9 (fun H locs w1 hu2 hA7 V => ?_)
  replace hA7 : w1[kA7]? = (some (qA7, .inl (g 0, 1600, .inl (upd (upd (upd (fun _ => 0) 0 48) 1 101) 2 43))) : Option (Nat × va_E)) := hA7
  replace hF := q_us hF hu2 (.tail _ (.head _))
  refine lv_aload_n hx hb d_17_16_10 rfl (lv_at hl 0 rfl) ?_
  refine lv_dup hx hb d_17_16_11 rfl ?_
  replace hO0 := (hu2 _ n_O0_A7).trans (hO0)
  refine q_get (ci := 15) (j := 8) (v := .int 2) C0 V i_FR rfl rfl hO0 (by decide) w_2084 rfl d_17_16_12 ?_
  refine lv_iconst (v := 1) hx hb d_17_16_15 (by decide) ?_
  refine lv_iadd hx hb d_17_16_16 ?_
  refine q_ti (v := 3) (by decide) ?_
  refine q_put (ci := 15) (j := 8) (v := .int 3) (ty := .int) C0 V i_FR o_FR n_FR rfl rfl hO0 (by decide) w_2084 rfl rfl rfl rfl (Nat.le_of_ble_eq_true rfl) d_17_16_17 (fun H locs w3 hu4 hO0 V => ?_)
  replace hO0 : w3[kO0]? = (some (qO0, .inr (15, [.int 0, .ref qA1, .ref qA2, .ref qA3, .ref qA4, .ref qA5, .ref qA6, .ref qA7, .int 3, .int 0, .int 0, .long 0, .int 23, .int 255, .long 0, .int (-149), .long 0, .int 0])) : Option (Nat × va_E)) := hO0
  replace hF := q_us hF hu4 (.head _)
  replace hA7 := (hu4 _ n_A7_O0).trans (hA7)
  exact q_retv C0 V (⟨hF, hO0, hA7⟩) d_17_16_20
set_option maxRecDepth 100000 in
set_option maxHeartbeats 4000000 in
theorem c_FR_number_6 (l : Launch) (D : va_G) (g : Nat → ClassId) (ws : va_W) (kO0 kA7 qO0 qA1 qA2 qA3 qA4 qA5 qA6 qA7 : Nat) (y1 : Int32) (f3 : Nat → Int32) (hO0 : ws[kO0]? = (some (qO0, .inr (15, [.int 0, .ref qA1, .ref qA2, .ref qA3, .ref qA4, .ref qA5, .ref qA6, .ref qA7, .int y1, .int 0, .int 0, .long 0, .int 23, .int 255, .long 0, .int (-149), .long 0, .int 0])) : Option (Nat × va_E))) (hA7 : ws[kA7]? = (some (qA7, .inl (g 0, 1600, .inl f3)) : Option (Nat × va_E))) (y1lo : 4 ≤ y1) (y1hi : y1 ≤ 4) : q_mV l y_FR_number prog_17_method_19_code 3 2 0 0 D g [.ref qO0, .int 0] ws (fun u => q_un ws u [kO0, kA7] ∧ u[kO0]? = (some (qO0, .inr (15, [.int 0, .ref qA1, .ref qA2, .ref qA3, .ref qA4, .ref qA5, .ref qA6, .ref qA7, .int (y1 + 1), .int 0, .int 0, .long 0, .int 23, .int 255, .long 0, .int (-149), .long 0, .int 0])) : Option (Nat × va_E)) ∧ u[kA7]? = (some (qA7, .inl (g 0, 1600, .inl (upd f3 y1.toNatClampNeg 48))) : Option (Nat × va_E))) := by
  intro sz
  refine q_into (by decide) (Nat.le_of_ble_eq_true rfl) ?_
  intro p e s m below meth c ls hsz C0 V hl
  have hx := C0.1
  have hb := C0.2.1
  have hl : lv_has ls 3 [(0, .ref qO0), (1, .int 0)] := hl
  have hF : q_un ws ws [kO0, kA7] := q_u0
  refine lv_iconst (v := 1) hx hb d_17_19_0 (by decide) ?_
  refine lv_istore_n (lv' := [(2, .int 1), (0, .ref qO0), (1, .int 0)]) hx hb d_17_19_1 rfl hl (by decide) rfl (fun ls hl => ?_)
  refine lv_iload_n hx hb d_17_19_2 rfl (lv_at hl 2 rfl) ?_
  refine lv_iload_n hx hb d_17_19_3 rfl (lv_at hl 0 rfl) ?_
  refine lv_idiv hx hb d_17_19_4 (by decide) ?_
  refine q_ti (v := 0) (by decide) ?_
  refine lv_bipush (v := 9) hx hb d_17_19_5 (by decide) ?_
  refine lv_icmp_le (tgt := 18) hx hb d_17_19_7 (by decide) (fun c1 => ?_) (fun c1 => absurd (by decide) c1)
  refine lv_iload_n hx hb d_17_19_18 rfl (lv_at hl 0 rfl) ?_
  refine lv_if_le (tgt := 43) hx hb d_17_19_19 (by decide) (fun c2 => absurd c2 (by decide)) (fun c2 => ?_)
  refine lv_aload_n hx hb d_17_19_22 rfl (lv_at hl 1 rfl) ?_
  refine lv_bipush (v := 48) hx hb d_17_19_23 (by decide) ?_
  refine lv_iload_n hx hb d_17_19_25 rfl (lv_at hl 2 rfl) ?_
  refine lv_iload_n hx hb d_17_19_26 rfl (lv_at hl 0 rfl) ?_
  refine lv_idiv hx hb d_17_19_27 (by decide) ?_
  refine q_ti (v := 0) (by decide) ?_
  refine lv_bipush (v := 10) hx hb d_17_19_28 (by decide) ?_
  refine lv_irem hx hb d_17_19_30 (by decide) ?_
  refine q_ti (v := 0) (by decide) ?_
  refine lv_iadd hx hb d_17_19_31 ?_
  refine q_ti (v := 48) (by decide) ?_
  refine q_gov V (q_runV (As := [.int 48]) (rest := []) (d := 1) (mc := 0) (ms := 0) (ci := 15) C0 V rfl LV_FR_110 (c_FR_add_6 l D g ws kO0 kA7 qO0 qA1 qA2 qA3 qA4 qA5 qA6 qA7 y1 f3 hO0 hA7 (q_Ile (x := 2) (y := y1.toInt) (by decide) rfl (by have t1 : 4 ≤ y1.toInt := q_leI y1lo; have t2 : y1.toInt ≤ 4 := q_leI y1hi; omega)) (q_Ile (x := y1.toInt) (y := 1076) rfl (by decide) (by have t1 : 4 ≤ y1.toInt := q_leI y1lo; have t2 : y1.toInt ≤ 4 := q_leI y1hi; omega)) _) rfl rfl hO0 rfl hl.1 rfl (Nat.le_of_ble_eq_true rfl) ⟨by decide, by decide⟩ ⟨Nat.le_of_ble_eq_true rfl, Nat.le_of_ble_eq_true rfl⟩ d_17_19_32) (fun u4 H locs hp3 V => ?_)
  obtain ⟨hg5, hO0, hA7⟩ := hp3
  replace hF := q_uc hF hg5 (q_sc (.head _) (q_sc (.tail _ (.head _)) (fun _ h => absurd h List.not_mem_nil)))
  refine lv_iload_n hx hb d_17_19_35 rfl (lv_at hl 0 rfl) ?_
  refine lv_bipush (v := 10) hx hb d_17_19_36 (by decide) ?_
  refine lv_idiv hx hb d_17_19_38 (by decide) ?_
  refine q_ti (v := 0) (by decide) ?_
  refine lv_istore_n (lv' := [(2, .int 0), (0, .ref qO0), (1, .int 0)]) hx hb d_17_19_39 rfl hl (by decide) rfl (fun ls hl => ?_)
  refine lv_goto (tgt := 18) hx hb d_17_19_40 (by decide) ?_
  refine lv_iload_n hx hb d_17_19_18 rfl (lv_at hl 0 rfl) ?_
  refine lv_if_le (tgt := 43) hx hb d_17_19_19 (by decide) (fun c6 => ?_) (fun c6 => absurd (by decide) c6)
  exact q_retv C0 V (⟨hF, hO0, hA7⟩) d_17_19_43
set_option maxRecDepth 100000 in
set_option maxHeartbeats 4000000 in
theorem c_FR_add_28 (l : Launch) (D : va_G) (g : Nat → ClassId) (ws : va_W) (kO0 kA7 qO0 qA1 qA2 qA3 qA4 qA5 qA6 qA7 : Nat) (hO0 : ws[kO0]? = (some (qO0, .inr (15, [.int 0, .ref qA1, .ref qA2, .ref qA3, .ref qA4, .ref qA5, .ref qA6, .ref qA7, .int 2, .int 0, .int 0, .long 0, .int 23, .int 255, .long 0, .int (-149), .long 0, .int 0])) : Option (Nat × va_E))) (hA7 : ws[kA7]? = (some (qA7, .inl (g 0, 1600, .inl (upd (upd (fun _ => 0) 0 48) 1 46))) : Option (Nat × va_E))) : q_mV l y_FR_add prog_17_method_16_code 2 1 0 0 D g [.ref qO0, .int 101] ws (fun u => q_un ws u [kO0, kA7] ∧ u[kO0]? = (some (qO0, .inr (15, [.int 0, .ref qA1, .ref qA2, .ref qA3, .ref qA4, .ref qA5, .ref qA6, .ref qA7, .int 3, .int 0, .int 0, .long 0, .int 23, .int 255, .long 0, .int (-149), .long 0, .int 0])) : Option (Nat × va_E)) ∧ u[kA7]? = (some (qA7, .inl (g 0, 1600, .inl (upd (upd (upd (fun _ => 0) 0 48) 1 46) 2 101))) : Option (Nat × va_E))) := by
  intro sz
  refine q_into (by decide) (Nat.le_of_ble_eq_true rfl) ?_
  intro p e s m below meth c ls hsz C0 V hl
  have hx := C0.1
  have hb := C0.2.1
  have hl : lv_has ls 2 [(0, .ref qO0), (1, .int 101)] := hl
  have n_A7_O0 := q_df hA7 hO0
  have n_O0_A7 := Ne.symm (q_df hA7 hO0)
  have hF : q_un ws ws [kO0, kA7] := q_u0
  refine lv_aload_n hx hb d_17_16_0 rfl (lv_at hl 0 rfl) ?_
  refine q_get (ci := 15) (j := 7) (v := .ref qA7) C0 V i_FR rfl rfl hO0 (by decide) w_2082 rfl d_17_16_1 ?_
  refine lv_aload_n hx hb d_17_16_4 rfl (lv_at hl 0 rfl) ?_
  refine q_get (ci := 15) (j := 8) (v := .int 2) C0 V i_FR rfl rfl hO0 (by decide) w_2084 rfl d_17_16_5 ?_
  refine lv_iload_n hx hb d_17_16_8 rfl (lv_at hl 1 rfl) ?_
  refine q_iast C0 V hA7 (by unfold vp_in; decide) d_17_16_9 (fun H locs w1 hu2 hA7 V => ?_)
  replace hA7 : w1[kA7]? = (some (qA7, .inl (g 0, 1600, .inl (upd (upd (upd (fun _ => 0) 0 48) 1 46) 2 101))) : Option (Nat × va_E)) := hA7
  replace hF := q_us hF hu2 (.tail _ (.head _))
  refine lv_aload_n hx hb d_17_16_10 rfl (lv_at hl 0 rfl) ?_
  refine lv_dup hx hb d_17_16_11 rfl ?_
  replace hO0 := (hu2 _ n_O0_A7).trans (hO0)
  refine q_get (ci := 15) (j := 8) (v := .int 2) C0 V i_FR rfl rfl hO0 (by decide) w_2084 rfl d_17_16_12 ?_
  refine lv_iconst (v := 1) hx hb d_17_16_15 (by decide) ?_
  refine lv_iadd hx hb d_17_16_16 ?_
  refine q_ti (v := 3) (by decide) ?_
  refine q_put (ci := 15) (j := 8) (v := .int 3) (ty := .int) C0 V i_FR o_FR n_FR rfl rfl hO0 (by decide) w_2084 rfl rfl rfl rfl (Nat.le_of_ble_eq_true rfl) d_17_16_17 (fun H locs w3 hu4 hO0 V => ?_)
  replace hO0 : w3[kO0]? = (some (qO0, .inr (15, [.int 0, .ref qA1, .ref qA2, .ref qA3, .ref qA4, .ref qA5, .ref qA6, .ref qA7, .int 3, .int 0, .int 0, .long 0, .int 23, .int 255, .long 0, .int (-149), .long 0, .int 0])) : Option (Nat × va_E)) := hO0
  replace hF := q_us hF hu4 (.head _)
  replace hA7 := (hu4 _ n_A7_O0).trans (hA7)
  exact q_retv C0 V (⟨hF, hO0, hA7⟩) d_17_16_20
set_option maxRecDepth 100000 in
set_option maxHeartbeats 4000000 in
theorem c_FR_add_29 (l : Launch) (D : va_G) (g : Nat → ClassId) (ws : va_W) (kO0 kA7 qO0 qA1 qA2 qA3 qA4 qA5 qA6 qA7 : Nat) (hO0 : ws[kO0]? = (some (qO0, .inr (15, [.int 0, .ref qA1, .ref qA2, .ref qA3, .ref qA4, .ref qA5, .ref qA6, .ref qA7, .int 3, .int 0, .int 0, .long 0, .int 23, .int 255, .long 0, .int (-149), .long 0, .int 0])) : Option (Nat × va_E))) (hA7 : ws[kA7]? = (some (qA7, .inl (g 0, 1600, .inl (upd (upd (upd (fun _ => 0) 0 48) 1 46) 2 101))) : Option (Nat × va_E))) : q_mV l y_FR_add prog_17_method_16_code 2 1 0 0 D g [.ref qO0, .int 43] ws (fun u => q_un ws u [kO0, kA7] ∧ u[kO0]? = (some (qO0, .inr (15, [.int 0, .ref qA1, .ref qA2, .ref qA3, .ref qA4, .ref qA5, .ref qA6, .ref qA7, .int 4, .int 0, .int 0, .long 0, .int 23, .int 255, .long 0, .int (-149), .long 0, .int 0])) : Option (Nat × va_E)) ∧ u[kA7]? = (some (qA7, .inl (g 0, 1600, .inl (upd (upd (upd (upd (fun _ => 0) 0 48) 1 46) 2 101) 3 43))) : Option (Nat × va_E))) := by
  intro sz
  refine q_into (by decide) (Nat.le_of_ble_eq_true rfl) ?_
  intro p e s m below meth c ls hsz C0 V hl
  have hx := C0.1
  have hb := C0.2.1
  have hl : lv_has ls 2 [(0, .ref qO0), (1, .int 43)] := hl
  have n_A7_O0 := q_df hA7 hO0
  have n_O0_A7 := Ne.symm (q_df hA7 hO0)
  have hF : q_un ws ws [kO0, kA7] := q_u0
  refine lv_aload_n hx hb d_17_16_0 rfl (lv_at hl 0 rfl) ?_
  refine q_get (ci := 15) (j := 7) (v := .ref qA7) C0 V i_FR rfl rfl hO0 (by decide) w_2082 rfl d_17_16_1 ?_
  refine lv_aload_n hx hb d_17_16_4 rfl (lv_at hl 0 rfl) ?_
  refine q_get (ci := 15) (j := 8) (v := .int 3) C0 V i_FR rfl rfl hO0 (by decide) w_2084 rfl d_17_16_5 ?_
  refine lv_iload_n hx hb d_17_16_8 rfl (lv_at hl 1 rfl) ?_
  refine q_iast C0 V hA7 (by unfold vp_in; decide) d_17_16_9 (fun H locs w1 hu2 hA7 V => ?_)
  replace hA7 : w1[kA7]? = (some (qA7, .inl (g 0, 1600, .inl (upd (upd (upd (upd (fun _ => 0) 0 48) 1 46) 2 101) 3 43))) : Option (Nat × va_E)) := hA7
  replace hF := q_us hF hu2 (.tail _ (.head _))
  refine lv_aload_n hx hb d_17_16_10 rfl (lv_at hl 0 rfl) ?_
  refine lv_dup hx hb d_17_16_11 rfl ?_
  replace hO0 := (hu2 _ n_O0_A7).trans (hO0)
  refine q_get (ci := 15) (j := 8) (v := .int 3) C0 V i_FR rfl rfl hO0 (by decide) w_2084 rfl d_17_16_12 ?_
  refine lv_iconst (v := 1) hx hb d_17_16_15 (by decide) ?_
  refine lv_iadd hx hb d_17_16_16 ?_
  refine q_ti (v := 4) (by decide) ?_
  refine q_put (ci := 15) (j := 8) (v := .int 4) (ty := .int) C0 V i_FR o_FR n_FR rfl rfl hO0 (by decide) w_2084 rfl rfl rfl rfl (Nat.le_of_ble_eq_true rfl) d_17_16_17 (fun H locs w3 hu4 hO0 V => ?_)
  replace hO0 : w3[kO0]? = (some (qO0, .inr (15, [.int 0, .ref qA1, .ref qA2, .ref qA3, .ref qA4, .ref qA5, .ref qA6, .ref qA7, .int 4, .int 0, .int 0, .long 0, .int 23, .int 255, .long 0, .int (-149), .long 0, .int 0])) : Option (Nat × va_E)) := hO0
  replace hF := q_us hF hu4 (.head _)
  replace hA7 := (hu4 _ n_A7_O0).trans (hA7)
  exact q_retv C0 V (⟨hF, hO0, hA7⟩) d_17_16_20
set_option maxRecDepth 100000 in
set_option maxHeartbeats 4000000 in
theorem c_FR_number_7 (l : Launch) (D : va_G) (g : Nat → ClassId) (ws : va_W) (kO0 kA7 qO0 qA1 qA2 qA3 qA4 qA5 qA6 qA7 : Nat) (y1 : Int32) (f3 : Nat → Int32) (hO0 : ws[kO0]? = (some (qO0, .inr (15, [.int 0, .ref qA1, .ref qA2, .ref qA3, .ref qA4, .ref qA5, .ref qA6, .ref qA7, .int y1, .int 0, .int 0, .long 0, .int 23, .int 255, .long 0, .int (-149), .long 0, .int 0])) : Option (Nat × va_E))) (hA7 : ws[kA7]? = (some (qA7, .inl (g 0, 1600, .inl f3)) : Option (Nat × va_E))) (y1lo : 5 ≤ y1) (y1hi : y1 ≤ 5) : q_mV l y_FR_number prog_17_method_19_code 3 2 0 0 D g [.ref qO0, .int 0] ws (fun u => q_un ws u [kO0, kA7] ∧ u[kO0]? = (some (qO0, .inr (15, [.int 0, .ref qA1, .ref qA2, .ref qA3, .ref qA4, .ref qA5, .ref qA6, .ref qA7, .int (y1 + 1), .int 0, .int 0, .long 0, .int 23, .int 255, .long 0, .int (-149), .long 0, .int 0])) : Option (Nat × va_E)) ∧ u[kA7]? = (some (qA7, .inl (g 0, 1600, .inl (upd f3 y1.toNatClampNeg 48))) : Option (Nat × va_E))) := by
  intro sz
  refine q_into (by decide) (Nat.le_of_ble_eq_true rfl) ?_
  intro p e s m below meth c ls hsz C0 V hl
  have hx := C0.1
  have hb := C0.2.1
  have hl : lv_has ls 3 [(0, .ref qO0), (1, .int 0)] := hl
  have hF : q_un ws ws [kO0, kA7] := q_u0
  refine lv_iconst (v := 1) hx hb d_17_19_0 (by decide) ?_
  refine lv_istore_n (lv' := [(2, .int 1), (0, .ref qO0), (1, .int 0)]) hx hb d_17_19_1 rfl hl (by decide) rfl (fun ls hl => ?_)
  refine lv_iload_n hx hb d_17_19_2 rfl (lv_at hl 2 rfl) ?_
  refine lv_iload_n hx hb d_17_19_3 rfl (lv_at hl 0 rfl) ?_
  refine lv_idiv hx hb d_17_19_4 (by decide) ?_
  refine q_ti (v := 0) (by decide) ?_
  refine lv_bipush (v := 9) hx hb d_17_19_5 (by decide) ?_
  refine lv_icmp_le (tgt := 18) hx hb d_17_19_7 (by decide) (fun c1 => ?_) (fun c1 => absurd (by decide) c1)
  refine lv_iload_n hx hb d_17_19_18 rfl (lv_at hl 0 rfl) ?_
  refine lv_if_le (tgt := 43) hx hb d_17_19_19 (by decide) (fun c2 => absurd c2 (by decide)) (fun c2 => ?_)
  refine lv_aload_n hx hb d_17_19_22 rfl (lv_at hl 1 rfl) ?_
  refine lv_bipush (v := 48) hx hb d_17_19_23 (by decide) ?_
  refine lv_iload_n hx hb d_17_19_25 rfl (lv_at hl 2 rfl) ?_
  refine lv_iload_n hx hb d_17_19_26 rfl (lv_at hl 0 rfl) ?_
  refine lv_idiv hx hb d_17_19_27 (by decide) ?_
  refine q_ti (v := 0) (by decide) ?_
  refine lv_bipush (v := 10) hx hb d_17_19_28 (by decide) ?_
  refine lv_irem hx hb d_17_19_30 (by decide) ?_
  refine q_ti (v := 0) (by decide) ?_
  refine lv_iadd hx hb d_17_19_31 ?_
  refine q_ti (v := 48) (by decide) ?_
  refine q_gov V (q_runV (As := [.int 48]) (rest := []) (d := 1) (mc := 0) (ms := 0) (ci := 15) C0 V rfl LV_FR_110 (c_FR_add_6 l D g ws kO0 kA7 qO0 qA1 qA2 qA3 qA4 qA5 qA6 qA7 y1 f3 hO0 hA7 (q_Ile (x := 2) (y := y1.toInt) (by decide) rfl (by have t1 : 5 ≤ y1.toInt := q_leI y1lo; have t2 : y1.toInt ≤ 5 := q_leI y1hi; omega)) (q_Ile (x := y1.toInt) (y := 1076) rfl (by decide) (by have t1 : 5 ≤ y1.toInt := q_leI y1lo; have t2 : y1.toInt ≤ 5 := q_leI y1hi; omega)) _) rfl rfl hO0 rfl hl.1 rfl (Nat.le_of_ble_eq_true rfl) ⟨by decide, by decide⟩ ⟨Nat.le_of_ble_eq_true rfl, Nat.le_of_ble_eq_true rfl⟩ d_17_19_32) (fun u4 H locs hp3 V => ?_)
  obtain ⟨hg5, hO0, hA7⟩ := hp3
  replace hF := q_uc hF hg5 (q_sc (.head _) (q_sc (.tail _ (.head _)) (fun _ h => absurd h List.not_mem_nil)))
  refine lv_iload_n hx hb d_17_19_35 rfl (lv_at hl 0 rfl) ?_
  refine lv_bipush (v := 10) hx hb d_17_19_36 (by decide) ?_
  refine lv_idiv hx hb d_17_19_38 (by decide) ?_
  refine q_ti (v := 0) (by decide) ?_
  refine lv_istore_n (lv' := [(2, .int 0), (0, .ref qO0), (1, .int 0)]) hx hb d_17_19_39 rfl hl (by decide) rfl (fun ls hl => ?_)
  refine lv_goto (tgt := 18) hx hb d_17_19_40 (by decide) ?_
  refine lv_iload_n hx hb d_17_19_18 rfl (lv_at hl 0 rfl) ?_
  refine lv_if_le (tgt := 43) hx hb d_17_19_19 (by decide) (fun c6 => ?_) (fun c6 => absurd (by decide) c6)
  exact q_retv C0 V (⟨hF, hO0, hA7⟩) d_17_19_43
set_option maxRecDepth 100000 in
set_option maxHeartbeats 4000000 in
theorem c_FR_add_30 (l : Launch) (D : va_G) (g : Nat → ClassId) (ws : va_W) (kO0 kA7 qO0 qA1 qA2 qA3 qA4 qA5 qA6 qA7 : Nat) (y1 : Int32) (hO0 : ws[kO0]? = (some (qO0, .inr (15, [.int 0, .ref qA1, .ref qA2, .ref qA3, .ref qA4, .ref qA5, .ref qA6, .ref qA7, .int y1, .int 0, .int 0, .long 0, .int 23, .int 255, .long 0, .int (-149), .long 0, .int 0])) : Option (Nat × va_E))) (hA7 : ws[kA7]? = (some (qA7, .inl (g 0, 1600, .inl (upd (upd (fun _ => 0) 0 48) 1 46))) : Option (Nat × va_E))) (y1lo : 2 ≤ y1) (y1hi : y1 ≤ 801) : q_mV l y_FR_add prog_17_method_16_code 2 1 0 0 D g [.ref qO0, .int 101] ws (fun u => q_un ws u [kO0, kA7] ∧ u[kO0]? = (some (qO0, .inr (15, [.int 0, .ref qA1, .ref qA2, .ref qA3, .ref qA4, .ref qA5, .ref qA6, .ref qA7, .int (y1 + 1), .int 0, .int 0, .long 0, .int 23, .int 255, .long 0, .int (-149), .long 0, .int 0])) : Option (Nat × va_E)) ∧ u[kA7]? = (some (qA7, .inl (g 0, 1600, .inl (upd (upd (upd (fun _ => 0) 0 48) 1 46) y1.toNatClampNeg 101))) : Option (Nat × va_E))) := by
  intro sz
  refine q_into (by decide) (Nat.le_of_ble_eq_true rfl) ?_
  intro p e s m below meth c ls hsz C0 V hl
  have hx := C0.1
  have hb := C0.2.1
  have hl : lv_has ls 2 [(0, .ref qO0), (1, .int 101)] := hl
  have n_A7_O0 := q_df hA7 hO0
  have n_O0_A7 := Ne.symm (q_df hA7 hO0)
  have hF : q_un ws ws [kO0, kA7] := q_u0
  refine lv_aload_n hx hb d_17_16_0 rfl (lv_at hl 0 rfl) ?_
  refine q_get (ci := 15) (j := 7) (v := .ref qA7) C0 V i_FR rfl rfl hO0 (by decide) w_2082 rfl d_17_16_1 ?_
  refine lv_aload_n hx hb d_17_16_4 rfl (lv_at hl 0 rfl) ?_
  refine q_get (ci := 15) (j := 8) (v := .int y1) C0 V i_FR rfl rfl hO0 (by decide) w_2084 rfl d_17_16_5 ?_
  refine lv_iload_n hx hb d_17_16_8 rfl (lv_at hl 1 rfl) ?_
  refine q_iast C0 V hA7 (q_ix (x := y1.toInt) rfl (by have t1 : 2 ≤ y1.toInt := q_leI y1lo; have t2 : y1.toInt ≤ 801 := q_leI y1hi; omega) (by have t1 : 2 ≤ y1.toInt := q_leI y1lo; have t2 : y1.toInt ≤ 801 := q_leI y1hi; omega)) d_17_16_9 (fun H locs w1 hu2 hA7 V => ?_)
  replace hA7 : w1[kA7]? = (some (qA7, .inl (g 0, 1600, .inl (upd (upd (upd (fun _ => 0) 0 48) 1 46) y1.toNatClampNeg 101))) : Option (Nat × va_E)) := hA7
  replace hF := q_us hF hu2 (.tail _ (.head _))
  refine lv_aload_n hx hb d_17_16_10 rfl (lv_at hl 0 rfl) ?_
  refine lv_dup hx hb d_17_16_11 rfl ?_
  replace hO0 := (hu2 _ n_O0_A7).trans (hO0)
  refine q_get (ci := 15) (j := 8) (v := .int y1) C0 V i_FR rfl rfl hO0 (by decide) w_2084 rfl d_17_16_12 ?_
  refine lv_iconst (v := 1) hx hb d_17_16_15 (by decide) ?_
  refine lv_iadd hx hb d_17_16_16 ?_
  refine q_put (ci := 15) (j := 8) (v := .int (y1 + 1)) (ty := .int) C0 V i_FR o_FR n_FR rfl rfl hO0 (by decide) w_2084 rfl rfl rfl rfl (Nat.le_of_ble_eq_true rfl) d_17_16_17 (fun H locs w3 hu4 hO0 V => ?_)
  replace hO0 : w3[kO0]? = (some (qO0, .inr (15, [.int 0, .ref qA1, .ref qA2, .ref qA3, .ref qA4, .ref qA5, .ref qA6, .ref qA7, .int (y1 + 1), .int 0, .int 0, .long 0, .int 23, .int 255, .long 0, .int (-149), .long 0, .int 0])) : Option (Nat × va_E)) := hO0
  replace hF := q_us hF hu4 (.head _)
  replace hA7 := (hu4 _ n_A7_O0).trans (hA7)
  exact q_retv C0 V (⟨hF, hO0, hA7⟩) d_17_16_20
set_option maxRecDepth 100000 in
set_option maxHeartbeats 4000000 in
theorem c_FR_add_31 (l : Launch) (D : va_G) (g : Nat → ClassId) (ws : va_W) (kO0 kA7 qO0 qA1 qA2 qA3 qA4 qA5 qA6 qA7 : Nat) (y1 : Int32) (f3 : Nat → Int32) (hO0 : ws[kO0]? = (some (qO0, .inr (15, [.int 0, .ref qA1, .ref qA2, .ref qA3, .ref qA4, .ref qA5, .ref qA6, .ref qA7, .int y1, .int 0, .int 0, .long 0, .int 23, .int 255, .long 0, .int (-149), .long 0, .int 0])) : Option (Nat × va_E))) (hA7 : ws[kA7]? = (some (qA7, .inl (g 0, 1600, .inl f3)) : Option (Nat × va_E))) (y1lo : 3 ≤ y1) (y1hi : y1 ≤ 802) : q_mV l y_FR_add prog_17_method_16_code 2 1 0 0 D g [.ref qO0, .int 43] ws (fun u => q_un ws u [kO0, kA7] ∧ u[kO0]? = (some (qO0, .inr (15, [.int 0, .ref qA1, .ref qA2, .ref qA3, .ref qA4, .ref qA5, .ref qA6, .ref qA7, .int (y1 + 1), .int 0, .int 0, .long 0, .int 23, .int 255, .long 0, .int (-149), .long 0, .int 0])) : Option (Nat × va_E)) ∧ u[kA7]? = (some (qA7, .inl (g 0, 1600, .inl (upd f3 y1.toNatClampNeg 43))) : Option (Nat × va_E))) := by
  intro sz
  refine q_into (by decide) (Nat.le_of_ble_eq_true rfl) ?_
  intro p e s m below meth c ls hsz C0 V hl
  have hx := C0.1
  have hb := C0.2.1
  have hl : lv_has ls 2 [(0, .ref qO0), (1, .int 43)] := hl
  have n_A7_O0 := q_df hA7 hO0
  have n_O0_A7 := Ne.symm (q_df hA7 hO0)
  have hF : q_un ws ws [kO0, kA7] := q_u0
  refine lv_aload_n hx hb d_17_16_0 rfl (lv_at hl 0 rfl) ?_
  refine q_get (ci := 15) (j := 7) (v := .ref qA7) C0 V i_FR rfl rfl hO0 (by decide) w_2082 rfl d_17_16_1 ?_
  refine lv_aload_n hx hb d_17_16_4 rfl (lv_at hl 0 rfl) ?_
  refine q_get (ci := 15) (j := 8) (v := .int y1) C0 V i_FR rfl rfl hO0 (by decide) w_2084 rfl d_17_16_5 ?_
  refine lv_iload_n hx hb d_17_16_8 rfl (lv_at hl 1 rfl) ?_
  refine q_iast C0 V hA7 (q_ix (x := y1.toInt) rfl (by have t1 : 3 ≤ y1.toInt := q_leI y1lo; have t2 : y1.toInt ≤ 802 := q_leI y1hi; omega) (by have t1 : 3 ≤ y1.toInt := q_leI y1lo; have t2 : y1.toInt ≤ 802 := q_leI y1hi; omega)) d_17_16_9 (fun H locs w1 hu2 hA7 V => ?_)
  replace hA7 : w1[kA7]? = (some (qA7, .inl (g 0, 1600, .inl (upd f3 y1.toNatClampNeg 43))) : Option (Nat × va_E)) := hA7
  replace hF := q_us hF hu2 (.tail _ (.head _))
  refine lv_aload_n hx hb d_17_16_10 rfl (lv_at hl 0 rfl) ?_
  refine lv_dup hx hb d_17_16_11 rfl ?_
  replace hO0 := (hu2 _ n_O0_A7).trans (hO0)
  refine q_get (ci := 15) (j := 8) (v := .int y1) C0 V i_FR rfl rfl hO0 (by decide) w_2084 rfl d_17_16_12 ?_
  refine lv_iconst (v := 1) hx hb d_17_16_15 (by decide) ?_
  refine lv_iadd hx hb d_17_16_16 ?_
  refine q_put (ci := 15) (j := 8) (v := .int (y1 + 1)) (ty := .int) C0 V i_FR o_FR n_FR rfl rfl hO0 (by decide) w_2084 rfl rfl rfl rfl (Nat.le_of_ble_eq_true rfl) d_17_16_17 (fun H locs w3 hu4 hO0 V => ?_)
  replace hO0 : w3[kO0]? = (some (qO0, .inr (15, [.int 0, .ref qA1, .ref qA2, .ref qA3, .ref qA4, .ref qA5, .ref qA6, .ref qA7, .int (y1 + 1), .int 0, .int 0, .long 0, .int 23, .int 255, .long 0, .int (-149), .long 0, .int 0])) : Option (Nat × va_E)) := hO0
  replace hF := q_us hF hu4 (.head _)
  replace hA7 := (hu4 _ n_A7_O0).trans (hA7)
  exact q_retv C0 V (⟨hF, hO0, hA7⟩) d_17_16_20
set_option maxRecDepth 100000 in
set_option maxHeartbeats 4000000 in
theorem c_FR_number_8 (l : Launch) (D : va_G) (g : Nat → ClassId) (ws : va_W) (kO0 kA7 qO0 qA1 qA2 qA3 qA4 qA5 qA6 qA7 : Nat) (y1 : Int32) (f3 : Nat → Int32) (hO0 : ws[kO0]? = (some (qO0, .inr (15, [.int 0, .ref qA1, .ref qA2, .ref qA3, .ref qA4, .ref qA5, .ref qA6, .ref qA7, .int y1, .int 0, .int 0, .long 0, .int 23, .int 255, .long 0, .int (-149), .long 0, .int 0])) : Option (Nat × va_E))) (hA7 : ws[kA7]? = (some (qA7, .inl (g 0, 1600, .inl f3)) : Option (Nat × va_E))) (y1lo : 5 ≤ y1) (y1hi : y1 ≤ 804) : q_mV l y_FR_number prog_17_method_19_code 3 2 0 0 D g [.ref qO0, .int 0] ws (fun u => q_un ws u [kO0, kA7] ∧ u[kO0]? = (some (qO0, .inr (15, [.int 0, .ref qA1, .ref qA2, .ref qA3, .ref qA4, .ref qA5, .ref qA6, .ref qA7, .int (y1 + 1), .int 0, .int 0, .long 0, .int 23, .int 255, .long 0, .int (-149), .long 0, .int 0])) : Option (Nat × va_E)) ∧ u[kA7]? = (some (qA7, .inl (g 0, 1600, .inl (upd f3 y1.toNatClampNeg 48))) : Option (Nat × va_E))) := by
  intro sz
  refine q_into (by decide) (Nat.le_of_ble_eq_true rfl) ?_
  intro p e s m below meth c ls hsz C0 V hl
  have hx := C0.1
  have hb := C0.2.1
  have hl : lv_has ls 3 [(0, .ref qO0), (1, .int 0)] := hl
  have hF : q_un ws ws [kO0, kA7] := q_u0
  refine lv_iconst (v := 1) hx hb d_17_19_0 (by decide) ?_
  refine lv_istore_n (lv' := [(2, .int 1), (0, .ref qO0), (1, .int 0)]) hx hb d_17_19_1 rfl hl (by decide) rfl (fun ls hl => ?_)
  refine lv_iload_n hx hb d_17_19_2 rfl (lv_at hl 2 rfl) ?_
  refine lv_iload_n hx hb d_17_19_3 rfl (lv_at hl 0 rfl) ?_
  refine lv_idiv hx hb d_17_19_4 (by decide) ?_
  refine q_ti (v := 0) (by decide) ?_
  refine lv_bipush (v := 9) hx hb d_17_19_5 (by decide) ?_
  refine lv_icmp_le (tgt := 18) hx hb d_17_19_7 (by decide) (fun c1 => ?_) (fun c1 => absurd (by decide) c1)
  refine lv_iload_n hx hb d_17_19_18 rfl (lv_at hl 0 rfl) ?_
  refine lv_if_le (tgt := 43) hx hb d_17_19_19 (by decide) (fun c2 => absurd c2 (by decide)) (fun c2 => ?_)
  refine lv_aload_n hx hb d_17_19_22 rfl (lv_at hl 1 rfl) ?_
  refine lv_bipush (v := 48) hx hb d_17_19_23 (by decide) ?_
  refine lv_iload_n hx hb d_17_19_25 rfl (lv_at hl 2 rfl) ?_
  refine lv_iload_n hx hb d_17_19_26 rfl (lv_at hl 0 rfl) ?_
  refine lv_idiv hx hb d_17_19_27 (by decide) ?_
  refine q_ti (v := 0) (by decide) ?_
  refine lv_bipush (v := 10) hx hb d_17_19_28 (by decide) ?_
  refine lv_irem hx hb d_17_19_30 (by decide) ?_
  refine q_ti (v := 0) (by decide) ?_
  refine lv_iadd hx hb d_17_19_31 ?_
  refine q_ti (v := 48) (by decide) ?_
  refine q_gov V (q_runV (As := [.int 48]) (rest := []) (d := 1) (mc := 0) (ms := 0) (ci := 15) C0 V rfl LV_FR_110 (c_FR_add_6 l D g ws kO0 kA7 qO0 qA1 qA2 qA3 qA4 qA5 qA6 qA7 y1 f3 hO0 hA7 (q_Ile (x := 2) (y := y1.toInt) (by decide) rfl (by have t1 : 5 ≤ y1.toInt := q_leI y1lo; have t2 : y1.toInt ≤ 804 := q_leI y1hi; omega)) (q_Ile (x := y1.toInt) (y := 1076) rfl (by decide) (by have t1 : 5 ≤ y1.toInt := q_leI y1lo; have t2 : y1.toInt ≤ 804 := q_leI y1hi; omega)) _) rfl rfl hO0 rfl hl.1 rfl (Nat.le_of_ble_eq_true rfl) ⟨by decide, by decide⟩ ⟨Nat.le_of_ble_eq_true rfl, Nat.le_of_ble_eq_true rfl⟩ d_17_19_32) (fun u4 H locs hp3 V => ?_)
  obtain ⟨hg5, hO0, hA7⟩ := hp3
  replace hF := q_uc hF hg5 (q_sc (.head _) (q_sc (.tail _ (.head _)) (fun _ h => absurd h List.not_mem_nil)))
  refine lv_iload_n hx hb d_17_19_35 rfl (lv_at hl 0 rfl) ?_
  refine lv_bipush (v := 10) hx hb d_17_19_36 (by decide) ?_
  refine lv_idiv hx hb d_17_19_38 (by decide) ?_
  refine q_ti (v := 0) (by decide) ?_
  refine lv_istore_n (lv' := [(2, .int 0), (0, .ref qO0), (1, .int 0)]) hx hb d_17_19_39 rfl hl (by decide) rfl (fun ls hl => ?_)
  refine lv_goto (tgt := 18) hx hb d_17_19_40 (by decide) ?_
  refine lv_iload_n hx hb d_17_19_18 rfl (lv_at hl 0 rfl) ?_
  refine lv_if_le (tgt := 43) hx hb d_17_19_19 (by decide) (fun c6 => ?_) (fun c6 => absurd (by decide) c6)
  exact q_retv C0 V (⟨hF, hO0, hA7⟩) d_17_19_43
set_option maxRecDepth 100000 in
set_option maxHeartbeats 4000000 in
theorem c_FR_add_32 (l : Launch) (D : va_G) (g : Nat → ClassId) (ws : va_W) (kO0 kA7 qO0 qA1 qA2 qA3 qA4 qA5 qA6 qA7 : Nat) (y1 : Int32) (f3 : Nat → Int32) (hO0 : ws[kO0]? = (some (qO0, .inr (15, [.int 0, .ref qA1, .ref qA2, .ref qA3, .ref qA4, .ref qA5, .ref qA6, .ref qA7, .int y1, .int 0, .int 0, .long 0, .int 23, .int 255, .long 0, .int (-149), .long 0, .int 0])) : Option (Nat × va_E))) (hA7 : ws[kA7]? = (some (qA7, .inl (g 0, 1600, .inl f3)) : Option (Nat × va_E))) (y1lo : 2 ≤ y1) (y1hi : y1 ≤ 801) : q_mV l y_FR_add prog_17_method_16_code 2 1 0 0 D g [.ref qO0, .int 101] ws (fun u => q_un ws u [kO0, kA7] ∧ u[kO0]? = (some (qO0, .inr (15, [.int 0, .ref qA1, .ref qA2, .ref qA3, .ref qA4, .ref qA5, .ref qA6, .ref qA7, .int (y1 + 1), .int 0, .int 0, .long 0, .int 23, .int 255, .long 0, .int (-149), .long 0, .int 0])) : Option (Nat × va_E)) ∧ u[kA7]? = (some (qA7, .inl (g 0, 1600, .inl (upd f3 y1.toNatClampNeg 101))) : Option (Nat × va_E))) := by
  intro sz
  refine q_into (by decide) (Nat.le_of_ble_eq_true rfl) ?_
  intro p e s m below meth c ls hsz C0 V hl
  have hx := C0.1
  have hb := C0.2.1
  have hl : lv_has ls 2 [(0, .ref qO0), (1, .int 101)] := hl
  have n_A7_O0 := q_df hA7 hO0
  have n_O0_A7 := Ne.symm (q_df hA7 hO0)
  have hF : q_un ws ws [kO0, kA7] := q_u0
  refine lv_aload_n hx hb d_17_16_0 rfl (lv_at hl 0 rfl) ?_
  refine q_get (ci := 15) (j := 7) (v := .ref qA7) C0 V i_FR rfl rfl hO0 (by decide) w_2082 rfl d_17_16_1 ?_
  refine lv_aload_n hx hb d_17_16_4 rfl (lv_at hl 0 rfl) ?_
  refine q_get (ci := 15) (j := 8) (v := .int y1) C0 V i_FR rfl rfl hO0 (by decide) w_2084 rfl d_17_16_5 ?_
  refine lv_iload_n hx hb d_17_16_8 rfl (lv_at hl 1 rfl) ?_
  refine q_iast C0 V hA7 (q_ix (x := y1.toInt) rfl (by have t1 : 2 ≤ y1.toInt := q_leI y1lo; have t2 : y1.toInt ≤ 801 := q_leI y1hi; omega) (by have t1 : 2 ≤ y1.toInt := q_leI y1lo; have t2 : y1.toInt ≤ 801 := q_leI y1hi; omega)) d_17_16_9 (fun H locs w1 hu2 hA7 V => ?_)
  replace hA7 : w1[kA7]? = (some (qA7, .inl (g 0, 1600, .inl (upd f3 y1.toNatClampNeg 101))) : Option (Nat × va_E)) := hA7
  replace hF := q_us hF hu2 (.tail _ (.head _))
  refine lv_aload_n hx hb d_17_16_10 rfl (lv_at hl 0 rfl) ?_
  refine lv_dup hx hb d_17_16_11 rfl ?_
  replace hO0 := (hu2 _ n_O0_A7).trans (hO0)
  refine q_get (ci := 15) (j := 8) (v := .int y1) C0 V i_FR rfl rfl hO0 (by decide) w_2084 rfl d_17_16_12 ?_
  refine lv_iconst (v := 1) hx hb d_17_16_15 (by decide) ?_
  refine lv_iadd hx hb d_17_16_16 ?_
  refine q_put (ci := 15) (j := 8) (v := .int (y1 + 1)) (ty := .int) C0 V i_FR o_FR n_FR rfl rfl hO0 (by decide) w_2084 rfl rfl rfl rfl (Nat.le_of_ble_eq_true rfl) d_17_16_17 (fun H locs w3 hu4 hO0 V => ?_)
  replace hO0 : w3[kO0]? = (some (qO0, .inr (15, [.int 0, .ref qA1, .ref qA2, .ref qA3, .ref qA4, .ref qA5, .ref qA6, .ref qA7, .int (y1 + 1), .int 0, .int 0, .long 0, .int 23, .int 255, .long 0, .int (-149), .long 0, .int 0])) : Option (Nat × va_E)) := hO0
  replace hF := q_us hF hu4 (.head _)
  replace hA7 := (hu4 _ n_A7_O0).trans (hA7)
  exact q_retv C0 V (⟨hF, hO0, hA7⟩) d_17_16_20
theorem d_17_30_6 : decode prog_17_method_30_code 6 = .ok (.lload_n 1, 1) := by decide +kernel
theorem d_17_30_7 : decode prog_17_method_30_code 7 = .ok (.iload_n 3, 1) := by decide +kernel
theorem d_17_30_8 : decode prog_17_method_30_code 8 = .ok (.invokestatic 122, 3) := by decide +kernel
theorem d_17_30_11 : decode prog_17_method_30_code 11 = .ok (.ifCond .ne 7, 3) := by decide +kernel
theorem d_17_30_14 : decode prog_17_method_30_code 14 = .ok (.iconst 1, 1) := by decide +kernel
theorem d_17_30_15 : decode prog_17_method_30_code 15 = .ok (.goto 4, 3) := by decide +kernel
set_option maxRecDepth 100000 in
set_option maxHeartbeats 4000000 in
theorem c_FR_scientific_2 (l : Launch) (D : va_G) (g : Nat → ClassId) (ws : va_W) (kO0 kA1 kA2 kA3 kA6 kA7 qO0 qA1 qA2 qA3 qA4 qA5 qA6 qA7 : Nat) (x1 : Int32) (x2 : Int32) (hO0 : ws[kO0]? = (some (qO0, .inr (15, [.int 0, .ref qA1, .ref qA2, .ref qA3, .ref qA4, .ref qA5, .ref qA6, .ref qA7, .int 0, .int 0, .int 0, .long 0, .int 0, .int 0, .long 0, .int 0, .long 0, .int 0])) : Option (Nat × va_E))) (hA1 : ws[kA1]? = (some (qA1, .inl (g 0, 156, .inl (fun _ => 0))) : Option (Nat × va_E))) (hA2 : ws[kA2]? = (some (qA2, .inl (g 0, 156, .inl (fun _ => 0))) : Option (Nat × va_E))) (hA3 : ws[kA3]? = (some (qA3, .inl (g 0, 1404, .inl (fun _ => 0))) : Option (Nat × va_E))) (hA6 : ws[kA6]? = (some (qA6, .inl (g 0, 1404, .inl (fun _ => 0))) : Option (Nat × va_E))) (hA7 : ws[kA7]? = (some (qA7, .inl (g 0, 1600, .inl (fun _ => 0))) : Option (Nat × va_E))) (n_A1_A2 : kA1 ≠ kA2) (n_A1_A3 : kA1 ≠ kA3) (n_A1_A6 : kA1 ≠ kA6) (n_A1_A7 : kA1 ≠ kA7) (n_A2_A6 : kA2 ≠ kA6) (n_A2_A7 : kA2 ≠ kA7) (n_A3_A2 : kA3 ≠ kA2) (n_A3_A6 : kA3 ≠ kA6) (n_A3_A7 : kA3 ≠ kA7) (n_A6_A7 : kA6 ≠ kA7) : q_mI l y_FR_scientific prog_17_method_30_code 9 (.int) 3 0 0 D g [.ref qO0, .long 0, .int 1, .int x1, .int x2] ws (fun r u => (x1 < 1 ∧ 0 = r ∧ q_un ws u [kO0, kA1, kA2, kA3, kA6, kA7] ∧ u[kO0]? = (some (qO0, .inr (15, [.int 1, .ref qA1, .ref qA2, .ref qA3, .ref qA4, .ref qA5, .ref qA6, .ref qA7, .int 0, .int 0, .int 0, .long 0, .int 23, .int 255, .long 0, .int (-149), .long 0, .int 0])) : Option (Nat × va_E)) ∧ u[kA1]? = (some (qA1, .inl (g 0, 156, .inl (fun _ => 0))) : Option (Nat × va_E)) ∧ u[kA2]? = (some (qA2, .inl (g 0, 156, .inl (fun _ => 0))) : Option (Nat × va_E)) ∧ u[kA3]? = (some (qA3, .inl (g 0, 1404, .inl (fun _ => 0))) : Option (Nat × va_E)) ∧ u[kA6]? = (some (qA6, .inl (g 0, 1404, .inl (fun _ => 0))) : Option (Nat × va_E)) ∧ u[kA7]? = (some (qA7, .inl (g 0, 1600, .inl (fun _ => 0))) : Option (Nat × va_E))) ∨ (¬ x1 < 1 ∧ 800 < x1 ∧ 0 = r ∧ q_un ws u [kO0, kA1, kA2, kA3, kA6, kA7] ∧ u[kO0]? = (some (qO0, .inr (15, [.int 1, .ref qA1, .ref qA2, .ref qA3, .ref qA4, .ref qA5, .ref qA6, .ref qA7, .int 0, .int 0, .int 0, .long 0, .int 23, .int 255, .long 0, .int (-149), .long 0, .int 0])) : Option (Nat × va_E)) ∧ u[kA1]? = (some (qA1, .inl (g 0, 156, .inl (fun _ => 0))) : Option (Nat × va_E)) ∧ u[kA2]? = (some (qA2, .inl (g 0, 156, .inl (fun _ => 0))) : Option (Nat × va_E)) ∧ u[kA3]? = (some (qA3, .inl (g 0, 1404, .inl (fun _ => 0))) : Option (Nat × va_E)) ∧ u[kA6]? = (some (qA6, .inl (g 0, 1404, .inl (fun _ => 0))) : Option (Nat × va_E)) ∧ u[kA7]? = (some (qA7, .inl (g 0, 1600, .inl (fun _ => 0))) : Option (Nat × va_E))) ∨ (¬ x1 < 1 ∧ ¬ 800 < x1 ∧ x2 < 0 ∧ 0 = r ∧ q_un ws u [kO0, kA1, kA2, kA3, kA6, kA7] ∧ u[kO0]? = (some (qO0, .inr (15, [.int 1, .ref qA1, .ref qA2, .ref qA3, .ref qA4, .ref qA5, .ref qA6, .ref qA7, .int 0, .int 0, .int 0, .long 0, .int 23, .int 255, .long 0, .int (-149), .long 0, .int 0])) : Option (Nat × va_E)) ∧ u[kA1]? = (some (qA1, .inl (g 0, 156, .inl (fun _ => 0))) : Option (Nat × va_E)) ∧ u[kA2]? = (some (qA2, .inl (g 0, 156, .inl (fun _ => 0))) : Option (Nat × va_E)) ∧ u[kA3]? = (some (qA3, .inl (g 0, 1404, .inl (fun _ => 0))) : Option (Nat × va_E)) ∧ u[kA6]? = (some (qA6, .inl (g 0, 1404, .inl (fun _ => 0))) : Option (Nat × va_E)) ∧ u[kA7]? = (some (qA7, .inl (g 0, 1600, .inl (fun _ => 0))) : Option (Nat × va_E))) ∨ (∃ (ex0 : Nat → Int32), ¬ x1 < 1 ∧ ¬ 800 < x1 ∧ ¬ x2 < 0 ∧ x2 ≤ 3 ∧ x1 ≤ 1 ∧ (3 + 1) + 1 = r ∧ q_un ws u [kO0, kA1, kA2, kA3, kA6, kA7] ∧ u[kO0]? = (some (qO0, .inr (15, [.int 0, .ref qA1, .ref qA2, .ref qA3, .ref qA4, .ref qA5, .ref qA6, .ref qA7, .int ((3 + 1) + 1), .int 0, .int 0, .long 0, .int 23, .int 255, .long 0, .int (-149), .long 0, .int 0])) : Option (Nat × va_E)) ∧ u[kA1]? = (some (qA1, .inl (g 0, 156, .inl ex0)) : Option (Nat × va_E)) ∧ u[kA2]? = (some (qA2, .inl (g 0, 156, .inl (fun _ => 0))) : Option (Nat × va_E)) ∧ u[kA3]? = (some (qA3, .inl (g 0, 1404, .inl (fun _ => 0))) : Option (Nat × va_E)) ∧ u[kA6]? = (some (qA6, .inl (g 0, 1404, .inl (fun _ => 0))) : Option (Nat × va_E)) ∧ u[kA7]? = (some (qA7, .inl (g 0, 1600, .inl (upd (upd (upd (upd (upd (fun _ => 0) 0 48) 1 101) 2 43) (3 : Int32).toNatClampNeg 48) (3 + 1 : Int32).toNatClampNeg 48))) : Option (Nat × va_E))) ∨ (∃ (ex0 : Int32) (ex1 : Nat → Int32) (ex2 : Nat → Int32), ¬ x1 < 1 ∧ ¬ 800 < x1 ∧ ¬ x2 < 0 ∧ x2 ≤ 3 ∧ ¬ x1 ≤ 1 ∧ ((x1.toInt < 1 ∧ ex0.toInt = 2) ∨ (1 ≤ x1.toInt ∧ ex0.toInt = 2 + 1 * (x1.toInt - 1))) ∧ 2 ≤ ex0 ∧ ex0 ≤ 801 ∧ (((ex0 + 1) + 1) + 1) + 1 = r ∧ q_un ws u [kO0, kA1, kA2, kA3, kA6, kA7] ∧ u[kO0]? = (some (qO0, .inr (15, [.int 0, .ref qA1, .ref qA2, .ref qA3, .ref qA4, .ref qA5, .ref qA6, .ref qA7, .int ((((ex0 + 1) + 1) + 1) + 1), .int 0, .int 0, .long 0, .int 23, .int 255, .long 0, .int (-149), .long 0, .int 0])) : Option (Nat × va_E)) ∧ u[kA1]? = (some (qA1, .inl (g 0, 156, .inl ex1)) : Option (Nat × va_E)) ∧ u[kA2]? = (some (qA2, .inl (g 0, 156, .inl (fun _ => 0))) : Option (Nat × va_E)) ∧ u[kA3]? = (some (qA3, .inl (g 0, 1404, .inl (fun _ => 0))) : Option (Nat × va_E)) ∧ u[kA6]? = (some (qA6, .inl (g 0, 1404, .inl (fun _ => 0))) : Option (Nat × va_E)) ∧ u[kA7]? = (some (qA7, .inl (g 0, 1600, .inl (upd (upd (upd (upd ex2 ex0.toNatClampNeg 101) (ex0 + 1).toNatClampNeg 43) ((ex0 + 1) + 1).toNatClampNeg 48) (((ex0 + 1) + 1) + 1).toNatClampNeg 48))) : Option (Nat × va_E))) ∨ (¬ x1 < 1 ∧ ¬ 800 < x1 ∧ ¬ x2 < 0 ∧ ¬ x2 ≤ 3 ∧ 0 = r ∧ q_un ws u [kO0, kA1, kA2, kA3, kA6, kA7] ∧ u[kO0]? = (some (qO0, .inr (15, [.int 1, .ref qA1, .ref qA2, .ref qA3, .ref qA4, .ref qA5, .ref qA6, .ref qA7, .int 0, .int 0, .int 0, .long 0, .int 23, .int 255, .long 0, .int (-149), .long 0, .int 0])) : Option (Nat × va_E)) ∧ u[kA1]? = (some (qA1, .inl (g 0, 156, .inl (fun _ => 0))) : Option (Nat × va_E)) ∧ u[kA2]? = (some (qA2, .inl (g 0, 156, .inl (fun _ => 0))) : Option (Nat × va_E)) ∧ u[kA3]? = (some (qA3, .inl (g 0, 1404, .inl (fun _ => 0))) : Option (Nat × va_E)) ∧ u[kA6]? = (some (qA6, .inl (g 0, 1404, .inl (fun _ => 0))) : Option (Nat × va_E)) ∧ u[kA7]? = (some (qA7, .inl (g 0, 1600, .inl (fun _ => 0))) : Option (Nat × va_E)))) := by
  intro sz
  refine q_into (by decide) (Nat.le_of_ble_eq_true rfl) ?_
  intro p e s m below meth c ls hsz C0 V hl
  have hx := C0.1
  have hb := C0.2.1
  have hl : lv_has ls 9 [(0, .ref qO0), (1, .long 0), (3, .int 1), (4, .int x1), (5, .int x2)] := hl
  have n_A1_O0 := q_df hA1 hO0
  have n_A2_O0 := q_df hA2 hO0
  have n_A3_O0 := q_df hA3 hO0
  have n_A6_A1 := Ne.symm n_A1_A6
  have n_A6_A2 := Ne.symm n_A2_A6
  have n_A6_A3 := Ne.symm n_A3_A6
  have n_A6_O0 := q_df hA6 hO0
  have n_A7_A1 := Ne.symm n_A1_A7
  have n_A7_A2 := Ne.symm n_A2_A7
  have n_A7_A3 := Ne.symm n_A3_A7
  have n_A7_A6 := Ne.symm n_A6_A7
  have n_A7_O0 := q_df hA7 hO0
  have n_O0_A1 := Ne.symm (q_df hA1 hO0)
  have n_O0_A2 := Ne.symm (q_df hA2 hO0)
  have n_O0_A3 := Ne.symm (q_df hA3 hO0)
  have n_O0_A6 := Ne.symm (q_df hA6 hO0)
  have hF : q_un ws ws [kO0, kA1, kA2, kA3, kA6, kA7] := q_u0
  refine lv_aload_n hx hb d_17_30_0 rfl (lv_at hl 0 rfl) ?_
  refine lv_lload_n hx hb d_17_30_1 rfl (lv_at hl 1 rfl) ?_
  refine lv_iload_n hx hb d_17_30_2 rfl (lv_at hl 2 rfl) ?_
  refine lv_if_eq (tgt := 18) hx hb d_17_30_3 (by decide) (fun c1 => absurd c1 (by decide)) (fun c1 => ?_)
  refine lv_lload_n hx hb d_17_30_6 rfl (lv_at hl 1 rfl) ?_
  refine lv_iload_n hx hb d_17_30_7 rfl (lv_at hl 2 rfl) ?_
  refine q_goi V (q_runS (As := [.long 0, .int 1]) (rest := [.long 0, .ref qO0]) (d := 1) (mc := 0) (ms := 0) C0 V rfl LS_FR_122 (c_FR_isWrong_2 l D g ws _) rfl hl.1 rfl (Nat.le_of_ble_eq_true rfl) ⟨by decide, by decide⟩ ⟨Nat.le_of_ble_eq_true rfl, Nat.le_of_ble_eq_true rfl⟩ d_17_30_8) (fun v4 u3 H locs hp2 V => ?_)
  obtain ⟨rfl, rfl⟩ := hp2
  refine lv_if_ne (tgt := 18) hx hb d_17_30_11 (by decide) (fun c6 => absurd (by decide) c6) (fun c6 => ?_)
  refine lv_iconst (v := 1) hx hb d_17_30_14 (by decide) ?_
  refine lv_goto (tgt := 19) hx hb d_17_30_15 (by decide) ?_
  refine q_gov V (q_runV (As := [.long 0, .int 1]) (rest := []) (d := 1) (mc := 0) (ms := 0) (ci := 15) C0 V rfl LV_FR_126 (c_FR_open_2 l D g ws kO0 qO0 qA1 qA2 qA3 qA4 qA5 qA6 qA7 hO0 _) rfl rfl hO0 rfl hl.1 rfl (Nat.le_of_ble_eq_true rfl) ⟨by decide, by decide⟩ ⟨Nat.le_of_ble_eq_true rfl, Nat.le_of_ble_eq_true rfl⟩ d_17_30_19) (fun u8 H locs hp7 V => ?_)
  obtain ⟨hg9, hO0⟩ := hp7
  replace hF := q_uc hF hg9 (q_sc (.head _) (fun _ h => absurd h List.not_mem_nil))
  refine lv_aload_n hx hb d_17_30_22 rfl (lv_at hl 0 rfl) ?_
  refine lv_lload_n hx hb d_17_30_23 rfl (lv_at hl 1 rfl) ?_
  refine lv_iload_n hx hb d_17_30_24 rfl (lv_at hl 2 rfl) ?_
  refine q_goi V (q_runS (As := [.long 0, .int 1]) (rest := [.ref qO0]) (d := 1) (mc := 0) (ms := 0) C0 V rfl LS_FR_122 (c_FR_isWrong_2 l D g u8 _) rfl hl.1 rfl (Nat.le_of_ble_eq_true rfl) ⟨by decide, by decide⟩ ⟨Nat.le_of_ble_eq_true rfl, Nat.le_of_ble_eq_true rfl⟩ d_17_30_25) (fun v12 u11 H locs hp10 V => ?_)
  obtain ⟨rfl, rfl⟩ := hp10
  refine lv_if_ne (tgt := 56) hx hb d_17_30_28 (by decide) (fun c14 => absurd (by decide) c14) (fun c14 => ?_)
  refine lv_iload hx hb d_17_30_31 (lv_at hl 3 rfl) ?_
  refine lv_iconst (v := 1) hx hb d_17_30_33 (by decide) ?_
  refine lv_icmp_lt (tgt := 56) hx hb d_17_30_34 (by decide) (fun c15 => ?_) (fun c15 => ?_)
  ·
    refine lv_iconst (v := 1) hx hb d_17_30_56 (by decide) ?_
    refine lv_goto (tgt := 72) hx hb d_17_30_57 (by decide) ?_
    refine q_put (ci := 15) (j := 0) (v := .int 1) (ty := .int) C0 V i_FR o_FR n_FR rfl rfl hO0 (by decide) w_2074 rfl rfl rfl rfl (Nat.le_of_ble_eq_true rfl) d_17_30_72 (fun H locs w16 hu17 hO0 V => ?_)
    replace hO0 : w16[kO0]? = (some (qO0, .inr (15, [.int 1, .ref qA1, .ref qA2, .ref qA3, .ref qA4, .ref qA5, .ref qA6, .ref qA7, .int 0, .int 0, .int 0, .long 0, .int 23, .int 255, .long 0, .int (-149), .long 0, .int 0])) : Option (Nat × va_E)) := hO0
    replace hF := q_us hF hu17 (.head _)
    refine lv_aload_n hx hb d_17_30_75 rfl (lv_at hl 0 rfl) ?_
    refine q_get (ci := 15) (j := 0) (v := .int 1) C0 V i_FR rfl rfl hO0 (by decide) w_2074 rfl d_17_30_76 ?_
    refine lv_if_le (tgt := 84) hx hb d_17_30_79 (by decide) (fun c18 => absurd c18 (by decide)) (fun c18 => ?_)
    refine lv_iconst (v := 0) hx hb d_17_30_82 (by decide) ?_
    replace hA1 := (hu17 _ n_A1_O0).trans ((hg9 _ (q_nc n_A1_O0 List.not_mem_nil)).trans (hA1))
    replace hA2 := (hu17 _ n_A2_O0).trans ((hg9 _ (q_nc n_A2_O0 List.not_mem_nil)).trans (hA2))
    replace hA3 := (hu17 _ n_A3_O0).trans ((hg9 _ (q_nc n_A3_O0 List.not_mem_nil)).trans (hA3))
    replace hA6 := (hu17 _ n_A6_O0).trans ((hg9 _ (q_nc n_A6_O0 List.not_mem_nil)).trans (hA6))
    replace hA7 := (hu17 _ n_A7_O0).trans ((hg9 _ (q_nc n_A7_O0 List.not_mem_nil)).trans (hA7))
    exact q_reti C0 V (Or.inl ⟨c15, rfl, hF, hO0, hA1, hA2, hA3, hA6, hA7⟩) d_17_30_83
  ·
    refine lv_iload hx hb d_17_30_37 (lv_at hl 3 rfl) ?_
    refine lv_sipush (v := 800) hx hb d_17_30_39 (by decide) ?_
    refine lv_icmp_gt (tgt := 56) hx hb d_17_30_42 (by decide) (fun c19 => ?_) (fun c19 => ?_)
    ·
      refine lv_iconst (v := 1) hx hb d_17_30_56 (by decide) ?_
      refine lv_goto (tgt := 72) hx hb d_17_30_57 (by decide) ?_
      refine q_put (ci := 15) (j := 0) (v := .int 1) (ty := .int) C0 V i_FR o_FR n_FR rfl rfl hO0 (by decide) w_2074 rfl rfl rfl rfl (Nat.le_of_ble_eq_true rfl) d_17_30_72 (fun H locs w20 hu21 hO0 V => ?_)
      replace hO0 : w20[kO0]? = (some (qO0, .inr (15, [.int 1, .ref qA1, .ref qA2, .ref qA3, .ref qA4, .ref qA5, .ref qA6, .ref qA7, .int 0, .int 0, .int 0, .long 0, .int 23, .int 255, .long 0, .int (-149), .long 0, .int 0])) : Option (Nat × va_E)) := hO0
      replace hF := q_us hF hu21 (.head _)
      refine lv_aload_n hx hb d_17_30_75 rfl (lv_at hl 0 rfl) ?_
      refine q_get (ci := 15) (j := 0) (v := .int 1) C0 V i_FR rfl rfl hO0 (by decide) w_2074 rfl d_17_30_76 ?_
      refine lv_if_le (tgt := 84) hx hb d_17_30_79 (by decide) (fun c22 => absurd c22 (by decide)) (fun c22 => ?_)
      refine lv_iconst (v := 0) hx hb d_17_30_82 (by decide) ?_
      replace hA1 := (hu21 _ n_A1_O0).trans ((hg9 _ (q_nc n_A1_O0 List.not_mem_nil)).trans (hA1))
      replace hA2 := (hu21 _ n_A2_O0).trans ((hg9 _ (q_nc n_A2_O0 List.not_mem_nil)).trans (hA2))
      replace hA3 := (hu21 _ n_A3_O0).trans ((hg9 _ (q_nc n_A3_O0 List.not_mem_nil)).trans (hA3))
      replace hA6 := (hu21 _ n_A6_O0).trans ((hg9 _ (q_nc n_A6_O0 List.not_mem_nil)).trans (hA6))
      replace hA7 := (hu21 _ n_A7_O0).trans ((hg9 _ (q_nc n_A7_O0 List.not_mem_nil)).trans (hA7))
      exact q_reti C0 V (Or.inr (Or.inl ⟨c15, c19, rfl, hF, hO0, hA1, hA2, hA3, hA6, hA7⟩)) d_17_30_83
    ·
      refine lv_iload hx hb d_17_30_45 (lv_at hl 4 rfl) ?_
      refine lv_if_lt (tgt := 56) hx hb d_17_30_47 (by decide) (fun c23 => ?_) (fun c23 => ?_)
      ·
        refine lv_iconst (v := 1) hx hb d_17_30_56 (by decide) ?_
        refine lv_goto (tgt := 72) hx hb d_17_30_57 (by decide) ?_
        refine q_put (ci := 15) (j := 0) (v := .int 1) (ty := .int) C0 V i_FR o_FR n_FR rfl rfl hO0 (by decide) w_2074 rfl rfl rfl rfl (Nat.le_of_ble_eq_true rfl) d_17_30_72 (fun H locs w24 hu25 hO0 V => ?_)
        replace hO0 : w24[kO0]? = (some (qO0, .inr (15, [.int 1, .ref qA1, .ref qA2, .ref qA3, .ref qA4, .ref qA5, .ref qA6, .ref qA7, .int 0, .int 0, .int 0, .long 0, .int 23, .int 255, .long 0, .int (-149), .long 0, .int 0])) : Option (Nat × va_E)) := hO0
        replace hF := q_us hF hu25 (.head _)
        refine lv_aload_n hx hb d_17_30_75 rfl (lv_at hl 0 rfl) ?_
        refine q_get (ci := 15) (j := 0) (v := .int 1) C0 V i_FR rfl rfl hO0 (by decide) w_2074 rfl d_17_30_76 ?_
        refine lv_if_le (tgt := 84) hx hb d_17_30_79 (by decide) (fun c26 => absurd c26 (by decide)) (fun c26 => ?_)
        refine lv_iconst (v := 0) hx hb d_17_30_82 (by decide) ?_
        replace hA1 := (hu25 _ n_A1_O0).trans ((hg9 _ (q_nc n_A1_O0 List.not_mem_nil)).trans (hA1))
        replace hA2 := (hu25 _ n_A2_O0).trans ((hg9 _ (q_nc n_A2_O0 List.not_mem_nil)).trans (hA2))
        replace hA3 := (hu25 _ n_A3_O0).trans ((hg9 _ (q_nc n_A3_O0 List.not_mem_nil)).trans (hA3))
        replace hA6 := (hu25 _ n_A6_O0).trans ((hg9 _ (q_nc n_A6_O0 List.not_mem_nil)).trans (hA6))
        replace hA7 := (hu25 _ n_A7_O0).trans ((hg9 _ (q_nc n_A7_O0 List.not_mem_nil)).trans (hA7))
        exact q_reti C0 V (Or.inr (Or.inr (Or.inl ⟨c15, c19, c23, rfl, hF, hO0, hA1, hA2, hA3, hA6, hA7⟩))) d_17_30_83
      ·
        refine lv_iload hx hb d_17_30_50 (lv_at hl 4 rfl) ?_
        refine lv_iconst (v := 3) hx hb d_17_30_52 (by decide) ?_
        refine lv_icmp_le (tgt := 60) hx hb d_17_30_53 (by decide) (fun c27 => ?_) (fun c27 => ?_)
        ·
          refine lv_aload_n hx hb d_17_30_60 rfl (lv_at hl 0 rfl) ?_
          refine q_goi V (q_runV (As := []) (rest := [.ref qO0]) (d := 1) (mc := 0) (ms := 0) (ci := 15) C0 V rfl LV_FR_130 (c_FR_isFinite_2 l D g u8 kO0 qO0 qA1 qA2 qA3 qA4 qA5 qA6 qA7 hO0 _) rfl rfl hO0 rfl hl.1 rfl (Nat.le_of_ble_eq_true rfl) ⟨by decide, by decide⟩ ⟨Nat.le_of_ble_eq_true rfl, Nat.le_of_ble_eq_true rfl⟩ d_17_30_61) (fun v30 u29 H locs hp28 V => ?_)
          obtain ⟨rfl, rfl⟩ := hp28
          refine lv_if_ne (tgt := 71) hx hb d_17_30_64 (by decide) (fun c32 => ?_) (fun c32 => absurd c32 (by decide))
          refine lv_iconst (v := 0) hx hb d_17_30_71 (by decide) ?_
          refine q_put (ci := 15) (j := 0) (v := .int 0) (ty := .int) C0 V i_FR o_FR n_FR rfl rfl hO0 (by decide) w_2074 rfl rfl rfl rfl (Nat.le_of_ble_eq_true rfl) d_17_30_72 (fun H locs w33 hu34 hO0 V => ?_)
          replace hO0 : w33[kO0]? = (some (qO0, .inr (15, [.int 0, .ref qA1, .ref qA2, .ref qA3, .ref qA4, .ref qA5, .ref qA6, .ref qA7, .int 0, .int 0, .int 0, .long 0, .int 23, .int 255, .long 0, .int (-149), .long 0, .int 0])) : Option (Nat × va_E)) := hO0
          replace hF := q_us hF hu34 (.head _)
          refine lv_aload_n hx hb d_17_30_75 rfl (lv_at hl 0 rfl) ?_
          refine q_get (ci := 15) (j := 0) (v := .int 0) C0 V i_FR rfl rfl hO0 (by decide) w_2074 rfl d_17_30_76 ?_
          refine lv_if_le (tgt := 84) hx hb d_17_30_79 (by decide) (fun c35 => ?_) (fun c35 => absurd (by decide) c35)
          refine lv_aload_n hx hb d_17_30_84 rfl (lv_at hl 0 rfl) ?_
          replace hA1 := (hu34 _ n_A1_O0).trans ((hg9 _ (q_nc n_A1_O0 List.not_mem_nil)).trans (hA1))
          replace hA2 := (hu34 _ n_A2_O0).trans ((hg9 _ (q_nc n_A2_O0 List.not_mem_nil)).trans (hA2))
          replace hA3 := (hu34 _ n_A3_O0).trans ((hg9 _ (q_nc n_A3_O0 List.not_mem_nil)).trans (hA3))
          refine q_gov V (q_runV (As := []) (rest := []) (d := 2) (mc := 0) (ms := 0) (ci := 15) C0 V rfl LV_FR_162 (c_FR_setValue_2 l D g w33 kO0 kA1 kA2 kA3 qO0 qA1 qA2 qA3 qA4 qA5 qA6 qA7 hO0 hA1 hA2 hA3 n_A1_A2 n_A1_A3 n_A3_A2 _) rfl rfl hO0 rfl hl.1 rfl (Nat.le_of_ble_eq_true rfl) ⟨by decide, by decide⟩ ⟨Nat.le_of_ble_eq_true rfl, Nat.le_of_ble_eq_true rfl⟩ d_17_30_85) (fun u37 H locs hp36 V => ?_)
          obtain ⟨y38, hg39, hA1, hA2, hA3⟩ := hp36
          replace hF := q_uc hF hg39 (q_sc (.tail _ (.head _)) (q_sc (.tail _ (.tail _ (.head _))) (q_sc (List.mem_of_getElem? (i := 3) rfl) (fun _ h => absurd h List.not_mem_nil))))
          refine lv_aload_n hx hb d_17_30_88 rfl (lv_at hl 0 rfl) ?_
          replace hO0 := (hg39 _ (q_nc n_O0_A1 (q_nc n_O0_A2 (q_nc n_O0_A3 List.not_mem_nil)))).trans (hO0)
          refine q_get (ci := 15) (j := 14) (v := .long 0) C0 V i_FR rfl rfl hO0 (by decide) w_2090 rfl d_17_30_89 ?_
          refine lv_lconst (v := 0) hx hb d_17_30_92 (by decide) ?_
          refine W.lcmp hx hb d_17_30_93 ?_
          refine q_ti (v := 0) (by decide) ?_
          refine lv_if_ne (tgt := 103) hx hb d_17_30_94 (by decide) (fun c40 => absurd (by decide) c40) (fun c40 => ?_)
          refine lv_sipush (v := 1080) hx hb d_17_30_97 (by decide) ?_
          refine lv_goto (tgt := 107) hx hb d_17_30_100 (by decide) ?_
          refine lv_istore (lv' := [(6, .int 1080), (0, .ref qO0), (1, .long 0), (3, .int 1), (4, .int x1), (5, .int x2)]) hx hb d_17_30_107 hl (by decide) rfl (fun ls hl => ?_)
          refine lv_iload hx hb d_17_30_109 (lv_at hl 0 rfl) ?_
          refine lv_iload hx hb d_17_30_111 (lv_at hl 4 rfl) ?_
          refine lv_isub hx hb d_17_30_113 ?_
          refine lv_iconst (v := 1) hx hb d_17_30_114 (by decide) ?_
          refine lv_iadd hx hb d_17_30_115 ?_
          refine lv_if_ge (tgt := 123) hx hb d_17_30_116 (by decide) (fun c41 => ?_) (fun c41 => absurd (q_Ile (x := 0) (y := ((1080 - x1.toInt) + 1)) (by decide) (q_addI (x := (1080 - x1.toInt)) (y := 1) (q_subI (x := 1080) (y := x1.toInt) (by decide) rfl (by have t1 : 1 ≤ x1.toInt := q_nltI c15; have t2 : x1.toInt ≤ 800 := q_nltI c19; omega) (by have t1 : 1 ≤ x1.toInt := q_nltI c15; have t2 : x1.toInt ≤ 800 := q_nltI c19; omega)) (by decide) (by have t1 : 1 ≤ x1.toInt := q_nltI c15; have t2 : x1.toInt ≤ 800 := q_nltI c19; omega) (by have t1 : 1 ≤ x1.toInt := q_nltI c15; have t2 : x1.toInt ≤ 800 := q_nltI c19; omega)) (by have t1 : 1 ≤ x1.toInt := q_nltI c15; have t2 : x1.toInt ≤ 800 := q_nltI c19; omega)) c41)
          refine lv_iload hx hb d_17_30_123 (lv_at hl 0 rfl) ?_
          refine lv_iload hx hb d_17_30_125 (lv_at hl 4 rfl) ?_
          refine lv_isub hx hb d_17_30_127 ?_
          refine lv_iconst (v := 1) hx hb d_17_30_128 (by decide) ?_
          refine lv_iadd hx hb d_17_30_129 ?_
          refine lv_istore (lv' := [(7, .int ((1080 - x1) + 1)), (6, .int 1080), (0, .ref qO0), (1, .long 0), (3, .int 1), (4, .int x1), (5, .int x2)]) hx hb d_17_30_130 hl (by decide) rfl (fun ls hl => ?_)
          refine lv_aload_n hx hb d_17_30_132 rfl (lv_at hl 2 rfl) ?_
          refine lv_iload hx hb d_17_30_133 (lv_at hl 0 rfl) ?_
          refine lv_aload_n hx hb d_17_30_135 rfl (lv_at hl 2 rfl) ?_
          refine lv_iload hx hb d_17_30_136 (lv_at hl 0 rfl) ?_
          refine lv_iload hx hb d_17_30_138 (lv_at hl 6 rfl) ?_
          refine q_goi V (q_runV (As := [.int ((1080 - x1) + 1), .int x2]) (rest := [.int ((1080 - x1) + 1), .ref qO0]) (d := 1) (mc := 0) (ms := 0) (ci := 15) C0 V rfl LV_FR_165 (c_FR_isMore_6 l D g u37 kO0 kA3 qO0 qA1 qA2 qA3 qA4 qA5 qA6 qA7 ((1080 - x1) + 1) x2 hO0 hA3 (q_Ile (x := 0) (y := ((1080 - x1.toInt) + 1)) (by decide) (q_addI (x := (1080 - x1.toInt)) (y := 1) (q_subI (x := 1080) (y := x1.toInt) (by decide) rfl (by have t1 : 1 ≤ x1.toInt := q_nltI c15; have t2 : x1.toInt ≤ 800 := q_nltI c19; omega) (by have t1 : 1 ≤ x1.toInt := q_nltI c15; have t2 : x1.toInt ≤ 800 := q_nltI c19; omega)) (by decide) (by have t1 : 1 ≤ x1.toInt := q_nltI c15; have t2 : x1.toInt ≤ 800 := q_nltI c19; omega) (by have t1 : 1 ≤ x1.toInt := q_nltI c15; have t2 : x1.toInt ≤ 800 := q_nltI c19; omega)) (by have t1 : 1 ≤ x1.toInt := q_nltI c15; have t2 : x1.toInt ≤ 800 := q_nltI c19; omega)) (q_Ile (x := ((1080 - x1.toInt) + 1)) (y := 1080) (q_addI (x := (1080 - x1.toInt)) (y := 1) (q_subI (x := 1080) (y := x1.toInt) (by decide) rfl (by have t1 : 1 ≤ x1.toInt := q_nltI c15; have t2 : x1.toInt ≤ 800 := q_nltI c19; omega) (by have t1 : 1 ≤ x1.toInt := q_nltI c15; have t2 : x1.toInt ≤ 800 := q_nltI c19; omega)) (by decide) (by have t1 : 1 ≤ x1.toInt := q_nltI c15; have t2 : x1.toInt ≤ 800 := q_nltI c19; omega) (by have t1 : 1 ≤ x1.toInt := q_nltI c15; have t2 : x1.toInt ≤ 800 := q_nltI c19; omega)) (by decide) (by have t1 : 1 ≤ x1.toInt := q_nltI c15; have t2 : x1.toInt ≤ 800 := q_nltI c19; omega)) (q_Ile (x := 0) (y := x2.toInt) (by decide) rfl (by have t1 : 0 ≤ x2.toInt := q_nltI c23; have t2 : x2.toInt ≤ 3 := q_leI c27; omega)) c27 _) rfl rfl hO0 rfl hl.1 rfl (Nat.le_of_ble_eq_true rfl) ⟨by decide, by decide⟩ ⟨Nat.le_of_ble_eq_true rfl, Nat.le_of_ble_eq_true rfl⟩ d_17_30_140) (fun v44 u43 H locs hp42 V => ?_)
          obtain ⟨rfl, rfl⟩ := hp42
          replace hA6 := (hg39 _ (q_nc n_A6_A1 (q_nc n_A6_A2 (q_nc n_A6_A3 List.not_mem_nil)))).trans ((hu34 _ n_A6_O0).trans ((hg9 _ (q_nc n_A6_O0 List.not_mem_nil)).trans (hA6)))
          refine q_gov V (q_runV (As := [.int ((1080 - x1) + 1), .int 0]) (rest := []) (d := 1) (mc := 0) (ms := 0) (ci := 15) C0 V rfl LV_FR_81 (c_FR_cut_6 l D g u37 kO0 kA3 kA6 qO0 qA1 qA2 qA3 qA4 qA5 qA6 qA7 ((1080 - x1) + 1) hO0 hA3 hA6 n_A3_A6 (q_Ile (x := 0) (y := ((1080 - x1.toInt) + 1)) (by decide) (q_addI (x := (1080 - x1.toInt)) (y := 1) (q_subI (x := 1080) (y := x1.toInt) (by decide) rfl (by have t1 : 1 ≤ x1.toInt := q_nltI c15; have t2 : x1.toInt ≤ 800 := q_nltI c19; omega) (by have t1 : 1 ≤ x1.toInt := q_nltI c15; have t2 : x1.toInt ≤ 800 := q_nltI c19; omega)) (by decide) (by have t1 : 1 ≤ x1.toInt := q_nltI c15; have t2 : x1.toInt ≤ 800 := q_nltI c19; omega) (by have t1 : 1 ≤ x1.toInt := q_nltI c15; have t2 : x1.toInt ≤ 800 := q_nltI c19; omega)) (by have t1 : 1 ≤ x1.toInt := q_nltI c15; have t2 : x1.toInt ≤ 800 := q_nltI c19; omega)) (q_Ile (x := ((1080 - x1.toInt) + 1)) (y := 1080) (q_addI (x := (1080 - x1.toInt)) (y := 1) (q_subI (x := 1080) (y := x1.toInt) (by decide) rfl (by have t1 : 1 ≤ x1.toInt := q_nltI c15; have t2 : x1.toInt ≤ 800 := q_nltI c19; omega) (by have t1 : 1 ≤ x1.toInt := q_nltI c15; have t2 : x1.toInt ≤ 800 := q_nltI c19; omega)) (by decide) (by have t1 : 1 ≤ x1.toInt := q_nltI c15; have t2 : x1.toInt ≤ 800 := q_nltI c19; omega) (by have t1 : 1 ≤ x1.toInt := q_nltI c15; have t2 : x1.toInt ≤ 800 := q_nltI c19; omega)) (by decide) (by have t1 : 1 ≤ x1.toInt := q_nltI c15; have t2 : x1.toInt ≤ 800 := q_nltI c19; omega)) _) rfl rfl hO0 rfl hl.1 rfl (Nat.le_of_ble_eq_true rfl) ⟨by decide, by decide⟩ ⟨Nat.le_of_ble_eq_true rfl, Nat.le_of_ble_eq_true rfl⟩ d_17_30_143) (fun u47 H locs hp46 V => ?_)
          obtain ⟨hg48, hA6⟩ := hp46
          replace hF := q_uc hF hg48 (q_sc (List.mem_of_getElem? (i := 4) rfl) (fun _ h => absurd h List.not_mem_nil))
          refine lv_aload_n hx hb d_17_30_146 rfl (lv_at hl 2 rfl) ?_
          replace hO0 := (hg48 _ (q_nc n_O0_A6 List.not_mem_nil)).trans (hO0)
          refine q_get (ci := 15) (j := 6) (v := .ref qA6) C0 V i_FR rfl rfl hO0 (by decide) w_2081 rfl d_17_30_147 ?_
          refine lv_iload hx hb d_17_30_150 (lv_at hl 1 rfl) ?_
          refine lv_iconst (v := 1) hx hb d_17_30_152 (by decide) ?_
          refine lv_iadd hx hb d_17_30_153 ?_
          refine q_ti (v := 1081) (by decide) ?_
          refine q_iald C0 V hA6 (by unfold vp_in; decide) d_17_30_154 ?_
          refine q_ti (v := 0) (by first | rfl | decide | simp [upd, vp_updL, sb_cl0]) ?_
          refine lv_iconst (v := 1) hx hb d_17_30_155 (by decide) ?_
          refine lv_icmp_ne (tgt := 175) hx hb d_17_30_156 (by decide) (fun c49 => ?_) (fun c49 => absurd c49 (by decide))
          refine lv_iload hx hb d_17_30_175 (lv_at hl 1 rfl) ?_
          refine lv_istore (lv' := [(6, .int 1080), (7, .int ((1080 - x1) + 1)), (0, .ref qO0), (1, .long 0), (3, .int 1), (4, .int x1), (5, .int x2)]) hx hb d_17_30_177 hl (by decide) rfl (fun ls hl => ?_)
          refine lv_aload_n hx hb d_17_30_179 rfl (lv_at hl 2 rfl) ?_
          refine q_gov V (q_runV (As := []) (rest := []) (d := 1) (mc := 0) (ms := 0) (ci := 15) C0 V rfl LV_FR_113 (c_FR_begin_2 l D g u47 kO0 qO0 qA1 qA2 qA3 qA4 qA5 qA6 qA7 hO0 _) rfl rfl hO0 rfl hl.1 rfl (Nat.le_of_ble_eq_true rfl) ⟨by decide, by decide⟩ ⟨Nat.le_of_ble_eq_true rfl, Nat.le_of_ble_eq_true rfl⟩ d_17_30_180) (fun u51 H locs hp50 V => ?_)
          obtain ⟨hg52, hO0⟩ := hp50
          replace hF := q_uc hF hg52 (q_sc (.head _) (fun _ h => absurd h List.not_mem_nil))
          refine lv_iconst (v := 0) hx hb d_17_30_183 (by decide) ?_
          refine lv_istore (lv' := [(8, .int 0), (6, .int 1080), (7, .int ((1080 - x1) + 1)), (0, .ref qO0), (1, .long 0), (3, .int 1), (4, .int x1), (5, .int x2)]) hx hb d_17_30_184 hl (by decide) rfl (fun ls hl => ?_)
          refine lv_iload hx hb d_17_30_186 (lv_at hl 0 rfl) ?_
          refine lv_iload hx hb d_17_30_188 (lv_at hl 6 rfl) ?_
          refine lv_icmp_ge (tgt := 236) hx hb d_17_30_190 (by decide) (fun c53 => absurd c53 (Int32.not_le.mpr (q_Ilt (x := 0) (y := x1.toInt) (by decide) rfl (by have t1 : 1 ≤ x1.toInt := q_nltI c15; have t2 : x1.toInt ≤ 800 := q_nltI c19; omega)))) (fun c53 => ?_)
          refine lv_aload_n hx hb d_17_30_193 rfl (lv_at hl 3 rfl) ?_
          refine lv_bipush (v := 48) hx hb d_17_30_194 (by decide) ?_
          refine lv_aload_n hx hb d_17_30_196 rfl (lv_at hl 3 rfl) ?_
          refine lv_iload hx hb d_17_30_197 (lv_at hl 1 rfl) ?_
          refine lv_sipush (v := 1080) hx hb d_17_30_199 (by decide) ?_
          refine lv_isub hx hb d_17_30_202 ?_
          refine q_ti (v := 0) (by decide) ?_
          refine lv_iload hx hb d_17_30_203 (lv_at hl 0 rfl) ?_
          refine lv_isub hx hb d_17_30_205 ?_
          refine q_ti (v := 0) (by decide) ?_
          replace hA6 := (hg52 _ (q_nc n_A6_O0 List.not_mem_nil)).trans (hA6)
          refine q_goi V (q_runV (As := [.int 0]) (rest := [.int 48, .ref qO0]) (d := 1) (mc := 0) (ms := 0) (ci := 15) C0 V rfl LV_FR_169 (c_FR_figureAt_3 l D g u51 kO0 kA6 qO0 qA1 qA2 qA3 qA4 qA5 qA6 qA7 hO0 hA6 _) rfl rfl hO0 rfl hl.1 rfl (Nat.le_of_ble_eq_true rfl) ⟨by decide, by decide⟩ ⟨Nat.le_of_ble_eq_true rfl, Nat.le_of_ble_eq_true rfl⟩ d_17_30_206) (fun v56 u55 H locs hp54 V => ?_)
          obtain ⟨rfl, rfl⟩ := hp54
          refine lv_iadd hx hb d_17_30_209 ?_
          refine q_ti (v := 48) (by decide) ?_
          replace hA7 := (hg52 _ (q_nc n_A7_O0 List.not_mem_nil)).trans ((hg48 _ (q_nc n_A7_A6 List.not_mem_nil)).trans ((hg39 _ (q_nc n_A7_A1 (q_nc n_A7_A2 (q_nc n_A7_A3 List.not_mem_nil)))).trans ((hu34 _ n_A7_O0).trans ((hg9 _ (q_nc n_A7_O0 List.not_mem_nil)).trans (hA7)))))
          refine q_gov V (q_runV (As := [.int 48]) (rest := []) (d := 1) (mc := 0) (ms := 0) (ci := 15) C0 V rfl LV_FR_110 (c_FR_add_4 l D g u51 kO0 kA7 qO0 qA1 qA2 qA3 qA4 qA5 qA6 qA7 hO0 hA7 _) rfl rfl hO0 rfl hl.1 rfl (Nat.le_of_ble_eq_true rfl) ⟨by decide, by decide⟩ ⟨Nat.le_of_ble_eq_true rfl, Nat.le_of_ble_eq_true rfl⟩ d_17_30_210) (fun u59 H locs hp58 V => ?_)
          obtain ⟨hg60, hO0, hA7⟩ := hp58
          replace hF := q_uc hF hg60 (q_sc (.head _) (q_sc (List.mem_of_getElem? (i := 5) rfl) (fun _ h => absurd h List.not_mem_nil)))
          refine lv_iload hx hb d_17_30_213 (lv_at hl 0 rfl) ?_
          refine lv_if_ne (tgt := 230) hx hb d_17_30_215 (by decide) (fun c61 => absurd (by decide) c61) (fun c61 => ?_)
          refine lv_iload hx hb d_17_30_218 (lv_at hl 6 rfl) ?_
          refine lv_iconst (v := 1) hx hb d_17_30_220 (by decide) ?_
          refine lv_icmp_le (tgt := 230) hx hb d_17_30_221 (by decide) (fun c62 => ?_) (fun c62 => ?_)
          ·
            refine lv_iinc (v := 1) (lv' := [(8, .int 1), (6, .int 1080), (7, .int ((1080 - x1) + 1)), (0, .ref qO0), (1, .long 0), (3, .int 1), (4, .int x1), (5, .int x2)]) hx hb d_17_30_230 hl (k := 0) rfl (by decide) (by decide) rfl (fun ls hl => ?_)
            refine lv_goto (tgt := 186) hx hb d_17_30_233 (by decide) ?_
            refine lv_iload hx hb d_17_30_186 (lv_at hl 0 rfl) ?_
            refine lv_iload hx hb d_17_30_188 (lv_at hl 6 rfl) ?_
            refine q_ti (v := 1) (q_Ieq (x := x1.toInt) (y := 1) rfl (by decide) (by have t1 : 1 ≤ x1.toInt := q_nltI c15; have t2 : x1.toInt ≤ 800 := q_nltI c19; have t3 : x1.toInt ≤ 1 := q_leI c62; omega)) ?_
            refine lv_icmp_ge (tgt := 236) hx hb d_17_30_190 (by decide) (fun c63 => ?_) (fun c63 => absurd (by decide) c63)
            refine lv_iload hx hb d_17_30_236 (lv_at hl 1 rfl) ?_
            refine lv_sipush (v := 1080) hx hb d_17_30_238 (by decide) ?_
            refine lv_isub hx hb d_17_30_241 ?_
            refine q_ti (v := 0) (by decide) ?_
            refine lv_istore (lv' := [(8, .int 0), (6, .int 1080), (7, .int ((1080 - x1) + 1)), (0, .ref qO0), (1, .long 0), (3, .int 1), (4, .int x1), (5, .int x2)]) hx hb d_17_30_242 hl (by decide) rfl (fun ls hl => ?_)
            refine lv_aload_n hx hb d_17_30_244 rfl (lv_at hl 3 rfl) ?_
            refine lv_bipush (v := 101) hx hb d_17_30_245 (by decide) ?_
            refine q_gov V (q_runV (As := [.int 101]) (rest := []) (d := 1) (mc := 0) (ms := 0) (ci := 15) C0 V rfl LV_FR_110 (c_FR_add_26 l D g u59 kO0 kA7 qO0 qA1 qA2 qA3 qA4 qA5 qA6 qA7 hO0 hA7 _) rfl rfl hO0 rfl hl.1 rfl (Nat.le_of_ble_eq_true rfl) ⟨by decide, by decide⟩ ⟨Nat.le_of_ble_eq_true rfl, Nat.le_of_ble_eq_true rfl⟩ d_17_30_247) (fun u65 H locs hp64 V => ?_)
            obtain ⟨hg66, hO0, hA7⟩ := hp64
            replace hF := q_uc hF hg66 (q_sc (.head _) (q_sc (List.mem_of_getElem? (i := 5) rfl) (fun _ h => absurd h List.not_mem_nil)))
            refine lv_aload_n hx hb d_17_30_250 rfl (lv_at hl 3 rfl) ?_
            refine lv_iload hx hb d_17_30_251 (lv_at hl 0 rfl) ?_
            refine lv_if_ge (tgt := 261) hx hb d_17_30_253 (by decide) (fun c67 => ?_) (fun c67 => absurd (by decide) c67)
            refine lv_bipush (v := 43) hx hb d_17_30_261 (by decide) ?_
            refine q_gov V (q_runV (As := [.int 43]) (rest := []) (d := 1) (mc := 0) (ms := 0) (ci := 15) C0 V rfl LV_FR_110 (c_FR_add_27 l D g u65 kO0 kA7 qO0 qA1 qA2 qA3 qA4 qA5 qA6 qA7 hO0 hA7 _) rfl rfl hO0 rfl hl.1 rfl (Nat.le_of_ble_eq_true rfl) ⟨by decide, by decide⟩ ⟨Nat.le_of_ble_eq_true rfl, Nat.le_of_ble_eq_true rfl⟩ d_17_30_263) (fun u69 H locs hp68 V => ?_)
            obtain ⟨hg70, hO0, hA7⟩ := hp68
            replace hF := q_uc hF hg70 (q_sc (.head _) (q_sc (List.mem_of_getElem? (i := 5) rfl) (fun _ h => absurd h List.not_mem_nil)))
            refine lv_iload hx hb d_17_30_266 (lv_at hl 0 rfl) ?_
            refine lv_if_ge (tgt := 277) hx hb d_17_30_268 (by decide) (fun c71 => ?_) (fun c71 => absurd (by decide) c71)
            refine lv_iload hx hb d_17_30_277 (lv_at hl 0 rfl) ?_
            refine lv_istore (lv' := [(8, .int 0), (6, .int 1080), (7, .int ((1080 - x1) + 1)), (0, .ref qO0), (1, .long 0), (3, .int 1), (4, .int x1), (5, .int x2)]) hx hb d_17_30_279 hl (by decide) rfl (fun ls hl => ?_)
            refine lv_iload hx hb d_17_30_281 (lv_at hl 0 rfl) ?_
            refine lv_bipush (v := 10) hx hb d_17_30_283 (by decide) ?_
            refine lv_icmp_ge (tgt := 294) hx hb d_17_30_285 (by decide) (fun c72 => absurd c72 (by decide)) (fun c72 => ?_)
            refine lv_aload_n hx hb d_17_30_288 rfl (lv_at hl 3 rfl) ?_
            refine lv_bipush (v := 48) hx hb d_17_30_289 (by decide) ?_
            refine q_gov V (q_runV (As := [.int 48]) (rest := []) (d := 1) (mc := 0) (ms := 0) (ci := 15) C0 V rfl LV_FR_110 (c_FR_add_6 l D g u69 kO0 kA7 qO0 qA1 qA2 qA3 qA4 qA5 qA6 qA7 3 (upd (upd (upd (fun _ => 0) 0 48) 1 101) 2 43) hO0 hA7 (q_Ile (x := 2) (y := 3) (by decide) (by decide) (by omega)) (q_Ile (x := 3) (y := 1076) (by decide) (by decide) (by omega)) _) rfl rfl hO0 rfl hl.1 rfl (Nat.le_of_ble_eq_true rfl) ⟨by decide, by decide⟩ ⟨Nat.le_of_ble_eq_true rfl, Nat.le_of_ble_eq_true rfl⟩ d_17_30_291) (fun u74 H locs hp73 V => ?_)
            obtain ⟨hg75, hO0, hA7⟩ := hp73
            replace hF := q_uc hF hg75 (q_sc (.head _) (q_sc (List.mem_of_getElem? (i := 5) rfl) (fun _ h => absurd h List.not_mem_nil)))
            refine lv_aload_n hx hb d_17_30_294 rfl (lv_at hl 3 rfl) ?_
            refine lv_iload hx hb d_17_30_295 (lv_at hl 0 rfl) ?_
            refine q_gov V (q_runV (As := [.int 0]) (rest := []) (d := 2) (mc := 0) (ms := 0) (ci := 15) C0 V rfl LV_FR_149 (c_FR_number_6 l D g u74 kO0 kA7 qO0 qA1 qA2 qA3 qA4 qA5 qA6 qA7 (3 + 1) (upd (upd (upd (upd (fun _ => 0) 0 48) 1 101) 2 43) (3 : Int32).toNatClampNeg 48) hO0 hA7 (q_Ile (x := 4) (y := (3 + 1)) (by decide) (q_addI (x := 3) (y := 1) (by decide) (by decide) (by omega) (by omega)) (by omega)) (q_Ile (x := (3 + 1)) (y := 4) (q_addI (x := 3) (y := 1) (by decide) (by decide) (by omega) (by omega)) (by decide) (by omega)) _) rfl rfl hO0 rfl hl.1 rfl (Nat.le_of_ble_eq_true rfl) ⟨by decide, by decide⟩ ⟨Nat.le_of_ble_eq_true rfl, Nat.le_of_ble_eq_true rfl⟩ d_17_30_297) (fun u77 H locs hp76 V => ?_)
            obtain ⟨hg78, hO0, hA7⟩ := hp76
            replace hF := q_uc hF hg78 (q_sc (.head _) (q_sc (List.mem_of_getElem? (i := 5) rfl) (fun _ h => absurd h List.not_mem_nil)))
            refine lv_aload_n hx hb d_17_30_300 rfl (lv_at hl 3 rfl) ?_
            refine q_get (ci := 15) (j := 8) (v := .int ((3 + 1) + 1)) C0 V i_FR rfl rfl hO0 (by decide) w_2084 rfl d_17_30_301 ?_
            replace hA1 := (hg78 _ (q_nc n_A1_O0 (q_nc n_A1_A7 List.not_mem_nil))).trans ((hg75 _ (q_nc n_A1_O0 (q_nc n_A1_A7 List.not_mem_nil))).trans ((hg70 _ (q_nc n_A1_O0 (q_nc n_A1_A7 List.not_mem_nil))).trans ((hg66 _ (q_nc n_A1_O0 (q_nc n_A1_A7 List.not_mem_nil))).trans ((hg60 _ (q_nc n_A1_O0 (q_nc n_A1_A7 List.not_mem_nil))).trans ((hg52 _ (q_nc n_A1_O0 List.not_mem_nil)).trans ((hg48 _ (q_nc n_A1_A6 List.not_mem_nil)).trans (hA1)))))))
            replace hA2 := (hg78 _ (q_nc n_A2_O0 (q_nc n_A2_A7 List.not_mem_nil))).trans ((hg75 _ (q_nc n_A2_O0 (q_nc n_A2_A7 List.not_mem_nil))).trans ((hg70 _ (q_nc n_A2_O0 (q_nc n_A2_A7 List.not_mem_nil))).trans ((hg66 _ (q_nc n_A2_O0 (q_nc n_A2_A7 List.not_mem_nil))).trans ((hg60 _ (q_nc n_A2_O0 (q_nc n_A2_A7 List.not_mem_nil))).trans ((hg52 _ (q_nc n_A2_O0 List.not_mem_nil)).trans ((hg48 _ (q_nc n_A2_A6 List.not_mem_nil)).trans (hA2)))))))
            replace hA3 := (hg78 _ (q_nc n_A3_O0 (q_nc n_A3_A7 List.not_mem_nil))).trans ((hg75 _ (q_nc n_A3_O0 (q_nc n_A3_A7 List.not_mem_nil))).trans ((hg70 _ (q_nc n_A3_O0 (q_nc n_A3_A7 List.not_mem_nil))).trans ((hg66 _ (q_nc n_A3_O0 (q_nc n_A3_A7 List.not_mem_nil))).trans ((hg60 _ (q_nc n_A3_O0 (q_nc n_A3_A7 List.not_mem_nil))).trans ((hg52 _ (q_nc n_A3_O0 List.not_mem_nil)).trans ((hg48 _ (q_nc n_A3_A6 List.not_mem_nil)).trans (hA3)))))))
            replace hA6 := (hg78 _ (q_nc n_A6_O0 (q_nc n_A6_A7 List.not_mem_nil))).trans ((hg75 _ (q_nc n_A6_O0 (q_nc n_A6_A7 List.not_mem_nil))).trans ((hg70 _ (q_nc n_A6_O0 (q_nc n_A6_A7 List.not_mem_nil))).trans ((hg66 _ (q_nc n_A6_O0 (q_nc n_A6_A7 List.not_mem_nil))).trans ((hg60 _ (q_nc n_A6_O0 (q_nc n_A6_A7 List.not_mem_nil))).trans (hA6)))))
            exact q_reti C0 V (Or.inr (Or.inr (Or.inr (Or.inl ⟨y38, c15, c19, c23, c27, c62, rfl, hF, hO0, hA1, hA2, hA3, hA6, hA7⟩)))) d_17_30_304
          ·
            refine lv_aload_n hx hb d_17_30_224 rfl (lv_at hl 3 rfl) ?_
            refine lv_bipush (v := 46) hx hb d_17_30_225 (by decide) ?_
            refine q_gov V (q_runV (As := [.int 46]) (rest := []) (d := 1) (mc := 0) (ms := 0) (ci := 15) C0 V rfl LV_FR_110 (c_FR_add_5 l D g u59 kO0 kA7 qO0 qA1 qA2 qA3 qA4 qA5 qA6 qA7 hO0 hA7 _) rfl rfl hO0 rfl hl.1 rfl (Nat.le_of_ble_eq_true rfl) ⟨by decide, by decide⟩ ⟨Nat.le_of_ble_eq_true rfl, Nat.le_of_ble_eq_true rfl⟩ d_17_30_227) (fun u80 H locs hp79 V => ?_)
            obtain ⟨hg81, hO0, hA7⟩ := hp79
            replace hF := q_uc hF hg81 (q_sc (.head _) (q_sc (List.mem_of_getElem? (i := 5) rfl) (fun _ h => absurd h List.not_mem_nil)))
            refine lv_iinc (v := 1) (lv' := [(8, .int 1), (6, .int 1080), (7, .int ((1080 - x1) + 1)), (0, .ref qO0), (1, .long 0), (3, .int 1), (4, .int x1), (5, .int x2)]) hx hb d_17_30_230 hl (k := 0) rfl (by decide) (by decide) rfl (fun ls hl => ?_)
            refine lv_goto (tgt := 186) hx hb d_17_30_233 (by decide) ?_
            replace hA1 := (hg81 _ (q_nc n_A1_O0 (q_nc n_A1_A7 List.not_mem_nil))).trans ((hg60 _ (q_nc n_A1_O0 (q_nc n_A1_A7 List.not_mem_nil))).trans ((hg52 _ (q_nc n_A1_O0 List.not_mem_nil)).trans ((hg48 _ (q_nc n_A1_A6 List.not_mem_nil)).trans (hA1))))
            replace hA2 := (hg81 _ (q_nc n_A2_O0 (q_nc n_A2_A7 List.not_mem_nil))).trans ((hg60 _ (q_nc n_A2_O0 (q_nc n_A2_A7 List.not_mem_nil))).trans ((hg52 _ (q_nc n_A2_O0 List.not_mem_nil)).trans ((hg48 _ (q_nc n_A2_A6 List.not_mem_nil)).trans (hA2))))
            replace hA3 := (hg81 _ (q_nc n_A3_O0 (q_nc n_A3_A7 List.not_mem_nil))).trans ((hg60 _ (q_nc n_A3_O0 (q_nc n_A3_A7 List.not_mem_nil))).trans ((hg52 _ (q_nc n_A3_O0 List.not_mem_nil)).trans ((hg48 _ (q_nc n_A3_A6 List.not_mem_nil)).trans (hA3))))
            replace hA6 := (hg81 _ (q_nc n_A6_O0 (q_nc n_A6_A7 List.not_mem_nil))).trans ((hg60 _ (q_nc n_A6_O0 (q_nc n_A6_A7 List.not_mem_nil))).trans (hA6))
            refine q_loop (X := Int32 × Int32 × (Nat → Int32)) (fun z H locs ls w85 => (1 ≤ z.1.toInt ∧ (z.1.toInt ≤ x1.toInt ∨ z.1.toInt = 1)) ∧ (z.2.1.toInt = 2 + 1 * (z.1.toInt - 1)) ∧ q_Wd D g (va_A ws sz) s w85 H locs ∧ lv_has ls 9 [(8, .int z.1), (6, .int 1080), (7, .int ((1080 - x1) + 1)), (0, .ref qO0), (1, .long 0), (3, .int 1), (4, .int x1), (5, .int x2)] ∧ q_un ws w85 [kO0, kA1, kA2, kA3, kA6, kA7] ∧ w85[kO0]? = (some (qO0, .inr (15, [.int 0, .ref qA1, .ref qA2, .ref qA3, .ref qA4, .ref qA5, .ref qA6, .ref qA7, .int z.2.1, .int 0, .int 0, .long 0, .int 23, .int 255, .long 0, .int (-149), .long 0, .int 0])) : Option (Nat × va_E)) ∧ w85[kA1]? = (some (qA1, .inl (g 0, 156, .inl y38)) : Option (Nat × va_E)) ∧ w85[kA2]? = (some (qA2, .inl (g 0, 156, .inl (fun _ => 0))) : Option (Nat × va_E)) ∧ w85[kA3]? = (some (qA3, .inl (g 0, 1404, .inl (fun _ => 0))) : Option (Nat × va_E)) ∧ w85[kA6]? = (some (qA6, .inl (g 0, 1404, .inl (fun _ => 0))) : Option (Nat × va_E)) ∧ w85[kA7]? = (some (qA7, .inl (g 0, 1600, .inl z.2.2)) : Option (Nat × va_E))) (fun z => (x1.toInt - z.1.toInt).toNat) ?_ ((1 : Int32), (2 : Int32), (upd (upd (fun _ => 0) 0 48) 1 46 : (Nat → Int32))) _ _ _ u80 ⟨⟨(by dsimp only; decide), Or.inr (by dsimp only; decide)⟩, (show (2 : Int32).toInt = 2 + 1 * ((1 : Int32).toInt - 1) from by have t1 : 1 ≤ x1.toInt := q_nltI c15; have t2 : x1.toInt ≤ 800 := q_nltI c19; have t3 : 0 ≤ x2.toInt := q_nltI c23; have t4 : x2.toInt ≤ 3 := q_leI c27; have t5 : 1 < x1.toInt := q_nleI c62; have e1 : (2 : Int32).toInt = 2 := (by decide); have e2 : ((1 : Int32)).toInt = 1 := (by decide); omega), V, hl, hF, hO0, hA1, hA2, hA3, hA6, hA7⟩
            rintro ⟨lx82, lx83, lx84⟩ H locs ls w85 ⟨i86, i87, V, hl, hF, hO0, hA1, hA2, hA3, hA6, hA7⟩ ih88
            replace i86 : 1 ≤ lx82.toInt ∧ (lx82.toInt ≤ x1.toInt ∨ lx82.toInt = 1) := i86
            replace i87 : lx83.toInt = 2 + 1 * (lx82.toInt - 1) := i87
            replace hl : lv_has ls 9 [(8, .int lx82), (6, .int 1080), (7, .int ((1080 - x1) + 1)), (0, .ref qO0), (1, .long 0), (3, .int 1), (4, .int x1), (5, .int x2)] := hl
            replace hO0 : w85[kO0]? = (some (qO0, .inr (15, [.int 0, .ref qA1, .ref qA2, .ref qA3, .ref qA4, .ref qA5, .ref qA6, .ref qA7, .int lx83, .int 0, .int 0, .long 0, .int 23, .int 255, .long 0, .int (-149), .long 0, .int 0])) : Option (Nat × va_E)) := hO0
            replace hA1 : w85[kA1]? = (some (qA1, .inl (g 0, 156, .inl y38)) : Option (Nat × va_E)) := hA1
            replace hA2 : w85[kA2]? = (some (qA2, .inl (g 0, 156, .inl (fun _ => 0))) : Option (Nat × va_E)) := hA2
            replace hA3 : w85[kA3]? = (some (qA3, .inl (g 0, 1404, .inl (fun _ => 0))) : Option (Nat × va_E)) := hA3
            replace hA6 : w85[kA6]? = (some (qA6, .inl (g 0, 1404, .inl (fun _ => 0))) : Option (Nat × va_E)) := hA6
            replace hA7 : w85[kA7]? = (some (qA7, .inl (g 0, 1600, .inl lx84)) : Option (Nat × va_E)) := hA7
            refine lv_iload hx hb d_17_30_186 (lv_at hl 0 rfl) ?_
            refine lv_iload hx hb d_17_30_188 (lv_at hl 6 rfl) ?_
            refine lv_icmp_ge (tgt := 236) hx hb d_17_30_190 (by decide) (fun c89 => ?_) (fun c89 => ?_)
            ·
              refine lv_iload hx hb d_17_30_236 (lv_at hl 1 rfl) ?_
              refine lv_sipush (v := 1080) hx hb d_17_30_238 (by decide) ?_
              refine lv_isub hx hb d_17_30_241 ?_
              refine q_ti (v := 0) (by decide) ?_
              refine lv_istore (lv' := [(8, .int 0), (6, .int 1080), (7, .int ((1080 - x1) + 1)), (0, .ref qO0), (1, .long 0), (3, .int 1), (4, .int x1), (5, .int x2)]) hx hb d_17_30_242 hl (by decide) rfl (fun ls hl => ?_)
              refine lv_aload_n hx hb d_17_30_244 rfl (lv_at hl 3 rfl) ?_
              refine lv_bipush (v := 101) hx hb d_17_30_245 (by decide) ?_
              refine q_gov V (q_runV (As := [.int 101]) (rest := []) (d := 1) (mc := 0) (ms := 0) (ci := 15) C0 V rfl LV_FR_110 (c_FR_add_32 l D g w85 kO0 kA7 qO0 qA1 qA2 qA3 qA4 qA5 qA6 qA7 lx83 lx84 hO0 hA7 (q_Ile (x := 2) (y := lx83.toInt) (by decide) rfl (by have t1 : 1 ≤ x1.toInt := q_nltI c15; have t2 : x1.toInt ≤ 800 := q_nltI c19; have t3 : 1 < x1.toInt := q_nleI c62; have t4 : x1.toInt ≤ lx82.toInt := q_leI c89; omega)) (q_Ile (x := lx83.toInt) (y := 801) rfl (by decide) (by have t1 : 1 ≤ x1.toInt := q_nltI c15; have t2 : x1.toInt ≤ 800 := q_nltI c19; have t3 : 1 < x1.toInt := q_nleI c62; have t4 : x1.toInt ≤ lx82.toInt := q_leI c89; omega)) _) rfl rfl hO0 rfl hl.1 rfl (Nat.le_of_ble_eq_true rfl) ⟨by decide, by decide⟩ ⟨Nat.le_of_ble_eq_true rfl, Nat.le_of_ble_eq_true rfl⟩ d_17_30_247) (fun u91 H locs hp90 V => ?_)
              obtain ⟨hg92, hO0, hA7⟩ := hp90
              replace hF := q_uc hF hg92 (q_sc (.head _) (q_sc (List.mem_of_getElem? (i := 5) rfl) (fun _ h => absurd h List.not_mem_nil)))
              refine lv_aload_n hx hb d_17_30_250 rfl (lv_at hl 3 rfl) ?_
              refine lv_iload hx hb d_17_30_251 (lv_at hl 0 rfl) ?_
              refine lv_if_ge (tgt := 261) hx hb d_17_30_253 (by decide) (fun c93 => ?_) (fun c93 => absurd (by decide) c93)
              refine lv_bipush (v := 43) hx hb d_17_30_261 (by decide) ?_
              refine q_gov V (q_runV (As := [.int 43]) (rest := []) (d := 1) (mc := 0) (ms := 0) (ci := 15) C0 V rfl LV_FR_110 (c_FR_add_31 l D g u91 kO0 kA7 qO0 qA1 qA2 qA3 qA4 qA5 qA6 qA7 (lx83 + 1) (upd lx84 lx83.toNatClampNeg 101) hO0 hA7 (q_Ile (x := 3) (y := (lx83.toInt + 1)) (by decide) (q_addI (x := lx83.toInt) (y := 1) rfl (by decide) (by have t1 : 1 ≤ x1.toInt := q_nltI c15; have t2 : x1.toInt ≤ 800 := q_nltI c19; have t3 : 1 < x1.toInt := q_nleI c62; have t4 : x1.toInt ≤ lx82.toInt := q_leI c89; omega) (by have t1 : 1 ≤ x1.toInt := q_nltI c15; have t2 : x1.toInt ≤ 800 := q_nltI c19; have t3 : 1 < x1.toInt := q_nleI c62; have t4 : x1.toInt ≤ lx82.toInt := q_leI c89; omega)) (by have t1 : 1 ≤ x1.toInt := q_nltI c15; have t2 : x1.toInt ≤ 800 := q_nltI c19; have t3 : 1 < x1.toInt := q_nleI c62; have t4 : x1.toInt ≤ lx82.toInt := q_leI c89; omega)) (q_Ile (x := (lx83.toInt + 1)) (y := 802) (q_addI (x := lx83.toInt) (y := 1) rfl (by decide) (by have t1 : 1 ≤ x1.toInt := q_nltI c15; have t2 : x1.toInt ≤ 800 := q_nltI c19; have t3 : 1 < x1.toInt := q_nleI c62; have t4 : x1.toInt ≤ lx82.toInt := q_leI c89; omega) (by have t1 : 1 ≤ x1.toInt := q_nltI c15; have t2 : x1.toInt ≤ 800 := q_nltI c19; have t3 : 1 < x1.toInt := q_nleI c62; have t4 : x1.toInt ≤ lx82.toInt := q_leI c89; omega)) (by decide) (by have t1 : 1 ≤ x1.toInt := q_nltI c15; have t2 : x1.toInt ≤ 800 := q_nltI c19; have t3 : 1 < x1.toInt := q_nleI c62; have t4 : x1.toInt ≤ lx82.toInt := q_leI c89; omega)) _) rfl rfl hO0 rfl hl.1 rfl (Nat.le_of_ble_eq_true rfl) ⟨by decide, by decide⟩ ⟨Nat.le_of_ble_eq_true rfl, Nat.le_of_ble_eq_true rfl⟩ d_17_30_263) (fun u95 H locs hp94 V => ?_)
              obtain ⟨hg96, hO0, hA7⟩ := hp94
              replace hF := q_uc hF hg96 (q_sc (.head _) (q_sc (List.mem_of_getElem? (i := 5) rfl) (fun _ h => absurd h List.not_mem_nil)))
              refine lv_iload hx hb d_17_30_266 (lv_at hl 0 rfl) ?_
              refine lv_if_ge (tgt := 277) hx hb d_17_30_268 (by decide) (fun c97 => ?_) (fun c97 => absurd (by decide) c97)
              refine lv_iload hx hb d_17_30_277 (lv_at hl 0 rfl) ?_
              refine lv_istore (lv' := [(8, .int 0), (6, .int 1080), (7, .int ((1080 - x1) + 1)), (0, .ref qO0), (1, .long 0), (3, .int 1), (4, .int x1), (5, .int x2)]) hx hb d_17_30_279 hl (by decide) rfl (fun ls hl => ?_)
              refine lv_iload hx hb d_17_30_281 (lv_at hl 0 rfl) ?_
              refine lv_bipush (v := 10) hx hb d_17_30_283 (by decide) ?_
              refine lv_icmp_ge (tgt := 294) hx hb d_17_30_285 (by decide) (fun c98 => absurd c98 (by decide)) (fun c98 => ?_)
              refine lv_aload_n hx hb d_17_30_288 rfl (lv_at hl 3 rfl) ?_
              refine lv_bipush (v := 48) hx hb d_17_30_289 (by decide) ?_
              refine q_gov V (q_runV (As := [.int 48]) (rest := []) (d := 1) (mc := 0) (ms := 0) (ci := 15) C0 V rfl LV_FR_110 (c_FR_add_6 l D g u95 kO0 kA7 qO0 qA1 qA2 qA3 qA4 qA5 qA6 qA7 ((lx83 + 1) + 1) (upd (upd lx84 lx83.toNatClampNeg 101) (lx83 + 1).toNatClampNeg 43) hO0 hA7 (q_Ile (x := 2) (y := ((lx83.toInt + 1) + 1)) (by decide) (q_addI (x := (lx83.toInt + 1)) (y := 1) (q_addI (x := lx83.toInt) (y := 1) rfl (by decide) (by have t1 : 1 ≤ x1.toInt := q_nltI c15; have t2 : x1.toInt ≤ 800 := q_nltI c19; have t3 : 1 < x1.toInt := q_nleI c62; have t4 : x1.toInt ≤ lx82.toInt := q_leI c89; omega) (by have t1 : 1 ≤ x1.toInt := q_nltI c15; have t2 : x1.toInt ≤ 800 := q_nltI c19; have t3 : 1 < x1.toInt := q_nleI c62; have t4 : x1.toInt ≤ lx82.toInt := q_leI c89; omega)) (by decide) (by have t1 : 1 ≤ x1.toInt := q_nltI c15; have t2 : x1.toInt ≤ 800 := q_nltI c19; have t3 : 1 < x1.toInt := q_nleI c62; have t4 : x1.toInt ≤ lx82.toInt := q_leI c89; omega) (by have t1 : 1 ≤ x1.toInt := q_nltI c15; have t2 : x1.toInt ≤ 800 := q_nltI c19; have t3 : 1 < x1.toInt := q_nleI c62; have t4 : x1.toInt ≤ lx82.toInt := q_leI c89; omega)) (by have t1 : 1 ≤ x1.toInt := q_nltI c15; have t2 : x1.toInt ≤ 800 := q_nltI c19; have t3 : 1 < x1.toInt := q_nleI c62; have t4 : x1.toInt ≤ lx82.toInt := q_leI c89; omega)) (q_Ile (x := ((lx83.toInt + 1) + 1)) (y := 1076) (q_addI (x := (lx83.toInt + 1)) (y := 1) (q_addI (x := lx83.toInt) (y := 1) rfl (by decide) (by have t1 : 1 ≤ x1.toInt := q_nltI c15; have t2 : x1.toInt ≤ 800 := q_nltI c19; have t3 : 1 < x1.toInt := q_nleI c62; have t4 : x1.toInt ≤ lx82.toInt := q_leI c89; omega) (by have t1 : 1 ≤ x1.toInt := q_nltI c15; have t2 : x1.toInt ≤ 800 := q_nltI c19; have t3 : 1 < x1.toInt := q_nleI c62; have t4 : x1.toInt ≤ lx82.toInt := q_leI c89; omega)) (by decide) (by have t1 : 1 ≤ x1.toInt := q_nltI c15; have t2 : x1.toInt ≤ 800 := q_nltI c19; have t3 : 1 < x1.toInt := q_nleI c62; have t4 : x1.toInt ≤ lx82.toInt := q_leI c89; omega) (by have t1 : 1 ≤ x1.toInt := q_nltI c15; have t2 : x1.toInt ≤ 800 := q_nltI c19; have t3 : 1 < x1.toInt := q_nleI c62; have t4 : x1.toInt ≤ lx82.toInt := q_leI c89; omega)) (by decide) (by have t1 : 1 ≤ x1.toInt := q_nltI c15; have t2 : x1.toInt ≤ 800 := q_nltI c19; have t3 : 1 < x1.toInt := q_nleI c62; have t4 : x1.toInt ≤ lx82.toInt := q_leI c89; omega)) _) rfl rfl hO0 rfl hl.1 rfl (Nat.le_of_ble_eq_true rfl) ⟨by decide, by decide⟩ ⟨Nat.le_of_ble_eq_true rfl, Nat.le_of_ble_eq_true rfl⟩ d_17_30_291) (fun u100 H locs hp99 V => ?_)
              obtain ⟨hg101, hO0, hA7⟩ := hp99
              replace hF := q_uc hF hg101 (q_sc (.head _) (q_sc (List.mem_of_getElem? (i := 5) rfl) (fun _ h => absurd h List.not_mem_nil)))
              refine lv_aload_n hx hb d_17_30_294 rfl (lv_at hl 3 rfl) ?_
              refine lv_iload hx hb d_17_30_295 (lv_at hl 0 rfl) ?_
              refine q_gov V (q_runV (As := [.int 0]) (rest := []) (d := 2) (mc := 0) (ms := 0) (ci := 15) C0 V rfl LV_FR_149 (c_FR_number_8 l D g u100 kO0 kA7 qO0 qA1 qA2 qA3 qA4 qA5 qA6 qA7 (((lx83 + 1) + 1) + 1) (upd (upd (upd lx84 lx83.toNatClampNeg 101) (lx83 + 1).toNatClampNeg 43) ((lx83 + 1) + 1).toNatClampNeg 48) hO0 hA7 (q_Ile (x := 5) (y := (((lx83.toInt + 1) + 1) + 1)) (by decide) (q_addI (x := ((lx83.toInt + 1) + 1)) (y := 1) (q_addI (x := (lx83.toInt + 1)) (y := 1) (q_addI (x := lx83.toInt) (y := 1) rfl (by decide) (by have t1 : 1 ≤ x1.toInt := q_nltI c15; have t2 : x1.toInt ≤ 800 := q_nltI c19; have t3 : 1 < x1.toInt := q_nleI c62; have t4 : x1.toInt ≤ lx82.toInt := q_leI c89; omega) (by have t1 : 1 ≤ x1.toInt := q_nltI c15; have t2 : x1.toInt ≤ 800 := q_nltI c19; have t3 : 1 < x1.toInt := q_nleI c62; have t4 : x1.toInt ≤ lx82.toInt := q_leI c89; omega)) (by decide) (by have t1 : 1 ≤ x1.toInt := q_nltI c15; have t2 : x1.toInt ≤ 800 := q_nltI c19; have t3 : 1 < x1.toInt := q_nleI c62; have t4 : x1.toInt ≤ lx82.toInt := q_leI c89; omega) (by have t1 : 1 ≤ x1.toInt := q_nltI c15; have t2 : x1.toInt ≤ 800 := q_nltI c19; have t3 : 1 < x1.toInt := q_nleI c62; have t4 : x1.toInt ≤ lx82.toInt := q_leI c89; omega)) (by decide) (by have t1 : 1 ≤ x1.toInt := q_nltI c15; have t2 : x1.toInt ≤ 800 := q_nltI c19; have t3 : 1 < x1.toInt := q_nleI c62; have t4 : x1.toInt ≤ lx82.toInt := q_leI c89; omega) (by have t1 : 1 ≤ x1.toInt := q_nltI c15; have t2 : x1.toInt ≤ 800 := q_nltI c19; have t3 : 1 < x1.toInt := q_nleI c62; have t4 : x1.toInt ≤ lx82.toInt := q_leI c89; omega)) (by have t1 : 1 ≤ x1.toInt := q_nltI c15; have t2 : x1.toInt ≤ 800 := q_nltI c19; have t3 : 1 < x1.toInt := q_nleI c62; have t4 : x1.toInt ≤ lx82.toInt := q_leI c89; omega)) (q_Ile (x := (((lx83.toInt + 1) + 1) + 1)) (y := 804) (q_addI (x := ((lx83.toInt + 1) + 1)) (y := 1) (q_addI (x := (lx83.toInt + 1)) (y := 1) (q_addI (x := lx83.toInt) (y := 1) rfl (by decide) (by have t1 : 1 ≤ x1.toInt := q_nltI c15; have t2 : x1.toInt ≤ 800 := q_nltI c19; have t3 : 1 < x1.toInt := q_nleI c62; have t4 : x1.toInt ≤ lx82.toInt := q_leI c89; omega) (by have t1 : 1 ≤ x1.toInt := q_nltI c15; have t2 : x1.toInt ≤ 800 := q_nltI c19; have t3 : 1 < x1.toInt := q_nleI c62; have t4 : x1.toInt ≤ lx82.toInt := q_leI c89; omega)) (by decide) (by have t1 : 1 ≤ x1.toInt := q_nltI c15; have t2 : x1.toInt ≤ 800 := q_nltI c19; have t3 : 1 < x1.toInt := q_nleI c62; have t4 : x1.toInt ≤ lx82.toInt := q_leI c89; omega) (by have t1 : 1 ≤ x1.toInt := q_nltI c15; have t2 : x1.toInt ≤ 800 := q_nltI c19; have t3 : 1 < x1.toInt := q_nleI c62; have t4 : x1.toInt ≤ lx82.toInt := q_leI c89; omega)) (by decide) (by have t1 : 1 ≤ x1.toInt := q_nltI c15; have t2 : x1.toInt ≤ 800 := q_nltI c19; have t3 : 1 < x1.toInt := q_nleI c62; have t4 : x1.toInt ≤ lx82.toInt := q_leI c89; omega) (by have t1 : 1 ≤ x1.toInt := q_nltI c15; have t2 : x1.toInt ≤ 800 := q_nltI c19; have t3 : 1 < x1.toInt := q_nleI c62; have t4 : x1.toInt ≤ lx82.toInt := q_leI c89; omega)) (by decide) (by have t1 : 1 ≤ x1.toInt := q_nltI c15; have t2 : x1.toInt ≤ 800 := q_nltI c19; have t3 : 1 < x1.toInt := q_nleI c62; have t4 : x1.toInt ≤ lx82.toInt := q_leI c89; omega)) _) rfl rfl hO0 rfl hl.1 rfl (Nat.le_of_ble_eq_true rfl) ⟨by decide, by decide⟩ ⟨Nat.le_of_ble_eq_true rfl, Nat.le_of_ble_eq_true rfl⟩ d_17_30_297) (fun u103 H locs hp102 V => ?_)
              obtain ⟨hg104, hO0, hA7⟩ := hp102
              replace hF := q_uc hF hg104 (q_sc (.head _) (q_sc (List.mem_of_getElem? (i := 5) rfl) (fun _ h => absurd h List.not_mem_nil)))
              refine lv_aload_n hx hb d_17_30_300 rfl (lv_at hl 3 rfl) ?_
              refine q_get (ci := 15) (j := 8) (v := .int ((((lx83 + 1) + 1) + 1) + 1)) C0 V i_FR rfl rfl hO0 (by decide) w_2084 rfl d_17_30_301 ?_
              replace hA1 := (hg104 _ (q_nc n_A1_O0 (q_nc n_A1_A7 List.not_mem_nil))).trans ((hg101 _ (q_nc n_A1_O0 (q_nc n_A1_A7 List.not_mem_nil))).trans ((hg96 _ (q_nc n_A1_O0 (q_nc n_A1_A7 List.not_mem_nil))).trans ((hg92 _ (q_nc n_A1_O0 (q_nc n_A1_A7 List.not_mem_nil))).trans (hA1))))
              replace hA2 := (hg104 _ (q_nc n_A2_O0 (q_nc n_A2_A7 List.not_mem_nil))).trans ((hg101 _ (q_nc n_A2_O0 (q_nc n_A2_A7 List.not_mem_nil))).trans ((hg96 _ (q_nc n_A2_O0 (q_nc n_A2_A7 List.not_mem_nil))).trans ((hg92 _ (q_nc n_A2_O0 (q_nc n_A2_A7 List.not_mem_nil))).trans (hA2))))
              replace hA3 := (hg104 _ (q_nc n_A3_O0 (q_nc n_A3_A7 List.not_mem_nil))).trans ((hg101 _ (q_nc n_A3_O0 (q_nc n_A3_A7 List.not_mem_nil))).trans ((hg96 _ (q_nc n_A3_O0 (q_nc n_A3_A7 List.not_mem_nil))).trans ((hg92 _ (q_nc n_A3_O0 (q_nc n_A3_A7 List.not_mem_nil))).trans (hA3))))
              replace hA6 := (hg104 _ (q_nc n_A6_O0 (q_nc n_A6_A7 List.not_mem_nil))).trans ((hg101 _ (q_nc n_A6_O0 (q_nc n_A6_A7 List.not_mem_nil))).trans ((hg96 _ (q_nc n_A6_O0 (q_nc n_A6_A7 List.not_mem_nil))).trans ((hg92 _ (q_nc n_A6_O0 (q_nc n_A6_A7 List.not_mem_nil))).trans (hA6))))
              exact q_reti C0 V (Or.inr (Or.inr (Or.inr (Or.inr (Or.inl ⟨lx83, y38, lx84, c15, c19, c23, c27, c62, (show ((x1.toInt < 1 ∧ lx83.toInt = 2) ∨ (1 ≤ x1.toInt ∧ lx83.toInt = 2 + 1 * (x1.toInt - 1))) from by have t1 : 1 ≤ x1.toInt := q_nltI c15; have t2 : x1.toInt ≤ 800 := q_nltI c19; have t3 : 0 ≤ x2.toInt := q_nltI c23; have t4 : x2.toInt ≤ 3 := q_leI c27; have t5 : 1 < x1.toInt := q_nleI c62; have t6 : x1.toInt ≤ lx82.toInt := q_leI c89; have eb : (x1 : Int32).toInt = x1.toInt := rfl; omega), (q_Ile (x := 2) (y := lx83.toInt) (by decide) rfl (by have t1 : 1 ≤ x1.toInt := q_nltI c15; have t2 : x1.toInt ≤ 800 := q_nltI c19; have t3 : 1 < x1.toInt := q_nleI c62; have t4 : x1.toInt ≤ lx82.toInt := q_leI c89; omega)), (q_Ile (x := lx83.toInt) (y := 801) rfl (by decide) (by have t1 : 1 ≤ x1.toInt := q_nltI c15; have t2 : x1.toInt ≤ 800 := q_nltI c19; have t3 : 1 < x1.toInt := q_nleI c62; have t4 : x1.toInt ≤ lx82.toInt := q_leI c89; omega)), rfl, hF, hO0, hA1, hA2, hA3, hA6, hA7⟩))))) d_17_30_304
            ·
              refine lv_aload_n hx hb d_17_30_193 rfl (lv_at hl 3 rfl) ?_
              refine lv_bipush (v := 48) hx hb d_17_30_194 (by decide) ?_
              refine lv_aload_n hx hb d_17_30_196 rfl (lv_at hl 3 rfl) ?_
              refine lv_iload hx hb d_17_30_197 (lv_at hl 1 rfl) ?_
              refine lv_sipush (v := 1080) hx hb d_17_30_199 (by decide) ?_
              refine lv_isub hx hb d_17_30_202 ?_
              refine q_ti (v := 0) (by decide) ?_
              refine lv_iload hx hb d_17_30_203 (lv_at hl 0 rfl) ?_
              refine lv_isub hx hb d_17_30_205 ?_
              refine q_goi V (q_runV (As := [.int (0 - lx82)]) (rest := [.int 48, .ref qO0]) (d := 1) (mc := 0) (ms := 0) (ci := 15) C0 V rfl LV_FR_169 (c_FR_figureAt_4 l D g w85 kO0 kA6 qO0 qA1 qA2 qA3 qA4 qA5 qA6 qA7 (0 - lx82) lx83 hO0 hA6 (q_Ile (x := (-1074)) (y := (0 - lx82.toInt)) (by decide) (q_subI (x := 0) (y := lx82.toInt) (by decide) rfl (by have t1 : 1 ≤ x1.toInt := q_nltI c15; have t2 : x1.toInt ≤ 800 := q_nltI c19; have t3 : 1 < x1.toInt := q_nleI c62; have t4 : lx82.toInt < x1.toInt := q_nleI c89; omega) (by have t1 : 1 ≤ x1.toInt := q_nltI c15; have t2 : x1.toInt ≤ 800 := q_nltI c19; have t3 : 1 < x1.toInt := q_nleI c62; have t4 : lx82.toInt < x1.toInt := q_nleI c89; omega)) (by have t1 : 1 ≤ x1.toInt := q_nltI c15; have t2 : x1.toInt ≤ 800 := q_nltI c19; have t3 : 1 < x1.toInt := q_nleI c62; have t4 : lx82.toInt < x1.toInt := q_nleI c89; omega)) (q_Ile (x := (0 - lx82.toInt)) (y := (-1)) (q_subI (x := 0) (y := lx82.toInt) (by decide) rfl (by have t1 : 1 ≤ x1.toInt := q_nltI c15; have t2 : x1.toInt ≤ 800 := q_nltI c19; have t3 : 1 < x1.toInt := q_nleI c62; have t4 : lx82.toInt < x1.toInt := q_nleI c89; omega) (by have t1 : 1 ≤ x1.toInt := q_nltI c15; have t2 : x1.toInt ≤ 800 := q_nltI c19; have t3 : 1 < x1.toInt := q_nleI c62; have t4 : lx82.toInt < x1.toInt := q_nleI c89; omega)) (by decide) (by have t1 : 1 ≤ x1.toInt := q_nltI c15; have t2 : x1.toInt ≤ 800 := q_nltI c19; have t3 : 1 < x1.toInt := q_nleI c62; have t4 : lx82.toInt < x1.toInt := q_nleI c89; omega)) (q_Ile (x := 2) (y := lx83.toInt) (by decide) rfl (by have t1 : 1 ≤ x1.toInt := q_nltI c15; have t2 : x1.toInt ≤ 800 := q_nltI c19; have t3 : 1 < x1.toInt := q_nleI c62; have t4 : lx82.toInt < x1.toInt := q_nleI c89; omega)) (q_Ile (x := lx83.toInt) (y := 1076) rfl (by decide) (by have t1 : 1 ≤ x1.toInt := q_nltI c15; have t2 : x1.toInt ≤ 800 := q_nltI c19; have t3 : 1 < x1.toInt := q_nleI c62; have t4 : lx82.toInt < x1.toInt := q_nleI c89; omega)) _) rfl rfl hO0 rfl hl.1 rfl (Nat.le_of_ble_eq_true rfl) ⟨by decide, by decide⟩ ⟨Nat.le_of_ble_eq_true rfl, Nat.le_of_ble_eq_true rfl⟩ d_17_30_206) (fun v107 u106 H locs hp105 V => ?_)
              obtain ⟨rfl, rfl⟩ := hp105
              refine lv_iadd hx hb d_17_30_209 ?_
              refine q_ti (v := 48) (by decide) ?_
              refine q_gov V (q_runV (As := [.int 48]) (rest := []) (d := 1) (mc := 0) (ms := 0) (ci := 15) C0 V rfl LV_FR_110 (c_FR_add_6 l D g w85 kO0 kA7 qO0 qA1 qA2 qA3 qA4 qA5 qA6 qA7 lx83 lx84 hO0 hA7 (q_Ile (x := 2) (y := lx83.toInt) (by decide) rfl (by have t1 : 1 ≤ x1.toInt := q_nltI c15; have t2 : x1.toInt ≤ 800 := q_nltI c19; have t3 : 1 < x1.toInt := q_nleI c62; have t4 : lx82.toInt < x1.toInt := q_nleI c89; omega)) (q_Ile (x := lx83.toInt) (y := 1076) rfl (by decide) (by have t1 : 1 ≤ x1.toInt := q_nltI c15; have t2 : x1.toInt ≤ 800 := q_nltI c19; have t3 : 1 < x1.toInt := q_nleI c62; have t4 : lx82.toInt < x1.toInt := q_nleI c89; omega)) _) rfl rfl hO0 rfl hl.1 rfl (Nat.le_of_ble_eq_true rfl) ⟨by decide, by decide⟩ ⟨Nat.le_of_ble_eq_true rfl, Nat.le_of_ble_eq_true rfl⟩ d_17_30_210) (fun u110 H locs hp109 V => ?_)
              obtain ⟨hg111, hO0, hA7⟩ := hp109
              replace hF := q_uc hF hg111 (q_sc (.head _) (q_sc (List.mem_of_getElem? (i := 5) rfl) (fun _ h => absurd h List.not_mem_nil)))
              refine lv_iload hx hb d_17_30_213 (lv_at hl 0 rfl) ?_
              refine lv_if_ne (tgt := 230) hx hb d_17_30_215 (by decide) (fun c112 => ?_) (fun c112 => absurd c112 (q_Ine (x := lx82.toInt) (y := 0) rfl (by decide) (by have t1 : 1 ≤ x1.toInt := q_nltI c15; have t2 : x1.toInt ≤ 800 := q_nltI c19; have t3 : 1 < x1.toInt := q_nleI c62; have t4 : lx82.toInt < x1.toInt := q_nleI c89; omega)))
              refine lv_iinc (v := lx82 + 1) (lv' := [(8, .int (lx82 + 1)), (6, .int 1080), (7, .int ((1080 - x1) + 1)), (0, .ref qO0), (1, .long 0), (3, .int 1), (4, .int x1), (5, .int x2)]) hx hb d_17_30_230 hl (k := 0) rfl (rfl) (by decide) rfl (fun ls hl => ?_)
              refine lv_goto (tgt := 186) hx hb d_17_30_233 (by decide) ?_
              replace hA1 := (hg111 _ (q_nc n_A1_O0 (q_nc n_A1_A7 List.not_mem_nil))).trans (hA1)
              replace hA2 := (hg111 _ (q_nc n_A2_O0 (q_nc n_A2_A7 List.not_mem_nil))).trans (hA2)
              replace hA3 := (hg111 _ (q_nc n_A3_O0 (q_nc n_A3_A7 List.not_mem_nil))).trans (hA3)
              replace hA6 := (hg111 _ (q_nc n_A6_O0 (q_nc n_A6_A7 List.not_mem_nil))).trans (hA6)
              exact ih88 ((lx82 + 1 : Int32), (lx83 + 1 : Int32), (upd lx84 lx83.toNatClampNeg 48 : Nat → Int32)) _ _ _ _ (show (x1.toInt - (lx82 + 1).toInt).toNat < (x1.toInt - lx82.toInt).toNat from by have t1 : 1 ≤ x1.toInt := q_nltI c15; have t2 : x1.toInt ≤ 800 := q_nltI c19; have t3 : 1 < x1.toInt := q_nleI c62; have t4 : lx82.toInt < x1.toInt := q_nleI c89; have e : (lx82 + 1).toInt = (lx82.toInt + 1) := (q_addI (x := lx82.toInt) (y := 1) rfl (by decide) (by have t1 : 1 ≤ x1.toInt := q_nltI c15; have t2 : x1.toInt ≤ 800 := q_nltI c19; have t3 : 1 < x1.toInt := q_nleI c62; have t4 : lx82.toInt < x1.toInt := q_nleI c89; omega) (by have t1 : 1 ≤ x1.toInt := q_nltI c15; have t2 : x1.toInt ≤ 800 := q_nltI c19; have t3 : 1 < x1.toInt := q_nleI c62; have t4 : lx82.toInt < x1.toInt := q_nleI c89; omega)); omega) ⟨(show 1 ≤ (lx82 + 1).toInt ∧ ((lx82 + 1).toInt ≤ x1.toInt ∨ (lx82 + 1).toInt = 1) from by have t1 : 1 ≤ x1.toInt := q_nltI c15; have t2 : x1.toInt ≤ 800 := q_nltI c19; have t3 : 1 < x1.toInt := q_nleI c62; have t4 : lx82.toInt < x1.toInt := q_nleI c89; have e : (lx82 + 1).toInt = (lx82.toInt + 1) := (q_addI (x := lx82.toInt) (y := 1) rfl (by decide) (by have t1 : 1 ≤ x1.toInt := q_nltI c15; have t2 : x1.toInt ≤ 800 := q_nltI c19; have t3 : 1 < x1.toInt := q_nleI c62; have t4 : lx82.toInt < x1.toInt := q_nleI c89; omega) (by have t1 : 1 ≤ x1.toInt := q_nltI c15; have t2 : x1.toInt ≤ 800 := q_nltI c19; have t3 : 1 < x1.toInt := q_nleI c62; have t4 : lx82.toInt < x1.toInt := q_nleI c89; omega)); omega), (show (lx83 + 1 : Int32).toInt = 2 + 1 * ((lx82 + 1 : Int32).toInt - 1) from by have t1 : 1 ≤ x1.toInt := q_nltI c15; have t2 : x1.toInt ≤ 800 := q_nltI c19; have t3 : 0 ≤ x2.toInt := q_nltI c23; have t4 : x2.toInt ≤ 3 := q_leI c27; have t5 : 1 < x1.toInt := q_nleI c62; have t6 : lx82.toInt < x1.toInt := q_nleI c89; have e0 : (lx82 + 1 : Int32).toInt = (lx82.toInt + 1) := (q_addI (x := lx82.toInt) (y := 1) rfl (by decide) (by have t1 : 1 ≤ x1.toInt := q_nltI c15; have t2 : x1.toInt ≤ 800 := q_nltI c19; have t3 : 1 < x1.toInt := q_nleI c62; have t4 : lx82.toInt < x1.toInt := q_nleI c89; omega) (by have t1 : 1 ≤ x1.toInt := q_nltI c15; have t2 : x1.toInt ≤ 800 := q_nltI c19; have t3 : 1 < x1.toInt := q_nleI c62; have t4 : lx82.toInt < x1.toInt := q_nleI c89; omega)); have e1 : (lx83 + 1 : Int32).toInt = (lx83.toInt + 1) := (q_addI (x := lx83.toInt) (y := 1) rfl (by decide) (by have t1 : 1 ≤ x1.toInt := q_nltI c15; have t2 : x1.toInt ≤ 800 := q_nltI c19; have t3 : 1 < x1.toInt := q_nleI c62; have t4 : lx82.toInt < x1.toInt := q_nleI c89; omega) (by have t1 : 1 ≤ x1.toInt := q_nltI c15; have t2 : x1.toInt ≤ 800 := q_nltI c19; have t3 : 1 < x1.toInt := q_nleI c62; have t4 : lx82.toInt < x1.toInt := q_nleI c89; omega)); omega), V, q_lw hl (q_lw1 0 rfl (q_lw1 1 rfl (q_lw1 2 rfl (q_lw1 3 rfl (q_lw1 4 rfl (q_lw1 5 rfl (q_lw1 6 rfl (q_lw1 7 rfl q_lw0)))))))), hF, hO0, hA1, hA2, hA3, hA6, hA7⟩
        ·
          refine lv_iconst (v := 1) hx hb d_17_30_56 (by decide) ?_
          refine lv_goto (tgt := 72) hx hb d_17_30_57 (by decide) ?_
          refine q_put (ci := 15) (j := 0) (v := .int 1) (ty := .int) C0 V i_FR o_FR n_FR rfl rfl hO0 (by decide) w_2074 rfl rfl rfl rfl (Nat.le_of_ble_eq_true rfl) d_17_30_72 (fun H locs w113 hu114 hO0 V => ?_)
          replace hO0 : w113[kO0]? = (some (qO0, .inr (15, [.int 1, .ref qA1, .ref qA2, .ref qA3, .ref qA4, .ref qA5, .ref qA6, .ref qA7, .int 0, .int 0, .int 0, .long 0, .int 23, .int 255, .long 0, .int (-149), .long 0, .int 0])) : Option (Nat × va_E)) := hO0
          replace hF := q_us hF hu114 (.head _)
          refine lv_aload_n hx hb d_17_30_75 rfl (lv_at hl 0 rfl) ?_
          refine q_get (ci := 15) (j := 0) (v := .int 1) C0 V i_FR rfl rfl hO0 (by decide) w_2074 rfl d_17_30_76 ?_
          refine lv_if_le (tgt := 84) hx hb d_17_30_79 (by decide) (fun c115 => absurd c115 (by decide)) (fun c115 => ?_)
          refine lv_iconst (v := 0) hx hb d_17_30_82 (by decide) ?_
          replace hA1 := (hu114 _ n_A1_O0).trans ((hg9 _ (q_nc n_A1_O0 List.not_mem_nil)).trans (hA1))
          replace hA2 := (hu114 _ n_A2_O0).trans ((hg9 _ (q_nc n_A2_O0 List.not_mem_nil)).trans (hA2))
          replace hA3 := (hu114 _ n_A3_O0).trans ((hg9 _ (q_nc n_A3_O0 List.not_mem_nil)).trans (hA3))
          replace hA6 := (hu114 _ n_A6_O0).trans ((hg9 _ (q_nc n_A6_O0 List.not_mem_nil)).trans (hA6))
          replace hA7 := (hu114 _ n_A7_O0).trans ((hg9 _ (q_nc n_A7_O0 List.not_mem_nil)).trans (hA7))
          exact q_reti C0 V (Or.inr (Or.inr (Or.inr (Or.inr (Or.inr (⟨c15, c19, c23, c27, rfl, hF, hO0, hA1, hA2, hA3, hA6, hA7⟩)))))) d_17_30_83
theorem d_14_34_0 : decode prog_14_method_34_code 0 = .ok (.aload_n 0, 1) := by decide +kernel
theorem d_14_34_1 : decode prog_14_method_34_code 1 = .ok (.iload_n 1, 1) := by decide +kernel
theorem d_14_34_2 : decode prog_14_method_34_code 2 = .ok (.iconst 2, 1) := by decide +kernel
theorem d_14_34_3 : decode prog_14_method_34_code 3 = .ok (.if_icmp .lt 11, 3) := by decide +kernel
theorem d_14_34_14 : decode prog_14_method_34_code 14 = .ok (.iconst 1, 1) := by decide +kernel
theorem d_14_34_15 : decode prog_14_method_34_code 15 = .ok (.goto 4, 3) := by decide +kernel
theorem d_14_34_19 : decode prog_14_method_34_code 19 = .ok (.putfield 58, 3) := by decide +kernel
theorem d_14_34_22 : decode prog_14_method_34_code 22 = .ok (.aload_n 0, 1) := by decide +kernel
theorem d_14_34_23 : decode prog_14_method_34_code 23 = .ok (.getfield 58, 3) := by decide +kernel
theorem d_14_34_26 : decode prog_14_method_34_code 26 = .ok (.ifCond .le 5, 3) := by decide +kernel
theorem d_14_34_29 : decode prog_14_method_34_code 29 = .ok (.iconst 0, 1) := by decide +kernel
theorem d_14_34_30 : decode prog_14_method_34_code 30 = .ok (.ireturn, 1) := by decide +kernel
theorem d_14_34_6 : decode prog_14_method_34_code 6 = .ok (.iload_n 1, 1) := by decide +kernel
theorem d_14_34_7 : decode prog_14_method_34_code 7 = .ok (.iload_n 2, 1) := by decide +kernel
theorem d_14_34_8 : decode prog_14_method_34_code 8 = .ok (.invokestatic 84, 3) := by decide +kernel
theorem d_14_34_11 : decode prog_14_method_34_code 11 = .ok (.ifCond .eq 7, 3) := by decide +kernel
theorem d_14_34_18 : decode prog_14_method_34_code 18 = .ok (.iconst 0, 1) := by decide +kernel
theorem d_14_34_31 : decode prog_14_method_34_code 31 = .ok (.aload_n 0, 1) := by decide +kernel
theorem d_14_34_32 : decode prog_14_method_34_code 32 = .ok (.iload_n 1, 1) := by decide +kernel
theorem d_14_34_33 : decode prog_14_method_34_code 33 = .ok (.iload_n 2, 1) := by decide +kernel
theorem d_14_34_34 : decode prog_14_method_34_code 34 = .ok (.invokevirtual 138, 3) := by decide +kernel
theorem d_14_34_37 : decode prog_14_method_34_code 37 = .ok (.lstore 6, 2) := by decide +kernel
theorem d_14_34_39 : decode prog_14_method_34_code 39 = .ok (.iload_n 3, 1) := by decide +kernel
theorem d_14_34_40 : decode prog_14_method_34_code 40 = .ok (.ifCond .eq 29, 3) := by decide +kernel
theorem d_14_34_69 : decode prog_14_method_34_code 69 = .ok (.aload_n 0, 1) := by decide +kernel
theorem d_14_34_70 : decode prog_14_method_34_code 70 = .ok (.getfield 33, 3) := by decide +kernel
theorem d_14_34_73 : decode prog_14_method_34_code 73 = .ok (.lload 6, 2) := by decide +kernel
theorem d_14_34_75 : decode prog_14_method_34_code 75 = .ok (.iload_n 1, 1) := by decide +kernel
theorem d_14_34_76 : decode prog_14_method_34_code 76 = .ok (.iconst 3, 1) := by decide +kernel
theorem d_14_34_77 : decode prog_14_method_34_code 77 = .ok (.if_icmp .ne 7, 3) := by decide +kernel
theorem d_14_34_84 : decode prog_14_method_34_code 84 = .ok (.iconst 0, 1) := by decide +kernel
theorem d_14_34_85 : decode prog_14_method_34_code 85 = .ok (.iload 4, 2) := by decide +kernel
theorem d_14_34_87 : decode prog_14_method_34_code 87 = .ok (.iload 5, 2) := by decide +kernel
theorem d_14_34_89 : decode prog_14_method_34_code 89 = .ok (.invokevirtual 227, 3) := by decide +kernel
theorem d_14_34_92 : decode prog_14_method_34_code 92 = .ok (.istore 8, 2) := by decide +kernel
theorem d_14_34_94 : decode prog_14_method_34_code 94 = .ok (.aload_n 0, 1) := by decide +kernel
theorem d_14_34_95 : decode prog_14_method_34_code 95 = .ok (.aload_n 0, 1) := by decide +kernel
theorem d_14_34_96 : decode prog_14_method_34_code 96 = .ok (.getfield 33, 3) := by decide +kernel
theorem d_14_34_99 : decode prog_14_method_34_code 99 = .ok (.getfield 282, 3) := by decide +kernel
theorem wo_2075 : (Cond.fieldLinkNest "NumberHouseModel" (282 : Nat) "NumberHouseModel$FloatRows" "thrown" "I" "NumberHouseModel") ∈ q_odd := q_oo 2075 (by decide +kernel) (by decide +kernel)
theorem d_14_34_102 : decode prog_14_method_34_code 102 = .ok (.putfield 58, 3) := by decide +kernel
theorem d_14_34_105 : decode prog_14_method_34_code 105 = .ok (.aload_n 0, 1) := by decide +kernel
theorem d_14_34_106 : decode prog_14_method_34_code 106 = .ok (.getfield 58, 3) := by decide +kernel
theorem d_14_34_109 : decode prog_14_method_34_code 109 = .ok (.ifCond .le 7, 3) := by decide +kernel
theorem d_14_34_112 : decode prog_14_method_34_code 112 = .ok (.iconst 0, 1) := by decide +kernel
theorem d_14_34_113 : decode prog_14_method_34_code 113 = .ok (.goto 16, 3) := by decide +kernel
theorem d_14_34_129 : decode prog_14_method_34_code 129 = .ok (.ireturn, 1) := by decide +kernel
theorem d_14_34_116 : decode prog_14_method_34_code 116 = .ok (.aload_n 0, 1) := by decide +kernel
theorem d_14_34_117 : decode prog_14_method_34_code 117 = .ok (.aload_n 0, 1) := by decide +kernel
theorem d_14_34_118 : decode prog_14_method_34_code 118 = .ok (.getfield 33, 3) := by decide +kernel
theorem d_14_34_121 : decode prog_14_method_34_code 121 = .ok (.getfield 231, 3) := by decide +kernel
theorem d_14_34_124 : decode prog_14_method_34_code 124 = .ok (.iload 8, 2) := by decide +kernel
theorem d_14_34_126 : decode prog_14_method_34_code 126 = .ok (.invokevirtual 269, 3) := by decide +kernel
theorem d_14_34_80 : decode prog_14_method_34_code 80 = .ok (.iconst 1, 1) := by decide +kernel
theorem d_14_34_81 : decode prog_14_method_34_code 81 = .ok (.goto 4, 3) := by decide +kernel
theorem d_14_34_43 : decode prog_14_method_34_code 43 = .ok (.aload_n 0, 1) := by decide +kernel
theorem d_14_34_44 : decode prog_14_method_34_code 44 = .ok (.getfield 33, 3) := by decide +kernel
theorem d_14_34_47 : decode prog_14_method_34_code 47 = .ok (.lload 6, 2) := by decide +kernel
theorem d_14_34_49 : decode prog_14_method_34_code 49 = .ok (.iload_n 1, 1) := by decide +kernel
theorem d_14_34_50 : decode prog_14_method_34_code 50 = .ok (.iconst 3, 1) := by decide +kernel
theorem d_14_34_51 : decode prog_14_method_34_code 51 = .ok (.if_icmp .ne 7, 3) := by decide +kernel
theorem d_14_34_58 : decode prog_14_method_34_code 58 = .ok (.iconst 0, 1) := by decide +kernel
theorem d_14_34_59 : decode prog_14_method_34_code 59 = .ok (.iload 4, 2) := by decide +kernel
theorem d_14_34_61 : decode prog_14_method_34_code 61 = .ok (.iload 5, 2) := by decide +kernel
theorem d_14_34_63 : decode prog_14_method_34_code 63 = .ok (.invokevirtual 279, 3) := by decide +kernel
theorem w_3064 : (Cond.code ({ cls := "NumberHouseModel$FloatRows", name := "scientific", desc := "(JZII)I" } : MethodName) prog_17_method_30_code (9 : Nat) (some .int)) ∈ q_tbl := q_of 3064 (by decide +kernel) (by decide +kernel)
theorem w_3061 : (Cond.methodLink "NumberHouseModel" (279 : Nat) ({ cls := "NumberHouseModel$FloatRows", name := "scientific", desc := "(JZII)I" } : MethodName)) ∈ q_tbl := q_of 3061 (by decide +kernel) (by decide +kernel)
theorem w_3062 : (Cond.instanceMethod ({ cls := "NumberHouseModel$FloatRows", name := "scientific", desc := "(JZII)I" } : MethodName)) ∈ q_tbl := q_of 3062 (by decide +kernel) (by decide +kernel)
theorem w_3063 : (Cond.selects "NumberHouseModel$FloatRows" ({ cls := "NumberHouseModel$FloatRows", name := "scientific", desc := "(JZII)I" } : MethodName) ({ cls := "NumberHouseModel$FloatRows", name := "scientific", desc := "(JZII)I" } : MethodName)) ∈ q_tbl := q_of 3063 (by decide +kernel) (by decide +kernel)
theorem LV_NM_279 : q_LV "NumberHouseModel" 279 y_FR_scientific prog_17_method_30_code 9 (some .int) 4 := ⟨w_3064, w_17, w_3061, w_3062, w_3063, ⟨by decide, by decide, by decide +kernel⟩⟩
theorem d_14_34_66 : decode prog_14_method_34_code 66 = .ok (.goto 26, 3) := by decide +kernel
theorem d_14_34_54 : decode prog_14_method_34_code 54 = .ok (.iconst 1, 1) := by decide +kernel
theorem d_14_34_55 : decode prog_14_method_34_code 55 = .ok (.goto 4, 3) := by decide +kernel
def y_NM_figures : MethodName := ⟨"NumberHouseModel", "figures", "(IIZII)I"⟩
