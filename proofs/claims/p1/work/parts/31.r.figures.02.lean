set_option maxRecDepth 100000 in
set_option maxHeartbeats 4000000 in
theorem c_FR_add_19 (l : Launch) (D : va_G) (g : Nat → ClassId) (ws : va_W) (kO0 kA7 qO0 qA1 qA2 qA3 qA4 qA5 qA6 qA7 : Nat) (hO0 : ws[kO0]? = (some (qO0, .inr (15, [.int 0, .ref qA1, .ref qA2, .ref qA3, .ref qA4, .ref qA5, .ref qA6, .ref qA7, .int 1, .int 0, .int 0, .long 0, .int 52, .int 2047, .long 0, .int (-1074), .long 0, .int 0])) : Option (Nat × va_E))) (hA7 : ws[kA7]? = (some (qA7, .inl (g 0, 1600, .inl (upd (fun _ => 0) 0 48))) : Option (Nat × va_E))) : q_mV l y_FR_add prog_17_method_16_code 2 1 0 0 D g [.ref qO0, .int 101] ws (fun u => q_un ws u [kO0, kA7] ∧ u[kO0]? = (some (qO0, .inr (15, [.int 0, .ref qA1, .ref qA2, .ref qA3, .ref qA4, .ref qA5, .ref qA6, .ref qA7, .int 2, .int 0, .int 0, .long 0, .int 52, .int 2047, .long 0, .int (-1074), .long 0, .int 0])) : Option (Nat × va_E)) ∧ u[kA7]? = (some (qA7, .inl (g 0, 1600, .inl (upd (upd (fun _ => 0) 0 48) 1 101))) : Option (Nat × va_E))) := by
  intro sz
  refine q_into (by decide) (Nat.le_of_ble_eq_true rfl) ?_
  intro p e s m below meth c ls hsz C0 V hl
  have hx := C0.1
  have hb := C0.2.1
  have hl : lv_has ls 2 [(0, .ref qO0), (1, .int 101)] := hl
  have n_A7_O0 := q_df hA7 hO0
  have n_O0_A7 := Ne.symm (q_df hA7 hO0)
  have hF : q_un ws ws [kO0, kA7] := q_u0
  refine lv_aload_n hx hb d_17_16_0 rfl (lv_at hl 0 rfl) ?_
  refine q_get (ci := 15) (j := 7) (v := .ref qA7) C0 V i_FR rfl rfl hO0 (by decide) w_2082 rfl d_17_16_1 ?_
  refine lv_aload_n hx hb d_17_16_4 rfl (lv_at hl 0 rfl) ?_
  refine q_get (ci := 15) (j := 8) (v := .int 1) C0 V i_FR rfl rfl hO0 (by decide) w_2084 rfl d_17_16_5 ?_
  refine lv_iload_n hx hb d_17_16_8 rfl (lv_at hl 1 rfl) ?_
  refine q_iast C0 V hA7 (by unfold vp_in; decide) d_17_16_9 (fun H locs w1 hu2 hA7 V => ?_)
  replace hA7 : w1[kA7]? = (some (qA7, .inl (g 0, 1600, .inl (upd (upd (fun _ => 0) 0 48) 1 101))) : Option (Nat × va_E)) := hA7
  replace hF := q_us hF hu2 (.tail _ (.head _))
  refine lv_aload_n hx hb d_17_16_10 rfl (lv_at hl 0 rfl) ?_
  refine lv_dup hx hb d_17_16_11 rfl ?_
  replace hO0 := (hu2 _ n_O0_A7).trans (hO0)
  refine q_get (ci := 15) (j := 8) (v := .int 1) C0 V i_FR rfl rfl hO0 (by decide) w_2084 rfl d_17_16_12 ?_
  refine lv_iconst (v := 1) hx hb d_17_16_15 (by decide) ?_
  refine lv_iadd hx hb d_17_16_16 ?_
  refine q_ti (v := 2) (by decide) ?_
  refine q_put (ci := 15) (j := 8) (v := .int 2) (ty := .int) C0 V i_FR o_FR n_FR rfl rfl hO0 (by decide) w_2084 rfl rfl rfl rfl (Nat.le_of_ble_eq_true rfl) d_17_16_17 (fun H locs w3 hu4 hO0 V => ?_)
  replace hO0 : w3[kO0]? = (some (qO0, .inr (15, [.int 0, .ref qA1, .ref qA2, .ref qA3, .ref qA4, .ref qA5, .ref qA6, .ref qA7, .int 2, .int 0, .int 0, .long 0, .int 52, .int 2047, .long 0, .int (-1074), .long 0, .int 0])) : Option (Nat × va_E)) := hO0
  replace hF := q_us hF hu4 (.head _)
  replace hA7 := (hu4 _ n_A7_O0).trans (hA7)
  exact q_retv C0 V (⟨hF, hO0, hA7⟩) d_17_16_20
set_option maxRecDepth 100000 in
set_option maxHeartbeats 4000000 in
theorem c_FR_add_20 (l : Launch) (D : va_G) (g : Nat → ClassId) (ws : va_W) (kO0 kA7 qO0 qA1 qA2 qA3 qA4 qA5 qA6 qA7 : Nat) (hO0 : ws[kO0]? = (some (qO0, .inr (15, [.int 0, .ref qA1, .ref qA2, .ref qA3, .ref qA4, .ref qA5, .ref qA6, .ref qA7, .int 2, .int 0, .int 0, .long 0, .int 52, .int 2047, .long 0, .int (-1074), .long 0, .int 0])) : Option (Nat × va_E))) (hA7 : ws[kA7]? = (some (qA7, .inl (g 0, 1600, .inl (upd (upd (fun _ => 0) 0 48) 1 101))) : Option (Nat × va_E))) : q_mV l y_FR_add prog_17_method_16_code 2 1 0 0 D g [.ref qO0, .int 43] ws (fun u => q_un ws u [kO0, kA7] ∧ u[kO0]? = (some (qO0, .inr (15, [.int 0, .ref qA1, .ref qA2, .ref qA3, .ref qA4, .ref qA5, .ref qA6, .ref qA7, .int 3, .int 0, .int 0, .long 0, .int 52, .int 2047, .long 0, .int (-1074), .long 0, .int 0])) : Option (Nat × va_E)) ∧ u[kA7]? = (some (qA7, .inl (g 0, 1600, .inl (upd (upd (upd (fun _ => 0) 0 48) 1 101) 2 43))) : Option (Nat × va_E))) := by
  intro sz
  refine q_into (by decide) (Nat.le_of_ble_eq_true rfl) ?_
  intro p e s m below meth c ls hsz C0 V hl
  have hx := C0.1
  have hb := C0.2.1
  have hl : lv_has ls 2 [(0, .ref qO0), (1, .int 43)] := hl
  have n_A7_O0 := q_df hA7 hO0
  have n_O0_A7 := Ne.symm (q_df hA7 hO0)
  have hF : q_un ws ws [kO0, kA7] := q_u0
  refine lv_aload_n hx hb d_17_16_0 rfl (lv_at hl 0 rfl) ?_
  refine q_get (ci := 15) (j := 7) (v := .ref qA7) C0 V i_FR rfl rfl hO0 (by decide) w_2082 rfl d_17_16_1 ?_
  refine lv_aload_n hx hb d_17_16_4 rfl (lv_at hl 0 rfl) ?_
  refine q_get (ci := 15) (j := 8) (v := .int 2) C0 V i_FR rfl rfl hO0 (by decide) w_2084 rfl d_17_16_5 ?_
  refine lv_iload_n hx hb d_17_16_8 rfl (lv_at hl 1 rfl) ?_
  refine q_iast C0 V hA7 (by unfold vp_in; decide) d_17_16_9 (fun H locs w1 hu2 hA7 V => ?_)
  replace hA7 : w1[kA7]? = (some (qA7, .inl (g 0, 1600, .inl (upd (upd (upd (fun _ => 0) 0 48) 1 101) 2 43))) : Option (Nat × va_E)) := hA7
  replace hF := q_us hF hu2 (.tail _ (.head _))
  refine lv_aload_n hx hb d_17_16_10 rfl (lv_at hl 0 rfl) ?_
  refine lv_dup hx hb d_17_16_11 rfl ?_
  replace hO0 := (hu2 _ n_O0_A7).trans (hO0)
  refine q_get (ci := 15) (j := 8) (v := .int 2) C0 V i_FR rfl rfl hO0 (by decide) w_2084 rfl d_17_16_12 ?_
  refine lv_iconst (v := 1) hx hb d_17_16_15 (by decide) ?_
  refine lv_iadd hx hb d_17_16_16 ?_
  refine q_ti (v := 3) (by decide) ?_
  refine q_put (ci := 15) (j := 8) (v := .int 3) (ty := .int) C0 V i_FR o_FR n_FR rfl rfl hO0 (by decide) w_2084 rfl rfl rfl rfl (Nat.le_of_ble_eq_true rfl) d_17_16_17 (fun H locs w3 hu4 hO0 V => ?_)
  replace hO0 : w3[kO0]? = (some (qO0, .inr (15, [.int 0, .ref qA1, .ref qA2, .ref qA3, .ref qA4, .ref qA5, .ref qA6, .ref qA7, .int 3, .int 0, .int 0, .long 0, .int 52, .int 2047, .long 0, .int (-1074), .long 0, .int 0])) : Option (Nat × va_E)) := hO0
  replace hF := q_us hF hu4 (.head _)
  replace hA7 := (hu4 _ n_A7_O0).trans (hA7)
  exact q_retv C0 V (⟨hF, hO0, hA7⟩) d_17_16_20
set_option maxRecDepth 100000 in
set_option maxHeartbeats 4000000 in
theorem c_FR_number_3 (l : Launch) (D : va_G) (g : Nat → ClassId) (ws : va_W) (kO0 kA7 qO0 qA1 qA2 qA3 qA4 qA5 qA6 qA7 : Nat) (y1 : Int32) (f3 : Nat → Int32) (hO0 : ws[kO0]? = (some (qO0, .inr (15, [.int 0, .ref qA1, .ref qA2, .ref qA3, .ref qA4, .ref qA5, .ref qA6, .ref qA7, .int y1, .int 0, .int 0, .long 0, .int 52, .int 2047, .long 0, .int (-1074), .long 0, .int 0])) : Option (Nat × va_E))) (hA7 : ws[kA7]? = (some (qA7, .inl (g 0, 1600, .inl f3)) : Option (Nat × va_E))) (y1lo : 4 ≤ y1) (y1hi : y1 ≤ 4) : q_mV l y_FR_number prog_17_method_19_code 3 2 0 0 D g [.ref qO0, .int 0] ws (fun u => q_un ws u [kO0, kA7] ∧ u[kO0]? = (some (qO0, .inr (15, [.int 0, .ref qA1, .ref qA2, .ref qA3, .ref qA4, .ref qA5, .ref qA6, .ref qA7, .int (y1 + 1), .int 0, .int 0, .long 0, .int 52, .int 2047, .long 0, .int (-1074), .long 0, .int 0])) : Option (Nat × va_E)) ∧ u[kA7]? = (some (qA7, .inl (g 0, 1600, .inl (upd f3 y1.toNatClampNeg 48))) : Option (Nat × va_E))) := by
  intro sz
  refine q_into (by decide) (Nat.le_of_ble_eq_true rfl) ?_
  intro p e s m below meth c ls hsz C0 V hl
  have hx := C0.1
  have hb := C0.2.1
  have hl : lv_has ls 3 [(0, .ref qO0), (1, .int 0)] := hl
  have hF : q_un ws ws [kO0, kA7] := q_u0
  refine lv_iconst (v := 1) hx hb d_17_19_0 (by decide) ?_
  refine lv_istore_n (lv' := [(2, .int 1), (0, .ref qO0), (1, .int 0)]) hx hb d_17_19_1 rfl hl (by decide) rfl (fun ls hl => ?_)
  refine lv_iload_n hx hb d_17_19_2 rfl (lv_at hl 2 rfl) ?_
  refine lv_iload_n hx hb d_17_19_3 rfl (lv_at hl 0 rfl) ?_
  refine lv_idiv hx hb d_17_19_4 (by decide) ?_
  refine q_ti (v := 0) (by decide) ?_
  refine lv_bipush (v := 9) hx hb d_17_19_5 (by decide) ?_
  refine lv_icmp_le (tgt := 18) hx hb d_17_19_7 (by decide) (fun c1 => ?_) (fun c1 => absurd (by decide) c1)
  refine lv_iload_n hx hb d_17_19_18 rfl (lv_at hl 0 rfl) ?_
  refine lv_if_le (tgt := 43) hx hb d_17_19_19 (by decide) (fun c2 => absurd c2 (by decide)) (fun c2 => ?_)
  refine lv_aload_n hx hb d_17_19_22 rfl (lv_at hl 1 rfl) ?_
  refine lv_bipush (v := 48) hx hb d_17_19_23 (by decide) ?_
  refine lv_iload_n hx hb d_17_19_25 rfl (lv_at hl 2 rfl) ?_
  refine lv_iload_n hx hb d_17_19_26 rfl (lv_at hl 0 rfl) ?_
  refine lv_idiv hx hb d_17_19_27 (by decide) ?_
  refine q_ti (v := 0) (by decide) ?_
  refine lv_bipush (v := 10) hx hb d_17_19_28 (by decide) ?_
  refine lv_irem hx hb d_17_19_30 (by decide) ?_
  refine q_ti (v := 0) (by decide) ?_
  refine lv_iadd hx hb d_17_19_31 ?_
  refine q_ti (v := 48) (by decide) ?_
  refine q_gov V (q_runV (As := [.int 48]) (rest := []) (d := 1) (mc := 0) (ms := 0) (ci := 15) C0 V rfl LV_FR_110 (c_FR_add_3 l D g ws kO0 kA7 qO0 qA1 qA2 qA3 qA4 qA5 qA6 qA7 y1 f3 hO0 hA7 (q_Ile (x := 2) (y := y1.toInt) (by decide) rfl (by have t1 : 4 ≤ y1.toInt := q_leI y1lo; have t2 : y1.toInt ≤ 4 := q_leI y1hi; omega)) (q_Ile (x := y1.toInt) (y := 1076) rfl (by decide) (by have t1 : 4 ≤ y1.toInt := q_leI y1lo; have t2 : y1.toInt ≤ 4 := q_leI y1hi; omega)) _) rfl rfl hO0 rfl hl.1 rfl (Nat.le_of_ble_eq_true rfl) ⟨by decide, by decide⟩ ⟨Nat.le_of_ble_eq_true rfl, Nat.le_of_ble_eq_true rfl⟩ d_17_19_32) (fun u4 H locs hp3 V => ?_)
  obtain ⟨hg5, hO0, hA7⟩ := hp3
  replace hF := q_uc hF hg5 (q_sc (.head _) (q_sc (.tail _ (.head _)) (fun _ h => absurd h List.not_mem_nil)))
  refine lv_iload_n hx hb d_17_19_35 rfl (lv_at hl 0 rfl) ?_
  refine lv_bipush (v := 10) hx hb d_17_19_36 (by decide) ?_
  refine lv_idiv hx hb d_17_19_38 (by decide) ?_
  refine q_ti (v := 0) (by decide) ?_
  refine lv_istore_n (lv' := [(2, .int 0), (0, .ref qO0), (1, .int 0)]) hx hb d_17_19_39 rfl hl (by decide) rfl (fun ls hl => ?_)
  refine lv_goto (tgt := 18) hx hb d_17_19_40 (by decide) ?_
  refine lv_iload_n hx hb d_17_19_18 rfl (lv_at hl 0 rfl) ?_
  refine lv_if_le (tgt := 43) hx hb d_17_19_19 (by decide) (fun c6 => ?_) (fun c6 => absurd (by decide) c6)
  exact q_retv C0 V (⟨hF, hO0, hA7⟩) d_17_19_43
set_option maxRecDepth 100000 in
set_option maxHeartbeats 4000000 in
theorem c_FR_add_21 (l : Launch) (D : va_G) (g : Nat → ClassId) (ws : va_W) (kO0 kA7 qO0 qA1 qA2 qA3 qA4 qA5 qA6 qA7 : Nat) (hO0 : ws[kO0]? = (some (qO0, .inr (15, [.int 0, .ref qA1, .ref qA2, .ref qA3, .ref qA4, .ref qA5, .ref qA6, .ref qA7, .int 2, .int 0, .int 0, .long 0, .int 52, .int 2047, .long 0, .int (-1074), .long 0, .int 0])) : Option (Nat × va_E))) (hA7 : ws[kA7]? = (some (qA7, .inl (g 0, 1600, .inl (upd (upd (fun _ => 0) 0 48) 1 46))) : Option (Nat × va_E))) : q_mV l y_FR_add prog_17_method_16_code 2 1 0 0 D g [.ref qO0, .int 101] ws (fun u => q_un ws u [kO0, kA7] ∧ u[kO0]? = (some (qO0, .inr (15, [.int 0, .ref qA1, .ref qA2, .ref qA3, .ref qA4, .ref qA5, .ref qA6, .ref qA7, .int 3, .int 0, .int 0, .long 0, .int 52, .int 2047, .long 0, .int (-1074), .long 0, .int 0])) : Option (Nat × va_E)) ∧ u[kA7]? = (some (qA7, .inl (g 0, 1600, .inl (upd (upd (upd (fun _ => 0) 0 48) 1 46) 2 101))) : Option (Nat × va_E))) := by
  intro sz
  refine q_into (by decide) (Nat.le_of_ble_eq_true rfl) ?_
  intro p e s m below meth c ls hsz C0 V hl
  have hx := C0.1
  have hb := C0.2.1
  have hl : lv_has ls 2 [(0, .ref qO0), (1, .int 101)] := hl
  have n_A7_O0 := q_df hA7 hO0
  have n_O0_A7 := Ne.symm (q_df hA7 hO0)
  have hF : q_un ws ws [kO0, kA7] := q_u0
  refine lv_aload_n hx hb d_17_16_0 rfl (lv_at hl 0 rfl) ?_
  refine q_get (ci := 15) (j := 7) (v := .ref qA7) C0 V i_FR rfl rfl hO0 (by decide) w_2082 rfl d_17_16_1 ?_
  refine lv_aload_n hx hb d_17_16_4 rfl (lv_at hl 0 rfl) ?_
  refine q_get (ci := 15) (j := 8) (v := .int 2) C0 V i_FR rfl rfl hO0 (by decide) w_2084 rfl d_17_16_5 ?_
  refine lv_iload_n hx hb d_17_16_8 rfl (lv_at hl 1 rfl) ?_
  refine q_iast C0 V hA7 (by unfold vp_in; decide) d_17_16_9 (fun H locs w1 hu2 hA7 V => ?_)
  replace hA7 : w1[kA7]? = (some (qA7, .inl (g 0, 1600, .inl (upd (upd (upd (fun _ => 0) 0 48) 1 46) 2 101))) : Option (Nat × va_E)) := hA7
  replace hF := q_us hF hu2 (.tail _ (.head _))
  refine lv_aload_n hx hb d_17_16_10 rfl (lv_at hl 0 rfl) ?_
  refine lv_dup hx hb d_17_16_11 rfl ?_
  replace hO0 := (hu2 _ n_O0_A7).trans (hO0)
  refine q_get (ci := 15) (j := 8) (v := .int 2) C0 V i_FR rfl rfl hO0 (by decide) w_2084 rfl d_17_16_12 ?_
  refine lv_iconst (v := 1) hx hb d_17_16_15 (by decide) ?_
  refine lv_iadd hx hb d_17_16_16 ?_
  refine q_ti (v := 3) (by decide) ?_
  refine q_put (ci := 15) (j := 8) (v := .int 3) (ty := .int) C0 V i_FR o_FR n_FR rfl rfl hO0 (by decide) w_2084 rfl rfl rfl rfl (Nat.le_of_ble_eq_true rfl) d_17_16_17 (fun H locs w3 hu4 hO0 V => ?_)
  replace hO0 : w3[kO0]? = (some (qO0, .inr (15, [.int 0, .ref qA1, .ref qA2, .ref qA3, .ref qA4, .ref qA5, .ref qA6, .ref qA7, .int 3, .int 0, .int 0, .long 0, .int 52, .int 2047, .long 0, .int (-1074), .long 0, .int 0])) : Option (Nat × va_E)) := hO0
  replace hF := q_us hF hu4 (.head _)
  replace hA7 := (hu4 _ n_A7_O0).trans (hA7)
  exact q_retv C0 V (⟨hF, hO0, hA7⟩) d_17_16_20
set_option maxRecDepth 100000 in
set_option maxHeartbeats 4000000 in
theorem c_FR_add_22 (l : Launch) (D : va_G) (g : Nat → ClassId) (ws : va_W) (kO0 kA7 qO0 qA1 qA2 qA3 qA4 qA5 qA6 qA7 : Nat) (hO0 : ws[kO0]? = (some (qO0, .inr (15, [.int 0, .ref qA1, .ref qA2, .ref qA3, .ref qA4, .ref qA5, .ref qA6, .ref qA7, .int 3, .int 0, .int 0, .long 0, .int 52, .int 2047, .long 0, .int (-1074), .long 0, .int 0])) : Option (Nat × va_E))) (hA7 : ws[kA7]? = (some (qA7, .inl (g 0, 1600, .inl (upd (upd (upd (fun _ => 0) 0 48) 1 46) 2 101))) : Option (Nat × va_E))) : q_mV l y_FR_add prog_17_method_16_code 2 1 0 0 D g [.ref qO0, .int 43] ws (fun u => q_un ws u [kO0, kA7] ∧ u[kO0]? = (some (qO0, .inr (15, [.int 0, .ref qA1, .ref qA2, .ref qA3, .ref qA4, .ref qA5, .ref qA6, .ref qA7, .int 4, .int 0, .int 0, .long 0, .int 52, .int 2047, .long 0, .int (-1074), .long 0, .int 0])) : Option (Nat × va_E)) ∧ u[kA7]? = (some (qA7, .inl (g 0, 1600, .inl (upd (upd (upd (upd (fun _ => 0) 0 48) 1 46) 2 101) 3 43))) : Option (Nat × va_E))) := by
  intro sz
  refine q_into (by decide) (Nat.le_of_ble_eq_true rfl) ?_
  intro p e s m below meth c ls hsz C0 V hl
  have hx := C0.1
  have hb := C0.2.1
  have hl : lv_has ls 2 [(0, .ref qO0), (1, .int 43)] := hl
  have n_A7_O0 := q_df hA7 hO0
  have n_O0_A7 := Ne.symm (q_df hA7 hO0)
  have hF : q_un ws ws [kO0, kA7] := q_u0
  refine lv_aload_n hx hb d_17_16_0 rfl (lv_at hl 0 rfl) ?_
  refine q_get (ci := 15) (j := 7) (v := .ref qA7) C0 V i_FR rfl rfl hO0 (by decide) w_2082 rfl d_17_16_1 ?_
  refine lv_aload_n hx hb d_17_16_4 rfl (lv_at hl 0 rfl) ?_
  refine q_get (ci := 15) (j := 8) (v := .int 3) C0 V i_FR rfl rfl hO0 (by decide) w_2084 rfl d_17_16_5 ?_
  refine lv_iload_n hx hb d_17_16_8 rfl (lv_at hl 1 rfl) ?_
  refine q_iast C0 V hA7 (by unfold vp_in; decide) d_17_16_9 (fun H locs w1 hu2 hA7 V => ?_)
  replace hA7 : w1[kA7]? = (some (qA7, .inl (g 0, 1600, .inl (upd (upd (upd (upd (fun _ => 0) 0 48) 1 46) 2 101) 3 43))) : Option (Nat × va_E)) := hA7
  replace hF := q_us hF hu2 (.tail _ (.head _))
  refine lv_aload_n hx hb d_17_16_10 rfl (lv_at hl 0 rfl) ?_
  refine lv_dup hx hb d_17_16_11 rfl ?_
  replace hO0 := (hu2 _ n_O0_A7).trans (hO0)
  refine q_get (ci := 15) (j := 8) (v := .int 3) C0 V i_FR rfl rfl hO0 (by decide) w_2084 rfl d_17_16_12 ?_
  refine lv_iconst (v := 1) hx hb d_17_16_15 (by decide) ?_
  refine lv_iadd hx hb d_17_16_16 ?_
  refine q_ti (v := 4) (by decide) ?_
  refine q_put (ci := 15) (j := 8) (v := .int 4) (ty := .int) C0 V i_FR o_FR n_FR rfl rfl hO0 (by decide) w_2084 rfl rfl rfl rfl (Nat.le_of_ble_eq_true rfl) d_17_16_17 (fun H locs w3 hu4 hO0 V => ?_)
  replace hO0 : w3[kO0]? = (some (qO0, .inr (15, [.int 0, .ref qA1, .ref qA2, .ref qA3, .ref qA4, .ref qA5, .ref qA6, .ref qA7, .int 4, .int 0, .int 0, .long 0, .int 52, .int 2047, .long 0, .int (-1074), .long 0, .int 0])) : Option (Nat × va_E)) := hO0
  replace hF := q_us hF hu4 (.head _)
  replace hA7 := (hu4 _ n_A7_O0).trans (hA7)
  exact q_retv C0 V (⟨hF, hO0, hA7⟩) d_17_16_20
set_option maxRecDepth 100000 in
set_option maxHeartbeats 4000000 in
theorem c_FR_number_4 (l : Launch) (D : va_G) (g : Nat → ClassId) (ws : va_W) (kO0 kA7 qO0 qA1 qA2 qA3 qA4 qA5 qA6 qA7 : Nat) (y1 : Int32) (f3 : Nat → Int32) (hO0 : ws[kO0]? = (some (qO0, .inr (15, [.int 0, .ref qA1, .ref qA2, .ref qA3, .ref qA4, .ref qA5, .ref qA6, .ref qA7, .int y1, .int 0, .int 0, .long 0, .int 52, .int 2047, .long 0, .int (-1074), .long 0, .int 0])) : Option (Nat × va_E))) (hA7 : ws[kA7]? = (some (qA7, .inl (g 0, 1600, .inl f3)) : Option (Nat × va_E))) (y1lo : 5 ≤ y1) (y1hi : y1 ≤ 5) : q_mV l y_FR_number prog_17_method_19_code 3 2 0 0 D g [.ref qO0, .int 0] ws (fun u => q_un ws u [kO0, kA7] ∧ u[kO0]? = (some (qO0, .inr (15, [.int 0, .ref qA1, .ref qA2, .ref qA3, .ref qA4, .ref qA5, .ref qA6, .ref qA7, .int (y1 + 1), .int 0, .int 0, .long 0, .int 52, .int 2047, .long 0, .int (-1074), .long 0, .int 0])) : Option (Nat × va_E)) ∧ u[kA7]? = (some (qA7, .inl (g 0, 1600, .inl (upd f3 y1.toNatClampNeg 48))) : Option (Nat × va_E))) := by
  intro sz
  refine q_into (by decide) (Nat.le_of_ble_eq_true rfl) ?_
  intro p e s m below meth c ls hsz C0 V hl
  have hx := C0.1
  have hb := C0.2.1
  have hl : lv_has ls 3 [(0, .ref qO0), (1, .int 0)] := hl
  have hF : q_un ws ws [kO0, kA7] := q_u0
  refine lv_iconst (v := 1) hx hb d_17_19_0 (by decide) ?_
  refine lv_istore_n (lv' := [(2, .int 1), (0, .ref qO0), (1, .int 0)]) hx hb d_17_19_1 rfl hl (by decide) rfl (fun ls hl => ?_)
  refine lv_iload_n hx hb d_17_19_2 rfl (lv_at hl 2 rfl) ?_
  refine lv_iload_n hx hb d_17_19_3 rfl (lv_at hl 0 rfl) ?_
  refine lv_idiv hx hb d_17_19_4 (by decide) ?_
  refine q_ti (v := 0) (by decide) ?_
  refine lv_bipush (v := 9) hx hb d_17_19_5 (by decide) ?_
  refine lv_icmp_le (tgt := 18) hx hb d_17_19_7 (by decide) (fun c1 => ?_) (fun c1 => absurd (by decide) c1)
  refine lv_iload_n hx hb d_17_19_18 rfl (lv_at hl 0 rfl) ?_
  refine lv_if_le (tgt := 43) hx hb d_17_19_19 (by decide) (fun c2 => absurd c2 (by decide)) (fun c2 => ?_)
  refine lv_aload_n hx hb d_17_19_22 rfl (lv_at hl 1 rfl) ?_
  refine lv_bipush (v := 48) hx hb d_17_19_23 (by decide) ?_
  refine lv_iload_n hx hb d_17_19_25 rfl (lv_at hl 2 rfl) ?_
  refine lv_iload_n hx hb d_17_19_26 rfl (lv_at hl 0 rfl) ?_
  refine lv_idiv hx hb d_17_19_27 (by decide) ?_
  refine q_ti (v := 0) (by decide) ?_
  refine lv_bipush (v := 10) hx hb d_17_19_28 (by decide) ?_
  refine lv_irem hx hb d_17_19_30 (by decide) ?_
  refine q_ti (v := 0) (by decide) ?_
  refine lv_iadd hx hb d_17_19_31 ?_
  refine q_ti (v := 48) (by decide) ?_
  refine q_gov V (q_runV (As := [.int 48]) (rest := []) (d := 1) (mc := 0) (ms := 0) (ci := 15) C0 V rfl LV_FR_110 (c_FR_add_3 l D g ws kO0 kA7 qO0 qA1 qA2 qA3 qA4 qA5 qA6 qA7 y1 f3 hO0 hA7 (q_Ile (x := 2) (y := y1.toInt) (by decide) rfl (by have t1 : 5 ≤ y1.toInt := q_leI y1lo; have t2 : y1.toInt ≤ 5 := q_leI y1hi; omega)) (q_Ile (x := y1.toInt) (y := 1076) rfl (by decide) (by have t1 : 5 ≤ y1.toInt := q_leI y1lo; have t2 : y1.toInt ≤ 5 := q_leI y1hi; omega)) _) rfl rfl hO0 rfl hl.1 rfl (Nat.le_of_ble_eq_true rfl) ⟨by decide, by decide⟩ ⟨Nat.le_of_ble_eq_true rfl, Nat.le_of_ble_eq_true rfl⟩ d_17_19_32) (fun u4 H locs hp3 V => ?_)
  obtain ⟨hg5, hO0, hA7⟩ := hp3
  replace hF := q_uc hF hg5 (q_sc (.head _) (q_sc (.tail _ (.head _)) (fun _ h => absurd h List.not_mem_nil)))
  refine lv_iload_n hx hb d_17_19_35 rfl (lv_at hl 0 rfl) ?_
  refine lv_bipush (v := 10) hx hb d_17_19_36 (by decide) ?_
  refine lv_idiv hx hb d_17_19_38 (by decide) ?_
  refine q_ti (v := 0) (by decide) ?_
  refine lv_istore_n (lv' := [(2, .int 0), (0, .ref qO0), (1, .int 0)]) hx hb d_17_19_39 rfl hl (by decide) rfl (fun ls hl => ?_)
  refine lv_goto (tgt := 18) hx hb d_17_19_40 (by decide) ?_
  refine lv_iload_n hx hb d_17_19_18 rfl (lv_at hl 0 rfl) ?_
  refine lv_if_le (tgt := 43) hx hb d_17_19_19 (by decide) (fun c6 => ?_) (fun c6 => absurd (by decide) c6)
  exact q_retv C0 V (⟨hF, hO0, hA7⟩) d_17_19_43
set_option maxRecDepth 100000 in
set_option maxHeartbeats 4000000 in
theorem c_FR_add_23 (l : Launch) (D : va_G) (g : Nat → ClassId) (ws : va_W) (kO0 kA7 qO0 qA1 qA2 qA3 qA4 qA5 qA6 qA7 : Nat) (y1 : Int32) (hO0 : ws[kO0]? = (some (qO0, .inr (15, [.int 0, .ref qA1, .ref qA2, .ref qA3, .ref qA4, .ref qA5, .ref qA6, .ref qA7, .int y1, .int 0, .int 0, .long 0, .int 52, .int 2047, .long 0, .int (-1074), .long 0, .int 0])) : Option (Nat × va_E))) (hA7 : ws[kA7]? = (some (qA7, .inl (g 0, 1600, .inl (upd (upd (fun _ => 0) 0 48) 1 46))) : Option (Nat × va_E))) (y1lo : 2 ≤ y1) (y1hi : y1 ≤ 801) : q_mV l y_FR_add prog_17_method_16_code 2 1 0 0 D g [.ref qO0, .int 101] ws (fun u => q_un ws u [kO0, kA7] ∧ u[kO0]? = (some (qO0, .inr (15, [.int 0, .ref qA1, .ref qA2, .ref qA3, .ref qA4, .ref qA5, .ref qA6, .ref qA7, .int (y1 + 1), .int 0, .int 0, .long 0, .int 52, .int 2047, .long 0, .int (-1074), .long 0, .int 0])) : Option (Nat × va_E)) ∧ u[kA7]? = (some (qA7, .inl (g 0, 1600, .inl (upd (upd (upd (fun _ => 0) 0 48) 1 46) y1.toNatClampNeg 101))) : Option (Nat × va_E))) := by
  intro sz
  refine q_into (by decide) (Nat.le_of_ble_eq_true rfl) ?_
  intro p e s m below meth c ls hsz C0 V hl
  have hx := C0.1
  have hb := C0.2.1
  have hl : lv_has ls 2 [(0, .ref qO0), (1, .int 101)] := hl
  have n_A7_O0 := q_df hA7 hO0
  have n_O0_A7 := Ne.symm (q_df hA7 hO0)
  have hF : q_un ws ws [kO0, kA7] := q_u0
  refine lv_aload_n hx hb d_17_16_0 rfl (lv_at hl 0 rfl) ?_
  refine q_get (ci := 15) (j := 7) (v := .ref qA7) C0 V i_FR rfl rfl hO0 (by decide) w_2082 rfl d_17_16_1 ?_
  refine lv_aload_n hx hb d_17_16_4 rfl (lv_at hl 0 rfl) ?_
  refine q_get (ci := 15) (j := 8) (v := .int y1) C0 V i_FR rfl rfl hO0 (by decide) w_2084 rfl d_17_16_5 ?_
  refine lv_iload_n hx hb d_17_16_8 rfl (lv_at hl 1 rfl) ?_
  refine q_iast C0 V hA7 (q_ix (x := y1.toInt) rfl (by have t1 : 2 ≤ y1.toInt := q_leI y1lo; have t2 : y1.toInt ≤ 801 := q_leI y1hi; omega) (by have t1 : 2 ≤ y1.toInt := q_leI y1lo; have t2 : y1.toInt ≤ 801 := q_leI y1hi; omega)) d_17_16_9 (fun H locs w1 hu2 hA7 V => ?_)
  replace hA7 : w1[kA7]? = (some (qA7, .inl (g 0, 1600, .inl (upd (upd (upd (fun _ => 0) 0 48) 1 46) y1.toNatClampNeg 101))) : Option (Nat × va_E)) := hA7
  replace hF := q_us hF hu2 (.tail _ (.head _))
  refine lv_aload_n hx hb d_17_16_10 rfl (lv_at hl 0 rfl) ?_
  refine lv_dup hx hb d_17_16_11 rfl ?_
  replace hO0 := (hu2 _ n_O0_A7).trans (hO0)
  refine q_get (ci := 15) (j := 8) (v := .int y1) C0 V i_FR rfl rfl hO0 (by decide) w_2084 rfl d_17_16_12 ?_
  refine lv_iconst (v := 1) hx hb d_17_16_15 (by decide) ?_
  refine lv_iadd hx hb d_17_16_16 ?_
  refine q_put (ci := 15) (j := 8) (v := .int (y1 + 1)) (ty := .int) C0 V i_FR o_FR n_FR rfl rfl hO0 (by decide) w_2084 rfl rfl rfl rfl (Nat.le_of_ble_eq_true rfl) d_17_16_17 (fun H locs w3 hu4 hO0 V => ?_)
  replace hO0 : w3[kO0]? = (some (qO0, .inr (15, [.int 0, .ref qA1, .ref qA2, .ref qA3, .ref qA4, .ref qA5, .ref qA6, .ref qA7, .int (y1 + 1), .int 0, .int 0, .long 0, .int 52, .int 2047, .long 0, .int (-1074), .long 0, .int 0])) : Option (Nat × va_E)) := hO0
  replace hF := q_us hF hu4 (.head _)
  replace hA7 := (hu4 _ n_A7_O0).trans (hA7)
  exact q_retv C0 V (⟨hF, hO0, hA7⟩) d_17_16_20
set_option maxRecDepth 100000 in
set_option maxHeartbeats 4000000 in
theorem c_FR_add_24 (l : Launch) (D : va_G) (g : Nat → ClassId) (ws : va_W) (kO0 kA7 qO0 qA1 qA2 qA3 qA4 qA5 qA6 qA7 : Nat) (y1 : Int32) (f3 : Nat → Int32) (hO0 : ws[kO0]? = (some (qO0, .inr (15, [.int 0, .ref qA1, .ref qA2, .ref qA3, .ref qA4, .ref qA5, .ref qA6, .ref qA7, .int y1, .int 0, .int 0, .long 0, .int 52, .int 2047, .long 0, .int (-1074), .long 0, .int 0])) : Option (Nat × va_E))) (hA7 : ws[kA7]? = (some (qA7, .inl (g 0, 1600, .inl f3)) : Option (Nat × va_E))) (y1lo : 3 ≤ y1) (y1hi : y1 ≤ 802) : q_mV l y_FR_add prog_17_method_16_code 2 1 0 0 D g [.ref qO0, .int 43] ws (fun u => q_un ws u [kO0, kA7] ∧ u[kO0]? = (some (qO0, .inr (15, [.int 0, .ref qA1, .ref qA2, .ref qA3, .ref qA4, .ref qA5, .ref qA6, .ref qA7, .int (y1 + 1), .int 0, .int 0, .long 0, .int 52, .int 2047, .long 0, .int (-1074), .long 0, .int 0])) : Option (Nat × va_E)) ∧ u[kA7]? = (some (qA7, .inl (g 0, 1600, .inl (upd f3 y1.toNatClampNeg 43))) : Option (Nat × va_E))) := by
  intro sz
  refine q_into (by decide) (Nat.le_of_ble_eq_true rfl) ?_
  intro p e s m below meth c ls hsz C0 V hl
  have hx := C0.1
  have hb := C0.2.1
  have hl : lv_has ls 2 [(0, .ref qO0), (1, .int 43)] := hl
  have n_A7_O0 := q_df hA7 hO0
  have n_O0_A7 := Ne.symm (q_df hA7 hO0)
  have hF : q_un ws ws [kO0, kA7] := q_u0
  refine lv_aload_n hx hb d_17_16_0 rfl (lv_at hl 0 rfl) ?_
  refine q_get (ci := 15) (j := 7) (v := .ref qA7) C0 V i_FR rfl rfl hO0 (by decide) w_2082 rfl d_17_16_1 ?_
  refine lv_aload_n hx hb d_17_16_4 rfl (lv_at hl 0 rfl) ?_
  refine q_get (ci := 15) (j := 8) (v := .int y1) C0 V i_FR rfl rfl hO0 (by decide) w_2084 rfl d_17_16_5 ?_
  refine lv_iload_n hx hb d_17_16_8 rfl (lv_at hl 1 rfl) ?_
  refine q_iast C0 V hA7 (q_ix (x := y1.toInt) rfl (by have t1 : 3 ≤ y1.toInt := q_leI y1lo; have t2 : y1.toInt ≤ 802 := q_leI y1hi; omega) (by have t1 : 3 ≤ y1.toInt := q_leI y1lo; have t2 : y1.toInt ≤ 802 := q_leI y1hi; omega)) d_17_16_9 (fun H locs w1 hu2 hA7 V => ?_)
  replace hA7 : w1[kA7]? = (some (qA7, .inl (g 0, 1600, .inl (upd f3 y1.toNatClampNeg 43))) : Option (Nat × va_E)) := hA7
  replace hF := q_us hF hu2 (.tail _ (.head _))
  refine lv_aload_n hx hb d_17_16_10 rfl (lv_at hl 0 rfl) ?_
  refine lv_dup hx hb d_17_16_11 rfl ?_
  replace hO0 := (hu2 _ n_O0_A7).trans (hO0)
  refine q_get (ci := 15) (j := 8) (v := .int y1) C0 V i_FR rfl rfl hO0 (by decide) w_2084 rfl d_17_16_12 ?_
  refine lv_iconst (v := 1) hx hb d_17_16_15 (by decide) ?_
  refine lv_iadd hx hb d_17_16_16 ?_
  refine q_put (ci := 15) (j := 8) (v := .int (y1 + 1)) (ty := .int) C0 V i_FR o_FR n_FR rfl rfl hO0 (by decide) w_2084 rfl rfl rfl rfl (Nat.le_of_ble_eq_true rfl) d_17_16_17 (fun H locs w3 hu4 hO0 V => ?_)
  replace hO0 : w3[kO0]? = (some (qO0, .inr (15, [.int 0, .ref qA1, .ref qA2, .ref qA3, .ref qA4, .ref qA5, .ref qA6, .ref qA7, .int (y1 + 1), .int 0, .int 0, .long 0, .int 52, .int 2047, .long 0, .int (-1074), .long 0, .int 0])) : Option (Nat × va_E)) := hO0
  replace hF := q_us hF hu4 (.head _)
  replace hA7 := (hu4 _ n_A7_O0).trans (hA7)
  exact q_retv C0 V (⟨hF, hO0, hA7⟩) d_17_16_20
set_option maxRecDepth 100000 in
set_option maxHeartbeats 4000000 in
theorem c_FR_number_5 (l : Launch) (D : va_G) (g : Nat → ClassId) (ws : va_W) (kO0 kA7 qO0 qA1 qA2 qA3 qA4 qA5 qA6 qA7 : Nat) (y1 : Int32) (f3 : Nat → Int32) (hO0 : ws[kO0]? = (some (qO0, .inr (15, [.int 0, .ref qA1, .ref qA2, .ref qA3, .ref qA4, .ref qA5, .ref qA6, .ref qA7, .int y1, .int 0, .int 0, .long 0, .int 52, .int 2047, .long 0, .int (-1074), .long 0, .int 0])) : Option (Nat × va_E))) (hA7 : ws[kA7]? = (some (qA7, .inl (g 0, 1600, .inl f3)) : Option (Nat × va_E))) (y1lo : 5 ≤ y1) (y1hi : y1 ≤ 804) : q_mV l y_FR_number prog_17_method_19_code 3 2 0 0 D g [.ref qO0, .int 0] ws (fun u => q_un ws u [kO0, kA7] ∧ u[kO0]? = (some (qO0, .inr (15, [.int 0, .ref qA1, .ref qA2, .ref qA3, .ref qA4, .ref qA5, .ref qA6, .ref qA7, .int (y1 + 1), .int 0, .int 0, .long 0, .int 52, .int 2047, .long 0, .int (-1074), .long 0, .int 0])) : Option (Nat × va_E)) ∧ u[kA7]? = (some (qA7, .inl (g 0, 1600, .inl (upd f3 y1.toNatClampNeg 48))) : Option (Nat × va_E))) := by
  intro sz
  refine q_into (by decide) (Nat.le_of_ble_eq_true rfl) ?_
  intro p e s m below meth c ls hsz C0 V hl
  have hx := C0.1
  have hb := C0.2.1
  have hl : lv_has ls 3 [(0, .ref qO0), (1, .int 0)] := hl
  have hF : q_un ws ws [kO0, kA7] := q_u0
  refine lv_iconst (v := 1) hx hb d_17_19_0 (by decide) ?_
  refine lv_istore_n (lv' := [(2, .int 1), (0, .ref qO0), (1, .int 0)]) hx hb d_17_19_1 rfl hl (by decide) rfl (fun ls hl => ?_)
  refine lv_iload_n hx hb d_17_19_2 rfl (lv_at hl 2 rfl) ?_
  refine lv_iload_n hx hb d_17_19_3 rfl (lv_at hl 0 rfl) ?_
  refine lv_idiv hx hb d_17_19_4 (by decide) ?_
  refine q_ti (v := 0) (by decide) ?_
  refine lv_bipush (v := 9) hx hb d_17_19_5 (by decide) ?_
  refine lv_icmp_le (tgt := 18) hx hb d_17_19_7 (by decide) (fun c1 => ?_) (fun c1 => absurd (by decide) c1)
  refine lv_iload_n hx hb d_17_19_18 rfl (lv_at hl 0 rfl) ?_
  refine lv_if_le (tgt := 43) hx hb d_17_19_19 (by decide) (fun c2 => absurd c2 (by decide)) (fun c2 => ?_)
  refine lv_aload_n hx hb d_17_19_22 rfl (lv_at hl 1 rfl) ?_
  refine lv_bipush (v := 48) hx hb d_17_19_23 (by decide) ?_
  refine lv_iload_n hx hb d_17_19_25 rfl (lv_at hl 2 rfl) ?_
  refine lv_iload_n hx hb d_17_19_26 rfl (lv_at hl 0 rfl) ?_
  refine lv_idiv hx hb d_17_19_27 (by decide) ?_
  refine q_ti (v := 0) (by decide) ?_
  refine lv_bipush (v := 10) hx hb d_17_19_28 (by decide) ?_
  refine lv_irem hx hb d_17_19_30 (by decide) ?_
  refine q_ti (v := 0) (by decide) ?_
  refine lv_iadd hx hb d_17_19_31 ?_
  refine q_ti (v := 48) (by decide) ?_
  refine q_gov V (q_runV (As := [.int 48]) (rest := []) (d := 1) (mc := 0) (ms := 0) (ci := 15) C0 V rfl LV_FR_110 (c_FR_add_3 l D g ws kO0 kA7 qO0 qA1 qA2 qA3 qA4 qA5 qA6 qA7 y1 f3 hO0 hA7 (q_Ile (x := 2) (y := y1.toInt) (by decide) rfl (by have t1 : 5 ≤ y1.toInt := q_leI y1lo; have t2 : y1.toInt ≤ 804 := q_leI y1hi; omega)) (q_Ile (x := y1.toInt) (y := 1076) rfl (by decide) (by have t1 : 5 ≤ y1.toInt := q_leI y1lo; have t2 : y1.toInt ≤ 804 := q_leI y1hi; omega)) _) rfl rfl hO0 rfl hl.1 rfl (Nat.le_of_ble_eq_true rfl) ⟨by decide, by decide⟩ ⟨Nat.le_of_ble_eq_true rfl, Nat.le_of_ble_eq_true rfl⟩ d_17_19_32) (fun u4 H locs hp3 V => ?_)
  obtain ⟨hg5, hO0, hA7⟩ := hp3
  replace hF := q_uc hF hg5 (q_sc (.head _) (q_sc (.tail _ (.head _)) (fun _ h => absurd h List.not_mem_nil)))
  refine lv_iload_n hx hb d_17_19_35 rfl (lv_at hl 0 rfl) ?_
  refine lv_bipush (v := 10) hx hb d_17_19_36 (by decide) ?_
  refine lv_idiv hx hb d_17_19_38 (by decide) ?_
  refine q_ti (v := 0) (by decide) ?_
  refine lv_istore_n (lv' := [(2, .int 0), (0, .ref qO0), (1, .int 0)]) hx hb d_17_19_39 rfl hl (by decide) rfl (fun ls hl => ?_)
  refine lv_goto (tgt := 18) hx hb d_17_19_40 (by decide) ?_
  refine lv_iload_n hx hb d_17_19_18 rfl (lv_at hl 0 rfl) ?_
  refine lv_if_le (tgt := 43) hx hb d_17_19_19 (by decide) (fun c6 => ?_) (fun c6 => absurd (by decide) c6)
  exact q_retv C0 V (⟨hF, hO0, hA7⟩) d_17_19_43
set_option maxRecDepth 100000 in
set_option maxHeartbeats 4000000 in
theorem c_FR_add_25 (l : Launch) (D : va_G) (g : Nat → ClassId) (ws : va_W) (kO0 kA7 qO0 qA1 qA2 qA3 qA4 qA5 qA6 qA7 : Nat) (y1 : Int32) (f3 : Nat → Int32) (hO0 : ws[kO0]? = (some (qO0, .inr (15, [.int 0, .ref qA1, .ref qA2, .ref qA3, .ref qA4, .ref qA5, .ref qA6, .ref qA7, .int y1, .int 0, .int 0, .long 0, .int 52, .int 2047, .long 0, .int (-1074), .long 0, .int 0])) : Option (Nat × va_E))) (hA7 : ws[kA7]? = (some (qA7, .inl (g 0, 1600, .inl f3)) : Option (Nat × va_E))) (y1lo : 2 ≤ y1) (y1hi : y1 ≤ 801) : q_mV l y_FR_add prog_17_method_16_code 2 1 0 0 D g [.ref qO0, .int 101] ws (fun u => q_un ws u [kO0, kA7] ∧ u[kO0]? = (some (qO0, .inr (15, [.int 0, .ref qA1, .ref qA2, .ref qA3, .ref qA4, .ref qA5, .ref qA6, .ref qA7, .int (y1 + 1), .int 0, .int 0, .long 0, .int 52, .int 2047, .long 0, .int (-1074), .long 0, .int 0])) : Option (Nat × va_E)) ∧ u[kA7]? = (some (qA7, .inl (g 0, 1600, .inl (upd f3 y1.toNatClampNeg 101))) : Option (Nat × va_E))) := by
  intro sz
  refine q_into (by decide) (Nat.le_of_ble_eq_true rfl) ?_
  intro p e s m below meth c ls hsz C0 V hl
  have hx := C0.1
  have hb := C0.2.1
  have hl : lv_has ls 2 [(0, .ref qO0), (1, .int 101)] := hl
  have n_A7_O0 := q_df hA7 hO0
  have n_O0_A7 := Ne.symm (q_df hA7 hO0)
  have hF : q_un ws ws [kO0, kA7] := q_u0
  refine lv_aload_n hx hb d_17_16_0 rfl (lv_at hl 0 rfl) ?_
  refine q_get (ci := 15) (j := 7) (v := .ref qA7) C0 V i_FR rfl rfl hO0 (by decide) w_2082 rfl d_17_16_1 ?_
  refine lv_aload_n hx hb d_17_16_4 rfl (lv_at hl 0 rfl) ?_
  refine q_get (ci := 15) (j := 8) (v := .int y1) C0 V i_FR rfl rfl hO0 (by decide) w_2084 rfl d_17_16_5 ?_
  refine lv_iload_n hx hb d_17_16_8 rfl (lv_at hl 1 rfl) ?_
  refine q_iast C0 V hA7 (q_ix (x := y1.toInt) rfl (by have t1 : 2 ≤ y1.toInt := q_leI y1lo; have t2 : y1.toInt ≤ 801 := q_leI y1hi; omega) (by have t1 : 2 ≤ y1.toInt := q_leI y1lo; have t2 : y1.toInt ≤ 801 := q_leI y1hi; omega)) d_17_16_9 (fun H locs w1 hu2 hA7 V => ?_)
  replace hA7 : w1[kA7]? = (some (qA7, .inl (g 0, 1600, .inl (upd f3 y1.toNatClampNeg 101))) : Option (Nat × va_E)) := hA7
  replace hF := q_us hF hu2 (.tail _ (.head _))
  refine lv_aload_n hx hb d_17_16_10 rfl (lv_at hl 0 rfl) ?_
  refine lv_dup hx hb d_17_16_11 rfl ?_
  replace hO0 := (hu2 _ n_O0_A7).trans (hO0)
  refine q_get (ci := 15) (j := 8) (v := .int y1) C0 V i_FR rfl rfl hO0 (by decide) w_2084 rfl d_17_16_12 ?_
  refine lv_iconst (v := 1) hx hb d_17_16_15 (by decide) ?_
  refine lv_iadd hx hb d_17_16_16 ?_
  refine q_put (ci := 15) (j := 8) (v := .int (y1 + 1)) (ty := .int) C0 V i_FR o_FR n_FR rfl rfl hO0 (by decide) w_2084 rfl rfl rfl rfl (Nat.le_of_ble_eq_true rfl) d_17_16_17 (fun H locs w3 hu4 hO0 V => ?_)
  replace hO0 : w3[kO0]? = (some (qO0, .inr (15, [.int 0, .ref qA1, .ref qA2, .ref qA3, .ref qA4, .ref qA5, .ref qA6, .ref qA7, .int (y1 + 1), .int 0, .int 0, .long 0, .int 52, .int 2047, .long 0, .int (-1074), .long 0, .int 0])) : Option (Nat × va_E)) := hO0
  replace hF := q_us hF hu4 (.head _)
  replace hA7 := (hu4 _ n_A7_O0).trans (hA7)
  exact q_retv C0 V (⟨hF, hO0, hA7⟩) d_17_16_20
theorem d_17_30_0 : decode prog_17_method_30_code 0 = .ok (.aload_n 0, 1) := by decide +kernel
theorem d_17_30_1 : decode prog_17_method_30_code 1 = .ok (.lload_n 1, 1) := by decide +kernel
theorem d_17_30_2 : decode prog_17_method_30_code 2 = .ok (.iload_n 3, 1) := by decide +kernel
theorem d_17_30_3 : decode prog_17_method_30_code 3 = .ok (.ifCond .eq 15, 3) := by decide +kernel
theorem d_17_30_18 : decode prog_17_method_30_code 18 = .ok (.iconst 0, 1) := by decide +kernel
theorem d_17_30_19 : decode prog_17_method_30_code 19 = .ok (.invokevirtual 126, 3) := by decide +kernel
theorem d_17_30_22 : decode prog_17_method_30_code 22 = .ok (.aload_n 0, 1) := by decide +kernel
theorem d_17_30_23 : decode prog_17_method_30_code 23 = .ok (.lload_n 1, 1) := by decide +kernel
theorem d_17_30_24 : decode prog_17_method_30_code 24 = .ok (.iload_n 3, 1) := by decide +kernel
theorem d_17_30_25 : decode prog_17_method_30_code 25 = .ok (.invokestatic 122, 3) := by decide +kernel
theorem d_17_30_28 : decode prog_17_method_30_code 28 = .ok (.ifCond .ne 28, 3) := by decide +kernel
theorem d_17_30_31 : decode prog_17_method_30_code 31 = .ok (.iload 4, 2) := by decide +kernel
theorem d_17_30_33 : decode prog_17_method_30_code 33 = .ok (.iconst 1, 1) := by decide +kernel
theorem d_17_30_34 : decode prog_17_method_30_code 34 = .ok (.if_icmp .lt 22, 3) := by decide +kernel
theorem d_17_30_56 : decode prog_17_method_30_code 56 = .ok (.iconst 1, 1) := by decide +kernel
theorem d_17_30_57 : decode prog_17_method_30_code 57 = .ok (.goto 15, 3) := by decide +kernel
theorem d_17_30_72 : decode prog_17_method_30_code 72 = .ok (.putfield 31, 3) := by decide +kernel
theorem d_17_30_75 : decode prog_17_method_30_code 75 = .ok (.aload_n 0, 1) := by decide +kernel
theorem d_17_30_76 : decode prog_17_method_30_code 76 = .ok (.getfield 31, 3) := by decide +kernel
theorem d_17_30_79 : decode prog_17_method_30_code 79 = .ok (.ifCond .le 5, 3) := by decide +kernel
theorem d_17_30_82 : decode prog_17_method_30_code 82 = .ok (.iconst 0, 1) := by decide +kernel
theorem d_17_30_83 : decode prog_17_method_30_code 83 = .ok (.ireturn, 1) := by decide +kernel
theorem d_17_30_37 : decode prog_17_method_30_code 37 = .ok (.iload 4, 2) := by decide +kernel
theorem d_17_30_39 : decode prog_17_method_30_code 39 = .ok (.sipush 800, 3) := by decide +kernel
theorem d_17_30_42 : decode prog_17_method_30_code 42 = .ok (.if_icmp .gt 14, 3) := by decide +kernel
theorem d_17_30_45 : decode prog_17_method_30_code 45 = .ok (.iload 5, 2) := by decide +kernel
theorem d_17_30_47 : decode prog_17_method_30_code 47 = .ok (.ifCond .lt 9, 3) := by decide +kernel
theorem d_17_30_50 : decode prog_17_method_30_code 50 = .ok (.iload 5, 2) := by decide +kernel
theorem d_17_30_52 : decode prog_17_method_30_code 52 = .ok (.iconst 3, 1) := by decide +kernel
theorem d_17_30_53 : decode prog_17_method_30_code 53 = .ok (.if_icmp .le 7, 3) := by decide +kernel
theorem d_17_30_60 : decode prog_17_method_30_code 60 = .ok (.aload_n 0, 1) := by decide +kernel
theorem d_17_30_61 : decode prog_17_method_30_code 61 = .ok (.invokevirtual 130, 3) := by decide +kernel
theorem d_17_30_64 : decode prog_17_method_30_code 64 = .ok (.ifCond .ne 7, 3) := by decide +kernel
theorem d_17_30_71 : decode prog_17_method_30_code 71 = .ok (.iconst 0, 1) := by decide +kernel
theorem d_17_30_84 : decode prog_17_method_30_code 84 = .ok (.aload_n 0, 1) := by decide +kernel
theorem d_17_30_85 : decode prog_17_method_30_code 85 = .ok (.invokevirtual 162, 3) := by decide +kernel
theorem d_17_30_88 : decode prog_17_method_30_code 88 = .ok (.aload_n 0, 1) := by decide +kernel
theorem d_17_30_89 : decode prog_17_method_30_code 89 = .ok (.getfield 52, 3) := by decide +kernel
theorem d_17_30_92 : decode prog_17_method_30_code 92 = .ok (.lconst 0, 1) := by decide +kernel
theorem d_17_30_93 : decode prog_17_method_30_code 93 = .ok (.lcmp, 1) := by decide +kernel
theorem d_17_30_94 : decode prog_17_method_30_code 94 = .ok (.ifCond .ne 9, 3) := by decide +kernel
theorem d_17_30_97 : decode prog_17_method_30_code 97 = .ok (.sipush 1080, 3) := by decide +kernel
theorem d_17_30_100 : decode prog_17_method_30_code 100 = .ok (.goto 7, 3) := by decide +kernel
theorem d_17_30_107 : decode prog_17_method_30_code 107 = .ok (.istore 6, 2) := by decide +kernel
theorem d_17_30_109 : decode prog_17_method_30_code 109 = .ok (.iload 6, 2) := by decide +kernel
theorem d_17_30_111 : decode prog_17_method_30_code 111 = .ok (.iload 4, 2) := by decide +kernel
theorem d_17_30_113 : decode prog_17_method_30_code 113 = .ok (.isub, 1) := by decide +kernel
theorem d_17_30_114 : decode prog_17_method_30_code 114 = .ok (.iconst 1, 1) := by decide +kernel
theorem d_17_30_115 : decode prog_17_method_30_code 115 = .ok (.iadd, 1) := by decide +kernel
theorem d_17_30_116 : decode prog_17_method_30_code 116 = .ok (.ifCond .ge 7, 3) := by decide +kernel
theorem d_17_30_123 : decode prog_17_method_30_code 123 = .ok (.iload 6, 2) := by decide +kernel
theorem d_17_30_125 : decode prog_17_method_30_code 125 = .ok (.iload 4, 2) := by decide +kernel
theorem d_17_30_127 : decode prog_17_method_30_code 127 = .ok (.isub, 1) := by decide +kernel
theorem d_17_30_128 : decode prog_17_method_30_code 128 = .ok (.iconst 1, 1) := by decide +kernel
theorem d_17_30_129 : decode prog_17_method_30_code 129 = .ok (.iadd, 1) := by decide +kernel
theorem d_17_30_130 : decode prog_17_method_30_code 130 = .ok (.istore 7, 2) := by decide +kernel
theorem d_17_30_132 : decode prog_17_method_30_code 132 = .ok (.aload_n 0, 1) := by decide +kernel
theorem d_17_30_133 : decode prog_17_method_30_code 133 = .ok (.iload 7, 2) := by decide +kernel
theorem d_17_30_135 : decode prog_17_method_30_code 135 = .ok (.aload_n 0, 1) := by decide +kernel
theorem d_17_30_136 : decode prog_17_method_30_code 136 = .ok (.iload 7, 2) := by decide +kernel
theorem d_17_30_138 : decode prog_17_method_30_code 138 = .ok (.iload 5, 2) := by decide +kernel
theorem d_17_30_140 : decode prog_17_method_30_code 140 = .ok (.invokevirtual 165, 3) := by decide +kernel
theorem d_17_30_143 : decode prog_17_method_30_code 143 = .ok (.invokevirtual 81, 3) := by decide +kernel
theorem d_17_30_146 : decode prog_17_method_30_code 146 = .ok (.aload_n 0, 1) := by decide +kernel
theorem d_17_30_147 : decode prog_17_method_30_code 147 = .ok (.getfield 25, 3) := by decide +kernel
theorem d_17_30_150 : decode prog_17_method_30_code 150 = .ok (.iload 6, 2) := by decide +kernel
theorem d_17_30_152 : decode prog_17_method_30_code 152 = .ok (.iconst 1, 1) := by decide +kernel
theorem d_17_30_153 : decode prog_17_method_30_code 153 = .ok (.iadd, 1) := by decide +kernel
theorem d_17_30_154 : decode prog_17_method_30_code 154 = .ok (.iaload, 1) := by decide +kernel
theorem d_17_30_155 : decode prog_17_method_30_code 155 = .ok (.iconst 1, 1) := by decide +kernel
theorem d_17_30_156 : decode prog_17_method_30_code 156 = .ok (.if_icmp .ne 19, 3) := by decide +kernel
theorem d_17_30_175 : decode prog_17_method_30_code 175 = .ok (.iload 6, 2) := by decide +kernel
theorem d_17_30_177 : decode prog_17_method_30_code 177 = .ok (.istore 6, 2) := by decide +kernel
theorem d_17_30_179 : decode prog_17_method_30_code 179 = .ok (.aload_n 0, 1) := by decide +kernel
theorem d_17_30_180 : decode prog_17_method_30_code 180 = .ok (.invokevirtual 113, 3) := by decide +kernel
theorem d_17_30_183 : decode prog_17_method_30_code 183 = .ok (.iconst 0, 1) := by decide +kernel
theorem d_17_30_184 : decode prog_17_method_30_code 184 = .ok (.istore 8, 2) := by decide +kernel
theorem d_17_30_186 : decode prog_17_method_30_code 186 = .ok (.iload 8, 2) := by decide +kernel
theorem d_17_30_188 : decode prog_17_method_30_code 188 = .ok (.iload 4, 2) := by decide +kernel
theorem d_17_30_190 : decode prog_17_method_30_code 190 = .ok (.if_icmp .ge 46, 3) := by decide +kernel
theorem d_17_30_193 : decode prog_17_method_30_code 193 = .ok (.aload_n 0, 1) := by decide +kernel
theorem d_17_30_194 : decode prog_17_method_30_code 194 = .ok (.bipush 48, 2) := by decide +kernel
theorem d_17_30_196 : decode prog_17_method_30_code 196 = .ok (.aload_n 0, 1) := by decide +kernel
theorem d_17_30_197 : decode prog_17_method_30_code 197 = .ok (.iload 6, 2) := by decide +kernel
theorem d_17_30_199 : decode prog_17_method_30_code 199 = .ok (.sipush 1080, 3) := by decide +kernel
theorem d_17_30_202 : decode prog_17_method_30_code 202 = .ok (.isub, 1) := by decide +kernel
theorem d_17_30_203 : decode prog_17_method_30_code 203 = .ok (.iload 8, 2) := by decide +kernel
theorem d_17_30_205 : decode prog_17_method_30_code 205 = .ok (.isub, 1) := by decide +kernel
theorem d_17_30_206 : decode prog_17_method_30_code 206 = .ok (.invokevirtual 169, 3) := by decide +kernel
theorem d_17_30_209 : decode prog_17_method_30_code 209 = .ok (.iadd, 1) := by decide +kernel
theorem d_17_30_210 : decode prog_17_method_30_code 210 = .ok (.invokevirtual 110, 3) := by decide +kernel
theorem d_17_30_213 : decode prog_17_method_30_code 213 = .ok (.iload 8, 2) := by decide +kernel
theorem d_17_30_215 : decode prog_17_method_30_code 215 = .ok (.ifCond .ne 15, 3) := by decide +kernel
theorem d_17_30_218 : decode prog_17_method_30_code 218 = .ok (.iload 4, 2) := by decide +kernel
theorem d_17_30_220 : decode prog_17_method_30_code 220 = .ok (.iconst 1, 1) := by decide +kernel
theorem d_17_30_221 : decode prog_17_method_30_code 221 = .ok (.if_icmp .le 9, 3) := by decide +kernel
theorem d_17_30_230 : decode prog_17_method_30_code 230 = .ok (.iinc 8 1, 3) := by decide +kernel
theorem d_17_30_233 : decode prog_17_method_30_code 233 = .ok (.goto (-47), 3) := by decide +kernel
theorem d_17_30_236 : decode prog_17_method_30_code 236 = .ok (.iload 6, 2) := by decide +kernel
theorem d_17_30_238 : decode prog_17_method_30_code 238 = .ok (.sipush 1080, 3) := by decide +kernel
theorem d_17_30_241 : decode prog_17_method_30_code 241 = .ok (.isub, 1) := by decide +kernel
theorem d_17_30_242 : decode prog_17_method_30_code 242 = .ok (.istore 8, 2) := by decide +kernel
theorem d_17_30_244 : decode prog_17_method_30_code 244 = .ok (.aload_n 0, 1) := by decide +kernel
theorem d_17_30_245 : decode prog_17_method_30_code 245 = .ok (.bipush 101, 2) := by decide +kernel
theorem d_17_30_247 : decode prog_17_method_30_code 247 = .ok (.invokevirtual 110, 3) := by decide +kernel
theorem d_17_30_250 : decode prog_17_method_30_code 250 = .ok (.aload_n 0, 1) := by decide +kernel
theorem d_17_30_251 : decode prog_17_method_30_code 251 = .ok (.iload 8, 2) := by decide +kernel
theorem d_17_30_253 : decode prog_17_method_30_code 253 = .ok (.ifCond .ge 8, 3) := by decide +kernel
theorem d_17_30_261 : decode prog_17_method_30_code 261 = .ok (.bipush 43, 2) := by decide +kernel
theorem d_17_30_263 : decode prog_17_method_30_code 263 = .ok (.invokevirtual 110, 3) := by decide +kernel
theorem d_17_30_266 : decode prog_17_method_30_code 266 = .ok (.iload 8, 2) := by decide +kernel
theorem d_17_30_268 : decode prog_17_method_30_code 268 = .ok (.ifCond .ge 9, 3) := by decide +kernel
theorem d_17_30_277 : decode prog_17_method_30_code 277 = .ok (.iload 8, 2) := by decide +kernel
theorem d_17_30_279 : decode prog_17_method_30_code 279 = .ok (.istore 8, 2) := by decide +kernel
theorem d_17_30_281 : decode prog_17_method_30_code 281 = .ok (.iload 8, 2) := by decide +kernel
theorem d_17_30_283 : decode prog_17_method_30_code 283 = .ok (.bipush 10, 2) := by decide +kernel
theorem d_17_30_285 : decode prog_17_method_30_code 285 = .ok (.if_icmp .ge 9, 3) := by decide +kernel
theorem d_17_30_288 : decode prog_17_method_30_code 288 = .ok (.aload_n 0, 1) := by decide +kernel
theorem d_17_30_289 : decode prog_17_method_30_code 289 = .ok (.bipush 48, 2) := by decide +kernel
theorem d_17_30_291 : decode prog_17_method_30_code 291 = .ok (.invokevirtual 110, 3) := by decide +kernel
theorem d_17_30_294 : decode prog_17_method_30_code 294 = .ok (.aload_n 0, 1) := by decide +kernel
theorem d_17_30_295 : decode prog_17_method_30_code 295 = .ok (.iload 8, 2) := by decide +kernel
theorem d_17_30_297 : decode prog_17_method_30_code 297 = .ok (.invokevirtual 149, 3) := by decide +kernel
theorem d_17_30_300 : decode prog_17_method_30_code 300 = .ok (.aload_n 0, 1) := by decide +kernel
theorem d_17_30_301 : decode prog_17_method_30_code 301 = .ok (.getfield 107, 3) := by decide +kernel
theorem d_17_30_304 : decode prog_17_method_30_code 304 = .ok (.ireturn, 1) := by decide +kernel
theorem d_17_30_224 : decode prog_17_method_30_code 224 = .ok (.aload_n 0, 1) := by decide +kernel
theorem d_17_30_225 : decode prog_17_method_30_code 225 = .ok (.bipush 46, 2) := by decide +kernel
theorem d_17_30_227 : decode prog_17_method_30_code 227 = .ok (.invokevirtual 110, 3) := by decide +kernel
def y_FR_scientific : MethodName := ⟨"NumberHouseModel$FloatRows", "scientific", "(JZII)I"⟩
set_option maxRecDepth 100000 in
set_option maxHeartbeats 4000000 in
theorem c_FR_scientific (l : Launch) (D : va_G) (g : Nat → ClassId) (ws : va_W) (kO0 kA1 kA2 kA3 kA6 kA7 qO0 qA1 qA2 qA3 qA4 qA5 qA6 qA7 : Nat) (x1 : Int32) (x2 : Int32) (hO0 : ws[kO0]? = (some (qO0, .inr (15, [.int 0, .ref qA1, .ref qA2, .ref qA3, .ref qA4, .ref qA5, .ref qA6, .ref qA7, .int 0, .int 0, .int 0, .long 0, .int 0, .int 0, .long 0, .int 0, .long 0, .int 0])) : Option (Nat × va_E))) (hA1 : ws[kA1]? = (some (qA1, .inl (g 0, 156, .inl (fun _ => 0))) : Option (Nat × va_E))) (hA2 : ws[kA2]? = (some (qA2, .inl (g 0, 156, .inl (fun _ => 0))) : Option (Nat × va_E))) (hA3 : ws[kA3]? = (some (qA3, .inl (g 0, 1404, .inl (fun _ => 0))) : Option (Nat × va_E))) (hA6 : ws[kA6]? = (some (qA6, .inl (g 0, 1404, .inl (fun _ => 0))) : Option (Nat × va_E))) (hA7 : ws[kA7]? = (some (qA7, .inl (g 0, 1600, .inl (fun _ => 0))) : Option (Nat × va_E))) (n_A1_A2 : kA1 ≠ kA2) (n_A1_A3 : kA1 ≠ kA3) (n_A1_A6 : kA1 ≠ kA6) (n_A1_A7 : kA1 ≠ kA7) (n_A2_A6 : kA2 ≠ kA6) (n_A2_A7 : kA2 ≠ kA7) (n_A3_A2 : kA3 ≠ kA2) (n_A3_A6 : kA3 ≠ kA6) (n_A3_A7 : kA3 ≠ kA7) (n_A6_A7 : kA6 ≠ kA7) : q_mI l y_FR_scientific prog_17_method_30_code 9 (.int) 3 0 0 D g [.ref qO0, .long 0, .int 0, .int x1, .int x2] ws (fun r u => (x1 < 1 ∧ 0 = r ∧ q_un ws u [kO0, kA1, kA2, kA3, kA6, kA7] ∧ u[kO0]? = (some (qO0, .inr (15, [.int 1, .ref qA1, .ref qA2, .ref qA3, .ref qA4, .ref qA5, .ref qA6, .ref qA7, .int 0, .int 0, .int 0, .long 0, .int 52, .int 2047, .long 0, .int (-1074), .long 0, .int 0])) : Option (Nat × va_E)) ∧ u[kA1]? = (some (qA1, .inl (g 0, 156, .inl (fun _ => 0))) : Option (Nat × va_E)) ∧ u[kA2]? = (some (qA2, .inl (g 0, 156, .inl (fun _ => 0))) : Option (Nat × va_E)) ∧ u[kA3]? = (some (qA3, .inl (g 0, 1404, .inl (fun _ => 0))) : Option (Nat × va_E)) ∧ u[kA6]? = (some (qA6, .inl (g 0, 1404, .inl (fun _ => 0))) : Option (Nat × va_E)) ∧ u[kA7]? = (some (qA7, .inl (g 0, 1600, .inl (fun _ => 0))) : Option (Nat × va_E))) ∨ (¬ x1 < 1 ∧ 800 < x1 ∧ 0 = r ∧ q_un ws u [kO0, kA1, kA2, kA3, kA6, kA7] ∧ u[kO0]? = (some (qO0, .inr (15, [.int 1, .ref qA1, .ref qA2, .ref qA3, .ref qA4, .ref qA5, .ref qA6, .ref qA7, .int 0, .int 0, .int 0, .long 0, .int 52, .int 2047, .long 0, .int (-1074), .long 0, .int 0])) : Option (Nat × va_E)) ∧ u[kA1]? = (some (qA1, .inl (g 0, 156, .inl (fun _ => 0))) : Option (Nat × va_E)) ∧ u[kA2]? = (some (qA2, .inl (g 0, 156, .inl (fun _ => 0))) : Option (Nat × va_E)) ∧ u[kA3]? = (some (qA3, .inl (g 0, 1404, .inl (fun _ => 0))) : Option (Nat × va_E)) ∧ u[kA6]? = (some (qA6, .inl (g 0, 1404, .inl (fun _ => 0))) : Option (Nat × va_E)) ∧ u[kA7]? = (some (qA7, .inl (g 0, 1600, .inl (fun _ => 0))) : Option (Nat × va_E))) ∨ (¬ x1 < 1 ∧ ¬ 800 < x1 ∧ x2 < 0 ∧ 0 = r ∧ q_un ws u [kO0, kA1, kA2, kA3, kA6, kA7] ∧ u[kO0]? = (some (qO0, .inr (15, [.int 1, .ref qA1, .ref qA2, .ref qA3, .ref qA4, .ref qA5, .ref qA6, .ref qA7, .int 0, .int 0, .int 0, .long 0, .int 52, .int 2047, .long 0, .int (-1074), .long 0, .int 0])) : Option (Nat × va_E)) ∧ u[kA1]? = (some (qA1, .inl (g 0, 156, .inl (fun _ => 0))) : Option (Nat × va_E)) ∧ u[kA2]? = (some (qA2, .inl (g 0, 156, .inl (fun _ => 0))) : Option (Nat × va_E)) ∧ u[kA3]? = (some (qA3, .inl (g 0, 1404, .inl (fun _ => 0))) : Option (Nat × va_E)) ∧ u[kA6]? = (some (qA6, .inl (g 0, 1404, .inl (fun _ => 0))) : Option (Nat × va_E)) ∧ u[kA7]? = (some (qA7, .inl (g 0, 1600, .inl (fun _ => 0))) : Option (Nat × va_E))) ∨ (∃ (ex0 : Nat → Int32), ¬ x1 < 1 ∧ ¬ 800 < x1 ∧ ¬ x2 < 0 ∧ x2 ≤ 3 ∧ x1 ≤ 1 ∧ (3 + 1) + 1 = r ∧ q_un ws u [kO0, kA1, kA2, kA3, kA6, kA7] ∧ u[kO0]? = (some (qO0, .inr (15, [.int 0, .ref qA1, .ref qA2, .ref qA3, .ref qA4, .ref qA5, .ref qA6, .ref qA7, .int ((3 + 1) + 1), .int 0, .int 0, .long 0, .int 52, .int 2047, .long 0, .int (-1074), .long 0, .int 0])) : Option (Nat × va_E)) ∧ u[kA1]? = (some (qA1, .inl (g 0, 156, .inl ex0)) : Option (Nat × va_E)) ∧ u[kA2]? = (some (qA2, .inl (g 0, 156, .inl (fun _ => 0))) : Option (Nat × va_E)) ∧ u[kA3]? = (some (qA3, .inl (g 0, 1404, .inl (fun _ => 0))) : Option (Nat × va_E)) ∧ u[kA6]? = (some (qA6, .inl (g 0, 1404, .inl (fun _ => 0))) : Option (Nat × va_E)) ∧ u[kA7]? = (some (qA7, .inl (g 0, 1600, .inl (upd (upd (upd (upd (upd (fun _ => 0) 0 48) 1 101) 2 43) (3 : Int32).toNatClampNeg 48) (3 + 1 : Int32).toNatClampNeg 48))) : Option (Nat × va_E))) ∨ (∃ (ex0 : Int32) (ex1 : Nat → Int32) (ex2 : Nat → Int32), ¬ x1 < 1 ∧ ¬ 800 < x1 ∧ ¬ x2 < 0 ∧ x2 ≤ 3 ∧ ¬ x1 ≤ 1 ∧ ((x1.toInt < 1 ∧ ex0.toInt = 2) ∨ (1 ≤ x1.toInt ∧ ex0.toInt = 2 + 1 * (x1.toInt - 1))) ∧ 2 ≤ ex0 ∧ ex0 ≤ 801 ∧ (((ex0 + 1) + 1) + 1) + 1 = r ∧ q_un ws u [kO0, kA1, kA2, kA3, kA6, kA7] ∧ u[kO0]? = (some (qO0, .inr (15, [.int 0, .ref qA1, .ref qA2, .ref qA3, .ref qA4, .ref qA5, .ref qA6, .ref qA7, .int ((((ex0 + 1) + 1) + 1) + 1), .int 0, .int 0, .long 0, .int 52, .int 2047, .long 0, .int (-1074), .long 0, .int 0])) : Option (Nat × va_E)) ∧ u[kA1]? = (some (qA1, .inl (g 0, 156, .inl ex1)) : Option (Nat × va_E)) ∧ u[kA2]? = (some (qA2, .inl (g 0, 156, .inl (fun _ => 0))) : Option (Nat × va_E)) ∧ u[kA3]? = (some (qA3, .inl (g 0, 1404, .inl (fun _ => 0))) : Option (Nat × va_E)) ∧ u[kA6]? = (some (qA6, .inl (g 0, 1404, .inl (fun _ => 0))) : Option (Nat × va_E)) ∧ u[kA7]? = (some (qA7, .inl (g 0, 1600, .inl (upd (upd (upd (upd ex2 ex0.toNatClampNeg 101) (ex0 + 1).toNatClampNeg 43) ((ex0 + 1) + 1).toNatClampNeg 48) (((ex0 + 1) + 1) + 1).toNatClampNeg 48))) : Option (Nat × va_E))) ∨ (¬ x1 < 1 ∧ ¬ 800 < x1 ∧ ¬ x2 < 0 ∧ ¬ x2 ≤ 3 ∧ 0 = r ∧ q_un ws u [kO0, kA1, kA2, kA3, kA6, kA7] ∧ u[kO0]? = (some (qO0, .inr (15, [.int 1, .ref qA1, .ref qA2, .ref qA3, .ref qA4, .ref qA5, .ref qA6, .ref qA7, .int 0, .int 0, .int 0, .long 0, .int 52, .int 2047, .long 0, .int (-1074), .long 0, .int 0])) : Option (Nat × va_E)) ∧ u[kA1]? = (some (qA1, .inl (g 0, 156, .inl (fun _ => 0))) : Option (Nat × va_E)) ∧ u[kA2]? = (some (qA2, .inl (g 0, 156, .inl (fun _ => 0))) : Option (Nat × va_E)) ∧ u[kA3]? = (some (qA3, .inl (g 0, 1404, .inl (fun _ => 0))) : Option (Nat × va_E)) ∧ u[kA6]? = (some (qA6, .inl (g 0, 1404, .inl (fun _ => 0))) : Option (Nat × va_E)) ∧ u[kA7]? = (some (qA7, .inl (g 0, 1600, .inl (fun _ => 0))) : Option (Nat × va_E)))) := by
  intro sz
  refine q_into (by decide) (Nat.le_of_ble_eq_true rfl) ?_
  intro p e s m below meth c ls hsz C0 V hl
  have hx := C0.1
  have hb := C0.2.1
  have hl : lv_has ls 9 [(0, .ref qO0), (1, .long 0), (3, .int 0), (4, .int x1), (5, .int x2)] := hl
  have n_A1_O0 := q_df hA1 hO0
  have n_A2_O0 := q_df hA2 hO0
  have n_A3_O0 := q_df hA3 hO0
  have n_A6_A1 := Ne.symm n_A1_A6
  have n_A6_A2 := Ne.symm n_A2_A6
  have n_A6_A3 := Ne.symm n_A3_A6
  have n_A6_O0 := q_df hA6 hO0
  have n_A7_A1 := Ne.symm n_A1_A7
  have n_A7_A2 := Ne.symm n_A2_A7
  have n_A7_A3 := Ne.symm n_A3_A7
  have n_A7_A6 := Ne.symm n_A6_A7
  have n_A7_O0 := q_df hA7 hO0
  have n_O0_A1 := Ne.symm (q_df hA1 hO0)
  have n_O0_A2 := Ne.symm (q_df hA2 hO0)
  have n_O0_A3 := Ne.symm (q_df hA3 hO0)
  have n_O0_A6 := Ne.symm (q_df hA6 hO0)
  have hF : q_un ws ws [kO0, kA1, kA2, kA3, kA6, kA7] := q_u0
  refine lv_aload_n hx hb d_17_30_0 rfl (lv_at hl 0 rfl) ?_
  refine lv_lload_n hx hb d_17_30_1 rfl (lv_at hl 1 rfl) ?_
  refine lv_iload_n hx hb d_17_30_2 rfl (lv_at hl 2 rfl) ?_
  refine lv_if_eq (tgt := 18) hx hb d_17_30_3 (by decide) (fun c1 => ?_) (fun c1 => absurd (by decide) c1)
  refine lv_iconst (v := 0) hx hb d_17_30_18 (by decide) ?_
  refine q_gov V (q_runV (As := [.long 0, .int 0]) (rest := []) (d := 1) (mc := 0) (ms := 0) (ci := 15) C0 V rfl LV_FR_126 (c_FR_open l D g ws kO0 qO0 qA1 qA2 qA3 qA4 qA5 qA6 qA7 hO0 _) rfl rfl hO0 rfl hl.1 rfl (Nat.le_of_ble_eq_true rfl) ⟨by decide, by decide⟩ ⟨Nat.le_of_ble_eq_true rfl, Nat.le_of_ble_eq_true rfl⟩ d_17_30_19) (fun u3 H locs hp2 V => ?_)
  obtain ⟨hg4, hO0⟩ := hp2
  replace hF := q_uc hF hg4 (q_sc (.head _) (fun _ h => absurd h List.not_mem_nil))
  refine lv_aload_n hx hb d_17_30_22 rfl (lv_at hl 0 rfl) ?_
  refine lv_lload_n hx hb d_17_30_23 rfl (lv_at hl 1 rfl) ?_
  refine lv_iload_n hx hb d_17_30_24 rfl (lv_at hl 2 rfl) ?_
  refine q_goi V (q_runS (As := [.long 0, .int 0]) (rest := [.ref qO0]) (d := 1) (mc := 0) (ms := 0) C0 V rfl LS_FR_122 (c_FR_isWrong l D g u3 _) rfl hl.1 rfl (Nat.le_of_ble_eq_true rfl) ⟨by decide, by decide⟩ ⟨Nat.le_of_ble_eq_true rfl, Nat.le_of_ble_eq_true rfl⟩ d_17_30_25) (fun v7 u6 H locs hp5 V => ?_)
  obtain ⟨rfl, rfl⟩ := hp5
  refine lv_if_ne (tgt := 56) hx hb d_17_30_28 (by decide) (fun c9 => absurd (by decide) c9) (fun c9 => ?_)
  refine lv_iload hx hb d_17_30_31 (lv_at hl 3 rfl) ?_
  refine lv_iconst (v := 1) hx hb d_17_30_33 (by decide) ?_
  refine lv_icmp_lt (tgt := 56) hx hb d_17_30_34 (by decide) (fun c10 => ?_) (fun c10 => ?_)
  ·
    refine lv_iconst (v := 1) hx hb d_17_30_56 (by decide) ?_
    refine lv_goto (tgt := 72) hx hb d_17_30_57 (by decide) ?_
    refine q_put (ci := 15) (j := 0) (v := .int 1) (ty := .int) C0 V i_FR o_FR n_FR rfl rfl hO0 (by decide) w_2074 rfl rfl rfl rfl (Nat.le_of_ble_eq_true rfl) d_17_30_72 (fun H locs w11 hu12 hO0 V => ?_)
    replace hO0 : w11[kO0]? = (some (qO0, .inr (15, [.int 1, .ref qA1, .ref qA2, .ref qA3, .ref qA4, .ref qA5, .ref qA6, .ref qA7, .int 0, .int 0, .int 0, .long 0, .int 52, .int 2047, .long 0, .int (-1074), .long 0, .int 0])) : Option (Nat × va_E)) := hO0
    replace hF := q_us hF hu12 (.head _)
    refine lv_aload_n hx hb d_17_30_75 rfl (lv_at hl 0 rfl) ?_
    refine q_get (ci := 15) (j := 0) (v := .int 1) C0 V i_FR rfl rfl hO0 (by decide) w_2074 rfl d_17_30_76 ?_
    refine lv_if_le (tgt := 84) hx hb d_17_30_79 (by decide) (fun c13 => absurd c13 (by decide)) (fun c13 => ?_)
    refine lv_iconst (v := 0) hx hb d_17_30_82 (by decide) ?_
    replace hA1 := (hu12 _ n_A1_O0).trans ((hg4 _ (q_nc n_A1_O0 List.not_mem_nil)).trans (hA1))
    replace hA2 := (hu12 _ n_A2_O0).trans ((hg4 _ (q_nc n_A2_O0 List.not_mem_nil)).trans (hA2))
    replace hA3 := (hu12 _ n_A3_O0).trans ((hg4 _ (q_nc n_A3_O0 List.not_mem_nil)).trans (hA3))
    replace hA6 := (hu12 _ n_A6_O0).trans ((hg4 _ (q_nc n_A6_O0 List.not_mem_nil)).trans (hA6))
    replace hA7 := (hu12 _ n_A7_O0).trans ((hg4 _ (q_nc n_A7_O0 List.not_mem_nil)).trans (hA7))
    exact q_reti C0 V (Or.inl ⟨c10, rfl, hF, hO0, hA1, hA2, hA3, hA6, hA7⟩) d_17_30_83
  ·
    refine lv_iload hx hb d_17_30_37 (lv_at hl 3 rfl) ?_
    refine lv_sipush (v := 800) hx hb d_17_30_39 (by decide) ?_
    refine lv_icmp_gt (tgt := 56) hx hb d_17_30_42 (by decide) (fun c14 => ?_) (fun c14 => ?_)
    ·
      refine lv_iconst (v := 1) hx hb d_17_30_56 (by decide) ?_
      refine lv_goto (tgt := 72) hx hb d_17_30_57 (by decide) ?_
      refine q_put (ci := 15) (j := 0) (v := .int 1) (ty := .int) C0 V i_FR o_FR n_FR rfl rfl hO0 (by decide) w_2074 rfl rfl rfl rfl (Nat.le_of_ble_eq_true rfl) d_17_30_72 (fun H locs w15 hu16 hO0 V => ?_)
      replace hO0 : w15[kO0]? = (some (qO0, .inr (15, [.int 1, .ref qA1, .ref qA2, .ref qA3, .ref qA4, .ref qA5, .ref qA6, .ref qA7, .int 0, .int 0, .int 0, .long 0, .int 52, .int 2047, .long 0, .int (-1074), .long 0, .int 0])) : Option (Nat × va_E)) := hO0
      replace hF := q_us hF hu16 (.head _)
      refine lv_aload_n hx hb d_17_30_75 rfl (lv_at hl 0 rfl) ?_
      refine q_get (ci := 15) (j := 0) (v := .int 1) C0 V i_FR rfl rfl hO0 (by decide) w_2074 rfl d_17_30_76 ?_
      refine lv_if_le (tgt := 84) hx hb d_17_30_79 (by decide) (fun c17 => absurd c17 (by decide)) (fun c17 => ?_)
      refine lv_iconst (v := 0) hx hb d_17_30_82 (by decide) ?_
      replace hA1 := (hu16 _ n_A1_O0).trans ((hg4 _ (q_nc n_A1_O0 List.not_mem_nil)).trans (hA1))
      replace hA2 := (hu16 _ n_A2_O0).trans ((hg4 _ (q_nc n_A2_O0 List.not_mem_nil)).trans (hA2))
      replace hA3 := (hu16 _ n_A3_O0).trans ((hg4 _ (q_nc n_A3_O0 List.not_mem_nil)).trans (hA3))
      replace hA6 := (hu16 _ n_A6_O0).trans ((hg4 _ (q_nc n_A6_O0 List.not_mem_nil)).trans (hA6))
      replace hA7 := (hu16 _ n_A7_O0).trans ((hg4 _ (q_nc n_A7_O0 List.not_mem_nil)).trans (hA7))
      exact q_reti C0 V (Or.inr (Or.inl ⟨c10, c14, rfl, hF, hO0, hA1, hA2, hA3, hA6, hA7⟩)) d_17_30_83
    ·
      refine lv_iload hx hb d_17_30_45 (lv_at hl 4 rfl) ?_
      refine lv_if_lt (tgt := 56) hx hb d_17_30_47 (by decide) (fun c18 => ?_) (fun c18 => ?_)
      ·
        refine lv_iconst (v := 1) hx hb d_17_30_56 (by decide) ?_
        refine lv_goto (tgt := 72) hx hb d_17_30_57 (by decide) ?_
        refine q_put (ci := 15) (j := 0) (v := .int 1) (ty := .int) C0 V i_FR o_FR n_FR rfl rfl hO0 (by decide) w_2074 rfl rfl rfl rfl (Nat.le_of_ble_eq_true rfl) d_17_30_72 (fun H locs w19 hu20 hO0 V => ?_)
        replace hO0 : w19[kO0]? = (some (qO0, .inr (15, [.int 1, .ref qA1, .ref qA2, .ref qA3, .ref qA4, .ref qA5, .ref qA6, .ref qA7, .int 0, .int 0, .int 0, .long 0, .int 52, .int 2047, .long 0, .int (-1074), .long 0, .int 0])) : Option (Nat × va_E)) := hO0
        replace hF := q_us hF hu20 (.head _)
        refine lv_aload_n hx hb d_17_30_75 rfl (lv_at hl 0 rfl) ?_
        refine q_get (ci := 15) (j := 0) (v := .int 1) C0 V i_FR rfl rfl hO0 (by decide) w_2074 rfl d_17_30_76 ?_
        refine lv_if_le (tgt := 84) hx hb d_17_30_79 (by decide) (fun c21 => absurd c21 (by decide)) (fun c21 => ?_)
        refine lv_iconst (v := 0) hx hb d_17_30_82 (by decide) ?_
        replace hA1 := (hu20 _ n_A1_O0).trans ((hg4 _ (q_nc n_A1_O0 List.not_mem_nil)).trans (hA1))
        replace hA2 := (hu20 _ n_A2_O0).trans ((hg4 _ (q_nc n_A2_O0 List.not_mem_nil)).trans (hA2))
        replace hA3 := (hu20 _ n_A3_O0).trans ((hg4 _ (q_nc n_A3_O0 List.not_mem_nil)).trans (hA3))
        replace hA6 := (hu20 _ n_A6_O0).trans ((hg4 _ (q_nc n_A6_O0 List.not_mem_nil)).trans (hA6))
        replace hA7 := (hu20 _ n_A7_O0).trans ((hg4 _ (q_nc n_A7_O0 List.not_mem_nil)).trans (hA7))
        exact q_reti C0 V (Or.inr (Or.inr (Or.inl ⟨c10, c14, c18, rfl, hF, hO0, hA1, hA2, hA3, hA6, hA7⟩))) d_17_30_83
      ·
        refine lv_iload hx hb d_17_30_50 (lv_at hl 4 rfl) ?_
        refine lv_iconst (v := 3) hx hb d_17_30_52 (by decide) ?_
        refine lv_icmp_le (tgt := 60) hx hb d_17_30_53 (by decide) (fun c22 => ?_) (fun c22 => ?_)
        ·
          refine lv_aload_n hx hb d_17_30_60 rfl (lv_at hl 0 rfl) ?_
          refine q_goi V (q_runV (As := []) (rest := [.ref qO0]) (d := 1) (mc := 0) (ms := 0) (ci := 15) C0 V rfl LV_FR_130 (c_FR_isFinite l D g u3 kO0 qO0 qA1 qA2 qA3 qA4 qA5 qA6 qA7 hO0 _) rfl rfl hO0 rfl hl.1 rfl (Nat.le_of_ble_eq_true rfl) ⟨by decide, by decide⟩ ⟨Nat.le_of_ble_eq_true rfl, Nat.le_of_ble_eq_true rfl⟩ d_17_30_61) (fun v25 u24 H locs hp23 V => ?_)
          obtain ⟨rfl, rfl⟩ := hp23
          refine lv_if_ne (tgt := 71) hx hb d_17_30_64 (by decide) (fun c27 => ?_) (fun c27 => absurd c27 (by decide))
          refine lv_iconst (v := 0) hx hb d_17_30_71 (by decide) ?_
          refine q_put (ci := 15) (j := 0) (v := .int 0) (ty := .int) C0 V i_FR o_FR n_FR rfl rfl hO0 (by decide) w_2074 rfl rfl rfl rfl (Nat.le_of_ble_eq_true rfl) d_17_30_72 (fun H locs w28 hu29 hO0 V => ?_)
          replace hO0 : w28[kO0]? = (some (qO0, .inr (15, [.int 0, .ref qA1, .ref qA2, .ref qA3, .ref qA4, .ref qA5, .ref qA6, .ref qA7, .int 0, .int 0, .int 0, .long 0, .int 52, .int 2047, .long 0, .int (-1074), .long 0, .int 0])) : Option (Nat × va_E)) := hO0
          replace hF := q_us hF hu29 (.head _)
          refine lv_aload_n hx hb d_17_30_75 rfl (lv_at hl 0 rfl) ?_
          refine q_get (ci := 15) (j := 0) (v := .int 0) C0 V i_FR rfl rfl hO0 (by decide) w_2074 rfl d_17_30_76 ?_
          refine lv_if_le (tgt := 84) hx hb d_17_30_79 (by decide) (fun c30 => ?_) (fun c30 => absurd (by decide) c30)
          refine lv_aload_n hx hb d_17_30_84 rfl (lv_at hl 0 rfl) ?_
          replace hA1 := (hu29 _ n_A1_O0).trans ((hg4 _ (q_nc n_A1_O0 List.not_mem_nil)).trans (hA1))
          replace hA2 := (hu29 _ n_A2_O0).trans ((hg4 _ (q_nc n_A2_O0 List.not_mem_nil)).trans (hA2))
          replace hA3 := (hu29 _ n_A3_O0).trans ((hg4 _ (q_nc n_A3_O0 List.not_mem_nil)).trans (hA3))
          refine q_gov V (q_runV (As := []) (rest := []) (d := 2) (mc := 0) (ms := 0) (ci := 15) C0 V rfl LV_FR_162 (c_FR_setValue l D g w28 kO0 kA1 kA2 kA3 qO0 qA1 qA2 qA3 qA4 qA5 qA6 qA7 hO0 hA1 hA2 hA3 n_A1_A2 n_A1_A3 n_A3_A2 _) rfl rfl hO0 rfl hl.1 rfl (Nat.le_of_ble_eq_true rfl) ⟨by decide, by decide⟩ ⟨Nat.le_of_ble_eq_true rfl, Nat.le_of_ble_eq_true rfl⟩ d_17_30_85) (fun u32 H locs hp31 V => ?_)
          obtain ⟨y33, hg34, hA1, hA2, hA3⟩ := hp31
          replace hF := q_uc hF hg34 (q_sc (.tail _ (.head _)) (q_sc (.tail _ (.tail _ (.head _))) (q_sc (List.mem_of_getElem? (i := 3) rfl) (fun _ h => absurd h List.not_mem_nil))))
          refine lv_aload_n hx hb d_17_30_88 rfl (lv_at hl 0 rfl) ?_
          replace hO0 := (hg34 _ (q_nc n_O0_A1 (q_nc n_O0_A2 (q_nc n_O0_A3 List.not_mem_nil)))).trans (hO0)
          refine q_get (ci := 15) (j := 14) (v := .long 0) C0 V i_FR rfl rfl hO0 (by decide) w_2090 rfl d_17_30_89 ?_
          refine lv_lconst (v := 0) hx hb d_17_30_92 (by decide) ?_
          refine W.lcmp hx hb d_17_30_93 ?_
          refine q_ti (v := 0) (by decide) ?_
          refine lv_if_ne (tgt := 103) hx hb d_17_30_94 (by decide) (fun c35 => absurd (by decide) c35) (fun c35 => ?_)
          refine lv_sipush (v := 1080) hx hb d_17_30_97 (by decide) ?_
          refine lv_goto (tgt := 107) hx hb d_17_30_100 (by decide) ?_
          refine lv_istore (lv' := [(6, .int 1080), (0, .ref qO0), (1, .long 0), (3, .int 0), (4, .int x1), (5, .int x2)]) hx hb d_17_30_107 hl (by decide) rfl (fun ls hl => ?_)
          refine lv_iload hx hb d_17_30_109 (lv_at hl 0 rfl) ?_
          refine lv_iload hx hb d_17_30_111 (lv_at hl 4 rfl) ?_
          refine lv_isub hx hb d_17_30_113 ?_
          refine lv_iconst (v := 1) hx hb d_17_30_114 (by decide) ?_
          refine lv_iadd hx hb d_17_30_115 ?_
          refine lv_if_ge (tgt := 123) hx hb d_17_30_116 (by decide) (fun c36 => ?_) (fun c36 => absurd (q_Ile (x := 0) (y := ((1080 - x1.toInt) + 1)) (by decide) (q_addI (x := (1080 - x1.toInt)) (y := 1) (q_subI (x := 1080) (y := x1.toInt) (by decide) rfl (by have t1 : 1 ≤ x1.toInt := q_nltI c10; have t2 : x1.toInt ≤ 800 := q_nltI c14; omega) (by have t1 : 1 ≤ x1.toInt := q_nltI c10; have t2 : x1.toInt ≤ 800 := q_nltI c14; omega)) (by decide) (by have t1 : 1 ≤ x1.toInt := q_nltI c10; have t2 : x1.toInt ≤ 800 := q_nltI c14; omega) (by have t1 : 1 ≤ x1.toInt := q_nltI c10; have t2 : x1.toInt ≤ 800 := q_nltI c14; omega)) (by have t1 : 1 ≤ x1.toInt := q_nltI c10; have t2 : x1.toInt ≤ 800 := q_nltI c14; omega)) c36)
          refine lv_iload hx hb d_17_30_123 (lv_at hl 0 rfl) ?_
          refine lv_iload hx hb d_17_30_125 (lv_at hl 4 rfl) ?_
          refine lv_isub hx hb d_17_30_127 ?_
          refine lv_iconst (v := 1) hx hb d_17_30_128 (by decide) ?_
          refine lv_iadd hx hb d_17_30_129 ?_
          refine lv_istore (lv' := [(7, .int ((1080 - x1) + 1)), (6, .int 1080), (0, .ref qO0), (1, .long 0), (3, .int 0), (4, .int x1), (5, .int x2)]) hx hb d_17_30_130 hl (by decide) rfl (fun ls hl => ?_)
          refine lv_aload_n hx hb d_17_30_132 rfl (lv_at hl 2 rfl) ?_
          refine lv_iload hx hb d_17_30_133 (lv_at hl 0 rfl) ?_
          refine lv_aload_n hx hb d_17_30_135 rfl (lv_at hl 2 rfl) ?_
          refine lv_iload hx hb d_17_30_136 (lv_at hl 0 rfl) ?_
          refine lv_iload hx hb d_17_30_138 (lv_at hl 6 rfl) ?_
          refine q_goi V (q_runV (As := [.int ((1080 - x1) + 1), .int x2]) (rest := [.int ((1080 - x1) + 1), .ref qO0]) (d := 1) (mc := 0) (ms := 0) (ci := 15) C0 V rfl LV_FR_165 (c_FR_isMore_5 l D g u32 kO0 kA3 qO0 qA1 qA2 qA3 qA4 qA5 qA6 qA7 ((1080 - x1) + 1) x2 hO0 hA3 (q_Ile (x := 0) (y := ((1080 - x1.toInt) + 1)) (by decide) (q_addI (x := (1080 - x1.toInt)) (y := 1) (q_subI (x := 1080) (y := x1.toInt) (by decide) rfl (by have t1 : 1 ≤ x1.toInt := q_nltI c10; have t2 : x1.toInt ≤ 800 := q_nltI c14; omega) (by have t1 : 1 ≤ x1.toInt := q_nltI c10; have t2 : x1.toInt ≤ 800 := q_nltI c14; omega)) (by decide) (by have t1 : 1 ≤ x1.toInt := q_nltI c10; have t2 : x1.toInt ≤ 800 := q_nltI c14; omega) (by have t1 : 1 ≤ x1.toInt := q_nltI c10; have t2 : x1.toInt ≤ 800 := q_nltI c14; omega)) (by have t1 : 1 ≤ x1.toInt := q_nltI c10; have t2 : x1.toInt ≤ 800 := q_nltI c14; omega)) (q_Ile (x := ((1080 - x1.toInt) + 1)) (y := 1080) (q_addI (x := (1080 - x1.toInt)) (y := 1) (q_subI (x := 1080) (y := x1.toInt) (by decide) rfl (by have t1 : 1 ≤ x1.toInt := q_nltI c10; have t2 : x1.toInt ≤ 800 := q_nltI c14; omega) (by have t1 : 1 ≤ x1.toInt := q_nltI c10; have t2 : x1.toInt ≤ 800 := q_nltI c14; omega)) (by decide) (by have t1 : 1 ≤ x1.toInt := q_nltI c10; have t2 : x1.toInt ≤ 800 := q_nltI c14; omega) (by have t1 : 1 ≤ x1.toInt := q_nltI c10; have t2 : x1.toInt ≤ 800 := q_nltI c14; omega)) (by decide) (by have t1 : 1 ≤ x1.toInt := q_nltI c10; have t2 : x1.toInt ≤ 800 := q_nltI c14; omega)) (q_Ile (x := 0) (y := x2.toInt) (by decide) rfl (by have t1 : 0 ≤ x2.toInt := q_nltI c18; have t2 : x2.toInt ≤ 3 := q_leI c22; omega)) c22 _) rfl rfl hO0 rfl hl.1 rfl (Nat.le_of_ble_eq_true rfl) ⟨by decide, by decide⟩ ⟨Nat.le_of_ble_eq_true rfl, Nat.le_of_ble_eq_true rfl⟩ d_17_30_140) (fun v39 u38 H locs hp37 V => ?_)
          obtain ⟨rfl, rfl⟩ := hp37
          replace hA6 := (hg34 _ (q_nc n_A6_A1 (q_nc n_A6_A2 (q_nc n_A6_A3 List.not_mem_nil)))).trans ((hu29 _ n_A6_O0).trans ((hg4 _ (q_nc n_A6_O0 List.not_mem_nil)).trans (hA6)))
          refine q_gov V (q_runV (As := [.int ((1080 - x1) + 1), .int 0]) (rest := []) (d := 1) (mc := 0) (ms := 0) (ci := 15) C0 V rfl LV_FR_81 (c_FR_cut_5 l D g u32 kO0 kA3 kA6 qO0 qA1 qA2 qA3 qA4 qA5 qA6 qA7 ((1080 - x1) + 1) hO0 hA3 hA6 n_A3_A6 (q_Ile (x := 0) (y := ((1080 - x1.toInt) + 1)) (by decide) (q_addI (x := (1080 - x1.toInt)) (y := 1) (q_subI (x := 1080) (y := x1.toInt) (by decide) rfl (by have t1 : 1 ≤ x1.toInt := q_nltI c10; have t2 : x1.toInt ≤ 800 := q_nltI c14; omega) (by have t1 : 1 ≤ x1.toInt := q_nltI c10; have t2 : x1.toInt ≤ 800 := q_nltI c14; omega)) (by decide) (by have t1 : 1 ≤ x1.toInt := q_nltI c10; have t2 : x1.toInt ≤ 800 := q_nltI c14; omega) (by have t1 : 1 ≤ x1.toInt := q_nltI c10; have t2 : x1.toInt ≤ 800 := q_nltI c14; omega)) (by have t1 : 1 ≤ x1.toInt := q_nltI c10; have t2 : x1.toInt ≤ 800 := q_nltI c14; omega)) (q_Ile (x := ((1080 - x1.toInt) + 1)) (y := 1080) (q_addI (x := (1080 - x1.toInt)) (y := 1) (q_subI (x := 1080) (y := x1.toInt) (by decide) rfl (by have t1 : 1 ≤ x1.toInt := q_nltI c10; have t2 : x1.toInt ≤ 800 := q_nltI c14; omega) (by have t1 : 1 ≤ x1.toInt := q_nltI c10; have t2 : x1.toInt ≤ 800 := q_nltI c14; omega)) (by decide) (by have t1 : 1 ≤ x1.toInt := q_nltI c10; have t2 : x1.toInt ≤ 800 := q_nltI c14; omega) (by have t1 : 1 ≤ x1.toInt := q_nltI c10; have t2 : x1.toInt ≤ 800 := q_nltI c14; omega)) (by decide) (by have t1 : 1 ≤ x1.toInt := q_nltI c10; have t2 : x1.toInt ≤ 800 := q_nltI c14; omega)) _) rfl rfl hO0 rfl hl.1 rfl (Nat.le_of_ble_eq_true rfl) ⟨by decide, by decide⟩ ⟨Nat.le_of_ble_eq_true rfl, Nat.le_of_ble_eq_true rfl⟩ d_17_30_143) (fun u42 H locs hp41 V => ?_)
          obtain ⟨hg43, hA6⟩ := hp41
          replace hF := q_uc hF hg43 (q_sc (List.mem_of_getElem? (i := 4) rfl) (fun _ h => absurd h List.not_mem_nil))
          refine lv_aload_n hx hb d_17_30_146 rfl (lv_at hl 2 rfl) ?_
          replace hO0 := (hg43 _ (q_nc n_O0_A6 List.not_mem_nil)).trans (hO0)
          refine q_get (ci := 15) (j := 6) (v := .ref qA6) C0 V i_FR rfl rfl hO0 (by decide) w_2081 rfl d_17_30_147 ?_
          refine lv_iload hx hb d_17_30_150 (lv_at hl 1 rfl) ?_
          refine lv_iconst (v := 1) hx hb d_17_30_152 (by decide) ?_
          refine lv_iadd hx hb d_17_30_153 ?_
          refine q_ti (v := 1081) (by decide) ?_
          refine q_iald C0 V hA6 (by unfold vp_in; decide) d_17_30_154 ?_
          refine q_ti (v := 0) (by first | rfl | decide | simp [upd, vp_updL, sb_cl0]) ?_
          refine lv_iconst (v := 1) hx hb d_17_30_155 (by decide) ?_
          refine lv_icmp_ne (tgt := 175) hx hb d_17_30_156 (by decide) (fun c44 => ?_) (fun c44 => absurd c44 (by decide))
          refine lv_iload hx hb d_17_30_175 (lv_at hl 1 rfl) ?_
          refine lv_istore (lv' := [(6, .int 1080), (7, .int ((1080 - x1) + 1)), (0, .ref qO0), (1, .long 0), (3, .int 0), (4, .int x1), (5, .int x2)]) hx hb d_17_30_177 hl (by decide) rfl (fun ls hl => ?_)
          refine lv_aload_n hx hb d_17_30_179 rfl (lv_at hl 2 rfl) ?_
          refine q_gov V (q_runV (As := []) (rest := []) (d := 1) (mc := 0) (ms := 0) (ci := 15) C0 V rfl LV_FR_113 (c_FR_begin l D g u42 kO0 qO0 qA1 qA2 qA3 qA4 qA5 qA6 qA7 hO0 _) rfl rfl hO0 rfl hl.1 rfl (Nat.le_of_ble_eq_true rfl) ⟨by decide, by decide⟩ ⟨Nat.le_of_ble_eq_true rfl, Nat.le_of_ble_eq_true rfl⟩ d_17_30_180) (fun u46 H locs hp45 V => ?_)
          obtain ⟨hg47, hO0⟩ := hp45
          replace hF := q_uc hF hg47 (q_sc (.head _) (fun _ h => absurd h List.not_mem_nil))
          refine lv_iconst (v := 0) hx hb d_17_30_183 (by decide) ?_
          refine lv_istore (lv' := [(8, .int 0), (6, .int 1080), (7, .int ((1080 - x1) + 1)), (0, .ref qO0), (1, .long 0), (3, .int 0), (4, .int x1), (5, .int x2)]) hx hb d_17_30_184 hl (by decide) rfl (fun ls hl => ?_)
          refine lv_iload hx hb d_17_30_186 (lv_at hl 0 rfl) ?_
          refine lv_iload hx hb d_17_30_188 (lv_at hl 6 rfl) ?_
          refine lv_icmp_ge (tgt := 236) hx hb d_17_30_190 (by decide) (fun c48 => absurd c48 (Int32.not_le.mpr (q_Ilt (x := 0) (y := x1.toInt) (by decide) rfl (by have t1 : 1 ≤ x1.toInt := q_nltI c10; have t2 : x1.toInt ≤ 800 := q_nltI c14; omega)))) (fun c48 => ?_)
          refine lv_aload_n hx hb d_17_30_193 rfl (lv_at hl 3 rfl) ?_
          refine lv_bipush (v := 48) hx hb d_17_30_194 (by decide) ?_
          refine lv_aload_n hx hb d_17_30_196 rfl (lv_at hl 3 rfl) ?_
          refine lv_iload hx hb d_17_30_197 (lv_at hl 1 rfl) ?_
          refine lv_sipush (v := 1080) hx hb d_17_30_199 (by decide) ?_
          refine lv_isub hx hb d_17_30_202 ?_
          refine q_ti (v := 0) (by decide) ?_
          refine lv_iload hx hb d_17_30_203 (lv_at hl 0 rfl) ?_
          refine lv_isub hx hb d_17_30_205 ?_
          refine q_ti (v := 0) (by decide) ?_
          replace hA6 := (hg47 _ (q_nc n_A6_O0 List.not_mem_nil)).trans (hA6)
          refine q_goi V (q_runV (As := [.int 0]) (rest := [.int 48, .ref qO0]) (d := 1) (mc := 0) (ms := 0) (ci := 15) C0 V rfl LV_FR_169 (c_FR_figureAt l D g u46 kO0 kA6 qO0 qA1 qA2 qA3 qA4 qA5 qA6 qA7 hO0 hA6 _) rfl rfl hO0 rfl hl.1 rfl (Nat.le_of_ble_eq_true rfl) ⟨by decide, by decide⟩ ⟨Nat.le_of_ble_eq_true rfl, Nat.le_of_ble_eq_true rfl⟩ d_17_30_206) (fun v51 u50 H locs hp49 V => ?_)
          obtain ⟨rfl, rfl⟩ := hp49
          refine lv_iadd hx hb d_17_30_209 ?_
          refine q_ti (v := 48) (by decide) ?_
          replace hA7 := (hg47 _ (q_nc n_A7_O0 List.not_mem_nil)).trans ((hg43 _ (q_nc n_A7_A6 List.not_mem_nil)).trans ((hg34 _ (q_nc n_A7_A1 (q_nc n_A7_A2 (q_nc n_A7_A3 List.not_mem_nil)))).trans ((hu29 _ n_A7_O0).trans ((hg4 _ (q_nc n_A7_O0 List.not_mem_nil)).trans (hA7)))))
          refine q_gov V (q_runV (As := [.int 48]) (rest := []) (d := 1) (mc := 0) (ms := 0) (ci := 15) C0 V rfl LV_FR_110 (c_FR_add l D g u46 kO0 kA7 qO0 qA1 qA2 qA3 qA4 qA5 qA6 qA7 hO0 hA7 _) rfl rfl hO0 rfl hl.1 rfl (Nat.le_of_ble_eq_true rfl) ⟨by decide, by decide⟩ ⟨Nat.le_of_ble_eq_true rfl, Nat.le_of_ble_eq_true rfl⟩ d_17_30_210) (fun u54 H locs hp53 V => ?_)
          obtain ⟨hg55, hO0, hA7⟩ := hp53
          replace hF := q_uc hF hg55 (q_sc (.head _) (q_sc (List.mem_of_getElem? (i := 5) rfl) (fun _ h => absurd h List.not_mem_nil)))
          refine lv_iload hx hb d_17_30_213 (lv_at hl 0 rfl) ?_
          refine lv_if_ne (tgt := 230) hx hb d_17_30_215 (by decide) (fun c56 => absurd (by decide) c56) (fun c56 => ?_)
          refine lv_iload hx hb d_17_30_218 (lv_at hl 6 rfl) ?_
          refine lv_iconst (v := 1) hx hb d_17_30_220 (by decide) ?_
          refine lv_icmp_le (tgt := 230) hx hb d_17_30_221 (by decide) (fun c57 => ?_) (fun c57 => ?_)
          ·
            refine lv_iinc (v := 1) (lv' := [(8, .int 1), (6, .int 1080), (7, .int ((1080 - x1) + 1)), (0, .ref qO0), (1, .long 0), (3, .int 0), (4, .int x1), (5, .int x2)]) hx hb d_17_30_230 hl (k := 0) rfl (by decide) (by decide) rfl (fun ls hl => ?_)
            refine lv_goto (tgt := 186) hx hb d_17_30_233 (by decide) ?_
            refine lv_iload hx hb d_17_30_186 (lv_at hl 0 rfl) ?_
            refine lv_iload hx hb d_17_30_188 (lv_at hl 6 rfl) ?_
            refine q_ti (v := 1) (q_Ieq (x := x1.toInt) (y := 1) rfl (by decide) (by have t1 : 1 ≤ x1.toInt := q_nltI c10; have t2 : x1.toInt ≤ 800 := q_nltI c14; have t3 : x1.toInt ≤ 1 := q_leI c57; omega)) ?_
            refine lv_icmp_ge (tgt := 236) hx hb d_17_30_190 (by decide) (fun c58 => ?_) (fun c58 => absurd (by decide) c58)
            refine lv_iload hx hb d_17_30_236 (lv_at hl 1 rfl) ?_
            refine lv_sipush (v := 1080) hx hb d_17_30_238 (by decide) ?_
            refine lv_isub hx hb d_17_30_241 ?_
            refine q_ti (v := 0) (by decide) ?_
            refine lv_istore (lv' := [(8, .int 0), (6, .int 1080), (7, .int ((1080 - x1) + 1)), (0, .ref qO0), (1, .long 0), (3, .int 0), (4, .int x1), (5, .int x2)]) hx hb d_17_30_242 hl (by decide) rfl (fun ls hl => ?_)
            refine lv_aload_n hx hb d_17_30_244 rfl (lv_at hl 3 rfl) ?_
            refine lv_bipush (v := 101) hx hb d_17_30_245 (by decide) ?_
            refine q_gov V (q_runV (As := [.int 101]) (rest := []) (d := 1) (mc := 0) (ms := 0) (ci := 15) C0 V rfl LV_FR_110 (c_FR_add_19 l D g u54 kO0 kA7 qO0 qA1 qA2 qA3 qA4 qA5 qA6 qA7 hO0 hA7 _) rfl rfl hO0 rfl hl.1 rfl (Nat.le_of_ble_eq_true rfl) ⟨by decide, by decide⟩ ⟨Nat.le_of_ble_eq_true rfl, Nat.le_of_ble_eq_true rfl⟩ d_17_30_247) (fun u60 H locs hp59 V => ?_)
            obtain ⟨hg61, hO0, hA7⟩ := hp59
            replace hF := q_uc hF hg61 (q_sc (.head _) (q_sc (List.mem_of_getElem? (i := 5) rfl) (fun _ h => absurd h List.not_mem_nil)))
            refine lv_aload_n hx hb d_17_30_250 rfl (lv_at hl 3 rfl) ?_
            refine lv_iload hx hb d_17_30_251 (lv_at hl 0 rfl) ?_
            refine lv_if_ge (tgt := 261) hx hb d_17_30_253 (by decide) (fun c62 => ?_) (fun c62 => absurd (by decide) c62)
            refine lv_bipush (v := 43) hx hb d_17_30_261 (by decide) ?_
            refine q_gov V (q_runV (As := [.int 43]) (rest := []) (d := 1) (mc := 0) (ms := 0) (ci := 15) C0 V rfl LV_FR_110 (c_FR_add_20 l D g u60 kO0 kA7 qO0 qA1 qA2 qA3 qA4 qA5 qA6 qA7 hO0 hA7 _) rfl rfl hO0 rfl hl.1 rfl (Nat.le_of_ble_eq_true rfl) ⟨by decide, by decide⟩ ⟨Nat.le_of_ble_eq_true rfl, Nat.le_of_ble_eq_true rfl⟩ d_17_30_263) (fun u64 H locs hp63 V => ?_)
            obtain ⟨hg65, hO0, hA7⟩ := hp63
            replace hF := q_uc hF hg65 (q_sc (.head _) (q_sc (List.mem_of_getElem? (i := 5) rfl) (fun _ h => absurd h List.not_mem_nil)))
            refine lv_iload hx hb d_17_30_266 (lv_at hl 0 rfl) ?_
            refine lv_if_ge (tgt := 277) hx hb d_17_30_268 (by decide) (fun c66 => ?_) (fun c66 => absurd (by decide) c66)
            refine lv_iload hx hb d_17_30_277 (lv_at hl 0 rfl) ?_
            refine lv_istore (lv' := [(8, .int 0), (6, .int 1080), (7, .int ((1080 - x1) + 1)), (0, .ref qO0), (1, .long 0), (3, .int 0), (4, .int x1), (5, .int x2)]) hx hb d_17_30_279 hl (by decide) rfl (fun ls hl => ?_)
            refine lv_iload hx hb d_17_30_281 (lv_at hl 0 rfl) ?_
            refine lv_bipush (v := 10) hx hb d_17_30_283 (by decide) ?_
            refine lv_icmp_ge (tgt := 294) hx hb d_17_30_285 (by decide) (fun c67 => absurd c67 (by decide)) (fun c67 => ?_)
            refine lv_aload_n hx hb d_17_30_288 rfl (lv_at hl 3 rfl) ?_
            refine lv_bipush (v := 48) hx hb d_17_30_289 (by decide) ?_
            refine q_gov V (q_runV (As := [.int 48]) (rest := []) (d := 1) (mc := 0) (ms := 0) (ci := 15) C0 V rfl LV_FR_110 (c_FR_add_3 l D g u64 kO0 kA7 qO0 qA1 qA2 qA3 qA4 qA5 qA6 qA7 3 (upd (upd (upd (fun _ => 0) 0 48) 1 101) 2 43) hO0 hA7 (q_Ile (x := 2) (y := 3) (by decide) (by decide) (by omega)) (q_Ile (x := 3) (y := 1076) (by decide) (by decide) (by omega)) _) rfl rfl hO0 rfl hl.1 rfl (Nat.le_of_ble_eq_true rfl) ⟨by decide, by decide⟩ ⟨Nat.le_of_ble_eq_true rfl, Nat.le_of_ble_eq_true rfl⟩ d_17_30_291) (fun u69 H locs hp68 V => ?_)
            obtain ⟨hg70, hO0, hA7⟩ := hp68
            replace hF := q_uc hF hg70 (q_sc (.head _) (q_sc (List.mem_of_getElem? (i := 5) rfl) (fun _ h => absurd h List.not_mem_nil)))
            refine lv_aload_n hx hb d_17_30_294 rfl (lv_at hl 3 rfl) ?_
            refine lv_iload hx hb d_17_30_295 (lv_at hl 0 rfl) ?_
            refine q_gov V (q_runV (As := [.int 0]) (rest := []) (d := 2) (mc := 0) (ms := 0) (ci := 15) C0 V rfl LV_FR_149 (c_FR_number_3 l D g u69 kO0 kA7 qO0 qA1 qA2 qA3 qA4 qA5 qA6 qA7 (3 + 1) (upd (upd (upd (upd (fun _ => 0) 0 48) 1 101) 2 43) (3 : Int32).toNatClampNeg 48) hO0 hA7 (q_Ile (x := 4) (y := (3 + 1)) (by decide) (q_addI (x := 3) (y := 1) (by decide) (by decide) (by omega) (by omega)) (by omega)) (q_Ile (x := (3 + 1)) (y := 4) (q_addI (x := 3) (y := 1) (by decide) (by decide) (by omega) (by omega)) (by decide) (by omega)) _) rfl rfl hO0 rfl hl.1 rfl (Nat.le_of_ble_eq_true rfl) ⟨by decide, by decide⟩ ⟨Nat.le_of_ble_eq_true rfl, Nat.le_of_ble_eq_true rfl⟩ d_17_30_297) (fun u72 H locs hp71 V => ?_)
            obtain ⟨hg73, hO0, hA7⟩ := hp71
            replace hF := q_uc hF hg73 (q_sc (.head _) (q_sc (List.mem_of_getElem? (i := 5) rfl) (fun _ h => absurd h List.not_mem_nil)))
            refine lv_aload_n hx hb d_17_30_300 rfl (lv_at hl 3 rfl) ?_
            refine q_get (ci := 15) (j := 8) (v := .int ((3 + 1) + 1)) C0 V i_FR rfl rfl hO0 (by decide) w_2084 rfl d_17_30_301 ?_
            replace hA1 := (hg73 _ (q_nc n_A1_O0 (q_nc n_A1_A7 List.not_mem_nil))).trans ((hg70 _ (q_nc n_A1_O0 (q_nc n_A1_A7 List.not_mem_nil))).trans ((hg65 _ (q_nc n_A1_O0 (q_nc n_A1_A7 List.not_mem_nil))).trans ((hg61 _ (q_nc n_A1_O0 (q_nc n_A1_A7 List.not_mem_nil))).trans ((hg55 _ (q_nc n_A1_O0 (q_nc n_A1_A7 List.not_mem_nil))).trans ((hg47 _ (q_nc n_A1_O0 List.not_mem_nil)).trans ((hg43 _ (q_nc n_A1_A6 List.not_mem_nil)).trans (hA1)))))))
            replace hA2 := (hg73 _ (q_nc n_A2_O0 (q_nc n_A2_A7 List.not_mem_nil))).trans ((hg70 _ (q_nc n_A2_O0 (q_nc n_A2_A7 List.not_mem_nil))).trans ((hg65 _ (q_nc n_A2_O0 (q_nc n_A2_A7 List.not_mem_nil))).trans ((hg61 _ (q_nc n_A2_O0 (q_nc n_A2_A7 List.not_mem_nil))).trans ((hg55 _ (q_nc n_A2_O0 (q_nc n_A2_A7 List.not_mem_nil))).trans ((hg47 _ (q_nc n_A2_O0 List.not_mem_nil)).trans ((hg43 _ (q_nc n_A2_A6 List.not_mem_nil)).trans (hA2)))))))
            replace hA3 := (hg73 _ (q_nc n_A3_O0 (q_nc n_A3_A7 List.not_mem_nil))).trans ((hg70 _ (q_nc n_A3_O0 (q_nc n_A3_A7 List.not_mem_nil))).trans ((hg65 _ (q_nc n_A3_O0 (q_nc n_A3_A7 List.not_mem_nil))).trans ((hg61 _ (q_nc n_A3_O0 (q_nc n_A3_A7 List.not_mem_nil))).trans ((hg55 _ (q_nc n_A3_O0 (q_nc n_A3_A7 List.not_mem_nil))).trans ((hg47 _ (q_nc n_A3_O0 List.not_mem_nil)).trans ((hg43 _ (q_nc n_A3_A6 List.not_mem_nil)).trans (hA3)))))))
            replace hA6 := (hg73 _ (q_nc n_A6_O0 (q_nc n_A6_A7 List.not_mem_nil))).trans ((hg70 _ (q_nc n_A6_O0 (q_nc n_A6_A7 List.not_mem_nil))).trans ((hg65 _ (q_nc n_A6_O0 (q_nc n_A6_A7 List.not_mem_nil))).trans ((hg61 _ (q_nc n_A6_O0 (q_nc n_A6_A7 List.not_mem_nil))).trans ((hg55 _ (q_nc n_A6_O0 (q_nc n_A6_A7 List.not_mem_nil))).trans (hA6)))))
            exact q_reti C0 V (Or.inr (Or.inr (Or.inr (Or.inl ⟨y33, c10, c14, c18, c22, c57, rfl, hF, hO0, hA1, hA2, hA3, hA6, hA7⟩)))) d_17_30_304
          ·
            refine lv_aload_n hx hb d_17_30_224 rfl (lv_at hl 3 rfl) ?_
            refine lv_bipush (v := 46) hx hb d_17_30_225 (by decide) ?_
            refine q_gov V (q_runV (As := [.int 46]) (rest := []) (d := 1) (mc := 0) (ms := 0) (ci := 15) C0 V rfl LV_FR_110 (c_FR_add_2 l D g u54 kO0 kA7 qO0 qA1 qA2 qA3 qA4 qA5 qA6 qA7 hO0 hA7 _) rfl rfl hO0 rfl hl.1 rfl (Nat.le_of_ble_eq_true rfl) ⟨by decide, by decide⟩ ⟨Nat.le_of_ble_eq_true rfl, Nat.le_of_ble_eq_true rfl⟩ d_17_30_227) (fun u75 H locs hp74 V => ?_)
            obtain ⟨hg76, hO0, hA7⟩ := hp74
            replace hF := q_uc hF hg76 (q_sc (.head _) (q_sc (List.mem_of_getElem? (i := 5) rfl) (fun _ h => absurd h List.not_mem_nil)))
            refine lv_iinc (v := 1) (lv' := [(8, .int 1), (6, .int 1080), (7, .int ((1080 - x1) + 1)), (0, .ref qO0), (1, .long 0), (3, .int 0), (4, .int x1), (5, .int x2)]) hx hb d_17_30_230 hl (k := 0) rfl (by decide) (by decide) rfl (fun ls hl => ?_)
            refine lv_goto (tgt := 186) hx hb d_17_30_233 (by decide) ?_
            replace hA1 := (hg76 _ (q_nc n_A1_O0 (q_nc n_A1_A7 List.not_mem_nil))).trans ((hg55 _ (q_nc n_A1_O0 (q_nc n_A1_A7 List.not_mem_nil))).trans ((hg47 _ (q_nc n_A1_O0 List.not_mem_nil)).trans ((hg43 _ (q_nc n_A1_A6 List.not_mem_nil)).trans (hA1))))
            replace hA2 := (hg76 _ (q_nc n_A2_O0 (q_nc n_A2_A7 List.not_mem_nil))).trans ((hg55 _ (q_nc n_A2_O0 (q_nc n_A2_A7 List.not_mem_nil))).trans ((hg47 _ (q_nc n_A2_O0 List.not_mem_nil)).trans ((hg43 _ (q_nc n_A2_A6 List.not_mem_nil)).trans (hA2))))
            replace hA3 := (hg76 _ (q_nc n_A3_O0 (q_nc n_A3_A7 List.not_mem_nil))).trans ((hg55 _ (q_nc n_A3_O0 (q_nc n_A3_A7 List.not_mem_nil))).trans ((hg47 _ (q_nc n_A3_O0 List.not_mem_nil)).trans ((hg43 _ (q_nc n_A3_A6 List.not_mem_nil)).trans (hA3))))
            replace hA6 := (hg76 _ (q_nc n_A6_O0 (q_nc n_A6_A7 List.not_mem_nil))).trans ((hg55 _ (q_nc n_A6_O0 (q_nc n_A6_A7 List.not_mem_nil))).trans (hA6))
            refine q_loop (X := Int32 × Int32 × (Nat → Int32)) (fun z H locs ls w80 => (1 ≤ z.1.toInt ∧ (z.1.toInt ≤ x1.toInt ∨ z.1.toInt = 1)) ∧ (z.2.1.toInt = 2 + 1 * (z.1.toInt - 1)) ∧ q_Wd D g (va_A ws sz) s w80 H locs ∧ lv_has ls 9 [(8, .int z.1), (6, .int 1080), (7, .int ((1080 - x1) + 1)), (0, .ref qO0), (1, .long 0), (3, .int 0), (4, .int x1), (5, .int x2)] ∧ q_un ws w80 [kO0, kA1, kA2, kA3, kA6, kA7] ∧ w80[kO0]? = (some (qO0, .inr (15, [.int 0, .ref qA1, .ref qA2, .ref qA3, .ref qA4, .ref qA5, .ref qA6, .ref qA7, .int z.2.1, .int 0, .int 0, .long 0, .int 52, .int 2047, .long 0, .int (-1074), .long 0, .int 0])) : Option (Nat × va_E)) ∧ w80[kA1]? = (some (qA1, .inl (g 0, 156, .inl y33)) : Option (Nat × va_E)) ∧ w80[kA2]? = (some (qA2, .inl (g 0, 156, .inl (fun _ => 0))) : Option (Nat × va_E)) ∧ w80[kA3]? = (some (qA3, .inl (g 0, 1404, .inl (fun _ => 0))) : Option (Nat × va_E)) ∧ w80[kA6]? = (some (qA6, .inl (g 0, 1404, .inl (fun _ => 0))) : Option (Nat × va_E)) ∧ w80[kA7]? = (some (qA7, .inl (g 0, 1600, .inl z.2.2)) : Option (Nat × va_E))) (fun z => (x1.toInt - z.1.toInt).toNat) ?_ ((1 : Int32), (2 : Int32), (upd (upd (fun _ => 0) 0 48) 1 46 : (Nat → Int32))) _ _ _ u75 ⟨⟨(by dsimp only; decide), Or.inr (by dsimp only; decide)⟩, (show (2 : Int32).toInt = 2 + 1 * ((1 : Int32).toInt - 1) from by have t1 : 1 ≤ x1.toInt := q_nltI c10; have t2 : x1.toInt ≤ 800 := q_nltI c14; have t3 : 0 ≤ x2.toInt := q_nltI c18; have t4 : x2.toInt ≤ 3 := q_leI c22; have t5 : 1 < x1.toInt := q_nleI c57; have e1 : (2 : Int32).toInt = 2 := (by decide); have e2 : ((1 : Int32)).toInt = 1 := (by decide); omega), V, hl, hF, hO0, hA1, hA2, hA3, hA6, hA7⟩
            rintro ⟨lx77, lx78, lx79⟩ H locs ls w80 ⟨i81, i82, V, hl, hF, hO0, hA1, hA2, hA3, hA6, hA7⟩ ih83
            replace i81 : 1 ≤ lx77.toInt ∧ (lx77.toInt ≤ x1.toInt ∨ lx77.toInt = 1) := i81
            replace i82 : lx78.toInt = 2 + 1 * (lx77.toInt - 1) := i82
            replace hl : lv_has ls 9 [(8, .int lx77), (6, .int 1080), (7, .int ((1080 - x1) + 1)), (0, .ref qO0), (1, .long 0), (3, .int 0), (4, .int x1), (5, .int x2)] := hl
            replace hO0 : w80[kO0]? = (some (qO0, .inr (15, [.int 0, .ref qA1, .ref qA2, .ref qA3, .ref qA4, .ref qA5, .ref qA6, .ref qA7, .int lx78, .int 0, .int 0, .long 0, .int 52, .int 2047, .long 0, .int (-1074), .long 0, .int 0])) : Option (Nat × va_E)) := hO0
            replace hA1 : w80[kA1]? = (some (qA1, .inl (g 0, 156, .inl y33)) : Option (Nat × va_E)) := hA1
            replace hA2 : w80[kA2]? = (some (qA2, .inl (g 0, 156, .inl (fun _ => 0))) : Option (Nat × va_E)) := hA2
            replace hA3 : w80[kA3]? = (some (qA3, .inl (g 0, 1404, .inl (fun _ => 0))) : Option (Nat × va_E)) := hA3
            replace hA6 : w80[kA6]? = (some (qA6, .inl (g 0, 1404, .inl (fun _ => 0))) : Option (Nat × va_E)) := hA6
            replace hA7 : w80[kA7]? = (some (qA7, .inl (g 0, 1600, .inl lx79)) : Option (Nat × va_E)) := hA7
            refine lv_iload hx hb d_17_30_186 (lv_at hl 0 rfl) ?_
            refine lv_iload hx hb d_17_30_188 (lv_at hl 6 rfl) ?_
            refine lv_icmp_ge (tgt := 236) hx hb d_17_30_190 (by decide) (fun c84 => ?_) (fun c84 => ?_)
            ·
              refine lv_iload hx hb d_17_30_236 (lv_at hl 1 rfl) ?_
              refine lv_sipush (v := 1080) hx hb d_17_30_238 (by decide) ?_
              refine lv_isub hx hb d_17_30_241 ?_
              refine q_ti (v := 0) (by decide) ?_
              refine lv_istore (lv' := [(8, .int 0), (6, .int 1080), (7, .int ((1080 - x1) + 1)), (0, .ref qO0), (1, .long 0), (3, .int 0), (4, .int x1), (5, .int x2)]) hx hb d_17_30_242 hl (by decide) rfl (fun ls hl => ?_)
              refine lv_aload_n hx hb d_17_30_244 rfl (lv_at hl 3 rfl) ?_
              refine lv_bipush (v := 101) hx hb d_17_30_245 (by decide) ?_
              refine q_gov V (q_runV (As := [.int 101]) (rest := []) (d := 1) (mc := 0) (ms := 0) (ci := 15) C0 V rfl LV_FR_110 (c_FR_add_25 l D g w80 kO0 kA7 qO0 qA1 qA2 qA3 qA4 qA5 qA6 qA7 lx78 lx79 hO0 hA7 (q_Ile (x := 2) (y := lx78.toInt) (by decide) rfl (by have t1 : 1 ≤ x1.toInt := q_nltI c10; have t2 : x1.toInt ≤ 800 := q_nltI c14; have t3 : 1 < x1.toInt := q_nleI c57; have t4 : x1.toInt ≤ lx77.toInt := q_leI c84; omega)) (q_Ile (x := lx78.toInt) (y := 801) rfl (by decide) (by have t1 : 1 ≤ x1.toInt := q_nltI c10; have t2 : x1.toInt ≤ 800 := q_nltI c14; have t3 : 1 < x1.toInt := q_nleI c57; have t4 : x1.toInt ≤ lx77.toInt := q_leI c84; omega)) _) rfl rfl hO0 rfl hl.1 rfl (Nat.le_of_ble_eq_true rfl) ⟨by decide, by decide⟩ ⟨Nat.le_of_ble_eq_true rfl, Nat.le_of_ble_eq_true rfl⟩ d_17_30_247) (fun u86 H locs hp85 V => ?_)
              obtain ⟨hg87, hO0, hA7⟩ := hp85
              replace hF := q_uc hF hg87 (q_sc (.head _) (q_sc (List.mem_of_getElem? (i := 5) rfl) (fun _ h => absurd h List.not_mem_nil)))
              refine lv_aload_n hx hb d_17_30_250 rfl (lv_at hl 3 rfl) ?_
              refine lv_iload hx hb d_17_30_251 (lv_at hl 0 rfl) ?_
              refine lv_if_ge (tgt := 261) hx hb d_17_30_253 (by decide) (fun c88 => ?_) (fun c88 => absurd (by decide) c88)
              refine lv_bipush (v := 43) hx hb d_17_30_261 (by decide) ?_
              refine q_gov V (q_runV (As := [.int 43]) (rest := []) (d := 1) (mc := 0) (ms := 0) (ci := 15) C0 V rfl LV_FR_110 (c_FR_add_24 l D g u86 kO0 kA7 qO0 qA1 qA2 qA3 qA4 qA5 qA6 qA7 (lx78 + 1) (upd lx79 lx78.toNatClampNeg 101) hO0 hA7 (q_Ile (x := 3) (y := (lx78.toInt + 1)) (by decide) (q_addI (x := lx78.toInt) (y := 1) rfl (by decide) (by have t1 : 1 ≤ x1.toInt := q_nltI c10; have t2 : x1.toInt ≤ 800 := q_nltI c14; have t3 : 1 < x1.toInt := q_nleI c57; have t4 : x1.toInt ≤ lx77.toInt := q_leI c84; omega) (by have t1 : 1 ≤ x1.toInt := q_nltI c10; have t2 : x1.toInt ≤ 800 := q_nltI c14; have t3 : 1 < x1.toInt := q_nleI c57; have t4 : x1.toInt ≤ lx77.toInt := q_leI c84; omega)) (by have t1 : 1 ≤ x1.toInt := q_nltI c10; have t2 : x1.toInt ≤ 800 := q_nltI c14; have t3 : 1 < x1.toInt := q_nleI c57; have t4 : x1.toInt ≤ lx77.toInt := q_leI c84; omega)) (q_Ile (x := (lx78.toInt + 1)) (y := 802) (q_addI (x := lx78.toInt) (y := 1) rfl (by decide) (by have t1 : 1 ≤ x1.toInt := q_nltI c10; have t2 : x1.toInt ≤ 800 := q_nltI c14; have t3 : 1 < x1.toInt := q_nleI c57; have t4 : x1.toInt ≤ lx77.toInt := q_leI c84; omega) (by have t1 : 1 ≤ x1.toInt := q_nltI c10; have t2 : x1.toInt ≤ 800 := q_nltI c14; have t3 : 1 < x1.toInt := q_nleI c57; have t4 : x1.toInt ≤ lx77.toInt := q_leI c84; omega)) (by decide) (by have t1 : 1 ≤ x1.toInt := q_nltI c10; have t2 : x1.toInt ≤ 800 := q_nltI c14; have t3 : 1 < x1.toInt := q_nleI c57; have t4 : x1.toInt ≤ lx77.toInt := q_leI c84; omega)) _) rfl rfl hO0 rfl hl.1 rfl (Nat.le_of_ble_eq_true rfl) ⟨by decide, by decide⟩ ⟨Nat.le_of_ble_eq_true rfl, Nat.le_of_ble_eq_true rfl⟩ d_17_30_263) (fun u90 H locs hp89 V => ?_)
              obtain ⟨hg91, hO0, hA7⟩ := hp89
              replace hF := q_uc hF hg91 (q_sc (.head _) (q_sc (List.mem_of_getElem? (i := 5) rfl) (fun _ h => absurd h List.not_mem_nil)))
              refine lv_iload hx hb d_17_30_266 (lv_at hl 0 rfl) ?_
              refine lv_if_ge (tgt := 277) hx hb d_17_30_268 (by decide) (fun c92 => ?_) (fun c92 => absurd (by decide) c92)
              refine lv_iload hx hb d_17_30_277 (lv_at hl 0 rfl) ?_
              refine lv_istore (lv' := [(8, .int 0), (6, .int 1080), (7, .int ((1080 - x1) + 1)), (0, .ref qO0), (1, .long 0), (3, .int 0), (4, .int x1), (5, .int x2)]) hx hb d_17_30_279 hl (by decide) rfl (fun ls hl => ?_)
              refine lv_iload hx hb d_17_30_281 (lv_at hl 0 rfl) ?_
              refine lv_bipush (v := 10) hx hb d_17_30_283 (by decide) ?_
              refine lv_icmp_ge (tgt := 294) hx hb d_17_30_285 (by decide) (fun c93 => absurd c93 (by decide)) (fun c93 => ?_)
              refine lv_aload_n hx hb d_17_30_288 rfl (lv_at hl 3 rfl) ?_
              refine lv_bipush (v := 48) hx hb d_17_30_289 (by decide) ?_
              refine q_gov V (q_runV (As := [.int 48]) (rest := []) (d := 1) (mc := 0) (ms := 0) (ci := 15) C0 V rfl LV_FR_110 (c_FR_add_3 l D g u90 kO0 kA7 qO0 qA1 qA2 qA3 qA4 qA5 qA6 qA7 ((lx78 + 1) + 1) (upd (upd lx79 lx78.toNatClampNeg 101) (lx78 + 1).toNatClampNeg 43) hO0 hA7 (q_Ile (x := 2) (y := ((lx78.toInt + 1) + 1)) (by decide) (q_addI (x := (lx78.toInt + 1)) (y := 1) (q_addI (x := lx78.toInt) (y := 1) rfl (by decide) (by have t1 : 1 ≤ x1.toInt := q_nltI c10; have t2 : x1.toInt ≤ 800 := q_nltI c14; have t3 : 1 < x1.toInt := q_nleI c57; have t4 : x1.toInt ≤ lx77.toInt := q_leI c84; omega) (by have t1 : 1 ≤ x1.toInt := q_nltI c10; have t2 : x1.toInt ≤ 800 := q_nltI c14; have t3 : 1 < x1.toInt := q_nleI c57; have t4 : x1.toInt ≤ lx77.toInt := q_leI c84; omega)) (by decide) (by have t1 : 1 ≤ x1.toInt := q_nltI c10; have t2 : x1.toInt ≤ 800 := q_nltI c14; have t3 : 1 < x1.toInt := q_nleI c57; have t4 : x1.toInt ≤ lx77.toInt := q_leI c84; omega) (by have t1 : 1 ≤ x1.toInt := q_nltI c10; have t2 : x1.toInt ≤ 800 := q_nltI c14; have t3 : 1 < x1.toInt := q_nleI c57; have t4 : x1.toInt ≤ lx77.toInt := q_leI c84; omega)) (by have t1 : 1 ≤ x1.toInt := q_nltI c10; have t2 : x1.toInt ≤ 800 := q_nltI c14; have t3 : 1 < x1.toInt := q_nleI c57; have t4 : x1.toInt ≤ lx77.toInt := q_leI c84; omega)) (q_Ile (x := ((lx78.toInt + 1) + 1)) (y := 1076) (q_addI (x := (lx78.toInt + 1)) (y := 1) (q_addI (x := lx78.toInt) (y := 1) rfl (by decide) (by have t1 : 1 ≤ x1.toInt := q_nltI c10; have t2 : x1.toInt ≤ 800 := q_nltI c14; have t3 : 1 < x1.toInt := q_nleI c57; have t4 : x1.toInt ≤ lx77.toInt := q_leI c84; omega) (by have t1 : 1 ≤ x1.toInt := q_nltI c10; have t2 : x1.toInt ≤ 800 := q_nltI c14; have t3 : 1 < x1.toInt := q_nleI c57; have t4 : x1.toInt ≤ lx77.toInt := q_leI c84; omega)) (by decide) (by have t1 : 1 ≤ x1.toInt := q_nltI c10; have t2 : x1.toInt ≤ 800 := q_nltI c14; have t3 : 1 < x1.toInt := q_nleI c57; have t4 : x1.toInt ≤ lx77.toInt := q_leI c84; omega) (by have t1 : 1 ≤ x1.toInt := q_nltI c10; have t2 : x1.toInt ≤ 800 := q_nltI c14; have t3 : 1 < x1.toInt := q_nleI c57; have t4 : x1.toInt ≤ lx77.toInt := q_leI c84; omega)) (by decide) (by have t1 : 1 ≤ x1.toInt := q_nltI c10; have t2 : x1.toInt ≤ 800 := q_nltI c14; have t3 : 1 < x1.toInt := q_nleI c57; have t4 : x1.toInt ≤ lx77.toInt := q_leI c84; omega)) _) rfl rfl hO0 rfl hl.1 rfl (Nat.le_of_ble_eq_true rfl) ⟨by decide, by decide⟩ ⟨Nat.le_of_ble_eq_true rfl, Nat.le_of_ble_eq_true rfl⟩ d_17_30_291) (fun u95 H locs hp94 V => ?_)
              obtain ⟨hg96, hO0, hA7⟩ := hp94
              replace hF := q_uc hF hg96 (q_sc (.head _) (q_sc (List.mem_of_getElem? (i := 5) rfl) (fun _ h => absurd h List.not_mem_nil)))
              refine lv_aload_n hx hb d_17_30_294 rfl (lv_at hl 3 rfl) ?_
              refine lv_iload hx hb d_17_30_295 (lv_at hl 0 rfl) ?_
              refine q_gov V (q_runV (As := [.int 0]) (rest := []) (d := 2) (mc := 0) (ms := 0) (ci := 15) C0 V rfl LV_FR_149 (c_FR_number_5 l D g u95 kO0 kA7 qO0 qA1 qA2 qA3 qA4 qA5 qA6 qA7 (((lx78 + 1) + 1) + 1) (upd (upd (upd lx79 lx78.toNatClampNeg 101) (lx78 + 1).toNatClampNeg 43) ((lx78 + 1) + 1).toNatClampNeg 48) hO0 hA7 (q_Ile (x := 5) (y := (((lx78.toInt + 1) + 1) + 1)) (by decide) (q_addI (x := ((lx78.toInt + 1) + 1)) (y := 1) (q_addI (x := (lx78.toInt + 1)) (y := 1) (q_addI (x := lx78.toInt) (y := 1) rfl (by decide) (by have t1 : 1 ≤ x1.toInt := q_nltI c10; have t2 : x1.toInt ≤ 800 := q_nltI c14; have t3 : 1 < x1.toInt := q_nleI c57; have t4 : x1.toInt ≤ lx77.toInt := q_leI c84; omega) (by have t1 : 1 ≤ x1.toInt := q_nltI c10; have t2 : x1.toInt ≤ 800 := q_nltI c14; have t3 : 1 < x1.toInt := q_nleI c57; have t4 : x1.toInt ≤ lx77.toInt := q_leI c84; omega)) (by decide) (by have t1 : 1 ≤ x1.toInt := q_nltI c10; have t2 : x1.toInt ≤ 800 := q_nltI c14; have t3 : 1 < x1.toInt := q_nleI c57; have t4 : x1.toInt ≤ lx77.toInt := q_leI c84; omega) (by have t1 : 1 ≤ x1.toInt := q_nltI c10; have t2 : x1.toInt ≤ 800 := q_nltI c14; have t3 : 1 < x1.toInt := q_nleI c57; have t4 : x1.toInt ≤ lx77.toInt := q_leI c84; omega)) (by decide) (by have t1 : 1 ≤ x1.toInt := q_nltI c10; have t2 : x1.toInt ≤ 800 := q_nltI c14; have t3 : 1 < x1.toInt := q_nleI c57; have t4 : x1.toInt ≤ lx77.toInt := q_leI c84; omega) (by have t1 : 1 ≤ x1.toInt := q_nltI c10; have t2 : x1.toInt ≤ 800 := q_nltI c14; have t3 : 1 < x1.toInt := q_nleI c57; have t4 : x1.toInt ≤ lx77.toInt := q_leI c84; omega)) (by have t1 : 1 ≤ x1.toInt := q_nltI c10; have t2 : x1.toInt ≤ 800 := q_nltI c14; have t3 : 1 < x1.toInt := q_nleI c57; have t4 : x1.toInt ≤ lx77.toInt := q_leI c84; omega)) (q_Ile (x := (((lx78.toInt + 1) + 1) + 1)) (y := 804) (q_addI (x := ((lx78.toInt + 1) + 1)) (y := 1) (q_addI (x := (lx78.toInt + 1)) (y := 1) (q_addI (x := lx78.toInt) (y := 1) rfl (by decide) (by have t1 : 1 ≤ x1.toInt := q_nltI c10; have t2 : x1.toInt ≤ 800 := q_nltI c14; have t3 : 1 < x1.toInt := q_nleI c57; have t4 : x1.toInt ≤ lx77.toInt := q_leI c84; omega) (by have t1 : 1 ≤ x1.toInt := q_nltI c10; have t2 : x1.toInt ≤ 800 := q_nltI c14; have t3 : 1 < x1.toInt := q_nleI c57; have t4 : x1.toInt ≤ lx77.toInt := q_leI c84; omega)) (by decide) (by have t1 : 1 ≤ x1.toInt := q_nltI c10; have t2 : x1.toInt ≤ 800 := q_nltI c14; have t3 : 1 < x1.toInt := q_nleI c57; have t4 : x1.toInt ≤ lx77.toInt := q_leI c84; omega) (by have t1 : 1 ≤ x1.toInt := q_nltI c10; have t2 : x1.toInt ≤ 800 := q_nltI c14; have t3 : 1 < x1.toInt := q_nleI c57; have t4 : x1.toInt ≤ lx77.toInt := q_leI c84; omega)) (by decide) (by have t1 : 1 ≤ x1.toInt := q_nltI c10; have t2 : x1.toInt ≤ 800 := q_nltI c14; have t3 : 1 < x1.toInt := q_nleI c57; have t4 : x1.toInt ≤ lx77.toInt := q_leI c84; omega) (by have t1 : 1 ≤ x1.toInt := q_nltI c10; have t2 : x1.toInt ≤ 800 := q_nltI c14; have t3 : 1 < x1.toInt := q_nleI c57; have t4 : x1.toInt ≤ lx77.toInt := q_leI c84; omega)) (by decide) (by have t1 : 1 ≤ x1.toInt := q_nltI c10; have t2 : x1.toInt ≤ 800 := q_nltI c14; have t3 : 1 < x1.toInt := q_nleI c57; have t4 : x1.toInt ≤ lx77.toInt := q_leI c84; omega)) _) rfl rfl hO0 rfl hl.1 rfl (Nat.le_of_ble_eq_true rfl) ⟨by decide, by decide⟩ ⟨Nat.le_of_ble_eq_true rfl, Nat.le_of_ble_eq_true rfl⟩ d_17_30_297) (fun u98 H locs hp97 V => ?_)
              obtain ⟨hg99, hO0, hA7⟩ := hp97
              replace hF := q_uc hF hg99 (q_sc (.head _) (q_sc (List.mem_of_getElem? (i := 5) rfl) (fun _ h => absurd h List.not_mem_nil)))
              refine lv_aload_n hx hb d_17_30_300 rfl (lv_at hl 3 rfl) ?_
              refine q_get (ci := 15) (j := 8) (v := .int ((((lx78 + 1) + 1) + 1) + 1)) C0 V i_FR rfl rfl hO0 (by decide) w_2084 rfl d_17_30_301 ?_
              replace hA1 := (hg99 _ (q_nc n_A1_O0 (q_nc n_A1_A7 List.not_mem_nil))).trans ((hg96 _ (q_nc n_A1_O0 (q_nc n_A1_A7 List.not_mem_nil))).trans ((hg91 _ (q_nc n_A1_O0 (q_nc n_A1_A7 List.not_mem_nil))).trans ((hg87 _ (q_nc n_A1_O0 (q_nc n_A1_A7 List.not_mem_nil))).trans (hA1))))
              replace hA2 := (hg99 _ (q_nc n_A2_O0 (q_nc n_A2_A7 List.not_mem_nil))).trans ((hg96 _ (q_nc n_A2_O0 (q_nc n_A2_A7 List.not_mem_nil))).trans ((hg91 _ (q_nc n_A2_O0 (q_nc n_A2_A7 List.not_mem_nil))).trans ((hg87 _ (q_nc n_A2_O0 (q_nc n_A2_A7 List.not_mem_nil))).trans (hA2))))
              replace hA3 := (hg99 _ (q_nc n_A3_O0 (q_nc n_A3_A7 List.not_mem_nil))).trans ((hg96 _ (q_nc n_A3_O0 (q_nc n_A3_A7 List.not_mem_nil))).trans ((hg91 _ (q_nc n_A3_O0 (q_nc n_A3_A7 List.not_mem_nil))).trans ((hg87 _ (q_nc n_A3_O0 (q_nc n_A3_A7 List.not_mem_nil))).trans (hA3))))
              replace hA6 := (hg99 _ (q_nc n_A6_O0 (q_nc n_A6_A7 List.not_mem_nil))).trans ((hg96 _ (q_nc n_A6_O0 (q_nc n_A6_A7 List.not_mem_nil))).trans ((hg91 _ (q_nc n_A6_O0 (q_nc n_A6_A7 List.not_mem_nil))).trans ((hg87 _ (q_nc n_A6_O0 (q_nc n_A6_A7 List.not_mem_nil))).trans (hA6))))
              exact q_reti C0 V (Or.inr (Or.inr (Or.inr (Or.inr (Or.inl ⟨lx78, y33, lx79, c10, c14, c18, c22, c57, (show ((x1.toInt < 1 ∧ lx78.toInt = 2) ∨ (1 ≤ x1.toInt ∧ lx78.toInt = 2 + 1 * (x1.toInt - 1))) from by have t1 : 1 ≤ x1.toInt := q_nltI c10; have t2 : x1.toInt ≤ 800 := q_nltI c14; have t3 : 0 ≤ x2.toInt := q_nltI c18; have t4 : x2.toInt ≤ 3 := q_leI c22; have t5 : 1 < x1.toInt := q_nleI c57; have t6 : x1.toInt ≤ lx77.toInt := q_leI c84; have eb : (x1 : Int32).toInt = x1.toInt := rfl; omega), (q_Ile (x := 2) (y := lx78.toInt) (by decide) rfl (by have t1 : 1 ≤ x1.toInt := q_nltI c10; have t2 : x1.toInt ≤ 800 := q_nltI c14; have t3 : 1 < x1.toInt := q_nleI c57; have t4 : x1.toInt ≤ lx77.toInt := q_leI c84; omega)), (q_Ile (x := lx78.toInt) (y := 801) rfl (by decide) (by have t1 : 1 ≤ x1.toInt := q_nltI c10; have t2 : x1.toInt ≤ 800 := q_nltI c14; have t3 : 1 < x1.toInt := q_nleI c57; have t4 : x1.toInt ≤ lx77.toInt := q_leI c84; omega)), rfl, hF, hO0, hA1, hA2, hA3, hA6, hA7⟩))))) d_17_30_304
            ·
              refine lv_aload_n hx hb d_17_30_193 rfl (lv_at hl 3 rfl) ?_
              refine lv_bipush (v := 48) hx hb d_17_30_194 (by decide) ?_
              refine lv_aload_n hx hb d_17_30_196 rfl (lv_at hl 3 rfl) ?_
              refine lv_iload hx hb d_17_30_197 (lv_at hl 1 rfl) ?_
              refine lv_sipush (v := 1080) hx hb d_17_30_199 (by decide) ?_
              refine lv_isub hx hb d_17_30_202 ?_
              refine q_ti (v := 0) (by decide) ?_
              refine lv_iload hx hb d_17_30_203 (lv_at hl 0 rfl) ?_
              refine lv_isub hx hb d_17_30_205 ?_
              refine q_goi V (q_runV (As := [.int (0 - lx77)]) (rest := [.int 48, .ref qO0]) (d := 1) (mc := 0) (ms := 0) (ci := 15) C0 V rfl LV_FR_169 (c_FR_figureAt_2 l D g w80 kO0 kA6 qO0 qA1 qA2 qA3 qA4 qA5 qA6 qA7 (0 - lx77) lx78 hO0 hA6 (q_Ile (x := (-1074)) (y := (0 - lx77.toInt)) (by decide) (q_subI (x := 0) (y := lx77.toInt) (by decide) rfl (by have t1 : 1 ≤ x1.toInt := q_nltI c10; have t2 : x1.toInt ≤ 800 := q_nltI c14; have t3 : 1 < x1.toInt := q_nleI c57; have t4 : lx77.toInt < x1.toInt := q_nleI c84; omega) (by have t1 : 1 ≤ x1.toInt := q_nltI c10; have t2 : x1.toInt ≤ 800 := q_nltI c14; have t3 : 1 < x1.toInt := q_nleI c57; have t4 : lx77.toInt < x1.toInt := q_nleI c84; omega)) (by have t1 : 1 ≤ x1.toInt := q_nltI c10; have t2 : x1.toInt ≤ 800 := q_nltI c14; have t3 : 1 < x1.toInt := q_nleI c57; have t4 : lx77.toInt < x1.toInt := q_nleI c84; omega)) (q_Ile (x := (0 - lx77.toInt)) (y := (-1)) (q_subI (x := 0) (y := lx77.toInt) (by decide) rfl (by have t1 : 1 ≤ x1.toInt := q_nltI c10; have t2 : x1.toInt ≤ 800 := q_nltI c14; have t3 : 1 < x1.toInt := q_nleI c57; have t4 : lx77.toInt < x1.toInt := q_nleI c84; omega) (by have t1 : 1 ≤ x1.toInt := q_nltI c10; have t2 : x1.toInt ≤ 800 := q_nltI c14; have t3 : 1 < x1.toInt := q_nleI c57; have t4 : lx77.toInt < x1.toInt := q_nleI c84; omega)) (by decide) (by have t1 : 1 ≤ x1.toInt := q_nltI c10; have t2 : x1.toInt ≤ 800 := q_nltI c14; have t3 : 1 < x1.toInt := q_nleI c57; have t4 : lx77.toInt < x1.toInt := q_nleI c84; omega)) (q_Ile (x := 2) (y := lx78.toInt) (by decide) rfl (by have t1 : 1 ≤ x1.toInt := q_nltI c10; have t2 : x1.toInt ≤ 800 := q_nltI c14; have t3 : 1 < x1.toInt := q_nleI c57; have t4 : lx77.toInt < x1.toInt := q_nleI c84; omega)) (q_Ile (x := lx78.toInt) (y := 1076) rfl (by decide) (by have t1 : 1 ≤ x1.toInt := q_nltI c10; have t2 : x1.toInt ≤ 800 := q_nltI c14; have t3 : 1 < x1.toInt := q_nleI c57; have t4 : lx77.toInt < x1.toInt := q_nleI c84; omega)) _) rfl rfl hO0 rfl hl.1 rfl (Nat.le_of_ble_eq_true rfl) ⟨by decide, by decide⟩ ⟨Nat.le_of_ble_eq_true rfl, Nat.le_of_ble_eq_true rfl⟩ d_17_30_206) (fun v102 u101 H locs hp100 V => ?_)
              obtain ⟨rfl, rfl⟩ := hp100
              refine lv_iadd hx hb d_17_30_209 ?_
              refine q_ti (v := 48) (by decide) ?_
              refine q_gov V (q_runV (As := [.int 48]) (rest := []) (d := 1) (mc := 0) (ms := 0) (ci := 15) C0 V rfl LV_FR_110 (c_FR_add_3 l D g w80 kO0 kA7 qO0 qA1 qA2 qA3 qA4 qA5 qA6 qA7 lx78 lx79 hO0 hA7 (q_Ile (x := 2) (y := lx78.toInt) (by decide) rfl (by have t1 : 1 ≤ x1.toInt := q_nltI c10; have t2 : x1.toInt ≤ 800 := q_nltI c14; have t3 : 1 < x1.toInt := q_nleI c57; have t4 : lx77.toInt < x1.toInt := q_nleI c84; omega)) (q_Ile (x := lx78.toInt) (y := 1076) rfl (by decide) (by have t1 : 1 ≤ x1.toInt := q_nltI c10; have t2 : x1.toInt ≤ 800 := q_nltI c14; have t3 : 1 < x1.toInt := q_nleI c57; have t4 : lx77.toInt < x1.toInt := q_nleI c84; omega)) _) rfl rfl hO0 rfl hl.1 rfl (Nat.le_of_ble_eq_true rfl) ⟨by decide, by decide⟩ ⟨Nat.le_of_ble_eq_true rfl, Nat.le_of_ble_eq_true rfl⟩ d_17_30_210) (fun u105 H locs hp104 V => ?_)
              obtain ⟨hg106, hO0, hA7⟩ := hp104
              replace hF := q_uc hF hg106 (q_sc (.head _) (q_sc (List.mem_of_getElem? (i := 5) rfl) (fun _ h => absurd h List.not_mem_nil)))
              refine lv_iload hx hb d_17_30_213 (lv_at hl 0 rfl) ?_
              refine lv_if_ne (tgt := 230) hx hb d_17_30_215 (by decide) (fun c107 => ?_) (fun c107 => absurd c107 (q_Ine (x := lx77.toInt) (y := 0) rfl (by decide) (by have t1 : 1 ≤ x1.toInt := q_nltI c10; have t2 : x1.toInt ≤ 800 := q_nltI c14; have t3 : 1 < x1.toInt := q_nleI c57; have t4 : lx77.toInt < x1.toInt := q_nleI c84; omega)))
              refine lv_iinc (v := lx77 + 1) (lv' := [(8, .int (lx77 + 1)), (6, .int 1080), (7, .int ((1080 - x1) + 1)), (0, .ref qO0), (1, .long 0), (3, .int 0), (4, .int x1), (5, .int x2)]) hx hb d_17_30_230 hl (k := 0) rfl (rfl) (by decide) rfl (fun ls hl => ?_)
              refine lv_goto (tgt := 186) hx hb d_17_30_233 (by decide) ?_
              replace hA1 := (hg106 _ (q_nc n_A1_O0 (q_nc n_A1_A7 List.not_mem_nil))).trans (hA1)
              replace hA2 := (hg106 _ (q_nc n_A2_O0 (q_nc n_A2_A7 List.not_mem_nil))).trans (hA2)
              replace hA3 := (hg106 _ (q_nc n_A3_O0 (q_nc n_A3_A7 List.not_mem_nil))).trans (hA3)
              replace hA6 := (hg106 _ (q_nc n_A6_O0 (q_nc n_A6_A7 List.not_mem_nil))).trans (hA6)
              exact ih83 ((lx77 + 1 : Int32), (lx78 + 1 : Int32), (upd lx79 lx78.toNatClampNeg 48 : Nat → Int32)) _ _ _ _ (show (x1.toInt - (lx77 + 1).toInt).toNat < (x1.toInt - lx77.toInt).toNat from by have t1 : 1 ≤ x1.toInt := q_nltI c10; have t2 : x1.toInt ≤ 800 := q_nltI c14; have t3 : 1 < x1.toInt := q_nleI c57; have t4 : lx77.toInt < x1.toInt := q_nleI c84; have e : (lx77 + 1).toInt = (lx77.toInt + 1) := (q_addI (x := lx77.toInt) (y := 1) rfl (by decide) (by have t1 : 1 ≤ x1.toInt := q_nltI c10; have t2 : x1.toInt ≤ 800 := q_nltI c14; have t3 : 1 < x1.toInt := q_nleI c57; have t4 : lx77.toInt < x1.toInt := q_nleI c84; omega) (by have t1 : 1 ≤ x1.toInt := q_nltI c10; have t2 : x1.toInt ≤ 800 := q_nltI c14; have t3 : 1 < x1.toInt := q_nleI c57; have t4 : lx77.toInt < x1.toInt := q_nleI c84; omega)); omega) ⟨(show 1 ≤ (lx77 + 1).toInt ∧ ((lx77 + 1).toInt ≤ x1.toInt ∨ (lx77 + 1).toInt = 1) from by have t1 : 1 ≤ x1.toInt := q_nltI c10; have t2 : x1.toInt ≤ 800 := q_nltI c14; have t3 : 1 < x1.toInt := q_nleI c57; have t4 : lx77.toInt < x1.toInt := q_nleI c84; have e : (lx77 + 1).toInt = (lx77.toInt + 1) := (q_addI (x := lx77.toInt) (y := 1) rfl (by decide) (by have t1 : 1 ≤ x1.toInt := q_nltI c10; have t2 : x1.toInt ≤ 800 := q_nltI c14; have t3 : 1 < x1.toInt := q_nleI c57; have t4 : lx77.toInt < x1.toInt := q_nleI c84; omega) (by have t1 : 1 ≤ x1.toInt := q_nltI c10; have t2 : x1.toInt ≤ 800 := q_nltI c14; have t3 : 1 < x1.toInt := q_nleI c57; have t4 : lx77.toInt < x1.toInt := q_nleI c84; omega)); omega), (show (lx78 + 1 : Int32).toInt = 2 + 1 * ((lx77 + 1 : Int32).toInt - 1) from by have t1 : 1 ≤ x1.toInt := q_nltI c10; have t2 : x1.toInt ≤ 800 := q_nltI c14; have t3 : 0 ≤ x2.toInt := q_nltI c18; have t4 : x2.toInt ≤ 3 := q_leI c22; have t5 : 1 < x1.toInt := q_nleI c57; have t6 : lx77.toInt < x1.toInt := q_nleI c84; have e0 : (lx77 + 1 : Int32).toInt = (lx77.toInt + 1) := (q_addI (x := lx77.toInt) (y := 1) rfl (by decide) (by have t1 : 1 ≤ x1.toInt := q_nltI c10; have t2 : x1.toInt ≤ 800 := q_nltI c14; have t3 : 1 < x1.toInt := q_nleI c57; have t4 : lx77.toInt < x1.toInt := q_nleI c84; omega) (by have t1 : 1 ≤ x1.toInt := q_nltI c10; have t2 : x1.toInt ≤ 800 := q_nltI c14; have t3 : 1 < x1.toInt := q_nleI c57; have t4 : lx77.toInt < x1.toInt := q_nleI c84; omega)); have e1 : (lx78 + 1 : Int32).toInt = (lx78.toInt + 1) := (q_addI (x := lx78.toInt) (y := 1) rfl (by decide) (by have t1 : 1 ≤ x1.toInt := q_nltI c10; have t2 : x1.toInt ≤ 800 := q_nltI c14; have t3 : 1 < x1.toInt := q_nleI c57; have t4 : lx77.toInt < x1.toInt := q_nleI c84; omega) (by have t1 : 1 ≤ x1.toInt := q_nltI c10; have t2 : x1.toInt ≤ 800 := q_nltI c14; have t3 : 1 < x1.toInt := q_nleI c57; have t4 : lx77.toInt < x1.toInt := q_nleI c84; omega)); omega), V, q_lw hl (q_lw1 0 rfl (q_lw1 1 rfl (q_lw1 2 rfl (q_lw1 3 rfl (q_lw1 4 rfl (q_lw1 5 rfl (q_lw1 6 rfl (q_lw1 7 rfl q_lw0)))))))), hF, hO0, hA1, hA2, hA3, hA6, hA7⟩
        ·
          refine lv_iconst (v := 1) hx hb d_17_30_56 (by decide) ?_
          refine lv_goto (tgt := 72) hx hb d_17_30_57 (by decide) ?_
          refine q_put (ci := 15) (j := 0) (v := .int 1) (ty := .int) C0 V i_FR o_FR n_FR rfl rfl hO0 (by decide) w_2074 rfl rfl rfl rfl (Nat.le_of_ble_eq_true rfl) d_17_30_72 (fun H locs w108 hu109 hO0 V => ?_)
          replace hO0 : w108[kO0]? = (some (qO0, .inr (15, [.int 1, .ref qA1, .ref qA2, .ref qA3, .ref qA4, .ref qA5, .ref qA6, .ref qA7, .int 0, .int 0, .int 0, .long 0, .int 52, .int 2047, .long 0, .int (-1074), .long 0, .int 0])) : Option (Nat × va_E)) := hO0
          replace hF := q_us hF hu109 (.head _)
          refine lv_aload_n hx hb d_17_30_75 rfl (lv_at hl 0 rfl) ?_
          refine q_get (ci := 15) (j := 0) (v := .int 1) C0 V i_FR rfl rfl hO0 (by decide) w_2074 rfl d_17_30_76 ?_
          refine lv_if_le (tgt := 84) hx hb d_17_30_79 (by decide) (fun c110 => absurd c110 (by decide)) (fun c110 => ?_)
          refine lv_iconst (v := 0) hx hb d_17_30_82 (by decide) ?_
          replace hA1 := (hu109 _ n_A1_O0).trans ((hg4 _ (q_nc n_A1_O0 List.not_mem_nil)).trans (hA1))
          replace hA2 := (hu109 _ n_A2_O0).trans ((hg4 _ (q_nc n_A2_O0 List.not_mem_nil)).trans (hA2))
          replace hA3 := (hu109 _ n_A3_O0).trans ((hg4 _ (q_nc n_A3_O0 List.not_mem_nil)).trans (hA3))
          replace hA6 := (hu109 _ n_A6_O0).trans ((hg4 _ (q_nc n_A6_O0 List.not_mem_nil)).trans (hA6))
          replace hA7 := (hu109 _ n_A7_O0).trans ((hg4 _ (q_nc n_A7_O0 List.not_mem_nil)).trans (hA7))
          exact q_reti C0 V (Or.inr (Or.inr (Or.inr (Or.inr (Or.inr (⟨c10, c14, c18, c22, rfl, hF, hO0, hA1, hA2, hA3, hA6, hA7⟩)))))) d_17_30_83
