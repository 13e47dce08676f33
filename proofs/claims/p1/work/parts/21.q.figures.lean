/-! the class on a fresh object: figures -/
theorem d_12_11_0 : decode prog_12_method_11_code 0 = .ok (.aload_n 0, 1) := by decide +kernel
theorem d_12_11_1 : decode prog_12_method_11_code 1 = .ok (.getfield 7, 3) := by decide +kernel
theorem d_12_11_4 : decode prog_12_method_11_code 4 = .ok (.invokevirtual 201, 3) := by decide +kernel
theorem w_1545 : (Cond.methodLink "NumberHouse$Writer" (201 : Nat) ({ cls := "NumberHouse$Sheet", name := "clear", desc := "()V" } : MethodName)) ∈ q_tbl := q_of 1545 (by decide +kernel) (by decide +kernel)
theorem LV_Wri_201 : q_LV "NumberHouse$Writer" 201 y_She_clear prog_11_method_2_code 1 none 0 := ⟨w_474, w_2, w_1545, w_472, w_473, ⟨by decide, by decide, by decide +kernel⟩⟩
theorem d_12_11_7 : decode prog_12_method_11_code 7 = .ok (.iload_n 1, 1) := by decide +kernel
theorem d_12_11_8 : decode prog_12_method_11_code 8 = .ok (.ifCond .eq 12, 3) := by decide +kernel
theorem d_12_11_20 : decode prog_12_method_11_code 20 = .ok (.return_, 1) := by decide +kernel
def y_Wri_begin : MethodName := ⟨"NumberHouse$Writer", "begin", "(Z)V"⟩
set_option maxRecDepth 100000 in
set_option maxHeartbeats 4000000 in
theorem c_Wri_begin (l : Launch) (D : va_G) (g : Nat → ClassId) (ws : va_W) (kO0 kO1 qO0 qO1 qO2 qO3 qA4 : Nat) (hO0 : ws[kO0]? = (some (qO0, .inr (9, [.ref qO1, .ref qO2, .ref qO3])) : Option (Nat × va_E))) (hO1 : ws[kO1]? = (some (qO1, .inr (1, [.ref qA4, .int 11008, .int 0])) : Option (Nat × va_E))) : q_mV l y_Wri_begin prog_12_method_11_code 2 2 0 0 D g [.ref qO0, .int 0] ws (fun u => q_un ws u [kO1] ∧ u[kO1]? = (some (qO1, .inr (1, [.ref qA4, .int 11008, .int 0])) : Option (Nat × va_E))) := by
  intro sz
  refine q_into (by decide) (Nat.le_of_ble_eq_true rfl) ?_
  intro p e s m below meth c ls hsz C0 V hl
  have hx := C0.1
  have hb := C0.2.1
  have hl : lv_has ls 2 [(0, .ref qO0), (1, .int 0)] := hl
  have n_O0_O1 := q_dc hO0 hO1 (q_pd 9 1 rfl)
  have hF : q_un ws ws [kO1] := q_u0
  refine lv_aload_n hx hb d_12_11_0 rfl (lv_at hl 0 rfl) ?_
  refine q_get (ci := 9) (j := 0) (v := .ref qO1) C0 V i_Wri rfl rfl hO0 (by decide) w_329 rfl d_12_11_1 ?_
  refine q_gov V (q_runV (As := []) (rest := []) (d := 1) (mc := 0) (ms := 0) (ci := 1) C0 V rfl LV_Wri_201 (c_She_clear_2 l D g ws kO1 qO1 qA4 hO1 _) rfl rfl hO1 rfl hl.1 rfl (Nat.le_of_ble_eq_true rfl) ⟨by decide, by decide⟩ ⟨Nat.le_of_ble_eq_true rfl, Nat.le_of_ble_eq_true rfl⟩ d_12_11_4) (fun u2 H locs hp1 V => ?_)
  obtain ⟨hg3, hO1⟩ := hp1
  replace hF := q_uc hF hg3 (q_sc (.head _) (fun _ h => absurd h List.not_mem_nil))
  refine lv_iload_n hx hb d_12_11_7 rfl (lv_at hl 1 rfl) ?_
  refine lv_if_eq (tgt := 20) hx hb d_12_11_8 (by decide) (fun c4 => ?_) (fun c4 => absurd (by decide) c4)
  exact q_retv C0 V (⟨hF, hO1⟩) d_12_11_20
theorem d_5_6_0 : decode prog_5_method_6_code 0 = .ok (.iload_n 1, 1) := by decide +kernel
theorem d_5_6_1 : decode prog_5_method_6_code 1 = .ok (.aload_n 0, 1) := by decide +kernel
theorem d_5_6_2 : decode prog_5_method_6_code 2 = .ok (.getfield 13, 3) := by decide +kernel
theorem d_5_6_5 : decode prog_5_method_6_code 5 = .ok (.if_icmp .lt 4, 3) := by decide +kernel
theorem d_5_6_8 : decode prog_5_method_6_code 8 = .ok (.return_, 1) := by decide +kernel
def y_Dig_round : MethodName := ⟨"NumberHouse$Digits", "round", "(II)V"⟩
set_option maxRecDepth 100000 in
set_option maxHeartbeats 4000000 in
theorem c_Dig_round (l : Launch) (D : va_G) (g : Nat → ClassId) (ws : va_W) (kO0 qO0 qA1 : Nat) (x1 : Int32) (x2 : Int32) (hO0 : ws[kO0]? = (some (qO0, .inr (7, [.int 0, .int 0, .ref qA1])) : Option (Nat × va_E))) (x1lo : 1 ≤ x1) (x1hi : x1 ≤ 1101) (x2lo : 0 ≤ x2) (x2hi : x2 ≤ 3) : q_mV l y_Dig_round prog_5_method_6_code 4 1 0 0 D g [.ref qO0, .int x1, .int x2] ws (fun u => ws = u) := by
  intro sz
  refine q_into (by decide) (Nat.le_of_ble_eq_true rfl) ?_
  intro p e s m below meth c ls hsz C0 V hl
  have hx := C0.1
  have hb := C0.2.1
  have hl : lv_has ls 4 [(0, .ref qO0), (1, .int x1), (2, .int x2)] := hl
  refine lv_iload_n hx hb d_5_6_0 rfl (lv_at hl 1 rfl) ?_
  refine lv_aload_n hx hb d_5_6_1 rfl (lv_at hl 0 rfl) ?_
  refine q_get (ci := 7) (j := 0) (v := .int 0) C0 V i_Dig rfl rfl hO0 (by decide) w_264 rfl d_5_6_2 ?_
  refine lv_icmp_lt (tgt := 9) hx hb d_5_6_5 (by decide) (fun c1 => absurd c1 (Int32.not_lt.mpr (q_Ile (x := 0) (y := x1.toInt) (by decide) rfl (by have t1 : 1 ≤ x1.toInt := q_leI x1lo; have t2 : x1.toInt ≤ 1101 := q_leI x1hi; omega)))) (fun c1 => ?_)
  exact q_retv C0 V (rfl) d_5_6_8
set_option maxRecDepth 100000 in
set_option maxHeartbeats 4000000 in
theorem c_She_add_9 (l : Launch) (D : va_G) (g : Nat → ClassId) (ws : va_W) (kO0 kA1 qO0 qA1 : Nat) (hO0 : ws[kO0]? = (some (qO0, .inr (1, [.ref qA1, .int 11008, .int 0])) : Option (Nat × va_E))) (hA1 : ws[kA1]? = (some (qA1, .inl (g 1, 1376, .inr (.inl (fun _ => 0)))) : Option (Nat × va_E))) : q_mV l y_She_add prog_11_method_3_code 3 1 0 0 D g [.ref qO0, .int 48] ws (fun u => q_un ws u [kO0, kA1] ∧ u[kO0]? = (some (qO0, .inr (1, [.ref qA1, .int 11008, .int 1])) : Option (Nat × va_E)) ∧ u[kA1]? = (some (qA1, .inl (g 1, 1376, .inr (.inl (vp_updL (fun _ => 0) 0 48)))) : Option (Nat × va_E))) := by
  intro sz
  refine q_into (by decide) (Nat.le_of_ble_eq_true rfl) ?_
  intro p e s m below meth c ls hsz C0 V hl
  have hx := C0.1
  have hb := C0.2.1
  have hl : lv_has ls 3 [(0, .ref qO0), (1, .int 48)] := hl
  have n_A1_O0 := q_df hA1 hO0
  have n_O0_A1 := Ne.symm (q_df hA1 hO0)
  have hF : q_un ws ws [kO0, kA1] := q_u0
  refine lv_aload_n hx hb d_11_3_0 rfl (lv_at hl 0 rfl) ?_
  refine q_get (ci := 1) (j := 2) (v := .int 0) C0 V i_She rfl rfl hO0 (by decide) w_54 rfl d_11_3_1 ?_
  refine lv_aload_n hx hb d_11_3_4 rfl (lv_at hl 0 rfl) ?_
  refine q_get (ci := 1) (j := 1) (v := .int 11008) C0 V i_She rfl rfl hO0 (by decide) w_53 rfl d_11_3_5 ?_
  refine lv_icmp_ge (tgt := 63) hx hb d_11_3_8 (by decide) (fun c1 => absurd c1 (by decide)) (fun c1 => ?_)
  refine lv_bipush (v := 8) hx hb d_11_3_11 (by decide) ?_
  refine lv_aload_n hx hb d_11_3_13 rfl (lv_at hl 0 rfl) ?_
  refine q_get (ci := 1) (j := 2) (v := .int 0) C0 V i_She rfl rfl hO0 (by decide) w_54 rfl d_11_3_14 ?_
  refine lv_bipush (v := 7) hx hb d_11_3_17 (by decide) ?_
  refine lv_iand hx hb d_11_3_19 ?_
  refine q_ti (v := 0) (by decide) ?_
  refine lv_imul hx hb d_11_3_20 ?_
  refine q_ti (v := 0) (by decide) ?_
  refine lv_istore_n (lv' := [(2, .int 0), (0, .ref qO0), (1, .int 48)]) hx hb d_11_3_21 rfl hl (by decide) rfl (fun ls hl => ?_)
  refine lv_aload_n hx hb d_11_3_22 rfl (lv_at hl 1 rfl) ?_
  refine q_get (ci := 1) (j := 0) (v := .ref qA1) C0 V i_She rfl rfl hO0 (by decide) w_52 rfl d_11_3_23 ?_
  refine lv_aload_n hx hb d_11_3_26 rfl (lv_at hl 1 rfl) ?_
  refine q_get (ci := 1) (j := 2) (v := .int 0) C0 V i_She rfl rfl hO0 (by decide) w_54 rfl d_11_3_27 ?_
  refine lv_iconst (v := 3) hx hb d_11_3_30 (by decide) ?_
  refine lv_ishr hx hb d_11_3_31 ?_
  refine q_ti (v := 0) (by decide) ?_
  refine lv_aload_n hx hb d_11_3_32 rfl (lv_at hl 1 rfl) ?_
  refine q_get (ci := 1) (j := 0) (v := .ref qA1) C0 V i_She rfl rfl hO0 (by decide) w_52 rfl d_11_3_33 ?_
  refine lv_aload_n hx hb d_11_3_36 rfl (lv_at hl 1 rfl) ?_
  refine q_get (ci := 1) (j := 2) (v := .int 0) C0 V i_She rfl rfl hO0 (by decide) w_54 rfl d_11_3_37 ?_
  refine lv_iconst (v := 3) hx hb d_11_3_40 (by decide) ?_
  refine lv_ishr hx hb d_11_3_41 ?_
  refine q_ti (v := 0) (by decide) ?_
  refine q_lald C0 V hA1 (by unfold vp_in; decide) d_11_3_42 ?_
  refine q_tl (v := 0) (by first | rfl | decide | simp [upd, vp_updL, sb_cl0]) ?_
  refine q_ldc2 C0 rfl w_565 d_11_3_43 ?_
  refine lv_iload_n hx hb d_11_3_46 rfl (lv_at hl 0 rfl) ?_
  refine lv_lshl hx hb d_11_3_47 rfl ?_
  refine q_tl (v := 255) (by decide) ?_
  refine q_ldc2 C0 rfl w_566 d_11_3_48 ?_
  refine lv_lxor hx hb d_11_3_51 ?_
  refine q_tl (v := (-256)) (by decide) ?_
  refine lv_land hx hb d_11_3_52 ?_
  refine q_tl (v := 0) (by decide) ?_
  refine lv_iload_n hx hb d_11_3_53 rfl (lv_at hl 2 rfl) ?_
  refine lv_sipush (v := 255) hx hb d_11_3_54 (by decide) ?_
  refine lv_iand hx hb d_11_3_57 ?_
  refine q_ti (v := 48) (by decide) ?_
  refine lv_i2l hx hb d_11_3_58 rfl ?_
  refine q_tl (v := 48) (by decide) ?_
  refine lv_iload_n hx hb d_11_3_59 rfl (lv_at hl 0 rfl) ?_
  refine lv_lshl hx hb d_11_3_60 rfl ?_
  refine q_tl (v := 48) (by decide) ?_
  refine lv_lor hx hb d_11_3_61 ?_
  refine q_tl (v := 48) (by decide) ?_
  refine q_last C0 V hA1 (by unfold vp_in; decide) d_11_3_62 (fun H locs w2 hu3 hA1 V => ?_)
  replace hA1 : w2[kA1]? = (some (qA1, .inl (g 1, 1376, .inr (.inl (vp_updL (fun _ => 0) 0 48)))) : Option (Nat × va_E)) := hA1
  replace hF := q_us hF hu3 (.tail _ (.head _))
  refine lv_aload_n hx hb d_11_3_63 rfl (lv_at hl 1 rfl) ?_
  refine lv_dup hx hb d_11_3_64 rfl ?_
  replace hO0 := (hu3 _ n_O0_A1).trans (hO0)
  refine q_get (ci := 1) (j := 2) (v := .int 0) C0 V i_She rfl rfl hO0 (by decide) w_54 rfl d_11_3_65 ?_
  refine lv_iconst (v := 1) hx hb d_11_3_68 (by decide) ?_
  refine lv_iadd hx hb d_11_3_69 ?_
  refine q_ti (v := 1) (by decide) ?_
  refine q_put (ci := 1) (j := 2) (v := .int 1) (ty := .int) C0 V i_She o_She n_She rfl rfl hO0 (by decide) w_54 rfl rfl rfl rfl (Nat.le_of_ble_eq_true rfl) d_11_3_70 (fun H locs w4 hu5 hO0 V => ?_)
  replace hO0 : w4[kO0]? = (some (qO0, .inr (1, [.ref qA1, .int 11008, .int 1])) : Option (Nat × va_E)) := hO0
  replace hF := q_us hF hu5 (.head _)
  replace hA1 := (hu5 _ n_A1_O0).trans (hA1)
  exact q_retv C0 V (⟨hF, hO0, hA1⟩) d_11_3_73
set_option maxRecDepth 100000 in
set_option maxHeartbeats 4000000 in
theorem c_She_add_10 (l : Launch) (D : va_G) (g : Nat → ClassId) (ws : va_W) (kO0 kA1 qO0 qA1 : Nat) (hO0 : ws[kO0]? = (some (qO0, .inr (1, [.ref qA1, .int 11008, .int 1])) : Option (Nat × va_E))) (hA1 : ws[kA1]? = (some (qA1, .inl (g 1, 1376, .inr (.inl (vp_updL (fun _ => 0) 0 48)))) : Option (Nat × va_E))) : q_mV l y_She_add prog_11_method_3_code 3 1 0 0 D g [.ref qO0, .int 46] ws (fun u => q_un ws u [kO0, kA1] ∧ u[kO0]? = (some (qO0, .inr (1, [.ref qA1, .int 11008, .int 2])) : Option (Nat × va_E)) ∧ u[kA1]? = (some (qA1, .inl (g 1, 1376, .inr (.inl (vp_updL (fun _ => 0) 0 11824)))) : Option (Nat × va_E))) := by
  intro sz
  refine q_into (by decide) (Nat.le_of_ble_eq_true rfl) ?_
  intro p e s m below meth c ls hsz C0 V hl
  have hx := C0.1
  have hb := C0.2.1
  have hl : lv_has ls 3 [(0, .ref qO0), (1, .int 46)] := hl
  have n_A1_O0 := q_df hA1 hO0
  have n_O0_A1 := Ne.symm (q_df hA1 hO0)
  have hF : q_un ws ws [kO0, kA1] := q_u0
  refine lv_aload_n hx hb d_11_3_0 rfl (lv_at hl 0 rfl) ?_
  refine q_get (ci := 1) (j := 2) (v := .int 1) C0 V i_She rfl rfl hO0 (by decide) w_54 rfl d_11_3_1 ?_
  refine lv_aload_n hx hb d_11_3_4 rfl (lv_at hl 0 rfl) ?_
  refine q_get (ci := 1) (j := 1) (v := .int 11008) C0 V i_She rfl rfl hO0 (by decide) w_53 rfl d_11_3_5 ?_
  refine lv_icmp_ge (tgt := 63) hx hb d_11_3_8 (by decide) (fun c1 => absurd c1 (by decide)) (fun c1 => ?_)
  refine lv_bipush (v := 8) hx hb d_11_3_11 (by decide) ?_
  refine lv_aload_n hx hb d_11_3_13 rfl (lv_at hl 0 rfl) ?_
  refine q_get (ci := 1) (j := 2) (v := .int 1) C0 V i_She rfl rfl hO0 (by decide) w_54 rfl d_11_3_14 ?_
  refine lv_bipush (v := 7) hx hb d_11_3_17 (by decide) ?_
  refine lv_iand hx hb d_11_3_19 ?_
  refine q_ti (v := 1) (by decide) ?_
  refine lv_imul hx hb d_11_3_20 ?_
  refine q_ti (v := 8) (by decide) ?_
  refine lv_istore_n (lv' := [(2, .int 8), (0, .ref qO0), (1, .int 46)]) hx hb d_11_3_21 rfl hl (by decide) rfl (fun ls hl => ?_)
  refine lv_aload_n hx hb d_11_3_22 rfl (lv_at hl 1 rfl) ?_
  refine q_get (ci := 1) (j := 0) (v := .ref qA1) C0 V i_She rfl rfl hO0 (by decide) w_52 rfl d_11_3_23 ?_
  refine lv_aload_n hx hb d_11_3_26 rfl (lv_at hl 1 rfl) ?_
  refine q_get (ci := 1) (j := 2) (v := .int 1) C0 V i_She rfl rfl hO0 (by decide) w_54 rfl d_11_3_27 ?_
  refine lv_iconst (v := 3) hx hb d_11_3_30 (by decide) ?_
  refine lv_ishr hx hb d_11_3_31 ?_
  refine q_ti (v := 0) (by decide) ?_
  refine lv_aload_n hx hb d_11_3_32 rfl (lv_at hl 1 rfl) ?_
  refine q_get (ci := 1) (j := 0) (v := .ref qA1) C0 V i_She rfl rfl hO0 (by decide) w_52 rfl d_11_3_33 ?_
  refine lv_aload_n hx hb d_11_3_36 rfl (lv_at hl 1 rfl) ?_
  refine q_get (ci := 1) (j := 2) (v := .int 1) C0 V i_She rfl rfl hO0 (by decide) w_54 rfl d_11_3_37 ?_
  refine lv_iconst (v := 3) hx hb d_11_3_40 (by decide) ?_
  refine lv_ishr hx hb d_11_3_41 ?_
  refine q_ti (v := 0) (by decide) ?_
  refine q_lald C0 V hA1 (by unfold vp_in; decide) d_11_3_42 ?_
  refine q_tl (v := 48) (by first | rfl | decide | simp [upd, vp_updL, sb_cl0]) ?_
  refine q_ldc2 C0 rfl w_565 d_11_3_43 ?_
  refine lv_iload_n hx hb d_11_3_46 rfl (lv_at hl 0 rfl) ?_
  refine lv_lshl hx hb d_11_3_47 rfl ?_
  refine q_tl (v := 65280) (by decide) ?_
  refine q_ldc2 C0 rfl w_566 d_11_3_48 ?_
  refine lv_lxor hx hb d_11_3_51 ?_
  refine q_tl (v := (-65281)) (by decide) ?_
  refine lv_land hx hb d_11_3_52 ?_
  refine q_tl (v := 48) (by decide) ?_
  refine lv_iload_n hx hb d_11_3_53 rfl (lv_at hl 2 rfl) ?_
  refine lv_sipush (v := 255) hx hb d_11_3_54 (by decide) ?_
  refine lv_iand hx hb d_11_3_57 ?_
  refine q_ti (v := 46) (by decide) ?_
  refine lv_i2l hx hb d_11_3_58 rfl ?_
  refine q_tl (v := 46) (by decide) ?_
  refine lv_iload_n hx hb d_11_3_59 rfl (lv_at hl 0 rfl) ?_
  refine lv_lshl hx hb d_11_3_60 rfl ?_
  refine q_tl (v := 11776) (by decide) ?_
  refine lv_lor hx hb d_11_3_61 ?_
  refine q_tl (v := 11824) (by decide) ?_
  refine q_last C0 V hA1 (by unfold vp_in; decide) d_11_3_62 (fun H locs w2 hu3 hA1 V => ?_)
  replace hA1 : w2[kA1]? = (some (qA1, .inl (g 1, 1376, .inr (.inl (vp_updL (vp_updL (fun _ => 0) 0 48) 0 11824)))) : Option (Nat × va_E)) := hA1
  replace hA1 := q_re (y := (qA1, .inl (g 1, 1376, .inr (.inl (vp_updL (fun _ => 0) 0 11824))))) hA1 (q_eL (by funext k; simp only [vp_updL]; (repeat' split) <;> first | rfl | omega))
  replace hA1 : w2[kA1]? = (some (qA1, .inl (g 1, 1376, .inr (.inl (vp_updL (fun _ => 0) 0 11824)))) : Option (Nat × va_E)) := hA1
  replace hF := q_us hF hu3 (.tail _ (.head _))
  refine lv_aload_n hx hb d_11_3_63 rfl (lv_at hl 1 rfl) ?_
  refine lv_dup hx hb d_11_3_64 rfl ?_
  replace hO0 := (hu3 _ n_O0_A1).trans (hO0)
  refine q_get (ci := 1) (j := 2) (v := .int 1) C0 V i_She rfl rfl hO0 (by decide) w_54 rfl d_11_3_65 ?_
  refine lv_iconst (v := 1) hx hb d_11_3_68 (by decide) ?_
  refine lv_iadd hx hb d_11_3_69 ?_
  refine q_ti (v := 2) (by decide) ?_
  refine q_put (ci := 1) (j := 2) (v := .int 2) (ty := .int) C0 V i_She o_She n_She rfl rfl hO0 (by decide) w_54 rfl rfl rfl rfl (Nat.le_of_ble_eq_true rfl) d_11_3_70 (fun H locs w4 hu5 hO0 V => ?_)
  replace hO0 : w4[kO0]? = (some (qO0, .inr (1, [.ref qA1, .int 11008, .int 2])) : Option (Nat × va_E)) := hO0
  replace hF := q_us hF hu5 (.head _)
  replace hA1 := (hu5 _ n_A1_O0).trans (hA1)
  exact q_retv C0 V (⟨hF, hO0, hA1⟩) d_11_3_73
set_option maxRecDepth 100000 in
set_option maxHeartbeats 4000000 in
theorem c_Dig_figure_2 (l : Launch) (D : va_G) (g : Nat → ClassId) (ws : va_W) (kO0 qO0 qA1 : Nat) (x1 : Int32) (hO0 : ws[kO0]? = (some (qO0, .inr (7, [.int 0, .int 0, .ref qA1])) : Option (Nat × va_E))) (x1lo : 1 ≤ x1) (x1hi : x1 ≤ 1100) : q_mI l y_Dig_figure prog_5_method_5_code 2 (.int) 1 0 0 D g [.ref qO0, .int x1] ws (fun r u => 0 = r ∧ ws = u) := by
  intro sz
  refine q_into (by decide) (Nat.le_of_ble_eq_true rfl) ?_
  intro p e s m below meth c ls hsz C0 V hl
  have hx := C0.1
  have hb := C0.2.1
  have hl : lv_has ls 2 [(0, .ref qO0), (1, .int x1)] := hl
  refine lv_iload_n hx hb d_5_5_0 rfl (lv_at hl 1 rfl) ?_
  refine lv_if_lt (tgt := 21) hx hb d_5_5_1 (by decide) (fun c1 => absurd c1 (Int32.not_lt.mpr (q_Ile (x := 0) (y := x1.toInt) (by decide) rfl (by have t1 : 1 ≤ x1.toInt := q_leI x1lo; have t2 : x1.toInt ≤ 1100 := q_leI x1hi; omega)))) (fun c1 => ?_)
  refine lv_iload_n hx hb d_5_5_4 rfl (lv_at hl 1 rfl) ?_
  refine lv_aload_n hx hb d_5_5_5 rfl (lv_at hl 0 rfl) ?_
  refine q_get (ci := 7) (j := 0) (v := .int 0) C0 V i_Dig rfl rfl hO0 (by decide) w_264 rfl d_5_5_6 ?_
  refine lv_icmp_ge (tgt := 21) hx hb d_5_5_9 (by decide) (fun c2 => ?_) (fun c2 => absurd (q_Ile (x := 0) (y := x1.toInt) (by decide) rfl (by have t1 : 1 ≤ x1.toInt := q_leI x1lo; have t2 : x1.toInt ≤ 1100 := q_leI x1hi; omega)) c2)
  refine lv_iconst (v := 0) hx hb d_5_5_21 (by decide) ?_
  exact q_reti C0 V (⟨rfl, rfl⟩) d_5_5_22
set_option maxRecDepth 100000 in
set_option maxHeartbeats 4000000 in
theorem c_She_add_11 (l : Launch) (D : va_G) (g : Nat → ClassId) (ws : va_W) (kO0 kA1 qO0 qA1 : Nat) (y1 : Int32) (f2 : Nat → Int64) (hO0 : ws[kO0]? = (some (qO0, .inr (1, [.ref qA1, .int 11008, .int y1])) : Option (Nat × va_E))) (hA1 : ws[kA1]? = (some (qA1, .inl (g 1, 1376, .inr (.inl f2))) : Option (Nat × va_E))) (y1lo : 0 ≤ y1) (y1hi : y1 ≤ 11007) : q_mV l y_She_add prog_11_method_3_code 3 1 0 0 D g [.ref qO0, .int 48] ws (fun u => ∃ (ex0 : Nat → Int64), q_un ws u [kO0, kA1] ∧ u[kO0]? = (some (qO0, .inr (1, [.ref qA1, .int 11008, .int (y1 + 1)])) : Option (Nat × va_E)) ∧ u[kA1]? = (some (qA1, .inl (g 1, 1376, .inr (.inl ex0))) : Option (Nat × va_E))) := by
  intro sz
  refine q_into (by decide) (Nat.le_of_ble_eq_true rfl) ?_
  intro p e s m below meth c ls hsz C0 V hl
  have hx := C0.1
  have hb := C0.2.1
  have hl : lv_has ls 3 [(0, .ref qO0), (1, .int 48)] := hl
  have n_A1_O0 := q_df hA1 hO0
  have n_O0_A1 := Ne.symm (q_df hA1 hO0)
  have hF : q_un ws ws [kO0, kA1] := q_u0
  refine lv_aload_n hx hb d_11_3_0 rfl (lv_at hl 0 rfl) ?_
  refine q_get (ci := 1) (j := 2) (v := .int y1) C0 V i_She rfl rfl hO0 (by decide) w_54 rfl d_11_3_1 ?_
  refine lv_aload_n hx hb d_11_3_4 rfl (lv_at hl 0 rfl) ?_
  refine q_get (ci := 1) (j := 1) (v := .int 11008) C0 V i_She rfl rfl hO0 (by decide) w_53 rfl d_11_3_5 ?_
  refine lv_icmp_ge (tgt := 63) hx hb d_11_3_8 (by decide) (fun c1 => absurd c1 (Int32.not_le.mpr (q_Ilt (x := y1.toInt) (y := 11008) rfl (by decide) (by have t1 : 0 ≤ y1.toInt := q_leI y1lo; have t2 : y1.toInt ≤ 11007 := q_leI y1hi; omega)))) (fun c1 => ?_)
  refine lv_bipush (v := 8) hx hb d_11_3_11 (by decide) ?_
  refine lv_aload_n hx hb d_11_3_13 rfl (lv_at hl 0 rfl) ?_
  refine q_get (ci := 1) (j := 2) (v := .int y1) C0 V i_She rfl rfl hO0 (by decide) w_54 rfl d_11_3_14 ?_
  refine lv_bipush (v := 7) hx hb d_11_3_17 (by decide) ?_
  refine lv_iand hx hb d_11_3_19 ?_
  refine lv_imul hx hb d_11_3_20 ?_
  refine lv_istore_n (lv' := [(2, .int (8 * (y1 &&& 7))), (0, .ref qO0), (1, .int 48)]) hx hb d_11_3_21 rfl hl (by decide) rfl (fun ls hl => ?_)
  refine lv_aload_n hx hb d_11_3_22 rfl (lv_at hl 1 rfl) ?_
  refine q_get (ci := 1) (j := 0) (v := .ref qA1) C0 V i_She rfl rfl hO0 (by decide) w_52 rfl d_11_3_23 ?_
  refine lv_aload_n hx hb d_11_3_26 rfl (lv_at hl 1 rfl) ?_
  refine q_get (ci := 1) (j := 2) (v := .int y1) C0 V i_She rfl rfl hO0 (by decide) w_54 rfl d_11_3_27 ?_
  refine lv_iconst (v := 3) hx hb d_11_3_30 (by decide) ?_
  refine lv_ishr hx hb d_11_3_31 ?_
  refine lv_aload_n hx hb d_11_3_32 rfl (lv_at hl 1 rfl) ?_
  refine q_get (ci := 1) (j := 0) (v := .ref qA1) C0 V i_She rfl rfl hO0 (by decide) w_52 rfl d_11_3_33 ?_
  refine lv_aload_n hx hb d_11_3_36 rfl (lv_at hl 1 rfl) ?_
  refine q_get (ci := 1) (j := 2) (v := .int y1) C0 V i_She rfl rfl hO0 (by decide) w_54 rfl d_11_3_37 ?_
  refine lv_iconst (v := 3) hx hb d_11_3_40 (by decide) ?_
  refine lv_ishr hx hb d_11_3_41 ?_
  refine q_lald C0 V hA1 (q_shr3 (by have t1 : 0 ≤ y1.toInt := q_leI y1lo; have t2 : y1.toInt ≤ 11007 := q_leI y1hi; omega) (by have t1 : 0 ≤ y1.toInt := q_leI y1lo; have t2 : y1.toInt ≤ 11007 := q_leI y1hi; omega)) d_11_3_42 ?_
  refine q_ldc2 C0 rfl w_565 d_11_3_43 ?_
  refine lv_iload_n hx hb d_11_3_46 rfl (lv_at hl 0 rfl) ?_
  refine lv_lshl hx hb d_11_3_47 rfl ?_
  refine q_ldc2 C0 rfl w_566 d_11_3_48 ?_
  refine lv_lxor hx hb d_11_3_51 ?_
  refine lv_land hx hb d_11_3_52 ?_
  refine lv_iload_n hx hb d_11_3_53 rfl (lv_at hl 2 rfl) ?_
  refine lv_sipush (v := 255) hx hb d_11_3_54 (by decide) ?_
  refine lv_iand hx hb d_11_3_57 ?_
  refine q_ti (v := 48) (by decide) ?_
  refine lv_i2l hx hb d_11_3_58 rfl ?_
  refine q_tl (v := 48) (by decide) ?_
  refine lv_iload_n hx hb d_11_3_59 rfl (lv_at hl 0 rfl) ?_
  refine lv_lshl hx hb d_11_3_60 rfl ?_
  refine lv_lor hx hb d_11_3_61 ?_
  refine q_last C0 V hA1 (q_shr3 (by have t1 : 0 ≤ y1.toInt := q_leI y1lo; have t2 : y1.toInt ≤ 11007 := q_leI y1hi; omega) (by have t1 : 0 ≤ y1.toInt := q_leI y1lo; have t2 : y1.toInt ≤ 11007 := q_leI y1hi; omega)) d_11_3_62 (fun H locs w2 hu3 hA1 V => ?_)
  replace hA1 : w2[kA1]? = (some (qA1, .inl (g 1, 1376, .inr (.inl (vp_updL f2 ((y1 >>> (3 &&& 31)).toNatClampNeg) (((f2 (y1 >>> (3 &&& 31)).toNatClampNeg) &&& (((255 : Int64) <<< ((8 * (y1 &&& 7)).toInt64 &&& 63)) ^^^ (-1))) ||| ((48 : Int64) <<< ((8 * (y1 &&& 7)).toInt64 &&& 63))))))) : Option (Nat × va_E)) := hA1
  replace hF := q_us hF hu3 (.tail _ (.head _))
  refine lv_aload_n hx hb d_11_3_63 rfl (lv_at hl 1 rfl) ?_
  refine lv_dup hx hb d_11_3_64 rfl ?_
  replace hO0 := (hu3 _ n_O0_A1).trans (hO0)
  refine q_get (ci := 1) (j := 2) (v := .int y1) C0 V i_She rfl rfl hO0 (by decide) w_54 rfl d_11_3_65 ?_
  refine lv_iconst (v := 1) hx hb d_11_3_68 (by decide) ?_
  refine lv_iadd hx hb d_11_3_69 ?_
  refine q_put (ci := 1) (j := 2) (v := .int (y1 + 1)) (ty := .int) C0 V i_She o_She n_She rfl rfl hO0 (by decide) w_54 rfl rfl rfl rfl (Nat.le_of_ble_eq_true rfl) d_11_3_70 (fun H locs w4 hu5 hO0 V => ?_)
  replace hO0 : w4[kO0]? = (some (qO0, .inr (1, [.ref qA1, .int 11008, .int (y1 + 1)])) : Option (Nat × va_E)) := hO0
  replace hF := q_us hF hu5 (.head _)
  replace hA1 := (hu5 _ n_A1_O0).trans (hA1)
  exact q_retv C0 V (⟨(vp_updL f2 ((y1 >>> (3 &&& 31)).toNatClampNeg) (((f2 (y1 >>> (3 &&& 31)).toNatClampNeg) &&& (((255 : Int64) <<< ((8 * (y1 &&& 7)).toInt64 &&& 63)) ^^^ (-1))) ||| ((48 : Int64) <<< ((8 * (y1 &&& 7)).toInt64 &&& 63)))), hF, hO0, hA1⟩) d_11_3_73
theorem d_5_9_0 : decode prog_5_method_9_code 0 = .ok (.aload_n 0, 1) := by decide +kernel
theorem d_5_9_1 : decode prog_5_method_9_code 1 = .ok (.getfield 33, 3) := by decide +kernel
theorem d_5_9_4 : decode prog_5_method_9_code 4 = .ok (.iconst 0, 1) := by decide +kernel
theorem d_5_9_5 : decode prog_5_method_9_code 5 = .ok (.invokestatic 40, 3) := by decide +kernel
theorem w_1571 : (Cond.methodLink "NumberHouse$Digits" (40 : Nat) ({ cls := "java/lang/Math", name := "max", desc := "(II)I" } : MethodName)) ∈ q_tbl := q_of 1571 (by decide +kernel) (by decide +kernel)
theorem d_5_9_8 : decode prog_5_method_9_code 8 = .ok (.istore 5, 2) := by decide +kernel
theorem d_5_9_10 : decode prog_5_method_9_code 10 = .ok (.iload 5, 2) := by decide +kernel
theorem d_5_9_12 : decode prog_5_method_9_code 12 = .ok (.ifCond .lt 49, 3) := by decide +kernel
theorem d_5_9_15 : decode prog_5_method_9_code 15 = .ok (.aload_n 1, 1) := by decide +kernel
theorem d_5_9_16 : decode prog_5_method_9_code 16 = .ok (.bipush 48, 2) := by decide +kernel
theorem d_5_9_18 : decode prog_5_method_9_code 18 = .ok (.aload_n 0, 1) := by decide +kernel
theorem d_5_9_19 : decode prog_5_method_9_code 19 = .ok (.aload_n 0, 1) := by decide +kernel
theorem d_5_9_20 : decode prog_5_method_9_code 20 = .ok (.getfield 33, 3) := by decide +kernel
theorem d_5_9_23 : decode prog_5_method_9_code 23 = .ok (.iload 5, 2) := by decide +kernel
theorem d_5_9_25 : decode prog_5_method_9_code 25 = .ok (.isub, 1) := by decide +kernel
theorem d_5_9_26 : decode prog_5_method_9_code 26 = .ok (.invokevirtual 49, 3) := by decide +kernel
theorem w_1572 : (Cond.methodLink "NumberHouse$Digits" (49 : Nat) ({ cls := "NumberHouse$Digits", name := "figure", desc := "(I)I" } : MethodName)) ∈ q_tbl := q_of 1572 (by decide +kernel) (by decide +kernel)
theorem LV_Dig_49 : q_LV "NumberHouse$Digits" 49 y_Dig_figure prog_5_method_5_code 2 (some .int) 1 := ⟨w_1151, w_9, w_1572, w_1149, w_1150, ⟨by decide, by decide, by decide +kernel⟩⟩
theorem d_5_9_29 : decode prog_5_method_9_code 29 = .ok (.iadd, 1) := by decide +kernel
theorem d_5_9_30 : decode prog_5_method_9_code 30 = .ok (.invokevirtual 52, 3) := by decide +kernel
theorem w_1573 : (Cond.methodLink "NumberHouse$Digits" (52 : Nat) ({ cls := "NumberHouse$Sheet", name := "add", desc := "(I)V" } : MethodName)) ∈ q_tbl := q_of 1573 (by decide +kernel) (by decide +kernel)
theorem LV_Dig_52 : q_LV "NumberHouse$Digits" 52 y_She_add prog_11_method_3_code 3 none 1 := ⟨w_564, w_2, w_1573, w_562, w_563, ⟨by decide, by decide, by decide +kernel⟩⟩
theorem d_5_9_33 : decode prog_5_method_9_code 33 = .ok (.iload_n 3, 1) := by decide +kernel
theorem d_5_9_34 : decode prog_5_method_9_code 34 = .ok (.ifCond .eq 21, 3) := by decide +kernel
theorem d_5_9_55 : decode prog_5_method_9_code 55 = .ok (.iinc 5 (-1), 3) := by decide +kernel
theorem d_5_9_58 : decode prog_5_method_9_code 58 = .ok (.goto (-48), 3) := by decide +kernel
theorem d_5_9_61 : decode prog_5_method_9_code 61 = .ok (.iload_n 2, 1) := by decide +kernel
theorem d_5_9_62 : decode prog_5_method_9_code 62 = .ok (.ifCond .gt 8, 3) := by decide +kernel
theorem d_5_9_70 : decode prog_5_method_9_code 70 = .ok (.aload_n 1, 1) := by decide +kernel
theorem d_5_9_71 : decode prog_5_method_9_code 71 = .ok (.bipush 46, 2) := by decide +kernel
theorem d_5_9_73 : decode prog_5_method_9_code 73 = .ok (.invokevirtual 52, 3) := by decide +kernel
theorem d_5_9_76 : decode prog_5_method_9_code 76 = .ok (.iconst 1, 1) := by decide +kernel
theorem d_5_9_77 : decode prog_5_method_9_code 77 = .ok (.istore 5, 2) := by decide +kernel
theorem d_5_9_79 : decode prog_5_method_9_code 79 = .ok (.iload 5, 2) := by decide +kernel
theorem d_5_9_81 : decode prog_5_method_9_code 81 = .ok (.iload_n 2, 1) := by decide +kernel
theorem d_5_9_82 : decode prog_5_method_9_code 82 = .ok (.if_icmp .gt 27, 3) := by decide +kernel
theorem d_5_9_109 : decode prog_5_method_9_code 109 = .ok (.return_, 1) := by decide +kernel
theorem d_5_9_85 : decode prog_5_method_9_code 85 = .ok (.aload_n 1, 1) := by decide +kernel
theorem d_5_9_86 : decode prog_5_method_9_code 86 = .ok (.bipush 48, 2) := by decide +kernel
theorem d_5_9_88 : decode prog_5_method_9_code 88 = .ok (.aload_n 0, 1) := by decide +kernel
theorem d_5_9_89 : decode prog_5_method_9_code 89 = .ok (.aload_n 0, 1) := by decide +kernel
theorem d_5_9_90 : decode prog_5_method_9_code 90 = .ok (.getfield 33, 3) := by decide +kernel
theorem d_5_9_93 : decode prog_5_method_9_code 93 = .ok (.iload 5, 2) := by decide +kernel
theorem d_5_9_95 : decode prog_5_method_9_code 95 = .ok (.iadd, 1) := by decide +kernel
theorem d_5_9_96 : decode prog_5_method_9_code 96 = .ok (.invokevirtual 49, 3) := by decide +kernel
theorem d_5_9_99 : decode prog_5_method_9_code 99 = .ok (.iadd, 1) := by decide +kernel
theorem d_5_9_100 : decode prog_5_method_9_code 100 = .ok (.invokevirtual 52, 3) := by decide +kernel
theorem d_5_9_103 : decode prog_5_method_9_code 103 = .ok (.iinc 5 1, 3) := by decide +kernel
theorem d_5_9_106 : decode prog_5_method_9_code 106 = .ok (.goto (-27), 3) := by decide +kernel
theorem d_5_9_65 : decode prog_5_method_9_code 65 = .ok (.iload 4, 2) := by decide +kernel
theorem d_5_9_67 : decode prog_5_method_9_code 67 = .ok (.ifCond .eq 9, 3) := by decide +kernel
def y_Dig_writePlain : MethodName := ⟨"NumberHouse$Digits", "writePlain", "(LNumberHouse$Sheet;IZZ)V"⟩
set_option maxRecDepth 100000 in
set_option maxHeartbeats 4000000 in
theorem c_Dig_writePlain (l : Launch) (D : va_G) (g : Nat → ClassId) (ws : va_W) (kO0 kO1 kA3 qO0 qO1 qA2 qA3 : Nat) (x1 : Int32) (hO0 : ws[kO0]? = (some (qO0, .inr (7, [.int 0, .int 0, .ref qA2])) : Option (Nat × va_E))) (hO1 : ws[kO1]? = (some (qO1, .inr (1, [.ref qA3, .int 11008, .int 0])) : Option (Nat × va_E))) (hA3 : ws[kA3]? = (some (qA3, .inl (g 1, 1376, .inr (.inl (fun _ => 0)))) : Option (Nat × va_E))) (x1lo : 0 ≤ x1) (x1hi : x1 ≤ 1100) : q_mV l y_Dig_writePlain prog_5_method_9_code 6 2 0 0 D g [.ref qO0, .ref qO1, .int x1, .int 0, .int 0] ws (fun u => (∃ (ex0 : Int32) (ex1 : Nat → Int64), 0 < x1 ∧ ((x1.toInt < 1 ∧ ex0.toInt = 2) ∨ (1 ≤ x1.toInt ∧ ex0.toInt = 2 + x1.toInt - 0)) ∧ 2 ≤ ex0 ∧ ex0 ≤ 1102 ∧ q_un ws u [kO1, kA3] ∧ u[kO1]? = (some (qO1, .inr (1, [.ref qA3, .int 11008, .int ex0])) : Option (Nat × va_E)) ∧ u[kA3]? = (some (qA3, .inl (g 1, 1376, .inr (.inl ex1))) : Option (Nat × va_E))) ∨ (∃ (ex0 : Int32) (ex1 : Nat → Int64), ¬ 0 < x1 ∧ ((x1.toInt < 1 ∧ ex0.toInt = 1) ∨ (1 ≤ x1.toInt ∧ ex0.toInt = 1 + x1.toInt - 0)) ∧ 1 ≤ ex0 ∧ ex0 ≤ 1 ∧ q_un ws u [kO1, kA3] ∧ u[kO1]? = (some (qO1, .inr (1, [.ref qA3, .int 11008, .int ex0])) : Option (Nat × va_E)) ∧ u[kA3]? = (some (qA3, .inl (g 1, 1376, .inr (.inl ex1))) : Option (Nat × va_E)))) := by
  intro sz
  refine q_into (by decide) (Nat.le_of_ble_eq_true rfl) ?_
  intro p e s m below meth c ls hsz C0 V hl
  have hx := C0.1
  have hb := C0.2.1
  have hl : lv_has ls 6 [(0, .ref qO0), (1, .ref qO1), (2, .int x1), (3, .int 0), (4, .int 0)] := hl
  have n_O0_A3 := Ne.symm (q_df hA3 hO0)
  have n_O0_O1 := q_dc hO0 hO1 (q_pd 7 1 rfl)
  have hF : q_un ws ws [kO1, kA3] := q_u0
  refine lv_aload_n hx hb d_5_9_0 rfl (lv_at hl 0 rfl) ?_
  refine q_get (ci := 7) (j := 1) (v := .int 0) C0 V i_Dig rfl rfl hO0 (by decide) w_266 rfl d_5_9_1 ?_
  refine lv_iconst (v := 0) hx hb d_5_9_4 (by decide) ?_
  refine q_max C0 hl.1 rfl w_1571 w_803 w_7 w_804 ⟨Nat.le_of_ble_eq_true rfl, Nat.le_of_ble_eq_true rfl⟩ ⟨Nat.le_of_ble_eq_true rfl, Nat.le_of_ble_eq_true rfl⟩ d_5_9_5 ?_
  refine q_ti (v := 0) (by decide) ?_
  refine lv_istore (lv' := [(5, .int 0), (0, .ref qO0), (1, .ref qO1), (2, .int x1), (3, .int 0), (4, .int 0)]) hx hb d_5_9_8 hl (by decide) rfl (fun ls hl => ?_)
  refine lv_iload hx hb d_5_9_10 (lv_at hl 0 rfl) ?_
  refine lv_if_lt (tgt := 61) hx hb d_5_9_12 (by decide) (fun c1 => absurd c1 (by decide)) (fun c1 => ?_)
  refine lv_aload_n hx hb d_5_9_15 rfl (lv_at hl 2 rfl) ?_
  refine lv_bipush (v := 48) hx hb d_5_9_16 (by decide) ?_
  refine lv_aload_n hx hb d_5_9_18 rfl (lv_at hl 1 rfl) ?_
  refine lv_aload_n hx hb d_5_9_19 rfl (lv_at hl 1 rfl) ?_
  refine q_get (ci := 7) (j := 1) (v := .int 0) C0 V i_Dig rfl rfl hO0 (by decide) w_266 rfl d_5_9_20 ?_
  refine lv_iload hx hb d_5_9_23 (lv_at hl 0 rfl) ?_
  refine lv_isub hx hb d_5_9_25 ?_
  refine q_ti (v := 0) (by decide) ?_
  refine q_goi V (q_runV (As := [.int 0]) (rest := [.int 48, .ref qO1]) (d := 1) (mc := 0) (ms := 0) (ci := 7) C0 V rfl LV_Dig_49 (c_Dig_figure l D g ws kO0 qO0 qA2 hO0 _) rfl rfl hO0 rfl hl.1 rfl (Nat.le_of_ble_eq_true rfl) ⟨by decide, by decide⟩ ⟨Nat.le_of_ble_eq_true rfl, Nat.le_of_ble_eq_true rfl⟩ d_5_9_26) (fun v4 u3 H locs hp2 V => ?_)
  obtain ⟨rfl, rfl⟩ := hp2
  refine lv_iadd hx hb d_5_9_29 ?_
  refine q_ti (v := 48) (by decide) ?_
  refine q_gov V (q_runV (As := [.int 48]) (rest := []) (d := 1) (mc := 0) (ms := 0) (ci := 1) C0 V rfl LV_Dig_52 (c_She_add_9 l D g ws kO1 kA3 qO1 qA3 hO1 hA3 _) rfl rfl hO1 rfl hl.1 rfl (Nat.le_of_ble_eq_true rfl) ⟨by decide, by decide⟩ ⟨Nat.le_of_ble_eq_true rfl, Nat.le_of_ble_eq_true rfl⟩ d_5_9_30) (fun u7 H locs hp6 V => ?_)
  obtain ⟨hg8, hO1, hA3⟩ := hp6
  replace hF := q_uc hF hg8 (q_sc (.head _) (q_sc (.tail _ (.head _)) (fun _ h => absurd h List.not_mem_nil)))
  refine lv_iload_n hx hb d_5_9_33 rfl (lv_at hl 4 rfl) ?_
  refine lv_if_eq (tgt := 55) hx hb d_5_9_34 (by decide) (fun c9 => ?_) (fun c9 => absurd (by decide) c9)
  refine lv_iinc (v := (-1)) (lv' := [(5, .int (-1)), (0, .ref qO0), (1, .ref qO1), (2, .int x1), (3, .int 0), (4, .int 0)]) hx hb d_5_9_55 hl (k := 0) rfl (by decide) (by decide) rfl (fun ls hl => ?_)
  refine lv_goto (tgt := 10) hx hb d_5_9_58 (by decide) ?_
  refine lv_iload hx hb d_5_9_10 (lv_at hl 0 rfl) ?_
  refine lv_if_lt (tgt := 61) hx hb d_5_9_12 (by decide) (fun c10 => ?_) (fun c10 => absurd (by decide) c10)
  refine lv_iload_n hx hb d_5_9_61 rfl (lv_at hl 3 rfl) ?_
  refine lv_if_gt (tgt := 70) hx hb d_5_9_62 (by decide) (fun c11 => ?_) (fun c11 => ?_)
  ·
    refine lv_aload_n hx hb d_5_9_70 rfl (lv_at hl 2 rfl) ?_
    refine lv_bipush (v := 46) hx hb d_5_9_71 (by decide) ?_
    refine q_gov V (q_runV (As := [.int 46]) (rest := []) (d := 1) (mc := 0) (ms := 0) (ci := 1) C0 V rfl LV_Dig_52 (c_She_add_10 l D g u7 kO1 kA3 qO1 qA3 hO1 hA3 _) rfl rfl hO1 rfl hl.1 rfl (Nat.le_of_ble_eq_true rfl) ⟨by decide, by decide⟩ ⟨Nat.le_of_ble_eq_true rfl, Nat.le_of_ble_eq_true rfl⟩ d_5_9_73) (fun u13 H locs hp12 V => ?_)
    obtain ⟨hg14, hO1, hA3⟩ := hp12
    replace hF := q_uc hF hg14 (q_sc (.head _) (q_sc (.tail _ (.head _)) (fun _ h => absurd h List.not_mem_nil)))
    refine lv_iconst (v := 1) hx hb d_5_9_76 (by decide) ?_
    refine lv_istore (lv' := [(5, .int 1), (0, .ref qO0), (1, .ref qO1), (2, .int x1), (3, .int 0), (4, .int 0)]) hx hb d_5_9_77 hl (by decide) rfl (fun ls hl => ?_)
    replace hO0 := (hg14 _ (q_nc n_O0_O1 (q_nc n_O0_A3 List.not_mem_nil))).trans ((hg8 _ (q_nc n_O0_O1 (q_nc n_O0_A3 List.not_mem_nil))).trans (hO0))
    refine q_loop (X := Int32 × Int32 × (Nat → Int64)) (fun z H locs ls w18 => (1 ≤ z.1.toInt ∧ (z.1.toInt ≤ x1.toInt + 1 ∨ z.1.toInt = 1)) ∧ (z.2.1.toInt = 2 + z.1.toInt - 1) ∧ q_Wd D g (va_A ws sz) s w18 H locs ∧ lv_has ls 6 [(5, .int z.1), (0, .ref qO0), (1, .ref qO1), (2, .int x1), (3, .int 0), (4, .int 0)] ∧ q_un ws w18 [kO1, kA3] ∧ w18[kO0]? = (some (qO0, .inr (7, [.int 0, .int 0, .ref qA2])) : Option (Nat × va_E)) ∧ w18[kO1]? = (some (qO1, .inr (1, [.ref qA3, .int 11008, .int z.2.1])) : Option (Nat × va_E)) ∧ w18[kA3]? = (some (qA3, .inl (g 1, 1376, .inr (.inl z.2.2))) : Option (Nat × va_E))) (fun z => (x1.toInt + 1 - z.1.toInt).toNat) ?_ ((1 : Int32), (2 : Int32), (vp_updL (fun _ => 0) 0 11824 : (Nat → Int64))) _ _ _ u13 ⟨(show 1 ≤ (1 : Int32).toInt ∧ ((1 : Int32).toInt ≤ x1.toInt + 1 ∨ (1 : Int32).toInt = 1) from by have t1 : 0 ≤ x1.toInt := q_leI x1lo; have t2 : x1.toInt ≤ 1100 := q_leI x1hi; have t3 : 0 < x1.toInt := q_ltI c11; have e0 : (1 : Int32).toInt = 1 := (by decide); have e1 : (2 : Int32).toInt = 2 := (by decide); omega), (show (2 : Int32).toInt = 2 + (1 : Int32).toInt - 1 from by have t1 : 0 ≤ x1.toInt := q_leI x1lo; have t2 : x1.toInt ≤ 1100 := q_leI x1hi; have t3 : 0 < x1.toInt := q_ltI c11; have e0 : (1 : Int32).toInt = 1 := (by decide); have e1 : (2 : Int32).toInt = 2 := (by decide); omega), V, hl, hF, hO0, hO1, hA3⟩
    rintro ⟨lx15, lx16, lx17⟩ H locs ls w18 ⟨i19, i20, V, hl, hF, hO0, hO1, hA3⟩ ih21
    replace i19 : 1 ≤ lx15.toInt ∧ (lx15.toInt ≤ x1.toInt + 1 ∨ lx15.toInt = 1) := i19
    replace i20 : lx16.toInt = 2 + lx15.toInt - 1 := i20
    replace hl : lv_has ls 6 [(5, .int lx15), (0, .ref qO0), (1, .ref qO1), (2, .int x1), (3, .int 0), (4, .int 0)] := hl
    replace hO0 : w18[kO0]? = (some (qO0, .inr (7, [.int 0, .int 0, .ref qA2])) : Option (Nat × va_E)) := hO0
    replace hO1 : w18[kO1]? = (some (qO1, .inr (1, [.ref qA3, .int 11008, .int lx16])) : Option (Nat × va_E)) := hO1
    replace hA3 : w18[kA3]? = (some (qA3, .inl (g 1, 1376, .inr (.inl lx17))) : Option (Nat × va_E)) := hA3
    refine lv_iload hx hb d_5_9_79 (lv_at hl 0 rfl) ?_
    refine lv_iload_n hx hb d_5_9_81 rfl (lv_at hl 3 rfl) ?_
    refine lv_icmp_gt (tgt := 109) hx hb d_5_9_82 (by decide) (fun c22 => ?_) (fun c22 => ?_)
    ·
      have e23 : ((x1.toInt < 1 ∧ lx16.toInt = 2) ∨ (1 ≤ x1.toInt ∧ lx16.toInt = 2 + x1.toInt - 0)) := by have t1 : 0 ≤ x1.toInt := q_leI x1lo; have t2 : x1.toInt ≤ 1100 := q_leI x1hi; have t3 : 0 < x1.toInt := q_ltI c11; have t4 : x1.toInt < lx15.toInt := q_ltI c22; omega
      have e24 : 2 ≤ lx16 := q_Ile (x := 2) (y := lx16.toInt) (by decide) rfl (by have t1 : 0 ≤ x1.toInt := q_leI x1lo; have t2 : x1.toInt ≤ 1100 := q_leI x1hi; have t3 : 0 < x1.toInt := q_ltI c11; have t4 : x1.toInt < lx15.toInt := q_ltI c22; omega)
      have e25 : lx16 ≤ 1102 := q_Ile (x := lx16.toInt) (y := 1102) rfl (by decide) (by have t1 : 0 ≤ x1.toInt := q_leI x1lo; have t2 : x1.toInt ≤ 1100 := q_leI x1hi; have t3 : 0 < x1.toInt := q_ltI c11; have t4 : x1.toInt < lx15.toInt := q_ltI c22; omega)
      exact q_retv C0 V (Or.inl ⟨lx16, lx17, c11, e23, e24, e25, hF, hO1, hA3⟩) d_5_9_109
    ·
      refine lv_aload_n hx hb d_5_9_85 rfl (lv_at hl 2 rfl) ?_
      refine lv_bipush (v := 48) hx hb d_5_9_86 (by decide) ?_
      refine lv_aload_n hx hb d_5_9_88 rfl (lv_at hl 1 rfl) ?_
      refine lv_aload_n hx hb d_5_9_89 rfl (lv_at hl 1 rfl) ?_
      refine q_get (ci := 7) (j := 1) (v := .int 0) C0 V i_Dig rfl rfl hO0 (by decide) w_266 rfl d_5_9_90 ?_
      refine lv_iload hx hb d_5_9_93 (lv_at hl 0 rfl) ?_
      refine lv_iadd hx hb d_5_9_95 ?_
      refine q_ti (v := lx15) (by simp) ?_
      refine q_goi V (q_runV (As := [.int lx15]) (rest := [.int 48, .ref qO1]) (d := 1) (mc := 0) (ms := 0) (ci := 7) C0 V rfl LV_Dig_49 (c_Dig_figure_2 l D g w18 kO0 qO0 qA2 lx15 hO0 (q_Ile (x := 1) (y := lx15.toInt) (by decide) rfl (by have t1 : 0 ≤ x1.toInt := q_leI x1lo; have t2 : x1.toInt ≤ 1100 := q_leI x1hi; have t3 : 0 < x1.toInt := q_ltI c11; have t4 : lx15.toInt ≤ x1.toInt := q_nltI c22; omega)) (q_Ile (x := lx15.toInt) (y := 1100) rfl (by decide) (by have t1 : 0 ≤ x1.toInt := q_leI x1lo; have t2 : x1.toInt ≤ 1100 := q_leI x1hi; have t3 : 0 < x1.toInt := q_ltI c11; have t4 : lx15.toInt ≤ x1.toInt := q_nltI c22; omega)) _) rfl rfl hO0 rfl hl.1 rfl (Nat.le_of_ble_eq_true rfl) ⟨by decide, by decide⟩ ⟨Nat.le_of_ble_eq_true rfl, Nat.le_of_ble_eq_true rfl⟩ d_5_9_96) (fun v28 u27 H locs hp26 V => ?_)
      obtain ⟨rfl, rfl⟩ := hp26
      refine lv_iadd hx hb d_5_9_99 ?_
      refine q_ti (v := 48) (by decide) ?_
      refine q_gov V (q_runV (As := [.int 48]) (rest := []) (d := 1) (mc := 0) (ms := 0) (ci := 1) C0 V rfl LV_Dig_52 (c_She_add_11 l D g w18 kO1 kA3 qO1 qA3 lx16 lx17 hO1 hA3 (q_Ile (x := 0) (y := lx16.toInt) (by decide) rfl (by have t1 : 0 ≤ x1.toInt := q_leI x1lo; have t2 : x1.toInt ≤ 1100 := q_leI x1hi; have t3 : 0 < x1.toInt := q_ltI c11; have t4 : lx15.toInt ≤ x1.toInt := q_nltI c22; omega)) (q_Ile (x := lx16.toInt) (y := 11007) rfl (by decide) (by have t1 : 0 ≤ x1.toInt := q_leI x1lo; have t2 : x1.toInt ≤ 1100 := q_leI x1hi; have t3 : 0 < x1.toInt := q_ltI c11; have t4 : lx15.toInt ≤ x1.toInt := q_nltI c22; omega)) _) rfl rfl hO1 rfl hl.1 rfl (Nat.le_of_ble_eq_true rfl) ⟨by decide, by decide⟩ ⟨Nat.le_of_ble_eq_true rfl, Nat.le_of_ble_eq_true rfl⟩ d_5_9_100) (fun u31 H locs hp30 V => ?_)
      obtain ⟨y32, hg33, hO1, hA3⟩ := hp30
      replace hF := q_uc hF hg33 (q_sc (.head _) (q_sc (.tail _ (.head _)) (fun _ h => absurd h List.not_mem_nil)))
      refine lv_iinc (v := lx15 + 1) (lv' := [(5, .int (lx15 + 1)), (0, .ref qO0), (1, .ref qO1), (2, .int x1), (3, .int 0), (4, .int 0)]) hx hb d_5_9_103 hl (k := 0) rfl (rfl) (by decide) rfl (fun ls hl => ?_)
      refine lv_goto (tgt := 79) hx hb d_5_9_106 (by decide) ?_
      replace hO0 := (hg33 _ (q_nc n_O0_O1 (q_nc n_O0_A3 List.not_mem_nil))).trans (hO0)
      exact ih21 ((lx15 + 1 : Int32), (lx16 + 1 : Int32), (y32 : Nat → Int64)) _ _ _ _ (show (x1.toInt + 1 - (lx15 + 1 : Int32).toInt).toNat < (x1.toInt + 1 - lx15.toInt).toNat from by have t1 : 0 ≤ x1.toInt := q_leI x1lo; have t2 : x1.toInt ≤ 1100 := q_leI x1hi; have t3 : 0 < x1.toInt := q_ltI c11; have t4 : lx15.toInt ≤ x1.toInt := q_nltI c22; have e0 : (lx15 + 1 : Int32).toInt = (lx15.toInt + 1) := (q_addI (x := lx15.toInt) (y := 1) rfl (by decide) (by have t1 : 0 ≤ x1.toInt := q_leI x1lo; have t2 : x1.toInt ≤ 1100 := q_leI x1hi; have t3 : 0 < x1.toInt := q_ltI c11; have t4 : lx15.toInt ≤ x1.toInt := q_nltI c22; omega) (by have t1 : 0 ≤ x1.toInt := q_leI x1lo; have t2 : x1.toInt ≤ 1100 := q_leI x1hi; have t3 : 0 < x1.toInt := q_ltI c11; have t4 : lx15.toInt ≤ x1.toInt := q_nltI c22; omega)); have e1 : (lx16 + 1 : Int32).toInt = (lx16.toInt + 1) := (q_addI (x := lx16.toInt) (y := 1) rfl (by decide) (by have t1 : 0 ≤ x1.toInt := q_leI x1lo; have t2 : x1.toInt ≤ 1100 := q_leI x1hi; have t3 : 0 < x1.toInt := q_ltI c11; have t4 : lx15.toInt ≤ x1.toInt := q_nltI c22; omega) (by have t1 : 0 ≤ x1.toInt := q_leI x1lo; have t2 : x1.toInt ≤ 1100 := q_leI x1hi; have t3 : 0 < x1.toInt := q_ltI c11; have t4 : lx15.toInt ≤ x1.toInt := q_nltI c22; omega)); omega) ⟨(show 1 ≤ (lx15 + 1 : Int32).toInt ∧ ((lx15 + 1 : Int32).toInt ≤ x1.toInt + 1 ∨ (lx15 + 1 : Int32).toInt = 1) from by have t1 : 0 ≤ x1.toInt := q_leI x1lo; have t2 : x1.toInt ≤ 1100 := q_leI x1hi; have t3 : 0 < x1.toInt := q_ltI c11; have t4 : lx15.toInt ≤ x1.toInt := q_nltI c22; have e0 : (lx15 + 1 : Int32).toInt = (lx15.toInt + 1) := (q_addI (x := lx15.toInt) (y := 1) rfl (by decide) (by have t1 : 0 ≤ x1.toInt := q_leI x1lo; have t2 : x1.toInt ≤ 1100 := q_leI x1hi; have t3 : 0 < x1.toInt := q_ltI c11; have t4 : lx15.toInt ≤ x1.toInt := q_nltI c22; omega) (by have t1 : 0 ≤ x1.toInt := q_leI x1lo; have t2 : x1.toInt ≤ 1100 := q_leI x1hi; have t3 : 0 < x1.toInt := q_ltI c11; have t4 : lx15.toInt ≤ x1.toInt := q_nltI c22; omega)); have e1 : (lx16 + 1 : Int32).toInt = (lx16.toInt + 1) := (q_addI (x := lx16.toInt) (y := 1) rfl (by decide) (by have t1 : 0 ≤ x1.toInt := q_leI x1lo; have t2 : x1.toInt ≤ 1100 := q_leI x1hi; have t3 : 0 < x1.toInt := q_ltI c11; have t4 : lx15.toInt ≤ x1.toInt := q_nltI c22; omega) (by have t1 : 0 ≤ x1.toInt := q_leI x1lo; have t2 : x1.toInt ≤ 1100 := q_leI x1hi; have t3 : 0 < x1.toInt := q_ltI c11; have t4 : lx15.toInt ≤ x1.toInt := q_nltI c22; omega)); omega), (show (lx16 + 1 : Int32).toInt = 2 + (lx15 + 1 : Int32).toInt - 1 from by have t1 : 0 ≤ x1.toInt := q_leI x1lo; have t2 : x1.toInt ≤ 1100 := q_leI x1hi; have t3 : 0 < x1.toInt := q_ltI c11; have t4 : lx15.toInt ≤ x1.toInt := q_nltI c22; have e0 : (lx15 + 1 : Int32).toInt = (lx15.toInt + 1) := (q_addI (x := lx15.toInt) (y := 1) rfl (by decide) (by have t1 : 0 ≤ x1.toInt := q_leI x1lo; have t2 : x1.toInt ≤ 1100 := q_leI x1hi; have t3 : 0 < x1.toInt := q_ltI c11; have t4 : lx15.toInt ≤ x1.toInt := q_nltI c22; omega) (by have t1 : 0 ≤ x1.toInt := q_leI x1lo; have t2 : x1.toInt ≤ 1100 := q_leI x1hi; have t3 : 0 < x1.toInt := q_ltI c11; have t4 : lx15.toInt ≤ x1.toInt := q_nltI c22; omega)); have e1 : (lx16 + 1 : Int32).toInt = (lx16.toInt + 1) := (q_addI (x := lx16.toInt) (y := 1) rfl (by decide) (by have t1 : 0 ≤ x1.toInt := q_leI x1lo; have t2 : x1.toInt ≤ 1100 := q_leI x1hi; have t3 : 0 < x1.toInt := q_ltI c11; have t4 : lx15.toInt ≤ x1.toInt := q_nltI c22; omega) (by have t1 : 0 ≤ x1.toInt := q_leI x1lo; have t2 : x1.toInt ≤ 1100 := q_leI x1hi; have t3 : 0 < x1.toInt := q_ltI c11; have t4 : lx15.toInt ≤ x1.toInt := q_nltI c22; omega)); omega), V, q_lw hl (q_lw1 0 rfl (q_lw1 1 rfl (q_lw1 2 rfl (q_lw1 3 rfl (q_lw1 4 rfl (q_lw1 5 rfl q_lw0)))))), hF, hO0, hO1, hA3⟩
  ·
    refine lv_iload hx hb d_5_9_65 (lv_at hl 5 rfl) ?_
    refine lv_if_eq (tgt := 76) hx hb d_5_9_67 (by decide) (fun c34 => ?_) (fun c34 => absurd (by decide) c34)
    refine lv_iconst (v := 1) hx hb d_5_9_76 (by decide) ?_
    refine lv_istore (lv' := [(5, .int 1), (0, .ref qO0), (1, .ref qO1), (2, .int x1), (3, .int 0), (4, .int 0)]) hx hb d_5_9_77 hl (by decide) rfl (fun ls hl => ?_)
    replace hO0 := (hg8 _ (q_nc n_O0_O1 (q_nc n_O0_A3 List.not_mem_nil))).trans (hO0)
    refine q_loop (X := Int32 × Int32 × (Nat → Int64)) (fun z H locs ls w38 => (1 ≤ z.1.toInt ∧ (z.1.toInt ≤ x1.toInt + 1 ∨ z.1.toInt = 1)) ∧ (z.2.1.toInt = 1 + z.1.toInt - 1) ∧ q_Wd D g (va_A ws sz) s w38 H locs ∧ lv_has ls 6 [(5, .int z.1), (0, .ref qO0), (1, .ref qO1), (2, .int x1), (3, .int 0), (4, .int 0)] ∧ q_un ws w38 [kO1, kA3] ∧ w38[kO0]? = (some (qO0, .inr (7, [.int 0, .int 0, .ref qA2])) : Option (Nat × va_E)) ∧ w38[kO1]? = (some (qO1, .inr (1, [.ref qA3, .int 11008, .int z.2.1])) : Option (Nat × va_E)) ∧ w38[kA3]? = (some (qA3, .inl (g 1, 1376, .inr (.inl z.2.2))) : Option (Nat × va_E))) (fun z => (x1.toInt + 1 - z.1.toInt).toNat) ?_ ((1 : Int32), (1 : Int32), (vp_updL (fun _ => 0) 0 48 : (Nat → Int64))) _ _ _ u7 ⟨(show 1 ≤ (1 : Int32).toInt ∧ ((1 : Int32).toInt ≤ x1.toInt + 1 ∨ (1 : Int32).toInt = 1) from by have t1 : 0 ≤ x1.toInt := q_leI x1lo; have t2 : x1.toInt ≤ 1100 := q_leI x1hi; have t3 : x1.toInt ≤ 0 := q_nltI c11; have e0 : (1 : Int32).toInt = 1 := (by decide); have e1 : (1 : Int32).toInt = 1 := (by decide); omega), (show (1 : Int32).toInt = 1 + (1 : Int32).toInt - 1 from by have t1 : 0 ≤ x1.toInt := q_leI x1lo; have t2 : x1.toInt ≤ 1100 := q_leI x1hi; have t3 : x1.toInt ≤ 0 := q_nltI c11; have e0 : (1 : Int32).toInt = 1 := (by decide); have e1 : (1 : Int32).toInt = 1 := (by decide); omega), V, hl, hF, hO0, hO1, hA3⟩
    rintro ⟨lx35, lx36, lx37⟩ H locs ls w38 ⟨i39, i40, V, hl, hF, hO0, hO1, hA3⟩ ih41
    replace i39 : 1 ≤ lx35.toInt ∧ (lx35.toInt ≤ x1.toInt + 1 ∨ lx35.toInt = 1) := i39
    replace i40 : lx36.toInt = 1 + lx35.toInt - 1 := i40
    replace hl : lv_has ls 6 [(5, .int lx35), (0, .ref qO0), (1, .ref qO1), (2, .int x1), (3, .int 0), (4, .int 0)] := hl
    replace hO0 : w38[kO0]? = (some (qO0, .inr (7, [.int 0, .int 0, .ref qA2])) : Option (Nat × va_E)) := hO0
    replace hO1 : w38[kO1]? = (some (qO1, .inr (1, [.ref qA3, .int 11008, .int lx36])) : Option (Nat × va_E)) := hO1
    replace hA3 : w38[kA3]? = (some (qA3, .inl (g 1, 1376, .inr (.inl lx37))) : Option (Nat × va_E)) := hA3
    refine lv_iload hx hb d_5_9_79 (lv_at hl 0 rfl) ?_
    refine q_ti (v := 1) (q_Ieq (x := lx35.toInt) (y := 1) rfl (by decide) (by have t1 : 0 ≤ x1.toInt := q_leI x1lo; have t2 : x1.toInt ≤ 1100 := q_leI x1hi; have t3 : x1.toInt ≤ 0 := q_nltI c11; omega)) ?_
    refine lv_iload_n hx hb d_5_9_81 rfl (lv_at hl 3 rfl) ?_
    refine q_ti (v := 0) (q_Ieq (x := x1.toInt) (y := 0) rfl (by decide) (by have t1 : 0 ≤ x1.toInt := q_leI x1lo; have t2 : x1.toInt ≤ 1100 := q_leI x1hi; have t3 : x1.toInt ≤ 0 := q_nltI c11; omega)) ?_
    refine lv_icmp_gt (tgt := 109) hx hb d_5_9_82 (by decide) (fun c42 => ?_) (fun c42 => absurd (by decide) c42)
    have e43 : ((x1.toInt < 1 ∧ lx36.toInt = 1) ∨ (1 ≤ x1.toInt ∧ lx36.toInt = 1 + x1.toInt - 0)) := by have t1 : 0 ≤ x1.toInt := q_leI x1lo; have t2 : x1.toInt ≤ 1100 := q_leI x1hi; have t3 : x1.toInt ≤ 0 := q_nltI c11; omega
    have e44 : 1 ≤ lx36 := q_Ile (x := 1) (y := lx36.toInt) (by decide) rfl (by have t1 : 0 ≤ x1.toInt := q_leI x1lo; have t2 : x1.toInt ≤ 1100 := q_leI x1hi; have t3 : x1.toInt ≤ 0 := q_nltI c11; omega)
    have e45 : lx36 ≤ 1 := q_Ile (x := lx36.toInt) (y := 1) rfl (by decide) (by have t1 : 0 ≤ x1.toInt := q_leI x1lo; have t2 : x1.toInt ≤ 1100 := q_leI x1hi; have t3 : x1.toInt ≤ 0 := q_nltI c11; omega)
    exact q_retv C0 V (Or.inr (⟨lx36, lx37, c11, e43, e44, e45, hF, hO1, hA3⟩)) d_5_9_109
theorem d_12_10_0 : decode prog_12_method_10_code 0 = .ok (.aload_n 0, 1) := by decide +kernel
theorem d_12_10_1 : decode prog_12_method_10_code 1 = .ok (.aload_n 1, 1) := by decide +kernel
theorem d_12_10_2 : decode prog_12_method_10_code 2 = .ok (.lload_n 2, 1) := by decide +kernel
theorem d_12_10_3 : decode prog_12_method_10_code 3 = .ok (.invokevirtual 118, 3) := by decide +kernel
theorem w_1602 : (Cond.methodLink "NumberHouse$Writer" (118 : Nat) ({ cls := "NumberHouse$Floats", name := "isNegative", desc := "(J)Z" } : MethodName)) ∈ q_tbl := q_of 1602 (by decide +kernel) (by decide +kernel)
theorem LV_Wri_118 : q_LV "NumberHouse$Writer" 118 y_Flo_isNegative prog_7_method_4_code 3 (some .boolean) 1 := ⟨w_1244, w_8, w_1602, w_1242, w_1243, ⟨by decide, by decide, by decide +kernel⟩⟩
theorem d_12_10_6 : decode prog_12_method_10_code 6 = .ok (.invokevirtual 27, 3) := by decide +kernel
theorem w_1544 : (Cond.code ({ cls := "NumberHouse$Writer", name := "begin", desc := "(Z)V" } : MethodName) prog_12_method_11_code (2 : Nat) (none : Option ClassFile.FieldType)) ∈ q_tbl := q_of 1544 (by decide +kernel) (by decide +kernel)
theorem w_1541 : (Cond.methodLink "NumberHouse$Writer" (27 : Nat) ({ cls := "NumberHouse$Writer", name := "begin", desc := "(Z)V" } : MethodName)) ∈ q_tbl := q_of 1541 (by decide +kernel) (by decide +kernel)
theorem w_1543 : (Cond.instanceMethod ({ cls := "NumberHouse$Writer", name := "begin", desc := "(Z)V" } : MethodName)) ∈ q_tbl := q_of 1543 (by decide +kernel) (by decide +kernel)
theorem ws_36 : Cond.selects "NumberHouse$Writer" (⟨"NumberHouse$Writer", "begin", "(Z)V"⟩ : MethodName) (⟨"NumberHouse$Writer", "begin", "(Z)V"⟩ : MethodName) ∈ q_tbl := q_ofs 36 (by decide +kernel) (by decide +kernel)
theorem LV_Wri_27 : q_LV "NumberHouse$Writer" 27 y_Wri_begin prog_12_method_11_code 2 none 1 := ⟨w_1544, w_11, w_1541, w_1543, ws_36, ⟨by decide, by decide, by decide +kernel⟩⟩
theorem d_12_10_9 : decode prog_12_method_10_code 9 = .ok (.aload_n 0, 1) := by decide +kernel
theorem d_12_10_10 : decode prog_12_method_10_code 10 = .ok (.getfield 17, 3) := by decide +kernel
theorem d_12_10_13 : decode prog_12_method_10_code 13 = .ok (.aload_n 0, 1) := by decide +kernel
theorem d_12_10_14 : decode prog_12_method_10_code 14 = .ok (.getfield 13, 3) := by decide +kernel
theorem d_12_10_17 : decode prog_12_method_10_code 17 = .ok (.getfield 39, 3) := by decide +kernel
theorem w_110 : (Cond.fieldLink "NumberHouse$Writer" (39 : Nat) "NumberHouse$Mill" "number" "LNumberHouse$Big;") ∈ q_tbl := q_of 110 (by decide +kernel) (by decide +kernel)
theorem d_12_10_20 : decode prog_12_method_10_code 20 = .ok (.aload_n 1, 1) := by decide +kernel
theorem d_12_10_21 : decode prog_12_method_10_code 21 = .ok (.lload_n 2, 1) := by decide +kernel
theorem d_12_10_22 : decode prog_12_method_10_code 22 = .ok (.invokevirtual 192, 3) := by decide +kernel
theorem w_1651 : (Cond.methodLink "NumberHouse$Writer" (192 : Nat) ({ cls := "NumberHouse$Floats", name := "exactly", desc := "(J)I" } : MethodName)) ∈ q_tbl := q_of 1651 (by decide +kernel) (by decide +kernel)
theorem LV_Wri_192 : q_LV "NumberHouse$Writer" 192 y_Flo_exactly prog_7_method_15_code 7 (some .int) 1 := ⟨w_1515, w_8, w_1651, w_1513, w_1514, ⟨by decide, by decide, by decide +kernel⟩⟩
theorem d_12_10_25 : decode prog_12_method_10_code 25 = .ok (.invokevirtual 75, 3) := by decide +kernel
theorem w_1565 : (Cond.methodLink "NumberHouse$Writer" (75 : Nat) ({ cls := "NumberHouse$Digits", name := "fill", desc := "(LNumberHouse$Big;I)V" } : MethodName)) ∈ q_tbl := q_of 1565 (by decide +kernel) (by decide +kernel)
theorem LV_Wri_75 : q_LV "NumberHouse$Writer" 75 y_Dig_fill prog_5_method_2_code 6 none 2 := ⟨w_1141, w_9, w_1565, w_1139, w_1140, ⟨by decide, by decide, by decide +kernel⟩⟩
theorem d_12_10_28 : decode prog_12_method_10_code 28 = .ok (.aload_n 0, 1) := by decide +kernel
theorem d_12_10_29 : decode prog_12_method_10_code 29 = .ok (.getfield 17, 3) := by decide +kernel
theorem d_12_10_32 : decode prog_12_method_10_code 32 = .ok (.iload 4, 2) := by decide +kernel
theorem d_12_10_34 : decode prog_12_method_10_code 34 = .ok (.ifCond .eq 8, 3) := by decide +kernel
theorem d_12_10_42 : decode prog_12_method_10_code 42 = .ok (.aload_n 0, 1) := by decide +kernel
theorem d_12_10_43 : decode prog_12_method_10_code 43 = .ok (.getfield 17, 3) := by decide +kernel
theorem d_12_10_46 : decode prog_12_method_10_code 46 = .ok (.getfield 167, 3) := by decide +kernel
theorem w_267 : (Cond.fieldLink "NumberHouse$Writer" (167 : Nat) "NumberHouse$Digits" "power" "I") ∈ q_tbl := q_of 267 (by decide +kernel) (by decide +kernel)
theorem d_12_10_49 : decode prog_12_method_10_code 49 = .ok (.iconst 1, 1) := by decide +kernel
theorem d_12_10_50 : decode prog_12_method_10_code 50 = .ok (.iadd, 1) := by decide +kernel
theorem d_12_10_51 : decode prog_12_method_10_code 51 = .ok (.iload 5, 2) := by decide +kernel
theorem d_12_10_53 : decode prog_12_method_10_code 53 = .ok (.iadd, 1) := by decide +kernel
theorem d_12_10_54 : decode prog_12_method_10_code 54 = .ok (.iload 6, 2) := by decide +kernel
theorem d_12_10_56 : decode prog_12_method_10_code 56 = .ok (.invokevirtual 195, 3) := by decide +kernel
theorem w_1655 : (Cond.code ({ cls := "NumberHouse$Digits", name := "round", desc := "(II)V" } : MethodName) prog_5_method_6_code (4 : Nat) (none : Option ClassFile.FieldType)) ∈ q_tbl := q_of 1655 (by decide +kernel) (by decide +kernel)
theorem w_1652 : (Cond.methodLink "NumberHouse$Writer" (195 : Nat) ({ cls := "NumberHouse$Digits", name := "round", desc := "(II)V" } : MethodName)) ∈ q_tbl := q_of 1652 (by decide +kernel) (by decide +kernel)
theorem w_1653 : (Cond.instanceMethod ({ cls := "NumberHouse$Digits", name := "round", desc := "(II)V" } : MethodName)) ∈ q_tbl := q_of 1653 (by decide +kernel) (by decide +kernel)
theorem w_1654 : (Cond.selects "NumberHouse$Digits" ({ cls := "NumberHouse$Digits", name := "round", desc := "(II)V" } : MethodName) ({ cls := "NumberHouse$Digits", name := "round", desc := "(II)V" } : MethodName)) ∈ q_tbl := q_of 1654 (by decide +kernel) (by decide +kernel)
theorem LV_Wri_195 : q_LV "NumberHouse$Writer" 195 y_Dig_round prog_5_method_6_code 4 none 2 := ⟨w_1655, w_9, w_1652, w_1653, w_1654, ⟨by decide, by decide, by decide +kernel⟩⟩
theorem d_12_10_59 : decode prog_12_method_10_code 59 = .ok (.iload 4, 2) := by decide +kernel
theorem d_12_10_61 : decode prog_12_method_10_code 61 = .ok (.ifCond .eq 20, 3) := by decide +kernel
theorem d_12_10_81 : decode prog_12_method_10_code 81 = .ok (.aload_n 0, 1) := by decide +kernel
theorem d_12_10_82 : decode prog_12_method_10_code 82 = .ok (.getfield 17, 3) := by decide +kernel
theorem d_12_10_85 : decode prog_12_method_10_code 85 = .ok (.aload_n 0, 1) := by decide +kernel
theorem d_12_10_86 : decode prog_12_method_10_code 86 = .ok (.getfield 7, 3) := by decide +kernel
theorem d_12_10_89 : decode prog_12_method_10_code 89 = .ok (.iload 5, 2) := by decide +kernel
theorem d_12_10_91 : decode prog_12_method_10_code 91 = .ok (.iconst 0, 1) := by decide +kernel
theorem d_12_10_92 : decode prog_12_method_10_code 92 = .ok (.iconst 0, 1) := by decide +kernel
theorem d_12_10_93 : decode prog_12_method_10_code 93 = .ok (.invokevirtual 90, 3) := by decide +kernel
theorem w_1570 : (Cond.code ({ cls := "NumberHouse$Digits", name := "writePlain", desc := "(LNumberHouse$Sheet;IZZ)V" } : MethodName) prog_5_method_9_code (6 : Nat) (none : Option ClassFile.FieldType)) ∈ q_tbl := q_of 1570 (by decide +kernel) (by decide +kernel)
theorem w_1567 : (Cond.methodLink "NumberHouse$Writer" (90 : Nat) ({ cls := "NumberHouse$Digits", name := "writePlain", desc := "(LNumberHouse$Sheet;IZZ)V" } : MethodName)) ∈ q_tbl := q_of 1567 (by decide +kernel) (by decide +kernel)
theorem w_1568 : (Cond.instanceMethod ({ cls := "NumberHouse$Digits", name := "writePlain", desc := "(LNumberHouse$Sheet;IZZ)V" } : MethodName)) ∈ q_tbl := q_of 1568 (by decide +kernel) (by decide +kernel)
theorem w_1569 : (Cond.selects "NumberHouse$Digits" ({ cls := "NumberHouse$Digits", name := "writePlain", desc := "(LNumberHouse$Sheet;IZZ)V" } : MethodName) ({ cls := "NumberHouse$Digits", name := "writePlain", desc := "(LNumberHouse$Sheet;IZZ)V" } : MethodName)) ∈ q_tbl := q_of 1569 (by decide +kernel) (by decide +kernel)
theorem LV_Wri_90 : q_LV "NumberHouse$Writer" 90 y_Dig_writePlain prog_5_method_9_code 6 none 4 := ⟨w_1570, w_9, w_1567, w_1568, w_1569, ⟨by decide, by decide, by decide +kernel⟩⟩
theorem d_12_10_96 : decode prog_12_method_10_code 96 = .ok (.return_, 1) := by decide +kernel
def y_Wri_exactText : MethodName := ⟨"NumberHouse$Writer", "exactText", "(LNumberHouse$Floats;JZII)V"⟩
set_option maxRecDepth 100000 in
set_option maxHeartbeats 4000000 in
theorem c_Wri_exactText (l : Launch) (D : va_G) (g : Nat → ClassId) (ws : va_W) (kO0 kO1 kO2 kO3 kO4 kA5 kO6 kA17 qO0 qO1 qO2 qO3 qO4 qA5 qO6 qO7 qO8 qO9 qO10 qO11 qO12 qO13 qO14 qO15 qA16 qA17 : Nat) (x1 : Int32) (x2 : Int32) (hO0 : ws[kO0]? = (some (qO0, .inr (9, [.ref qO2, .ref qO3, .ref qO4])) : Option (Nat × va_E))) (hO1 : ws[kO1]? = (some (qO1, .inr (6, [.int 52, .int 1075, .int 2047, .long 0, .int 0, .ref qO3, .int 0])) : Option (Nat × va_E))) (hO2 : ws[kO2]? = (some (qO2, .inr (1, [.ref qA5, .int 11008, .int 0])) : Option (Nat × va_E))) (hO3 : ws[kO3]? = (some (qO3, .inr (4, [.ref qO6, .ref qO7, .ref qO8, .ref qO9, .ref qO10, .ref qO11, .ref qO12, .ref qO13, .ref qO14, .ref qO15])) : Option (Nat × va_E))) (hO4 : ws[kO4]? = (some (qO4, .inr (7, [.int 0, .int 0, .ref qA16])) : Option (Nat × va_E))) (hA5 : ws[kA5]? = (some (qA5, .inl (g 1, 1376, .inr (.inl (fun _ => 0)))) : Option (Nat × va_E))) (hO6 : ws[kO6]? = (some (qO6, .inr (2, [.ref qA17, .int 0, .int 0])) : Option (Nat × va_E))) (hA17 : ws[kA17]? = (some (qA17, .inl (g 0, 220, .inl (fun _ => 0))) : Option (Nat × va_E))) (n_A17_A5 : kA17 ≠ kA5) (x1lo : 0 ≤ x1) (x1hi : x1 ≤ 1100) (x2lo : 0 ≤ x2) (x2hi : x2 ≤ 3) : q_mV l y_Wri_exactText prog_12_method_10_code 7 4 0 0 D g [.ref qO0, .ref qO1, .long 0, .int 0, .int x1, .int x2] ws (fun u => (∃ (ex0 : Int32) (ex1 : Nat → Int64), 0 < x1 ∧ ((x1.toInt < 1 ∧ ex0.toInt = 2) ∨ (1 ≤ x1.toInt ∧ ex0.toInt = 2 + x1.toInt - 0)) ∧ 2 ≤ ex0 ∧ ex0 ≤ 1102 ∧ q_un ws u [kO2, kO4, kA5, kO6, kA17] ∧ u[kO2]? = (some (qO2, .inr (1, [.ref qA5, .int 11008, .int ex0])) : Option (Nat × va_E)) ∧ u[kO4]? = (some (qO4, .inr (7, [.int 0, .int 0, .ref qA16])) : Option (Nat × va_E)) ∧ u[kA5]? = (some (qA5, .inl (g 1, 1376, .inr (.inl ex1))) : Option (Nat × va_E)) ∧ u[kO6]? = (some (qO6, .inr (2, [.ref qA17, .int 0, .int 0])) : Option (Nat × va_E)) ∧ u[kA17]? = (some (qA17, .inl (g 0, 220, .inl (fun _ => 0))) : Option (Nat × va_E))) ∨ (∃ (ex0 : Int32) (ex1 : Nat → Int64), ¬ 0 < x1 ∧ ((x1.toInt < 1 ∧ ex0.toInt = 1) ∨ (1 ≤ x1.toInt ∧ ex0.toInt = 1 + x1.toInt - 0)) ∧ 1 ≤ ex0 ∧ ex0 ≤ 1 ∧ q_un ws u [kO2, kO4, kA5, kO6, kA17] ∧ u[kO2]? = (some (qO2, .inr (1, [.ref qA5, .int 11008, .int ex0])) : Option (Nat × va_E)) ∧ u[kO4]? = (some (qO4, .inr (7, [.int 0, .int 0, .ref qA16])) : Option (Nat × va_E)) ∧ u[kA5]? = (some (qA5, .inl (g 1, 1376, .inr (.inl ex1))) : Option (Nat × va_E)) ∧ u[kO6]? = (some (qO6, .inr (2, [.ref qA17, .int 0, .int 0])) : Option (Nat × va_E)) ∧ u[kA17]? = (some (qA17, .inl (g 0, 220, .inl (fun _ => 0))) : Option (Nat × va_E)))) := by
  intro sz
  refine q_into (by decide) (Nat.le_of_ble_eq_true rfl) ?_
  intro p e s m below meth c ls hsz C0 V hl
  have hx := C0.1
  have hb := C0.2.1
  have hl : lv_has ls 7 [(0, .ref qO0), (1, .ref qO1), (2, .long 0), (4, .int 0), (5, .int x1), (6, .int x2)] := hl
  have n_A17_O2 := q_df hA17 hO2
  have n_A17_O4 := q_df hA17 hO4
  have n_A5_A17 := Ne.symm n_A17_A5
  have n_A5_O2 := q_df hA5 hO2
  have n_A5_O4 := q_df hA5 hO4
  have n_A5_O6 := q_df hA5 hO6
  have n_O0_A17 := Ne.symm (q_df hA17 hO0)
  have n_O0_A5 := Ne.symm (q_df hA5 hO0)
  have n_O0_O2 := q_dc hO0 hO2 (q_pd 9 1 rfl)
  have n_O0_O4 := q_dc hO0 hO4 (q_pd 9 7 rfl)
  have n_O0_O6 := q_dc hO0 hO6 (q_pd 9 2 rfl)
  have n_O1_A17 := Ne.symm (q_df hA17 hO1)
  have n_O1_A5 := Ne.symm (q_df hA5 hO1)
  have n_O1_O2 := q_dc hO1 hO2 (q_pd 6 1 rfl)
  have n_O1_O4 := q_dc hO1 hO4 (q_pd 6 7 rfl)
  have n_O1_O6 := q_dc hO1 hO6 (q_pd 6 2 rfl)
  have n_O2_A17 := Ne.symm (q_df hA17 hO2)
  have n_O2_O4 := q_dc hO2 hO4 (q_pd 1 7 rfl)
  have n_O2_O6 := q_dc hO2 hO6 (q_pd 1 2 rfl)
  have n_O3_A17 := Ne.symm (q_df hA17 hO3)
  have n_O3_A5 := Ne.symm (q_df hA5 hO3)
  have n_O3_O2 := q_dc hO3 hO2 (q_pd 4 1 rfl)
  have n_O3_O4 := q_dc hO3 hO4 (q_pd 4 7 rfl)
  have n_O3_O6 := q_dc hO3 hO6 (q_pd 4 2 rfl)
  have n_O4_A17 := Ne.symm (q_df hA17 hO4)
  have n_O4_A5 := Ne.symm (q_df hA5 hO4)
  have n_O4_O2 := q_dc hO4 hO2 (q_pd 7 1 rfl)
  have n_O4_O6 := q_dc hO4 hO6 (q_pd 7 2 rfl)
  have n_O6_A5 := Ne.symm (q_df hA5 hO6)
  have n_O6_O2 := q_dc hO6 hO2 (q_pd 2 1 rfl)
  have n_O6_O4 := q_dc hO6 hO4 (q_pd 2 7 rfl)
  have hF : q_un ws ws [kO2, kO4, kA5, kO6, kA17] := q_u0
  refine lv_aload_n hx hb d_12_10_0 rfl (lv_at hl 0 rfl) ?_
  refine lv_aload_n hx hb d_12_10_1 rfl (lv_at hl 1 rfl) ?_
  refine lv_lload_n hx hb d_12_10_2 rfl (lv_at hl 2 rfl) ?_
  refine q_goi V (q_runV (As := [.long 0]) (rest := [.ref qO0]) (d := 2) (mc := 0) (ms := 0) (ci := 6) C0 V rfl LV_Wri_118 (c_Flo_isNegative_2 l D g ws kO1 qO1 qO3 hO1 _) rfl rfl hO1 rfl hl.1 rfl (Nat.le_of_ble_eq_true rfl) ⟨by decide, by decide⟩ ⟨Nat.le_of_ble_eq_true rfl, Nat.le_of_ble_eq_true rfl⟩ d_12_10_3) (fun v3 u2 H locs hp1 V => ?_)
  obtain ⟨rfl, rfl⟩ := hp1
  refine q_gov V (q_runV (As := [.int 0]) (rest := []) (d := 2) (mc := 0) (ms := 0) (ci := 9) C0 V rfl LV_Wri_27 (c_Wri_begin l D g ws kO0 kO2 qO0 qO2 qO3 qO4 qA5 hO0 hO2 _) rfl rfl hO0 rfl hl.1 rfl (Nat.le_of_ble_eq_true rfl) ⟨by decide, by decide⟩ ⟨Nat.le_of_ble_eq_true rfl, Nat.le_of_ble_eq_true rfl⟩ d_12_10_6) (fun u6 H locs hp5 V => ?_)
  obtain ⟨hg7, hO2⟩ := hp5
  replace hF := q_uc hF hg7 (q_sc (.head _) (fun _ h => absurd h List.not_mem_nil))
  refine lv_aload_n hx hb d_12_10_9 rfl (lv_at hl 0 rfl) ?_
  replace hO0 := (hg7 _ (q_nc n_O0_O2 List.not_mem_nil)).trans (hO0)
  refine q_get (ci := 9) (j := 2) (v := .ref qO4) C0 V i_Wri rfl rfl hO0 (by decide) w_331 rfl d_12_10_10 ?_
  refine lv_aload_n hx hb d_12_10_13 rfl (lv_at hl 0 rfl) ?_
  refine q_get (ci := 9) (j := 1) (v := .ref qO3) C0 V i_Wri rfl rfl hO0 (by decide) w_330 rfl d_12_10_14 ?_
  replace hO3 := (hg7 _ (q_nc n_O3_O2 List.not_mem_nil)).trans (hO3)
  refine q_get (ci := 4) (j := 0) (v := .ref qO6) C0 V i_Mil rfl rfl hO3 (by decide) w_110 rfl d_12_10_17 ?_
  refine lv_aload_n hx hb d_12_10_20 rfl (lv_at hl 1 rfl) ?_
  refine lv_lload_n hx hb d_12_10_21 rfl (lv_at hl 2 rfl) ?_
  replace hO1 := (hg7 _ (q_nc n_O1_O2 List.not_mem_nil)).trans (hO1)
  replace hO6 := (hg7 _ (q_nc n_O6_O2 List.not_mem_nil)).trans (hO6)
  replace hA17 := (hg7 _ (q_nc n_A17_O2 List.not_mem_nil)).trans (hA17)
  refine q_goi V (q_runV (As := [.long 0]) (rest := [.ref qO6, .ref qO4]) (d := 3) (mc := 0) (ms := 0) (ci := 6) C0 V rfl LV_Wri_192 (c_Flo_exactly_2 l D g u6 kO1 kO3 kO6 kA17 qO1 qO3 qO6 qO7 qO8 qO9 qO10 qO11 qO12 qO13 qO14 qO15 qA17 hO1 hO3 hO6 hA17 _) rfl rfl hO1 rfl hl.1 rfl (Nat.le_of_ble_eq_true rfl) ⟨by decide, by decide⟩ ⟨Nat.le_of_ble_eq_true rfl, Nat.le_of_ble_eq_true rfl⟩ d_12_10_22) (fun v10 u9 H locs hp8 V => ?_)
  obtain ⟨rfl, hg11, hO6, hA17⟩ := hp8
  replace hF := q_uc hF hg11 (q_sc (List.mem_of_getElem? (i := 3) rfl) (q_sc (List.mem_of_getElem? (i := 4) rfl) (fun _ h => absurd h List.not_mem_nil)))
  replace hO4 := (hg11 _ (q_nc n_O4_O6 (q_nc n_O4_A17 List.not_mem_nil))).trans ((hg7 _ (q_nc n_O4_O2 List.not_mem_nil)).trans (hO4))
  refine q_gov V (q_runV (As := [.ref qO6, .int 0]) (rest := []) (d := 2) (mc := 0) (ms := 0) (ci := 7) C0 V rfl LV_Wri_75 (c_Dig_fill l D g u9 kO4 kO6 qO4 qO6 qA16 qA17 hO4 hO6 _) rfl rfl hO4 rfl hl.1 rfl (Nat.le_of_ble_eq_true rfl) ⟨by decide, by decide⟩ ⟨Nat.le_of_ble_eq_true rfl, Nat.le_of_ble_eq_true rfl⟩ d_12_10_25) (fun u13 H locs hp12 V => ?_)
  obtain ⟨hg14, hO4⟩ := hp12
  replace hF := q_uc hF hg14 (q_sc (.tail _ (.head _)) (fun _ h => absurd h List.not_mem_nil))
  refine lv_aload_n hx hb d_12_10_28 rfl (lv_at hl 0 rfl) ?_
  replace hO0 := (hg14 _ (q_nc n_O0_O4 List.not_mem_nil)).trans ((hg11 _ (q_nc n_O0_O6 (q_nc n_O0_A17 List.not_mem_nil))).trans (hO0))
  refine q_get (ci := 9) (j := 2) (v := .ref qO4) C0 V i_Wri rfl rfl hO0 (by decide) w_331 rfl d_12_10_29 ?_
  refine lv_iload hx hb d_12_10_32 (lv_at hl 3 rfl) ?_
  refine lv_if_eq (tgt := 42) hx hb d_12_10_34 (by decide) (fun c15 => ?_) (fun c15 => absurd (by decide) c15)
  refine lv_aload_n hx hb d_12_10_42 rfl (lv_at hl 0 rfl) ?_
  refine q_get (ci := 9) (j := 2) (v := .ref qO4) C0 V i_Wri rfl rfl hO0 (by decide) w_331 rfl d_12_10_43 ?_
  refine q_get (ci := 7) (j := 1) (v := .int 0) C0 V i_Dig rfl rfl hO4 (by decide) w_267 rfl d_12_10_46 ?_
  refine lv_iconst (v := 1) hx hb d_12_10_49 (by decide) ?_
  refine lv_iadd hx hb d_12_10_50 ?_
  refine q_ti (v := 1) (by decide) ?_
  refine lv_iload hx hb d_12_10_51 (lv_at hl 4 rfl) ?_
  refine lv_iadd hx hb d_12_10_53 ?_
  refine lv_iload hx hb d_12_10_54 (lv_at hl 5 rfl) ?_
  refine q_gov V (q_runV (As := [.int (1 + x1), .int x2]) (rest := []) (d := 1) (mc := 0) (ms := 0) (ci := 7) C0 V rfl LV_Wri_195 (c_Dig_round l D g u13 kO4 qO4 qA16 (1 + x1) x2 hO4 (q_Ile (x := 1) (y := (1 + x1.toInt)) (by decide) (q_addI (x := 1) (y := x1.toInt) (by decide) rfl (by have t1 : 0 ≤ x1.toInt := q_leI x1lo; have t2 : x1.toInt ≤ 1100 := q_leI x1hi; omega) (by have t1 : 0 ≤ x1.toInt := q_leI x1lo; have t2 : x1.toInt ≤ 1100 := q_leI x1hi; omega)) (by have t1 : 0 ≤ x1.toInt := q_leI x1lo; have t2 : x1.toInt ≤ 1100 := q_leI x1hi; omega)) (q_Ile (x := (1 + x1.toInt)) (y := 1101) (q_addI (x := 1) (y := x1.toInt) (by decide) rfl (by have t1 : 0 ≤ x1.toInt := q_leI x1lo; have t2 : x1.toInt ≤ 1100 := q_leI x1hi; omega) (by have t1 : 0 ≤ x1.toInt := q_leI x1lo; have t2 : x1.toInt ≤ 1100 := q_leI x1hi; omega)) (by decide) (by have t1 : 0 ≤ x1.toInt := q_leI x1lo; have t2 : x1.toInt ≤ 1100 := q_leI x1hi; omega)) x2lo x2hi _) rfl rfl hO4 rfl hl.1 rfl (Nat.le_of_ble_eq_true rfl) ⟨by decide, by decide⟩ ⟨Nat.le_of_ble_eq_true rfl, Nat.le_of_ble_eq_true rfl⟩ d_12_10_56) (fun u17 H locs hp16 V => ?_)
  obtain rfl := hp16
  refine lv_iload hx hb d_12_10_59 (lv_at hl 3 rfl) ?_
  refine lv_if_eq (tgt := 81) hx hb d_12_10_61 (by decide) (fun c19 => ?_) (fun c19 => absurd (by decide) c19)
  refine lv_aload_n hx hb d_12_10_81 rfl (lv_at hl 0 rfl) ?_
  refine q_get (ci := 9) (j := 2) (v := .ref qO4) C0 V i_Wri rfl rfl hO0 (by decide) w_331 rfl d_12_10_82 ?_
  refine lv_aload_n hx hb d_12_10_85 rfl (lv_at hl 0 rfl) ?_
  refine q_get (ci := 9) (j := 0) (v := .ref qO2) C0 V i_Wri rfl rfl hO0 (by decide) w_329 rfl d_12_10_86 ?_
  refine lv_iload hx hb d_12_10_89 (lv_at hl 4 rfl) ?_
  refine lv_iconst (v := 0) hx hb d_12_10_91 (by decide) ?_
  refine lv_iconst (v := 0) hx hb d_12_10_92 (by decide) ?_
  replace hO2 := (hg14 _ (q_nc n_O2_O4 List.not_mem_nil)).trans ((hg11 _ (q_nc n_O2_O6 (q_nc n_O2_A17 List.not_mem_nil))).trans (hO2))
  replace hA5 := (hg14 _ (q_nc n_A5_O4 List.not_mem_nil)).trans ((hg11 _ (q_nc n_A5_O6 (q_nc n_A5_A17 List.not_mem_nil))).trans ((hg7 _ (q_nc n_A5_O2 List.not_mem_nil)).trans (hA5)))
  refine q_gov V (q_runV (As := [.ref qO2, .int x1, .int 0, .int 0]) (rest := []) (d := 2) (mc := 0) (ms := 0) (ci := 7) C0 V rfl LV_Wri_90 (c_Dig_writePlain l D g u13 kO4 kO2 kA5 qO4 qO2 qA16 qA5 x1 hO4 hO2 hA5 x1lo x1hi _) rfl rfl hO4 rfl hl.1 rfl (Nat.le_of_ble_eq_true rfl) ⟨by decide, by decide⟩ ⟨Nat.le_of_ble_eq_true rfl, Nat.le_of_ble_eq_true rfl⟩ d_12_10_93) (fun u21 H locs hp20 V => ?_)
  rcases hp20 with ⟨y26, y27, c22, f23, f24, f25, hg28, hO2, hA5⟩ | ⟨y33, y34, c29, f30, f31, f32, hg35, hO2, hA5⟩
  ·
    replace hF := q_uc hF hg28 (q_sc (.head _) (q_sc (.tail _ (.tail _ (.head _))) (fun _ h => absurd h List.not_mem_nil)))
    replace hO4 := (hg28 _ (q_nc n_O4_O2 (q_nc n_O4_A5 List.not_mem_nil))).trans (hO4)
    replace hO6 := (hg28 _ (q_nc n_O6_O2 (q_nc n_O6_A5 List.not_mem_nil))).trans ((hg14 _ (q_nc n_O6_O4 List.not_mem_nil)).trans (hO6))
    replace hA17 := (hg28 _ (q_nc n_A17_O2 (q_nc n_A17_A5 List.not_mem_nil))).trans ((hg14 _ (q_nc n_A17_O4 List.not_mem_nil)).trans (hA17))
    exact q_retv C0 V (Or.inl ⟨y26, y27, c22, f23, f24, f25, hF, hO2, hO4, hA5, hO6, hA17⟩) d_12_10_96
  ·
    replace hF := q_uc hF hg35 (q_sc (.head _) (q_sc (.tail _ (.tail _ (.head _))) (fun _ h => absurd h List.not_mem_nil)))
    replace hO4 := (hg35 _ (q_nc n_O4_O2 (q_nc n_O4_A5 List.not_mem_nil))).trans (hO4)
    replace hO6 := (hg35 _ (q_nc n_O6_O2 (q_nc n_O6_A5 List.not_mem_nil))).trans ((hg14 _ (q_nc n_O6_O4 List.not_mem_nil)).trans (hO6))
    replace hA17 := (hg35 _ (q_nc n_A17_O2 (q_nc n_A17_A5 List.not_mem_nil))).trans ((hg14 _ (q_nc n_A17_O4 List.not_mem_nil)).trans (hA17))
    exact q_retv C0 V (Or.inr (⟨y33, y34, c29, f30, f31, f32, hF, hO2, hO4, hA5, hO6, hA17⟩)) d_12_10_96
theorem d_5_11_0 : decode prog_5_method_11_code 0 = .ok (.aload_n 1, 1) := by decide +kernel
theorem d_5_11_1 : decode prog_5_method_11_code 1 = .ok (.bipush 48, 2) := by decide +kernel
theorem d_5_11_3 : decode prog_5_method_11_code 3 = .ok (.aload_n 0, 1) := by decide +kernel
theorem d_5_11_4 : decode prog_5_method_11_code 4 = .ok (.iconst 0, 1) := by decide +kernel
theorem d_5_11_5 : decode prog_5_method_11_code 5 = .ok (.invokevirtual 49, 3) := by decide +kernel
theorem d_5_11_8 : decode prog_5_method_11_code 8 = .ok (.iadd, 1) := by decide +kernel
theorem d_5_11_9 : decode prog_5_method_11_code 9 = .ok (.invokevirtual 52, 3) := by decide +kernel
theorem d_5_11_12 : decode prog_5_method_11_code 12 = .ok (.iload_n 2, 1) := by decide +kernel
theorem d_5_11_13 : decode prog_5_method_11_code 13 = .ok (.iconst 1, 1) := by decide +kernel
theorem d_5_11_14 : decode prog_5_method_11_code 14 = .ok (.if_icmp .gt 7, 3) := by decide +kernel
theorem d_5_11_21 : decode prog_5_method_11_code 21 = .ok (.aload_n 1, 1) := by decide +kernel
theorem d_5_11_22 : decode prog_5_method_11_code 22 = .ok (.bipush 46, 2) := by decide +kernel
theorem d_5_11_24 : decode prog_5_method_11_code 24 = .ok (.invokevirtual 52, 3) := by decide +kernel
theorem d_5_11_27 : decode prog_5_method_11_code 27 = .ok (.iconst 1, 1) := by decide +kernel
theorem d_5_11_28 : decode prog_5_method_11_code 28 = .ok (.istore 4, 2) := by decide +kernel
theorem d_5_11_30 : decode prog_5_method_11_code 30 = .ok (.iload 4, 2) := by decide +kernel
theorem d_5_11_32 : decode prog_5_method_11_code 32 = .ok (.iload_n 2, 1) := by decide +kernel
theorem d_5_11_33 : decode prog_5_method_11_code 33 = .ok (.if_icmp .ge 22, 3) := by decide +kernel
theorem d_5_11_55 : decode prog_5_method_11_code 55 = .ok (.return_, 1) := by decide +kernel
theorem d_5_11_36 : decode prog_5_method_11_code 36 = .ok (.aload_n 1, 1) := by decide +kernel
theorem d_5_11_37 : decode prog_5_method_11_code 37 = .ok (.bipush 48, 2) := by decide +kernel
theorem d_5_11_39 : decode prog_5_method_11_code 39 = .ok (.aload_n 0, 1) := by decide +kernel
theorem d_5_11_40 : decode prog_5_method_11_code 40 = .ok (.iload 4, 2) := by decide +kernel
theorem d_5_11_42 : decode prog_5_method_11_code 42 = .ok (.invokevirtual 49, 3) := by decide +kernel
theorem d_5_11_45 : decode prog_5_method_11_code 45 = .ok (.iadd, 1) := by decide +kernel
theorem d_5_11_46 : decode prog_5_method_11_code 46 = .ok (.invokevirtual 52, 3) := by decide +kernel
theorem d_5_11_49 : decode prog_5_method_11_code 49 = .ok (.iinc 4 1, 3) := by decide +kernel
theorem d_5_11_52 : decode prog_5_method_11_code 52 = .ok (.goto (-22), 3) := by decide +kernel
theorem d_5_11_17 : decode prog_5_method_11_code 17 = .ok (.iload_n 3, 1) := by decide +kernel
theorem d_5_11_18 : decode prog_5_method_11_code 18 = .ok (.ifCond .eq 9, 3) := by decide +kernel
def y_Dig_writeHead : MethodName := ⟨"NumberHouse$Digits", "writeHead", "(LNumberHouse$Sheet;IZ)V"⟩
set_option maxRecDepth 100000 in
set_option maxHeartbeats 4000000 in
theorem c_Dig_writeHead (l : Launch) (D : va_G) (g : Nat → ClassId) (ws : va_W) (kO0 kO1 kA3 qO0 qO1 qA2 qA3 : Nat) (x1 : Int32) (hO0 : ws[kO0]? = (some (qO0, .inr (7, [.int 0, .int 0, .ref qA2])) : Option (Nat × va_E))) (hO1 : ws[kO1]? = (some (qO1, .inr (1, [.ref qA3, .int 11008, .int 0])) : Option (Nat × va_E))) (hA3 : ws[kA3]? = (some (qA3, .inl (g 1, 1376, .inr (.inl (fun _ => 0)))) : Option (Nat × va_E))) (x1lo : 1 ≤ x1) (x1hi : x1 ≤ 800) : q_mV l y_Dig_writeHead prog_5_method_11_code 5 2 0 0 D g [.ref qO0, .ref qO1, .int x1, .int 0] ws (fun u => (∃ (ex0 : Int32) (ex1 : Nat → Int64), 1 < x1 ∧ ((x1.toInt < 2 ∧ ex0.toInt = 2) ∨ (2 ≤ x1.toInt ∧ ex0.toInt = 2 + x1.toInt - 1)) ∧ 2 ≤ ex0 ∧ ex0 ≤ 801 ∧ q_un ws u [kO1, kA3] ∧ u[kO1]? = (some (qO1, .inr (1, [.ref qA3, .int 11008, .int ex0])) : Option (Nat × va_E)) ∧ u[kA3]? = (some (qA3, .inl (g 1, 1376, .inr (.inl ex1))) : Option (Nat × va_E))) ∨ (∃ (ex0 : Int32) (ex1 : Nat → Int64), ¬ 1 < x1 ∧ ((x1.toInt < 2 ∧ ex0.toInt = 1) ∨ (2 ≤ x1.toInt ∧ ex0.toInt = 1 + x1.toInt - 1)) ∧ 1 ≤ ex0 ∧ ex0 ≤ 1 ∧ q_un ws u [kO1, kA3] ∧ u[kO1]? = (some (qO1, .inr (1, [.ref qA3, .int 11008, .int ex0])) : Option (Nat × va_E)) ∧ u[kA3]? = (some (qA3, .inl (g 1, 1376, .inr (.inl ex1))) : Option (Nat × va_E)))) := by
  intro sz
  refine q_into (by decide) (Nat.le_of_ble_eq_true rfl) ?_
  intro p e s m below meth c ls hsz C0 V hl
  have hx := C0.1
  have hb := C0.2.1
  have hl : lv_has ls 5 [(0, .ref qO0), (1, .ref qO1), (2, .int x1), (3, .int 0)] := hl
  have n_O0_A3 := Ne.symm (q_df hA3 hO0)
  have n_O0_O1 := q_dc hO0 hO1 (q_pd 7 1 rfl)
  have hF : q_un ws ws [kO1, kA3] := q_u0
  refine lv_aload_n hx hb d_5_11_0 rfl (lv_at hl 1 rfl) ?_
  refine lv_bipush (v := 48) hx hb d_5_11_1 (by decide) ?_
  refine lv_aload_n hx hb d_5_11_3 rfl (lv_at hl 0 rfl) ?_
  refine lv_iconst (v := 0) hx hb d_5_11_4 (by decide) ?_
  refine q_goi V (q_runV (As := [.int 0]) (rest := [.int 48, .ref qO1]) (d := 1) (mc := 0) (ms := 0) (ci := 7) C0 V rfl LV_Dig_49 (c_Dig_figure l D g ws kO0 qO0 qA2 hO0 _) rfl rfl hO0 rfl hl.1 rfl (Nat.le_of_ble_eq_true rfl) ⟨by decide, by decide⟩ ⟨Nat.le_of_ble_eq_true rfl, Nat.le_of_ble_eq_true rfl⟩ d_5_11_5) (fun v3 u2 H locs hp1 V => ?_)
  obtain ⟨rfl, rfl⟩ := hp1
  refine lv_iadd hx hb d_5_11_8 ?_
  refine q_ti (v := 48) (by decide) ?_
  refine q_gov V (q_runV (As := [.int 48]) (rest := []) (d := 1) (mc := 0) (ms := 0) (ci := 1) C0 V rfl LV_Dig_52 (c_She_add_9 l D g ws kO1 kA3 qO1 qA3 hO1 hA3 _) rfl rfl hO1 rfl hl.1 rfl (Nat.le_of_ble_eq_true rfl) ⟨by decide, by decide⟩ ⟨Nat.le_of_ble_eq_true rfl, Nat.le_of_ble_eq_true rfl⟩ d_5_11_9) (fun u6 H locs hp5 V => ?_)
  obtain ⟨hg7, hO1, hA3⟩ := hp5
  replace hF := q_uc hF hg7 (q_sc (.head _) (q_sc (.tail _ (.head _)) (fun _ h => absurd h List.not_mem_nil)))
  refine lv_iload_n hx hb d_5_11_12 rfl (lv_at hl 2 rfl) ?_
  refine lv_iconst (v := 1) hx hb d_5_11_13 (by decide) ?_
  refine lv_icmp_gt (tgt := 21) hx hb d_5_11_14 (by decide) (fun c8 => ?_) (fun c8 => ?_)
  ·
    refine lv_aload_n hx hb d_5_11_21 rfl (lv_at hl 1 rfl) ?_
    refine lv_bipush (v := 46) hx hb d_5_11_22 (by decide) ?_
    refine q_gov V (q_runV (As := [.int 46]) (rest := []) (d := 1) (mc := 0) (ms := 0) (ci := 1) C0 V rfl LV_Dig_52 (c_She_add_10 l D g u6 kO1 kA3 qO1 qA3 hO1 hA3 _) rfl rfl hO1 rfl hl.1 rfl (Nat.le_of_ble_eq_true rfl) ⟨by decide, by decide⟩ ⟨Nat.le_of_ble_eq_true rfl, Nat.le_of_ble_eq_true rfl⟩ d_5_11_24) (fun u10 H locs hp9 V => ?_)
    obtain ⟨hg11, hO1, hA3⟩ := hp9
    replace hF := q_uc hF hg11 (q_sc (.head _) (q_sc (.tail _ (.head _)) (fun _ h => absurd h List.not_mem_nil)))
    refine lv_iconst (v := 1) hx hb d_5_11_27 (by decide) ?_
    refine lv_istore (lv' := [(4, .int 1), (0, .ref qO0), (1, .ref qO1), (2, .int x1), (3, .int 0)]) hx hb d_5_11_28 hl (by decide) rfl (fun ls hl => ?_)
    replace hO0 := (hg11 _ (q_nc n_O0_O1 (q_nc n_O0_A3 List.not_mem_nil))).trans ((hg7 _ (q_nc n_O0_O1 (q_nc n_O0_A3 List.not_mem_nil))).trans (hO0))
    refine q_loop (X := Int32 × Int32 × (Nat → Int64)) (fun z H locs ls w15 => (1 ≤ z.1.toInt ∧ (z.1.toInt ≤ x1.toInt ∨ z.1.toInt = 1)) ∧ (z.2.1.toInt = 2 + z.1.toInt - 1) ∧ q_Wd D g (va_A ws sz) s w15 H locs ∧ lv_has ls 5 [(4, .int z.1), (0, .ref qO0), (1, .ref qO1), (2, .int x1), (3, .int 0)] ∧ q_un ws w15 [kO1, kA3] ∧ w15[kO0]? = (some (qO0, .inr (7, [.int 0, .int 0, .ref qA2])) : Option (Nat × va_E)) ∧ w15[kO1]? = (some (qO1, .inr (1, [.ref qA3, .int 11008, .int z.2.1])) : Option (Nat × va_E)) ∧ w15[kA3]? = (some (qA3, .inl (g 1, 1376, .inr (.inl z.2.2))) : Option (Nat × va_E))) (fun z => (x1.toInt - z.1.toInt).toNat) ?_ ((1 : Int32), (2 : Int32), (vp_updL (fun _ => 0) 0 11824 : (Nat → Int64))) _ _ _ u10 ⟨(show 1 ≤ (1 : Int32).toInt ∧ ((1 : Int32).toInt ≤ x1.toInt ∨ (1 : Int32).toInt = 1) from by have t1 : 1 ≤ x1.toInt := q_leI x1lo; have t2 : x1.toInt ≤ 800 := q_leI x1hi; have t3 : 1 < x1.toInt := q_ltI c8; have e0 : (1 : Int32).toInt = 1 := (by decide); have e1 : (2 : Int32).toInt = 2 := (by decide); omega), (show (2 : Int32).toInt = 2 + (1 : Int32).toInt - 1 from by have t1 : 1 ≤ x1.toInt := q_leI x1lo; have t2 : x1.toInt ≤ 800 := q_leI x1hi; have t3 : 1 < x1.toInt := q_ltI c8; have e0 : (1 : Int32).toInt = 1 := (by decide); have e1 : (2 : Int32).toInt = 2 := (by decide); omega), V, hl, hF, hO0, hO1, hA3⟩
    rintro ⟨lx12, lx13, lx14⟩ H locs ls w15 ⟨i16, i17, V, hl, hF, hO0, hO1, hA3⟩ ih18
    replace i16 : 1 ≤ lx12.toInt ∧ (lx12.toInt ≤ x1.toInt ∨ lx12.toInt = 1) := i16
    replace i17 : lx13.toInt = 2 + lx12.toInt - 1 := i17
    replace hl : lv_has ls 5 [(4, .int lx12), (0, .ref qO0), (1, .ref qO1), (2, .int x1), (3, .int 0)] := hl
    replace hO0 : w15[kO0]? = (some (qO0, .inr (7, [.int 0, .int 0, .ref qA2])) : Option (Nat × va_E)) := hO0
    replace hO1 : w15[kO1]? = (some (qO1, .inr (1, [.ref qA3, .int 11008, .int lx13])) : Option (Nat × va_E)) := hO1
    replace hA3 : w15[kA3]? = (some (qA3, .inl (g 1, 1376, .inr (.inl lx14))) : Option (Nat × va_E)) := hA3
    refine lv_iload hx hb d_5_11_30 (lv_at hl 0 rfl) ?_
    refine lv_iload_n hx hb d_5_11_32 rfl (lv_at hl 3 rfl) ?_
    refine lv_icmp_ge (tgt := 55) hx hb d_5_11_33 (by decide) (fun c19 => ?_) (fun c19 => ?_)
    ·
      have e20 : ((x1.toInt < 2 ∧ lx13.toInt = 2) ∨ (2 ≤ x1.toInt ∧ lx13.toInt = 2 + x1.toInt - 1)) := by have t1 : 1 ≤ x1.toInt := q_leI x1lo; have t2 : x1.toInt ≤ 800 := q_leI x1hi; have t3 : 1 < x1.toInt := q_ltI c8; have t4 : x1.toInt ≤ lx12.toInt := q_leI c19; omega
      have e21 : 2 ≤ lx13 := q_Ile (x := 2) (y := lx13.toInt) (by decide) rfl (by have t1 : 1 ≤ x1.toInt := q_leI x1lo; have t2 : x1.toInt ≤ 800 := q_leI x1hi; have t3 : 1 < x1.toInt := q_ltI c8; have t4 : x1.toInt ≤ lx12.toInt := q_leI c19; omega)
      have e22 : lx13 ≤ 801 := q_Ile (x := lx13.toInt) (y := 801) rfl (by decide) (by have t1 : 1 ≤ x1.toInt := q_leI x1lo; have t2 : x1.toInt ≤ 800 := q_leI x1hi; have t3 : 1 < x1.toInt := q_ltI c8; have t4 : x1.toInt ≤ lx12.toInt := q_leI c19; omega)
      exact q_retv C0 V (Or.inl ⟨lx13, lx14, c8, e20, e21, e22, hF, hO1, hA3⟩) d_5_11_55
    ·
      refine lv_aload_n hx hb d_5_11_36 rfl (lv_at hl 2 rfl) ?_
      refine lv_bipush (v := 48) hx hb d_5_11_37 (by decide) ?_
      refine lv_aload_n hx hb d_5_11_39 rfl (lv_at hl 1 rfl) ?_
      refine lv_iload hx hb d_5_11_40 (lv_at hl 0 rfl) ?_
      refine q_goi V (q_runV (As := [.int lx12]) (rest := [.int 48, .ref qO1]) (d := 1) (mc := 0) (ms := 0) (ci := 7) C0 V rfl LV_Dig_49 (c_Dig_figure_2 l D g w15 kO0 qO0 qA2 lx12 hO0 (q_Ile (x := 1) (y := lx12.toInt) (by decide) rfl (by have t1 : 1 ≤ x1.toInt := q_leI x1lo; have t2 : x1.toInt ≤ 800 := q_leI x1hi; have t3 : 1 < x1.toInt := q_ltI c8; have t4 : lx12.toInt < x1.toInt := q_nleI c19; omega)) (q_Ile (x := lx12.toInt) (y := 1100) rfl (by decide) (by have t1 : 1 ≤ x1.toInt := q_leI x1lo; have t2 : x1.toInt ≤ 800 := q_leI x1hi; have t3 : 1 < x1.toInt := q_ltI c8; have t4 : lx12.toInt < x1.toInt := q_nleI c19; omega)) _) rfl rfl hO0 rfl hl.1 rfl (Nat.le_of_ble_eq_true rfl) ⟨by decide, by decide⟩ ⟨Nat.le_of_ble_eq_true rfl, Nat.le_of_ble_eq_true rfl⟩ d_5_11_42) (fun v25 u24 H locs hp23 V => ?_)
      obtain ⟨rfl, rfl⟩ := hp23
      refine lv_iadd hx hb d_5_11_45 ?_
      refine q_ti (v := 48) (by decide) ?_
      refine q_gov V (q_runV (As := [.int 48]) (rest := []) (d := 1) (mc := 0) (ms := 0) (ci := 1) C0 V rfl LV_Dig_52 (c_She_add_11 l D g w15 kO1 kA3 qO1 qA3 lx13 lx14 hO1 hA3 (q_Ile (x := 0) (y := lx13.toInt) (by decide) rfl (by have t1 : 1 ≤ x1.toInt := q_leI x1lo; have t2 : x1.toInt ≤ 800 := q_leI x1hi; have t3 : 1 < x1.toInt := q_ltI c8; have t4 : lx12.toInt < x1.toInt := q_nleI c19; omega)) (q_Ile (x := lx13.toInt) (y := 11007) rfl (by decide) (by have t1 : 1 ≤ x1.toInt := q_leI x1lo; have t2 : x1.toInt ≤ 800 := q_leI x1hi; have t3 : 1 < x1.toInt := q_ltI c8; have t4 : lx12.toInt < x1.toInt := q_nleI c19; omega)) _) rfl rfl hO1 rfl hl.1 rfl (Nat.le_of_ble_eq_true rfl) ⟨by decide, by decide⟩ ⟨Nat.le_of_ble_eq_true rfl, Nat.le_of_ble_eq_true rfl⟩ d_5_11_46) (fun u28 H locs hp27 V => ?_)
      obtain ⟨y29, hg30, hO1, hA3⟩ := hp27
      replace hF := q_uc hF hg30 (q_sc (.head _) (q_sc (.tail _ (.head _)) (fun _ h => absurd h List.not_mem_nil)))
      refine lv_iinc (v := lx12 + 1) (lv' := [(4, .int (lx12 + 1)), (0, .ref qO0), (1, .ref qO1), (2, .int x1), (3, .int 0)]) hx hb d_5_11_49 hl (k := 0) rfl (rfl) (by decide) rfl (fun ls hl => ?_)
      refine lv_goto (tgt := 30) hx hb d_5_11_52 (by decide) ?_
      replace hO0 := (hg30 _ (q_nc n_O0_O1 (q_nc n_O0_A3 List.not_mem_nil))).trans (hO0)
      exact ih18 ((lx12 + 1 : Int32), (lx13 + 1 : Int32), (y29 : Nat → Int64)) _ _ _ _ (show (x1.toInt - (lx12 + 1 : Int32).toInt).toNat < (x1.toInt - lx12.toInt).toNat from by have t1 : 1 ≤ x1.toInt := q_leI x1lo; have t2 : x1.toInt ≤ 800 := q_leI x1hi; have t3 : 1 < x1.toInt := q_ltI c8; have t4 : lx12.toInt < x1.toInt := q_nleI c19; have e0 : (lx12 + 1 : Int32).toInt = (lx12.toInt + 1) := (q_addI (x := lx12.toInt) (y := 1) rfl (by decide) (by have t1 : 1 ≤ x1.toInt := q_leI x1lo; have t2 : x1.toInt ≤ 800 := q_leI x1hi; have t3 : 1 < x1.toInt := q_ltI c8; have t4 : lx12.toInt < x1.toInt := q_nleI c19; omega) (by have t1 : 1 ≤ x1.toInt := q_leI x1lo; have t2 : x1.toInt ≤ 800 := q_leI x1hi; have t3 : 1 < x1.toInt := q_ltI c8; have t4 : lx12.toInt < x1.toInt := q_nleI c19; omega)); have e1 : (lx13 + 1 : Int32).toInt = (lx13.toInt + 1) := (q_addI (x := lx13.toInt) (y := 1) rfl (by decide) (by have t1 : 1 ≤ x1.toInt := q_leI x1lo; have t2 : x1.toInt ≤ 800 := q_leI x1hi; have t3 : 1 < x1.toInt := q_ltI c8; have t4 : lx12.toInt < x1.toInt := q_nleI c19; omega) (by have t1 : 1 ≤ x1.toInt := q_leI x1lo; have t2 : x1.toInt ≤ 800 := q_leI x1hi; have t3 : 1 < x1.toInt := q_ltI c8; have t4 : lx12.toInt < x1.toInt := q_nleI c19; omega)); omega) ⟨(show 1 ≤ (lx12 + 1 : Int32).toInt ∧ ((lx12 + 1 : Int32).toInt ≤ x1.toInt ∨ (lx12 + 1 : Int32).toInt = 1) from by have t1 : 1 ≤ x1.toInt := q_leI x1lo; have t2 : x1.toInt ≤ 800 := q_leI x1hi; have t3 : 1 < x1.toInt := q_ltI c8; have t4 : lx12.toInt < x1.toInt := q_nleI c19; have e0 : (lx12 + 1 : Int32).toInt = (lx12.toInt + 1) := (q_addI (x := lx12.toInt) (y := 1) rfl (by decide) (by have t1 : 1 ≤ x1.toInt := q_leI x1lo; have t2 : x1.toInt ≤ 800 := q_leI x1hi; have t3 : 1 < x1.toInt := q_ltI c8; have t4 : lx12.toInt < x1.toInt := q_nleI c19; omega) (by have t1 : 1 ≤ x1.toInt := q_leI x1lo; have t2 : x1.toInt ≤ 800 := q_leI x1hi; have t3 : 1 < x1.toInt := q_ltI c8; have t4 : lx12.toInt < x1.toInt := q_nleI c19; omega)); have e1 : (lx13 + 1 : Int32).toInt = (lx13.toInt + 1) := (q_addI (x := lx13.toInt) (y := 1) rfl (by decide) (by have t1 : 1 ≤ x1.toInt := q_leI x1lo; have t2 : x1.toInt ≤ 800 := q_leI x1hi; have t3 : 1 < x1.toInt := q_ltI c8; have t4 : lx12.toInt < x1.toInt := q_nleI c19; omega) (by have t1 : 1 ≤ x1.toInt := q_leI x1lo; have t2 : x1.toInt ≤ 800 := q_leI x1hi; have t3 : 1 < x1.toInt := q_ltI c8; have t4 : lx12.toInt < x1.toInt := q_nleI c19; omega)); omega), (show (lx13 + 1 : Int32).toInt = 2 + (lx12 + 1 : Int32).toInt - 1 from by have t1 : 1 ≤ x1.toInt := q_leI x1lo; have t2 : x1.toInt ≤ 800 := q_leI x1hi; have t3 : 1 < x1.toInt := q_ltI c8; have t4 : lx12.toInt < x1.toInt := q_nleI c19; have e0 : (lx12 + 1 : Int32).toInt = (lx12.toInt + 1) := (q_addI (x := lx12.toInt) (y := 1) rfl (by decide) (by have t1 : 1 ≤ x1.toInt := q_leI x1lo; have t2 : x1.toInt ≤ 800 := q_leI x1hi; have t3 : 1 < x1.toInt := q_ltI c8; have t4 : lx12.toInt < x1.toInt := q_nleI c19; omega) (by have t1 : 1 ≤ x1.toInt := q_leI x1lo; have t2 : x1.toInt ≤ 800 := q_leI x1hi; have t3 : 1 < x1.toInt := q_ltI c8; have t4 : lx12.toInt < x1.toInt := q_nleI c19; omega)); have e1 : (lx13 + 1 : Int32).toInt = (lx13.toInt + 1) := (q_addI (x := lx13.toInt) (y := 1) rfl (by decide) (by have t1 : 1 ≤ x1.toInt := q_leI x1lo; have t2 : x1.toInt ≤ 800 := q_leI x1hi; have t3 : 1 < x1.toInt := q_ltI c8; have t4 : lx12.toInt < x1.toInt := q_nleI c19; omega) (by have t1 : 1 ≤ x1.toInt := q_leI x1lo; have t2 : x1.toInt ≤ 800 := q_leI x1hi; have t3 : 1 < x1.toInt := q_ltI c8; have t4 : lx12.toInt < x1.toInt := q_nleI c19; omega)); omega), V, q_lw hl (q_lw1 0 rfl (q_lw1 1 rfl (q_lw1 2 rfl (q_lw1 3 rfl (q_lw1 4 rfl q_lw0))))), hF, hO0, hO1, hA3⟩
  ·
    refine lv_iload_n hx hb d_5_11_17 rfl (lv_at hl 3 rfl) ?_
    refine lv_if_eq (tgt := 27) hx hb d_5_11_18 (by decide) (fun c31 => ?_) (fun c31 => absurd (by decide) c31)
    refine lv_iconst (v := 1) hx hb d_5_11_27 (by decide) ?_
    refine lv_istore (lv' := [(4, .int 1), (0, .ref qO0), (1, .ref qO1), (2, .int x1), (3, .int 0)]) hx hb d_5_11_28 hl (by decide) rfl (fun ls hl => ?_)
    replace hO0 := (hg7 _ (q_nc n_O0_O1 (q_nc n_O0_A3 List.not_mem_nil))).trans (hO0)
    refine q_loop (X := Int32 × Int32 × (Nat → Int64)) (fun z H locs ls w35 => (1 ≤ z.1.toInt ∧ (z.1.toInt ≤ x1.toInt ∨ z.1.toInt = 1)) ∧ (z.2.1.toInt = 1 + z.1.toInt - 1) ∧ q_Wd D g (va_A ws sz) s w35 H locs ∧ lv_has ls 5 [(4, .int z.1), (0, .ref qO0), (1, .ref qO1), (2, .int x1), (3, .int 0)] ∧ q_un ws w35 [kO1, kA3] ∧ w35[kO0]? = (some (qO0, .inr (7, [.int 0, .int 0, .ref qA2])) : Option (Nat × va_E)) ∧ w35[kO1]? = (some (qO1, .inr (1, [.ref qA3, .int 11008, .int z.2.1])) : Option (Nat × va_E)) ∧ w35[kA3]? = (some (qA3, .inl (g 1, 1376, .inr (.inl z.2.2))) : Option (Nat × va_E))) (fun z => (x1.toInt - z.1.toInt).toNat) ?_ ((1 : Int32), (1 : Int32), (vp_updL (fun _ => 0) 0 48 : (Nat → Int64))) _ _ _ u6 ⟨(show 1 ≤ (1 : Int32).toInt ∧ ((1 : Int32).toInt ≤ x1.toInt ∨ (1 : Int32).toInt = 1) from by have t1 : 1 ≤ x1.toInt := q_leI x1lo; have t2 : x1.toInt ≤ 800 := q_leI x1hi; have t3 : x1.toInt ≤ 1 := q_nltI c8; have e0 : (1 : Int32).toInt = 1 := (by decide); have e1 : (1 : Int32).toInt = 1 := (by decide); omega), (show (1 : Int32).toInt = 1 + (1 : Int32).toInt - 1 from by have t1 : 1 ≤ x1.toInt := q_leI x1lo; have t2 : x1.toInt ≤ 800 := q_leI x1hi; have t3 : x1.toInt ≤ 1 := q_nltI c8; have e0 : (1 : Int32).toInt = 1 := (by decide); have e1 : (1 : Int32).toInt = 1 := (by decide); omega), V, hl, hF, hO0, hO1, hA3⟩
    rintro ⟨lx32, lx33, lx34⟩ H locs ls w35 ⟨i36, i37, V, hl, hF, hO0, hO1, hA3⟩ ih38
    replace i36 : 1 ≤ lx32.toInt ∧ (lx32.toInt ≤ x1.toInt ∨ lx32.toInt = 1) := i36
    replace i37 : lx33.toInt = 1 + lx32.toInt - 1 := i37
    replace hl : lv_has ls 5 [(4, .int lx32), (0, .ref qO0), (1, .ref qO1), (2, .int x1), (3, .int 0)] := hl
    replace hO0 : w35[kO0]? = (some (qO0, .inr (7, [.int 0, .int 0, .ref qA2])) : Option (Nat × va_E)) := hO0
    replace hO1 : w35[kO1]? = (some (qO1, .inr (1, [.ref qA3, .int 11008, .int lx33])) : Option (Nat × va_E)) := hO1
    replace hA3 : w35[kA3]? = (some (qA3, .inl (g 1, 1376, .inr (.inl lx34))) : Option (Nat × va_E)) := hA3
    refine lv_iload hx hb d_5_11_30 (lv_at hl 0 rfl) ?_
    refine q_ti (v := 1) (q_Ieq (x := lx32.toInt) (y := 1) rfl (by decide) (by have t1 : 1 ≤ x1.toInt := q_leI x1lo; have t2 : x1.toInt ≤ 800 := q_leI x1hi; have t3 : x1.toInt ≤ 1 := q_nltI c8; omega)) ?_
    refine lv_iload_n hx hb d_5_11_32 rfl (lv_at hl 3 rfl) ?_
    refine q_ti (v := 1) (q_Ieq (x := x1.toInt) (y := 1) rfl (by decide) (by have t1 : 1 ≤ x1.toInt := q_leI x1lo; have t2 : x1.toInt ≤ 800 := q_leI x1hi; have t3 : x1.toInt ≤ 1 := q_nltI c8; omega)) ?_
    refine lv_icmp_ge (tgt := 55) hx hb d_5_11_33 (by decide) (fun c39 => ?_) (fun c39 => absurd (by decide) c39)
    have e40 : ((x1.toInt < 2 ∧ lx33.toInt = 1) ∨ (2 ≤ x1.toInt ∧ lx33.toInt = 1 + x1.toInt - 1)) := by have t1 : 1 ≤ x1.toInt := q_leI x1lo; have t2 : x1.toInt ≤ 800 := q_leI x1hi; have t3 : x1.toInt ≤ 1 := q_nltI c8; omega
    have e41 : 1 ≤ lx33 := q_Ile (x := 1) (y := lx33.toInt) (by decide) rfl (by have t1 : 1 ≤ x1.toInt := q_leI x1lo; have t2 : x1.toInt ≤ 800 := q_leI x1hi; have t3 : x1.toInt ≤ 1 := q_nltI c8; omega)
    have e42 : lx33 ≤ 1 := q_Ile (x := lx33.toInt) (y := 1) rfl (by decide) (by have t1 : 1 ≤ x1.toInt := q_leI x1lo; have t2 : x1.toInt ≤ 800 := q_leI x1hi; have t3 : x1.toInt ≤ 1 := q_nltI c8; omega)
    exact q_retv C0 V (Or.inr (⟨lx33, lx34, c8, e40, e41, e42, hF, hO1, hA3⟩)) d_5_11_55
set_option maxRecDepth 100000 in
set_option maxHeartbeats 4000000 in
theorem c_She_add_12 (l : Launch) (D : va_G) (g : Nat → ClassId) (ws : va_W) (kO0 kA1 qO0 qA1 : Nat) (y1 : Int32) (f2 : Nat → Int64) (hO0 : ws[kO0]? = (some (qO0, .inr (1, [.ref qA1, .int 11008, .int y1])) : Option (Nat × va_E))) (hA1 : ws[kA1]? = (some (qA1, .inl (g 1, 1376, .inr (.inl f2))) : Option (Nat × va_E))) (y1lo : 0 ≤ y1) (y1hi : y1 ≤ 11007) : q_mV l y_She_add prog_11_method_3_code 3 1 0 0 D g [.ref qO0, .int 101] ws (fun u => ∃ (ex0 : Nat → Int64), q_un ws u [kO0, kA1] ∧ u[kO0]? = (some (qO0, .inr (1, [.ref qA1, .int 11008, .int (y1 + 1)])) : Option (Nat × va_E)) ∧ u[kA1]? = (some (qA1, .inl (g 1, 1376, .inr (.inl ex0))) : Option (Nat × va_E))) := by
  intro sz
  refine q_into (by decide) (Nat.le_of_ble_eq_true rfl) ?_
  intro p e s m below meth c ls hsz C0 V hl
  have hx := C0.1
  have hb := C0.2.1
  have hl : lv_has ls 3 [(0, .ref qO0), (1, .int 101)] := hl
  have n_A1_O0 := q_df hA1 hO0
  have n_O0_A1 := Ne.symm (q_df hA1 hO0)
  have hF : q_un ws ws [kO0, kA1] := q_u0
  refine lv_aload_n hx hb d_11_3_0 rfl (lv_at hl 0 rfl) ?_
  refine q_get (ci := 1) (j := 2) (v := .int y1) C0 V i_She rfl rfl hO0 (by decide) w_54 rfl d_11_3_1 ?_
  refine lv_aload_n hx hb d_11_3_4 rfl (lv_at hl 0 rfl) ?_
  refine q_get (ci := 1) (j := 1) (v := .int 11008) C0 V i_She rfl rfl hO0 (by decide) w_53 rfl d_11_3_5 ?_
  refine lv_icmp_ge (tgt := 63) hx hb d_11_3_8 (by decide) (fun c1 => absurd c1 (Int32.not_le.mpr (q_Ilt (x := y1.toInt) (y := 11008) rfl (by decide) (by have t1 : 0 ≤ y1.toInt := q_leI y1lo; have t2 : y1.toInt ≤ 11007 := q_leI y1hi; omega)))) (fun c1 => ?_)
  refine lv_bipush (v := 8) hx hb d_11_3_11 (by decide) ?_
  refine lv_aload_n hx hb d_11_3_13 rfl (lv_at hl 0 rfl) ?_
  refine q_get (ci := 1) (j := 2) (v := .int y1) C0 V i_She rfl rfl hO0 (by decide) w_54 rfl d_11_3_14 ?_
  refine lv_bipush (v := 7) hx hb d_11_3_17 (by decide) ?_
  refine lv_iand hx hb d_11_3_19 ?_
  refine lv_imul hx hb d_11_3_20 ?_
  refine lv_istore_n (lv' := [(2, .int (8 * (y1 &&& 7))), (0, .ref qO0), (1, .int 101)]) hx hb d_11_3_21 rfl hl (by decide) rfl (fun ls hl => ?_)
  refine lv_aload_n hx hb d_11_3_22 rfl (lv_at hl 1 rfl) ?_
  refine q_get (ci := 1) (j := 0) (v := .ref qA1) C0 V i_She rfl rfl hO0 (by decide) w_52 rfl d_11_3_23 ?_
  refine lv_aload_n hx hb d_11_3_26 rfl (lv_at hl 1 rfl) ?_
  refine q_get (ci := 1) (j := 2) (v := .int y1) C0 V i_She rfl rfl hO0 (by decide) w_54 rfl d_11_3_27 ?_
  refine lv_iconst (v := 3) hx hb d_11_3_30 (by decide) ?_
  refine lv_ishr hx hb d_11_3_31 ?_
  refine lv_aload_n hx hb d_11_3_32 rfl (lv_at hl 1 rfl) ?_
  refine q_get (ci := 1) (j := 0) (v := .ref qA1) C0 V i_She rfl rfl hO0 (by decide) w_52 rfl d_11_3_33 ?_
  refine lv_aload_n hx hb d_11_3_36 rfl (lv_at hl 1 rfl) ?_
  refine q_get (ci := 1) (j := 2) (v := .int y1) C0 V i_She rfl rfl hO0 (by decide) w_54 rfl d_11_3_37 ?_
  refine lv_iconst (v := 3) hx hb d_11_3_40 (by decide) ?_
  refine lv_ishr hx hb d_11_3_41 ?_
  refine q_lald C0 V hA1 (q_shr3 (by have t1 : 0 ≤ y1.toInt := q_leI y1lo; have t2 : y1.toInt ≤ 11007 := q_leI y1hi; omega) (by have t1 : 0 ≤ y1.toInt := q_leI y1lo; have t2 : y1.toInt ≤ 11007 := q_leI y1hi; omega)) d_11_3_42 ?_
  refine q_ldc2 C0 rfl w_565 d_11_3_43 ?_
  refine lv_iload_n hx hb d_11_3_46 rfl (lv_at hl 0 rfl) ?_
  refine lv_lshl hx hb d_11_3_47 rfl ?_
  refine q_ldc2 C0 rfl w_566 d_11_3_48 ?_
  refine lv_lxor hx hb d_11_3_51 ?_
  refine lv_land hx hb d_11_3_52 ?_
  refine lv_iload_n hx hb d_11_3_53 rfl (lv_at hl 2 rfl) ?_
  refine lv_sipush (v := 255) hx hb d_11_3_54 (by decide) ?_
  refine lv_iand hx hb d_11_3_57 ?_
  refine q_ti (v := 101) (by decide) ?_
  refine lv_i2l hx hb d_11_3_58 rfl ?_
  refine q_tl (v := 101) (by decide) ?_
  refine lv_iload_n hx hb d_11_3_59 rfl (lv_at hl 0 rfl) ?_
  refine lv_lshl hx hb d_11_3_60 rfl ?_
  refine lv_lor hx hb d_11_3_61 ?_
  refine q_last C0 V hA1 (q_shr3 (by have t1 : 0 ≤ y1.toInt := q_leI y1lo; have t2 : y1.toInt ≤ 11007 := q_leI y1hi; omega) (by have t1 : 0 ≤ y1.toInt := q_leI y1lo; have t2 : y1.toInt ≤ 11007 := q_leI y1hi; omega)) d_11_3_62 (fun H locs w2 hu3 hA1 V => ?_)
  replace hA1 : w2[kA1]? = (some (qA1, .inl (g 1, 1376, .inr (.inl (vp_updL f2 ((y1 >>> (3 &&& 31)).toNatClampNeg) (((f2 (y1 >>> (3 &&& 31)).toNatClampNeg) &&& (((255 : Int64) <<< ((8 * (y1 &&& 7)).toInt64 &&& 63)) ^^^ (-1))) ||| ((101 : Int64) <<< ((8 * (y1 &&& 7)).toInt64 &&& 63))))))) : Option (Nat × va_E)) := hA1
  replace hF := q_us hF hu3 (.tail _ (.head _))
  refine lv_aload_n hx hb d_11_3_63 rfl (lv_at hl 1 rfl) ?_
  refine lv_dup hx hb d_11_3_64 rfl ?_
  replace hO0 := (hu3 _ n_O0_A1).trans (hO0)
  refine q_get (ci := 1) (j := 2) (v := .int y1) C0 V i_She rfl rfl hO0 (by decide) w_54 rfl d_11_3_65 ?_
  refine lv_iconst (v := 1) hx hb d_11_3_68 (by decide) ?_
  refine lv_iadd hx hb d_11_3_69 ?_
  refine q_put (ci := 1) (j := 2) (v := .int (y1 + 1)) (ty := .int) C0 V i_She o_She n_She rfl rfl hO0 (by decide) w_54 rfl rfl rfl rfl (Nat.le_of_ble_eq_true rfl) d_11_3_70 (fun H locs w4 hu5 hO0 V => ?_)
  replace hO0 : w4[kO0]? = (some (qO0, .inr (1, [.ref qA1, .int 11008, .int (y1 + 1)])) : Option (Nat × va_E)) := hO0
  replace hF := q_us hF hu5 (.head _)
  replace hA1 := (hu5 _ n_A1_O0).trans (hA1)
  exact q_retv C0 V (⟨(vp_updL f2 ((y1 >>> (3 &&& 31)).toNatClampNeg) (((f2 (y1 >>> (3 &&& 31)).toNatClampNeg) &&& (((255 : Int64) <<< ((8 * (y1 &&& 7)).toInt64 &&& 63)) ^^^ (-1))) ||| ((101 : Int64) <<< ((8 * (y1 &&& 7)).toInt64 &&& 63)))), hF, hO0, hA1⟩) d_11_3_73
set_option maxRecDepth 100000 in
set_option maxHeartbeats 4000000 in
theorem c_She_add_13 (l : Launch) (D : va_G) (g : Nat → ClassId) (ws : va_W) (kO0 kA1 qO0 qA1 : Nat) (y1 : Int32) (f2 : Nat → Int64) (hO0 : ws[kO0]? = (some (qO0, .inr (1, [.ref qA1, .int 11008, .int y1])) : Option (Nat × va_E))) (hA1 : ws[kA1]? = (some (qA1, .inl (g 1, 1376, .inr (.inl f2))) : Option (Nat × va_E))) (y1lo : 0 ≤ y1) (y1hi : y1 ≤ 11007) : q_mV l y_She_add prog_11_method_3_code 3 1 0 0 D g [.ref qO0, .int 43] ws (fun u => ∃ (ex0 : Nat → Int64), q_un ws u [kO0, kA1] ∧ u[kO0]? = (some (qO0, .inr (1, [.ref qA1, .int 11008, .int (y1 + 1)])) : Option (Nat × va_E)) ∧ u[kA1]? = (some (qA1, .inl (g 1, 1376, .inr (.inl ex0))) : Option (Nat × va_E))) := by
  intro sz
  refine q_into (by decide) (Nat.le_of_ble_eq_true rfl) ?_
  intro p e s m below meth c ls hsz C0 V hl
  have hx := C0.1
  have hb := C0.2.1
  have hl : lv_has ls 3 [(0, .ref qO0), (1, .int 43)] := hl
  have n_A1_O0 := q_df hA1 hO0
  have n_O0_A1 := Ne.symm (q_df hA1 hO0)
  have hF : q_un ws ws [kO0, kA1] := q_u0
  refine lv_aload_n hx hb d_11_3_0 rfl (lv_at hl 0 rfl) ?_
  refine q_get (ci := 1) (j := 2) (v := .int y1) C0 V i_She rfl rfl hO0 (by decide) w_54 rfl d_11_3_1 ?_
  refine lv_aload_n hx hb d_11_3_4 rfl (lv_at hl 0 rfl) ?_
  refine q_get (ci := 1) (j := 1) (v := .int 11008) C0 V i_She rfl rfl hO0 (by decide) w_53 rfl d_11_3_5 ?_
  refine lv_icmp_ge (tgt := 63) hx hb d_11_3_8 (by decide) (fun c1 => absurd c1 (Int32.not_le.mpr (q_Ilt (x := y1.toInt) (y := 11008) rfl (by decide) (by have t1 : 0 ≤ y1.toInt := q_leI y1lo; have t2 : y1.toInt ≤ 11007 := q_leI y1hi; omega)))) (fun c1 => ?_)
  refine lv_bipush (v := 8) hx hb d_11_3_11 (by decide) ?_
  refine lv_aload_n hx hb d_11_3_13 rfl (lv_at hl 0 rfl) ?_
  refine q_get (ci := 1) (j := 2) (v := .int y1) C0 V i_She rfl rfl hO0 (by decide) w_54 rfl d_11_3_14 ?_
  refine lv_bipush (v := 7) hx hb d_11_3_17 (by decide) ?_
  refine lv_iand hx hb d_11_3_19 ?_
  refine lv_imul hx hb d_11_3_20 ?_
  refine lv_istore_n (lv' := [(2, .int (8 * (y1 &&& 7))), (0, .ref qO0), (1, .int 43)]) hx hb d_11_3_21 rfl hl (by decide) rfl (fun ls hl => ?_)
  refine lv_aload_n hx hb d_11_3_22 rfl (lv_at hl 1 rfl) ?_
  refine q_get (ci := 1) (j := 0) (v := .ref qA1) C0 V i_She rfl rfl hO0 (by decide) w_52 rfl d_11_3_23 ?_
  refine lv_aload_n hx hb d_11_3_26 rfl (lv_at hl 1 rfl) ?_
  refine q_get (ci := 1) (j := 2) (v := .int y1) C0 V i_She rfl rfl hO0 (by decide) w_54 rfl d_11_3_27 ?_
  refine lv_iconst (v := 3) hx hb d_11_3_30 (by decide) ?_
  refine lv_ishr hx hb d_11_3_31 ?_
  refine lv_aload_n hx hb d_11_3_32 rfl (lv_at hl 1 rfl) ?_
  refine q_get (ci := 1) (j := 0) (v := .ref qA1) C0 V i_She rfl rfl hO0 (by decide) w_52 rfl d_11_3_33 ?_
  refine lv_aload_n hx hb d_11_3_36 rfl (lv_at hl 1 rfl) ?_
  refine q_get (ci := 1) (j := 2) (v := .int y1) C0 V i_She rfl rfl hO0 (by decide) w_54 rfl d_11_3_37 ?_
  refine lv_iconst (v := 3) hx hb d_11_3_40 (by decide) ?_
  refine lv_ishr hx hb d_11_3_41 ?_
  refine q_lald C0 V hA1 (q_shr3 (by have t1 : 0 ≤ y1.toInt := q_leI y1lo; have t2 : y1.toInt ≤ 11007 := q_leI y1hi; omega) (by have t1 : 0 ≤ y1.toInt := q_leI y1lo; have t2 : y1.toInt ≤ 11007 := q_leI y1hi; omega)) d_11_3_42 ?_
  refine q_ldc2 C0 rfl w_565 d_11_3_43 ?_
  refine lv_iload_n hx hb d_11_3_46 rfl (lv_at hl 0 rfl) ?_
  refine lv_lshl hx hb d_11_3_47 rfl ?_
  refine q_ldc2 C0 rfl w_566 d_11_3_48 ?_
  refine lv_lxor hx hb d_11_3_51 ?_
  refine lv_land hx hb d_11_3_52 ?_
  refine lv_iload_n hx hb d_11_3_53 rfl (lv_at hl 2 rfl) ?_
  refine lv_sipush (v := 255) hx hb d_11_3_54 (by decide) ?_
  refine lv_iand hx hb d_11_3_57 ?_
  refine q_ti (v := 43) (by decide) ?_
  refine lv_i2l hx hb d_11_3_58 rfl ?_
  refine q_tl (v := 43) (by decide) ?_
  refine lv_iload_n hx hb d_11_3_59 rfl (lv_at hl 0 rfl) ?_
  refine lv_lshl hx hb d_11_3_60 rfl ?_
  refine lv_lor hx hb d_11_3_61 ?_
  refine q_last C0 V hA1 (q_shr3 (by have t1 : 0 ≤ y1.toInt := q_leI y1lo; have t2 : y1.toInt ≤ 11007 := q_leI y1hi; omega) (by have t1 : 0 ≤ y1.toInt := q_leI y1lo; have t2 : y1.toInt ≤ 11007 := q_leI y1hi; omega)) d_11_3_62 (fun H locs w2 hu3 hA1 V => ?_)
  replace hA1 : w2[kA1]? = (some (qA1, .inl (g 1, 1376, .inr (.inl (vp_updL f2 ((y1 >>> (3 &&& 31)).toNatClampNeg) (((f2 (y1 >>> (3 &&& 31)).toNatClampNeg) &&& (((255 : Int64) <<< ((8 * (y1 &&& 7)).toInt64 &&& 63)) ^^^ (-1))) ||| ((43 : Int64) <<< ((8 * (y1 &&& 7)).toInt64 &&& 63))))))) : Option (Nat × va_E)) := hA1
  replace hF := q_us hF hu3 (.tail _ (.head _))
  refine lv_aload_n hx hb d_11_3_63 rfl (lv_at hl 1 rfl) ?_
  refine lv_dup hx hb d_11_3_64 rfl ?_
  replace hO0 := (hu3 _ n_O0_A1).trans (hO0)
  refine q_get (ci := 1) (j := 2) (v := .int y1) C0 V i_She rfl rfl hO0 (by decide) w_54 rfl d_11_3_65 ?_
  refine lv_iconst (v := 1) hx hb d_11_3_68 (by decide) ?_
  refine lv_iadd hx hb d_11_3_69 ?_
  refine q_put (ci := 1) (j := 2) (v := .int (y1 + 1)) (ty := .int) C0 V i_She o_She n_She rfl rfl hO0 (by decide) w_54 rfl rfl rfl rfl (Nat.le_of_ble_eq_true rfl) d_11_3_70 (fun H locs w4 hu5 hO0 V => ?_)
  replace hO0 : w4[kO0]? = (some (qO0, .inr (1, [.ref qA1, .int 11008, .int (y1 + 1)])) : Option (Nat × va_E)) := hO0
  replace hF := q_us hF hu5 (.head _)
  replace hA1 := (hu5 _ n_A1_O0).trans (hA1)
  exact q_retv C0 V (⟨(vp_updL f2 ((y1 >>> (3 &&& 31)).toNatClampNeg) (((f2 (y1 >>> (3 &&& 31)).toNatClampNeg) &&& (((255 : Int64) <<< ((8 * (y1 &&& 7)).toInt64 &&& 63)) ^^^ (-1))) ||| ((43 : Int64) <<< ((8 * (y1 &&& 7)).toInt64 &&& 63)))), hF, hO0, hA1⟩) d_11_3_73
theorem d_29_59_0 : decode prog_29_method_59_code 0 = .ok (.iload_n 0, 1) := by decide +kernel
theorem d_29_59_1 : decode prog_29_method_59_code 1 = .ok (.ifCond .ge 8, 3) := by decide +kernel
theorem d_29_59_9 : decode prog_29_method_59_code 9 = .ok (.iload_n 0, 1) := by decide +kernel
theorem d_29_59_10 : decode prog_29_method_59_code 10 = .ok (.ireturn, 1) := by decide +kernel
def y_jMath_abs_II : MethodName := ⟨"java/lang/Math", "abs", "(I)I"⟩
set_option maxRecDepth 100000 in
set_option maxHeartbeats 4000000 in
theorem c_jMath_abs_II (l : Launch) (D : va_G) (g : Nat → ClassId) (ws : va_W) : q_mI l y_jMath_abs_II prog_29_method_59_code 1 (.int) 1 0 0 D g [.int 0] ws (fun r u => 0 = r ∧ ws = u) := by
  intro sz
  refine q_intoF (by decide +kernel) (Nat.le_of_ble_eq_true rfl) ?_
  intro p e s m below meth c ls hsz C0 V hl
  have hx := C0.1
  have hb := C0.2.1
  have hl : lv_has ls 1 [(0, .int 0)] := hl
  refine lv_iload_n hx hb d_29_59_0 rfl (lv_at hl 0 rfl) ?_
  refine lv_if_ge (tgt := 9) hx hb d_29_59_1 (by decide) (fun c1 => ?_) (fun c1 => absurd (by decide) c1)
  refine lv_iload_n hx hb d_29_59_9 rfl (lv_at hl 0 rfl) ?_
  exact q_reti C0 V (⟨rfl, rfl⟩) d_29_59_10
theorem d_11_6_0 : decode prog_11_method_6_code 0 = .ok (.iload_n 1, 1) := by decide +kernel
theorem d_11_6_1 : decode prog_11_method_6_code 1 = .ok (.invokestatic 38, 3) := by decide +kernel
theorem w_1384 : (Cond.code ({ cls := "java/lang/Math", name := "abs", desc := "(I)I" } : MethodName) prog_29_method_59_code (1 : Nat) (some .int)) ∈ q_tbl := q_of 1384 (by decide +kernel) (by decide +kernel)
theorem w_1586 : (Cond.methodLink "NumberHouse$Sheet" (38 : Nat) ({ cls := "java/lang/Math", name := "abs", desc := "(I)I" } : MethodName)) ∈ q_tbl := q_of 1586 (by decide +kernel) (by decide +kernel)
theorem w_1383 : (Cond.static ({ cls := "java/lang/Math", name := "abs", desc := "(I)I" } : MethodName)) ∈ q_tbl := q_of 1383 (by decide +kernel) (by decide +kernel)
theorem LS_She_38 : q_LS "NumberHouse$Sheet" 38 y_jMath_abs_II prog_29_method_59_code 1 (some .int) 1 := ⟨w_1384, w_7, w_1586, w_1383, ⟨by decide, by decide, by decide +kernel⟩⟩
theorem d_11_6_4 : decode prog_11_method_6_code 4 = .ok (.istore_n 3, 1) := by decide +kernel
theorem d_11_6_5 : decode prog_11_method_6_code 5 = .ok (.sipush 10000, 3) := by decide +kernel
theorem d_11_6_8 : decode prog_11_method_6_code 8 = .ok (.istore 4, 2) := by decide +kernel
theorem d_11_6_10 : decode prog_11_method_6_code 10 = .ok (.iconst 5, 1) := by decide +kernel
theorem d_11_6_11 : decode prog_11_method_6_code 11 = .ok (.istore 5, 2) := by decide +kernel
theorem d_11_6_13 : decode prog_11_method_6_code 13 = .ok (.iload 5, 2) := by decide +kernel
theorem d_11_6_15 : decode prog_11_method_6_code 15 = .ok (.ifCond .le 46, 3) := by decide +kernel
theorem d_11_6_18 : decode prog_11_method_6_code 18 = .ok (.iload 5, 2) := by decide +kernel
theorem d_11_6_20 : decode prog_11_method_6_code 20 = .ok (.iload_n 2, 1) := by decide +kernel
theorem d_11_6_21 : decode prog_11_method_6_code 21 = .ok (.if_icmp .le 9, 3) := by decide +kernel
theorem d_11_6_24 : decode prog_11_method_6_code 24 = .ok (.iload_n 3, 1) := by decide +kernel
theorem d_11_6_25 : decode prog_11_method_6_code 25 = .ok (.iload 4, 2) := by decide +kernel
theorem d_11_6_27 : decode prog_11_method_6_code 27 = .ok (.if_icmp .lt 17, 3) := by decide +kernel
theorem d_11_6_44 : decode prog_11_method_6_code 44 = .ok (.iload 4, 2) := by decide +kernel
theorem d_11_6_46 : decode prog_11_method_6_code 46 = .ok (.bipush 10, 2) := by decide +kernel
theorem d_11_6_48 : decode prog_11_method_6_code 48 = .ok (.idiv, 1) := by decide +kernel
theorem d_11_6_49 : decode prog_11_method_6_code 49 = .ok (.iconst 1, 1) := by decide +kernel
theorem d_11_6_50 : decode prog_11_method_6_code 50 = .ok (.invokestatic 44, 3) := by decide +kernel
theorem w_1588 : (Cond.methodLink "NumberHouse$Sheet" (44 : Nat) ({ cls := "java/lang/Math", name := "max", desc := "(II)I" } : MethodName)) ∈ q_tbl := q_of 1588 (by decide +kernel) (by decide +kernel)
theorem d_11_6_53 : decode prog_11_method_6_code 53 = .ok (.istore 4, 2) := by decide +kernel
theorem d_11_6_55 : decode prog_11_method_6_code 55 = .ok (.iinc 5 (-1), 3) := by decide +kernel
theorem d_11_6_58 : decode prog_11_method_6_code 58 = .ok (.goto (-45), 3) := by decide +kernel
theorem d_11_6_30 : decode prog_11_method_6_code 30 = .ok (.aload_n 0, 1) := by decide +kernel
theorem d_11_6_31 : decode prog_11_method_6_code 31 = .ok (.bipush 48, 2) := by decide +kernel
theorem d_11_6_33 : decode prog_11_method_6_code 33 = .ok (.iload_n 3, 1) := by decide +kernel
theorem d_11_6_34 : decode prog_11_method_6_code 34 = .ok (.iload 4, 2) := by decide +kernel
theorem d_11_6_36 : decode prog_11_method_6_code 36 = .ok (.idiv, 1) := by decide +kernel
theorem d_11_6_37 : decode prog_11_method_6_code 37 = .ok (.bipush 10, 2) := by decide +kernel
theorem d_11_6_39 : decode prog_11_method_6_code 39 = .ok (.irem, 1) := by decide +kernel
theorem d_11_6_40 : decode prog_11_method_6_code 40 = .ok (.iadd, 1) := by decide +kernel
theorem d_11_6_41 : decode prog_11_method_6_code 41 = .ok (.invokevirtual 34, 3) := by decide +kernel
theorem w_1587 : (Cond.methodLink "NumberHouse$Sheet" (34 : Nat) ({ cls := "NumberHouse$Sheet", name := "add", desc := "(I)V" } : MethodName)) ∈ q_tbl := q_of 1587 (by decide +kernel) (by decide +kernel)
theorem LV_She_34 : q_LV "NumberHouse$Sheet" 34 y_She_add prog_11_method_3_code 3 none 1 := ⟨w_564, w_2, w_1587, w_562, w_563, ⟨by decide, by decide, by decide +kernel⟩⟩
theorem d_11_6_61 : decode prog_11_method_6_code 61 = .ok (.return_, 1) := by decide +kernel
def y_She_addPower : MethodName := ⟨"NumberHouse$Sheet", "addPower", "(II)V"⟩
set_option maxRecDepth 100000 in
set_option maxHeartbeats 4000000 in
theorem c_She_addPower (l : Launch) (D : va_G) (g : Nat → ClassId) (ws : va_W) (kO0 kA1 qO0 qA1 : Nat) (y1 : Int32) (f2 : Nat → Int64) (hO0 : ws[kO0]? = (some (qO0, .inr (1, [.ref qA1, .int 11008, .int y1])) : Option (Nat × va_E))) (hA1 : ws[kA1]? = (some (qA1, .inl (g 1, 1376, .inr (.inl f2))) : Option (Nat × va_E))) (y1lo : 4 ≤ y1) (y1hi : y1 ≤ 803) : q_mV l y_She_addPower prog_11_method_6_code 6 2 0 0 D g [.ref qO0, .int 0, .int 2] ws (fun u => ∃ (ex0 : Nat → Int64), q_un ws u [kO0, kA1] ∧ u[kO0]? = (some (qO0, .inr (1, [.ref qA1, .int 11008, .int ((y1 + 1) + 1)])) : Option (Nat × va_E)) ∧ u[kA1]? = (some (qA1, .inl (g 1, 1376, .inr (.inl ex0))) : Option (Nat × va_E))) := by
  intro sz
  refine q_into (by decide) (Nat.le_of_ble_eq_true rfl) ?_
  intro p e s m below meth c ls hsz C0 V hl
  have hx := C0.1
  have hb := C0.2.1
  have hl : lv_has ls 6 [(0, .ref qO0), (1, .int 0), (2, .int 2)] := hl
  have hF : q_un ws ws [kO0, kA1] := q_u0
  refine lv_iload_n hx hb d_11_6_0 rfl (lv_at hl 1 rfl) ?_
  refine q_goi V (q_runS (As := [.int 0]) (rest := []) (d := 1) (mc := 0) (ms := 0) C0 V rfl LS_She_38 (c_jMath_abs_II l D g ws _) rfl hl.1 rfl (Nat.le_of_ble_eq_true rfl) ⟨by decide, by decide⟩ ⟨Nat.le_of_ble_eq_true rfl, Nat.le_of_ble_eq_true rfl⟩ d_11_6_1) (fun v3 u2 H locs hp1 V => ?_)
  obtain ⟨rfl, rfl⟩ := hp1
  refine lv_istore_n (lv' := [(3, .int 0), (0, .ref qO0), (1, .int 0), (2, .int 2)]) hx hb d_11_6_4 rfl hl (by decide) rfl (fun ls hl => ?_)
  refine lv_sipush (v := 10000) hx hb d_11_6_5 (by decide) ?_
  refine lv_istore (lv' := [(4, .int 10000), (3, .int 0), (0, .ref qO0), (1, .int 0), (2, .int 2)]) hx hb d_11_6_8 hl (by decide) rfl (fun ls hl => ?_)
  refine lv_iconst (v := 5) hx hb d_11_6_10 (by decide) ?_
  refine lv_istore (lv' := [(5, .int 5), (4, .int 10000), (3, .int 0), (0, .ref qO0), (1, .int 0), (2, .int 2)]) hx hb d_11_6_11 hl (by decide) rfl (fun ls hl => ?_)
  refine lv_iload hx hb d_11_6_13 (lv_at hl 0 rfl) ?_
  refine lv_if_le (tgt := 61) hx hb d_11_6_15 (by decide) (fun c5 => absurd c5 (by decide)) (fun c5 => ?_)
  refine lv_iload hx hb d_11_6_18 (lv_at hl 0 rfl) ?_
  refine lv_iload_n hx hb d_11_6_20 rfl (lv_at hl 5 rfl) ?_
  refine lv_icmp_le (tgt := 30) hx hb d_11_6_21 (by decide) (fun c6 => absurd c6 (by decide)) (fun c6 => ?_)
  refine lv_iload_n hx hb d_11_6_24 rfl (lv_at hl 2 rfl) ?_
  refine lv_iload hx hb d_11_6_25 (lv_at hl 1 rfl) ?_
  refine lv_icmp_lt (tgt := 44) hx hb d_11_6_27 (by decide) (fun c7 => ?_) (fun c7 => absurd (by decide) c7)
  refine lv_iload hx hb d_11_6_44 (lv_at hl 1 rfl) ?_
  refine lv_bipush (v := 10) hx hb d_11_6_46 (by decide) ?_
  refine lv_idiv hx hb d_11_6_48 (by decide) ?_
  refine q_ti (v := 1000) (by decide) ?_
  refine lv_iconst (v := 1) hx hb d_11_6_49 (by decide) ?_
  refine q_max C0 hl.1 rfl w_1588 w_803 w_7 w_804 ⟨Nat.le_of_ble_eq_true rfl, Nat.le_of_ble_eq_true rfl⟩ ⟨Nat.le_of_ble_eq_true rfl, Nat.le_of_ble_eq_true rfl⟩ d_11_6_50 ?_
  refine q_ti (v := 1000) (by decide) ?_
  refine lv_istore (lv' := [(4, .int 1000), (5, .int 5), (3, .int 0), (0, .ref qO0), (1, .int 0), (2, .int 2)]) hx hb d_11_6_53 hl (by decide) rfl (fun ls hl => ?_)
  refine lv_iinc (v := 4) (lv' := [(5, .int 4), (4, .int 1000), (3, .int 0), (0, .ref qO0), (1, .int 0), (2, .int 2)]) hx hb d_11_6_55 hl (k := 1) rfl (by decide) (by decide) rfl (fun ls hl => ?_)
  refine lv_goto (tgt := 13) hx hb d_11_6_58 (by decide) ?_
  refine lv_iload hx hb d_11_6_13 (lv_at hl 0 rfl) ?_
  refine lv_if_le (tgt := 61) hx hb d_11_6_15 (by decide) (fun c8 => absurd c8 (by decide)) (fun c8 => ?_)
  refine lv_iload hx hb d_11_6_18 (lv_at hl 0 rfl) ?_
  refine lv_iload_n hx hb d_11_6_20 rfl (lv_at hl 5 rfl) ?_
  refine lv_icmp_le (tgt := 30) hx hb d_11_6_21 (by decide) (fun c9 => absurd c9 (by decide)) (fun c9 => ?_)
  refine lv_iload_n hx hb d_11_6_24 rfl (lv_at hl 2 rfl) ?_
  refine lv_iload hx hb d_11_6_25 (lv_at hl 1 rfl) ?_
  refine lv_icmp_lt (tgt := 44) hx hb d_11_6_27 (by decide) (fun c10 => ?_) (fun c10 => absurd (by decide) c10)
  refine lv_iload hx hb d_11_6_44 (lv_at hl 1 rfl) ?_
  refine lv_bipush (v := 10) hx hb d_11_6_46 (by decide) ?_
  refine lv_idiv hx hb d_11_6_48 (by decide) ?_
  refine q_ti (v := 100) (by decide) ?_
  refine lv_iconst (v := 1) hx hb d_11_6_49 (by decide) ?_
  refine q_max C0 hl.1 rfl w_1588 w_803 w_7 w_804 ⟨Nat.le_of_ble_eq_true rfl, Nat.le_of_ble_eq_true rfl⟩ ⟨Nat.le_of_ble_eq_true rfl, Nat.le_of_ble_eq_true rfl⟩ d_11_6_50 ?_
  refine q_ti (v := 100) (by decide) ?_
  refine lv_istore (lv' := [(4, .int 100), (5, .int 4), (3, .int 0), (0, .ref qO0), (1, .int 0), (2, .int 2)]) hx hb d_11_6_53 hl (by decide) rfl (fun ls hl => ?_)
  refine lv_iinc (v := 3) (lv' := [(5, .int 3), (4, .int 100), (3, .int 0), (0, .ref qO0), (1, .int 0), (2, .int 2)]) hx hb d_11_6_55 hl (k := 1) rfl (by decide) (by decide) rfl (fun ls hl => ?_)
  refine lv_goto (tgt := 13) hx hb d_11_6_58 (by decide) ?_
  refine lv_iload hx hb d_11_6_13 (lv_at hl 0 rfl) ?_
  refine lv_if_le (tgt := 61) hx hb d_11_6_15 (by decide) (fun c11 => absurd c11 (by decide)) (fun c11 => ?_)
  refine lv_iload hx hb d_11_6_18 (lv_at hl 0 rfl) ?_
  refine lv_iload_n hx hb d_11_6_20 rfl (lv_at hl 5 rfl) ?_
  refine lv_icmp_le (tgt := 30) hx hb d_11_6_21 (by decide) (fun c12 => absurd c12 (by decide)) (fun c12 => ?_)
  refine lv_iload_n hx hb d_11_6_24 rfl (lv_at hl 2 rfl) ?_
  refine lv_iload hx hb d_11_6_25 (lv_at hl 1 rfl) ?_
  refine lv_icmp_lt (tgt := 44) hx hb d_11_6_27 (by decide) (fun c13 => ?_) (fun c13 => absurd (by decide) c13)
  refine lv_iload hx hb d_11_6_44 (lv_at hl 1 rfl) ?_
  refine lv_bipush (v := 10) hx hb d_11_6_46 (by decide) ?_
  refine lv_idiv hx hb d_11_6_48 (by decide) ?_
  refine q_ti (v := 10) (by decide) ?_
  refine lv_iconst (v := 1) hx hb d_11_6_49 (by decide) ?_
  refine q_max C0 hl.1 rfl w_1588 w_803 w_7 w_804 ⟨Nat.le_of_ble_eq_true rfl, Nat.le_of_ble_eq_true rfl⟩ ⟨Nat.le_of_ble_eq_true rfl, Nat.le_of_ble_eq_true rfl⟩ d_11_6_50 ?_
  refine q_ti (v := 10) (by decide) ?_
  refine lv_istore (lv' := [(4, .int 10), (5, .int 3), (3, .int 0), (0, .ref qO0), (1, .int 0), (2, .int 2)]) hx hb d_11_6_53 hl (by decide) rfl (fun ls hl => ?_)
  refine lv_iinc (v := 2) (lv' := [(5, .int 2), (4, .int 10), (3, .int 0), (0, .ref qO0), (1, .int 0), (2, .int 2)]) hx hb d_11_6_55 hl (k := 1) rfl (by decide) (by decide) rfl (fun ls hl => ?_)
  refine lv_goto (tgt := 13) hx hb d_11_6_58 (by decide) ?_
  refine lv_iload hx hb d_11_6_13 (lv_at hl 0 rfl) ?_
  refine lv_if_le (tgt := 61) hx hb d_11_6_15 (by decide) (fun c14 => absurd c14 (by decide)) (fun c14 => ?_)
  refine lv_iload hx hb d_11_6_18 (lv_at hl 0 rfl) ?_
  refine lv_iload_n hx hb d_11_6_20 rfl (lv_at hl 5 rfl) ?_
  refine lv_icmp_le (tgt := 30) hx hb d_11_6_21 (by decide) (fun c15 => ?_) (fun c15 => absurd (by decide) c15)
  refine lv_aload_n hx hb d_11_6_30 rfl (lv_at hl 3 rfl) ?_
  refine lv_bipush (v := 48) hx hb d_11_6_31 (by decide) ?_
  refine lv_iload_n hx hb d_11_6_33 rfl (lv_at hl 2 rfl) ?_
  refine lv_iload hx hb d_11_6_34 (lv_at hl 1 rfl) ?_
  refine lv_idiv hx hb d_11_6_36 (by decide) ?_
  refine q_ti (v := 0) (by decide) ?_
  refine lv_bipush (v := 10) hx hb d_11_6_37 (by decide) ?_
  refine lv_irem hx hb d_11_6_39 (by decide) ?_
  refine q_ti (v := 0) (by decide) ?_
  refine lv_iadd hx hb d_11_6_40 ?_
  refine q_ti (v := 48) (by decide) ?_
  refine q_gov V (q_runV (As := [.int 48]) (rest := []) (d := 1) (mc := 0) (ms := 0) (ci := 1) C0 V rfl LV_She_34 (c_She_add_11 l D g ws kO0 kA1 qO0 qA1 y1 f2 hO0 hA1 (q_Ile (x := 0) (y := y1.toInt) (by decide) rfl (by have t1 : 4 ≤ y1.toInt := q_leI y1lo; have t2 : y1.toInt ≤ 803 := q_leI y1hi; omega)) (q_Ile (x := y1.toInt) (y := 11007) rfl (by decide) (by have t1 : 4 ≤ y1.toInt := q_leI y1lo; have t2 : y1.toInt ≤ 803 := q_leI y1hi; omega)) _) rfl rfl hO0 rfl hl.1 rfl (Nat.le_of_ble_eq_true rfl) ⟨by decide, by decide⟩ ⟨Nat.le_of_ble_eq_true rfl, Nat.le_of_ble_eq_true rfl⟩ d_11_6_41) (fun u17 H locs hp16 V => ?_)
  obtain ⟨y18, hg19, hO0, hA1⟩ := hp16
  replace hF := q_uc hF hg19 (q_sc (.head _) (q_sc (.tail _ (.head _)) (fun _ h => absurd h List.not_mem_nil)))
  refine lv_iload hx hb d_11_6_44 (lv_at hl 1 rfl) ?_
  refine lv_bipush (v := 10) hx hb d_11_6_46 (by decide) ?_
  refine lv_idiv hx hb d_11_6_48 (by decide) ?_
  refine q_ti (v := 1) (by decide) ?_
  refine lv_iconst (v := 1) hx hb d_11_6_49 (by decide) ?_
  refine q_max C0 hl.1 rfl w_1588 w_803 w_7 w_804 ⟨Nat.le_of_ble_eq_true rfl, Nat.le_of_ble_eq_true rfl⟩ ⟨Nat.le_of_ble_eq_true rfl, Nat.le_of_ble_eq_true rfl⟩ d_11_6_50 ?_
  refine q_ti (v := 1) (by decide) ?_
  refine lv_istore (lv' := [(4, .int 1), (5, .int 2), (3, .int 0), (0, .ref qO0), (1, .int 0), (2, .int 2)]) hx hb d_11_6_53 hl (by decide) rfl (fun ls hl => ?_)
  refine lv_iinc (v := 1) (lv' := [(5, .int 1), (4, .int 1), (3, .int 0), (0, .ref qO0), (1, .int 0), (2, .int 2)]) hx hb d_11_6_55 hl (k := 1) rfl (by decide) (by decide) rfl (fun ls hl => ?_)
  refine lv_goto (tgt := 13) hx hb d_11_6_58 (by decide) ?_
  refine lv_iload hx hb d_11_6_13 (lv_at hl 0 rfl) ?_
  refine lv_if_le (tgt := 61) hx hb d_11_6_15 (by decide) (fun c20 => absurd c20 (by decide)) (fun c20 => ?_)
  refine lv_iload hx hb d_11_6_18 (lv_at hl 0 rfl) ?_
  refine lv_iload_n hx hb d_11_6_20 rfl (lv_at hl 5 rfl) ?_
  refine lv_icmp_le (tgt := 30) hx hb d_11_6_21 (by decide) (fun c21 => ?_) (fun c21 => absurd (by decide) c21)
  refine lv_aload_n hx hb d_11_6_30 rfl (lv_at hl 3 rfl) ?_
  refine lv_bipush (v := 48) hx hb d_11_6_31 (by decide) ?_
  refine lv_iload_n hx hb d_11_6_33 rfl (lv_at hl 2 rfl) ?_
  refine lv_iload hx hb d_11_6_34 (lv_at hl 1 rfl) ?_
  refine lv_idiv hx hb d_11_6_36 (by decide) ?_
  refine q_ti (v := 0) (by decide) ?_
  refine lv_bipush (v := 10) hx hb d_11_6_37 (by decide) ?_
  refine lv_irem hx hb d_11_6_39 (by decide) ?_
  refine q_ti (v := 0) (by decide) ?_
  refine lv_iadd hx hb d_11_6_40 ?_
  refine q_ti (v := 48) (by decide) ?_
  refine q_gov V (q_runV (As := [.int 48]) (rest := []) (d := 1) (mc := 0) (ms := 0) (ci := 1) C0 V rfl LV_She_34 (c_She_add_11 l D g u17 kO0 kA1 qO0 qA1 (y1 + 1) y18 hO0 hA1 (q_Ile (x := 0) (y := (y1.toInt + 1)) (by decide) (q_addI (x := y1.toInt) (y := 1) rfl (by decide) (by have t1 : 4 ≤ y1.toInt := q_leI y1lo; have t2 : y1.toInt ≤ 803 := q_leI y1hi; omega) (by have t1 : 4 ≤ y1.toInt := q_leI y1lo; have t2 : y1.toInt ≤ 803 := q_leI y1hi; omega)) (by have t1 : 4 ≤ y1.toInt := q_leI y1lo; have t2 : y1.toInt ≤ 803 := q_leI y1hi; omega)) (q_Ile (x := (y1.toInt + 1)) (y := 11007) (q_addI (x := y1.toInt) (y := 1) rfl (by decide) (by have t1 : 4 ≤ y1.toInt := q_leI y1lo; have t2 : y1.toInt ≤ 803 := q_leI y1hi; omega) (by have t1 : 4 ≤ y1.toInt := q_leI y1lo; have t2 : y1.toInt ≤ 803 := q_leI y1hi; omega)) (by decide) (by have t1 : 4 ≤ y1.toInt := q_leI y1lo; have t2 : y1.toInt ≤ 803 := q_leI y1hi; omega)) _) rfl rfl hO0 rfl hl.1 rfl (Nat.le_of_ble_eq_true rfl) ⟨by decide, by decide⟩ ⟨Nat.le_of_ble_eq_true rfl, Nat.le_of_ble_eq_true rfl⟩ d_11_6_41) (fun u23 H locs hp22 V => ?_)
  obtain ⟨y24, hg25, hO0, hA1⟩ := hp22
  replace hF := q_uc hF hg25 (q_sc (.head _) (q_sc (.tail _ (.head _)) (fun _ h => absurd h List.not_mem_nil)))
  refine lv_iload hx hb d_11_6_44 (lv_at hl 1 rfl) ?_
  refine lv_bipush (v := 10) hx hb d_11_6_46 (by decide) ?_
  refine lv_idiv hx hb d_11_6_48 (by decide) ?_
  refine q_ti (v := 0) (by decide) ?_
  refine lv_iconst (v := 1) hx hb d_11_6_49 (by decide) ?_
  refine q_max C0 hl.1 rfl w_1588 w_803 w_7 w_804 ⟨Nat.le_of_ble_eq_true rfl, Nat.le_of_ble_eq_true rfl⟩ ⟨Nat.le_of_ble_eq_true rfl, Nat.le_of_ble_eq_true rfl⟩ d_11_6_50 ?_
  refine q_ti (v := 1) (by decide) ?_
  refine lv_istore (lv' := [(4, .int 1), (5, .int 1), (3, .int 0), (0, .ref qO0), (1, .int 0), (2, .int 2)]) hx hb d_11_6_53 hl (by decide) rfl (fun ls hl => ?_)
  refine lv_iinc (v := 0) (lv' := [(5, .int 0), (4, .int 1), (3, .int 0), (0, .ref qO0), (1, .int 0), (2, .int 2)]) hx hb d_11_6_55 hl (k := 1) rfl (by decide) (by decide) rfl (fun ls hl => ?_)
  refine lv_goto (tgt := 13) hx hb d_11_6_58 (by decide) ?_
  refine lv_iload hx hb d_11_6_13 (lv_at hl 0 rfl) ?_
  refine lv_if_le (tgt := 61) hx hb d_11_6_15 (by decide) (fun c26 => ?_) (fun c26 => absurd (by decide) c26)
  exact q_retv C0 V (⟨y24, hF, hO0, hA1⟩) d_11_6_61
set_option maxRecDepth 100000 in
set_option maxHeartbeats 4000000 in
theorem c_She_addPower_2 (l : Launch) (D : va_G) (g : Nat → ClassId) (ws : va_W) (kO0 kA1 qO0 qA1 : Nat) (y1 : Int32) (f2 : Nat → Int64) (hO0 : ws[kO0]? = (some (qO0, .inr (1, [.ref qA1, .int 11008, .int y1])) : Option (Nat × va_E))) (hA1 : ws[kA1]? = (some (qA1, .inl (g 1, 1376, .inr (.inl f2))) : Option (Nat × va_E))) (y1lo : 3 ≤ y1) (y1hi : y1 ≤ 3) : q_mV l y_She_addPower prog_11_method_6_code 6 2 0 0 D g [.ref qO0, .int 0, .int 2] ws (fun u => ∃ (ex0 : Nat → Int64), q_un ws u [kO0, kA1] ∧ u[kO0]? = (some (qO0, .inr (1, [.ref qA1, .int 11008, .int ((y1 + 1) + 1)])) : Option (Nat × va_E)) ∧ u[kA1]? = (some (qA1, .inl (g 1, 1376, .inr (.inl ex0))) : Option (Nat × va_E))) := by
  intro sz
  refine q_into (by decide) (Nat.le_of_ble_eq_true rfl) ?_
  intro p e s m below meth c ls hsz C0 V hl
  have hx := C0.1
  have hb := C0.2.1
  have hl : lv_has ls 6 [(0, .ref qO0), (1, .int 0), (2, .int 2)] := hl
  have hF : q_un ws ws [kO0, kA1] := q_u0
  refine lv_iload_n hx hb d_11_6_0 rfl (lv_at hl 1 rfl) ?_
  refine q_goi V (q_runS (As := [.int 0]) (rest := []) (d := 1) (mc := 0) (ms := 0) C0 V rfl LS_She_38 (c_jMath_abs_II l D g ws _) rfl hl.1 rfl (Nat.le_of_ble_eq_true rfl) ⟨by decide, by decide⟩ ⟨Nat.le_of_ble_eq_true rfl, Nat.le_of_ble_eq_true rfl⟩ d_11_6_1) (fun v3 u2 H locs hp1 V => ?_)
  obtain ⟨rfl, rfl⟩ := hp1
  refine lv_istore_n (lv' := [(3, .int 0), (0, .ref qO0), (1, .int 0), (2, .int 2)]) hx hb d_11_6_4 rfl hl (by decide) rfl (fun ls hl => ?_)
  refine lv_sipush (v := 10000) hx hb d_11_6_5 (by decide) ?_
  refine lv_istore (lv' := [(4, .int 10000), (3, .int 0), (0, .ref qO0), (1, .int 0), (2, .int 2)]) hx hb d_11_6_8 hl (by decide) rfl (fun ls hl => ?_)
  refine lv_iconst (v := 5) hx hb d_11_6_10 (by decide) ?_
  refine lv_istore (lv' := [(5, .int 5), (4, .int 10000), (3, .int 0), (0, .ref qO0), (1, .int 0), (2, .int 2)]) hx hb d_11_6_11 hl (by decide) rfl (fun ls hl => ?_)
  refine lv_iload hx hb d_11_6_13 (lv_at hl 0 rfl) ?_
  refine lv_if_le (tgt := 61) hx hb d_11_6_15 (by decide) (fun c5 => absurd c5 (by decide)) (fun c5 => ?_)
  refine lv_iload hx hb d_11_6_18 (lv_at hl 0 rfl) ?_
  refine lv_iload_n hx hb d_11_6_20 rfl (lv_at hl 5 rfl) ?_
  refine lv_icmp_le (tgt := 30) hx hb d_11_6_21 (by decide) (fun c6 => absurd c6 (by decide)) (fun c6 => ?_)
  refine lv_iload_n hx hb d_11_6_24 rfl (lv_at hl 2 rfl) ?_
  refine lv_iload hx hb d_11_6_25 (lv_at hl 1 rfl) ?_
  refine lv_icmp_lt (tgt := 44) hx hb d_11_6_27 (by decide) (fun c7 => ?_) (fun c7 => absurd (by decide) c7)
  refine lv_iload hx hb d_11_6_44 (lv_at hl 1 rfl) ?_
  refine lv_bipush (v := 10) hx hb d_11_6_46 (by decide) ?_
  refine lv_idiv hx hb d_11_6_48 (by decide) ?_
  refine q_ti (v := 1000) (by decide) ?_
  refine lv_iconst (v := 1) hx hb d_11_6_49 (by decide) ?_
  refine q_max C0 hl.1 rfl w_1588 w_803 w_7 w_804 ⟨Nat.le_of_ble_eq_true rfl, Nat.le_of_ble_eq_true rfl⟩ ⟨Nat.le_of_ble_eq_true rfl, Nat.le_of_ble_eq_true rfl⟩ d_11_6_50 ?_
  refine q_ti (v := 1000) (by decide) ?_
  refine lv_istore (lv' := [(4, .int 1000), (5, .int 5), (3, .int 0), (0, .ref qO0), (1, .int 0), (2, .int 2)]) hx hb d_11_6_53 hl (by decide) rfl (fun ls hl => ?_)
  refine lv_iinc (v := 4) (lv' := [(5, .int 4), (4, .int 1000), (3, .int 0), (0, .ref qO0), (1, .int 0), (2, .int 2)]) hx hb d_11_6_55 hl (k := 1) rfl (by decide) (by decide) rfl (fun ls hl => ?_)
  refine lv_goto (tgt := 13) hx hb d_11_6_58 (by decide) ?_
  refine lv_iload hx hb d_11_6_13 (lv_at hl 0 rfl) ?_
  refine lv_if_le (tgt := 61) hx hb d_11_6_15 (by decide) (fun c8 => absurd c8 (by decide)) (fun c8 => ?_)
  refine lv_iload hx hb d_11_6_18 (lv_at hl 0 rfl) ?_
  refine lv_iload_n hx hb d_11_6_20 rfl (lv_at hl 5 rfl) ?_
  refine lv_icmp_le (tgt := 30) hx hb d_11_6_21 (by decide) (fun c9 => absurd c9 (by decide)) (fun c9 => ?_)
  refine lv_iload_n hx hb d_11_6_24 rfl (lv_at hl 2 rfl) ?_
  refine lv_iload hx hb d_11_6_25 (lv_at hl 1 rfl) ?_
  refine lv_icmp_lt (tgt := 44) hx hb d_11_6_27 (by decide) (fun c10 => ?_) (fun c10 => absurd (by decide) c10)
  refine lv_iload hx hb d_11_6_44 (lv_at hl 1 rfl) ?_
  refine lv_bipush (v := 10) hx hb d_11_6_46 (by decide) ?_
  refine lv_idiv hx hb d_11_6_48 (by decide) ?_
  refine q_ti (v := 100) (by decide) ?_
  refine lv_iconst (v := 1) hx hb d_11_6_49 (by decide) ?_
  refine q_max C0 hl.1 rfl w_1588 w_803 w_7 w_804 ⟨Nat.le_of_ble_eq_true rfl, Nat.le_of_ble_eq_true rfl⟩ ⟨Nat.le_of_ble_eq_true rfl, Nat.le_of_ble_eq_true rfl⟩ d_11_6_50 ?_
  refine q_ti (v := 100) (by decide) ?_
  refine lv_istore (lv' := [(4, .int 100), (5, .int 4), (3, .int 0), (0, .ref qO0), (1, .int 0), (2, .int 2)]) hx hb d_11_6_53 hl (by decide) rfl (fun ls hl => ?_)
  refine lv_iinc (v := 3) (lv' := [(5, .int 3), (4, .int 100), (3, .int 0), (0, .ref qO0), (1, .int 0), (2, .int 2)]) hx hb d_11_6_55 hl (k := 1) rfl (by decide) (by decide) rfl (fun ls hl => ?_)
  refine lv_goto (tgt := 13) hx hb d_11_6_58 (by decide) ?_
  refine lv_iload hx hb d_11_6_13 (lv_at hl 0 rfl) ?_
  refine lv_if_le (tgt := 61) hx hb d_11_6_15 (by decide) (fun c11 => absurd c11 (by decide)) (fun c11 => ?_)
  refine lv_iload hx hb d_11_6_18 (lv_at hl 0 rfl) ?_
  refine lv_iload_n hx hb d_11_6_20 rfl (lv_at hl 5 rfl) ?_
  refine lv_icmp_le (tgt := 30) hx hb d_11_6_21 (by decide) (fun c12 => absurd c12 (by decide)) (fun c12 => ?_)
  refine lv_iload_n hx hb d_11_6_24 rfl (lv_at hl 2 rfl) ?_
  refine lv_iload hx hb d_11_6_25 (lv_at hl 1 rfl) ?_
  refine lv_icmp_lt (tgt := 44) hx hb d_11_6_27 (by decide) (fun c13 => ?_) (fun c13 => absurd (by decide) c13)
  refine lv_iload hx hb d_11_6_44 (lv_at hl 1 rfl) ?_
  refine lv_bipush (v := 10) hx hb d_11_6_46 (by decide) ?_
  refine lv_idiv hx hb d_11_6_48 (by decide) ?_
  refine q_ti (v := 10) (by decide) ?_
  refine lv_iconst (v := 1) hx hb d_11_6_49 (by decide) ?_
  refine q_max C0 hl.1 rfl w_1588 w_803 w_7 w_804 ⟨Nat.le_of_ble_eq_true rfl, Nat.le_of_ble_eq_true rfl⟩ ⟨Nat.le_of_ble_eq_true rfl, Nat.le_of_ble_eq_true rfl⟩ d_11_6_50 ?_
  refine q_ti (v := 10) (by decide) ?_
  refine lv_istore (lv' := [(4, .int 10), (5, .int 3), (3, .int 0), (0, .ref qO0), (1, .int 0), (2, .int 2)]) hx hb d_11_6_53 hl (by decide) rfl (fun ls hl => ?_)
  refine lv_iinc (v := 2) (lv' := [(5, .int 2), (4, .int 10), (3, .int 0), (0, .ref qO0), (1, .int 0), (2, .int 2)]) hx hb d_11_6_55 hl (k := 1) rfl (by decide) (by decide) rfl (fun ls hl => ?_)
  refine lv_goto (tgt := 13) hx hb d_11_6_58 (by decide) ?_
  refine lv_iload hx hb d_11_6_13 (lv_at hl 0 rfl) ?_
  refine lv_if_le (tgt := 61) hx hb d_11_6_15 (by decide) (fun c14 => absurd c14 (by decide)) (fun c14 => ?_)
  refine lv_iload hx hb d_11_6_18 (lv_at hl 0 rfl) ?_
  refine lv_iload_n hx hb d_11_6_20 rfl (lv_at hl 5 rfl) ?_
  refine lv_icmp_le (tgt := 30) hx hb d_11_6_21 (by decide) (fun c15 => ?_) (fun c15 => absurd (by decide) c15)
  refine lv_aload_n hx hb d_11_6_30 rfl (lv_at hl 3 rfl) ?_
  refine lv_bipush (v := 48) hx hb d_11_6_31 (by decide) ?_
  refine lv_iload_n hx hb d_11_6_33 rfl (lv_at hl 2 rfl) ?_
  refine lv_iload hx hb d_11_6_34 (lv_at hl 1 rfl) ?_
  refine lv_idiv hx hb d_11_6_36 (by decide) ?_
  refine q_ti (v := 0) (by decide) ?_
  refine lv_bipush (v := 10) hx hb d_11_6_37 (by decide) ?_
  refine lv_irem hx hb d_11_6_39 (by decide) ?_
  refine q_ti (v := 0) (by decide) ?_
  refine lv_iadd hx hb d_11_6_40 ?_
  refine q_ti (v := 48) (by decide) ?_
  refine q_gov V (q_runV (As := [.int 48]) (rest := []) (d := 1) (mc := 0) (ms := 0) (ci := 1) C0 V rfl LV_She_34 (c_She_add_11 l D g ws kO0 kA1 qO0 qA1 y1 f2 hO0 hA1 (q_Ile (x := 0) (y := y1.toInt) (by decide) rfl (by have t1 : 3 ≤ y1.toInt := q_leI y1lo; have t2 : y1.toInt ≤ 3 := q_leI y1hi; omega)) (q_Ile (x := y1.toInt) (y := 11007) rfl (by decide) (by have t1 : 3 ≤ y1.toInt := q_leI y1lo; have t2 : y1.toInt ≤ 3 := q_leI y1hi; omega)) _) rfl rfl hO0 rfl hl.1 rfl (Nat.le_of_ble_eq_true rfl) ⟨by decide, by decide⟩ ⟨Nat.le_of_ble_eq_true rfl, Nat.le_of_ble_eq_true rfl⟩ d_11_6_41) (fun u17 H locs hp16 V => ?_)
  obtain ⟨y18, hg19, hO0, hA1⟩ := hp16
  replace hF := q_uc hF hg19 (q_sc (.head _) (q_sc (.tail _ (.head _)) (fun _ h => absurd h List.not_mem_nil)))
  refine lv_iload hx hb d_11_6_44 (lv_at hl 1 rfl) ?_
  refine lv_bipush (v := 10) hx hb d_11_6_46 (by decide) ?_
  refine lv_idiv hx hb d_11_6_48 (by decide) ?_
  refine q_ti (v := 1) (by decide) ?_
  refine lv_iconst (v := 1) hx hb d_11_6_49 (by decide) ?_
  refine q_max C0 hl.1 rfl w_1588 w_803 w_7 w_804 ⟨Nat.le_of_ble_eq_true rfl, Nat.le_of_ble_eq_true rfl⟩ ⟨Nat.le_of_ble_eq_true rfl, Nat.le_of_ble_eq_true rfl⟩ d_11_6_50 ?_
  refine q_ti (v := 1) (by decide) ?_
  refine lv_istore (lv' := [(4, .int 1), (5, .int 2), (3, .int 0), (0, .ref qO0), (1, .int 0), (2, .int 2)]) hx hb d_11_6_53 hl (by decide) rfl (fun ls hl => ?_)
  refine lv_iinc (v := 1) (lv' := [(5, .int 1), (4, .int 1), (3, .int 0), (0, .ref qO0), (1, .int 0), (2, .int 2)]) hx hb d_11_6_55 hl (k := 1) rfl (by decide) (by decide) rfl (fun ls hl => ?_)
  refine lv_goto (tgt := 13) hx hb d_11_6_58 (by decide) ?_
  refine lv_iload hx hb d_11_6_13 (lv_at hl 0 rfl) ?_
  refine lv_if_le (tgt := 61) hx hb d_11_6_15 (by decide) (fun c20 => absurd c20 (by decide)) (fun c20 => ?_)
  refine lv_iload hx hb d_11_6_18 (lv_at hl 0 rfl) ?_
  refine lv_iload_n hx hb d_11_6_20 rfl (lv_at hl 5 rfl) ?_
  refine lv_icmp_le (tgt := 30) hx hb d_11_6_21 (by decide) (fun c21 => ?_) (fun c21 => absurd (by decide) c21)
  refine lv_aload_n hx hb d_11_6_30 rfl (lv_at hl 3 rfl) ?_
  refine lv_bipush (v := 48) hx hb d_11_6_31 (by decide) ?_
  refine lv_iload_n hx hb d_11_6_33 rfl (lv_at hl 2 rfl) ?_
  refine lv_iload hx hb d_11_6_34 (lv_at hl 1 rfl) ?_
  refine lv_idiv hx hb d_11_6_36 (by decide) ?_
  refine q_ti (v := 0) (by decide) ?_
  refine lv_bipush (v := 10) hx hb d_11_6_37 (by decide) ?_
  refine lv_irem hx hb d_11_6_39 (by decide) ?_
  refine q_ti (v := 0) (by decide) ?_
  refine lv_iadd hx hb d_11_6_40 ?_
  refine q_ti (v := 48) (by decide) ?_
  refine q_gov V (q_runV (As := [.int 48]) (rest := []) (d := 1) (mc := 0) (ms := 0) (ci := 1) C0 V rfl LV_She_34 (c_She_add_11 l D g u17 kO0 kA1 qO0 qA1 (y1 + 1) y18 hO0 hA1 (q_Ile (x := 0) (y := (y1.toInt + 1)) (by decide) (q_addI (x := y1.toInt) (y := 1) rfl (by decide) (by have t1 : 3 ≤ y1.toInt := q_leI y1lo; have t2 : y1.toInt ≤ 3 := q_leI y1hi; omega) (by have t1 : 3 ≤ y1.toInt := q_leI y1lo; have t2 : y1.toInt ≤ 3 := q_leI y1hi; omega)) (by have t1 : 3 ≤ y1.toInt := q_leI y1lo; have t2 : y1.toInt ≤ 3 := q_leI y1hi; omega)) (q_Ile (x := (y1.toInt + 1)) (y := 11007) (q_addI (x := y1.toInt) (y := 1) rfl (by decide) (by have t1 : 3 ≤ y1.toInt := q_leI y1lo; have t2 : y1.toInt ≤ 3 := q_leI y1hi; omega) (by have t1 : 3 ≤ y1.toInt := q_leI y1lo; have t2 : y1.toInt ≤ 3 := q_leI y1hi; omega)) (by decide) (by have t1 : 3 ≤ y1.toInt := q_leI y1lo; have t2 : y1.toInt ≤ 3 := q_leI y1hi; omega)) _) rfl rfl hO0 rfl hl.1 rfl (Nat.le_of_ble_eq_true rfl) ⟨by decide, by decide⟩ ⟨Nat.le_of_ble_eq_true rfl, Nat.le_of_ble_eq_true rfl⟩ d_11_6_41) (fun u23 H locs hp22 V => ?_)
  obtain ⟨y24, hg25, hO0, hA1⟩ := hp22
  replace hF := q_uc hF hg25 (q_sc (.head _) (q_sc (.tail _ (.head _)) (fun _ h => absurd h List.not_mem_nil)))
  refine lv_iload hx hb d_11_6_44 (lv_at hl 1 rfl) ?_
  refine lv_bipush (v := 10) hx hb d_11_6_46 (by decide) ?_
  refine lv_idiv hx hb d_11_6_48 (by decide) ?_
  refine q_ti (v := 0) (by decide) ?_
  refine lv_iconst (v := 1) hx hb d_11_6_49 (by decide) ?_
  refine q_max C0 hl.1 rfl w_1588 w_803 w_7 w_804 ⟨Nat.le_of_ble_eq_true rfl, Nat.le_of_ble_eq_true rfl⟩ ⟨Nat.le_of_ble_eq_true rfl, Nat.le_of_ble_eq_true rfl⟩ d_11_6_50 ?_
  refine q_ti (v := 1) (by decide) ?_
  refine lv_istore (lv' := [(4, .int 1), (5, .int 1), (3, .int 0), (0, .ref qO0), (1, .int 0), (2, .int 2)]) hx hb d_11_6_53 hl (by decide) rfl (fun ls hl => ?_)
  refine lv_iinc (v := 0) (lv' := [(5, .int 0), (4, .int 1), (3, .int 0), (0, .ref qO0), (1, .int 0), (2, .int 2)]) hx hb d_11_6_55 hl (k := 1) rfl (by decide) (by decide) rfl (fun ls hl => ?_)
  refine lv_goto (tgt := 13) hx hb d_11_6_58 (by decide) ?_
  refine lv_iload hx hb d_11_6_13 (lv_at hl 0 rfl) ?_
  refine lv_if_le (tgt := 61) hx hb d_11_6_15 (by decide) (fun c26 => ?_) (fun c26 => absurd (by decide) c26)
  exact q_retv C0 V (⟨y24, hF, hO0, hA1⟩) d_11_6_61
theorem d_5_10_0 : decode prog_5_method_10_code 0 = .ok (.aload_n 0, 1) := by decide +kernel
theorem d_5_10_1 : decode prog_5_method_10_code 1 = .ok (.aload_n 1, 1) := by decide +kernel
theorem d_5_10_2 : decode prog_5_method_10_code 2 = .ok (.iload_n 2, 1) := by decide +kernel
theorem d_5_10_3 : decode prog_5_method_10_code 3 = .ok (.iload_n 3, 1) := by decide +kernel
theorem d_5_10_4 : decode prog_5_method_10_code 4 = .ok (.invokevirtual 57, 3) := by decide +kernel
theorem w_1577 : (Cond.code ({ cls := "NumberHouse$Digits", name := "writeHead", desc := "(LNumberHouse$Sheet;IZ)V" } : MethodName) prog_5_method_11_code (5 : Nat) (none : Option ClassFile.FieldType)) ∈ q_tbl := q_of 1577 (by decide +kernel) (by decide +kernel)
theorem w_1668 : (Cond.methodLink "NumberHouse$Digits" (57 : Nat) ({ cls := "NumberHouse$Digits", name := "writeHead", desc := "(LNumberHouse$Sheet;IZ)V" } : MethodName)) ∈ q_tbl := q_of 1668 (by decide +kernel) (by decide +kernel)
theorem w_1575 : (Cond.instanceMethod ({ cls := "NumberHouse$Digits", name := "writeHead", desc := "(LNumberHouse$Sheet;IZ)V" } : MethodName)) ∈ q_tbl := q_of 1575 (by decide +kernel) (by decide +kernel)
theorem w_1576 : (Cond.selects "NumberHouse$Digits" ({ cls := "NumberHouse$Digits", name := "writeHead", desc := "(LNumberHouse$Sheet;IZ)V" } : MethodName) ({ cls := "NumberHouse$Digits", name := "writeHead", desc := "(LNumberHouse$Sheet;IZ)V" } : MethodName)) ∈ q_tbl := q_of 1576 (by decide +kernel) (by decide +kernel)
theorem LV_Dig_57 : q_LV "NumberHouse$Digits" 57 y_Dig_writeHead prog_5_method_11_code 5 none 3 := ⟨w_1577, w_9, w_1668, w_1575, w_1576, ⟨by decide, by decide, by decide +kernel⟩⟩
theorem d_5_10_7 : decode prog_5_method_10_code 7 = .ok (.aload_n 1, 1) := by decide +kernel
theorem d_5_10_8 : decode prog_5_method_10_code 8 = .ok (.bipush 101, 2) := by decide +kernel
theorem d_5_10_10 : decode prog_5_method_10_code 10 = .ok (.invokevirtual 52, 3) := by decide +kernel
theorem d_5_10_13 : decode prog_5_method_10_code 13 = .ok (.aload_n 1, 1) := by decide +kernel
theorem d_5_10_14 : decode prog_5_method_10_code 14 = .ok (.aload_n 0, 1) := by decide +kernel
theorem d_5_10_15 : decode prog_5_method_10_code 15 = .ok (.getfield 33, 3) := by decide +kernel
theorem d_5_10_18 : decode prog_5_method_10_code 18 = .ok (.ifCond .ge 8, 3) := by decide +kernel
theorem d_5_10_26 : decode prog_5_method_10_code 26 = .ok (.bipush 43, 2) := by decide +kernel
theorem d_5_10_28 : decode prog_5_method_10_code 28 = .ok (.invokevirtual 52, 3) := by decide +kernel
theorem d_5_10_31 : decode prog_5_method_10_code 31 = .ok (.aload_n 1, 1) := by decide +kernel
theorem d_5_10_32 : decode prog_5_method_10_code 32 = .ok (.aload_n 0, 1) := by decide +kernel
theorem d_5_10_33 : decode prog_5_method_10_code 33 = .ok (.getfield 33, 3) := by decide +kernel
theorem d_5_10_36 : decode prog_5_method_10_code 36 = .ok (.iconst 2, 1) := by decide +kernel
theorem d_5_10_37 : decode prog_5_method_10_code 37 = .ok (.invokevirtual 61, 3) := by decide +kernel
theorem w_1585 : (Cond.code ({ cls := "NumberHouse$Sheet", name := "addPower", desc := "(II)V" } : MethodName) prog_11_method_6_code (6 : Nat) (none : Option ClassFile.FieldType)) ∈ q_tbl := q_of 1585 (by decide +kernel) (by decide +kernel)
theorem w_1669 : (Cond.methodLink "NumberHouse$Digits" (61 : Nat) ({ cls := "NumberHouse$Sheet", name := "addPower", desc := "(II)V" } : MethodName)) ∈ q_tbl := q_of 1669 (by decide +kernel) (by decide +kernel)
theorem w_1583 : (Cond.instanceMethod ({ cls := "NumberHouse$Sheet", name := "addPower", desc := "(II)V" } : MethodName)) ∈ q_tbl := q_of 1583 (by decide +kernel) (by decide +kernel)
theorem w_1584 : (Cond.selects "NumberHouse$Sheet" ({ cls := "NumberHouse$Sheet", name := "addPower", desc := "(II)V" } : MethodName) ({ cls := "NumberHouse$Sheet", name := "addPower", desc := "(II)V" } : MethodName)) ∈ q_tbl := q_of 1584 (by decide +kernel) (by decide +kernel)
theorem LV_Dig_61 : q_LV "NumberHouse$Digits" 61 y_She_addPower prog_11_method_6_code 6 none 2 := ⟨w_1585, w_2, w_1669, w_1583, w_1584, ⟨by decide, by decide, by decide +kernel⟩⟩
theorem d_5_10_40 : decode prog_5_method_10_code 40 = .ok (.return_, 1) := by decide +kernel
def y_Dig_writeScience : MethodName := ⟨"NumberHouse$Digits", "writeScience", "(LNumberHouse$Sheet;IZ)V"⟩
set_option maxRecDepth 100000 in
set_option maxHeartbeats 4000000 in
theorem c_Dig_writeScience (l : Launch) (D : va_G) (g : Nat → ClassId) (ws : va_W) (kO0 kO1 kA3 qO0 qO1 qA2 qA3 : Nat) (x1 : Int32) (hO0 : ws[kO0]? = (some (qO0, .inr (7, [.int 0, .int 0, .ref qA2])) : Option (Nat × va_E))) (hO1 : ws[kO1]? = (some (qO1, .inr (1, [.ref qA3, .int 11008, .int 0])) : Option (Nat × va_E))) (hA3 : ws[kA3]? = (some (qA3, .inl (g 1, 1376, .inr (.inl (fun _ => 0)))) : Option (Nat × va_E))) (x1lo : 1 ≤ x1) (x1hi : x1 ≤ 800) : q_mV l y_Dig_writeScience prog_5_method_10_code 4 3 0 0 D g [.ref qO0, .ref qO1, .int x1, .int 0] ws (fun u => (∃ (ex0 : Int32) (ex1 : Nat → Int64), 1 < x1 ∧ ((x1.toInt < 2 ∧ ex0.toInt = 2) ∨ (2 ≤ x1.toInt ∧ ex0.toInt = 2 + x1.toInt - 1)) ∧ 2 ≤ ex0 ∧ ex0 ≤ 801 ∧ q_un ws u [kO1, kA3] ∧ u[kO1]? = (some (qO1, .inr (1, [.ref qA3, .int 11008, .int ((((ex0 + 1) + 1) + 1) + 1)])) : Option (Nat × va_E)) ∧ u[kA3]? = (some (qA3, .inl (g 1, 1376, .inr (.inl ex1))) : Option (Nat × va_E))) ∨ (∃ (ex0 : Int32) (ex1 : Nat → Int64), ¬ 1 < x1 ∧ ((x1.toInt < 2 ∧ ex0.toInt = 1) ∨ (2 ≤ x1.toInt ∧ ex0.toInt = 1 + x1.toInt - 1)) ∧ 1 ≤ ex0 ∧ ex0 ≤ 1 ∧ q_un ws u [kO1, kA3] ∧ u[kO1]? = (some (qO1, .inr (1, [.ref qA3, .int 11008, .int ((((ex0 + 1) + 1) + 1) + 1)])) : Option (Nat × va_E)) ∧ u[kA3]? = (some (qA3, .inl (g 1, 1376, .inr (.inl ex1))) : Option (Nat × va_E)))) := by
  intro sz
  refine q_into (by decide) (Nat.le_of_ble_eq_true rfl) ?_
  intro p e s m below meth c ls hsz C0 V hl
  have hx := C0.1
  have hb := C0.2.1
  have hl : lv_has ls 4 [(0, .ref qO0), (1, .ref qO1), (2, .int x1), (3, .int 0)] := hl
  have n_O0_A3 := Ne.symm (q_df hA3 hO0)
  have n_O0_O1 := q_dc hO0 hO1 (q_pd 7 1 rfl)
  have hF : q_un ws ws [kO1, kA3] := q_u0
  refine lv_aload_n hx hb d_5_10_0 rfl (lv_at hl 0 rfl) ?_
  refine lv_aload_n hx hb d_5_10_1 rfl (lv_at hl 1 rfl) ?_
  refine lv_iload_n hx hb d_5_10_2 rfl (lv_at hl 2 rfl) ?_
  refine lv_iload_n hx hb d_5_10_3 rfl (lv_at hl 3 rfl) ?_
  refine q_gov V (q_runV (As := [.ref qO1, .int x1, .int 0]) (rest := []) (d := 2) (mc := 0) (ms := 0) (ci := 7) C0 V rfl LV_Dig_57 (c_Dig_writeHead l D g ws kO0 kO1 kA3 qO0 qO1 qA2 qA3 x1 hO0 hO1 hA3 x1lo x1hi _) rfl rfl hO0 rfl hl.1 rfl (Nat.le_of_ble_eq_true rfl) ⟨by decide, by decide⟩ ⟨Nat.le_of_ble_eq_true rfl, Nat.le_of_ble_eq_true rfl⟩ d_5_10_4) (fun u2 H locs hp1 V => ?_)
  rcases hp1 with ⟨y7, y8, c3, f4, f5, f6, hg9, hO1, hA3⟩ | ⟨y14, y15, c10, f11, f12, f13, hg16, hO1, hA3⟩
  ·
    replace hF := q_uc hF hg9 (q_sc (.head _) (q_sc (.tail _ (.head _)) (fun _ h => absurd h List.not_mem_nil)))
    refine lv_aload_n hx hb d_5_10_7 rfl (lv_at hl 1 rfl) ?_
    refine lv_bipush (v := 101) hx hb d_5_10_8 (by decide) ?_
    refine q_gov V (q_runV (As := [.int 101]) (rest := []) (d := 1) (mc := 0) (ms := 0) (ci := 1) C0 V rfl LV_Dig_52 (c_She_add_12 l D g u2 kO1 kA3 qO1 qA3 y7 y8 hO1 hA3 (q_Ile (x := 0) (y := y7.toInt) (by decide) rfl (by have t1 : 2 ≤ y7.toInt := q_leI f5; have t2 : y7.toInt ≤ 801 := q_leI f6; omega)) (q_Ile (x := y7.toInt) (y := 11007) rfl (by decide) (by have t1 : 2 ≤ y7.toInt := q_leI f5; have t2 : y7.toInt ≤ 801 := q_leI f6; omega)) _) rfl rfl hO1 rfl hl.1 rfl (Nat.le_of_ble_eq_true rfl) ⟨by decide, by decide⟩ ⟨Nat.le_of_ble_eq_true rfl, Nat.le_of_ble_eq_true rfl⟩ d_5_10_10) (fun u18 H locs hp17 V => ?_)
    obtain ⟨y19, hg20, hO1, hA3⟩ := hp17
    replace hF := q_uc hF hg20 (q_sc (.head _) (q_sc (.tail _ (.head _)) (fun _ h => absurd h List.not_mem_nil)))
    refine lv_aload_n hx hb d_5_10_13 rfl (lv_at hl 1 rfl) ?_
    refine lv_aload_n hx hb d_5_10_14 rfl (lv_at hl 0 rfl) ?_
    replace hO0 := (hg20 _ (q_nc n_O0_O1 (q_nc n_O0_A3 List.not_mem_nil))).trans ((hg9 _ (q_nc n_O0_O1 (q_nc n_O0_A3 List.not_mem_nil))).trans (hO0))
    refine q_get (ci := 7) (j := 1) (v := .int 0) C0 V i_Dig rfl rfl hO0 (by decide) w_266 rfl d_5_10_15 ?_
    refine lv_if_ge (tgt := 26) hx hb d_5_10_18 (by decide) (fun c21 => ?_) (fun c21 => absurd (by decide) c21)
    refine lv_bipush (v := 43) hx hb d_5_10_26 (by decide) ?_
    refine q_gov V (q_runV (As := [.int 43]) (rest := []) (d := 1) (mc := 0) (ms := 0) (ci := 1) C0 V rfl LV_Dig_52 (c_She_add_13 l D g u18 kO1 kA3 qO1 qA3 (y7 + 1) y19 hO1 hA3 (q_Ile (x := 0) (y := (y7.toInt + 1)) (by decide) (q_addI (x := y7.toInt) (y := 1) rfl (by decide) (by have t1 : 2 ≤ y7.toInt := q_leI f5; have t2 : y7.toInt ≤ 801 := q_leI f6; omega) (by have t1 : 2 ≤ y7.toInt := q_leI f5; have t2 : y7.toInt ≤ 801 := q_leI f6; omega)) (by have t1 : 2 ≤ y7.toInt := q_leI f5; have t2 : y7.toInt ≤ 801 := q_leI f6; omega)) (q_Ile (x := (y7.toInt + 1)) (y := 11007) (q_addI (x := y7.toInt) (y := 1) rfl (by decide) (by have t1 : 2 ≤ y7.toInt := q_leI f5; have t2 : y7.toInt ≤ 801 := q_leI f6; omega) (by have t1 : 2 ≤ y7.toInt := q_leI f5; have t2 : y7.toInt ≤ 801 := q_leI f6; omega)) (by decide) (by have t1 : 2 ≤ y7.toInt := q_leI f5; have t2 : y7.toInt ≤ 801 := q_leI f6; omega)) _) rfl rfl hO1 rfl hl.1 rfl (Nat.le_of_ble_eq_true rfl) ⟨by decide, by decide⟩ ⟨Nat.le_of_ble_eq_true rfl, Nat.le_of_ble_eq_true rfl⟩ d_5_10_28) (fun u23 H locs hp22 V => ?_)
    obtain ⟨y24, hg25, hO1, hA3⟩ := hp22
    replace hF := q_uc hF hg25 (q_sc (.head _) (q_sc (.tail _ (.head _)) (fun _ h => absurd h List.not_mem_nil)))
    refine lv_aload_n hx hb d_5_10_31 rfl (lv_at hl 1 rfl) ?_
    refine lv_aload_n hx hb d_5_10_32 rfl (lv_at hl 0 rfl) ?_
    replace hO0 := (hg25 _ (q_nc n_O0_O1 (q_nc n_O0_A3 List.not_mem_nil))).trans (hO0)
    refine q_get (ci := 7) (j := 1) (v := .int 0) C0 V i_Dig rfl rfl hO0 (by decide) w_266 rfl d_5_10_33 ?_
    refine lv_iconst (v := 2) hx hb d_5_10_36 (by decide) ?_
    refine q_gov V (q_runV (As := [.int 0, .int 2]) (rest := []) (d := 2) (mc := 0) (ms := 0) (ci := 1) C0 V rfl LV_Dig_61 (c_She_addPower l D g u23 kO1 kA3 qO1 qA3 ((y7 + 1) + 1) y24 hO1 hA3 (q_Ile (x := 4) (y := ((y7.toInt + 1) + 1)) (by decide) (q_addI (x := (y7.toInt + 1)) (y := 1) (q_addI (x := y7.toInt) (y := 1) rfl (by decide) (by have t1 : 2 ≤ y7.toInt := q_leI f5; have t2 : y7.toInt ≤ 801 := q_leI f6; omega) (by have t1 : 2 ≤ y7.toInt := q_leI f5; have t2 : y7.toInt ≤ 801 := q_leI f6; omega)) (by decide) (by have t1 : 2 ≤ y7.toInt := q_leI f5; have t2 : y7.toInt ≤ 801 := q_leI f6; omega) (by have t1 : 2 ≤ y7.toInt := q_leI f5; have t2 : y7.toInt ≤ 801 := q_leI f6; omega)) (by have t1 : 2 ≤ y7.toInt := q_leI f5; have t2 : y7.toInt ≤ 801 := q_leI f6; omega)) (q_Ile (x := ((y7.toInt + 1) + 1)) (y := 803) (q_addI (x := (y7.toInt + 1)) (y := 1) (q_addI (x := y7.toInt) (y := 1) rfl (by decide) (by have t1 : 2 ≤ y7.toInt := q_leI f5; have t2 : y7.toInt ≤ 801 := q_leI f6; omega) (by have t1 : 2 ≤ y7.toInt := q_leI f5; have t2 : y7.toInt ≤ 801 := q_leI f6; omega)) (by decide) (by have t1 : 2 ≤ y7.toInt := q_leI f5; have t2 : y7.toInt ≤ 801 := q_leI f6; omega) (by have t1 : 2 ≤ y7.toInt := q_leI f5; have t2 : y7.toInt ≤ 801 := q_leI f6; omega)) (by decide) (by have t1 : 2 ≤ y7.toInt := q_leI f5; have t2 : y7.toInt ≤ 801 := q_leI f6; omega)) _) rfl rfl hO1 rfl hl.1 rfl (Nat.le_of_ble_eq_true rfl) ⟨by decide, by decide⟩ ⟨Nat.le_of_ble_eq_true rfl, Nat.le_of_ble_eq_true rfl⟩ d_5_10_37) (fun u27 H locs hp26 V => ?_)
    obtain ⟨y28, hg29, hO1, hA3⟩ := hp26
    replace hF := q_uc hF hg29 (q_sc (.head _) (q_sc (.tail _ (.head _)) (fun _ h => absurd h List.not_mem_nil)))
    exact q_retv C0 V (Or.inl ⟨y7, y28, c3, f4, f5, f6, hF, hO1, hA3⟩) d_5_10_40
  ·
    replace hF := q_uc hF hg16 (q_sc (.head _) (q_sc (.tail _ (.head _)) (fun _ h => absurd h List.not_mem_nil)))
    refine lv_aload_n hx hb d_5_10_7 rfl (lv_at hl 1 rfl) ?_
    refine lv_bipush (v := 101) hx hb d_5_10_8 (by decide) ?_
    refine q_gov V (q_runV (As := [.int 101]) (rest := []) (d := 1) (mc := 0) (ms := 0) (ci := 1) C0 V rfl LV_Dig_52 (c_She_add_12 l D g u2 kO1 kA3 qO1 qA3 y14 y15 hO1 hA3 (q_Ile (x := 0) (y := y14.toInt) (by decide) rfl (by have t1 : 1 ≤ y14.toInt := q_leI f12; have t2 : y14.toInt ≤ 1 := q_leI f13; omega)) (q_Ile (x := y14.toInt) (y := 11007) rfl (by decide) (by have t1 : 1 ≤ y14.toInt := q_leI f12; have t2 : y14.toInt ≤ 1 := q_leI f13; omega)) _) rfl rfl hO1 rfl hl.1 rfl (Nat.le_of_ble_eq_true rfl) ⟨by decide, by decide⟩ ⟨Nat.le_of_ble_eq_true rfl, Nat.le_of_ble_eq_true rfl⟩ d_5_10_10) (fun u31 H locs hp30 V => ?_)
    obtain ⟨y32, hg33, hO1, hA3⟩ := hp30
    replace hF := q_uc hF hg33 (q_sc (.head _) (q_sc (.tail _ (.head _)) (fun _ h => absurd h List.not_mem_nil)))
    refine lv_aload_n hx hb d_5_10_13 rfl (lv_at hl 1 rfl) ?_
    refine lv_aload_n hx hb d_5_10_14 rfl (lv_at hl 0 rfl) ?_
    replace hO0 := (hg33 _ (q_nc n_O0_O1 (q_nc n_O0_A3 List.not_mem_nil))).trans ((hg16 _ (q_nc n_O0_O1 (q_nc n_O0_A3 List.not_mem_nil))).trans (hO0))
    refine q_get (ci := 7) (j := 1) (v := .int 0) C0 V i_Dig rfl rfl hO0 (by decide) w_266 rfl d_5_10_15 ?_
    refine lv_if_ge (tgt := 26) hx hb d_5_10_18 (by decide) (fun c34 => ?_) (fun c34 => absurd (by decide) c34)
    refine lv_bipush (v := 43) hx hb d_5_10_26 (by decide) ?_
    refine q_gov V (q_runV (As := [.int 43]) (rest := []) (d := 1) (mc := 0) (ms := 0) (ci := 1) C0 V rfl LV_Dig_52 (c_She_add_13 l D g u31 kO1 kA3 qO1 qA3 (y14 + 1) y32 hO1 hA3 (q_Ile (x := 0) (y := (y14.toInt + 1)) (by decide) (q_addI (x := y14.toInt) (y := 1) rfl (by decide) (by have t1 : 1 ≤ y14.toInt := q_leI f12; have t2 : y14.toInt ≤ 1 := q_leI f13; omega) (by have t1 : 1 ≤ y14.toInt := q_leI f12; have t2 : y14.toInt ≤ 1 := q_leI f13; omega)) (by have t1 : 1 ≤ y14.toInt := q_leI f12; have t2 : y14.toInt ≤ 1 := q_leI f13; omega)) (q_Ile (x := (y14.toInt + 1)) (y := 11007) (q_addI (x := y14.toInt) (y := 1) rfl (by decide) (by have t1 : 1 ≤ y14.toInt := q_leI f12; have t2 : y14.toInt ≤ 1 := q_leI f13; omega) (by have t1 : 1 ≤ y14.toInt := q_leI f12; have t2 : y14.toInt ≤ 1 := q_leI f13; omega)) (by decide) (by have t1 : 1 ≤ y14.toInt := q_leI f12; have t2 : y14.toInt ≤ 1 := q_leI f13; omega)) _) rfl rfl hO1 rfl hl.1 rfl (Nat.le_of_ble_eq_true rfl) ⟨by decide, by decide⟩ ⟨Nat.le_of_ble_eq_true rfl, Nat.le_of_ble_eq_true rfl⟩ d_5_10_28) (fun u36 H locs hp35 V => ?_)
    obtain ⟨y37, hg38, hO1, hA3⟩ := hp35
    replace hF := q_uc hF hg38 (q_sc (.head _) (q_sc (.tail _ (.head _)) (fun _ h => absurd h List.not_mem_nil)))
    refine lv_aload_n hx hb d_5_10_31 rfl (lv_at hl 1 rfl) ?_
    refine lv_aload_n hx hb d_5_10_32 rfl (lv_at hl 0 rfl) ?_
    replace hO0 := (hg38 _ (q_nc n_O0_O1 (q_nc n_O0_A3 List.not_mem_nil))).trans (hO0)
    refine q_get (ci := 7) (j := 1) (v := .int 0) C0 V i_Dig rfl rfl hO0 (by decide) w_266 rfl d_5_10_33 ?_
    refine lv_iconst (v := 2) hx hb d_5_10_36 (by decide) ?_
    refine q_gov V (q_runV (As := [.int 0, .int 2]) (rest := []) (d := 2) (mc := 0) (ms := 0) (ci := 1) C0 V rfl LV_Dig_61 (c_She_addPower_2 l D g u36 kO1 kA3 qO1 qA3 ((y14 + 1) + 1) y37 hO1 hA3 (q_Ile (x := 3) (y := ((y14.toInt + 1) + 1)) (by decide) (q_addI (x := (y14.toInt + 1)) (y := 1) (q_addI (x := y14.toInt) (y := 1) rfl (by decide) (by have t1 : 1 ≤ y14.toInt := q_leI f12; have t2 : y14.toInt ≤ 1 := q_leI f13; omega) (by have t1 : 1 ≤ y14.toInt := q_leI f12; have t2 : y14.toInt ≤ 1 := q_leI f13; omega)) (by decide) (by have t1 : 1 ≤ y14.toInt := q_leI f12; have t2 : y14.toInt ≤ 1 := q_leI f13; omega) (by have t1 : 1 ≤ y14.toInt := q_leI f12; have t2 : y14.toInt ≤ 1 := q_leI f13; omega)) (by have t1 : 1 ≤ y14.toInt := q_leI f12; have t2 : y14.toInt ≤ 1 := q_leI f13; omega)) (q_Ile (x := ((y14.toInt + 1) + 1)) (y := 3) (q_addI (x := (y14.toInt + 1)) (y := 1) (q_addI (x := y14.toInt) (y := 1) rfl (by decide) (by have t1 : 1 ≤ y14.toInt := q_leI f12; have t2 : y14.toInt ≤ 1 := q_leI f13; omega) (by have t1 : 1 ≤ y14.toInt := q_leI f12; have t2 : y14.toInt ≤ 1 := q_leI f13; omega)) (by decide) (by have t1 : 1 ≤ y14.toInt := q_leI f12; have t2 : y14.toInt ≤ 1 := q_leI f13; omega) (by have t1 : 1 ≤ y14.toInt := q_leI f12; have t2 : y14.toInt ≤ 1 := q_leI f13; omega)) (by decide) (by have t1 : 1 ≤ y14.toInt := q_leI f12; have t2 : y14.toInt ≤ 1 := q_leI f13; omega)) _) rfl rfl hO1 rfl hl.1 rfl (Nat.le_of_ble_eq_true rfl) ⟨by decide, by decide⟩ ⟨Nat.le_of_ble_eq_true rfl, Nat.le_of_ble_eq_true rfl⟩ d_5_10_37) (fun u40 H locs hp39 V => ?_)
    obtain ⟨y41, hg42, hO1, hA3⟩ := hp39
    replace hF := q_uc hF hg42 (q_sc (.head _) (q_sc (.tail _ (.head _)) (fun _ h => absurd h List.not_mem_nil)))
    exact q_retv C0 V (Or.inr (⟨y14, y41, c10, f11, f12, f13, hF, hO1, hA3⟩)) d_5_10_40
theorem d_12_10_37 : decode prog_12_method_10_code 37 = .ok (.iload 5, 2) := by decide +kernel
theorem d_12_10_39 : decode prog_12_method_10_code 39 = .ok (.goto 15, 3) := by decide +kernel
theorem d_12_10_64 : decode prog_12_method_10_code 64 = .ok (.aload_n 0, 1) := by decide +kernel
theorem d_12_10_65 : decode prog_12_method_10_code 65 = .ok (.getfield 17, 3) := by decide +kernel
theorem d_12_10_68 : decode prog_12_method_10_code 68 = .ok (.aload_n 0, 1) := by decide +kernel
theorem d_12_10_69 : decode prog_12_method_10_code 69 = .ok (.getfield 7, 3) := by decide +kernel
theorem d_12_10_72 : decode prog_12_method_10_code 72 = .ok (.iload 5, 2) := by decide +kernel
theorem d_12_10_74 : decode prog_12_method_10_code 74 = .ok (.iconst 0, 1) := by decide +kernel
theorem d_12_10_75 : decode prog_12_method_10_code 75 = .ok (.invokevirtual 198, 3) := by decide +kernel
theorem w_1667 : (Cond.code ({ cls := "NumberHouse$Digits", name := "writeScience", desc := "(LNumberHouse$Sheet;IZ)V" } : MethodName) prog_5_method_10_code (4 : Nat) (none : Option ClassFile.FieldType)) ∈ q_tbl := q_of 1667 (by decide +kernel) (by decide +kernel)
theorem w_1664 : (Cond.methodLink "NumberHouse$Writer" (198 : Nat) ({ cls := "NumberHouse$Digits", name := "writeScience", desc := "(LNumberHouse$Sheet;IZ)V" } : MethodName)) ∈ q_tbl := q_of 1664 (by decide +kernel) (by decide +kernel)
theorem w_1665 : (Cond.instanceMethod ({ cls := "NumberHouse$Digits", name := "writeScience", desc := "(LNumberHouse$Sheet;IZ)V" } : MethodName)) ∈ q_tbl := q_of 1665 (by decide +kernel) (by decide +kernel)
theorem w_1666 : (Cond.selects "NumberHouse$Digits" ({ cls := "NumberHouse$Digits", name := "writeScience", desc := "(LNumberHouse$Sheet;IZ)V" } : MethodName) ({ cls := "NumberHouse$Digits", name := "writeScience", desc := "(LNumberHouse$Sheet;IZ)V" } : MethodName)) ∈ q_tbl := q_of 1666 (by decide +kernel) (by decide +kernel)
theorem LV_Wri_198 : q_LV "NumberHouse$Writer" 198 y_Dig_writeScience prog_5_method_10_code 4 none 3 := ⟨w_1667, w_9, w_1664, w_1665, w_1666, ⟨by decide, by decide, by decide +kernel⟩⟩
theorem d_12_10_78 : decode prog_12_method_10_code 78 = .ok (.goto 18, 3) := by decide +kernel
set_option maxRecDepth 100000 in
set_option maxHeartbeats 4000000 in
theorem c_Wri_exactText_2 (l : Launch) (D : va_G) (g : Nat → ClassId) (ws : va_W) (kO0 kO1 kO2 kO3 kO4 kA5 kO6 kA17 qO0 qO1 qO2 qO3 qO4 qA5 qO6 qO7 qO8 qO9 qO10 qO11 qO12 qO13 qO14 qO15 qA16 qA17 : Nat) (x1 : Int32) (x2 : Int32) (x3 : Int32) (hO0 : ws[kO0]? = (some (qO0, .inr (9, [.ref qO2, .ref qO3, .ref qO4])) : Option (Nat × va_E))) (hO1 : ws[kO1]? = (some (qO1, .inr (6, [.int 52, .int 1075, .int 2047, .long 0, .int 0, .ref qO3, .int 0])) : Option (Nat × va_E))) (hO2 : ws[kO2]? = (some (qO2, .inr (1, [.ref qA5, .int 11008, .int 0])) : Option (Nat × va_E))) (hO3 : ws[kO3]? = (some (qO3, .inr (4, [.ref qO6, .ref qO7, .ref qO8, .ref qO9, .ref qO10, .ref qO11, .ref qO12, .ref qO13, .ref qO14, .ref qO15])) : Option (Nat × va_E))) (hO4 : ws[kO4]? = (some (qO4, .inr (7, [.int 0, .int 0, .ref qA16])) : Option (Nat × va_E))) (hA5 : ws[kA5]? = (some (qA5, .inl (g 1, 1376, .inr (.inl (fun _ => 0)))) : Option (Nat × va_E))) (hO6 : ws[kO6]? = (some (qO6, .inr (2, [.ref qA17, .int 0, .int 0])) : Option (Nat × va_E))) (hA17 : ws[kA17]? = (some (qA17, .inl (g 0, 220, .inl (fun _ => 0))) : Option (Nat × va_E))) (n_A17_A5 : kA17 ≠ kA5) (x2lo : 1 ≤ x2) (x2hi : x2 ≤ 800) (x3lo : 0 ≤ x3) (x3hi : x3 ≤ 3) : q_mV l y_Wri_exactText prog_12_method_10_code 7 4 0 0 D g [.ref qO0, .ref qO1, .long 0, .int x1, .int x2, .int x3] ws (fun u => (∃ (ex0 : Int32) (ex1 : Nat → Int64), x1 = 0 ∧ 0 < x2 ∧ ((x2.toInt < 1 ∧ ex0.toInt = 2) ∨ (1 ≤ x2.toInt ∧ ex0.toInt = 2 + x2.toInt - 0)) ∧ 2 ≤ ex0 ∧ ex0 ≤ 1102 ∧ q_un ws u [kO2, kO4, kA5, kO6, kA17] ∧ u[kO2]? = (some (qO2, .inr (1, [.ref qA5, .int 11008, .int ex0])) : Option (Nat × va_E)) ∧ u[kO4]? = (some (qO4, .inr (7, [.int 0, .int 0, .ref qA16])) : Option (Nat × va_E)) ∧ u[kA5]? = (some (qA5, .inl (g 1, 1376, .inr (.inl ex1))) : Option (Nat × va_E)) ∧ u[kO6]? = (some (qO6, .inr (2, [.ref qA17, .int 0, .int 0])) : Option (Nat × va_E)) ∧ u[kA17]? = (some (qA17, .inl (g 0, 220, .inl (fun _ => 0))) : Option (Nat × va_E))) ∨ (∃ (ex0 : Int32) (ex1 : Nat → Int64), ¬ x1 = 0 ∧ 1 < x2 ∧ ((x2.toInt < 2 ∧ ex0.toInt = 2) ∨ (2 ≤ x2.toInt ∧ ex0.toInt = 2 + x2.toInt - 1)) ∧ 2 ≤ ex0 ∧ ex0 ≤ 801 ∧ q_un ws u [kO2, kO4, kA5, kO6, kA17] ∧ u[kO2]? = (some (qO2, .inr (1, [.ref qA5, .int 11008, .int ((((ex0 + 1) + 1) + 1) + 1)])) : Option (Nat × va_E)) ∧ u[kO4]? = (some (qO4, .inr (7, [.int 0, .int 0, .ref qA16])) : Option (Nat × va_E)) ∧ u[kA5]? = (some (qA5, .inl (g 1, 1376, .inr (.inl ex1))) : Option (Nat × va_E)) ∧ u[kO6]? = (some (qO6, .inr (2, [.ref qA17, .int 0, .int 0])) : Option (Nat × va_E)) ∧ u[kA17]? = (some (qA17, .inl (g 0, 220, .inl (fun _ => 0))) : Option (Nat × va_E))) ∨ (∃ (ex0 : Int32) (ex1 : Nat → Int64), ¬ x1 = 0 ∧ ¬ 1 < x2 ∧ ((x2.toInt < 2 ∧ ex0.toInt = 1) ∨ (2 ≤ x2.toInt ∧ ex0.toInt = 1 + x2.toInt - 1)) ∧ 1 ≤ ex0 ∧ ex0 ≤ 1 ∧ q_un ws u [kO2, kO4, kA5, kO6, kA17] ∧ u[kO2]? = (some (qO2, .inr (1, [.ref qA5, .int 11008, .int ((((ex0 + 1) + 1) + 1) + 1)])) : Option (Nat × va_E)) ∧ u[kO4]? = (some (qO4, .inr (7, [.int 0, .int 0, .ref qA16])) : Option (Nat × va_E)) ∧ u[kA5]? = (some (qA5, .inl (g 1, 1376, .inr (.inl ex1))) : Option (Nat × va_E)) ∧ u[kO6]? = (some (qO6, .inr (2, [.ref qA17, .int 0, .int 0])) : Option (Nat × va_E)) ∧ u[kA17]? = (some (qA17, .inl (g 0, 220, .inl (fun _ => 0))) : Option (Nat × va_E)))) := by
  intro sz
  refine q_into (by decide) (Nat.le_of_ble_eq_true rfl) ?_
  intro p e s m below meth c ls hsz C0 V hl
  have hx := C0.1
  have hb := C0.2.1
  have hl : lv_has ls 7 [(0, .ref qO0), (1, .ref qO1), (2, .long 0), (4, .int x1), (5, .int x2), (6, .int x3)] := hl
  have n_A17_O2 := q_df hA17 hO2
  have n_A17_O4 := q_df hA17 hO4
  have n_A5_A17 := Ne.symm n_A17_A5
  have n_A5_O2 := q_df hA5 hO2
  have n_A5_O4 := q_df hA5 hO4
  have n_A5_O6 := q_df hA5 hO6
  have n_O0_A17 := Ne.symm (q_df hA17 hO0)
  have n_O0_A5 := Ne.symm (q_df hA5 hO0)
  have n_O0_O2 := q_dc hO0 hO2 (q_pd 9 1 rfl)
  have n_O0_O4 := q_dc hO0 hO4 (q_pd 9 7 rfl)
  have n_O0_O6 := q_dc hO0 hO6 (q_pd 9 2 rfl)
  have n_O1_A17 := Ne.symm (q_df hA17 hO1)
  have n_O1_A5 := Ne.symm (q_df hA5 hO1)
  have n_O1_O2 := q_dc hO1 hO2 (q_pd 6 1 rfl)
  have n_O1_O4 := q_dc hO1 hO4 (q_pd 6 7 rfl)
  have n_O1_O6 := q_dc hO1 hO6 (q_pd 6 2 rfl)
  have n_O2_A17 := Ne.symm (q_df hA17 hO2)
  have n_O2_O4 := q_dc hO2 hO4 (q_pd 1 7 rfl)
  have n_O2_O6 := q_dc hO2 hO6 (q_pd 1 2 rfl)
  have n_O3_A17 := Ne.symm (q_df hA17 hO3)
  have n_O3_A5 := Ne.symm (q_df hA5 hO3)
  have n_O3_O2 := q_dc hO3 hO2 (q_pd 4 1 rfl)
  have n_O3_O4 := q_dc hO3 hO4 (q_pd 4 7 rfl)
  have n_O3_O6 := q_dc hO3 hO6 (q_pd 4 2 rfl)
  have n_O4_A17 := Ne.symm (q_df hA17 hO4)
  have n_O4_A5 := Ne.symm (q_df hA5 hO4)
  have n_O4_O2 := q_dc hO4 hO2 (q_pd 7 1 rfl)
  have n_O4_O6 := q_dc hO4 hO6 (q_pd 7 2 rfl)
  have n_O6_A5 := Ne.symm (q_df hA5 hO6)
  have n_O6_O2 := q_dc hO6 hO2 (q_pd 2 1 rfl)
  have n_O6_O4 := q_dc hO6 hO4 (q_pd 2 7 rfl)
  have hF : q_un ws ws [kO2, kO4, kA5, kO6, kA17] := q_u0
  refine lv_aload_n hx hb d_12_10_0 rfl (lv_at hl 0 rfl) ?_
  refine lv_aload_n hx hb d_12_10_1 rfl (lv_at hl 1 rfl) ?_
  refine lv_lload_n hx hb d_12_10_2 rfl (lv_at hl 2 rfl) ?_
  refine q_goi V (q_runV (As := [.long 0]) (rest := [.ref qO0]) (d := 2) (mc := 0) (ms := 0) (ci := 6) C0 V rfl LV_Wri_118 (c_Flo_isNegative_2 l D g ws kO1 qO1 qO3 hO1 _) rfl rfl hO1 rfl hl.1 rfl (Nat.le_of_ble_eq_true rfl) ⟨by decide, by decide⟩ ⟨Nat.le_of_ble_eq_true rfl, Nat.le_of_ble_eq_true rfl⟩ d_12_10_3) (fun v3 u2 H locs hp1 V => ?_)
  obtain ⟨rfl, rfl⟩ := hp1
  refine q_gov V (q_runV (As := [.int 0]) (rest := []) (d := 2) (mc := 0) (ms := 0) (ci := 9) C0 V rfl LV_Wri_27 (c_Wri_begin l D g ws kO0 kO2 qO0 qO2 qO3 qO4 qA5 hO0 hO2 _) rfl rfl hO0 rfl hl.1 rfl (Nat.le_of_ble_eq_true rfl) ⟨by decide, by decide⟩ ⟨Nat.le_of_ble_eq_true rfl, Nat.le_of_ble_eq_true rfl⟩ d_12_10_6) (fun u6 H locs hp5 V => ?_)
  obtain ⟨hg7, hO2⟩ := hp5
  replace hF := q_uc hF hg7 (q_sc (.head _) (fun _ h => absurd h List.not_mem_nil))
  refine lv_aload_n hx hb d_12_10_9 rfl (lv_at hl 0 rfl) ?_
  replace hO0 := (hg7 _ (q_nc n_O0_O2 List.not_mem_nil)).trans (hO0)
  refine q_get (ci := 9) (j := 2) (v := .ref qO4) C0 V i_Wri rfl rfl hO0 (by decide) w_331 rfl d_12_10_10 ?_
  refine lv_aload_n hx hb d_12_10_13 rfl (lv_at hl 0 rfl) ?_
  refine q_get (ci := 9) (j := 1) (v := .ref qO3) C0 V i_Wri rfl rfl hO0 (by decide) w_330 rfl d_12_10_14 ?_
  replace hO3 := (hg7 _ (q_nc n_O3_O2 List.not_mem_nil)).trans (hO3)
  refine q_get (ci := 4) (j := 0) (v := .ref qO6) C0 V i_Mil rfl rfl hO3 (by decide) w_110 rfl d_12_10_17 ?_
  refine lv_aload_n hx hb d_12_10_20 rfl (lv_at hl 1 rfl) ?_
  refine lv_lload_n hx hb d_12_10_21 rfl (lv_at hl 2 rfl) ?_
  replace hO1 := (hg7 _ (q_nc n_O1_O2 List.not_mem_nil)).trans (hO1)
  replace hO6 := (hg7 _ (q_nc n_O6_O2 List.not_mem_nil)).trans (hO6)
  replace hA17 := (hg7 _ (q_nc n_A17_O2 List.not_mem_nil)).trans (hA17)
  refine q_goi V (q_runV (As := [.long 0]) (rest := [.ref qO6, .ref qO4]) (d := 3) (mc := 0) (ms := 0) (ci := 6) C0 V rfl LV_Wri_192 (c_Flo_exactly_2 l D g u6 kO1 kO3 kO6 kA17 qO1 qO3 qO6 qO7 qO8 qO9 qO10 qO11 qO12 qO13 qO14 qO15 qA17 hO1 hO3 hO6 hA17 _) rfl rfl hO1 rfl hl.1 rfl (Nat.le_of_ble_eq_true rfl) ⟨by decide, by decide⟩ ⟨Nat.le_of_ble_eq_true rfl, Nat.le_of_ble_eq_true rfl⟩ d_12_10_22) (fun v10 u9 H locs hp8 V => ?_)
  obtain ⟨rfl, hg11, hO6, hA17⟩ := hp8
  replace hF := q_uc hF hg11 (q_sc (List.mem_of_getElem? (i := 3) rfl) (q_sc (List.mem_of_getElem? (i := 4) rfl) (fun _ h => absurd h List.not_mem_nil)))
  replace hO4 := (hg11 _ (q_nc n_O4_O6 (q_nc n_O4_A17 List.not_mem_nil))).trans ((hg7 _ (q_nc n_O4_O2 List.not_mem_nil)).trans (hO4))
  refine q_gov V (q_runV (As := [.ref qO6, .int 0]) (rest := []) (d := 2) (mc := 0) (ms := 0) (ci := 7) C0 V rfl LV_Wri_75 (c_Dig_fill l D g u9 kO4 kO6 qO4 qO6 qA16 qA17 hO4 hO6 _) rfl rfl hO4 rfl hl.1 rfl (Nat.le_of_ble_eq_true rfl) ⟨by decide, by decide⟩ ⟨Nat.le_of_ble_eq_true rfl, Nat.le_of_ble_eq_true rfl⟩ d_12_10_25) (fun u13 H locs hp12 V => ?_)
  obtain ⟨hg14, hO4⟩ := hp12
  replace hF := q_uc hF hg14 (q_sc (.tail _ (.head _)) (fun _ h => absurd h List.not_mem_nil))
  refine lv_aload_n hx hb d_12_10_28 rfl (lv_at hl 0 rfl) ?_
  replace hO0 := (hg14 _ (q_nc n_O0_O4 List.not_mem_nil)).trans ((hg11 _ (q_nc n_O0_O6 (q_nc n_O0_A17 List.not_mem_nil))).trans (hO0))
  refine q_get (ci := 9) (j := 2) (v := .ref qO4) C0 V i_Wri rfl rfl hO0 (by decide) w_331 rfl d_12_10_29 ?_
  refine lv_iload hx hb d_12_10_32 (lv_at hl 3 rfl) ?_
  refine lv_if_eq (tgt := 42) hx hb d_12_10_34 (by decide) (fun c15 => ?_) (fun c15 => ?_)
  ·
    refine lv_aload_n hx hb d_12_10_42 rfl (lv_at hl 0 rfl) ?_
    refine q_get (ci := 9) (j := 2) (v := .ref qO4) C0 V i_Wri rfl rfl hO0 (by decide) w_331 rfl d_12_10_43 ?_
    refine q_get (ci := 7) (j := 1) (v := .int 0) C0 V i_Dig rfl rfl hO4 (by decide) w_267 rfl d_12_10_46 ?_
    refine lv_iconst (v := 1) hx hb d_12_10_49 (by decide) ?_
    refine lv_iadd hx hb d_12_10_50 ?_
    refine q_ti (v := 1) (by decide) ?_
    refine lv_iload hx hb d_12_10_51 (lv_at hl 4 rfl) ?_
    refine lv_iadd hx hb d_12_10_53 ?_
    refine lv_iload hx hb d_12_10_54 (lv_at hl 5 rfl) ?_
    refine q_gov V (q_runV (As := [.int (1 + x2), .int x3]) (rest := []) (d := 1) (mc := 0) (ms := 0) (ci := 7) C0 V rfl LV_Wri_195 (c_Dig_round l D g u13 kO4 qO4 qA16 (1 + x2) x3 hO4 (q_Ile (x := 1) (y := (1 + x2.toInt)) (by decide) (q_addI (x := 1) (y := x2.toInt) (by decide) rfl (by have t1 : 1 ≤ x2.toInt := q_leI x2lo; have t2 : x2.toInt ≤ 800 := q_leI x2hi; omega) (by have t1 : 1 ≤ x2.toInt := q_leI x2lo; have t2 : x2.toInt ≤ 800 := q_leI x2hi; omega)) (by have t1 : 1 ≤ x2.toInt := q_leI x2lo; have t2 : x2.toInt ≤ 800 := q_leI x2hi; omega)) (q_Ile (x := (1 + x2.toInt)) (y := 1101) (q_addI (x := 1) (y := x2.toInt) (by decide) rfl (by have t1 : 1 ≤ x2.toInt := q_leI x2lo; have t2 : x2.toInt ≤ 800 := q_leI x2hi; omega) (by have t1 : 1 ≤ x2.toInt := q_leI x2lo; have t2 : x2.toInt ≤ 800 := q_leI x2hi; omega)) (by decide) (by have t1 : 1 ≤ x2.toInt := q_leI x2lo; have t2 : x2.toInt ≤ 800 := q_leI x2hi; omega)) x3lo x3hi _) rfl rfl hO4 rfl hl.1 rfl (Nat.le_of_ble_eq_true rfl) ⟨by decide, by decide⟩ ⟨Nat.le_of_ble_eq_true rfl, Nat.le_of_ble_eq_true rfl⟩ d_12_10_56) (fun u17 H locs hp16 V => ?_)
    obtain rfl := hp16
    refine lv_iload hx hb d_12_10_59 (lv_at hl 3 rfl) ?_
    refine q_ti (v := 0) c15 ?_
    refine lv_if_eq (tgt := 81) hx hb d_12_10_61 (by decide) (fun c19 => ?_) (fun c19 => absurd (by decide) c19)
    refine lv_aload_n hx hb d_12_10_81 rfl (lv_at hl 0 rfl) ?_
    refine q_get (ci := 9) (j := 2) (v := .ref qO4) C0 V i_Wri rfl rfl hO0 (by decide) w_331 rfl d_12_10_82 ?_
    refine lv_aload_n hx hb d_12_10_85 rfl (lv_at hl 0 rfl) ?_
    refine q_get (ci := 9) (j := 0) (v := .ref qO2) C0 V i_Wri rfl rfl hO0 (by decide) w_329 rfl d_12_10_86 ?_
    refine lv_iload hx hb d_12_10_89 (lv_at hl 4 rfl) ?_
    refine lv_iconst (v := 0) hx hb d_12_10_91 (by decide) ?_
    refine lv_iconst (v := 0) hx hb d_12_10_92 (by decide) ?_
    replace hO2 := (hg14 _ (q_nc n_O2_O4 List.not_mem_nil)).trans ((hg11 _ (q_nc n_O2_O6 (q_nc n_O2_A17 List.not_mem_nil))).trans (hO2))
    replace hA5 := (hg14 _ (q_nc n_A5_O4 List.not_mem_nil)).trans ((hg11 _ (q_nc n_A5_O6 (q_nc n_A5_A17 List.not_mem_nil))).trans ((hg7 _ (q_nc n_A5_O2 List.not_mem_nil)).trans (hA5)))
    refine q_gov V (q_runV (As := [.ref qO2, .int x2, .int 0, .int 0]) (rest := []) (d := 2) (mc := 0) (ms := 0) (ci := 7) C0 V rfl LV_Wri_90 (c_Dig_writePlain l D g u13 kO4 kO2 kA5 qO4 qO2 qA16 qA5 x2 hO4 hO2 hA5 (q_Ile (x := 0) (y := x2.toInt) (by decide) rfl (by have t1 : 1 ≤ x2.toInt := q_leI x2lo; have t2 : x2.toInt ≤ 800 := q_leI x2hi; omega)) (q_Ile (x := x2.toInt) (y := 1100) rfl (by decide) (by have t1 : 1 ≤ x2.toInt := q_leI x2lo; have t2 : x2.toInt ≤ 800 := q_leI x2hi; omega)) _) rfl rfl hO4 rfl hl.1 rfl (Nat.le_of_ble_eq_true rfl) ⟨by decide, by decide⟩ ⟨Nat.le_of_ble_eq_true rfl, Nat.le_of_ble_eq_true rfl⟩ d_12_10_93) (fun u21 H locs hp20 V => ?_)
    rcases hp20 with ⟨y26, y27, c22, f23, f24, f25, hg28, hO2, hA5⟩ | ⟨y33, y34, c29, f30, f31, f32, hg35, hO2, hA5⟩
    ·
      replace hF := q_uc hF hg28 (q_sc (.head _) (q_sc (.tail _ (.tail _ (.head _))) (fun _ h => absurd h List.not_mem_nil)))
      replace hO4 := (hg28 _ (q_nc n_O4_O2 (q_nc n_O4_A5 List.not_mem_nil))).trans (hO4)
      replace hO6 := (hg28 _ (q_nc n_O6_O2 (q_nc n_O6_A5 List.not_mem_nil))).trans ((hg14 _ (q_nc n_O6_O4 List.not_mem_nil)).trans (hO6))
      replace hA17 := (hg28 _ (q_nc n_A17_O2 (q_nc n_A17_A5 List.not_mem_nil))).trans ((hg14 _ (q_nc n_A17_O4 List.not_mem_nil)).trans (hA17))
      exact q_retv C0 V (Or.inl ⟨y26, y27, c15, c22, f23, f24, f25, hF, hO2, hO4, hA5, hO6, hA17⟩) d_12_10_96
    ·
      exact absurd (q_Ilt (x := 0) (y := x2.toInt) (by decide) rfl (by have t1 : 1 ≤ x2.toInt := q_leI x2lo; have t2 : x2.toInt ≤ 800 := q_leI x2hi; omega)) c29
  ·
    refine lv_iload hx hb d_12_10_37 (lv_at hl 4 rfl) ?_
    refine lv_goto (tgt := 54) hx hb d_12_10_39 (by decide) ?_
    refine lv_iload hx hb d_12_10_54 (lv_at hl 5 rfl) ?_
    refine q_gov V (q_runV (As := [.int x2, .int x3]) (rest := []) (d := 1) (mc := 0) (ms := 0) (ci := 7) C0 V rfl LV_Wri_195 (c_Dig_round l D g u13 kO4 qO4 qA16 x2 x3 hO4 x2lo (q_Ile (x := x2.toInt) (y := 1101) rfl (by decide) (by have t1 : 1 ≤ x2.toInt := q_leI x2lo; have t2 : x2.toInt ≤ 800 := q_leI x2hi; omega)) x3lo x3hi _) rfl rfl hO4 rfl hl.1 rfl (Nat.le_of_ble_eq_true rfl) ⟨by decide, by decide⟩ ⟨Nat.le_of_ble_eq_true rfl, Nat.le_of_ble_eq_true rfl⟩ d_12_10_56) (fun u37 H locs hp36 V => ?_)
    obtain rfl := hp36
    refine lv_iload hx hb d_12_10_59 (lv_at hl 3 rfl) ?_
    refine lv_if_eq (tgt := 81) hx hb d_12_10_61 (by decide) (fun c39 => absurd c39 c15) (fun c39 => ?_)
    refine lv_aload_n hx hb d_12_10_64 rfl (lv_at hl 0 rfl) ?_
    refine q_get (ci := 9) (j := 2) (v := .ref qO4) C0 V i_Wri rfl rfl hO0 (by decide) w_331 rfl d_12_10_65 ?_
    refine lv_aload_n hx hb d_12_10_68 rfl (lv_at hl 0 rfl) ?_
    refine q_get (ci := 9) (j := 0) (v := .ref qO2) C0 V i_Wri rfl rfl hO0 (by decide) w_329 rfl d_12_10_69 ?_
    refine lv_iload hx hb d_12_10_72 (lv_at hl 4 rfl) ?_
    refine lv_iconst (v := 0) hx hb d_12_10_74 (by decide) ?_
    replace hO2 := (hg14 _ (q_nc n_O2_O4 List.not_mem_nil)).trans ((hg11 _ (q_nc n_O2_O6 (q_nc n_O2_A17 List.not_mem_nil))).trans (hO2))
    replace hA5 := (hg14 _ (q_nc n_A5_O4 List.not_mem_nil)).trans ((hg11 _ (q_nc n_A5_O6 (q_nc n_A5_A17 List.not_mem_nil))).trans ((hg7 _ (q_nc n_A5_O2 List.not_mem_nil)).trans (hA5)))
    refine q_gov V (q_runV (As := [.ref qO2, .int x2, .int 0]) (rest := []) (d := 3) (mc := 0) (ms := 0) (ci := 7) C0 V rfl LV_Wri_198 (c_Dig_writeScience l D g u13 kO4 kO2 kA5 qO4 qO2 qA16 qA5 x2 hO4 hO2 hA5 x2lo x2hi _) rfl rfl hO4 rfl hl.1 rfl (Nat.le_of_ble_eq_true rfl) ⟨by decide, by decide⟩ ⟨Nat.le_of_ble_eq_true rfl, Nat.le_of_ble_eq_true rfl⟩ d_12_10_75) (fun u41 H locs hp40 V => ?_)
    rcases hp40 with ⟨y46, y47, c42, f43, f44, f45, hg48, hO2, hA5⟩ | ⟨y53, y54, c49, f50, f51, f52, hg55, hO2, hA5⟩
    ·
      replace hF := q_uc hF hg48 (q_sc (.head _) (q_sc (.tail _ (.tail _ (.head _))) (fun _ h => absurd h List.not_mem_nil)))
      refine lv_goto (tgt := 96) hx hb d_12_10_78 (by decide) ?_
      replace hO4 := (hg48 _ (q_nc n_O4_O2 (q_nc n_O4_A5 List.not_mem_nil))).trans (hO4)
      replace hO6 := (hg48 _ (q_nc n_O6_O2 (q_nc n_O6_A5 List.not_mem_nil))).trans ((hg14 _ (q_nc n_O6_O4 List.not_mem_nil)).trans (hO6))
      replace hA17 := (hg48 _ (q_nc n_A17_O2 (q_nc n_A17_A5 List.not_mem_nil))).trans ((hg14 _ (q_nc n_A17_O4 List.not_mem_nil)).trans (hA17))
      exact q_retv C0 V (Or.inr (Or.inl ⟨y46, y47, c15, c42, f43, f44, f45, hF, hO2, hO4, hA5, hO6, hA17⟩)) d_12_10_96
    ·
      replace hF := q_uc hF hg55 (q_sc (.head _) (q_sc (.tail _ (.tail _ (.head _))) (fun _ h => absurd h List.not_mem_nil)))
      refine lv_goto (tgt := 96) hx hb d_12_10_78 (by decide) ?_
      replace hO4 := (hg55 _ (q_nc n_O4_O2 (q_nc n_O4_A5 List.not_mem_nil))).trans (hO4)
      replace hO6 := (hg55 _ (q_nc n_O6_O2 (q_nc n_O6_A5 List.not_mem_nil))).trans ((hg14 _ (q_nc n_O6_O4 List.not_mem_nil)).trans (hO6))
      replace hA17 := (hg55 _ (q_nc n_A17_O2 (q_nc n_A17_A5 List.not_mem_nil))).trans ((hg14 _ (q_nc n_A17_O4 List.not_mem_nil)).trans (hA17))
      exact q_retv C0 V (Or.inr (Or.inr (⟨y53, y54, c15, c49, f50, f51, f52, hF, hO2, hO4, hA5, hO6, hA17⟩))) d_12_10_96
set_option maxRecDepth 100000 in
set_option maxHeartbeats 4000000 in
theorem c_Wri_exactText_3 (l : Launch) (D : va_G) (g : Nat → ClassId) (ws : va_W) (kO0 kO1 kO2 kO3 kO4 kA5 kO6 kA17 qO0 qO1 qO2 qO3 qO4 qA5 qO6 qO7 qO8 qO9 qO10 qO11 qO12 qO13 qO14 qO15 qA16 qA17 : Nat) (x1 : Int32) (x2 : Int32) (hO0 : ws[kO0]? = (some (qO0, .inr (9, [.ref qO2, .ref qO3, .ref qO4])) : Option (Nat × va_E))) (hO1 : ws[kO1]? = (some (qO1, .inr (6, [.int 23, .int 150, .int 255, .long 0, .int 0, .ref qO3, .int 0])) : Option (Nat × va_E))) (hO2 : ws[kO2]? = (some (qO2, .inr (1, [.ref qA5, .int 11008, .int 0])) : Option (Nat × va_E))) (hO3 : ws[kO3]? = (some (qO3, .inr (4, [.ref qO6, .ref qO7, .ref qO8, .ref qO9, .ref qO10, .ref qO11, .ref qO12, .ref qO13, .ref qO14, .ref qO15])) : Option (Nat × va_E))) (hO4 : ws[kO4]? = (some (qO4, .inr (7, [.int 0, .int 0, .ref qA16])) : Option (Nat × va_E))) (hA5 : ws[kA5]? = (some (qA5, .inl (g 1, 1376, .inr (.inl (fun _ => 0)))) : Option (Nat × va_E))) (hO6 : ws[kO6]? = (some (qO6, .inr (2, [.ref qA17, .int 0, .int 0])) : Option (Nat × va_E))) (hA17 : ws[kA17]? = (some (qA17, .inl (g 0, 220, .inl (fun _ => 0))) : Option (Nat × va_E))) (n_A17_A5 : kA17 ≠ kA5) (x1lo : 0 ≤ x1) (x1hi : x1 ≤ 1100) (x2lo : 0 ≤ x2) (x2hi : x2 ≤ 3) : q_mV l y_Wri_exactText prog_12_method_10_code 7 4 0 0 D g [.ref qO0, .ref qO1, .long 0, .int 0, .int x1, .int x2] ws (fun u => (∃ (ex0 : Int32) (ex1 : Nat → Int64), 0 < x1 ∧ ((x1.toInt < 1 ∧ ex0.toInt = 2) ∨ (1 ≤ x1.toInt ∧ ex0.toInt = 2 + x1.toInt - 0)) ∧ 2 ≤ ex0 ∧ ex0 ≤ 1102 ∧ q_un ws u [kO2, kO4, kA5, kO6, kA17] ∧ u[kO2]? = (some (qO2, .inr (1, [.ref qA5, .int 11008, .int ex0])) : Option (Nat × va_E)) ∧ u[kO4]? = (some (qO4, .inr (7, [.int 0, .int 0, .ref qA16])) : Option (Nat × va_E)) ∧ u[kA5]? = (some (qA5, .inl (g 1, 1376, .inr (.inl ex1))) : Option (Nat × va_E)) ∧ u[kO6]? = (some (qO6, .inr (2, [.ref qA17, .int 0, .int 0])) : Option (Nat × va_E)) ∧ u[kA17]? = (some (qA17, .inl (g 0, 220, .inl (fun _ => 0))) : Option (Nat × va_E))) ∨ (∃ (ex0 : Int32) (ex1 : Nat → Int64), ¬ 0 < x1 ∧ ((x1.toInt < 1 ∧ ex0.toInt = 1) ∨ (1 ≤ x1.toInt ∧ ex0.toInt = 1 + x1.toInt - 0)) ∧ 1 ≤ ex0 ∧ ex0 ≤ 1 ∧ q_un ws u [kO2, kO4, kA5, kO6, kA17] ∧ u[kO2]? = (some (qO2, .inr (1, [.ref qA5, .int 11008, .int ex0])) : Option (Nat × va_E)) ∧ u[kO4]? = (some (qO4, .inr (7, [.int 0, .int 0, .ref qA16])) : Option (Nat × va_E)) ∧ u[kA5]? = (some (qA5, .inl (g 1, 1376, .inr (.inl ex1))) : Option (Nat × va_E)) ∧ u[kO6]? = (some (qO6, .inr (2, [.ref qA17, .int 0, .int 0])) : Option (Nat × va_E)) ∧ u[kA17]? = (some (qA17, .inl (g 0, 220, .inl (fun _ => 0))) : Option (Nat × va_E)))) := by
  intro sz
  refine q_into (by decide) (Nat.le_of_ble_eq_true rfl) ?_
  intro p e s m below meth c ls hsz C0 V hl
  have hx := C0.1
  have hb := C0.2.1
  have hl : lv_has ls 7 [(0, .ref qO0), (1, .ref qO1), (2, .long 0), (4, .int 0), (5, .int x1), (6, .int x2)] := hl
  have n_A17_O2 := q_df hA17 hO2
  have n_A17_O4 := q_df hA17 hO4
  have n_A5_A17 := Ne.symm n_A17_A5
  have n_A5_O2 := q_df hA5 hO2
  have n_A5_O4 := q_df hA5 hO4
  have n_A5_O6 := q_df hA5 hO6
  have n_O0_A17 := Ne.symm (q_df hA17 hO0)
  have n_O0_A5 := Ne.symm (q_df hA5 hO0)
  have n_O0_O2 := q_dc hO0 hO2 (q_pd 9 1 rfl)
  have n_O0_O4 := q_dc hO0 hO4 (q_pd 9 7 rfl)
  have n_O0_O6 := q_dc hO0 hO6 (q_pd 9 2 rfl)
  have n_O1_A17 := Ne.symm (q_df hA17 hO1)
  have n_O1_A5 := Ne.symm (q_df hA5 hO1)
  have n_O1_O2 := q_dc hO1 hO2 (q_pd 6 1 rfl)
  have n_O1_O4 := q_dc hO1 hO4 (q_pd 6 7 rfl)
  have n_O1_O6 := q_dc hO1 hO6 (q_pd 6 2 rfl)
  have n_O2_A17 := Ne.symm (q_df hA17 hO2)
  have n_O2_O4 := q_dc hO2 hO4 (q_pd 1 7 rfl)
  have n_O2_O6 := q_dc hO2 hO6 (q_pd 1 2 rfl)
  have n_O3_A17 := Ne.symm (q_df hA17 hO3)
  have n_O3_A5 := Ne.symm (q_df hA5 hO3)
  have n_O3_O2 := q_dc hO3 hO2 (q_pd 4 1 rfl)
  have n_O3_O4 := q_dc hO3 hO4 (q_pd 4 7 rfl)
  have n_O3_O6 := q_dc hO3 hO6 (q_pd 4 2 rfl)
  have n_O4_A17 := Ne.symm (q_df hA17 hO4)
  have n_O4_A5 := Ne.symm (q_df hA5 hO4)
  have n_O4_O2 := q_dc hO4 hO2 (q_pd 7 1 rfl)
  have n_O4_O6 := q_dc hO4 hO6 (q_pd 7 2 rfl)
  have n_O6_A5 := Ne.symm (q_df hA5 hO6)
  have n_O6_O2 := q_dc hO6 hO2 (q_pd 2 1 rfl)
  have n_O6_O4 := q_dc hO6 hO4 (q_pd 2 7 rfl)
  have hF : q_un ws ws [kO2, kO4, kA5, kO6, kA17] := q_u0
  refine lv_aload_n hx hb d_12_10_0 rfl (lv_at hl 0 rfl) ?_
  refine lv_aload_n hx hb d_12_10_1 rfl (lv_at hl 1 rfl) ?_
  refine lv_lload_n hx hb d_12_10_2 rfl (lv_at hl 2 rfl) ?_
  refine q_goi V (q_runV (As := [.long 0]) (rest := [.ref qO0]) (d := 2) (mc := 0) (ms := 0) (ci := 6) C0 V rfl LV_Wri_118 (c_Flo_isNegative l D g ws kO1 qO1 qO3 hO1 _) rfl rfl hO1 rfl hl.1 rfl (Nat.le_of_ble_eq_true rfl) ⟨by decide, by decide⟩ ⟨Nat.le_of_ble_eq_true rfl, Nat.le_of_ble_eq_true rfl⟩ d_12_10_3) (fun v3 u2 H locs hp1 V => ?_)
  obtain ⟨rfl, rfl⟩ := hp1
  refine q_gov V (q_runV (As := [.int 0]) (rest := []) (d := 2) (mc := 0) (ms := 0) (ci := 9) C0 V rfl LV_Wri_27 (c_Wri_begin l D g ws kO0 kO2 qO0 qO2 qO3 qO4 qA5 hO0 hO2 _) rfl rfl hO0 rfl hl.1 rfl (Nat.le_of_ble_eq_true rfl) ⟨by decide, by decide⟩ ⟨Nat.le_of_ble_eq_true rfl, Nat.le_of_ble_eq_true rfl⟩ d_12_10_6) (fun u6 H locs hp5 V => ?_)
  obtain ⟨hg7, hO2⟩ := hp5
  replace hF := q_uc hF hg7 (q_sc (.head _) (fun _ h => absurd h List.not_mem_nil))
  refine lv_aload_n hx hb d_12_10_9 rfl (lv_at hl 0 rfl) ?_
  replace hO0 := (hg7 _ (q_nc n_O0_O2 List.not_mem_nil)).trans (hO0)
  refine q_get (ci := 9) (j := 2) (v := .ref qO4) C0 V i_Wri rfl rfl hO0 (by decide) w_331 rfl d_12_10_10 ?_
  refine lv_aload_n hx hb d_12_10_13 rfl (lv_at hl 0 rfl) ?_
  refine q_get (ci := 9) (j := 1) (v := .ref qO3) C0 V i_Wri rfl rfl hO0 (by decide) w_330 rfl d_12_10_14 ?_
  replace hO3 := (hg7 _ (q_nc n_O3_O2 List.not_mem_nil)).trans (hO3)
  refine q_get (ci := 4) (j := 0) (v := .ref qO6) C0 V i_Mil rfl rfl hO3 (by decide) w_110 rfl d_12_10_17 ?_
  refine lv_aload_n hx hb d_12_10_20 rfl (lv_at hl 1 rfl) ?_
  refine lv_lload_n hx hb d_12_10_21 rfl (lv_at hl 2 rfl) ?_
  replace hO1 := (hg7 _ (q_nc n_O1_O2 List.not_mem_nil)).trans (hO1)
  replace hO6 := (hg7 _ (q_nc n_O6_O2 List.not_mem_nil)).trans (hO6)
  replace hA17 := (hg7 _ (q_nc n_A17_O2 List.not_mem_nil)).trans (hA17)
  refine q_goi V (q_runV (As := [.long 0]) (rest := [.ref qO6, .ref qO4]) (d := 3) (mc := 0) (ms := 0) (ci := 6) C0 V rfl LV_Wri_192 (c_Flo_exactly l D g u6 kO1 kO3 kO6 kA17 qO1 qO3 qO6 qO7 qO8 qO9 qO10 qO11 qO12 qO13 qO14 qO15 qA17 hO1 hO3 hO6 hA17 _) rfl rfl hO1 rfl hl.1 rfl (Nat.le_of_ble_eq_true rfl) ⟨by decide, by decide⟩ ⟨Nat.le_of_ble_eq_true rfl, Nat.le_of_ble_eq_true rfl⟩ d_12_10_22) (fun v10 u9 H locs hp8 V => ?_)
  obtain ⟨rfl, hg11, hO6, hA17⟩ := hp8
  replace hF := q_uc hF hg11 (q_sc (List.mem_of_getElem? (i := 3) rfl) (q_sc (List.mem_of_getElem? (i := 4) rfl) (fun _ h => absurd h List.not_mem_nil)))
  replace hO4 := (hg11 _ (q_nc n_O4_O6 (q_nc n_O4_A17 List.not_mem_nil))).trans ((hg7 _ (q_nc n_O4_O2 List.not_mem_nil)).trans (hO4))
  refine q_gov V (q_runV (As := [.ref qO6, .int 0]) (rest := []) (d := 2) (mc := 0) (ms := 0) (ci := 7) C0 V rfl LV_Wri_75 (c_Dig_fill l D g u9 kO4 kO6 qO4 qO6 qA16 qA17 hO4 hO6 _) rfl rfl hO4 rfl hl.1 rfl (Nat.le_of_ble_eq_true rfl) ⟨by decide, by decide⟩ ⟨Nat.le_of_ble_eq_true rfl, Nat.le_of_ble_eq_true rfl⟩ d_12_10_25) (fun u13 H locs hp12 V => ?_)
  obtain ⟨hg14, hO4⟩ := hp12
  replace hF := q_uc hF hg14 (q_sc (.tail _ (.head _)) (fun _ h => absurd h List.not_mem_nil))
  refine lv_aload_n hx hb d_12_10_28 rfl (lv_at hl 0 rfl) ?_
  replace hO0 := (hg14 _ (q_nc n_O0_O4 List.not_mem_nil)).trans ((hg11 _ (q_nc n_O0_O6 (q_nc n_O0_A17 List.not_mem_nil))).trans (hO0))
  refine q_get (ci := 9) (j := 2) (v := .ref qO4) C0 V i_Wri rfl rfl hO0 (by decide) w_331 rfl d_12_10_29 ?_
  refine lv_iload hx hb d_12_10_32 (lv_at hl 3 rfl) ?_
  refine lv_if_eq (tgt := 42) hx hb d_12_10_34 (by decide) (fun c15 => ?_) (fun c15 => absurd (by decide) c15)
  refine lv_aload_n hx hb d_12_10_42 rfl (lv_at hl 0 rfl) ?_
  refine q_get (ci := 9) (j := 2) (v := .ref qO4) C0 V i_Wri rfl rfl hO0 (by decide) w_331 rfl d_12_10_43 ?_
  refine q_get (ci := 7) (j := 1) (v := .int 0) C0 V i_Dig rfl rfl hO4 (by decide) w_267 rfl d_12_10_46 ?_
  refine lv_iconst (v := 1) hx hb d_12_10_49 (by decide) ?_
  refine lv_iadd hx hb d_12_10_50 ?_
  refine q_ti (v := 1) (by decide) ?_
  refine lv_iload hx hb d_12_10_51 (lv_at hl 4 rfl) ?_
  refine lv_iadd hx hb d_12_10_53 ?_
  refine lv_iload hx hb d_12_10_54 (lv_at hl 5 rfl) ?_
  refine q_gov V (q_runV (As := [.int (1 + x1), .int x2]) (rest := []) (d := 1) (mc := 0) (ms := 0) (ci := 7) C0 V rfl LV_Wri_195 (c_Dig_round l D g u13 kO4 qO4 qA16 (1 + x1) x2 hO4 (q_Ile (x := 1) (y := (1 + x1.toInt)) (by decide) (q_addI (x := 1) (y := x1.toInt) (by decide) rfl (by have t1 : 0 ≤ x1.toInt := q_leI x1lo; have t2 : x1.toInt ≤ 1100 := q_leI x1hi; omega) (by have t1 : 0 ≤ x1.toInt := q_leI x1lo; have t2 : x1.toInt ≤ 1100 := q_leI x1hi; omega)) (by have t1 : 0 ≤ x1.toInt := q_leI x1lo; have t2 : x1.toInt ≤ 1100 := q_leI x1hi; omega)) (q_Ile (x := (1 + x1.toInt)) (y := 1101) (q_addI (x := 1) (y := x1.toInt) (by decide) rfl (by have t1 : 0 ≤ x1.toInt := q_leI x1lo; have t2 : x1.toInt ≤ 1100 := q_leI x1hi; omega) (by have t1 : 0 ≤ x1.toInt := q_leI x1lo; have t2 : x1.toInt ≤ 1100 := q_leI x1hi; omega)) (by decide) (by have t1 : 0 ≤ x1.toInt := q_leI x1lo; have t2 : x1.toInt ≤ 1100 := q_leI x1hi; omega)) x2lo x2hi _) rfl rfl hO4 rfl hl.1 rfl (Nat.le_of_ble_eq_true rfl) ⟨by decide, by decide⟩ ⟨Nat.le_of_ble_eq_true rfl, Nat.le_of_ble_eq_true rfl⟩ d_12_10_56) (fun u17 H locs hp16 V => ?_)
  obtain rfl := hp16
  refine lv_iload hx hb d_12_10_59 (lv_at hl 3 rfl) ?_
  refine lv_if_eq (tgt := 81) hx hb d_12_10_61 (by decide) (fun c19 => ?_) (fun c19 => absurd (by decide) c19)
  refine lv_aload_n hx hb d_12_10_81 rfl (lv_at hl 0 rfl) ?_
  refine q_get (ci := 9) (j := 2) (v := .ref qO4) C0 V i_Wri rfl rfl hO0 (by decide) w_331 rfl d_12_10_82 ?_
  refine lv_aload_n hx hb d_12_10_85 rfl (lv_at hl 0 rfl) ?_
  refine q_get (ci := 9) (j := 0) (v := .ref qO2) C0 V i_Wri rfl rfl hO0 (by decide) w_329 rfl d_12_10_86 ?_
  refine lv_iload hx hb d_12_10_89 (lv_at hl 4 rfl) ?_
  refine lv_iconst (v := 0) hx hb d_12_10_91 (by decide) ?_
  refine lv_iconst (v := 0) hx hb d_12_10_92 (by decide) ?_
  replace hO2 := (hg14 _ (q_nc n_O2_O4 List.not_mem_nil)).trans ((hg11 _ (q_nc n_O2_O6 (q_nc n_O2_A17 List.not_mem_nil))).trans (hO2))
  replace hA5 := (hg14 _ (q_nc n_A5_O4 List.not_mem_nil)).trans ((hg11 _ (q_nc n_A5_O6 (q_nc n_A5_A17 List.not_mem_nil))).trans ((hg7 _ (q_nc n_A5_O2 List.not_mem_nil)).trans (hA5)))
  refine q_gov V (q_runV (As := [.ref qO2, .int x1, .int 0, .int 0]) (rest := []) (d := 2) (mc := 0) (ms := 0) (ci := 7) C0 V rfl LV_Wri_90 (c_Dig_writePlain l D g u13 kO4 kO2 kA5 qO4 qO2 qA16 qA5 x1 hO4 hO2 hA5 x1lo x1hi _) rfl rfl hO4 rfl hl.1 rfl (Nat.le_of_ble_eq_true rfl) ⟨by decide, by decide⟩ ⟨Nat.le_of_ble_eq_true rfl, Nat.le_of_ble_eq_true rfl⟩ d_12_10_93) (fun u21 H locs hp20 V => ?_)
  rcases hp20 with ⟨y26, y27, c22, f23, f24, f25, hg28, hO2, hA5⟩ | ⟨y33, y34, c29, f30, f31, f32, hg35, hO2, hA5⟩
  ·
    replace hF := q_uc hF hg28 (q_sc (.head _) (q_sc (.tail _ (.tail _ (.head _))) (fun _ h => absurd h List.not_mem_nil)))
    replace hO4 := (hg28 _ (q_nc n_O4_O2 (q_nc n_O4_A5 List.not_mem_nil))).trans (hO4)
    replace hO6 := (hg28 _ (q_nc n_O6_O2 (q_nc n_O6_A5 List.not_mem_nil))).trans ((hg14 _ (q_nc n_O6_O4 List.not_mem_nil)).trans (hO6))
    replace hA17 := (hg28 _ (q_nc n_A17_O2 (q_nc n_A17_A5 List.not_mem_nil))).trans ((hg14 _ (q_nc n_A17_O4 List.not_mem_nil)).trans (hA17))
    exact q_retv C0 V (Or.inl ⟨y26, y27, c22, f23, f24, f25, hF, hO2, hO4, hA5, hO6, hA17⟩) d_12_10_96
  ·
    replace hF := q_uc hF hg35 (q_sc (.head _) (q_sc (.tail _ (.tail _ (.head _))) (fun _ h => absurd h List.not_mem_nil)))
    replace hO4 := (hg35 _ (q_nc n_O4_O2 (q_nc n_O4_A5 List.not_mem_nil))).trans (hO4)
    replace hO6 := (hg35 _ (q_nc n_O6_O2 (q_nc n_O6_A5 List.not_mem_nil))).trans ((hg14 _ (q_nc n_O6_O4 List.not_mem_nil)).trans (hO6))
    replace hA17 := (hg35 _ (q_nc n_A17_O2 (q_nc n_A17_A5 List.not_mem_nil))).trans ((hg14 _ (q_nc n_A17_O4 List.not_mem_nil)).trans (hA17))
    exact q_retv C0 V (Or.inr (⟨y33, y34, c29, f30, f31, f32, hF, hO2, hO4, hA5, hO6, hA17⟩)) d_12_10_96
set_option maxRecDepth 100000 in
set_option maxHeartbeats 4000000 in
theorem c_Wri_exactText_4 (l : Launch) (D : va_G) (g : Nat → ClassId) (ws : va_W) (kO0 kO1 kO2 kO3 kO4 kA5 kO6 kA17 qO0 qO1 qO2 qO3 qO4 qA5 qO6 qO7 qO8 qO9 qO10 qO11 qO12 qO13 qO14 qO15 qA16 qA17 : Nat) (x1 : Int32) (x2 : Int32) (x3 : Int32) (hO0 : ws[kO0]? = (some (qO0, .inr (9, [.ref qO2, .ref qO3, .ref qO4])) : Option (Nat × va_E))) (hO1 : ws[kO1]? = (some (qO1, .inr (6, [.int 23, .int 150, .int 255, .long 0, .int 0, .ref qO3, .int 0])) : Option (Nat × va_E))) (hO2 : ws[kO2]? = (some (qO2, .inr (1, [.ref qA5, .int 11008, .int 0])) : Option (Nat × va_E))) (hO3 : ws[kO3]? = (some (qO3, .inr (4, [.ref qO6, .ref qO7, .ref qO8, .ref qO9, .ref qO10, .ref qO11, .ref qO12, .ref qO13, .ref qO14, .ref qO15])) : Option (Nat × va_E))) (hO4 : ws[kO4]? = (some (qO4, .inr (7, [.int 0, .int 0, .ref qA16])) : Option (Nat × va_E))) (hA5 : ws[kA5]? = (some (qA5, .inl (g 1, 1376, .inr (.inl (fun _ => 0)))) : Option (Nat × va_E))) (hO6 : ws[kO6]? = (some (qO6, .inr (2, [.ref qA17, .int 0, .int 0])) : Option (Nat × va_E))) (hA17 : ws[kA17]? = (some (qA17, .inl (g 0, 220, .inl (fun _ => 0))) : Option (Nat × va_E))) (n_A17_A5 : kA17 ≠ kA5) (x2lo : 1 ≤ x2) (x2hi : x2 ≤ 800) (x3lo : 0 ≤ x3) (x3hi : x3 ≤ 3) : q_mV l y_Wri_exactText prog_12_method_10_code 7 4 0 0 D g [.ref qO0, .ref qO1, .long 0, .int x1, .int x2, .int x3] ws (fun u => (∃ (ex0 : Int32) (ex1 : Nat → Int64), x1 = 0 ∧ 0 < x2 ∧ ((x2.toInt < 1 ∧ ex0.toInt = 2) ∨ (1 ≤ x2.toInt ∧ ex0.toInt = 2 + x2.toInt - 0)) ∧ 2 ≤ ex0 ∧ ex0 ≤ 1102 ∧ q_un ws u [kO2, kO4, kA5, kO6, kA17] ∧ u[kO2]? = (some (qO2, .inr (1, [.ref qA5, .int 11008, .int ex0])) : Option (Nat × va_E)) ∧ u[kO4]? = (some (qO4, .inr (7, [.int 0, .int 0, .ref qA16])) : Option (Nat × va_E)) ∧ u[kA5]? = (some (qA5, .inl (g 1, 1376, .inr (.inl ex1))) : Option (Nat × va_E)) ∧ u[kO6]? = (some (qO6, .inr (2, [.ref qA17, .int 0, .int 0])) : Option (Nat × va_E)) ∧ u[kA17]? = (some (qA17, .inl (g 0, 220, .inl (fun _ => 0))) : Option (Nat × va_E))) ∨ (∃ (ex0 : Int32) (ex1 : Nat → Int64), ¬ x1 = 0 ∧ 1 < x2 ∧ ((x2.toInt < 2 ∧ ex0.toInt = 2) ∨ (2 ≤ x2.toInt ∧ ex0.toInt = 2 + x2.toInt - 1)) ∧ 2 ≤ ex0 ∧ ex0 ≤ 801 ∧ q_un ws u [kO2, kO4, kA5, kO6, kA17] ∧ u[kO2]? = (some (qO2, .inr (1, [.ref qA5, .int 11008, .int ((((ex0 + 1) + 1) + 1) + 1)])) : Option (Nat × va_E)) ∧ u[kO4]? = (some (qO4, .inr (7, [.int 0, .int 0, .ref qA16])) : Option (Nat × va_E)) ∧ u[kA5]? = (some (qA5, .inl (g 1, 1376, .inr (.inl ex1))) : Option (Nat × va_E)) ∧ u[kO6]? = (some (qO6, .inr (2, [.ref qA17, .int 0, .int 0])) : Option (Nat × va_E)) ∧ u[kA17]? = (some (qA17, .inl (g 0, 220, .inl (fun _ => 0))) : Option (Nat × va_E))) ∨ (∃ (ex0 : Int32) (ex1 : Nat → Int64), ¬ x1 = 0 ∧ ¬ 1 < x2 ∧ ((x2.toInt < 2 ∧ ex0.toInt = 1) ∨ (2 ≤ x2.toInt ∧ ex0.toInt = 1 + x2.toInt - 1)) ∧ 1 ≤ ex0 ∧ ex0 ≤ 1 ∧ q_un ws u [kO2, kO4, kA5, kO6, kA17] ∧ u[kO2]? = (some (qO2, .inr (1, [.ref qA5, .int 11008, .int ((((ex0 + 1) + 1) + 1) + 1)])) : Option (Nat × va_E)) ∧ u[kO4]? = (some (qO4, .inr (7, [.int 0, .int 0, .ref qA16])) : Option (Nat × va_E)) ∧ u[kA5]? = (some (qA5, .inl (g 1, 1376, .inr (.inl ex1))) : Option (Nat × va_E)) ∧ u[kO6]? = (some (qO6, .inr (2, [.ref qA17, .int 0, .int 0])) : Option (Nat × va_E)) ∧ u[kA17]? = (some (qA17, .inl (g 0, 220, .inl (fun _ => 0))) : Option (Nat × va_E)))) := by
  intro sz
  refine q_into (by decide) (Nat.le_of_ble_eq_true rfl) ?_
  intro p e s m below meth c ls hsz C0 V hl
  have hx := C0.1
  have hb := C0.2.1
  have hl : lv_has ls 7 [(0, .ref qO0), (1, .ref qO1), (2, .long 0), (4, .int x1), (5, .int x2), (6, .int x3)] := hl
  have n_A17_O2 := q_df hA17 hO2
  have n_A17_O4 := q_df hA17 hO4
  have n_A5_A17 := Ne.symm n_A17_A5
  have n_A5_O2 := q_df hA5 hO2
  have n_A5_O4 := q_df hA5 hO4
  have n_A5_O6 := q_df hA5 hO6
  have n_O0_A17 := Ne.symm (q_df hA17 hO0)
  have n_O0_A5 := Ne.symm (q_df hA5 hO0)
  have n_O0_O2 := q_dc hO0 hO2 (q_pd 9 1 rfl)
  have n_O0_O4 := q_dc hO0 hO4 (q_pd 9 7 rfl)
  have n_O0_O6 := q_dc hO0 hO6 (q_pd 9 2 rfl)
  have n_O1_A17 := Ne.symm (q_df hA17 hO1)
  have n_O1_A5 := Ne.symm (q_df hA5 hO1)
  have n_O1_O2 := q_dc hO1 hO2 (q_pd 6 1 rfl)
  have n_O1_O4 := q_dc hO1 hO4 (q_pd 6 7 rfl)
  have n_O1_O6 := q_dc hO1 hO6 (q_pd 6 2 rfl)
  have n_O2_A17 := Ne.symm (q_df hA17 hO2)
  have n_O2_O4 := q_dc hO2 hO4 (q_pd 1 7 rfl)
  have n_O2_O6 := q_dc hO2 hO6 (q_pd 1 2 rfl)
  have n_O3_A17 := Ne.symm (q_df hA17 hO3)
  have n_O3_A5 := Ne.symm (q_df hA5 hO3)
  have n_O3_O2 := q_dc hO3 hO2 (q_pd 4 1 rfl)
  have n_O3_O4 := q_dc hO3 hO4 (q_pd 4 7 rfl)
  have n_O3_O6 := q_dc hO3 hO6 (q_pd 4 2 rfl)
  have n_O4_A17 := Ne.symm (q_df hA17 hO4)
  have n_O4_A5 := Ne.symm (q_df hA5 hO4)
  have n_O4_O2 := q_dc hO4 hO2 (q_pd 7 1 rfl)
  have n_O4_O6 := q_dc hO4 hO6 (q_pd 7 2 rfl)
  have n_O6_A5 := Ne.symm (q_df hA5 hO6)
  have n_O6_O2 := q_dc hO6 hO2 (q_pd 2 1 rfl)
  have n_O6_O4 := q_dc hO6 hO4 (q_pd 2 7 rfl)
  have hF : q_un ws ws [kO2, kO4, kA5, kO6, kA17] := q_u0
  refine lv_aload_n hx hb d_12_10_0 rfl (lv_at hl 0 rfl) ?_
  refine lv_aload_n hx hb d_12_10_1 rfl (lv_at hl 1 rfl) ?_
  refine lv_lload_n hx hb d_12_10_2 rfl (lv_at hl 2 rfl) ?_
  refine q_goi V (q_runV (As := [.long 0]) (rest := [.ref qO0]) (d := 2) (mc := 0) (ms := 0) (ci := 6) C0 V rfl LV_Wri_118 (c_Flo_isNegative l D g ws kO1 qO1 qO3 hO1 _) rfl rfl hO1 rfl hl.1 rfl (Nat.le_of_ble_eq_true rfl) ⟨by decide, by decide⟩ ⟨Nat.le_of_ble_eq_true rfl, Nat.le_of_ble_eq_true rfl⟩ d_12_10_3) (fun v3 u2 H locs hp1 V => ?_)
  obtain ⟨rfl, rfl⟩ := hp1
  refine q_gov V (q_runV (As := [.int 0]) (rest := []) (d := 2) (mc := 0) (ms := 0) (ci := 9) C0 V rfl LV_Wri_27 (c_Wri_begin l D g ws kO0 kO2 qO0 qO2 qO3 qO4 qA5 hO0 hO2 _) rfl rfl hO0 rfl hl.1 rfl (Nat.le_of_ble_eq_true rfl) ⟨by decide, by decide⟩ ⟨Nat.le_of_ble_eq_true rfl, Nat.le_of_ble_eq_true rfl⟩ d_12_10_6) (fun u6 H locs hp5 V => ?_)
  obtain ⟨hg7, hO2⟩ := hp5
  replace hF := q_uc hF hg7 (q_sc (.head _) (fun _ h => absurd h List.not_mem_nil))
  refine lv_aload_n hx hb d_12_10_9 rfl (lv_at hl 0 rfl) ?_
  replace hO0 := (hg7 _ (q_nc n_O0_O2 List.not_mem_nil)).trans (hO0)
  refine q_get (ci := 9) (j := 2) (v := .ref qO4) C0 V i_Wri rfl rfl hO0 (by decide) w_331 rfl d_12_10_10 ?_
  refine lv_aload_n hx hb d_12_10_13 rfl (lv_at hl 0 rfl) ?_
  refine q_get (ci := 9) (j := 1) (v := .ref qO3) C0 V i_Wri rfl rfl hO0 (by decide) w_330 rfl d_12_10_14 ?_
  replace hO3 := (hg7 _ (q_nc n_O3_O2 List.not_mem_nil)).trans (hO3)
  refine q_get (ci := 4) (j := 0) (v := .ref qO6) C0 V i_Mil rfl rfl hO3 (by decide) w_110 rfl d_12_10_17 ?_
  refine lv_aload_n hx hb d_12_10_20 rfl (lv_at hl 1 rfl) ?_
  refine lv_lload_n hx hb d_12_10_21 rfl (lv_at hl 2 rfl) ?_
  replace hO1 := (hg7 _ (q_nc n_O1_O2 List.not_mem_nil)).trans (hO1)
  replace hO6 := (hg7 _ (q_nc n_O6_O2 List.not_mem_nil)).trans (hO6)
  replace hA17 := (hg7 _ (q_nc n_A17_O2 List.not_mem_nil)).trans (hA17)
  refine q_goi V (q_runV (As := [.long 0]) (rest := [.ref qO6, .ref qO4]) (d := 3) (mc := 0) (ms := 0) (ci := 6) C0 V rfl LV_Wri_192 (c_Flo_exactly l D g u6 kO1 kO3 kO6 kA17 qO1 qO3 qO6 qO7 qO8 qO9 qO10 qO11 qO12 qO13 qO14 qO15 qA17 hO1 hO3 hO6 hA17 _) rfl rfl hO1 rfl hl.1 rfl (Nat.le_of_ble_eq_true rfl) ⟨by decide, by decide⟩ ⟨Nat.le_of_ble_eq_true rfl, Nat.le_of_ble_eq_true rfl⟩ d_12_10_22) (fun v10 u9 H locs hp8 V => ?_)
  obtain ⟨rfl, hg11, hO6, hA17⟩ := hp8
  replace hF := q_uc hF hg11 (q_sc (List.mem_of_getElem? (i := 3) rfl) (q_sc (List.mem_of_getElem? (i := 4) rfl) (fun _ h => absurd h List.not_mem_nil)))
  replace hO4 := (hg11 _ (q_nc n_O4_O6 (q_nc n_O4_A17 List.not_mem_nil))).trans ((hg7 _ (q_nc n_O4_O2 List.not_mem_nil)).trans (hO4))
  refine q_gov V (q_runV (As := [.ref qO6, .int 0]) (rest := []) (d := 2) (mc := 0) (ms := 0) (ci := 7) C0 V rfl LV_Wri_75 (c_Dig_fill l D g u9 kO4 kO6 qO4 qO6 qA16 qA17 hO4 hO6 _) rfl rfl hO4 rfl hl.1 rfl (Nat.le_of_ble_eq_true rfl) ⟨by decide, by decide⟩ ⟨Nat.le_of_ble_eq_true rfl, Nat.le_of_ble_eq_true rfl⟩ d_12_10_25) (fun u13 H locs hp12 V => ?_)
  obtain ⟨hg14, hO4⟩ := hp12
  replace hF := q_uc hF hg14 (q_sc (.tail _ (.head _)) (fun _ h => absurd h List.not_mem_nil))
  refine lv_aload_n hx hb d_12_10_28 rfl (lv_at hl 0 rfl) ?_
  replace hO0 := (hg14 _ (q_nc n_O0_O4 List.not_mem_nil)).trans ((hg11 _ (q_nc n_O0_O6 (q_nc n_O0_A17 List.not_mem_nil))).trans (hO0))
  refine q_get (ci := 9) (j := 2) (v := .ref qO4) C0 V i_Wri rfl rfl hO0 (by decide) w_331 rfl d_12_10_29 ?_
  refine lv_iload hx hb d_12_10_32 (lv_at hl 3 rfl) ?_
  refine lv_if_eq (tgt := 42) hx hb d_12_10_34 (by decide) (fun c15 => ?_) (fun c15 => ?_)
  ·
    refine lv_aload_n hx hb d_12_10_42 rfl (lv_at hl 0 rfl) ?_
    refine q_get (ci := 9) (j := 2) (v := .ref qO4) C0 V i_Wri rfl rfl hO0 (by decide) w_331 rfl d_12_10_43 ?_
    refine q_get (ci := 7) (j := 1) (v := .int 0) C0 V i_Dig rfl rfl hO4 (by decide) w_267 rfl d_12_10_46 ?_
    refine lv_iconst (v := 1) hx hb d_12_10_49 (by decide) ?_
    refine lv_iadd hx hb d_12_10_50 ?_
    refine q_ti (v := 1) (by decide) ?_
    refine lv_iload hx hb d_12_10_51 (lv_at hl 4 rfl) ?_
    refine lv_iadd hx hb d_12_10_53 ?_
    refine lv_iload hx hb d_12_10_54 (lv_at hl 5 rfl) ?_
    refine q_gov V (q_runV (As := [.int (1 + x2), .int x3]) (rest := []) (d := 1) (mc := 0) (ms := 0) (ci := 7) C0 V rfl LV_Wri_195 (c_Dig_round l D g u13 kO4 qO4 qA16 (1 + x2) x3 hO4 (q_Ile (x := 1) (y := (1 + x2.toInt)) (by decide) (q_addI (x := 1) (y := x2.toInt) (by decide) rfl (by have t1 : 1 ≤ x2.toInt := q_leI x2lo; have t2 : x2.toInt ≤ 800 := q_leI x2hi; omega) (by have t1 : 1 ≤ x2.toInt := q_leI x2lo; have t2 : x2.toInt ≤ 800 := q_leI x2hi; omega)) (by have t1 : 1 ≤ x2.toInt := q_leI x2lo; have t2 : x2.toInt ≤ 800 := q_leI x2hi; omega)) (q_Ile (x := (1 + x2.toInt)) (y := 1101) (q_addI (x := 1) (y := x2.toInt) (by decide) rfl (by have t1 : 1 ≤ x2.toInt := q_leI x2lo; have t2 : x2.toInt ≤ 800 := q_leI x2hi; omega) (by have t1 : 1 ≤ x2.toInt := q_leI x2lo; have t2 : x2.toInt ≤ 800 := q_leI x2hi; omega)) (by decide) (by have t1 : 1 ≤ x2.toInt := q_leI x2lo; have t2 : x2.toInt ≤ 800 := q_leI x2hi; omega)) x3lo x3hi _) rfl rfl hO4 rfl hl.1 rfl (Nat.le_of_ble_eq_true rfl) ⟨by decide, by decide⟩ ⟨Nat.le_of_ble_eq_true rfl, Nat.le_of_ble_eq_true rfl⟩ d_12_10_56) (fun u17 H locs hp16 V => ?_)
    obtain rfl := hp16
    refine lv_iload hx hb d_12_10_59 (lv_at hl 3 rfl) ?_
    refine q_ti (v := 0) c15 ?_
    refine lv_if_eq (tgt := 81) hx hb d_12_10_61 (by decide) (fun c19 => ?_) (fun c19 => absurd (by decide) c19)
    refine lv_aload_n hx hb d_12_10_81 rfl (lv_at hl 0 rfl) ?_
    refine q_get (ci := 9) (j := 2) (v := .ref qO4) C0 V i_Wri rfl rfl hO0 (by decide) w_331 rfl d_12_10_82 ?_
    refine lv_aload_n hx hb d_12_10_85 rfl (lv_at hl 0 rfl) ?_
    refine q_get (ci := 9) (j := 0) (v := .ref qO2) C0 V i_Wri rfl rfl hO0 (by decide) w_329 rfl d_12_10_86 ?_
    refine lv_iload hx hb d_12_10_89 (lv_at hl 4 rfl) ?_
    refine lv_iconst (v := 0) hx hb d_12_10_91 (by decide) ?_
    refine lv_iconst (v := 0) hx hb d_12_10_92 (by decide) ?_
    replace hO2 := (hg14 _ (q_nc n_O2_O4 List.not_mem_nil)).trans ((hg11 _ (q_nc n_O2_O6 (q_nc n_O2_A17 List.not_mem_nil))).trans (hO2))
    replace hA5 := (hg14 _ (q_nc n_A5_O4 List.not_mem_nil)).trans ((hg11 _ (q_nc n_A5_O6 (q_nc n_A5_A17 List.not_mem_nil))).trans ((hg7 _ (q_nc n_A5_O2 List.not_mem_nil)).trans (hA5)))
    refine q_gov V (q_runV (As := [.ref qO2, .int x2, .int 0, .int 0]) (rest := []) (d := 2) (mc := 0) (ms := 0) (ci := 7) C0 V rfl LV_Wri_90 (c_Dig_writePlain l D g u13 kO4 kO2 kA5 qO4 qO2 qA16 qA5 x2 hO4 hO2 hA5 (q_Ile (x := 0) (y := x2.toInt) (by decide) rfl (by have t1 : 1 ≤ x2.toInt := q_leI x2lo; have t2 : x2.toInt ≤ 800 := q_leI x2hi; omega)) (q_Ile (x := x2.toInt) (y := 1100) rfl (by decide) (by have t1 : 1 ≤ x2.toInt := q_leI x2lo; have t2 : x2.toInt ≤ 800 := q_leI x2hi; omega)) _) rfl rfl hO4 rfl hl.1 rfl (Nat.le_of_ble_eq_true rfl) ⟨by decide, by decide⟩ ⟨Nat.le_of_ble_eq_true rfl, Nat.le_of_ble_eq_true rfl⟩ d_12_10_93) (fun u21 H locs hp20 V => ?_)
    rcases hp20 with ⟨y26, y27, c22, f23, f24, f25, hg28, hO2, hA5⟩ | ⟨y33, y34, c29, f30, f31, f32, hg35, hO2, hA5⟩
    ·
      replace hF := q_uc hF hg28 (q_sc (.head _) (q_sc (.tail _ (.tail _ (.head _))) (fun _ h => absurd h List.not_mem_nil)))
      replace hO4 := (hg28 _ (q_nc n_O4_O2 (q_nc n_O4_A5 List.not_mem_nil))).trans (hO4)
      replace hO6 := (hg28 _ (q_nc n_O6_O2 (q_nc n_O6_A5 List.not_mem_nil))).trans ((hg14 _ (q_nc n_O6_O4 List.not_mem_nil)).trans (hO6))
      replace hA17 := (hg28 _ (q_nc n_A17_O2 (q_nc n_A17_A5 List.not_mem_nil))).trans ((hg14 _ (q_nc n_A17_O4 List.not_mem_nil)).trans (hA17))
      exact q_retv C0 V (Or.inl ⟨y26, y27, c15, c22, f23, f24, f25, hF, hO2, hO4, hA5, hO6, hA17⟩) d_12_10_96
    ·
      exact absurd (q_Ilt (x := 0) (y := x2.toInt) (by decide) rfl (by have t1 : 1 ≤ x2.toInt := q_leI x2lo; have t2 : x2.toInt ≤ 800 := q_leI x2hi; omega)) c29
  ·
    refine lv_iload hx hb d_12_10_37 (lv_at hl 4 rfl) ?_
    refine lv_goto (tgt := 54) hx hb d_12_10_39 (by decide) ?_
    refine lv_iload hx hb d_12_10_54 (lv_at hl 5 rfl) ?_
    refine q_gov V (q_runV (As := [.int x2, .int x3]) (rest := []) (d := 1) (mc := 0) (ms := 0) (ci := 7) C0 V rfl LV_Wri_195 (c_Dig_round l D g u13 kO4 qO4 qA16 x2 x3 hO4 x2lo (q_Ile (x := x2.toInt) (y := 1101) rfl (by decide) (by have t1 : 1 ≤ x2.toInt := q_leI x2lo; have t2 : x2.toInt ≤ 800 := q_leI x2hi; omega)) x3lo x3hi _) rfl rfl hO4 rfl hl.1 rfl (Nat.le_of_ble_eq_true rfl) ⟨by decide, by decide⟩ ⟨Nat.le_of_ble_eq_true rfl, Nat.le_of_ble_eq_true rfl⟩ d_12_10_56) (fun u37 H locs hp36 V => ?_)
    obtain rfl := hp36
    refine lv_iload hx hb d_12_10_59 (lv_at hl 3 rfl) ?_
    refine lv_if_eq (tgt := 81) hx hb d_12_10_61 (by decide) (fun c39 => absurd c39 c15) (fun c39 => ?_)
    refine lv_aload_n hx hb d_12_10_64 rfl (lv_at hl 0 rfl) ?_
    refine q_get (ci := 9) (j := 2) (v := .ref qO4) C0 V i_Wri rfl rfl hO0 (by decide) w_331 rfl d_12_10_65 ?_
    refine lv_aload_n hx hb d_12_10_68 rfl (lv_at hl 0 rfl) ?_
    refine q_get (ci := 9) (j := 0) (v := .ref qO2) C0 V i_Wri rfl rfl hO0 (by decide) w_329 rfl d_12_10_69 ?_
    refine lv_iload hx hb d_12_10_72 (lv_at hl 4 rfl) ?_
    refine lv_iconst (v := 0) hx hb d_12_10_74 (by decide) ?_
    replace hO2 := (hg14 _ (q_nc n_O2_O4 List.not_mem_nil)).trans ((hg11 _ (q_nc n_O2_O6 (q_nc n_O2_A17 List.not_mem_nil))).trans (hO2))
    replace hA5 := (hg14 _ (q_nc n_A5_O4 List.not_mem_nil)).trans ((hg11 _ (q_nc n_A5_O6 (q_nc n_A5_A17 List.not_mem_nil))).trans ((hg7 _ (q_nc n_A5_O2 List.not_mem_nil)).trans (hA5)))
    refine q_gov V (q_runV (As := [.ref qO2, .int x2, .int 0]) (rest := []) (d := 3) (mc := 0) (ms := 0) (ci := 7) C0 V rfl LV_Wri_198 (c_Dig_writeScience l D g u13 kO4 kO2 kA5 qO4 qO2 qA16 qA5 x2 hO4 hO2 hA5 x2lo x2hi _) rfl rfl hO4 rfl hl.1 rfl (Nat.le_of_ble_eq_true rfl) ⟨by decide, by decide⟩ ⟨Nat.le_of_ble_eq_true rfl, Nat.le_of_ble_eq_true rfl⟩ d_12_10_75) (fun u41 H locs hp40 V => ?_)
    rcases hp40 with ⟨y46, y47, c42, f43, f44, f45, hg48, hO2, hA5⟩ | ⟨y53, y54, c49, f50, f51, f52, hg55, hO2, hA5⟩
    ·
      replace hF := q_uc hF hg48 (q_sc (.head _) (q_sc (.tail _ (.tail _ (.head _))) (fun _ h => absurd h List.not_mem_nil)))
      refine lv_goto (tgt := 96) hx hb d_12_10_78 (by decide) ?_
      replace hO4 := (hg48 _ (q_nc n_O4_O2 (q_nc n_O4_A5 List.not_mem_nil))).trans (hO4)
      replace hO6 := (hg48 _ (q_nc n_O6_O2 (q_nc n_O6_A5 List.not_mem_nil))).trans ((hg14 _ (q_nc n_O6_O4 List.not_mem_nil)).trans (hO6))
      replace hA17 := (hg48 _ (q_nc n_A17_O2 (q_nc n_A17_A5 List.not_mem_nil))).trans ((hg14 _ (q_nc n_A17_O4 List.not_mem_nil)).trans (hA17))
      exact q_retv C0 V (Or.inr (Or.inl ⟨y46, y47, c15, c42, f43, f44, f45, hF, hO2, hO4, hA5, hO6, hA17⟩)) d_12_10_96
    ·
      replace hF := q_uc hF hg55 (q_sc (.head _) (q_sc (.tail _ (.tail _ (.head _))) (fun _ h => absurd h List.not_mem_nil)))
      refine lv_goto (tgt := 96) hx hb d_12_10_78 (by decide) ?_
      replace hO4 := (hg55 _ (q_nc n_O4_O2 (q_nc n_O4_A5 List.not_mem_nil))).trans (hO4)
      replace hO6 := (hg55 _ (q_nc n_O6_O2 (q_nc n_O6_A5 List.not_mem_nil))).trans ((hg14 _ (q_nc n_O6_O4 List.not_mem_nil)).trans (hO6))
      replace hA17 := (hg55 _ (q_nc n_A17_O2 (q_nc n_A17_A5 List.not_mem_nil))).trans ((hg14 _ (q_nc n_A17_O4 List.not_mem_nil)).trans (hA17))
      exact q_retv C0 V (Or.inr (Or.inr (⟨y53, y54, c15, c49, f50, f51, f52, hF, hO2, hO4, hA5, hO6, hA17⟩))) d_12_10_96
theorem d_1_18_0 : decode prog_1_method_18_code 0 = .ok (.iload_n 1, 1) := by decide +kernel
theorem d_1_18_1 : decode prog_1_method_18_code 1 = .ok (.iconst 2, 1) := by decide +kernel
theorem d_1_18_2 : decode prog_1_method_18_code 2 = .ok (.if_icmp .eq 8, 3) := by decide +kernel
theorem d_1_18_10 : decode prog_1_method_18_code 10 = .ok (.iload_n 2, 1) := by decide +kernel
theorem d_1_18_11 : decode prog_1_method_18_code 11 = .ok (.invokestatic 212, 3) := by decide +kernel
theorem d_1_18_14 : decode prog_1_method_18_code 14 = .ok (.ifCond .eq 18, 3) := by decide +kernel
theorem d_1_18_32 : decode prog_1_method_18_code 32 = .ok (.iconst 0, 1) := by decide +kernel
theorem d_1_18_33 : decode prog_1_method_18_code 33 = .ok (.invokestatic 104, 3) := by decide +kernel
theorem d_1_18_17 : decode prog_1_method_18_code 17 = .ok (.iload 5, 2) := by decide +kernel
theorem d_1_18_19 : decode prog_1_method_18_code 19 = .ok (.ifCond .lt 13, 3) := by decide +kernel
theorem d_1_18_22 : decode prog_1_method_18_code 22 = .ok (.iload 5, 2) := by decide +kernel
theorem d_1_18_24 : decode prog_1_method_18_code 24 = .ok (.iconst 3, 1) := by decide +kernel
theorem d_1_18_25 : decode prog_1_method_18_code 25 = .ok (.if_icmp .gt 7, 3) := by decide +kernel
theorem d_1_18_28 : decode prog_1_method_18_code 28 = .ok (.iconst 1, 1) := by decide +kernel
theorem d_1_18_29 : decode prog_1_method_18_code 29 = .ok (.goto 4, 3) := by decide +kernel
theorem d_1_18_36 : decode prog_1_method_18_code 36 = .ok (.iload_n 3, 1) := by decide +kernel
theorem d_1_18_37 : decode prog_1_method_18_code 37 = .ok (.ifCond .eq 25, 3) := by decide +kernel
theorem d_1_18_62 : decode prog_1_method_18_code 62 = .ok (.iload 4, 2) := by decide +kernel
theorem d_1_18_64 : decode prog_1_method_18_code 64 = .ok (.ifCond .lt 15, 3) := by decide +kernel
theorem d_1_18_79 : decode prog_1_method_18_code 79 = .ok (.iconst 0, 1) := by decide +kernel
theorem d_1_18_80 : decode prog_1_method_18_code 80 = .ok (.invokestatic 104, 3) := by decide +kernel
theorem d_1_18_67 : decode prog_1_method_18_code 67 = .ok (.iload 4, 2) := by decide +kernel
theorem d_1_18_69 : decode prog_1_method_18_code 69 = .ok (.sipush 1100, 3) := by decide +kernel
theorem d_1_18_72 : decode prog_1_method_18_code 72 = .ok (.if_icmp .gt 7, 3) := by decide +kernel
theorem d_1_18_75 : decode prog_1_method_18_code 75 = .ok (.iconst 1, 1) := by decide +kernel
theorem d_1_18_76 : decode prog_1_method_18_code 76 = .ok (.goto 4, 3) := by decide +kernel
theorem d_1_18_83 : decode prog_1_method_18_code 83 = .ok (.aload_n 0, 1) := by decide +kernel
theorem d_1_18_84 : decode prog_1_method_18_code 84 = .ok (.iload_n 1, 1) := by decide +kernel
theorem d_1_18_85 : decode prog_1_method_18_code 85 = .ok (.invokevirtual 130, 3) := by decide +kernel
theorem d_1_18_88 : decode prog_1_method_18_code 88 = .ok (.astore 6, 2) := by decide +kernel
theorem d_1_18_90 : decode prog_1_method_18_code 90 = .ok (.aload_n 0, 1) := by decide +kernel
theorem d_1_18_91 : decode prog_1_method_18_code 91 = .ok (.iload_n 1, 1) := by decide +kernel
theorem d_1_18_92 : decode prog_1_method_18_code 92 = .ok (.invokevirtual 157, 3) := by decide +kernel
theorem d_1_18_95 : decode prog_1_method_18_code 95 = .ok (.iload_n 2, 1) := by decide +kernel
theorem d_1_18_96 : decode prog_1_method_18_code 96 = .ok (.laload, 1) := by decide +kernel
theorem d_1_18_97 : decode prog_1_method_18_code 97 = .ok (.lstore 7, 2) := by decide +kernel
theorem d_1_18_99 : decode prog_1_method_18_code 99 = .ok (.aload 6, 2) := by decide +kernel
theorem d_1_18_101 : decode prog_1_method_18_code 101 = .ok (.lload 7, 2) := by decide +kernel
theorem d_1_18_103 : decode prog_1_method_18_code 103 = .ok (.invokevirtual 179, 3) := by decide +kernel
theorem d_1_18_106 : decode prog_1_method_18_code 106 = .ok (.invokestatic 138, 3) := by decide +kernel
theorem d_1_18_109 : decode prog_1_method_18_code 109 = .ok (.aload_n 0, 1) := by decide +kernel
theorem d_1_18_110 : decode prog_1_method_18_code 110 = .ok (.getfield 89, 3) := by decide +kernel
theorem d_1_18_113 : decode prog_1_method_18_code 113 = .ok (.aload 6, 2) := by decide +kernel
theorem d_1_18_115 : decode prog_1_method_18_code 115 = .ok (.lload 7, 2) := by decide +kernel
theorem d_1_18_117 : decode prog_1_method_18_code 117 = .ok (.iload_n 3, 1) := by decide +kernel
theorem d_1_18_118 : decode prog_1_method_18_code 118 = .ok (.iload 4, 2) := by decide +kernel
theorem d_1_18_120 : decode prog_1_method_18_code 120 = .ok (.iload 5, 2) := by decide +kernel
theorem d_1_18_122 : decode prog_1_method_18_code 122 = .ok (.invokevirtual 335, 3) := by decide +kernel
theorem w_1650 : (Cond.code ({ cls := "NumberHouse$Writer", name := "exactText", desc := "(LNumberHouse$Floats;JZII)V" } : MethodName) prog_12_method_10_code (7 : Nat) (none : Option ClassFile.FieldType)) ∈ q_tbl := q_of 1650 (by decide +kernel) (by decide +kernel)
theorem w_1647 : (Cond.methodLink "NumberHouse" (335 : Nat) ({ cls := "NumberHouse$Writer", name := "exactText", desc := "(LNumberHouse$Floats;JZII)V" } : MethodName)) ∈ q_tbl := q_of 1647 (by decide +kernel) (by decide +kernel)
theorem w_1648 : (Cond.instanceMethod ({ cls := "NumberHouse$Writer", name := "exactText", desc := "(LNumberHouse$Floats;JZII)V" } : MethodName)) ∈ q_tbl := q_of 1648 (by decide +kernel) (by decide +kernel)
theorem w_1649 : (Cond.selects "NumberHouse$Writer" ({ cls := "NumberHouse$Writer", name := "exactText", desc := "(LNumberHouse$Floats;JZII)V" } : MethodName) ({ cls := "NumberHouse$Writer", name := "exactText", desc := "(LNumberHouse$Floats;JZII)V" } : MethodName)) ∈ q_tbl := q_of 1649 (by decide +kernel) (by decide +kernel)
theorem LV_NH_335 : q_LV "NumberHouse" 335 y_Wri_exactText prog_12_method_10_code 7 none 5 := ⟨w_1650, w_11, w_1647, w_1648, w_1649, ⟨by decide, by decide, by decide +kernel⟩⟩
theorem d_1_18_125 : decode prog_1_method_18_code 125 = .ok (.aload_n 0, 1) := by decide +kernel
theorem d_1_18_126 : decode prog_1_method_18_code 126 = .ok (.getfield 18, 3) := by decide +kernel
theorem d_1_18_129 : decode prog_1_method_18_code 129 = .ok (.getfield 108, 3) := by decide +kernel
theorem d_1_18_132 : decode prog_1_method_18_code 132 = .ok (.ireturn, 1) := by decide +kernel
theorem d_1_18_40 : decode prog_1_method_18_code 40 = .ok (.iload 4, 2) := by decide +kernel
theorem d_1_18_42 : decode prog_1_method_18_code 42 = .ok (.iconst 1, 1) := by decide +kernel
theorem d_1_18_43 : decode prog_1_method_18_code 43 = .ok (.if_icmp .lt 15, 3) := by decide +kernel
theorem d_1_18_58 : decode prog_1_method_18_code 58 = .ok (.iconst 0, 1) := by decide +kernel
theorem d_1_18_59 : decode prog_1_method_18_code 59 = .ok (.goto 21, 3) := by decide +kernel
theorem d_1_18_46 : decode prog_1_method_18_code 46 = .ok (.iload 4, 2) := by decide +kernel
theorem d_1_18_48 : decode prog_1_method_18_code 48 = .ok (.sipush 800, 3) := by decide +kernel
theorem d_1_18_51 : decode prog_1_method_18_code 51 = .ok (.if_icmp .gt 7, 3) := by decide +kernel
theorem d_1_18_54 : decode prog_1_method_18_code 54 = .ok (.iconst 1, 1) := by decide +kernel
theorem d_1_18_55 : decode prog_1_method_18_code 55 = .ok (.goto 25, 3) := by decide +kernel
theorem d_1_18_5 : decode prog_1_method_18_code 5 = .ok (.iload_n 1, 1) := by decide +kernel
theorem d_1_18_6 : decode prog_1_method_18_code 6 = .ok (.iconst 3, 1) := by decide +kernel
theorem d_1_18_7 : decode prog_1_method_18_code 7 = .ok (.if_icmp .ne 25, 3) := by decide +kernel
def y_NH_figures : MethodName := ⟨"NumberHouse", "figures", "(IIZII)I"⟩
set_option maxRecDepth 100000 in
set_option maxHeartbeats 4000000 in
/-- figures on a fresh object -/
theorem c_NH_figures (l : Launch) (D : va_G) (g : Nat → ClassId) (ws : va_W) (hlt : l.stackTraces = false) ( qO0 qO1 qO2 qA3 qA4 qA5 qA6 qO7 qO8 qO9 qO10 qO11 qO12 qO13 qO14 qA16 qO17 qO18 qO19 qO20 qO21 qO22 qO23 qO24 qO25 qO26 qA28 qA35 : Nat) (x1 : Int32) (x2 : Int32) (x3 : Int32) (x4 : Int32) (x5 : Int32) (hO0 : ws[0]? = (some (qO0, .inr (0, [.ref qO1, .ref qO2, .ref qA3, .ref qA4, .ref qA5, .ref qA6, .ref qO7, .ref qO8, .ref qO9, .ref qO10, .ref qO11, .ref qO12, .ref qO13, .ref qO14])) : Option (Nat × va_E))) (hO2 : ws[3]? = (some (qO2, .inr (1, [.ref qA16, .int 11008, .int 0])) : Option (Nat × va_E))) (hA5 : ws[7]? = (some (qA5, .inl (g 1, 10, .inr (.inl (fun _ => 0)))) : Option (Nat × va_E))) (hA6 : ws[8]? = (some (qA6, .inl (g 1, 10, .inr (.inl (fun _ => 0)))) : Option (Nat × va_E))) (hO7 : ws[9]? = (some (qO7, .inr (4, [.ref qO17, .ref qO18, .ref qO19, .ref qO20, .ref qO21, .ref qO22, .ref qO23, .ref qO24, .ref qO25, .ref qO26])) : Option (Nat × va_E))) (hO9 : ws[34]? = (some (qO9, .inr (6, [.int 52, .int 1075, .int 2047, .long 0, .int 0, .ref qO7, .int 0])) : Option (Nat × va_E))) (hO10 : ws[35]? = (some (qO10, .inr (6, [.int 23, .int 150, .int 255, .long 0, .int 0, .ref qO7, .int 0])) : Option (Nat × va_E))) (hO11 : ws[36]? = (some (qO11, .inr (7, [.int 0, .int 0, .ref qA28])) : Option (Nat × va_E))) (hO13 : ws[39]? = (some (qO13, .inr (9, [.ref qO2, .ref qO7, .ref qO11])) : Option (Nat × va_E))) (hA16 : ws[4]? = (some (qA16, .inl (g 1, 1376, .inr (.inl (fun _ => 0)))) : Option (Nat × va_E))) (hO17 : ws[10]? = (some (qO17, .inr (2, [.ref qA35, .int 0, .int 0])) : Option (Nat × va_E))) (hA35 : ws[11]? = (some (qA35, .inl (g 0, 220, .inl (fun _ => 0))) : Option (Nat × va_E))) : q_xI l y_NH_figures prog_1_method_18_code 9 (.int) 8 3 18 D g [.ref qO0, .int x1, .int x2, .int x3, .int x4, .int x5] ws (fun r u => (((2 ≤ x1.toInt ∧ x1.toInt ≤ 3) ∧ (0 ≤ x2.toInt ∧ x2.toInt ≤ 9) ∧ (0 ≤ x5.toInt ∧ x5.toInt ≤ 3) ∧ (x3.toInt ≠ 0 → (1 ≤ x4.toInt ∧ x4.toInt ≤ 800)) ∧ (x3.toInt = 0 → (0 ≤ x4.toInt ∧ x4.toInt ≤ 1100))) ∧ ((x3.toInt ≠ 0 ∧ x4.toInt = 1 ∧ r.toInt = 5) ∨ (x3.toInt ≠ 0 ∧ 1 < x4.toInt ∧ r.toInt = x4.toInt + 5) ∨ (x3.toInt = 0 ∧ x4.toInt = 0 ∧ r.toInt = 1) ∨ (x3.toInt = 0 ∧ 0 < x4.toInt ∧ r.toInt = x4.toInt + 2))) ∧ q_ge 116 ws u) (fun E u => (("java/lang/IllegalArgumentException" = E ∧ (¬ ((2 ≤ x1.toInt ∧ x1.toInt ≤ 3) ∧ (0 ≤ x2.toInt ∧ x2.toInt ≤ 9) ∧ (0 ≤ x5.toInt ∧ x5.toInt ≤ 3) ∧ (x3.toInt ≠ 0 → (1 ≤ x4.toInt ∧ x4.toInt ≤ 800)) ∧ (x3.toInt = 0 → (0 ≤ x4.toInt ∧ x4.toInt ≤ 1100)))))) ∧ q_ge 116 ws u) := by
  intro sz
  refine q_intoX (by decide) (Nat.le_of_ble_eq_true rfl) ?_
  intro p e s m below meth c ls hsz C0 V hno hl
  have hx := C0.1
  have hb := C0.2.1
  have hl : lv_has ls 9 [(0, .ref qO0), (1, .int x1), (2, .int x2), (3, .int x3), (4, .int x4), (5, .int x5)] := hl
  have hF : q_ge 116 ws ws := q_g0
  refine lv_iload_n hx hb d_1_18_0 rfl (lv_at hl 1 rfl) ?_
  refine lv_iconst (v := 2) hx hb d_1_18_1 (by decide) ?_
  refine lv_icmp_eq (tgt := 10) hx hb d_1_18_2 (by decide) (fun c1 => ?_) (fun c1 => ?_)
  ·
    refine lv_iload_n hx hb d_1_18_10 rfl (lv_at hl 2 rfl) ?_
    refine q_goi V (q_runS (As := [.int x2]) (rest := []) (d := 1) (mc := 0) (ms := 0) C0 V rfl LS_NH_212 (c_NH_isRegister l D g ws x2 _) rfl hl.1 rfl (Nat.le_of_ble_eq_true rfl) ⟨by decide, by decide⟩ ⟨Nat.le_of_ble_eq_true rfl, Nat.le_of_ble_eq_true rfl⟩ d_1_18_11) (fun v4 u3 H locs hp2 V => ?_)
    rcases hp2 with ⟨c5, rfl, rfl⟩ | ⟨c7, c8, rfl, rfl⟩ | ⟨c10, c11, rfl, rfl⟩
    ·
      refine lv_if_eq (tgt := 32) hx hb d_1_18_14 (by decide) (fun c13 => ?_) (fun c13 => absurd (by decide) c13)
      refine lv_iconst (v := 0) hx hb d_1_18_32 (by decide) ?_
      refine q_goxv V (q_runSX (As := [.int 0]) (rest := []) (d := 7) (mc := 1) (ms := 6) C0 V rfl LS_NH_104 (c_NH_need l D g ws hlt 0 _) rfl hl.1 rfl (Nat.le_of_ble_eq_true rfl) ⟨by decide, by decide⟩ ⟨Nat.le_of_ble_eq_true rfl, Nat.le_of_ble_eq_true rfl⟩ d_1_18_33) (fun qx Ex ce u15 H locs hp14 V hce hcv hcl => ?_) (fun u15 H locs hp14 V => ?_)
      ·
        obtain ⟨c16, rfl, rfl⟩ := hp14
        exact q_outT hno C0 V (⟨⟨rfl, (show ¬ ((2 ≤ x1.toInt ∧ x1.toInt ≤ 3) ∧ (0 ≤ x2.toInt ∧ x2.toInt ≤ 9) ∧ (0 ≤ x5.toInt ∧ x5.toInt ≤ 3) ∧ (x3.toInt ≠ 0 → (1 ≤ x4.toInt ∧ x4.toInt ≤ 800)) ∧ (x3.toInt = 0 → (0 ≤ x4.toInt ∧ x4.toInt ≤ 1100))) from by have t1 : x1.toInt = 2 := q_eqI c1; have t2 : x2.toInt < 0 := q_ltI c5; omega)⟩, hF⟩) hce hcv hcl (Nat.le_of_ble_eq_true rfl) (Nat.le_of_ble_eq_true rfl)
      ·
        obtain ⟨c18, rfl⟩ := hp14
        exact absurd c18 (by decide)
    ·
      refine lv_if_eq (tgt := 32) hx hb d_1_18_14 (by decide) (fun c20 => ?_) (fun c20 => absurd (by decide) c20)
      refine lv_iconst (v := 0) hx hb d_1_18_32 (by decide) ?_
      refine q_goxv V (q_runSX (As := [.int 0]) (rest := []) (d := 7) (mc := 1) (ms := 6) C0 V rfl LS_NH_104 (c_NH_need l D g ws hlt 0 _) rfl hl.1 rfl (Nat.le_of_ble_eq_true rfl) ⟨by decide, by decide⟩ ⟨Nat.le_of_ble_eq_true rfl, Nat.le_of_ble_eq_true rfl⟩ d_1_18_33) (fun qx Ex ce u22 H locs hp21 V hce hcv hcl => ?_) (fun u22 H locs hp21 V => ?_)
      ·
        obtain ⟨c23, rfl, rfl⟩ := hp21
        exact q_outT hno C0 V (⟨⟨rfl, (show ¬ ((2 ≤ x1.toInt ∧ x1.toInt ≤ 3) ∧ (0 ≤ x2.toInt ∧ x2.toInt ≤ 9) ∧ (0 ≤ x5.toInt ∧ x5.toInt ≤ 3) ∧ (x3.toInt ≠ 0 → (1 ≤ x4.toInt ∧ x4.toInt ≤ 800)) ∧ (x3.toInt = 0 → (0 ≤ x4.toInt ∧ x4.toInt ≤ 1100))) from by have t1 : x1.toInt = 2 := q_eqI c1; have t2 : 0 ≤ x2.toInt := q_nltI c7; have t3 : 10 ≤ x2.toInt := q_leI c8; omega)⟩, hF⟩) hce hcv hcl (Nat.le_of_ble_eq_true rfl) (Nat.le_of_ble_eq_true rfl)
      ·
        obtain ⟨c25, rfl⟩ := hp21
        exact absurd c25 (by decide)
    ·
      refine lv_if_eq (tgt := 32) hx hb d_1_18_14 (by decide) (fun c27 => absurd c27 (by decide)) (fun c27 => ?_)
      refine lv_iload hx hb d_1_18_17 (lv_at hl 5 rfl) ?_
      refine lv_if_lt (tgt := 32) hx hb d_1_18_19 (by decide) (fun c28 => ?_) (fun c28 => ?_)
      ·
        refine lv_iconst (v := 0) hx hb d_1_18_32 (by decide) ?_
        refine q_goxv V (q_runSX (As := [.int 0]) (rest := []) (d := 7) (mc := 1) (ms := 6) C0 V rfl LS_NH_104 (c_NH_need l D g ws hlt 0 _) rfl hl.1 rfl (Nat.le_of_ble_eq_true rfl) ⟨by decide, by decide⟩ ⟨Nat.le_of_ble_eq_true rfl, Nat.le_of_ble_eq_true rfl⟩ d_1_18_33) (fun qx Ex ce u30 H locs hp29 V hce hcv hcl => ?_) (fun u30 H locs hp29 V => ?_)
        ·
          obtain ⟨c31, rfl, rfl⟩ := hp29
          exact q_outT hno C0 V (⟨⟨rfl, (show ¬ ((2 ≤ x1.toInt ∧ x1.toInt ≤ 3) ∧ (0 ≤ x2.toInt ∧ x2.toInt ≤ 9) ∧ (0 ≤ x5.toInt ∧ x5.toInt ≤ 3) ∧ (x3.toInt ≠ 0 → (1 ≤ x4.toInt ∧ x4.toInt ≤ 800)) ∧ (x3.toInt = 0 → (0 ≤ x4.toInt ∧ x4.toInt ≤ 1100))) from by have t1 : x1.toInt = 2 := q_eqI c1; have t2 : 0 ≤ x2.toInt := q_nltI c10; have t3 : x2.toInt < 10 := q_nleI c11; have t4 : x5.toInt < 0 := q_ltI c28; omega)⟩, hF⟩) hce hcv hcl (Nat.le_of_ble_eq_true rfl) (Nat.le_of_ble_eq_true rfl)
        ·
          obtain ⟨c33, rfl⟩ := hp29
          exact absurd c33 (by decide)
      ·
        refine lv_iload hx hb d_1_18_22 (lv_at hl 5 rfl) ?_
        refine lv_iconst (v := 3) hx hb d_1_18_24 (by decide) ?_
        refine lv_icmp_gt (tgt := 32) hx hb d_1_18_25 (by decide) (fun c35 => ?_) (fun c35 => ?_)
        ·
          refine lv_iconst (v := 0) hx hb d_1_18_32 (by decide) ?_
          refine q_goxv V (q_runSX (As := [.int 0]) (rest := []) (d := 7) (mc := 1) (ms := 6) C0 V rfl LS_NH_104 (c_NH_need l D g ws hlt 0 _) rfl hl.1 rfl (Nat.le_of_ble_eq_true rfl) ⟨by decide, by decide⟩ ⟨Nat.le_of_ble_eq_true rfl, Nat.le_of_ble_eq_true rfl⟩ d_1_18_33) (fun qx Ex ce u37 H locs hp36 V hce hcv hcl => ?_) (fun u37 H locs hp36 V => ?_)
          ·
            obtain ⟨c38, rfl, rfl⟩ := hp36
            exact q_outT hno C0 V (⟨⟨rfl, (show ¬ ((2 ≤ x1.toInt ∧ x1.toInt ≤ 3) ∧ (0 ≤ x2.toInt ∧ x2.toInt ≤ 9) ∧ (0 ≤ x5.toInt ∧ x5.toInt ≤ 3) ∧ (x3.toInt ≠ 0 → (1 ≤ x4.toInt ∧ x4.toInt ≤ 800)) ∧ (x3.toInt = 0 → (0 ≤ x4.toInt ∧ x4.toInt ≤ 1100))) from by have t1 : x1.toInt = 2 := q_eqI c1; have t2 : 0 ≤ x2.toInt := q_nltI c10; have t3 : x2.toInt < 10 := q_nleI c11; have t4 : 0 ≤ x5.toInt := q_nltI c28; have t5 : 3 < x5.toInt := q_ltI c35; omega)⟩, hF⟩) hce hcv hcl (Nat.le_of_ble_eq_true rfl) (Nat.le_of_ble_eq_true rfl)
          ·
            obtain ⟨c40, rfl⟩ := hp36
            exact absurd c40 (by decide)
        ·
          refine lv_iconst (v := 1) hx hb d_1_18_28 (by decide) ?_
          refine lv_goto (tgt := 33) hx hb d_1_18_29 (by decide) ?_
          refine q_goxv V (q_runSX (As := [.int 1]) (rest := []) (d := 7) (mc := 1) (ms := 6) C0 V rfl LS_NH_104 (c_NH_need l D g ws hlt 1 _) rfl hl.1 rfl (Nat.le_of_ble_eq_true rfl) ⟨by decide, by decide⟩ ⟨Nat.le_of_ble_eq_true rfl, Nat.le_of_ble_eq_true rfl⟩ d_1_18_33) (fun qx Ex ce u43 H locs hp42 V hce hcv hcl => ?_) (fun u43 H locs hp42 V => ?_)
          ·
            obtain ⟨c44, rfl, rfl⟩ := hp42
            exact absurd c44 (by decide)
          ·
            obtain ⟨c46, rfl⟩ := hp42
            refine lv_iload_n hx hb d_1_18_36 rfl (lv_at hl 3 rfl) ?_
            refine lv_if_eq (tgt := 62) hx hb d_1_18_37 (by decide) (fun c48 => ?_) (fun c48 => ?_)
            ·
              refine lv_iload hx hb d_1_18_62 (lv_at hl 4 rfl) ?_
              refine lv_if_lt (tgt := 79) hx hb d_1_18_64 (by decide) (fun c49 => ?_) (fun c49 => ?_)
              ·
                refine lv_iconst (v := 0) hx hb d_1_18_79 (by decide) ?_
                refine q_goxv V (q_runSX (As := [.int 0]) (rest := []) (d := 7) (mc := 1) (ms := 6) C0 V rfl LS_NH_104 (c_NH_need l D g ws hlt 0 _) rfl hl.1 rfl (Nat.le_of_ble_eq_true rfl) ⟨by decide, by decide⟩ ⟨Nat.le_of_ble_eq_true rfl, Nat.le_of_ble_eq_true rfl⟩ d_1_18_80) (fun qx Ex ce u51 H locs hp50 V hce hcv hcl => ?_) (fun u51 H locs hp50 V => ?_)
                ·
                  obtain ⟨c52, rfl, rfl⟩ := hp50
                  exact q_outT hno C0 V (⟨⟨rfl, (show ¬ ((2 ≤ x1.toInt ∧ x1.toInt ≤ 3) ∧ (0 ≤ x2.toInt ∧ x2.toInt ≤ 9) ∧ (0 ≤ x5.toInt ∧ x5.toInt ≤ 3) ∧ (x3.toInt ≠ 0 → (1 ≤ x4.toInt ∧ x4.toInt ≤ 800)) ∧ (x3.toInt = 0 → (0 ≤ x4.toInt ∧ x4.toInt ≤ 1100))) from by have t1 : x1.toInt = 2 := q_eqI c1; have t2 : 0 ≤ x2.toInt := q_nltI c10; have t3 : x2.toInt < 10 := q_nleI c11; have t4 : 0 ≤ x5.toInt := q_nltI c28; have t5 : x5.toInt ≤ 3 := q_nltI c35; have t6 : x3.toInt = 0 := q_eqI c48; have t7 : x4.toInt < 0 := q_ltI c49; omega)⟩, hF⟩) hce hcv hcl (Nat.le_of_ble_eq_true rfl) (Nat.le_of_ble_eq_true rfl)
                ·
                  obtain ⟨c54, rfl⟩ := hp50
                  exact absurd c54 (by decide)
              ·
                refine lv_iload hx hb d_1_18_67 (lv_at hl 4 rfl) ?_
                refine lv_sipush (v := 1100) hx hb d_1_18_69 (by decide) ?_
                refine lv_icmp_gt (tgt := 79) hx hb d_1_18_72 (by decide) (fun c56 => ?_) (fun c56 => ?_)
                ·
                  refine lv_iconst (v := 0) hx hb d_1_18_79 (by decide) ?_
                  refine q_goxv V (q_runSX (As := [.int 0]) (rest := []) (d := 7) (mc := 1) (ms := 6) C0 V rfl LS_NH_104 (c_NH_need l D g ws hlt 0 _) rfl hl.1 rfl (Nat.le_of_ble_eq_true rfl) ⟨by decide, by decide⟩ ⟨Nat.le_of_ble_eq_true rfl, Nat.le_of_ble_eq_true rfl⟩ d_1_18_80) (fun qx Ex ce u58 H locs hp57 V hce hcv hcl => ?_) (fun u58 H locs hp57 V => ?_)
                  ·
                    obtain ⟨c59, rfl, rfl⟩ := hp57
                    exact q_outT hno C0 V (⟨⟨rfl, (show ¬ ((2 ≤ x1.toInt ∧ x1.toInt ≤ 3) ∧ (0 ≤ x2.toInt ∧ x2.toInt ≤ 9) ∧ (0 ≤ x5.toInt ∧ x5.toInt ≤ 3) ∧ (x3.toInt ≠ 0 → (1 ≤ x4.toInt ∧ x4.toInt ≤ 800)) ∧ (x3.toInt = 0 → (0 ≤ x4.toInt ∧ x4.toInt ≤ 1100))) from by have t1 : x1.toInt = 2 := q_eqI c1; have t2 : 0 ≤ x2.toInt := q_nltI c10; have t3 : x2.toInt < 10 := q_nleI c11; have t4 : 0 ≤ x5.toInt := q_nltI c28; have t5 : x5.toInt ≤ 3 := q_nltI c35; have t6 : x3.toInt = 0 := q_eqI c48; have t7 : 0 ≤ x4.toInt := q_nltI c49; have t8 : 1100 < x4.toInt := q_ltI c56; omega)⟩, hF⟩) hce hcv hcl (Nat.le_of_ble_eq_true rfl) (Nat.le_of_ble_eq_true rfl)
                  ·
                    obtain ⟨c61, rfl⟩ := hp57
                    exact absurd c61 (by decide)
                ·
                  refine lv_iconst (v := 1) hx hb d_1_18_75 (by decide) ?_
                  refine lv_goto (tgt := 80) hx hb d_1_18_76 (by decide) ?_
                  refine q_goxv V (q_runSX (As := [.int 1]) (rest := []) (d := 7) (mc := 1) (ms := 6) C0 V rfl LS_NH_104 (c_NH_need l D g ws hlt 1 _) rfl hl.1 rfl (Nat.le_of_ble_eq_true rfl) ⟨by decide, by decide⟩ ⟨Nat.le_of_ble_eq_true rfl, Nat.le_of_ble_eq_true rfl⟩ d_1_18_80) (fun qx Ex ce u64 H locs hp63 V hce hcv hcl => ?_) (fun u64 H locs hp63 V => ?_)
                  ·
                    obtain ⟨c65, rfl, rfl⟩ := hp63
                    exact absurd c65 (by decide)
                  ·
                    obtain ⟨c67, rfl⟩ := hp63
                    refine lv_aload_n hx hb d_1_18_83 rfl (lv_at hl 0 rfl) ?_
                    refine lv_iload_n hx hb d_1_18_84 rfl (lv_at hl 1 rfl) ?_
                    refine q_ti (v := 2) c1 ?_
                    refine q_gor (post := fun r u => (¬ 2 = 2 ∧ qO10 = r ∧ ws = u) ∨ (2 = 2 ∧ qO9 = r ∧ ws = u)) V (q_runV (As := [.int 2]) (rest := []) (d := 1) (mc := 0) (ms := 0) (ci := 0) C0 V rfl LV_NH_130 (c_NH_floatsOf l D g ws qO0 qO1 qO2 qA3 qA4 qA5 qA6 qO7 qO8 qO9 qO10 qO11 qO12 qO13 qO14 2 hO0 (q_Ile (x := 2) (y := 2) (by decide) (by decide) (by omega)) (q_Ile (x := 2) (y := 3) (by decide) (by decide) (by omega)) _) rfl rfl hO0 rfl hl.1 rfl (Nat.le_of_ble_eq_true rfl) ⟨by decide, by decide⟩ ⟨Nat.le_of_ble_eq_true rfl, Nat.le_of_ble_eq_true rfl⟩ d_1_18_85) (fun v71 u70 H locs hp69 V => ?_)
                    rcases hp69 with ⟨c72, rfl, rfl⟩ | ⟨c74, rfl, rfl⟩
                    ·
                      exact absurd c72 (by decide)
                    ·
                      refine lv_astore (lv' := [(6, .ref qO9), (0, .ref qO0), (1, .int x1), (2, .int x2), (3, .int x3), (4, .int x4), (5, .int x5)]) hx hb d_1_18_88 hl (by decide) rfl (fun ls hl => ?_)
                      refine lv_aload_n hx hb d_1_18_90 rfl (lv_at hl 1 rfl) ?_
                      refine lv_iload_n hx hb d_1_18_91 rfl (lv_at hl 2 rfl) ?_
                      refine q_ti (v := 2) c1 ?_
                      refine q_gor (post := fun r u => qA5 = r ∧ ws = u) V (q_runV (As := [.int 2]) (rest := []) (d := 1) (mc := 0) (ms := 0) (ci := 0) C0 V rfl LV_NH_157 (c_NH_floatRow_2 l D g ws qO0 qO1 qO2 qA3 qA4 qA5 qA6 qO7 qO8 qO9 qO10 qO11 qO12 qO13 qO14 hO0 _) rfl rfl hO0 rfl hl.1 rfl (Nat.le_of_ble_eq_true rfl) ⟨by decide, by decide⟩ ⟨Nat.le_of_ble_eq_true rfl, Nat.le_of_ble_eq_true rfl⟩ d_1_18_92) (fun v78 u77 H locs hp76 V => ?_)
                      obtain ⟨rfl, rfl⟩ := hp76
                      refine lv_iload_n hx hb d_1_18_95 rfl (lv_at hl 3 rfl) ?_
                      refine q_lald C0 V hA5 (q_ix (x := x2.toInt) rfl (by have t1 : 0 ≤ x2.toInt := q_nltI c10; have t2 : x2.toInt < 10 := q_nleI c11; omega) (by have t1 : 0 ≤ x2.toInt := q_nltI c10; have t2 : x2.toInt < 10 := q_nleI c11; omega)) d_1_18_96 ?_
                      refine q_tl (v := 0) (by first | rfl | decide | simp [upd, vp_updL, sb_cl0]) ?_
                      refine lv_lstore (lv' := [(7, .long 0), (6, .ref qO9), (0, .ref qO0), (1, .int x1), (2, .int x2), (3, .int x3), (4, .int x4), (5, .int x5)]) hx hb d_1_18_97 hl (by decide) rfl (fun ls hl => ?_)
                      refine lv_aload hx hb d_1_18_99 (lv_at hl 1 rfl) ?_
                      refine lv_lload hx hb d_1_18_101 (lv_at hl 0 rfl) ?_
                      refine q_goi V (q_runV (As := [.long 0]) (rest := []) (d := 2) (mc := 0) (ms := 0) (ci := 6) C0 V rfl LV_NH_179 (c_Flo_isFinite_2 l D g ws 34 qO9 qO7 hO9 _) rfl rfl hO9 rfl hl.1 rfl (Nat.le_of_ble_eq_true rfl) ⟨by decide, by decide⟩ ⟨Nat.le_of_ble_eq_true rfl, Nat.le_of_ble_eq_true rfl⟩ d_1_18_103) (fun v82 u81 H locs hp80 V => ?_)
                      obtain ⟨rfl, rfl⟩ := hp80
                      refine q_goxv V (q_runSX (As := [.int 1]) (rest := []) (d := 7) (mc := 1) (ms := 6) C0 V rfl LS_NH_138 (c_NH_canHave l D g ws hlt 1 _) rfl hl.1 rfl (Nat.le_of_ble_eq_true rfl) ⟨by decide, by decide⟩ ⟨Nat.le_of_ble_eq_true rfl, Nat.le_of_ble_eq_true rfl⟩ d_1_18_106) (fun qx Ex ce u85 H locs hp84 V hce hcv hcl => ?_) (fun u85 H locs hp84 V => ?_)
                      ·
                        obtain ⟨c86, rfl, rfl⟩ := hp84
                        exact absurd c86 (by decide)
                      ·
                        obtain ⟨c88, rfl⟩ := hp84
                        refine lv_aload_n hx hb d_1_18_109 rfl (lv_at hl 2 rfl) ?_
                        refine q_get (ci := 0) (j := 12) (v := .ref qO13) C0 V i_NH rfl rfl hO0 (by decide) w_436 rfl d_1_18_110 ?_
                        refine lv_aload hx hb d_1_18_113 (lv_at hl 1 rfl) ?_
                        refine lv_lload hx hb d_1_18_115 (lv_at hl 0 rfl) ?_
                        refine lv_iload_n hx hb d_1_18_117 rfl (lv_at hl 5 rfl) ?_
                        refine q_ti (v := 0) c48 ?_
                        refine lv_iload hx hb d_1_18_118 (lv_at hl 6 rfl) ?_
                        refine lv_iload hx hb d_1_18_120 (lv_at hl 7 rfl) ?_
                        refine q_gov V (q_runV (As := [.ref qO9, .long 0, .int 0, .int x4, .int x5]) (rest := []) (d := 4) (mc := 0) (ms := 0) (ci := 9) C0 V rfl LV_NH_335 (c_Wri_exactText l D g ws 39 34 3 9 36 4 10 11 qO13 qO9 qO2 qO7 qO11 qA16 qO17 qO18 qO19 qO20 qO21 qO22 qO23 qO24 qO25 qO26 qA28 qA35 x4 x5 hO13 hO9 hO2 hO7 hO11 hA16 hO17 hA35 (q_pd 11 4 rfl) (q_Ile (x := 0) (y := x4.toInt) (by decide) rfl (by have t1 : 0 ≤ x4.toInt := q_nltI c49; have t2 : x4.toInt ≤ 1100 := q_nltI c56; omega)) (q_Ile (x := x4.toInt) (y := 1100) rfl (by decide) (by have t1 : 0 ≤ x4.toInt := q_nltI c49; have t2 : x4.toInt ≤ 1100 := q_nltI c56; omega)) (q_Ile (x := 0) (y := x5.toInt) (by decide) rfl (by have t1 : 0 ≤ x5.toInt := q_nltI c28; have t2 : x5.toInt ≤ 3 := q_nltI c35; omega)) (q_Ile (x := x5.toInt) (y := 3) rfl (by decide) (by have t1 : 0 ≤ x5.toInt := q_nltI c28; have t2 : x5.toInt ≤ 3 := q_nltI c35; omega)) _) rfl rfl hO13 rfl hl.1 rfl (Nat.le_of_ble_eq_true rfl) ⟨by decide, by decide⟩ ⟨Nat.le_of_ble_eq_true rfl, Nat.le_of_ble_eq_true rfl⟩ d_1_18_122) (fun u91 H locs hp90 V => ?_)
                        rcases hp90 with ⟨y96, y97, c92, f93, f94, f95, hg98, hO2, hO11, hA16, hO17, hA35⟩ | ⟨y103, y104, c99, f100, f101, f102, hg105, hO2, hO11, hA16, hO17, hA35⟩
                        ·
                          replace hF := q_gc hF hg98 (q_al (Nat.le_of_ble_eq_true rfl) (q_al (Nat.le_of_ble_eq_true rfl) (q_al (Nat.le_of_ble_eq_true rfl) (q_al (Nat.le_of_ble_eq_true rfl) (q_al (Nat.le_of_ble_eq_true rfl) (fun _ h => absurd h List.not_mem_nil))))))
                          refine lv_aload_n hx hb d_1_18_125 rfl (lv_at hl 2 rfl) ?_
                          replace hO0 := (hg98 _ (q_nc (q_pd 0 3 rfl) (q_nc (q_pd 0 36 rfl) (q_nc (q_pd 0 4 rfl) (q_nc (q_pd 0 10 rfl) (q_nc (q_pd 0 11 rfl) List.not_mem_nil)))))).trans (hO0)
                          refine q_get (ci := 0) (j := 1) (v := .ref qO2) C0 V i_NH rfl rfl hO0 (by decide) w_425 rfl d_1_18_126 ?_
                          refine q_get (ci := 1) (j := 2) (v := .int y96) C0 V i_She rfl rfl hO2 (by decide) w_56 rfl d_1_18_129 ?_
                          exact q_retX (q_reti C0 V (⟨(show ((2 ≤ x1.toInt ∧ x1.toInt ≤ 3) ∧ (0 ≤ x2.toInt ∧ x2.toInt ≤ 9) ∧ (0 ≤ x5.toInt ∧ x5.toInt ≤ 3) ∧ (x3.toInt ≠ 0 → (1 ≤ x4.toInt ∧ x4.toInt ≤ 800)) ∧ (x3.toInt = 0 → (0 ≤ x4.toInt ∧ x4.toInt ≤ 1100))) ∧ ((x3.toInt ≠ 0 ∧ x4.toInt = 1 ∧ (y96 : Int32).toInt = 5) ∨ (x3.toInt ≠ 0 ∧ 1 < x4.toInt ∧ (y96 : Int32).toInt = x4.toInt + 5) ∨ (x3.toInt = 0 ∧ x4.toInt = 0 ∧ (y96 : Int32).toInt = 1) ∨ (x3.toInt = 0 ∧ 0 < x4.toInt ∧ (y96 : Int32).toInt = x4.toInt + 2)) from by have t1 : x1.toInt = 2 := q_eqI c1; have t2 : 0 ≤ x2.toInt := q_nltI c10; have t3 : x2.toInt < 10 := q_nleI c11; have t4 : 0 ≤ x5.toInt := q_nltI c28; have t5 : x5.toInt ≤ 3 := q_nltI c35; have t6 : x3.toInt = 0 := q_eqI c48; have t7 : 0 ≤ x4.toInt := q_nltI c49; have t8 : x4.toInt ≤ 1100 := q_nltI c56; have t9 : 0 < x4.toInt := q_ltI c92; have t10 : 2 ≤ y96.toInt := q_leI f94; have t11 : y96.toInt ≤ 1102 := q_leI f95; omega), hF⟩) d_1_18_132)
                        ·
                          replace hF := q_gc hF hg105 (q_al (Nat.le_of_ble_eq_true rfl) (q_al (Nat.le_of_ble_eq_true rfl) (q_al (Nat.le_of_ble_eq_true rfl) (q_al (Nat.le_of_ble_eq_true rfl) (q_al (Nat.le_of_ble_eq_true rfl) (fun _ h => absurd h List.not_mem_nil))))))
                          refine lv_aload_n hx hb d_1_18_125 rfl (lv_at hl 2 rfl) ?_
                          replace hO0 := (hg105 _ (q_nc (q_pd 0 3 rfl) (q_nc (q_pd 0 36 rfl) (q_nc (q_pd 0 4 rfl) (q_nc (q_pd 0 10 rfl) (q_nc (q_pd 0 11 rfl) List.not_mem_nil)))))).trans (hO0)
                          refine q_get (ci := 0) (j := 1) (v := .ref qO2) C0 V i_NH rfl rfl hO0 (by decide) w_425 rfl d_1_18_126 ?_
                          refine q_get (ci := 1) (j := 2) (v := .int y103) C0 V i_She rfl rfl hO2 (by decide) w_56 rfl d_1_18_129 ?_
                          refine q_ti (v := 1) (q_Ieq (x := y103.toInt) (y := 1) rfl (by decide) (by have t1 : 1 ≤ y103.toInt := q_leI f101; have t2 : y103.toInt ≤ 1 := q_leI f102; omega)) ?_
                          exact q_retX (q_reti C0 V (⟨(show ((2 ≤ x1.toInt ∧ x1.toInt ≤ 3) ∧ (0 ≤ x2.toInt ∧ x2.toInt ≤ 9) ∧ (0 ≤ x5.toInt ∧ x5.toInt ≤ 3) ∧ (x3.toInt ≠ 0 → (1 ≤ x4.toInt ∧ x4.toInt ≤ 800)) ∧ (x3.toInt = 0 → (0 ≤ x4.toInt ∧ x4.toInt ≤ 1100))) ∧ ((x3.toInt ≠ 0 ∧ x4.toInt = 1 ∧ (1 : Int32).toInt = 5) ∨ (x3.toInt ≠ 0 ∧ 1 < x4.toInt ∧ (1 : Int32).toInt = x4.toInt + 5) ∨ (x3.toInt = 0 ∧ x4.toInt = 0 ∧ (1 : Int32).toInt = 1) ∨ (x3.toInt = 0 ∧ 0 < x4.toInt ∧ (1 : Int32).toInt = x4.toInt + 2)) from by have t1 : x1.toInt = 2 := q_eqI c1; have t2 : 0 ≤ x2.toInt := q_nltI c10; have t3 : x2.toInt < 10 := q_nleI c11; have t4 : 0 ≤ x5.toInt := q_nltI c28; have t5 : x5.toInt ≤ 3 := q_nltI c35; have t6 : x3.toInt = 0 := q_eqI c48; have t7 : 0 ≤ x4.toInt := q_nltI c49; have t8 : x4.toInt ≤ 1100 := q_nltI c56; have t9 : x4.toInt ≤ 0 := q_nltI c99; have t10 : 1 ≤ y103.toInt := q_leI f101; have t11 : y103.toInt ≤ 1 := q_leI f102; have e0 : (1 : Int32).toInt = 1 := (by decide); omega), hF⟩) d_1_18_132)
            ·
              refine lv_iload hx hb d_1_18_40 (lv_at hl 4 rfl) ?_
              refine lv_iconst (v := 1) hx hb d_1_18_42 (by decide) ?_
              refine lv_icmp_lt (tgt := 58) hx hb d_1_18_43 (by decide) (fun c106 => ?_) (fun c106 => ?_)
              ·
                refine lv_iconst (v := 0) hx hb d_1_18_58 (by decide) ?_
                refine lv_goto (tgt := 80) hx hb d_1_18_59 (by decide) ?_
                refine q_goxv V (q_runSX (As := [.int 0]) (rest := []) (d := 7) (mc := 1) (ms := 6) C0 V rfl LS_NH_104 (c_NH_need l D g ws hlt 0 _) rfl hl.1 rfl (Nat.le_of_ble_eq_true rfl) ⟨by decide, by decide⟩ ⟨Nat.le_of_ble_eq_true rfl, Nat.le_of_ble_eq_true rfl⟩ d_1_18_80) (fun qx Ex ce u108 H locs hp107 V hce hcv hcl => ?_) (fun u108 H locs hp107 V => ?_)
                ·
                  obtain ⟨c109, rfl, rfl⟩ := hp107
                  exact q_outT hno C0 V (⟨⟨rfl, (show ¬ ((2 ≤ x1.toInt ∧ x1.toInt ≤ 3) ∧ (0 ≤ x2.toInt ∧ x2.toInt ≤ 9) ∧ (0 ≤ x5.toInt ∧ x5.toInt ≤ 3) ∧ (x3.toInt ≠ 0 → (1 ≤ x4.toInt ∧ x4.toInt ≤ 800)) ∧ (x3.toInt = 0 → (0 ≤ x4.toInt ∧ x4.toInt ≤ 1100))) from by have t1 : x1.toInt = 2 := q_eqI c1; have t2 : 0 ≤ x2.toInt := q_nltI c10; have t3 : x2.toInt < 10 := q_nleI c11; have t4 : 0 ≤ x5.toInt := q_nltI c28; have t5 : x5.toInt ≤ 3 := q_nltI c35; have t6 : x3.toInt ≠ 0 := q_neI c48; have t7 : x4.toInt < 1 := q_ltI c106; omega)⟩, hF⟩) hce hcv hcl (Nat.le_of_ble_eq_true rfl) (Nat.le_of_ble_eq_true rfl)
                ·
                  obtain ⟨c111, rfl⟩ := hp107
                  exact absurd c111 (by decide)
              ·
                refine lv_iload hx hb d_1_18_46 (lv_at hl 4 rfl) ?_
                refine lv_sipush (v := 800) hx hb d_1_18_48 (by decide) ?_
                refine lv_icmp_gt (tgt := 58) hx hb d_1_18_51 (by decide) (fun c113 => ?_) (fun c113 => ?_)
                ·
                  refine lv_iconst (v := 0) hx hb d_1_18_58 (by decide) ?_
                  refine lv_goto (tgt := 80) hx hb d_1_18_59 (by decide) ?_
                  refine q_goxv V (q_runSX (As := [.int 0]) (rest := []) (d := 7) (mc := 1) (ms := 6) C0 V rfl LS_NH_104 (c_NH_need l D g ws hlt 0 _) rfl hl.1 rfl (Nat.le_of_ble_eq_true rfl) ⟨by decide, by decide⟩ ⟨Nat.le_of_ble_eq_true rfl, Nat.le_of_ble_eq_true rfl⟩ d_1_18_80) (fun qx Ex ce u115 H locs hp114 V hce hcv hcl => ?_) (fun u115 H locs hp114 V => ?_)
                  ·
                    obtain ⟨c116, rfl, rfl⟩ := hp114
                    exact q_outT hno C0 V (⟨⟨rfl, (show ¬ ((2 ≤ x1.toInt ∧ x1.toInt ≤ 3) ∧ (0 ≤ x2.toInt ∧ x2.toInt ≤ 9) ∧ (0 ≤ x5.toInt ∧ x5.toInt ≤ 3) ∧ (x3.toInt ≠ 0 → (1 ≤ x4.toInt ∧ x4.toInt ≤ 800)) ∧ (x3.toInt = 0 → (0 ≤ x4.toInt ∧ x4.toInt ≤ 1100))) from by have t1 : x1.toInt = 2 := q_eqI c1; have t2 : 0 ≤ x2.toInt := q_nltI c10; have t3 : x2.toInt < 10 := q_nleI c11; have t4 : 0 ≤ x5.toInt := q_nltI c28; have t5 : x5.toInt ≤ 3 := q_nltI c35; have t6 : x3.toInt ≠ 0 := q_neI c48; have t7 : 1 ≤ x4.toInt := q_nltI c106; have t8 : 800 < x4.toInt := q_ltI c113; omega)⟩, hF⟩) hce hcv hcl (Nat.le_of_ble_eq_true rfl) (Nat.le_of_ble_eq_true rfl)
                  ·
                    obtain ⟨c118, rfl⟩ := hp114
                    exact absurd c118 (by decide)
                ·
                  refine lv_iconst (v := 1) hx hb d_1_18_54 (by decide) ?_
                  refine lv_goto (tgt := 80) hx hb d_1_18_55 (by decide) ?_
                  refine q_goxv V (q_runSX (As := [.int 1]) (rest := []) (d := 7) (mc := 1) (ms := 6) C0 V rfl LS_NH_104 (c_NH_need l D g ws hlt 1 _) rfl hl.1 rfl (Nat.le_of_ble_eq_true rfl) ⟨by decide, by decide⟩ ⟨Nat.le_of_ble_eq_true rfl, Nat.le_of_ble_eq_true rfl⟩ d_1_18_80) (fun qx Ex ce u121 H locs hp120 V hce hcv hcl => ?_) (fun u121 H locs hp120 V => ?_)
                  ·
                    obtain ⟨c122, rfl, rfl⟩ := hp120
                    exact absurd c122 (by decide)
                  ·
                    obtain ⟨c124, rfl⟩ := hp120
                    refine lv_aload_n hx hb d_1_18_83 rfl (lv_at hl 0 rfl) ?_
                    refine lv_iload_n hx hb d_1_18_84 rfl (lv_at hl 1 rfl) ?_
                    refine q_ti (v := 2) c1 ?_
                    refine q_gor (post := fun r u => (¬ 2 = 2 ∧ qO10 = r ∧ ws = u) ∨ (2 = 2 ∧ qO9 = r ∧ ws = u)) V (q_runV (As := [.int 2]) (rest := []) (d := 1) (mc := 0) (ms := 0) (ci := 0) C0 V rfl LV_NH_130 (c_NH_floatsOf l D g ws qO0 qO1 qO2 qA3 qA4 qA5 qA6 qO7 qO8 qO9 qO10 qO11 qO12 qO13 qO14 2 hO0 (q_Ile (x := 2) (y := 2) (by decide) (by decide) (by omega)) (q_Ile (x := 2) (y := 3) (by decide) (by decide) (by omega)) _) rfl rfl hO0 rfl hl.1 rfl (Nat.le_of_ble_eq_true rfl) ⟨by decide, by decide⟩ ⟨Nat.le_of_ble_eq_true rfl, Nat.le_of_ble_eq_true rfl⟩ d_1_18_85) (fun v128 u127 H locs hp126 V => ?_)
                    rcases hp126 with ⟨c129, rfl, rfl⟩ | ⟨c131, rfl, rfl⟩
                    ·
                      exact absurd c129 (by decide)
                    ·
                      refine lv_astore (lv' := [(6, .ref qO9), (0, .ref qO0), (1, .int x1), (2, .int x2), (3, .int x3), (4, .int x4), (5, .int x5)]) hx hb d_1_18_88 hl (by decide) rfl (fun ls hl => ?_)
                      refine lv_aload_n hx hb d_1_18_90 rfl (lv_at hl 1 rfl) ?_
                      refine lv_iload_n hx hb d_1_18_91 rfl (lv_at hl 2 rfl) ?_
                      refine q_ti (v := 2) c1 ?_
                      refine q_gor (post := fun r u => qA5 = r ∧ ws = u) V (q_runV (As := [.int 2]) (rest := []) (d := 1) (mc := 0) (ms := 0) (ci := 0) C0 V rfl LV_NH_157 (c_NH_floatRow_2 l D g ws qO0 qO1 qO2 qA3 qA4 qA5 qA6 qO7 qO8 qO9 qO10 qO11 qO12 qO13 qO14 hO0 _) rfl rfl hO0 rfl hl.1 rfl (Nat.le_of_ble_eq_true rfl) ⟨by decide, by decide⟩ ⟨Nat.le_of_ble_eq_true rfl, Nat.le_of_ble_eq_true rfl⟩ d_1_18_92) (fun v135 u134 H locs hp133 V => ?_)
                      obtain ⟨rfl, rfl⟩ := hp133
                      refine lv_iload_n hx hb d_1_18_95 rfl (lv_at hl 3 rfl) ?_
                      refine q_lald C0 V hA5 (q_ix (x := x2.toInt) rfl (by have t1 : 0 ≤ x2.toInt := q_nltI c10; have t2 : x2.toInt < 10 := q_nleI c11; omega) (by have t1 : 0 ≤ x2.toInt := q_nltI c10; have t2 : x2.toInt < 10 := q_nleI c11; omega)) d_1_18_96 ?_
                      refine q_tl (v := 0) (by first | rfl | decide | simp [upd, vp_updL, sb_cl0]) ?_
                      refine lv_lstore (lv' := [(7, .long 0), (6, .ref qO9), (0, .ref qO0), (1, .int x1), (2, .int x2), (3, .int x3), (4, .int x4), (5, .int x5)]) hx hb d_1_18_97 hl (by decide) rfl (fun ls hl => ?_)
                      refine lv_aload hx hb d_1_18_99 (lv_at hl 1 rfl) ?_
                      refine lv_lload hx hb d_1_18_101 (lv_at hl 0 rfl) ?_
                      refine q_goi V (q_runV (As := [.long 0]) (rest := []) (d := 2) (mc := 0) (ms := 0) (ci := 6) C0 V rfl LV_NH_179 (c_Flo_isFinite_2 l D g ws 34 qO9 qO7 hO9 _) rfl rfl hO9 rfl hl.1 rfl (Nat.le_of_ble_eq_true rfl) ⟨by decide, by decide⟩ ⟨Nat.le_of_ble_eq_true rfl, Nat.le_of_ble_eq_true rfl⟩ d_1_18_103) (fun v139 u138 H locs hp137 V => ?_)
                      obtain ⟨rfl, rfl⟩ := hp137
                      refine q_goxv V (q_runSX (As := [.int 1]) (rest := []) (d := 7) (mc := 1) (ms := 6) C0 V rfl LS_NH_138 (c_NH_canHave l D g ws hlt 1 _) rfl hl.1 rfl (Nat.le_of_ble_eq_true rfl) ⟨by decide, by decide⟩ ⟨Nat.le_of_ble_eq_true rfl, Nat.le_of_ble_eq_true rfl⟩ d_1_18_106) (fun qx Ex ce u142 H locs hp141 V hce hcv hcl => ?_) (fun u142 H locs hp141 V => ?_)
                      ·
                        obtain ⟨c143, rfl, rfl⟩ := hp141
                        exact absurd c143 (by decide)
                      ·
                        obtain ⟨c145, rfl⟩ := hp141
                        refine lv_aload_n hx hb d_1_18_109 rfl (lv_at hl 2 rfl) ?_
                        refine q_get (ci := 0) (j := 12) (v := .ref qO13) C0 V i_NH rfl rfl hO0 (by decide) w_436 rfl d_1_18_110 ?_
                        refine lv_aload hx hb d_1_18_113 (lv_at hl 1 rfl) ?_
                        refine lv_lload hx hb d_1_18_115 (lv_at hl 0 rfl) ?_
                        refine lv_iload_n hx hb d_1_18_117 rfl (lv_at hl 5 rfl) ?_
                        refine lv_iload hx hb d_1_18_118 (lv_at hl 6 rfl) ?_
                        refine lv_iload hx hb d_1_18_120 (lv_at hl 7 rfl) ?_
                        refine q_gov V (q_runV (As := [.ref qO9, .long 0, .int x3, .int x4, .int x5]) (rest := []) (d := 4) (mc := 0) (ms := 0) (ci := 9) C0 V rfl LV_NH_335 (c_Wri_exactText_2 l D g ws 39 34 3 9 36 4 10 11 qO13 qO9 qO2 qO7 qO11 qA16 qO17 qO18 qO19 qO20 qO21 qO22 qO23 qO24 qO25 qO26 qA28 qA35 x3 x4 x5 hO13 hO9 hO2 hO7 hO11 hA16 hO17 hA35 (q_pd 11 4 rfl) (q_Ile (x := 1) (y := x4.toInt) (by decide) rfl (by have t1 : 1 ≤ x4.toInt := q_nltI c106; have t2 : x4.toInt ≤ 800 := q_nltI c113; omega)) (q_Ile (x := x4.toInt) (y := 800) rfl (by decide) (by have t1 : 1 ≤ x4.toInt := q_nltI c106; have t2 : x4.toInt ≤ 800 := q_nltI c113; omega)) (q_Ile (x := 0) (y := x5.toInt) (by decide) rfl (by have t1 : 0 ≤ x5.toInt := q_nltI c28; have t2 : x5.toInt ≤ 3 := q_nltI c35; omega)) (q_Ile (x := x5.toInt) (y := 3) rfl (by decide) (by have t1 : 0 ≤ x5.toInt := q_nltI c28; have t2 : x5.toInt ≤ 3 := q_nltI c35; omega)) _) rfl rfl hO13 rfl hl.1 rfl (Nat.le_of_ble_eq_true rfl) ⟨by decide, by decide⟩ ⟨Nat.le_of_ble_eq_true rfl, Nat.le_of_ble_eq_true rfl⟩ d_1_18_122) (fun u148 H locs hp147 V => ?_)
                        rcases hp147 with ⟨y154, y155, c149, c150, f151, f152, f153, hg156, hO2, hO11, hA16, hO17, hA35⟩ | ⟨y162, y163, c157, c158, f159, f160, f161, hg164, hO2, hO11, hA16, hO17, hA35⟩ | ⟨y170, y171, c165, c166, f167, f168, f169, hg172, hO2, hO11, hA16, hO17, hA35⟩
                        ·
                          replace hF := q_gc hF hg156 (q_al (Nat.le_of_ble_eq_true rfl) (q_al (Nat.le_of_ble_eq_true rfl) (q_al (Nat.le_of_ble_eq_true rfl) (q_al (Nat.le_of_ble_eq_true rfl) (q_al (Nat.le_of_ble_eq_true rfl) (fun _ h => absurd h List.not_mem_nil))))))
                          refine lv_aload_n hx hb d_1_18_125 rfl (lv_at hl 2 rfl) ?_
                          replace hO0 := (hg156 _ (q_nc (q_pd 0 3 rfl) (q_nc (q_pd 0 36 rfl) (q_nc (q_pd 0 4 rfl) (q_nc (q_pd 0 10 rfl) (q_nc (q_pd 0 11 rfl) List.not_mem_nil)))))).trans (hO0)
                          refine q_get (ci := 0) (j := 1) (v := .ref qO2) C0 V i_NH rfl rfl hO0 (by decide) w_425 rfl d_1_18_126 ?_
                          refine q_get (ci := 1) (j := 2) (v := .int y154) C0 V i_She rfl rfl hO2 (by decide) w_56 rfl d_1_18_129 ?_
                          exact q_retX (q_reti C0 V (⟨(show ((2 ≤ x1.toInt ∧ x1.toInt ≤ 3) ∧ (0 ≤ x2.toInt ∧ x2.toInt ≤ 9) ∧ (0 ≤ x5.toInt ∧ x5.toInt ≤ 3) ∧ (x3.toInt ≠ 0 → (1 ≤ x4.toInt ∧ x4.toInt ≤ 800)) ∧ (x3.toInt = 0 → (0 ≤ x4.toInt ∧ x4.toInt ≤ 1100))) ∧ ((x3.toInt ≠ 0 ∧ x4.toInt = 1 ∧ (y154 : Int32).toInt = 5) ∨ (x3.toInt ≠ 0 ∧ 1 < x4.toInt ∧ (y154 : Int32).toInt = x4.toInt + 5) ∨ (x3.toInt = 0 ∧ x4.toInt = 0 ∧ (y154 : Int32).toInt = 1) ∨ (x3.toInt = 0 ∧ 0 < x4.toInt ∧ (y154 : Int32).toInt = x4.toInt + 2)) from by have t1 : x1.toInt = 2 := q_eqI c1; have t2 : 0 ≤ x2.toInt := q_nltI c10; have t3 : x2.toInt < 10 := q_nleI c11; have t4 : 0 ≤ x5.toInt := q_nltI c28; have t5 : x5.toInt ≤ 3 := q_nltI c35; have t6 : x3.toInt ≠ 0 := q_neI c48; have t7 : 1 ≤ x4.toInt := q_nltI c106; have t8 : x4.toInt ≤ 800 := q_nltI c113; have t9 : x3.toInt = 0 := q_eqI c149; have t10 : 0 < x4.toInt := q_ltI c150; have t11 : 2 ≤ y154.toInt := q_leI f152; have t12 : y154.toInt ≤ 1102 := q_leI f153; omega), hF⟩) d_1_18_132)
                        ·
                          replace hF := q_gc hF hg164 (q_al (Nat.le_of_ble_eq_true rfl) (q_al (Nat.le_of_ble_eq_true rfl) (q_al (Nat.le_of_ble_eq_true rfl) (q_al (Nat.le_of_ble_eq_true rfl) (q_al (Nat.le_of_ble_eq_true rfl) (fun _ h => absurd h List.not_mem_nil))))))
                          refine lv_aload_n hx hb d_1_18_125 rfl (lv_at hl 2 rfl) ?_
                          replace hO0 := (hg164 _ (q_nc (q_pd 0 3 rfl) (q_nc (q_pd 0 36 rfl) (q_nc (q_pd 0 4 rfl) (q_nc (q_pd 0 10 rfl) (q_nc (q_pd 0 11 rfl) List.not_mem_nil)))))).trans (hO0)
                          refine q_get (ci := 0) (j := 1) (v := .ref qO2) C0 V i_NH rfl rfl hO0 (by decide) w_425 rfl d_1_18_126 ?_
                          refine q_get (ci := 1) (j := 2) (v := .int ((((y162 + 1) + 1) + 1) + 1)) C0 V i_She rfl rfl hO2 (by decide) w_56 rfl d_1_18_129 ?_
                          exact q_retX (q_reti C0 V (⟨(show ((2 ≤ x1.toInt ∧ x1.toInt ≤ 3) ∧ (0 ≤ x2.toInt ∧ x2.toInt ≤ 9) ∧ (0 ≤ x5.toInt ∧ x5.toInt ≤ 3) ∧ (x3.toInt ≠ 0 → (1 ≤ x4.toInt ∧ x4.toInt ≤ 800)) ∧ (x3.toInt = 0 → (0 ≤ x4.toInt ∧ x4.toInt ≤ 1100))) ∧ ((x3.toInt ≠ 0 ∧ x4.toInt = 1 ∧ ((((y162 + 1) + 1) + 1) + 1 : Int32).toInt = 5) ∨ (x3.toInt ≠ 0 ∧ 1 < x4.toInt ∧ ((((y162 + 1) + 1) + 1) + 1 : Int32).toInt = x4.toInt + 5) ∨ (x3.toInt = 0 ∧ x4.toInt = 0 ∧ ((((y162 + 1) + 1) + 1) + 1 : Int32).toInt = 1) ∨ (x3.toInt = 0 ∧ 0 < x4.toInt ∧ ((((y162 + 1) + 1) + 1) + 1 : Int32).toInt = x4.toInt + 2)) from by have t1 : x1.toInt = 2 := q_eqI c1; have t2 : 0 ≤ x2.toInt := q_nltI c10; have t3 : x2.toInt < 10 := q_nleI c11; have t4 : 0 ≤ x5.toInt := q_nltI c28; have t5 : x5.toInt ≤ 3 := q_nltI c35; have t6 : x3.toInt ≠ 0 := q_neI c48; have t7 : 1 ≤ x4.toInt := q_nltI c106; have t8 : x4.toInt ≤ 800 := q_nltI c113; have t9 : x3.toInt ≠ 0 := q_neI c157; have t10 : 1 < x4.toInt := q_ltI c158; have t11 : 2 ≤ y162.toInt := q_leI f160; have t12 : y162.toInt ≤ 801 := q_leI f161; have e0 : ((((y162 + 1) + 1) + 1) + 1 : Int32).toInt = ((((y162.toInt + 1) + 1) + 1) + 1) := (q_addI (x := (((y162.toInt + 1) + 1) + 1)) (y := 1) (q_addI (x := ((y162.toInt + 1) + 1)) (y := 1) (q_addI (x := (y162.toInt + 1)) (y := 1) (q_addI (x := y162.toInt) (y := 1) rfl (by decide) (by have t1 : 2 ≤ y162.toInt := q_leI f160; have t2 : y162.toInt ≤ 801 := q_leI f161; omega) (by have t1 : 2 ≤ y162.toInt := q_leI f160; have t2 : y162.toInt ≤ 801 := q_leI f161; omega)) (by decide) (by have t1 : 2 ≤ y162.toInt := q_leI f160; have t2 : y162.toInt ≤ 801 := q_leI f161; omega) (by have t1 : 2 ≤ y162.toInt := q_leI f160; have t2 : y162.toInt ≤ 801 := q_leI f161; omega)) (by decide) (by have t1 : 2 ≤ y162.toInt := q_leI f160; have t2 : y162.toInt ≤ 801 := q_leI f161; omega) (by have t1 : 2 ≤ y162.toInt := q_leI f160; have t2 : y162.toInt ≤ 801 := q_leI f161; omega)) (by decide) (by have t1 : 2 ≤ y162.toInt := q_leI f160; have t2 : y162.toInt ≤ 801 := q_leI f161; omega) (by have t1 : 2 ≤ y162.toInt := q_leI f160; have t2 : y162.toInt ≤ 801 := q_leI f161; omega)); omega), hF⟩) d_1_18_132)
                        ·
                          replace hF := q_gc hF hg172 (q_al (Nat.le_of_ble_eq_true rfl) (q_al (Nat.le_of_ble_eq_true rfl) (q_al (Nat.le_of_ble_eq_true rfl) (q_al (Nat.le_of_ble_eq_true rfl) (q_al (Nat.le_of_ble_eq_true rfl) (fun _ h => absurd h List.not_mem_nil))))))
                          refine lv_aload_n hx hb d_1_18_125 rfl (lv_at hl 2 rfl) ?_
                          replace hO0 := (hg172 _ (q_nc (q_pd 0 3 rfl) (q_nc (q_pd 0 36 rfl) (q_nc (q_pd 0 4 rfl) (q_nc (q_pd 0 10 rfl) (q_nc (q_pd 0 11 rfl) List.not_mem_nil)))))).trans (hO0)
                          refine q_get (ci := 0) (j := 1) (v := .ref qO2) C0 V i_NH rfl rfl hO0 (by decide) w_425 rfl d_1_18_126 ?_
                          refine q_get (ci := 1) (j := 2) (v := .int ((((y170 + 1) + 1) + 1) + 1)) C0 V i_She rfl rfl hO2 (by decide) w_56 rfl d_1_18_129 ?_
                          refine q_ti (v := 5) (q_Ieq (x := ((((y170.toInt + 1) + 1) + 1) + 1)) (y := 5) (q_addI (x := (((y170.toInt + 1) + 1) + 1)) (y := 1) (q_addI (x := ((y170.toInt + 1) + 1)) (y := 1) (q_addI (x := (y170.toInt + 1)) (y := 1) (q_addI (x := y170.toInt) (y := 1) rfl (by decide) (by have t1 : 1 ≤ y170.toInt := q_leI f168; have t2 : y170.toInt ≤ 1 := q_leI f169; omega) (by have t1 : 1 ≤ y170.toInt := q_leI f168; have t2 : y170.toInt ≤ 1 := q_leI f169; omega)) (by decide) (by have t1 : 1 ≤ y170.toInt := q_leI f168; have t2 : y170.toInt ≤ 1 := q_leI f169; omega) (by have t1 : 1 ≤ y170.toInt := q_leI f168; have t2 : y170.toInt ≤ 1 := q_leI f169; omega)) (by decide) (by have t1 : 1 ≤ y170.toInt := q_leI f168; have t2 : y170.toInt ≤ 1 := q_leI f169; omega) (by have t1 : 1 ≤ y170.toInt := q_leI f168; have t2 : y170.toInt ≤ 1 := q_leI f169; omega)) (by decide) (by have t1 : 1 ≤ y170.toInt := q_leI f168; have t2 : y170.toInt ≤ 1 := q_leI f169; omega) (by have t1 : 1 ≤ y170.toInt := q_leI f168; have t2 : y170.toInt ≤ 1 := q_leI f169; omega)) (by decide) (by have t1 : 1 ≤ y170.toInt := q_leI f168; have t2 : y170.toInt ≤ 1 := q_leI f169; omega)) ?_
                          exact q_retX (q_reti C0 V (⟨(show ((2 ≤ x1.toInt ∧ x1.toInt ≤ 3) ∧ (0 ≤ x2.toInt ∧ x2.toInt ≤ 9) ∧ (0 ≤ x5.toInt ∧ x5.toInt ≤ 3) ∧ (x3.toInt ≠ 0 → (1 ≤ x4.toInt ∧ x4.toInt ≤ 800)) ∧ (x3.toInt = 0 → (0 ≤ x4.toInt ∧ x4.toInt ≤ 1100))) ∧ ((x3.toInt ≠ 0 ∧ x4.toInt = 1 ∧ (5 : Int32).toInt = 5) ∨ (x3.toInt ≠ 0 ∧ 1 < x4.toInt ∧ (5 : Int32).toInt = x4.toInt + 5) ∨ (x3.toInt = 0 ∧ x4.toInt = 0 ∧ (5 : Int32).toInt = 1) ∨ (x3.toInt = 0 ∧ 0 < x4.toInt ∧ (5 : Int32).toInt = x4.toInt + 2)) from by have t1 : x1.toInt = 2 := q_eqI c1; have t2 : 0 ≤ x2.toInt := q_nltI c10; have t3 : x2.toInt < 10 := q_nleI c11; have t4 : 0 ≤ x5.toInt := q_nltI c28; have t5 : x5.toInt ≤ 3 := q_nltI c35; have t6 : x3.toInt ≠ 0 := q_neI c48; have t7 : 1 ≤ x4.toInt := q_nltI c106; have t8 : x4.toInt ≤ 800 := q_nltI c113; have t9 : x3.toInt ≠ 0 := q_neI c165; have t10 : x4.toInt ≤ 1 := q_nltI c166; have t11 : 1 ≤ y170.toInt := q_leI f168; have t12 : y170.toInt ≤ 1 := q_leI f169; have e0 : (5 : Int32).toInt = 5 := (by decide); omega), hF⟩) d_1_18_132)
  ·
    refine lv_iload_n hx hb d_1_18_5 rfl (lv_at hl 1 rfl) ?_
    refine lv_iconst (v := 3) hx hb d_1_18_6 (by decide) ?_
    refine lv_icmp_ne (tgt := 32) hx hb d_1_18_7 (by decide) (fun c173 => ?_) (fun c173 => ?_)
    ·
      refine lv_iconst (v := 0) hx hb d_1_18_32 (by decide) ?_
      refine q_goxv V (q_runSX (As := [.int 0]) (rest := []) (d := 7) (mc := 1) (ms := 6) C0 V rfl LS_NH_104 (c_NH_need l D g ws hlt 0 _) rfl hl.1 rfl (Nat.le_of_ble_eq_true rfl) ⟨by decide, by decide⟩ ⟨Nat.le_of_ble_eq_true rfl, Nat.le_of_ble_eq_true rfl⟩ d_1_18_33) (fun qx Ex ce u175 H locs hp174 V hce hcv hcl => ?_) (fun u175 H locs hp174 V => ?_)
      ·
        obtain ⟨c176, rfl, rfl⟩ := hp174
        exact q_outT hno C0 V (⟨⟨rfl, (show ¬ ((2 ≤ x1.toInt ∧ x1.toInt ≤ 3) ∧ (0 ≤ x2.toInt ∧ x2.toInt ≤ 9) ∧ (0 ≤ x5.toInt ∧ x5.toInt ≤ 3) ∧ (x3.toInt ≠ 0 → (1 ≤ x4.toInt ∧ x4.toInt ≤ 800)) ∧ (x3.toInt = 0 → (0 ≤ x4.toInt ∧ x4.toInt ≤ 1100))) from by have t1 : x1.toInt ≠ 2 := q_neI c1; have t2 : x1.toInt ≠ 3 := q_neI c173; omega)⟩, hF⟩) hce hcv hcl (Nat.le_of_ble_eq_true rfl) (Nat.le_of_ble_eq_true rfl)
      ·
        obtain ⟨c178, rfl⟩ := hp174
        exact absurd c178 (by decide)
    ·
      refine lv_iload_n hx hb d_1_18_10 rfl (lv_at hl 2 rfl) ?_
      refine q_goi V (q_runS (As := [.int x2]) (rest := []) (d := 1) (mc := 0) (ms := 0) C0 V rfl LS_NH_212 (c_NH_isRegister l D g ws x2 _) rfl hl.1 rfl (Nat.le_of_ble_eq_true rfl) ⟨by decide, by decide⟩ ⟨Nat.le_of_ble_eq_true rfl, Nat.le_of_ble_eq_true rfl⟩ d_1_18_11) (fun v182 u181 H locs hp180 V => ?_)
      rcases hp180 with ⟨c183, rfl, rfl⟩ | ⟨c185, c186, rfl, rfl⟩ | ⟨c188, c189, rfl, rfl⟩
      ·
        refine lv_if_eq (tgt := 32) hx hb d_1_18_14 (by decide) (fun c191 => ?_) (fun c191 => absurd (by decide) c191)
        refine lv_iconst (v := 0) hx hb d_1_18_32 (by decide) ?_
        refine q_goxv V (q_runSX (As := [.int 0]) (rest := []) (d := 7) (mc := 1) (ms := 6) C0 V rfl LS_NH_104 (c_NH_need l D g ws hlt 0 _) rfl hl.1 rfl (Nat.le_of_ble_eq_true rfl) ⟨by decide, by decide⟩ ⟨Nat.le_of_ble_eq_true rfl, Nat.le_of_ble_eq_true rfl⟩ d_1_18_33) (fun qx Ex ce u193 H locs hp192 V hce hcv hcl => ?_) (fun u193 H locs hp192 V => ?_)
        ·
          obtain ⟨c194, rfl, rfl⟩ := hp192
          exact q_outT hno C0 V (⟨⟨rfl, (show ¬ ((2 ≤ x1.toInt ∧ x1.toInt ≤ 3) ∧ (0 ≤ x2.toInt ∧ x2.toInt ≤ 9) ∧ (0 ≤ x5.toInt ∧ x5.toInt ≤ 3) ∧ (x3.toInt ≠ 0 → (1 ≤ x4.toInt ∧ x4.toInt ≤ 800)) ∧ (x3.toInt = 0 → (0 ≤ x4.toInt ∧ x4.toInt ≤ 1100))) from by have t1 : x1.toInt ≠ 2 := q_neI c1; have t2 : x1.toInt = 3 := q_eqI c173; have t3 : x2.toInt < 0 := q_ltI c183; omega)⟩, hF⟩) hce hcv hcl (Nat.le_of_ble_eq_true rfl) (Nat.le_of_ble_eq_true rfl)
        ·
          obtain ⟨c196, rfl⟩ := hp192
          exact absurd c196 (by decide)
      ·
        refine lv_if_eq (tgt := 32) hx hb d_1_18_14 (by decide) (fun c198 => ?_) (fun c198 => absurd (by decide) c198)
        refine lv_iconst (v := 0) hx hb d_1_18_32 (by decide) ?_
        refine q_goxv V (q_runSX (As := [.int 0]) (rest := []) (d := 7) (mc := 1) (ms := 6) C0 V rfl LS_NH_104 (c_NH_need l D g ws hlt 0 _) rfl hl.1 rfl (Nat.le_of_ble_eq_true rfl) ⟨by decide, by decide⟩ ⟨Nat.le_of_ble_eq_true rfl, Nat.le_of_ble_eq_true rfl⟩ d_1_18_33) (fun qx Ex ce u200 H locs hp199 V hce hcv hcl => ?_) (fun u200 H locs hp199 V => ?_)
        ·
          obtain ⟨c201, rfl, rfl⟩ := hp199
          exact q_outT hno C0 V (⟨⟨rfl, (show ¬ ((2 ≤ x1.toInt ∧ x1.toInt ≤ 3) ∧ (0 ≤ x2.toInt ∧ x2.toInt ≤ 9) ∧ (0 ≤ x5.toInt ∧ x5.toInt ≤ 3) ∧ (x3.toInt ≠ 0 → (1 ≤ x4.toInt ∧ x4.toInt ≤ 800)) ∧ (x3.toInt = 0 → (0 ≤ x4.toInt ∧ x4.toInt ≤ 1100))) from by have t1 : x1.toInt ≠ 2 := q_neI c1; have t2 : x1.toInt = 3 := q_eqI c173; have t3 : 0 ≤ x2.toInt := q_nltI c185; have t4 : 10 ≤ x2.toInt := q_leI c186; omega)⟩, hF⟩) hce hcv hcl (Nat.le_of_ble_eq_true rfl) (Nat.le_of_ble_eq_true rfl)
        ·
          obtain ⟨c203, rfl⟩ := hp199
          exact absurd c203 (by decide)
      ·
        refine lv_if_eq (tgt := 32) hx hb d_1_18_14 (by decide) (fun c205 => absurd c205 (by decide)) (fun c205 => ?_)
        refine lv_iload hx hb d_1_18_17 (lv_at hl 5 rfl) ?_
        refine lv_if_lt (tgt := 32) hx hb d_1_18_19 (by decide) (fun c206 => ?_) (fun c206 => ?_)
        ·
          refine lv_iconst (v := 0) hx hb d_1_18_32 (by decide) ?_
          refine q_goxv V (q_runSX (As := [.int 0]) (rest := []) (d := 7) (mc := 1) (ms := 6) C0 V rfl LS_NH_104 (c_NH_need l D g ws hlt 0 _) rfl hl.1 rfl (Nat.le_of_ble_eq_true rfl) ⟨by decide, by decide⟩ ⟨Nat.le_of_ble_eq_true rfl, Nat.le_of_ble_eq_true rfl⟩ d_1_18_33) (fun qx Ex ce u208 H locs hp207 V hce hcv hcl => ?_) (fun u208 H locs hp207 V => ?_)
          ·
            obtain ⟨c209, rfl, rfl⟩ := hp207
            exact q_outT hno C0 V (⟨⟨rfl, (show ¬ ((2 ≤ x1.toInt ∧ x1.toInt ≤ 3) ∧ (0 ≤ x2.toInt ∧ x2.toInt ≤ 9) ∧ (0 ≤ x5.toInt ∧ x5.toInt ≤ 3) ∧ (x3.toInt ≠ 0 → (1 ≤ x4.toInt ∧ x4.toInt ≤ 800)) ∧ (x3.toInt = 0 → (0 ≤ x4.toInt ∧ x4.toInt ≤ 1100))) from by have t1 : x1.toInt ≠ 2 := q_neI c1; have t2 : x1.toInt = 3 := q_eqI c173; have t3 : 0 ≤ x2.toInt := q_nltI c188; have t4 : x2.toInt < 10 := q_nleI c189; have t5 : x5.toInt < 0 := q_ltI c206; omega)⟩, hF⟩) hce hcv hcl (Nat.le_of_ble_eq_true rfl) (Nat.le_of_ble_eq_true rfl)
          ·
            obtain ⟨c211, rfl⟩ := hp207
            exact absurd c211 (by decide)
        ·
          refine lv_iload hx hb d_1_18_22 (lv_at hl 5 rfl) ?_
          refine lv_iconst (v := 3) hx hb d_1_18_24 (by decide) ?_
          refine lv_icmp_gt (tgt := 32) hx hb d_1_18_25 (by decide) (fun c213 => ?_) (fun c213 => ?_)
          ·
            refine lv_iconst (v := 0) hx hb d_1_18_32 (by decide) ?_
            refine q_goxv V (q_runSX (As := [.int 0]) (rest := []) (d := 7) (mc := 1) (ms := 6) C0 V rfl LS_NH_104 (c_NH_need l D g ws hlt 0 _) rfl hl.1 rfl (Nat.le_of_ble_eq_true rfl) ⟨by decide, by decide⟩ ⟨Nat.le_of_ble_eq_true rfl, Nat.le_of_ble_eq_true rfl⟩ d_1_18_33) (fun qx Ex ce u215 H locs hp214 V hce hcv hcl => ?_) (fun u215 H locs hp214 V => ?_)
            ·
              obtain ⟨c216, rfl, rfl⟩ := hp214
              exact q_outT hno C0 V (⟨⟨rfl, (show ¬ ((2 ≤ x1.toInt ∧ x1.toInt ≤ 3) ∧ (0 ≤ x2.toInt ∧ x2.toInt ≤ 9) ∧ (0 ≤ x5.toInt ∧ x5.toInt ≤ 3) ∧ (x3.toInt ≠ 0 → (1 ≤ x4.toInt ∧ x4.toInt ≤ 800)) ∧ (x3.toInt = 0 → (0 ≤ x4.toInt ∧ x4.toInt ≤ 1100))) from by have t1 : x1.toInt ≠ 2 := q_neI c1; have t2 : x1.toInt = 3 := q_eqI c173; have t3 : 0 ≤ x2.toInt := q_nltI c188; have t4 : x2.toInt < 10 := q_nleI c189; have t5 : 0 ≤ x5.toInt := q_nltI c206; have t6 : 3 < x5.toInt := q_ltI c213; omega)⟩, hF⟩) hce hcv hcl (Nat.le_of_ble_eq_true rfl) (Nat.le_of_ble_eq_true rfl)
            ·
              obtain ⟨c218, rfl⟩ := hp214
              exact absurd c218 (by decide)
          ·
            refine lv_iconst (v := 1) hx hb d_1_18_28 (by decide) ?_
            refine lv_goto (tgt := 33) hx hb d_1_18_29 (by decide) ?_
            refine q_goxv V (q_runSX (As := [.int 1]) (rest := []) (d := 7) (mc := 1) (ms := 6) C0 V rfl LS_NH_104 (c_NH_need l D g ws hlt 1 _) rfl hl.1 rfl (Nat.le_of_ble_eq_true rfl) ⟨by decide, by decide⟩ ⟨Nat.le_of_ble_eq_true rfl, Nat.le_of_ble_eq_true rfl⟩ d_1_18_33) (fun qx Ex ce u221 H locs hp220 V hce hcv hcl => ?_) (fun u221 H locs hp220 V => ?_)
            ·
              obtain ⟨c222, rfl, rfl⟩ := hp220
              exact absurd c222 (by decide)
            ·
              obtain ⟨c224, rfl⟩ := hp220
              refine lv_iload_n hx hb d_1_18_36 rfl (lv_at hl 3 rfl) ?_
              refine lv_if_eq (tgt := 62) hx hb d_1_18_37 (by decide) (fun c226 => ?_) (fun c226 => ?_)
              ·
                refine lv_iload hx hb d_1_18_62 (lv_at hl 4 rfl) ?_
                refine lv_if_lt (tgt := 79) hx hb d_1_18_64 (by decide) (fun c227 => ?_) (fun c227 => ?_)
                ·
                  refine lv_iconst (v := 0) hx hb d_1_18_79 (by decide) ?_
                  refine q_goxv V (q_runSX (As := [.int 0]) (rest := []) (d := 7) (mc := 1) (ms := 6) C0 V rfl LS_NH_104 (c_NH_need l D g ws hlt 0 _) rfl hl.1 rfl (Nat.le_of_ble_eq_true rfl) ⟨by decide, by decide⟩ ⟨Nat.le_of_ble_eq_true rfl, Nat.le_of_ble_eq_true rfl⟩ d_1_18_80) (fun qx Ex ce u229 H locs hp228 V hce hcv hcl => ?_) (fun u229 H locs hp228 V => ?_)
                  ·
                    obtain ⟨c230, rfl, rfl⟩ := hp228
                    exact q_outT hno C0 V (⟨⟨rfl, (show ¬ ((2 ≤ x1.toInt ∧ x1.toInt ≤ 3) ∧ (0 ≤ x2.toInt ∧ x2.toInt ≤ 9) ∧ (0 ≤ x5.toInt ∧ x5.toInt ≤ 3) ∧ (x3.toInt ≠ 0 → (1 ≤ x4.toInt ∧ x4.toInt ≤ 800)) ∧ (x3.toInt = 0 → (0 ≤ x4.toInt ∧ x4.toInt ≤ 1100))) from by have t1 : x1.toInt ≠ 2 := q_neI c1; have t2 : x1.toInt = 3 := q_eqI c173; have t3 : 0 ≤ x2.toInt := q_nltI c188; have t4 : x2.toInt < 10 := q_nleI c189; have t5 : 0 ≤ x5.toInt := q_nltI c206; have t6 : x5.toInt ≤ 3 := q_nltI c213; have t7 : x3.toInt = 0 := q_eqI c226; have t8 : x4.toInt < 0 := q_ltI c227; omega)⟩, hF⟩) hce hcv hcl (Nat.le_of_ble_eq_true rfl) (Nat.le_of_ble_eq_true rfl)
                  ·
                    obtain ⟨c232, rfl⟩ := hp228
                    exact absurd c232 (by decide)
                ·
                  refine lv_iload hx hb d_1_18_67 (lv_at hl 4 rfl) ?_
                  refine lv_sipush (v := 1100) hx hb d_1_18_69 (by decide) ?_
                  refine lv_icmp_gt (tgt := 79) hx hb d_1_18_72 (by decide) (fun c234 => ?_) (fun c234 => ?_)
                  ·
                    refine lv_iconst (v := 0) hx hb d_1_18_79 (by decide) ?_
                    refine q_goxv V (q_runSX (As := [.int 0]) (rest := []) (d := 7) (mc := 1) (ms := 6) C0 V rfl LS_NH_104 (c_NH_need l D g ws hlt 0 _) rfl hl.1 rfl (Nat.le_of_ble_eq_true rfl) ⟨by decide, by decide⟩ ⟨Nat.le_of_ble_eq_true rfl, Nat.le_of_ble_eq_true rfl⟩ d_1_18_80) (fun qx Ex ce u236 H locs hp235 V hce hcv hcl => ?_) (fun u236 H locs hp235 V => ?_)
                    ·
                      obtain ⟨c237, rfl, rfl⟩ := hp235
                      exact q_outT hno C0 V (⟨⟨rfl, (show ¬ ((2 ≤ x1.toInt ∧ x1.toInt ≤ 3) ∧ (0 ≤ x2.toInt ∧ x2.toInt ≤ 9) ∧ (0 ≤ x5.toInt ∧ x5.toInt ≤ 3) ∧ (x3.toInt ≠ 0 → (1 ≤ x4.toInt ∧ x4.toInt ≤ 800)) ∧ (x3.toInt = 0 → (0 ≤ x4.toInt ∧ x4.toInt ≤ 1100))) from by have t1 : x1.toInt ≠ 2 := q_neI c1; have t2 : x1.toInt = 3 := q_eqI c173; have t3 : 0 ≤ x2.toInt := q_nltI c188; have t4 : x2.toInt < 10 := q_nleI c189; have t5 : 0 ≤ x5.toInt := q_nltI c206; have t6 : x5.toInt ≤ 3 := q_nltI c213; have t7 : x3.toInt = 0 := q_eqI c226; have t8 : 0 ≤ x4.toInt := q_nltI c227; have t9 : 1100 < x4.toInt := q_ltI c234; omega)⟩, hF⟩) hce hcv hcl (Nat.le_of_ble_eq_true rfl) (Nat.le_of_ble_eq_true rfl)
                    ·
                      obtain ⟨c239, rfl⟩ := hp235
                      exact absurd c239 (by decide)
                  ·
                    refine lv_iconst (v := 1) hx hb d_1_18_75 (by decide) ?_
                    refine lv_goto (tgt := 80) hx hb d_1_18_76 (by decide) ?_
                    refine q_goxv V (q_runSX (As := [.int 1]) (rest := []) (d := 7) (mc := 1) (ms := 6) C0 V rfl LS_NH_104 (c_NH_need l D g ws hlt 1 _) rfl hl.1 rfl (Nat.le_of_ble_eq_true rfl) ⟨by decide, by decide⟩ ⟨Nat.le_of_ble_eq_true rfl, Nat.le_of_ble_eq_true rfl⟩ d_1_18_80) (fun qx Ex ce u242 H locs hp241 V hce hcv hcl => ?_) (fun u242 H locs hp241 V => ?_)
                    ·
                      obtain ⟨c243, rfl, rfl⟩ := hp241
                      exact absurd c243 (by decide)
                    ·
                      obtain ⟨c245, rfl⟩ := hp241
                      refine lv_aload_n hx hb d_1_18_83 rfl (lv_at hl 0 rfl) ?_
                      refine lv_iload_n hx hb d_1_18_84 rfl (lv_at hl 1 rfl) ?_
                      refine q_ti (v := 3) c173 ?_
                      refine q_gor (post := fun r u => (¬ 3 = 2 ∧ qO10 = r ∧ ws = u) ∨ (3 = 2 ∧ qO9 = r ∧ ws = u)) V (q_runV (As := [.int 3]) (rest := []) (d := 1) (mc := 0) (ms := 0) (ci := 0) C0 V rfl LV_NH_130 (c_NH_floatsOf l D g ws qO0 qO1 qO2 qA3 qA4 qA5 qA6 qO7 qO8 qO9 qO10 qO11 qO12 qO13 qO14 3 hO0 (q_Ile (x := 2) (y := 3) (by decide) (by decide) (by omega)) (q_Ile (x := 3) (y := 3) (by decide) (by decide) (by omega)) _) rfl rfl hO0 rfl hl.1 rfl (Nat.le_of_ble_eq_true rfl) ⟨by decide, by decide⟩ ⟨Nat.le_of_ble_eq_true rfl, Nat.le_of_ble_eq_true rfl⟩ d_1_18_85) (fun v249 u248 H locs hp247 V => ?_)
                      rcases hp247 with ⟨c250, rfl, rfl⟩ | ⟨c252, rfl, rfl⟩
                      ·
                        refine lv_astore (lv' := [(6, .ref qO10), (0, .ref qO0), (1, .int x1), (2, .int x2), (3, .int x3), (4, .int x4), (5, .int x5)]) hx hb d_1_18_88 hl (by decide) rfl (fun ls hl => ?_)
                        refine lv_aload_n hx hb d_1_18_90 rfl (lv_at hl 1 rfl) ?_
                        refine lv_iload_n hx hb d_1_18_91 rfl (lv_at hl 2 rfl) ?_
                        refine q_ti (v := 3) c173 ?_
                        refine q_gor (post := fun r u => qA6 = r ∧ ws = u) V (q_runV (As := [.int 3]) (rest := []) (d := 1) (mc := 0) (ms := 0) (ci := 0) C0 V rfl LV_NH_157 (c_NH_floatRow l D g ws qO0 qO1 qO2 qA3 qA4 qA5 qA6 qO7 qO8 qO9 qO10 qO11 qO12 qO13 qO14 hO0 _) rfl rfl hO0 rfl hl.1 rfl (Nat.le_of_ble_eq_true rfl) ⟨by decide, by decide⟩ ⟨Nat.le_of_ble_eq_true rfl, Nat.le_of_ble_eq_true rfl⟩ d_1_18_92) (fun v256 u255 H locs hp254 V => ?_)
                        obtain ⟨rfl, rfl⟩ := hp254
                        refine lv_iload_n hx hb d_1_18_95 rfl (lv_at hl 3 rfl) ?_
                        refine q_lald C0 V hA6 (q_ix (x := x2.toInt) rfl (by have t1 : 0 ≤ x2.toInt := q_nltI c188; have t2 : x2.toInt < 10 := q_nleI c189; omega) (by have t1 : 0 ≤ x2.toInt := q_nltI c188; have t2 : x2.toInt < 10 := q_nleI c189; omega)) d_1_18_96 ?_
                        refine q_tl (v := 0) (by first | rfl | decide | simp [upd, vp_updL, sb_cl0]) ?_
                        refine lv_lstore (lv' := [(7, .long 0), (6, .ref qO10), (0, .ref qO0), (1, .int x1), (2, .int x2), (3, .int x3), (4, .int x4), (5, .int x5)]) hx hb d_1_18_97 hl (by decide) rfl (fun ls hl => ?_)
                        refine lv_aload hx hb d_1_18_99 (lv_at hl 1 rfl) ?_
                        refine lv_lload hx hb d_1_18_101 (lv_at hl 0 rfl) ?_
                        refine q_goi V (q_runV (As := [.long 0]) (rest := []) (d := 2) (mc := 0) (ms := 0) (ci := 6) C0 V rfl LV_NH_179 (c_Flo_isFinite l D g ws 35 qO10 qO7 hO10 _) rfl rfl hO10 rfl hl.1 rfl (Nat.le_of_ble_eq_true rfl) ⟨by decide, by decide⟩ ⟨Nat.le_of_ble_eq_true rfl, Nat.le_of_ble_eq_true rfl⟩ d_1_18_103) (fun v260 u259 H locs hp258 V => ?_)
                        obtain ⟨rfl, rfl⟩ := hp258
                        refine q_goxv V (q_runSX (As := [.int 1]) (rest := []) (d := 7) (mc := 1) (ms := 6) C0 V rfl LS_NH_138 (c_NH_canHave l D g ws hlt 1 _) rfl hl.1 rfl (Nat.le_of_ble_eq_true rfl) ⟨by decide, by decide⟩ ⟨Nat.le_of_ble_eq_true rfl, Nat.le_of_ble_eq_true rfl⟩ d_1_18_106) (fun qx Ex ce u263 H locs hp262 V hce hcv hcl => ?_) (fun u263 H locs hp262 V => ?_)
                        ·
                          obtain ⟨c264, rfl, rfl⟩ := hp262
                          exact absurd c264 (by decide)
                        ·
                          obtain ⟨c266, rfl⟩ := hp262
                          refine lv_aload_n hx hb d_1_18_109 rfl (lv_at hl 2 rfl) ?_
                          refine q_get (ci := 0) (j := 12) (v := .ref qO13) C0 V i_NH rfl rfl hO0 (by decide) w_436 rfl d_1_18_110 ?_
                          refine lv_aload hx hb d_1_18_113 (lv_at hl 1 rfl) ?_
                          refine lv_lload hx hb d_1_18_115 (lv_at hl 0 rfl) ?_
                          refine lv_iload_n hx hb d_1_18_117 rfl (lv_at hl 5 rfl) ?_
                          refine q_ti (v := 0) c226 ?_
                          refine lv_iload hx hb d_1_18_118 (lv_at hl 6 rfl) ?_
                          refine lv_iload hx hb d_1_18_120 (lv_at hl 7 rfl) ?_
                          refine q_gov V (q_runV (As := [.ref qO10, .long 0, .int 0, .int x4, .int x5]) (rest := []) (d := 4) (mc := 0) (ms := 0) (ci := 9) C0 V rfl LV_NH_335 (c_Wri_exactText_3 l D g ws 39 35 3 9 36 4 10 11 qO13 qO10 qO2 qO7 qO11 qA16 qO17 qO18 qO19 qO20 qO21 qO22 qO23 qO24 qO25 qO26 qA28 qA35 x4 x5 hO13 hO10 hO2 hO7 hO11 hA16 hO17 hA35 (q_pd 11 4 rfl) (q_Ile (x := 0) (y := x4.toInt) (by decide) rfl (by have t1 : 0 ≤ x4.toInt := q_nltI c227; have t2 : x4.toInt ≤ 1100 := q_nltI c234; omega)) (q_Ile (x := x4.toInt) (y := 1100) rfl (by decide) (by have t1 : 0 ≤ x4.toInt := q_nltI c227; have t2 : x4.toInt ≤ 1100 := q_nltI c234; omega)) (q_Ile (x := 0) (y := x5.toInt) (by decide) rfl (by have t1 : 0 ≤ x5.toInt := q_nltI c206; have t2 : x5.toInt ≤ 3 := q_nltI c213; omega)) (q_Ile (x := x5.toInt) (y := 3) rfl (by decide) (by have t1 : 0 ≤ x5.toInt := q_nltI c206; have t2 : x5.toInt ≤ 3 := q_nltI c213; omega)) _) rfl rfl hO13 rfl hl.1 rfl (Nat.le_of_ble_eq_true rfl) ⟨by decide, by decide⟩ ⟨Nat.le_of_ble_eq_true rfl, Nat.le_of_ble_eq_true rfl⟩ d_1_18_122) (fun u269 H locs hp268 V => ?_)
                          rcases hp268 with ⟨y274, y275, c270, f271, f272, f273, hg276, hO2, hO11, hA16, hO17, hA35⟩ | ⟨y281, y282, c277, f278, f279, f280, hg283, hO2, hO11, hA16, hO17, hA35⟩
                          ·
                            replace hF := q_gc hF hg276 (q_al (Nat.le_of_ble_eq_true rfl) (q_al (Nat.le_of_ble_eq_true rfl) (q_al (Nat.le_of_ble_eq_true rfl) (q_al (Nat.le_of_ble_eq_true rfl) (q_al (Nat.le_of_ble_eq_true rfl) (fun _ h => absurd h List.not_mem_nil))))))
                            refine lv_aload_n hx hb d_1_18_125 rfl (lv_at hl 2 rfl) ?_
                            replace hO0 := (hg276 _ (q_nc (q_pd 0 3 rfl) (q_nc (q_pd 0 36 rfl) (q_nc (q_pd 0 4 rfl) (q_nc (q_pd 0 10 rfl) (q_nc (q_pd 0 11 rfl) List.not_mem_nil)))))).trans (hO0)
                            refine q_get (ci := 0) (j := 1) (v := .ref qO2) C0 V i_NH rfl rfl hO0 (by decide) w_425 rfl d_1_18_126 ?_
                            refine q_get (ci := 1) (j := 2) (v := .int y274) C0 V i_She rfl rfl hO2 (by decide) w_56 rfl d_1_18_129 ?_
                            exact q_retX (q_reti C0 V (⟨(show ((2 ≤ x1.toInt ∧ x1.toInt ≤ 3) ∧ (0 ≤ x2.toInt ∧ x2.toInt ≤ 9) ∧ (0 ≤ x5.toInt ∧ x5.toInt ≤ 3) ∧ (x3.toInt ≠ 0 → (1 ≤ x4.toInt ∧ x4.toInt ≤ 800)) ∧ (x3.toInt = 0 → (0 ≤ x4.toInt ∧ x4.toInt ≤ 1100))) ∧ ((x3.toInt ≠ 0 ∧ x4.toInt = 1 ∧ (y274 : Int32).toInt = 5) ∨ (x3.toInt ≠ 0 ∧ 1 < x4.toInt ∧ (y274 : Int32).toInt = x4.toInt + 5) ∨ (x3.toInt = 0 ∧ x4.toInt = 0 ∧ (y274 : Int32).toInt = 1) ∨ (x3.toInt = 0 ∧ 0 < x4.toInt ∧ (y274 : Int32).toInt = x4.toInt + 2)) from by have t1 : x1.toInt ≠ 2 := q_neI c1; have t2 : x1.toInt = 3 := q_eqI c173; have t3 : 0 ≤ x2.toInt := q_nltI c188; have t4 : x2.toInt < 10 := q_nleI c189; have t5 : 0 ≤ x5.toInt := q_nltI c206; have t6 : x5.toInt ≤ 3 := q_nltI c213; have t7 : x3.toInt = 0 := q_eqI c226; have t8 : 0 ≤ x4.toInt := q_nltI c227; have t9 : x4.toInt ≤ 1100 := q_nltI c234; have t10 : 0 < x4.toInt := q_ltI c270; have t11 : 2 ≤ y274.toInt := q_leI f272; have t12 : y274.toInt ≤ 1102 := q_leI f273; omega), hF⟩) d_1_18_132)
                          ·
                            replace hF := q_gc hF hg283 (q_al (Nat.le_of_ble_eq_true rfl) (q_al (Nat.le_of_ble_eq_true rfl) (q_al (Nat.le_of_ble_eq_true rfl) (q_al (Nat.le_of_ble_eq_true rfl) (q_al (Nat.le_of_ble_eq_true rfl) (fun _ h => absurd h List.not_mem_nil))))))
                            refine lv_aload_n hx hb d_1_18_125 rfl (lv_at hl 2 rfl) ?_
                            replace hO0 := (hg283 _ (q_nc (q_pd 0 3 rfl) (q_nc (q_pd 0 36 rfl) (q_nc (q_pd 0 4 rfl) (q_nc (q_pd 0 10 rfl) (q_nc (q_pd 0 11 rfl) List.not_mem_nil)))))).trans (hO0)
                            refine q_get (ci := 0) (j := 1) (v := .ref qO2) C0 V i_NH rfl rfl hO0 (by decide) w_425 rfl d_1_18_126 ?_
                            refine q_get (ci := 1) (j := 2) (v := .int y281) C0 V i_She rfl rfl hO2 (by decide) w_56 rfl d_1_18_129 ?_
                            refine q_ti (v := 1) (q_Ieq (x := y281.toInt) (y := 1) rfl (by decide) (by have t1 : 1 ≤ y281.toInt := q_leI f279; have t2 : y281.toInt ≤ 1 := q_leI f280; omega)) ?_
                            exact q_retX (q_reti C0 V (⟨(show ((2 ≤ x1.toInt ∧ x1.toInt ≤ 3) ∧ (0 ≤ x2.toInt ∧ x2.toInt ≤ 9) ∧ (0 ≤ x5.toInt ∧ x5.toInt ≤ 3) ∧ (x3.toInt ≠ 0 → (1 ≤ x4.toInt ∧ x4.toInt ≤ 800)) ∧ (x3.toInt = 0 → (0 ≤ x4.toInt ∧ x4.toInt ≤ 1100))) ∧ ((x3.toInt ≠ 0 ∧ x4.toInt = 1 ∧ (1 : Int32).toInt = 5) ∨ (x3.toInt ≠ 0 ∧ 1 < x4.toInt ∧ (1 : Int32).toInt = x4.toInt + 5) ∨ (x3.toInt = 0 ∧ x4.toInt = 0 ∧ (1 : Int32).toInt = 1) ∨ (x3.toInt = 0 ∧ 0 < x4.toInt ∧ (1 : Int32).toInt = x4.toInt + 2)) from by have t1 : x1.toInt ≠ 2 := q_neI c1; have t2 : x1.toInt = 3 := q_eqI c173; have t3 : 0 ≤ x2.toInt := q_nltI c188; have t4 : x2.toInt < 10 := q_nleI c189; have t5 : 0 ≤ x5.toInt := q_nltI c206; have t6 : x5.toInt ≤ 3 := q_nltI c213; have t7 : x3.toInt = 0 := q_eqI c226; have t8 : 0 ≤ x4.toInt := q_nltI c227; have t9 : x4.toInt ≤ 1100 := q_nltI c234; have t10 : x4.toInt ≤ 0 := q_nltI c277; have t11 : 1 ≤ y281.toInt := q_leI f279; have t12 : y281.toInt ≤ 1 := q_leI f280; have e0 : (1 : Int32).toInt = 1 := (by decide); omega), hF⟩) d_1_18_132)
                      ·
                        exact absurd c252 (by decide)
              ·
                refine lv_iload hx hb d_1_18_40 (lv_at hl 4 rfl) ?_
                refine lv_iconst (v := 1) hx hb d_1_18_42 (by decide) ?_
                refine lv_icmp_lt (tgt := 58) hx hb d_1_18_43 (by decide) (fun c284 => ?_) (fun c284 => ?_)
                ·
                  refine lv_iconst (v := 0) hx hb d_1_18_58 (by decide) ?_
                  refine lv_goto (tgt := 80) hx hb d_1_18_59 (by decide) ?_
                  refine q_goxv V (q_runSX (As := [.int 0]) (rest := []) (d := 7) (mc := 1) (ms := 6) C0 V rfl LS_NH_104 (c_NH_need l D g ws hlt 0 _) rfl hl.1 rfl (Nat.le_of_ble_eq_true rfl) ⟨by decide, by decide⟩ ⟨Nat.le_of_ble_eq_true rfl, Nat.le_of_ble_eq_true rfl⟩ d_1_18_80) (fun qx Ex ce u286 H locs hp285 V hce hcv hcl => ?_) (fun u286 H locs hp285 V => ?_)
                  ·
                    obtain ⟨c287, rfl, rfl⟩ := hp285
                    exact q_outT hno C0 V (⟨⟨rfl, (show ¬ ((2 ≤ x1.toInt ∧ x1.toInt ≤ 3) ∧ (0 ≤ x2.toInt ∧ x2.toInt ≤ 9) ∧ (0 ≤ x5.toInt ∧ x5.toInt ≤ 3) ∧ (x3.toInt ≠ 0 → (1 ≤ x4.toInt ∧ x4.toInt ≤ 800)) ∧ (x3.toInt = 0 → (0 ≤ x4.toInt ∧ x4.toInt ≤ 1100))) from by have t1 : x1.toInt ≠ 2 := q_neI c1; have t2 : x1.toInt = 3 := q_eqI c173; have t3 : 0 ≤ x2.toInt := q_nltI c188; have t4 : x2.toInt < 10 := q_nleI c189; have t5 : 0 ≤ x5.toInt := q_nltI c206; have t6 : x5.toInt ≤ 3 := q_nltI c213; have t7 : x3.toInt ≠ 0 := q_neI c226; have t8 : x4.toInt < 1 := q_ltI c284; omega)⟩, hF⟩) hce hcv hcl (Nat.le_of_ble_eq_true rfl) (Nat.le_of_ble_eq_true rfl)
                  ·
                    obtain ⟨c289, rfl⟩ := hp285
                    exact absurd c289 (by decide)
                ·
                  refine lv_iload hx hb d_1_18_46 (lv_at hl 4 rfl) ?_
                  refine lv_sipush (v := 800) hx hb d_1_18_48 (by decide) ?_
                  refine lv_icmp_gt (tgt := 58) hx hb d_1_18_51 (by decide) (fun c291 => ?_) (fun c291 => ?_)
                  ·
                    refine lv_iconst (v := 0) hx hb d_1_18_58 (by decide) ?_
                    refine lv_goto (tgt := 80) hx hb d_1_18_59 (by decide) ?_
                    refine q_goxv V (q_runSX (As := [.int 0]) (rest := []) (d := 7) (mc := 1) (ms := 6) C0 V rfl LS_NH_104 (c_NH_need l D g ws hlt 0 _) rfl hl.1 rfl (Nat.le_of_ble_eq_true rfl) ⟨by decide, by decide⟩ ⟨Nat.le_of_ble_eq_true rfl, Nat.le_of_ble_eq_true rfl⟩ d_1_18_80) (fun qx Ex ce u293 H locs hp292 V hce hcv hcl => ?_) (fun u293 H locs hp292 V => ?_)
                    ·
                      obtain ⟨c294, rfl, rfl⟩ := hp292
                      exact q_outT hno C0 V (⟨⟨rfl, (show ¬ ((2 ≤ x1.toInt ∧ x1.toInt ≤ 3) ∧ (0 ≤ x2.toInt ∧ x2.toInt ≤ 9) ∧ (0 ≤ x5.toInt ∧ x5.toInt ≤ 3) ∧ (x3.toInt ≠ 0 → (1 ≤ x4.toInt ∧ x4.toInt ≤ 800)) ∧ (x3.toInt = 0 → (0 ≤ x4.toInt ∧ x4.toInt ≤ 1100))) from by have t1 : x1.toInt ≠ 2 := q_neI c1; have t2 : x1.toInt = 3 := q_eqI c173; have t3 : 0 ≤ x2.toInt := q_nltI c188; have t4 : x2.toInt < 10 := q_nleI c189; have t5 : 0 ≤ x5.toInt := q_nltI c206; have t6 : x5.toInt ≤ 3 := q_nltI c213; have t7 : x3.toInt ≠ 0 := q_neI c226; have t8 : 1 ≤ x4.toInt := q_nltI c284; have t9 : 800 < x4.toInt := q_ltI c291; omega)⟩, hF⟩) hce hcv hcl (Nat.le_of_ble_eq_true rfl) (Nat.le_of_ble_eq_true rfl)
                    ·
                      obtain ⟨c296, rfl⟩ := hp292
                      exact absurd c296 (by decide)
                  ·
                    refine lv_iconst (v := 1) hx hb d_1_18_54 (by decide) ?_
                    refine lv_goto (tgt := 80) hx hb d_1_18_55 (by decide) ?_
                    refine q_goxv V (q_runSX (As := [.int 1]) (rest := []) (d := 7) (mc := 1) (ms := 6) C0 V rfl LS_NH_104 (c_NH_need l D g ws hlt 1 _) rfl hl.1 rfl (Nat.le_of_ble_eq_true rfl) ⟨by decide, by decide⟩ ⟨Nat.le_of_ble_eq_true rfl, Nat.le_of_ble_eq_true rfl⟩ d_1_18_80) (fun qx Ex ce u299 H locs hp298 V hce hcv hcl => ?_) (fun u299 H locs hp298 V => ?_)
                    ·
                      obtain ⟨c300, rfl, rfl⟩ := hp298
                      exact absurd c300 (by decide)
                    ·
                      obtain ⟨c302, rfl⟩ := hp298
                      refine lv_aload_n hx hb d_1_18_83 rfl (lv_at hl 0 rfl) ?_
                      refine lv_iload_n hx hb d_1_18_84 rfl (lv_at hl 1 rfl) ?_
                      refine q_ti (v := 3) c173 ?_
                      refine q_gor (post := fun r u => (¬ 3 = 2 ∧ qO10 = r ∧ ws = u) ∨ (3 = 2 ∧ qO9 = r ∧ ws = u)) V (q_runV (As := [.int 3]) (rest := []) (d := 1) (mc := 0) (ms := 0) (ci := 0) C0 V rfl LV_NH_130 (c_NH_floatsOf l D g ws qO0 qO1 qO2 qA3 qA4 qA5 qA6 qO7 qO8 qO9 qO10 qO11 qO12 qO13 qO14 3 hO0 (q_Ile (x := 2) (y := 3) (by decide) (by decide) (by omega)) (q_Ile (x := 3) (y := 3) (by decide) (by decide) (by omega)) _) rfl rfl hO0 rfl hl.1 rfl (Nat.le_of_ble_eq_true rfl) ⟨by decide, by decide⟩ ⟨Nat.le_of_ble_eq_true rfl, Nat.le_of_ble_eq_true rfl⟩ d_1_18_85) (fun v306 u305 H locs hp304 V => ?_)
                      rcases hp304 with ⟨c307, rfl, rfl⟩ | ⟨c309, rfl, rfl⟩
                      ·
                        refine lv_astore (lv' := [(6, .ref qO10), (0, .ref qO0), (1, .int x1), (2, .int x2), (3, .int x3), (4, .int x4), (5, .int x5)]) hx hb d_1_18_88 hl (by decide) rfl (fun ls hl => ?_)
                        refine lv_aload_n hx hb d_1_18_90 rfl (lv_at hl 1 rfl) ?_
                        refine lv_iload_n hx hb d_1_18_91 rfl (lv_at hl 2 rfl) ?_
                        refine q_ti (v := 3) c173 ?_
                        refine q_gor (post := fun r u => qA6 = r ∧ ws = u) V (q_runV (As := [.int 3]) (rest := []) (d := 1) (mc := 0) (ms := 0) (ci := 0) C0 V rfl LV_NH_157 (c_NH_floatRow l D g ws qO0 qO1 qO2 qA3 qA4 qA5 qA6 qO7 qO8 qO9 qO10 qO11 qO12 qO13 qO14 hO0 _) rfl rfl hO0 rfl hl.1 rfl (Nat.le_of_ble_eq_true rfl) ⟨by decide, by decide⟩ ⟨Nat.le_of_ble_eq_true rfl, Nat.le_of_ble_eq_true rfl⟩ d_1_18_92) (fun v313 u312 H locs hp311 V => ?_)
                        obtain ⟨rfl, rfl⟩ := hp311
                        refine lv_iload_n hx hb d_1_18_95 rfl (lv_at hl 3 rfl) ?_
                        refine q_lald C0 V hA6 (q_ix (x := x2.toInt) rfl (by have t1 : 0 ≤ x2.toInt := q_nltI c188; have t2 : x2.toInt < 10 := q_nleI c189; omega) (by have t1 : 0 ≤ x2.toInt := q_nltI c188; have t2 : x2.toInt < 10 := q_nleI c189; omega)) d_1_18_96 ?_
                        refine q_tl (v := 0) (by first | rfl | decide | simp [upd, vp_updL, sb_cl0]) ?_
                        refine lv_lstore (lv' := [(7, .long 0), (6, .ref qO10), (0, .ref qO0), (1, .int x1), (2, .int x2), (3, .int x3), (4, .int x4), (5, .int x5)]) hx hb d_1_18_97 hl (by decide) rfl (fun ls hl => ?_)
                        refine lv_aload hx hb d_1_18_99 (lv_at hl 1 rfl) ?_
                        refine lv_lload hx hb d_1_18_101 (lv_at hl 0 rfl) ?_
                        refine q_goi V (q_runV (As := [.long 0]) (rest := []) (d := 2) (mc := 0) (ms := 0) (ci := 6) C0 V rfl LV_NH_179 (c_Flo_isFinite l D g ws 35 qO10 qO7 hO10 _) rfl rfl hO10 rfl hl.1 rfl (Nat.le_of_ble_eq_true rfl) ⟨by decide, by decide⟩ ⟨Nat.le_of_ble_eq_true rfl, Nat.le_of_ble_eq_true rfl⟩ d_1_18_103) (fun v317 u316 H locs hp315 V => ?_)
                        obtain ⟨rfl, rfl⟩ := hp315
                        refine q_goxv V (q_runSX (As := [.int 1]) (rest := []) (d := 7) (mc := 1) (ms := 6) C0 V rfl LS_NH_138 (c_NH_canHave l D g ws hlt 1 _) rfl hl.1 rfl (Nat.le_of_ble_eq_true rfl) ⟨by decide, by decide⟩ ⟨Nat.le_of_ble_eq_true rfl, Nat.le_of_ble_eq_true rfl⟩ d_1_18_106) (fun qx Ex ce u320 H locs hp319 V hce hcv hcl => ?_) (fun u320 H locs hp319 V => ?_)
                        ·
                          obtain ⟨c321, rfl, rfl⟩ := hp319
                          exact absurd c321 (by decide)
                        ·
                          obtain ⟨c323, rfl⟩ := hp319
                          refine lv_aload_n hx hb d_1_18_109 rfl (lv_at hl 2 rfl) ?_
                          refine q_get (ci := 0) (j := 12) (v := .ref qO13) C0 V i_NH rfl rfl hO0 (by decide) w_436 rfl d_1_18_110 ?_
                          refine lv_aload hx hb d_1_18_113 (lv_at hl 1 rfl) ?_
                          refine lv_lload hx hb d_1_18_115 (lv_at hl 0 rfl) ?_
                          refine lv_iload_n hx hb d_1_18_117 rfl (lv_at hl 5 rfl) ?_
                          refine lv_iload hx hb d_1_18_118 (lv_at hl 6 rfl) ?_
                          refine lv_iload hx hb d_1_18_120 (lv_at hl 7 rfl) ?_
                          refine q_gov V (q_runV (As := [.ref qO10, .long 0, .int x3, .int x4, .int x5]) (rest := []) (d := 4) (mc := 0) (ms := 0) (ci := 9) C0 V rfl LV_NH_335 (c_Wri_exactText_4 l D g ws 39 35 3 9 36 4 10 11 qO13 qO10 qO2 qO7 qO11 qA16 qO17 qO18 qO19 qO20 qO21 qO22 qO23 qO24 qO25 qO26 qA28 qA35 x3 x4 x5 hO13 hO10 hO2 hO7 hO11 hA16 hO17 hA35 (q_pd 11 4 rfl) (q_Ile (x := 1) (y := x4.toInt) (by decide) rfl (by have t1 : 1 ≤ x4.toInt := q_nltI c284; have t2 : x4.toInt ≤ 800 := q_nltI c291; omega)) (q_Ile (x := x4.toInt) (y := 800) rfl (by decide) (by have t1 : 1 ≤ x4.toInt := q_nltI c284; have t2 : x4.toInt ≤ 800 := q_nltI c291; omega)) (q_Ile (x := 0) (y := x5.toInt) (by decide) rfl (by have t1 : 0 ≤ x5.toInt := q_nltI c206; have t2 : x5.toInt ≤ 3 := q_nltI c213; omega)) (q_Ile (x := x5.toInt) (y := 3) rfl (by decide) (by have t1 : 0 ≤ x5.toInt := q_nltI c206; have t2 : x5.toInt ≤ 3 := q_nltI c213; omega)) _) rfl rfl hO13 rfl hl.1 rfl (Nat.le_of_ble_eq_true rfl) ⟨by decide, by decide⟩ ⟨Nat.le_of_ble_eq_true rfl, Nat.le_of_ble_eq_true rfl⟩ d_1_18_122) (fun u326 H locs hp325 V => ?_)
                          rcases hp325 with ⟨y332, y333, c327, c328, f329, f330, f331, hg334, hO2, hO11, hA16, hO17, hA35⟩ | ⟨y340, y341, c335, c336, f337, f338, f339, hg342, hO2, hO11, hA16, hO17, hA35⟩ | ⟨y348, y349, c343, c344, f345, f346, f347, hg350, hO2, hO11, hA16, hO17, hA35⟩
                          ·
                            replace hF := q_gc hF hg334 (q_al (Nat.le_of_ble_eq_true rfl) (q_al (Nat.le_of_ble_eq_true rfl) (q_al (Nat.le_of_ble_eq_true rfl) (q_al (Nat.le_of_ble_eq_true rfl) (q_al (Nat.le_of_ble_eq_true rfl) (fun _ h => absurd h List.not_mem_nil))))))
                            refine lv_aload_n hx hb d_1_18_125 rfl (lv_at hl 2 rfl) ?_
                            replace hO0 := (hg334 _ (q_nc (q_pd 0 3 rfl) (q_nc (q_pd 0 36 rfl) (q_nc (q_pd 0 4 rfl) (q_nc (q_pd 0 10 rfl) (q_nc (q_pd 0 11 rfl) List.not_mem_nil)))))).trans (hO0)
                            refine q_get (ci := 0) (j := 1) (v := .ref qO2) C0 V i_NH rfl rfl hO0 (by decide) w_425 rfl d_1_18_126 ?_
                            refine q_get (ci := 1) (j := 2) (v := .int y332) C0 V i_She rfl rfl hO2 (by decide) w_56 rfl d_1_18_129 ?_
                            exact q_retX (q_reti C0 V (⟨(show ((2 ≤ x1.toInt ∧ x1.toInt ≤ 3) ∧ (0 ≤ x2.toInt ∧ x2.toInt ≤ 9) ∧ (0 ≤ x5.toInt ∧ x5.toInt ≤ 3) ∧ (x3.toInt ≠ 0 → (1 ≤ x4.toInt ∧ x4.toInt ≤ 800)) ∧ (x3.toInt = 0 → (0 ≤ x4.toInt ∧ x4.toInt ≤ 1100))) ∧ ((x3.toInt ≠ 0 ∧ x4.toInt = 1 ∧ (y332 : Int32).toInt = 5) ∨ (x3.toInt ≠ 0 ∧ 1 < x4.toInt ∧ (y332 : Int32).toInt = x4.toInt + 5) ∨ (x3.toInt = 0 ∧ x4.toInt = 0 ∧ (y332 : Int32).toInt = 1) ∨ (x3.toInt = 0 ∧ 0 < x4.toInt ∧ (y332 : Int32).toInt = x4.toInt + 2)) from by have t1 : x1.toInt ≠ 2 := q_neI c1; have t2 : x1.toInt = 3 := q_eqI c173; have t3 : 0 ≤ x2.toInt := q_nltI c188; have t4 : x2.toInt < 10 := q_nleI c189; have t5 : 0 ≤ x5.toInt := q_nltI c206; have t6 : x5.toInt ≤ 3 := q_nltI c213; have t7 : x3.toInt ≠ 0 := q_neI c226; have t8 : 1 ≤ x4.toInt := q_nltI c284; have t9 : x4.toInt ≤ 800 := q_nltI c291; have t10 : x3.toInt = 0 := q_eqI c327; have t11 : 0 < x4.toInt := q_ltI c328; have t12 : 2 ≤ y332.toInt := q_leI f330; have t13 : y332.toInt ≤ 1102 := q_leI f331; omega), hF⟩) d_1_18_132)
                          ·
                            replace hF := q_gc hF hg342 (q_al (Nat.le_of_ble_eq_true rfl) (q_al (Nat.le_of_ble_eq_true rfl) (q_al (Nat.le_of_ble_eq_true rfl) (q_al (Nat.le_of_ble_eq_true rfl) (q_al (Nat.le_of_ble_eq_true rfl) (fun _ h => absurd h List.not_mem_nil))))))
                            refine lv_aload_n hx hb d_1_18_125 rfl (lv_at hl 2 rfl) ?_
                            replace hO0 := (hg342 _ (q_nc (q_pd 0 3 rfl) (q_nc (q_pd 0 36 rfl) (q_nc (q_pd 0 4 rfl) (q_nc (q_pd 0 10 rfl) (q_nc (q_pd 0 11 rfl) List.not_mem_nil)))))).trans (hO0)
                            refine q_get (ci := 0) (j := 1) (v := .ref qO2) C0 V i_NH rfl rfl hO0 (by decide) w_425 rfl d_1_18_126 ?_
                            refine q_get (ci := 1) (j := 2) (v := .int ((((y340 + 1) + 1) + 1) + 1)) C0 V i_She rfl rfl hO2 (by decide) w_56 rfl d_1_18_129 ?_
                            exact q_retX (q_reti C0 V (⟨(show ((2 ≤ x1.toInt ∧ x1.toInt ≤ 3) ∧ (0 ≤ x2.toInt ∧ x2.toInt ≤ 9) ∧ (0 ≤ x5.toInt ∧ x5.toInt ≤ 3) ∧ (x3.toInt ≠ 0 → (1 ≤ x4.toInt ∧ x4.toInt ≤ 800)) ∧ (x3.toInt = 0 → (0 ≤ x4.toInt ∧ x4.toInt ≤ 1100))) ∧ ((x3.toInt ≠ 0 ∧ x4.toInt = 1 ∧ ((((y340 + 1) + 1) + 1) + 1 : Int32).toInt = 5) ∨ (x3.toInt ≠ 0 ∧ 1 < x4.toInt ∧ ((((y340 + 1) + 1) + 1) + 1 : Int32).toInt = x4.toInt + 5) ∨ (x3.toInt = 0 ∧ x4.toInt = 0 ∧ ((((y340 + 1) + 1) + 1) + 1 : Int32).toInt = 1) ∨ (x3.toInt = 0 ∧ 0 < x4.toInt ∧ ((((y340 + 1) + 1) + 1) + 1 : Int32).toInt = x4.toInt + 2)) from by have t1 : x1.toInt ≠ 2 := q_neI c1; have t2 : x1.toInt = 3 := q_eqI c173; have t3 : 0 ≤ x2.toInt := q_nltI c188; have t4 : x2.toInt < 10 := q_nleI c189; have t5 : 0 ≤ x5.toInt := q_nltI c206; have t6 : x5.toInt ≤ 3 := q_nltI c213; have t7 : x3.toInt ≠ 0 := q_neI c226; have t8 : 1 ≤ x4.toInt := q_nltI c284; have t9 : x4.toInt ≤ 800 := q_nltI c291; have t10 : x3.toInt ≠ 0 := q_neI c335; have t11 : 1 < x4.toInt := q_ltI c336; have t12 : 2 ≤ y340.toInt := q_leI f338; have t13 : y340.toInt ≤ 801 := q_leI f339; have e0 : ((((y340 + 1) + 1) + 1) + 1 : Int32).toInt = ((((y340.toInt + 1) + 1) + 1) + 1) := (q_addI (x := (((y340.toInt + 1) + 1) + 1)) (y := 1) (q_addI (x := ((y340.toInt + 1) + 1)) (y := 1) (q_addI (x := (y340.toInt + 1)) (y := 1) (q_addI (x := y340.toInt) (y := 1) rfl (by decide) (by have t1 : 2 ≤ y340.toInt := q_leI f338; have t2 : y340.toInt ≤ 801 := q_leI f339; omega) (by have t1 : 2 ≤ y340.toInt := q_leI f338; have t2 : y340.toInt ≤ 801 := q_leI f339; omega)) (by decide) (by have t1 : 2 ≤ y340.toInt := q_leI f338; have t2 : y340.toInt ≤ 801 := q_leI f339; omega) (by have t1 : 2 ≤ y340.toInt := q_leI f338; have t2 : y340.toInt ≤ 801 := q_leI f339; omega)) (by decide) (by have t1 : 2 ≤ y340.toInt := q_leI f338; have t2 : y340.toInt ≤ 801 := q_leI f339; omega) (by have t1 : 2 ≤ y340.toInt := q_leI f338; have t2 : y340.toInt ≤ 801 := q_leI f339; omega)) (by decide) (by have t1 : 2 ≤ y340.toInt := q_leI f338; have t2 : y340.toInt ≤ 801 := q_leI f339; omega) (by have t1 : 2 ≤ y340.toInt := q_leI f338; have t2 : y340.toInt ≤ 801 := q_leI f339; omega)); omega), hF⟩) d_1_18_132)
                          ·
                            replace hF := q_gc hF hg350 (q_al (Nat.le_of_ble_eq_true rfl) (q_al (Nat.le_of_ble_eq_true rfl) (q_al (Nat.le_of_ble_eq_true rfl) (q_al (Nat.le_of_ble_eq_true rfl) (q_al (Nat.le_of_ble_eq_true rfl) (fun _ h => absurd h List.not_mem_nil))))))
                            refine lv_aload_n hx hb d_1_18_125 rfl (lv_at hl 2 rfl) ?_
                            replace hO0 := (hg350 _ (q_nc (q_pd 0 3 rfl) (q_nc (q_pd 0 36 rfl) (q_nc (q_pd 0 4 rfl) (q_nc (q_pd 0 10 rfl) (q_nc (q_pd 0 11 rfl) List.not_mem_nil)))))).trans (hO0)
                            refine q_get (ci := 0) (j := 1) (v := .ref qO2) C0 V i_NH rfl rfl hO0 (by decide) w_425 rfl d_1_18_126 ?_
                            refine q_get (ci := 1) (j := 2) (v := .int ((((y348 + 1) + 1) + 1) + 1)) C0 V i_She rfl rfl hO2 (by decide) w_56 rfl d_1_18_129 ?_
                            refine q_ti (v := 5) (q_Ieq (x := ((((y348.toInt + 1) + 1) + 1) + 1)) (y := 5) (q_addI (x := (((y348.toInt + 1) + 1) + 1)) (y := 1) (q_addI (x := ((y348.toInt + 1) + 1)) (y := 1) (q_addI (x := (y348.toInt + 1)) (y := 1) (q_addI (x := y348.toInt) (y := 1) rfl (by decide) (by have t1 : 1 ≤ y348.toInt := q_leI f346; have t2 : y348.toInt ≤ 1 := q_leI f347; omega) (by have t1 : 1 ≤ y348.toInt := q_leI f346; have t2 : y348.toInt ≤ 1 := q_leI f347; omega)) (by decide) (by have t1 : 1 ≤ y348.toInt := q_leI f346; have t2 : y348.toInt ≤ 1 := q_leI f347; omega) (by have t1 : 1 ≤ y348.toInt := q_leI f346; have t2 : y348.toInt ≤ 1 := q_leI f347; omega)) (by decide) (by have t1 : 1 ≤ y348.toInt := q_leI f346; have t2 : y348.toInt ≤ 1 := q_leI f347; omega) (by have t1 : 1 ≤ y348.toInt := q_leI f346; have t2 : y348.toInt ≤ 1 := q_leI f347; omega)) (by decide) (by have t1 : 1 ≤ y348.toInt := q_leI f346; have t2 : y348.toInt ≤ 1 := q_leI f347; omega) (by have t1 : 1 ≤ y348.toInt := q_leI f346; have t2 : y348.toInt ≤ 1 := q_leI f347; omega)) (by decide) (by have t1 : 1 ≤ y348.toInt := q_leI f346; have t2 : y348.toInt ≤ 1 := q_leI f347; omega)) ?_
                            exact q_retX (q_reti C0 V (⟨(show ((2 ≤ x1.toInt ∧ x1.toInt ≤ 3) ∧ (0 ≤ x2.toInt ∧ x2.toInt ≤ 9) ∧ (0 ≤ x5.toInt ∧ x5.toInt ≤ 3) ∧ (x3.toInt ≠ 0 → (1 ≤ x4.toInt ∧ x4.toInt ≤ 800)) ∧ (x3.toInt = 0 → (0 ≤ x4.toInt ∧ x4.toInt ≤ 1100))) ∧ ((x3.toInt ≠ 0 ∧ x4.toInt = 1 ∧ (5 : Int32).toInt = 5) ∨ (x3.toInt ≠ 0 ∧ 1 < x4.toInt ∧ (5 : Int32).toInt = x4.toInt + 5) ∨ (x3.toInt = 0 ∧ x4.toInt = 0 ∧ (5 : Int32).toInt = 1) ∨ (x3.toInt = 0 ∧ 0 < x4.toInt ∧ (5 : Int32).toInt = x4.toInt + 2)) from by have t1 : x1.toInt ≠ 2 := q_neI c1; have t2 : x1.toInt = 3 := q_eqI c173; have t3 : 0 ≤ x2.toInt := q_nltI c188; have t4 : x2.toInt < 10 := q_nleI c189; have t5 : 0 ≤ x5.toInt := q_nltI c206; have t6 : x5.toInt ≤ 3 := q_nltI c213; have t7 : x3.toInt ≠ 0 := q_neI c226; have t8 : 1 ≤ x4.toInt := q_nltI c284; have t9 : x4.toInt ≤ 800 := q_nltI c291; have t10 : x3.toInt ≠ 0 := q_neI c343; have t11 : x4.toInt ≤ 1 := q_nltI c344; have t12 : 1 ≤ y348.toInt := q_leI f346; have t13 : y348.toInt ≤ 1 := q_leI f347; have e0 : (5 : Int32).toInt = 5 := (by decide); omega), hF⟩) d_1_18_132)
                      ·
                        exact absurd c309 (by decide)
