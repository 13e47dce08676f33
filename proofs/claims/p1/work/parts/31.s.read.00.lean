/-! the reference on a fresh object: read -/
set_option maxRecDepth 100000 in
set_option maxHeartbeats 4000000 in
theorem c_TR_blanks_3 (l : Launch) (D : va_G) (g : Nat → ClassId) (ws : va_W) (kO0 qO0 qA1 qA2 qA3 : Nat) (hO0 : ws[kO0]? = (some (qO0, .inr (16, [.int 0, .ref qA1, .int 0, .int 0, .int 0, .int 0, .ref qA2, .int 0, .int 0, .long 0, .ref qA3, .int 0, .int 0, .long 0, .long 0, .int 0, .int 0])) : Option (Nat × va_E))) : q_mV l y_TR_blanks prog_18_method_15_code 1 1 0 0 D g [.ref qO0] ws (fun u => ws = u) := by
  intro sz
  refine q_into (by decide) (Nat.le_of_ble_eq_true rfl) ?_
  intro p e s m below meth c ls hsz C0 V hl
  have hx := C0.1
  have hb := C0.2.1
  have hl : lv_has ls 1 [(0, .ref qO0)] := hl
  refine lv_aload_n hx hb d_18_15_0 rfl (lv_at hl 0 rfl) ?_
  refine q_get (ci := 16) (j := 4) (v := .int 0) C0 V i_TR rfl rfl hO0 (by decide) w_2144 rfl d_18_15_1 ?_
  refine lv_aload_n hx hb d_18_15_4 rfl (lv_at hl 0 rfl) ?_
  refine q_get (ci := 16) (j := 2) (v := .int 0) C0 V i_TR rfl rfl hO0 (by decide) w_2141 rfl d_18_15_5 ?_
  refine lv_icmp_ge (tgt := 38) hx hb d_18_15_8 (by decide) (fun c1 => ?_) (fun c1 => absurd (by decide) c1)
  exact q_retv C0 V (rfl) d_18_15_38
set_option maxRecDepth 100000 in
set_option maxHeartbeats 4000000 in
theorem c_TR_here_5 (l : Launch) (D : va_G) (g : Nat → ClassId) (ws : va_W) (kO0 qO0 qA1 qA2 qA3 : Nat) (hO0 : ws[kO0]? = (some (qO0, .inr (16, [.int 0, .ref qA1, .int 0, .int 0, .int 0, .int 0, .ref qA2, .int 0, .int 0, .long 0, .ref qA3, .int 0, .int 0, .long 0, .long 0, .int 0, .int 0])) : Option (Nat × va_E))) : q_mI l y_TR_here prog_18_method_7_code 1 (.int) 1 0 0 D g [.ref qO0] ws (fun r u => 0 = r ∧ ws = u) := by
  intro sz
  refine q_into (by decide) (Nat.le_of_ble_eq_true rfl) ?_
  intro p e s m below meth c ls hsz C0 V hl
  have hx := C0.1
  have hb := C0.2.1
  have hl : lv_has ls 1 [(0, .ref qO0)] := hl
  refine lv_aload_n hx hb d_18_7_0 rfl (lv_at hl 0 rfl) ?_
  refine q_get (ci := 16) (j := 4) (v := .int 0) C0 V i_TR rfl rfl hO0 (by decide) w_2144 rfl d_18_7_1 ?_
  refine lv_aload_n hx hb d_18_7_4 rfl (lv_at hl 0 rfl) ?_
  refine q_get (ci := 16) (j := 2) (v := .int 0) C0 V i_TR rfl rfl hO0 (by decide) w_2141 rfl d_18_7_5 ?_
  refine lv_icmp_ge (tgt := 23) hx hb d_18_7_8 (by decide) (fun c1 => ?_) (fun c1 => absurd (by decide) c1)
  refine lv_iconst (v := 0) hx hb d_18_7_23 (by decide) ?_
  exact q_reti C0 V (⟨rfl, rfl⟩) d_18_7_24
set_option maxRecDepth 100000 in
set_option maxHeartbeats 4000000 in
theorem c_TR_here_6 (l : Launch) (D : va_G) (g : Nat → ClassId) (ws : va_W) (kO0 qO0 qA1 qA2 qA3 : Nat) (hO0 : ws[kO0]? = (some (qO0, .inr (16, [.int 0, .ref qA1, .int 0, .int 0, .int 0, .int 0, .ref qA2, .int 0, .int (-1), .long 0, .ref qA3, .int 0, .int 0, .long 0, .long 0, .int 0, .int 0])) : Option (Nat × va_E))) : q_mI l y_TR_here prog_18_method_7_code 1 (.int) 1 0 0 D g [.ref qO0] ws (fun r u => 0 = r ∧ ws = u) := by
  intro sz
  refine q_into (by decide) (Nat.le_of_ble_eq_true rfl) ?_
  intro p e s m below meth c ls hsz C0 V hl
  have hx := C0.1
  have hb := C0.2.1
  have hl : lv_has ls 1 [(0, .ref qO0)] := hl
  refine lv_aload_n hx hb d_18_7_0 rfl (lv_at hl 0 rfl) ?_
  refine q_get (ci := 16) (j := 4) (v := .int 0) C0 V i_TR rfl rfl hO0 (by decide) w_2144 rfl d_18_7_1 ?_
  refine lv_aload_n hx hb d_18_7_4 rfl (lv_at hl 0 rfl) ?_
  refine q_get (ci := 16) (j := 2) (v := .int 0) C0 V i_TR rfl rfl hO0 (by decide) w_2141 rfl d_18_7_5 ?_
  refine lv_icmp_ge (tgt := 23) hx hb d_18_7_8 (by decide) (fun c1 => ?_) (fun c1 => absurd (by decide) c1)
  refine lv_iconst (v := 0) hx hb d_18_7_23 (by decide) ?_
  exact q_reti C0 V (⟨rfl, rfl⟩) d_18_7_24
theorem d_18_12_133 : decode prog_18_method_12_code 133 = .ok (.iconst 0, 1) := by decide +kernel
set_option maxRecDepth 100000 in
set_option maxHeartbeats 4000000 in
theorem c_TR_digits_2 (l : Launch) (D : va_G) (g : Nat → ClassId) (ws : va_W) (kO0 qO0 qA1 qA2 qA3 : Nat) (hO0 : ws[kO0]? = (some (qO0, .inr (16, [.int 0, .ref qA1, .int 0, .int 0, .int 0, .int 0, .ref qA2, .int 0, .int 0, .long 0, .ref qA3, .int 0, .int 0, .long 0, .long 0, .int 0, .int 0])) : Option (Nat × va_E))) : q_mI l y_TR_digits prog_18_method_12_code 3 (.boolean) 2 0 0 D g [.ref qO0, .int 0] ws (fun r u => 0 = r ∧ q_un ws u [kO0] ∧ u[kO0]? = (some (qO0, .inr (16, [.int 0, .ref qA1, .int 0, .int 0, .int 0, .int 0, .ref qA2, .int 0, .int 0, .long 0, .ref qA3, .int 0, .int 0, .long 0, .long 0, .int 0, .int 0])) : Option (Nat × va_E))) := by
  intro sz
  refine q_into (by decide) (Nat.le_of_ble_eq_true rfl) ?_
  intro p e s m below meth c ls hsz C0 V hl
  have hx := C0.1
  have hb := C0.2.1
  have hl : lv_has ls 3 [(0, .ref qO0), (1, .int 0)] := hl
  have hF : q_un ws ws [kO0] := q_u0
  refine lv_aload_n hx hb d_18_12_0 rfl (lv_at hl 0 rfl) ?_
  refine lv_iconst (v := 0) hx hb d_18_12_1 (by decide) ?_
  refine q_put (ci := 16) (j := 7) (v := .int 0) (ty := .int) C0 V i_TR o_TR n_TR rfl rfl hO0 (by decide) w_2147 rfl rfl rfl rfl (Nat.le_of_ble_eq_true rfl) d_18_12_2 (fun H locs w1 hu2 hO0 V => ?_)
  replace hO0 : w1[kO0]? = (some (qO0, .inr (16, [.int 0, .ref qA1, .int 0, .int 0, .int 0, .int 0, .ref qA2, .int 0, .int 0, .long 0, .ref qA3, .int 0, .int 0, .long 0, .long 0, .int 0, .int 0])) : Option (Nat × va_E)) := hO0
  replace hF := q_us hF hu2 (.head _)
  refine lv_aload_n hx hb d_18_12_5 rfl (lv_at hl 0 rfl) ?_
  refine lv_iconst (v := (-1)) hx hb d_18_12_6 (by decide) ?_
  refine q_put (ci := 16) (j := 8) (v := .int (-1)) (ty := .int) C0 V i_TR o_TR n_TR rfl rfl hO0 (by decide) w_2148 rfl rfl rfl rfl (Nat.le_of_ble_eq_true rfl) d_18_12_7 (fun H locs w3 hu4 hO0 V => ?_)
  replace hO0 : w3[kO0]? = (some (qO0, .inr (16, [.int 0, .ref qA1, .int 0, .int 0, .int 0, .int 0, .ref qA2, .int 0, .int (-1), .long 0, .ref qA3, .int 0, .int 0, .long 0, .long 0, .int 0, .int 0])) : Option (Nat × va_E)) := hO0
  replace hF := q_us hF hu4 (.head _)
  refine lv_iload_n hx hb d_18_12_10 rfl (lv_at hl 1 rfl) ?_
  refine lv_if_eq (tgt := 24) hx hb d_18_12_11 (by decide) (fun c5 => ?_) (fun c5 => absurd (by decide) c5)
  refine lv_aload_n hx hb d_18_12_24 rfl (lv_at hl 0 rfl) ?_
  refine q_goi V (q_runV (As := []) (rest := []) (d := 1) (mc := 0) (ms := 0) (ci := 16) C0 V rfl LV_TR_35 (c_TR_here_6 l D g w3 kO0 qO0 qA1 qA2 qA3 hO0 _) rfl rfl hO0 rfl hl.1 rfl (Nat.le_of_ble_eq_true rfl) ⟨by decide, by decide⟩ ⟨Nat.le_of_ble_eq_true rfl, Nat.le_of_ble_eq_true rfl⟩ d_18_12_25) (fun v8 u7 H locs hp6 V => ?_)
  obtain ⟨rfl, rfl⟩ := hp6
  refine q_goi V (q_runS (As := [.int 0]) (rest := []) (d := 1) (mc := 0) (ms := 0) C0 V rfl LS_TR_31 (c_TR_isDigit_2 l D g w3 _) rfl hl.1 rfl (Nat.le_of_ble_eq_true rfl) ⟨by decide, by decide⟩ ⟨Nat.le_of_ble_eq_true rfl, Nat.le_of_ble_eq_true rfl⟩ d_18_12_28) (fun v12 u11 H locs hp10 V => ?_)
  obtain ⟨rfl, rfl⟩ := hp10
  refine lv_if_eq (tgt := 44) hx hb d_18_12_31 (by decide) (fun c14 => ?_) (fun c14 => absurd (by decide) c14)
  refine lv_iconst (v := (-1)) hx hb d_18_12_44 (by decide) ?_
  refine lv_istore_n (lv' := [(2, .int (-1)), (0, .ref qO0), (1, .int 0)]) hx hb d_18_12_45 rfl hl (by decide) rfl (fun ls hl => ?_)
  refine lv_iload_n hx hb d_18_12_46 rfl (lv_at hl 0 rfl) ?_
  refine lv_if_lt (tgt := 73) hx hb d_18_12_47 (by decide) (fun c15 => ?_) (fun c15 => absurd (by decide) c15)
  refine lv_aload_n hx hb d_18_12_73 rfl (lv_at hl 1 rfl) ?_
  refine q_goi V (q_runV (As := []) (rest := []) (d := 1) (mc := 0) (ms := 0) (ci := 16) C0 V rfl LV_TR_35 (c_TR_here_6 l D g w3 kO0 qO0 qA1 qA2 qA3 hO0 _) rfl rfl hO0 rfl hl.1 rfl (Nat.le_of_ble_eq_true rfl) ⟨by decide, by decide⟩ ⟨Nat.le_of_ble_eq_true rfl, Nat.le_of_ble_eq_true rfl⟩ d_18_12_74) (fun v18 u17 H locs hp16 V => ?_)
  obtain ⟨rfl, rfl⟩ := hp16
  refine lv_bipush (v := 46) hx hb d_18_12_77 (by decide) ?_
  refine lv_icmp_ne (tgt := 100) hx hb d_18_12_79 (by decide) (fun c20 => ?_) (fun c20 => absurd c20 (by decide))
  refine lv_aload_n hx hb d_18_12_100 rfl (lv_at hl 1 rfl) ?_
  refine lv_aload_n hx hb d_18_12_101 rfl (lv_at hl 1 rfl) ?_
  refine q_get (ci := 16) (j := 8) (v := .int (-1)) C0 V i_TR rfl rfl hO0 (by decide) w_2148 rfl d_18_12_102 ?_
  refine lv_if_ge (tgt := 115) hx hb d_18_12_105 (by decide) (fun c21 => absurd c21 (by decide)) (fun c21 => ?_)
  refine lv_aload_n hx hb d_18_12_108 rfl (lv_at hl 1 rfl) ?_
  refine q_get (ci := 16) (j := 7) (v := .int 0) C0 V i_TR rfl rfl hO0 (by decide) w_2147 rfl d_18_12_109 ?_
  refine lv_goto (tgt := 119) hx hb d_18_12_112 (by decide) ?_
  refine q_put (ci := 16) (j := 8) (v := .int 0) (ty := .int) C0 V i_TR o_TR n_TR rfl rfl hO0 (by decide) w_2148 rfl rfl rfl rfl (Nat.le_of_ble_eq_true rfl) d_18_12_119 (fun H locs w22 hu23 hO0 V => ?_)
  replace hO0 : w22[kO0]? = (some (qO0, .inr (16, [.int 0, .ref qA1, .int 0, .int 0, .int 0, .int 0, .ref qA2, .int 0, .int 0, .long 0, .ref qA3, .int 0, .int 0, .long 0, .long 0, .int 0, .int 0])) : Option (Nat × va_E)) := hO0
  replace hF := q_us hF hu23 (.head _)
  refine lv_aload_n hx hb d_18_12_122 rfl (lv_at hl 1 rfl) ?_
  refine q_get (ci := 16) (j := 7) (v := .int 0) C0 V i_TR rfl rfl hO0 (by decide) w_2147 rfl d_18_12_123 ?_
  refine lv_if_le (tgt := 133) hx hb d_18_12_126 (by decide) (fun c24 => ?_) (fun c24 => absurd (by decide) c24)
  refine lv_iconst (v := 0) hx hb d_18_12_133 (by decide) ?_
  exact q_retz C0 V (rfl) (⟨rfl, hF, hO0⟩) d_18_12_134
theorem d_18_14_127 : decode prog_18_method_14_code 127 = .ok (.iconst 0, 1) := by decide +kernel
theorem d_18_14_128 : decode prog_18_method_14_code 128 = .ok (.ireturn, 1) := by decide +kernel
set_option maxRecDepth 100000 in
set_option maxHeartbeats 4000000 in
theorem c_TR_number_2 (l : Launch) (D : va_G) (g : Nat → ClassId) (ws : va_W) (kO0 qO0 qA1 qA2 qA3 : Nat) (hO0 : ws[kO0]? = (some (qO0, .inr (16, [.int 0, .ref qA1, .int 0, .int 0, .int 0, .int 0, .ref qA2, .int 0, .int 0, .long 0, .ref qA3, .int 0, .int 0, .long 0, .long 0, .int 0, .int 0])) : Option (Nat × va_E))) : q_mI l y_TR_number prog_18_method_14_code 1 (.boolean) 3 0 0 D g [.ref qO0] ws (fun r u => 0 = r ∧ q_un ws u [kO0] ∧ u[kO0]? = (some (qO0, .inr (16, [.int 0, .ref qA1, .int 0, .int 0, .int 0, .int 0, .ref qA2, .int 0, .int 0, .long 0, .ref qA3, .int 0, .int 0, .long 0, .long 0, .int 0, .int 0])) : Option (Nat × va_E))) := by
  intro sz
  refine q_into (by decide) (Nat.le_of_ble_eq_true rfl) ?_
  intro p e s m below meth c ls hsz C0 V hl
  have hx := C0.1
  have hb := C0.2.1
  have hl : lv_has ls 1 [(0, .ref qO0)] := hl
  have hF : q_un ws ws [kO0] := q_u0
  refine lv_aload_n hx hb d_18_14_0 rfl (lv_at hl 0 rfl) ?_
  refine lv_lconst (v := 0) hx hb d_18_14_1 (by decide) ?_
  refine q_put (ci := 16) (j := 9) (v := .long 0) (ty := .long) C0 V i_TR o_TR n_TR rfl rfl hO0 (by decide) w_2149 rfl rfl rfl rfl (Nat.le_of_ble_eq_true rfl) d_18_14_2 (fun H locs w1 hu2 hO0 V => ?_)
  replace hO0 : w1[kO0]? = (some (qO0, .inr (16, [.int 0, .ref qA1, .int 0, .int 0, .int 0, .int 0, .ref qA2, .int 0, .int 0, .long 0, .ref qA3, .int 0, .int 0, .long 0, .long 0, .int 0, .int 0])) : Option (Nat × va_E)) := hO0
  replace hF := q_us hF hu2 (.head _)
  refine lv_aload_n hx hb d_18_14_5 rfl (lv_at hl 0 rfl) ?_
  refine q_goi V (q_runV (As := []) (rest := []) (d := 1) (mc := 0) (ms := 0) (ci := 16) C0 V rfl LV_TR_35 (c_TR_here_5 l D g w1 kO0 qO0 qA1 qA2 qA3 hO0 _) rfl rfl hO0 rfl hl.1 rfl (Nat.le_of_ble_eq_true rfl) ⟨by decide, by decide⟩ ⟨Nat.le_of_ble_eq_true rfl, Nat.le_of_ble_eq_true rfl⟩ d_18_14_6) (fun v5 u4 H locs hp3 V => ?_)
  obtain ⟨rfl, rfl⟩ := hp3
  refine lv_bipush (v := 48) hx hb d_18_14_9 (by decide) ?_
  refine lv_icmp_ne (tgt := 114) hx hb d_18_14_11 (by decide) (fun c7 => ?_) (fun c7 => absurd c7 (by decide))
  refine lv_aload_n hx hb d_18_14_114 rfl (lv_at hl 0 rfl) ?_
  refine lv_iconst (v := 0) hx hb d_18_14_115 (by decide) ?_
  refine q_put (ci := 16) (j := 3) (v := .int 0) (ty := .int) C0 V i_TR o_TR n_TR rfl rfl hO0 (by decide) w_2143 rfl rfl rfl rfl (Nat.le_of_ble_eq_true rfl) d_18_14_116 (fun H locs w8 hu9 hO0 V => ?_)
  replace hO0 : w8[kO0]? = (some (qO0, .inr (16, [.int 0, .ref qA1, .int 0, .int 0, .int 0, .int 0, .ref qA2, .int 0, .int 0, .long 0, .ref qA3, .int 0, .int 0, .long 0, .long 0, .int 0, .int 0])) : Option (Nat × va_E)) := hO0
  replace hF := q_us hF hu9 (.head _)
  refine lv_aload_n hx hb d_18_14_119 rfl (lv_at hl 0 rfl) ?_
  refine lv_iconst (v := 0) hx hb d_18_14_120 (by decide) ?_
  refine q_goi V (q_runV (As := [.int 0]) (rest := []) (d := 2) (mc := 0) (ms := 0) (ci := 16) C0 V rfl LV_TR_62 (c_TR_digits_2 l D g w8 kO0 qO0 qA1 qA2 qA3 hO0 _) rfl rfl hO0 rfl hl.1 rfl (Nat.le_of_ble_eq_true rfl) ⟨by decide, by decide⟩ ⟨Nat.le_of_ble_eq_true rfl, Nat.le_of_ble_eq_true rfl⟩ d_18_14_121) (fun v12 u11 H locs hp10 V => ?_)
  obtain ⟨rfl, hg13, hO0⟩ := hp10
  replace hF := q_uc hF hg13 (q_sc (.head _) (fun _ h => absurd h List.not_mem_nil))
  refine lv_if_ne (tgt := 129) hx hb d_18_14_124 (by decide) (fun c14 => absurd (by decide) c14) (fun c14 => ?_)
  refine lv_iconst (v := 0) hx hb d_18_14_127 (by decide) ?_
  exact q_retz C0 V (rfl) (⟨rfl, hF, hO0⟩) d_18_14_128
theorem d_18_16_135 : decode prog_18_method_16_code 135 = .ok (.iconst 0, 1) := by decide +kernel
set_option maxRecDepth 100000 in
set_option maxHeartbeats 4000000 in
theorem c_TR_scan_2 (l : Launch) (D : va_G) (g : Nat → ClassId) (ws : va_W) (kO0 qO0 qA1 qA2 qA3 : Nat) (hO0 : ws[kO0]? = (some (qO0, .inr (16, [.int 0, .ref qA1, .int 0, .int 0, .int 0, .int 0, .ref qA2, .int 0, .int 0, .long 0, .ref qA3, .int 0, .int 0, .long 0, .long 0, .int 0, .int 0])) : Option (Nat × va_E))) : q_mI l y_TR_scan prog_18_method_16_code 2 (.boolean) 4 0 0 D g [.ref qO0] ws (fun r u => 0 = r ∧ q_un ws u [kO0] ∧ u[kO0]? = (some (qO0, .inr (16, [.int 0, .ref qA1, .int 0, .int 0, .int 0, .int 0, .ref qA2, .int 0, .int 0, .long 0, .ref qA3, .int 0, .int 0, .long 0, .long 0, .int 0, .int 0])) : Option (Nat × va_E))) := by
  intro sz
  refine q_into (by decide) (Nat.le_of_ble_eq_true rfl) ?_
  intro p e s m below meth c ls hsz C0 V hl
  have hx := C0.1
  have hb := C0.2.1
  have hl : lv_has ls 2 [(0, .ref qO0)] := hl
  have hF : q_un ws ws [kO0] := q_u0
  refine lv_aload_n hx hb d_18_16_0 rfl (lv_at hl 0 rfl) ?_
  refine lv_iconst (v := 0) hx hb d_18_16_1 (by decide) ?_
  refine q_put (ci := 16) (j := 4) (v := .int 0) (ty := .int) C0 V i_TR o_TR n_TR rfl rfl hO0 (by decide) w_2144 rfl rfl rfl rfl (Nat.le_of_ble_eq_true rfl) d_18_16_2 (fun H locs w1 hu2 hO0 V => ?_)
  replace hO0 : w1[kO0]? = (some (qO0, .inr (16, [.int 0, .ref qA1, .int 0, .int 0, .int 0, .int 0, .ref qA2, .int 0, .int 0, .long 0, .ref qA3, .int 0, .int 0, .long 0, .long 0, .int 0, .int 0])) : Option (Nat × va_E)) := hO0
  replace hF := q_us hF hu2 (.head _)
  refine lv_aload_n hx hb d_18_16_5 rfl (lv_at hl 0 rfl) ?_
  refine q_gov V (q_runV (As := []) (rest := []) (d := 1) (mc := 0) (ms := 0) (ci := 16) C0 V rfl LV_TR_74 (c_TR_blanks_3 l D g w1 kO0 qO0 qA1 qA2 qA3 hO0 _) rfl rfl hO0 rfl hl.1 rfl (Nat.le_of_ble_eq_true rfl) ⟨by decide, by decide⟩ ⟨Nat.le_of_ble_eq_true rfl, Nat.le_of_ble_eq_true rfl⟩ d_18_16_6) (fun u4 H locs hp3 V => ?_)
  obtain rfl := hp3
  refine lv_aload_n hx hb d_18_16_9 rfl (lv_at hl 0 rfl) ?_
  refine lv_aload_n hx hb d_18_16_10 rfl (lv_at hl 0 rfl) ?_
  refine q_goi V (q_runV (As := []) (rest := [.ref qO0]) (d := 1) (mc := 0) (ms := 0) (ci := 16) C0 V rfl LV_TR_35 (c_TR_here_5 l D g w1 kO0 qO0 qA1 qA2 qA3 hO0 _) rfl rfl hO0 rfl hl.1 rfl (Nat.le_of_ble_eq_true rfl) ⟨by decide, by decide⟩ ⟨Nat.le_of_ble_eq_true rfl, Nat.le_of_ble_eq_true rfl⟩ d_18_16_11) (fun v8 u7 H locs hp6 V => ?_)
  obtain ⟨rfl, rfl⟩ := hp6
  refine lv_bipush (v := 45) hx hb d_18_16_14 (by decide) ?_
  refine lv_icmp_ne (tgt := 23) hx hb d_18_16_16 (by decide) (fun c10 => ?_) (fun c10 => absurd c10 (by decide))
  refine lv_iconst (v := 0) hx hb d_18_16_23 (by decide) ?_
  refine q_put (ci := 16) (j := 5) (v := .int 0) (ty := .boolean) C0 V i_TR o_TR n_TR rfl rfl hO0 (by decide) w_2145 rfl rfl rfl rfl (Nat.le_of_ble_eq_true rfl) d_18_16_24 (fun H locs w11 hu12 hO0 V => ?_)
  replace hO0 : w11[kO0]? = (some (qO0, .inr (16, [.int 0, .ref qA1, .int 0, .int 0, .int 0, .int 0, .ref qA2, .int 0, .int 0, .long 0, .ref qA3, .int 0, .int 0, .long 0, .long 0, .int 0, .int 0])) : Option (Nat × va_E)) := hO0
  replace hF := q_us hF hu12 (.head _)
  refine lv_aload_n hx hb d_18_16_27 rfl (lv_at hl 0 rfl) ?_
  refine q_get (ci := 16) (j := 5) (v := .int 0) C0 V i_TR rfl rfl hO0 (by decide) w_2145 rfl d_18_16_28 ?_
  refine lv_if_ne (tgt := 43) hx hb d_18_16_31 (by decide) (fun c13 => absurd (by decide) c13) (fun c13 => ?_)
  refine lv_aload_n hx hb d_18_16_34 rfl (lv_at hl 0 rfl) ?_
  refine q_goi V (q_runV (As := []) (rest := []) (d := 1) (mc := 0) (ms := 0) (ci := 16) C0 V rfl LV_TR_35 (c_TR_here_5 l D g w11 kO0 qO0 qA1 qA2 qA3 hO0 _) rfl rfl hO0 rfl hl.1 rfl (Nat.le_of_ble_eq_true rfl) ⟨by decide, by decide⟩ ⟨Nat.le_of_ble_eq_true rfl, Nat.le_of_ble_eq_true rfl⟩ d_18_16_35) (fun v16 u15 H locs hp14 V => ?_)
  obtain ⟨rfl, rfl⟩ := hp14
  refine lv_bipush (v := 43) hx hb d_18_16_38 (by decide) ?_
  refine lv_icmp_ne (tgt := 53) hx hb d_18_16_40 (by decide) (fun c18 => ?_) (fun c18 => absurd c18 (by decide))
  refine lv_aload_n hx hb d_18_16_53 rfl (lv_at hl 0 rfl) ?_
  refine q_goi V (q_runV (As := []) (rest := []) (d := 1) (mc := 0) (ms := 0) (ci := 16) C0 V rfl LV_TR_35 (c_TR_here_5 l D g w11 kO0 qO0 qA1 qA2 qA3 hO0 _) rfl rfl hO0 rfl hl.1 rfl (Nat.le_of_ble_eq_true rfl) ⟨by decide, by decide⟩ ⟨Nat.le_of_ble_eq_true rfl, Nat.le_of_ble_eq_true rfl⟩ d_18_16_54) (fun v21 u20 H locs hp19 V => ?_)
  obtain ⟨rfl, rfl⟩ := hp19
  refine lv_bipush (v := 78) hx hb d_18_16_57 (by decide) ?_
  refine lv_icmp_ne (tgt := 78) hx hb d_18_16_59 (by decide) (fun c23 => ?_) (fun c23 => absurd c23 (by decide))
  refine lv_aload_n hx hb d_18_16_78 rfl (lv_at hl 0 rfl) ?_
  refine q_goi V (q_runV (As := []) (rest := []) (d := 1) (mc := 0) (ms := 0) (ci := 16) C0 V rfl LV_TR_35 (c_TR_here_5 l D g w11 kO0 qO0 qA1 qA2 qA3 hO0 _) rfl rfl hO0 rfl hl.1 rfl (Nat.le_of_ble_eq_true rfl) ⟨by decide, by decide⟩ ⟨Nat.le_of_ble_eq_true rfl, Nat.le_of_ble_eq_true rfl⟩ d_18_16_79) (fun v26 u25 H locs hp24 V => ?_)
  obtain ⟨rfl, rfl⟩ := hp24
  refine lv_bipush (v := 73) hx hb d_18_16_82 (by decide) ?_
  refine lv_icmp_ne (tgt := 103) hx hb d_18_16_84 (by decide) (fun c28 => ?_) (fun c28 => absurd c28 (by decide))
  refine lv_aload_n hx hb d_18_16_103 rfl (lv_at hl 0 rfl) ?_
  refine q_goi V (q_runV (As := []) (rest := []) (d := 3) (mc := 0) (ms := 0) (ci := 16) C0 V rfl LV_TR_89 (c_TR_number_2 l D g w11 kO0 qO0 qA1 qA2 qA3 hO0 _) rfl rfl hO0 rfl hl.1 rfl (Nat.le_of_ble_eq_true rfl) ⟨by decide, by decide⟩ ⟨Nat.le_of_ble_eq_true rfl, Nat.le_of_ble_eq_true rfl⟩ d_18_16_104) (fun v31 u30 H locs hp29 V => ?_)
  obtain ⟨rfl, hg32, hO0⟩ := hp29
  replace hF := q_uc hF hg32 (q_sc (.head _) (fun _ h => absurd h List.not_mem_nil))
  refine lv_istore_n (lv' := [(1, .int 0), (0, .ref qO0)]) hx hb d_18_16_107 rfl hl (by decide) rfl (fun ls hl => ?_)
  refine lv_iload_n hx hb d_18_16_108 rfl (lv_at hl 0 rfl) ?_
  refine lv_if_eq (tgt := 116) hx hb d_18_16_109 (by decide) (fun c33 => ?_) (fun c33 => absurd (by decide) c33)
  refine lv_iload_n hx hb d_18_16_116 rfl (lv_at hl 0 rfl) ?_
  refine lv_if_eq (tgt := 135) hx hb d_18_16_117 (by decide) (fun c34 => ?_) (fun c34 => absurd (by decide) c34)
  refine lv_iconst (v := 0) hx hb d_18_16_135 (by decide) ?_
  exact q_retz C0 V (rfl) (⟨rfl, hF, hO0⟩) d_18_16_136
theorem d_18_31_12 : decode prog_18_method_31_code 12 = .ok (.iconst 1, 1) := by decide +kernel
theorem d_18_31_23 : decode prog_18_method_31_code 23 = .ok (.iconst 0, 1) := by decide +kernel
theorem d_18_31_24 : decode prog_18_method_31_code 24 = .ok (.ireturn, 1) := by decide +kernel
set_option maxRecDepth 100000 in
set_option maxHeartbeats 4000000 in
theorem c_TR_floatBits_2 (l : Launch) (D : va_G) (g : Nat → ClassId) (ws : va_W) (kO0 qO0 qA1 qA2 qA3 : Nat) (hO0 : ws[kO0]? = (some (qO0, .inr (16, [.int 0, .ref qA1, .int 0, .int 0, .int 0, .int 0, .ref qA2, .int 0, .int 0, .long 0, .ref qA3, .int 0, .int 0, .long 0, .long 0, .int 0, .int 0])) : Option (Nat × va_E))) : q_mI l y_TR_floatBits prog_18_method_31_code 2 (.int) 5 0 0 D g [.ref qO0] ws (fun r u => 0 = r ∧ q_un ws u [kO0] ∧ u[kO0]? = (some (qO0, .inr (16, [.int 1, .ref qA1, .int 0, .int 0, .int 0, .int 0, .ref qA2, .int 0, .int 0, .long 0, .ref qA3, .int 0, .int 0, .long 0, .long 0, .int 0, .int 0])) : Option (Nat × va_E))) := by
  intro sz
  refine q_into (by decide) (Nat.le_of_ble_eq_true rfl) ?_
  intro p e s m below meth c ls hsz C0 V hl
  have hx := C0.1
  have hb := C0.2.1
  have hl : lv_has ls 2 [(0, .ref qO0)] := hl
  have hF : q_un ws ws [kO0] := q_u0
  refine lv_aload_n hx hb d_18_31_0 rfl (lv_at hl 0 rfl) ?_
  refine lv_aload_n hx hb d_18_31_1 rfl (lv_at hl 0 rfl) ?_
  refine q_goi V (q_runV (As := []) (rest := [.ref qO0]) (d := 4) (mc := 0) (ms := 0) (ci := 16) C0 V rfl LV_TR_92 (c_TR_scan_2 l D g ws kO0 qO0 qA1 qA2 qA3 hO0 _) rfl rfl hO0 rfl hl.1 rfl (Nat.le_of_ble_eq_true rfl) ⟨by decide, by decide⟩ ⟨Nat.le_of_ble_eq_true rfl, Nat.le_of_ble_eq_true rfl⟩ d_18_31_2) (fun v3 u2 H locs hp1 V => ?_)
  obtain ⟨rfl, hg4, hO0⟩ := hp1
  replace hF := q_uc hF hg4 (q_sc (.head _) (fun _ h => absurd h List.not_mem_nil))
  refine lv_if_eq (tgt := 12) hx hb d_18_31_5 (by decide) (fun c5 => ?_) (fun c5 => absurd (by decide) c5)
  refine lv_iconst (v := 1) hx hb d_18_31_12 (by decide) ?_
  refine q_put (ci := 16) (j := 0) (v := .int 1) (ty := .int) C0 V i_TR o_TR n_TR rfl rfl hO0 (by decide) w_2138 rfl rfl rfl rfl (Nat.le_of_ble_eq_true rfl) d_18_31_13 (fun H locs w6 hu7 hO0 V => ?_)
  replace hO0 : w6[kO0]? = (some (qO0, .inr (16, [.int 1, .ref qA1, .int 0, .int 0, .int 0, .int 0, .ref qA2, .int 0, .int 0, .long 0, .ref qA3, .int 0, .int 0, .long 0, .long 0, .int 0, .int 0])) : Option (Nat × va_E)) := hO0
  replace hF := q_us hF hu7 (.head _)
  refine lv_aload_n hx hb d_18_31_16 rfl (lv_at hl 0 rfl) ?_
  refine q_get (ci := 16) (j := 0) (v := .int 1) C0 V i_TR rfl rfl hO0 (by decide) w_2138 rfl d_18_31_17 ?_
  refine lv_if_le (tgt := 25) hx hb d_18_31_20 (by decide) (fun c8 => absurd c8 (by decide)) (fun c8 => ?_)
  refine lv_iconst (v := 0) hx hb d_18_31_23 (by decide) ?_
  exact q_reti C0 V (⟨rfl, hF, hO0⟩) d_18_31_24
theorem d_18_30_12 : decode prog_18_method_30_code 12 = .ok (.iconst 1, 1) := by decide +kernel
theorem d_18_30_23 : decode prog_18_method_30_code 23 = .ok (.lconst 0, 1) := by decide +kernel
theorem d_18_30_24 : decode prog_18_method_30_code 24 = .ok (.lreturn, 1) := by decide +kernel
set_option maxRecDepth 100000 in
set_option maxHeartbeats 4000000 in
theorem c_TR_bits_2 (l : Launch) (D : va_G) (g : Nat → ClassId) (ws : va_W) (kO0 qO0 qA1 qA2 qA3 : Nat) (hO0 : ws[kO0]? = (some (qO0, .inr (16, [.int 0, .ref qA1, .int 0, .int 0, .int 0, .int 0, .ref qA2, .int 0, .int 0, .long 0, .ref qA3, .int 0, .int 0, .long 0, .long 0, .int 0, .int 0])) : Option (Nat × va_E))) : q_mL l y_TR_bits prog_18_method_30_code 3 5 0 0 D g [.ref qO0] ws (fun r u => 0 = r ∧ q_un ws u [kO0] ∧ u[kO0]? = (some (qO0, .inr (16, [.int 1, .ref qA1, .int 0, .int 0, .int 0, .int 0, .ref qA2, .int 0, .int 0, .long 0, .ref qA3, .int 0, .int 0, .long 0, .long 0, .int 0, .int 0])) : Option (Nat × va_E))) := by
  intro sz
  refine q_into (by decide) (Nat.le_of_ble_eq_true rfl) ?_
  intro p e s m below meth c ls hsz C0 V hl
  have hx := C0.1
  have hb := C0.2.1
  have hl : lv_has ls 3 [(0, .ref qO0)] := hl
  have hF : q_un ws ws [kO0] := q_u0
  refine lv_aload_n hx hb d_18_30_0 rfl (lv_at hl 0 rfl) ?_
  refine lv_aload_n hx hb d_18_30_1 rfl (lv_at hl 0 rfl) ?_
  refine q_goi V (q_runV (As := []) (rest := [.ref qO0]) (d := 4) (mc := 0) (ms := 0) (ci := 16) C0 V rfl LV_TR_92 (c_TR_scan_2 l D g ws kO0 qO0 qA1 qA2 qA3 hO0 _) rfl rfl hO0 rfl hl.1 rfl (Nat.le_of_ble_eq_true rfl) ⟨by decide, by decide⟩ ⟨Nat.le_of_ble_eq_true rfl, Nat.le_of_ble_eq_true rfl⟩ d_18_30_2) (fun v3 u2 H locs hp1 V => ?_)
  obtain ⟨rfl, hg4, hO0⟩ := hp1
  replace hF := q_uc hF hg4 (q_sc (.head _) (fun _ h => absurd h List.not_mem_nil))
  refine lv_if_eq (tgt := 12) hx hb d_18_30_5 (by decide) (fun c5 => ?_) (fun c5 => absurd (by decide) c5)
  refine lv_iconst (v := 1) hx hb d_18_30_12 (by decide) ?_
  refine q_put (ci := 16) (j := 0) (v := .int 1) (ty := .int) C0 V i_TR o_TR n_TR rfl rfl hO0 (by decide) w_2138 rfl rfl rfl rfl (Nat.le_of_ble_eq_true rfl) d_18_30_13 (fun H locs w6 hu7 hO0 V => ?_)
  replace hO0 : w6[kO0]? = (some (qO0, .inr (16, [.int 1, .ref qA1, .int 0, .int 0, .int 0, .int 0, .ref qA2, .int 0, .int 0, .long 0, .ref qA3, .int 0, .int 0, .long 0, .long 0, .int 0, .int 0])) : Option (Nat × va_E)) := hO0
  replace hF := q_us hF hu7 (.head _)
  refine lv_aload_n hx hb d_18_30_16 rfl (lv_at hl 0 rfl) ?_
  refine q_get (ci := 16) (j := 0) (v := .int 1) C0 V i_TR rfl rfl hO0 (by decide) w_2138 rfl d_18_30_17 ?_
  refine lv_if_le (tgt := 25) hx hb d_18_30_20 (by decide) (fun c8 => absurd c8 (by decide)) (fun c8 => ?_)
  refine lv_lconst (v := 0) hx hb d_18_30_23 (by decide) ?_
  exact q_retl C0 V (⟨rfl, hF, hO0⟩) d_18_30_24
set_option maxRecDepth 100000 in
set_option maxHeartbeats 4000000 in
theorem c_DR_at_8 (l : Launch) (D : va_G) (g : Nat → ClassId) (ws : va_W) (kO0 qO0 qA1 qA2 qA3 qA4 qA5 qA6 qA7 qA8 qA9 qA10 : Nat) (hO0 : ws[kO0]? = (some (qO0, .inr (14, [.int 0, .ref qA1, .int 0, .ref qA2, .ref qA3, .ref qA4, .ref qA5, .ref qA6, .int 0, .long 0, .int 0, .int 0, .ref qA7, .int 0, .ref qA8, .int 0, .ref qA9, .int 0, .ref qA10, .int 0, .int 0])) : Option (Nat × va_E))) : q_mI l y_DR_at prog_15_method_18_code 2 (.int) 1 0 0 D g [.ref qO0, .int 0] ws (fun r u => 0 = r ∧ ws = u) := by
  intro sz
  refine q_into (by decide) (Nat.le_of_ble_eq_true rfl) ?_
  intro p e s m below meth c ls hsz C0 V hl
  have hx := C0.1
  have hb := C0.2.1
  have hl : lv_has ls 2 [(0, .ref qO0), (1, .int 0)] := hl
  refine lv_iload_n hx hb d_15_18_0 rfl (lv_at hl 1 rfl) ?_
  refine lv_aload_n hx hb d_15_18_1 rfl (lv_at hl 0 rfl) ?_
  refine q_get (ci := 14) (j := 2) (v := .int 0) C0 V i_DR rfl rfl hO0 (by decide) w_2001 rfl d_15_18_2 ?_
  refine lv_icmp_ge (tgt := 17) hx hb d_15_18_5 (by decide) (fun c1 => ?_) (fun c1 => absurd (by decide) c1)
  refine lv_iconst (v := 0) hx hb d_15_18_17 (by decide) ?_
  exact q_reti C0 V (⟨rfl, rfl⟩) d_15_18_18
theorem d_15_20_178 : decode prog_15_method_20_code 178 = .ok (.iconst 0, 1) := by decide +kernel
theorem d_15_20_179 : decode prog_15_method_20_code 179 = .ok (.ireturn, 1) := by decide +kernel
set_option maxRecDepth 100000 in
set_option maxHeartbeats 4000000 in
theorem c_DR_says_3 (l : Launch) (D : va_G) (g : Nat → ClassId) (ws : va_W) (kO0 qO0 qA1 qA2 qA3 qA4 qA5 qA6 qA7 qA8 qA9 qA10 : Nat) (hO0 : ws[kO0]? = (some (qO0, .inr (14, [.int 0, .ref qA1, .int 0, .ref qA2, .ref qA3, .ref qA4, .ref qA5, .ref qA6, .int 0, .long 0, .int 0, .int 0, .ref qA7, .int 0, .ref qA8, .int 0, .ref qA9, .int 0, .ref qA10, .int 0, .int 0])) : Option (Nat × va_E))) : q_mI l y_DR_says prog_15_method_20_code 7 (.boolean) 2 0 0 D g [.ref qO0] ws (fun r u => 0 = r ∧ q_un ws u [kO0] ∧ u[kO0]? = (some (qO0, .inr (14, [.int 0, .ref qA1, .int 0, .ref qA2, .ref qA3, .ref qA4, .ref qA5, .ref qA6, .int 0, .long 0, .int 0, .int 0, .ref qA7, .int 0, .ref qA8, .int 0, .ref qA9, .int 0, .ref qA10, .int 0, .int 0])) : Option (Nat × va_E))) := by
  intro sz
  refine q_into (by decide) (Nat.le_of_ble_eq_true rfl) ?_
  intro p e s m below meth c ls hsz C0 V hl
  have hx := C0.1
  have hb := C0.2.1
  have hl : lv_has ls 7 [(0, .ref qO0)] := hl
  have hF : q_un ws ws [kO0] := q_u0
  refine lv_aload_n hx hb d_15_20_0 rfl (lv_at hl 0 rfl) ?_
  refine lv_iconst (v := 0) hx hb d_15_20_1 (by decide) ?_
  refine q_goi V (q_runV (As := [.int 0]) (rest := []) (d := 1) (mc := 0) (ms := 0) (ci := 14) C0 V rfl LV_DR_102 (c_DR_at_8 l D g ws kO0 qO0 qA1 qA2 qA3 qA4 qA5 qA6 qA7 qA8 qA9 qA10 hO0 _) rfl rfl hO0 rfl hl.1 rfl (Nat.le_of_ble_eq_true rfl) ⟨by decide, by decide⟩ ⟨Nat.le_of_ble_eq_true rfl, Nat.le_of_ble_eq_true rfl⟩ d_15_20_2) (fun v3 u2 H locs hp1 V => ?_)
  obtain ⟨rfl, rfl⟩ := hp1
  refine lv_bipush (v := 43) hx hb d_15_20_5 (by decide) ?_
  refine lv_icmp_eq (tgt := 20) hx hb d_15_20_7 (by decide) (fun c5 => absurd c5 (by decide)) (fun c5 => ?_)
  refine lv_aload_n hx hb d_15_20_10 rfl (lv_at hl 0 rfl) ?_
  refine lv_iconst (v := 0) hx hb d_15_20_11 (by decide) ?_
  refine q_goi V (q_runV (As := [.int 0]) (rest := []) (d := 1) (mc := 0) (ms := 0) (ci := 14) C0 V rfl LV_DR_102 (c_DR_at_8 l D g ws kO0 qO0 qA1 qA2 qA3 qA4 qA5 qA6 qA7 qA8 qA9 qA10 hO0 _) rfl rfl hO0 rfl hl.1 rfl (Nat.le_of_ble_eq_true rfl) ⟨by decide, by decide⟩ ⟨Nat.le_of_ble_eq_true rfl, Nat.le_of_ble_eq_true rfl⟩ d_15_20_12) (fun v8 u7 H locs hp6 V => ?_)
  obtain ⟨rfl, rfl⟩ := hp6
  refine lv_bipush (v := 45) hx hb d_15_20_15 (by decide) ?_
  refine lv_icmp_ne (tgt := 24) hx hb d_15_20_17 (by decide) (fun c10 => ?_) (fun c10 => absurd c10 (by decide))
  refine lv_iconst (v := 0) hx hb d_15_20_24 (by decide) ?_
  refine lv_istore_n (lv' := [(1, .int 0), (0, .ref qO0)]) hx hb d_15_20_25 rfl hl (by decide) rfl (fun ls hl => ?_)
  refine lv_aload_n hx hb d_15_20_26 rfl (lv_at hl 1 rfl) ?_
  refine lv_aload_n hx hb d_15_20_27 rfl (lv_at hl 1 rfl) ?_
  refine lv_iconst (v := 0) hx hb d_15_20_28 (by decide) ?_
  refine q_goi V (q_runV (As := [.int 0]) (rest := [.ref qO0]) (d := 1) (mc := 0) (ms := 0) (ci := 14) C0 V rfl LV_DR_102 (c_DR_at_8 l D g ws kO0 qO0 qA1 qA2 qA3 qA4 qA5 qA6 qA7 qA8 qA9 qA10 hO0 _) rfl rfl hO0 rfl hl.1 rfl (Nat.le_of_ble_eq_true rfl) ⟨by decide, by decide⟩ ⟨Nat.le_of_ble_eq_true rfl, Nat.le_of_ble_eq_true rfl⟩ d_15_20_29) (fun v13 u12 H locs hp11 V => ?_)
  obtain ⟨rfl, rfl⟩ := hp11
  refine lv_bipush (v := 45) hx hb d_15_20_32 (by decide) ?_
  refine lv_icmp_ne (tgt := 41) hx hb d_15_20_34 (by decide) (fun c15 => ?_) (fun c15 => absurd c15 (by decide))
  refine lv_iconst (v := 0) hx hb d_15_20_41 (by decide) ?_
  refine q_put (ci := 14) (j := 11) (v := .int 0) (ty := .boolean) C0 V i_DR o_DR n_DR rfl rfl hO0 (by decide) w_2014 rfl rfl rfl rfl (Nat.le_of_ble_eq_true rfl) d_15_20_42 (fun H locs w16 hu17 hO0 V => ?_)
  replace hO0 : w16[kO0]? = (some (qO0, .inr (14, [.int 0, .ref qA1, .int 0, .ref qA2, .ref qA3, .ref qA4, .ref qA5, .ref qA6, .int 0, .long 0, .int 0, .int 0, .ref qA7, .int 0, .ref qA8, .int 0, .ref qA9, .int 0, .ref qA10, .int 0, .int 0])) : Option (Nat × va_E)) := hO0
  replace hF := q_us hF hu17 (.head _)
  refine lv_aload_n hx hb d_15_20_45 rfl (lv_at hl 1 rfl) ?_
  refine lv_iconst (v := 0) hx hb d_15_20_46 (by decide) ?_
  refine q_put (ci := 14) (j := 8) (v := .int 0) (ty := .int) C0 V i_DR o_DR n_DR rfl rfl hO0 (by decide) w_2011 rfl rfl rfl rfl (Nat.le_of_ble_eq_true rfl) d_15_20_47 (fun H locs w18 hu19 hO0 V => ?_)
  replace hO0 : w18[kO0]? = (some (qO0, .inr (14, [.int 0, .ref qA1, .int 0, .ref qA2, .ref qA3, .ref qA4, .ref qA5, .ref qA6, .int 0, .long 0, .int 0, .int 0, .ref qA7, .int 0, .ref qA8, .int 0, .ref qA9, .int 0, .ref qA10, .int 0, .int 0])) : Option (Nat × va_E)) := hO0
  replace hF := q_us hF hu19 (.head _)
  refine lv_aload_n hx hb d_15_20_50 rfl (lv_at hl 1 rfl) ?_
  refine lv_lconst (v := 0) hx hb d_15_20_51 (by decide) ?_
  refine q_put (ci := 14) (j := 9) (v := .long 0) (ty := .long) C0 V i_DR o_DR n_DR rfl rfl hO0 (by decide) w_2012 rfl rfl rfl rfl (Nat.le_of_ble_eq_true rfl) d_15_20_52 (fun H locs w20 hu21 hO0 V => ?_)
  replace hO0 : w20[kO0]? = (some (qO0, .inr (14, [.int 0, .ref qA1, .int 0, .ref qA2, .ref qA3, .ref qA4, .ref qA5, .ref qA6, .int 0, .long 0, .int 0, .int 0, .ref qA7, .int 0, .ref qA8, .int 0, .ref qA9, .int 0, .ref qA10, .int 0, .int 0])) : Option (Nat × va_E)) := hO0
  replace hF := q_us hF hu21 (.head _)
  refine lv_aload_n hx hb d_15_20_55 rfl (lv_at hl 1 rfl) ?_
  refine lv_iconst (v := 0) hx hb d_15_20_56 (by decide) ?_
  refine q_put (ci := 14) (j := 10) (v := .int 0) (ty := .boolean) C0 V i_DR o_DR n_DR rfl rfl hO0 (by decide) w_2013 rfl rfl rfl rfl (Nat.le_of_ble_eq_true rfl) d_15_20_57 (fun H locs w22 hu23 hO0 V => ?_)
  replace hO0 : w22[kO0]? = (some (qO0, .inr (14, [.int 0, .ref qA1, .int 0, .ref qA2, .ref qA3, .ref qA4, .ref qA5, .ref qA6, .int 0, .long 0, .int 0, .int 0, .ref qA7, .int 0, .ref qA8, .int 0, .ref qA9, .int 0, .ref qA10, .int 0, .int 0])) : Option (Nat × va_E)) := hO0
  replace hF := q_us hF hu23 (.head _)
  refine lv_iconst (v := 0) hx hb d_15_20_60 (by decide) ?_
  refine lv_istore_n (lv' := [(2, .int 0), (1, .int 0), (0, .ref qO0)]) hx hb d_15_20_61 rfl hl (by decide) rfl (fun ls hl => ?_)
  refine lv_aload_n hx hb d_15_20_62 rfl (lv_at hl 2 rfl) ?_
  refine lv_iload_n hx hb d_15_20_63 rfl (lv_at hl 1 rfl) ?_
  refine q_goi V (q_runV (As := [.int 0]) (rest := []) (d := 1) (mc := 0) (ms := 0) (ci := 14) C0 V rfl LV_DR_102 (c_DR_at_8 l D g w22 kO0 qO0 qA1 qA2 qA3 qA4 qA5 qA6 qA7 qA8 qA9 qA10 hO0 _) rfl rfl hO0 rfl hl.1 rfl (Nat.le_of_ble_eq_true rfl) ⟨by decide, by decide⟩ ⟨Nat.le_of_ble_eq_true rfl, Nat.le_of_ble_eq_true rfl⟩ d_15_20_64) (fun v26 u25 H locs hp24 V => ?_)
  obtain ⟨rfl, rfl⟩ := hp24
  refine q_goi V (q_runS (As := [.int 0]) (rest := []) (d := 1) (mc := 0) (ms := 0) C0 V rfl LS_DR_106 (c_DR_isDigit_2 l D g w22 _) rfl hl.1 rfl (Nat.le_of_ble_eq_true rfl) ⟨by decide, by decide⟩ ⟨Nat.le_of_ble_eq_true rfl, Nat.le_of_ble_eq_true rfl⟩ d_15_20_67) (fun v30 u29 H locs hp28 V => ?_)
  obtain ⟨rfl, rfl⟩ := hp28
  refine lv_if_ne (tgt := 87) hx hb d_15_20_70 (by decide) (fun c32 => absurd (by decide) c32) (fun c32 => ?_)
  refine lv_aload_n hx hb d_15_20_73 rfl (lv_at hl 2 rfl) ?_
  refine lv_iload_n hx hb d_15_20_74 rfl (lv_at hl 1 rfl) ?_
  refine q_goi V (q_runV (As := [.int 0]) (rest := []) (d := 1) (mc := 0) (ms := 0) (ci := 14) C0 V rfl LV_DR_102 (c_DR_at_8 l D g w22 kO0 qO0 qA1 qA2 qA3 qA4 qA5 qA6 qA7 qA8 qA9 qA10 hO0 _) rfl rfl hO0 rfl hl.1 rfl (Nat.le_of_ble_eq_true rfl) ⟨by decide, by decide⟩ ⟨Nat.le_of_ble_eq_true rfl, Nat.le_of_ble_eq_true rfl⟩ d_15_20_75) (fun v35 u34 H locs hp33 V => ?_)
  obtain ⟨rfl, rfl⟩ := hp33
  refine lv_bipush (v := 46) hx hb d_15_20_78 (by decide) ?_
  refine lv_icmp_ne (tgt := 171) hx hb d_15_20_80 (by decide) (fun c37 => ?_) (fun c37 => absurd c37 (by decide))
  refine lv_aload_n hx hb d_15_20_171 rfl (lv_at hl 2 rfl) ?_
  refine q_get (ci := 14) (j := 8) (v := .int 0) C0 V i_DR rfl rfl hO0 (by decide) w_2011 rfl d_15_20_172 ?_
  refine lv_if_ne (tgt := 180) hx hb d_15_20_175 (by decide) (fun c38 => absurd (by decide) c38) (fun c38 => ?_)
  refine lv_iconst (v := 0) hx hb d_15_20_178 (by decide) ?_
  exact q_retz C0 V (rfl) (⟨rfl, hF, hO0⟩) d_15_20_179
theorem d_15_21_19 : decode prog_15_method_21_code 19 = .ok (.iconst 2, 1) := by decide +kernel
theorem d_15_21_20 : decode prog_15_method_21_code 20 = .ok (.goto 4, 3) := by decide +kernel
set_option maxRecDepth 100000 in
set_option maxHeartbeats 4000000 in
theorem c_DR_read_3 (l : Launch) (D : va_G) (g : Nat → ClassId) (ws : va_W) (kO0 qO0 qA1 qA2 qA3 qA4 qA5 qA6 qA7 qA8 qA9 qA10 : Nat) (x1 : Int32) (hO0 : ws[kO0]? = (some (qO0, .inr (14, [.int 0, .ref qA1, .int 0, .ref qA2, .ref qA3, .ref qA4, .ref qA5, .ref qA6, .int 0, .long 0, .int 0, .int 0, .ref qA7, .int 0, .ref qA8, .int 0, .ref qA9, .int 0, .ref qA10, .int 0, .int 0])) : Option (Nat × va_E))) (x1lo : 0 ≤ x1) (x1hi : x1 ≤ 9) : q_mV l y_DR_read prog_15_method_21_code 2 3 0 0 D g [.ref qO0, .int x1] ws (fun u => q_un ws u [kO0] ∧ u[kO0]? = (some (qO0, .inr (14, [.int 2, .ref qA1, .int 0, .ref qA2, .ref qA3, .ref qA4, .ref qA5, .ref qA6, .int 0, .long 0, .int 0, .int 0, .ref qA7, .int 0, .ref qA8, .int 0, .ref qA9, .int 0, .ref qA10, .int 0, .int 0])) : Option (Nat × va_E))) := by
  intro sz
  refine q_into (by decide) (Nat.le_of_ble_eq_true rfl) ?_
  intro p e s m below meth c ls hsz C0 V hl
  have hx := C0.1
  have hb := C0.2.1
  have hl : lv_has ls 2 [(0, .ref qO0), (1, .int x1)] := hl
  have hF : q_un ws ws [kO0] := q_u0
  refine lv_aload_n hx hb d_15_21_0 rfl (lv_at hl 0 rfl) ?_
  refine lv_iload_n hx hb d_15_21_1 rfl (lv_at hl 1 rfl) ?_
  refine q_goi V (q_runS (As := [.int x1]) (rest := [.ref qO0]) (d := 1) (mc := 0) (ms := 0) C0 V rfl LS_DR_113 (c_DR_no l D g ws x1 x1lo x1hi _) rfl hl.1 rfl (Nat.le_of_ble_eq_true rfl) ⟨by decide, by decide⟩ ⟨Nat.le_of_ble_eq_true rfl, Nat.le_of_ble_eq_true rfl⟩ d_15_21_2) (fun v3 u2 H locs hp1 V => ?_)
  obtain ⟨rfl, rfl⟩ := hp1
  refine lv_if_eq (tgt := 12) hx hb d_15_21_5 (by decide) (fun c5 => ?_) (fun c5 => absurd (by decide) c5)
  refine lv_aload_n hx hb d_15_21_12 rfl (lv_at hl 0 rfl) ?_
  refine q_goi V (q_runV (As := []) (rest := [.ref qO0]) (d := 2) (mc := 0) (ms := 0) (ci := 14) C0 V rfl LV_DR_116 (c_DR_says_3 l D g ws kO0 qO0 qA1 qA2 qA3 qA4 qA5 qA6 qA7 qA8 qA9 qA10 hO0 _) rfl rfl hO0 rfl hl.1 rfl (Nat.le_of_ble_eq_true rfl) ⟨by decide, by decide⟩ ⟨Nat.le_of_ble_eq_true rfl, Nat.le_of_ble_eq_true rfl⟩ d_15_21_13) (fun v8 u7 H locs hp6 V => ?_)
  obtain ⟨rfl, hg9, hO0⟩ := hp6
  replace hF := q_uc hF hg9 (q_sc (.head _) (fun _ h => absurd h List.not_mem_nil))
  refine lv_if_ne (tgt := 23) hx hb d_15_21_16 (by decide) (fun c10 => absurd (by decide) c10) (fun c10 => ?_)
  refine lv_iconst (v := 2) hx hb d_15_21_19 (by decide) ?_
  refine lv_goto (tgt := 24) hx hb d_15_21_20 (by decide) ?_
  refine q_put (ci := 14) (j := 0) (v := .int 2) (ty := .int) C0 V i_DR o_DR n_DR rfl rfl hO0 (by decide) w_1996 rfl rfl rfl rfl (Nat.le_of_ble_eq_true rfl) d_15_21_24 (fun H locs w11 hu12 hO0 V => ?_)
  replace hO0 : w11[kO0]? = (some (qO0, .inr (14, [.int 2, .ref qA1, .int 0, .ref qA2, .ref qA3, .ref qA4, .ref qA5, .ref qA6, .int 0, .long 0, .int 0, .int 0, .ref qA7, .int 0, .ref qA8, .int 0, .ref qA9, .int 0, .ref qA10, .int 0, .int 0])) : Option (Nat × va_E)) := hO0
  replace hF := q_us hF hu12 (.head _)
  refine lv_aload_n hx hb d_15_21_27 rfl (lv_at hl 0 rfl) ?_
  refine q_get (ci := 14) (j := 0) (v := .int 2) C0 V i_DR rfl rfl hO0 (by decide) w_1996 rfl d_15_21_28 ?_
  refine lv_if_ne (tgt := 63) hx hb d_15_21_31 (by decide) (fun c13 => ?_) (fun c13 => absurd c13 (by decide))
  exact q_retv C0 V (⟨hF, hO0⟩) d_15_21_63
theorem d_19_19_79 : decode prog_19_method_19_code 79 = .ok (.iconst 2, 1) := by decide +kernel
theorem d_19_19_80 : decode prog_19_method_19_code 80 = .ok (.goto 4, 3) := by decide +kernel
theorem d_19_19_138 : decode prog_19_method_19_code 138 = .ok (.return_, 1) := by decide +kernel
set_option maxRecDepth 100000 in
set_option maxHeartbeats 4000000 in
theorem c_WR_read_2 (l : Launch) (D : va_G) (g : Nat → ClassId) (ws : va_W) (kO0 qO0 qA1 qA2 qA3 qA4 qA5 qA6 qA7 qA8 qA9 qA10 qA11 qA12 qA13 qA14 : Nat) (x1 : Int32) (x2 : Int32) (hO0 : ws[kO0]? = (some (qO0, .inr (13, [.int 0, .int 0, .ref qA1, .int 0, .ref qA2, .ref qA3, .ref qA4, .int 0, .ref qA5, .ref qA6, .ref qA7, .ref qA8, .ref qA9, .ref qA10, .ref qA11, .ref qA12, .int 0, .int 0, .ref qA13, .ref qA14, .int 0])) : Option (Nat × va_E))) (x1lo : 0 ≤ x1) (x1hi : x1 ≤ 9) (x2lo : 2 ≤ x2) (x2hi : x2 ≤ 36) : q_mV l y_WR_read prog_19_method_19_code 5 2 0 0 D g [.ref qO0, .int x1, .int x2] ws (fun u => q_un ws u [kO0] ∧ u[kO0]? = (some (qO0, .inr (13, [.int 2, .int 0, .ref qA1, .int 0, .ref qA2, .ref qA3, .ref qA4, .int 0, .ref qA5, .ref qA6, .ref qA7, .ref qA8, .ref qA9, .ref qA10, .ref qA11, .ref qA12, .int 0, .int 0, .ref qA13, .ref qA14, .int 0])) : Option (Nat × va_E))) := by
  intro sz
  refine q_into (by decide) (Nat.le_of_ble_eq_true rfl) ?_
  intro p e s m below meth c ls hsz C0 V hl
  have hx := C0.1
  have hb := C0.2.1
  have hl : lv_has ls 5 [(0, .ref qO0), (1, .int x1), (2, .int x2)] := hl
  have hF : q_un ws ws [kO0] := q_u0
  refine lv_aload_n hx hb d_19_19_0 rfl (lv_at hl 0 rfl) ?_
  refine lv_iload_n hx hb d_19_19_1 rfl (lv_at hl 1 rfl) ?_
  refine q_goi V (q_runS (As := [.int x1]) (rest := [.ref qO0]) (d := 1) (mc := 0) (ms := 0) C0 V rfl LS_WR_91 (c_WR_no l D g ws x1 x1lo x1hi _) rfl hl.1 rfl (Nat.le_of_ble_eq_true rfl) ⟨by decide, by decide⟩ ⟨Nat.le_of_ble_eq_true rfl, Nat.le_of_ble_eq_true rfl⟩ d_19_19_2) (fun v3 u2 H locs hp1 V => ?_)
  obtain ⟨rfl, rfl⟩ := hp1
  refine lv_if_ne (tgt := 19) hx hb d_19_19_5 (by decide) (fun c5 => absurd (by decide) c5) (fun c5 => ?_)
  refine lv_iload_n hx hb d_19_19_8 rfl (lv_at hl 2 rfl) ?_
  refine lv_iconst (v := 2) hx hb d_19_19_9 (by decide) ?_
  refine lv_icmp_lt (tgt := 19) hx hb d_19_19_10 (by decide) (fun c6 => absurd c6 (Int32.not_lt.mpr x2lo)) (fun c6 => ?_)
  refine lv_iload_n hx hb d_19_19_13 rfl (lv_at hl 2 rfl) ?_
  refine lv_bipush (v := 36) hx hb d_19_19_14 (by decide) ?_
  refine lv_icmp_le (tgt := 23) hx hb d_19_19_16 (by decide) (fun c7 => ?_) (fun c7 => absurd x2hi c7)
  refine lv_iconst (v := 0) hx hb d_19_19_23 (by decide) ?_
  refine q_put (ci := 13) (j := 0) (v := .int 0) (ty := .int) C0 V i_WR o_WR n_WR rfl rfl hO0 (by decide) w_1921 rfl rfl rfl rfl (Nat.le_of_ble_eq_true rfl) d_19_19_24 (fun H locs w8 hu9 hO0 V => ?_)
  replace hO0 : w8[kO0]? = (some (qO0, .inr (13, [.int 0, .int 0, .ref qA1, .int 0, .ref qA2, .ref qA3, .ref qA4, .int 0, .ref qA5, .ref qA6, .ref qA7, .ref qA8, .ref qA9, .ref qA10, .ref qA11, .ref qA12, .int 0, .int 0, .ref qA13, .ref qA14, .int 0])) : Option (Nat × va_E)) := hO0
  replace hF := q_us hF hu9 (.head _)
  refine lv_aload_n hx hb d_19_19_27 rfl (lv_at hl 0 rfl) ?_
  refine q_get (ci := 13) (j := 0) (v := .int 0) C0 V i_WR rfl rfl hO0 (by decide) w_1921 rfl d_19_19_28 ?_
  refine lv_if_le (tgt := 35) hx hb d_19_19_31 (by decide) (fun c10 => ?_) (fun c10 => absurd (by decide) c10)
  refine lv_aload_n hx hb d_19_19_35 rfl (lv_at hl 0 rfl) ?_
  refine q_get (ci := 13) (j := 3) (v := .int 0) C0 V i_WR rfl rfl hO0 (by decide) w_1927 rfl d_19_19_36 ?_
  refine lv_if_le (tgt := 68) hx hb d_19_19_39 (by decide) (fun c11 => ?_) (fun c11 => absurd (by decide) c11)
  refine lv_iconst (v := 0) hx hb d_19_19_68 (by decide) ?_
  refine lv_istore_n (lv' := [(3, .int 0), (0, .ref qO0), (1, .int x1), (2, .int x2)]) hx hb d_19_19_69 rfl hl (by decide) rfl (fun ls hl => ?_)
  refine lv_aload_n hx hb d_19_19_70 rfl (lv_at hl 1 rfl) ?_
  refine lv_iload_n hx hb d_19_19_71 rfl (lv_at hl 0 rfl) ?_
  refine lv_aload_n hx hb d_19_19_72 rfl (lv_at hl 1 rfl) ?_
  refine q_get (ci := 13) (j := 3) (v := .int 0) C0 V i_WR rfl rfl hO0 (by decide) w_1927 rfl d_19_19_73 ?_
  refine lv_icmp_ne (tgt := 83) hx hb d_19_19_76 (by decide) (fun c12 => absurd (by decide) c12) (fun c12 => ?_)
  refine lv_iconst (v := 2) hx hb d_19_19_79 (by decide) ?_
  refine lv_goto (tgt := 84) hx hb d_19_19_80 (by decide) ?_
  refine q_put (ci := 13) (j := 0) (v := .int 2) (ty := .int) C0 V i_WR o_WR n_WR rfl rfl hO0 (by decide) w_1921 rfl rfl rfl rfl (Nat.le_of_ble_eq_true rfl) d_19_19_84 (fun H locs w13 hu14 hO0 V => ?_)
  replace hO0 : w13[kO0]? = (some (qO0, .inr (13, [.int 2, .int 0, .ref qA1, .int 0, .ref qA2, .ref qA3, .ref qA4, .int 0, .ref qA5, .ref qA6, .ref qA7, .ref qA8, .ref qA9, .ref qA10, .ref qA11, .ref qA12, .int 0, .int 0, .ref qA13, .ref qA14, .int 0])) : Option (Nat × va_E)) := hO0
  replace hF := q_us hF hu14 (.head _)
  refine lv_iload_n hx hb d_19_19_87 rfl (lv_at hl 0 rfl) ?_
  refine lv_istore (lv' := [(4, .int 0), (3, .int 0), (0, .ref qO0), (1, .int x1), (2, .int x2)]) hx hb d_19_19_88 hl (by decide) rfl (fun ls hl => ?_)
  refine lv_iload hx hb d_19_19_90 (lv_at hl 0 rfl) ?_
  refine lv_aload_n hx hb d_19_19_92 rfl (lv_at hl 2 rfl) ?_
  refine q_get (ci := 13) (j := 3) (v := .int 0) C0 V i_WR rfl rfl hO0 (by decide) w_1927 rfl d_19_19_93 ?_
  refine lv_icmp_ge (tgt := 131) hx hb d_19_19_96 (by decide) (fun c15 => ?_) (fun c15 => absurd (by decide) c15)
  refine lv_aload_n hx hb d_19_19_131 rfl (lv_at hl 2 rfl) ?_
  refine q_get (ci := 13) (j := 0) (v := .int 2) C0 V i_WR rfl rfl hO0 (by decide) w_1921 rfl d_19_19_132 ?_
  refine lv_if_le (tgt := 139) hx hb d_19_19_135 (by decide) (fun c16 => absurd c16 (by decide)) (fun c16 => ?_)
  exact q_retv C0 V (⟨hF, hO0⟩) d_19_19_138
theorem d_14_15_0 : decode prog_14_method_15_code 0 = .ok (.iload_n 1, 1) := by decide +kernel
theorem d_14_15_1 : decode prog_14_method_15_code 1 = .ok (.iload_n 2, 1) := by decide +kernel
theorem d_14_15_2 : decode prog_14_method_15_code 2 = .ok (.invokestatic 84, 3) := by decide +kernel
theorem d_14_15_5 : decode prog_14_method_15_code 5 = .ok (.ifCond .ne 27, 3) := by decide +kernel
theorem d_14_15_32 : decode prog_14_method_15_code 32 = .ok (.iconst 1, 1) := by decide +kernel
theorem d_14_15_33 : decode prog_14_method_15_code 33 = .ok (.goto 4, 3) := by decide +kernel
theorem d_14_15_37 : decode prog_14_method_15_code 37 = .ok (.istore 4, 2) := by decide +kernel
theorem d_14_15_39 : decode prog_14_method_15_code 39 = .ok (.aload_n 0, 1) := by decide +kernel
theorem d_14_15_40 : decode prog_14_method_15_code 40 = .ok (.iload 4, 2) := by decide +kernel
theorem d_14_15_42 : decode prog_14_method_15_code 42 = .ok (.ifCond .eq 7, 3) := by decide +kernel
theorem d_14_15_45 : decode prog_14_method_15_code 45 = .ok (.iconst 1, 1) := by decide +kernel
theorem d_14_15_46 : decode prog_14_method_15_code 46 = .ok (.goto 4, 3) := by decide +kernel
theorem d_14_15_50 : decode prog_14_method_15_code 50 = .ok (.putfield 58, 3) := by decide +kernel
theorem d_14_15_53 : decode prog_14_method_15_code 53 = .ok (.iload 4, 2) := by decide +kernel
theorem d_14_15_55 : decode prog_14_method_15_code 55 = .ok (.ifCond .eq 5, 3) := by decide +kernel
theorem d_14_15_58 : decode prog_14_method_15_code 58 = .ok (.iconst 0, 1) := by decide +kernel
theorem d_14_15_59 : decode prog_14_method_15_code 59 = .ok (.ireturn, 1) := by decide +kernel
theorem d_14_15_8 : decode prog_14_method_15_code 8 = .ok (.iload_n 1, 1) := by decide +kernel
theorem d_14_15_9 : decode prog_14_method_15_code 9 = .ok (.ifCond .ne 17, 3) := by decide +kernel
theorem d_14_15_26 : decode prog_14_method_15_code 26 = .ok (.iload_n 3, 1) := by decide +kernel
theorem d_14_15_27 : decode prog_14_method_15_code 27 = .ok (.bipush 10, 2) := by decide +kernel
theorem d_14_15_29 : decode prog_14_method_15_code 29 = .ok (.if_icmp .eq 7, 3) := by decide +kernel
theorem d_14_15_36 : decode prog_14_method_15_code 36 = .ok (.iconst 0, 1) := by decide +kernel
theorem d_14_15_49 : decode prog_14_method_15_code 49 = .ok (.iconst 0, 1) := by decide +kernel
theorem d_14_15_60 : decode prog_14_method_15_code 60 = .ok (.iconst 0, 1) := by decide +kernel
theorem d_14_15_61 : decode prog_14_method_15_code 61 = .ok (.istore 5, 2) := by decide +kernel
theorem d_14_15_63 : decode prog_14_method_15_code 63 = .ok (.iload_n 1, 1) := by decide +kernel
theorem d_14_15_64 : decode prog_14_method_15_code 64 = .ok (.ifCond .ne 49, 3) := by decide +kernel
theorem d_14_15_113 : decode prog_14_method_15_code 113 = .ok (.iload_n 1, 1) := by decide +kernel
theorem d_14_15_114 : decode prog_14_method_15_code 114 = .ok (.iconst 1, 1) := by decide +kernel
theorem d_14_15_115 : decode prog_14_method_15_code 115 = .ok (.if_icmp .ne 48, 3) := by decide +kernel
theorem d_14_15_163 : decode prog_14_method_15_code 163 = .ok (.aload_n 0, 1) := by decide +kernel
theorem d_14_15_164 : decode prog_14_method_15_code 164 = .ok (.getfield 40, 3) := by decide +kernel
theorem d_14_15_167 : decode prog_14_method_15_code 167 = .ok (.aload_n 0, 1) := by decide +kernel
theorem d_14_15_168 : decode prog_14_method_15_code 168 = .ok (.getfield 7, 3) := by decide +kernel
theorem d_14_15_171 : decode prog_14_method_15_code 171 = .ok (.aload_n 0, 1) := by decide +kernel
theorem d_14_15_172 : decode prog_14_method_15_code 172 = .ok (.getfield 62, 3) := by decide +kernel
theorem d_14_15_175 : decode prog_14_method_15_code 175 = .ok (.aload_n 0, 1) := by decide +kernel
theorem d_14_15_176 : decode prog_14_method_15_code 176 = .ok (.getfield 40, 3) := by decide +kernel
theorem d_14_15_179 : decode prog_14_method_15_code 179 = .ok (.getfield 106, 3) := by decide +kernel
theorem d_14_15_182 : decode prog_14_method_15_code 182 = .ok (.invokestatic 90, 3) := by decide +kernel
theorem d_14_15_185 : decode prog_14_method_15_code 185 = .ok (.putfield 109, 3) := by decide +kernel
theorem d_14_15_188 : decode prog_14_method_15_code 188 = .ok (.iload_n 1, 1) := by decide +kernel
theorem d_14_15_189 : decode prog_14_method_15_code 189 = .ok (.iconst 2, 1) := by decide +kernel
theorem d_14_15_190 : decode prog_14_method_15_code 190 = .ok (.if_icmp .ne 13, 3) := by decide +kernel
theorem d_14_15_203 : decode prog_14_method_15_code 203 = .ok (.aload_n 0, 1) := by decide +kernel
theorem d_14_15_204 : decode prog_14_method_15_code 204 = .ok (.getfield 40, 3) := by decide +kernel
theorem d_14_15_207 : decode prog_14_method_15_code 207 = .ok (.invokevirtual 113, 3) := by decide +kernel
theorem d_14_15_210 : decode prog_14_method_15_code 210 = .ok (.i2l, 1) := by decide +kernel
theorem d_14_15_211 : decode prog_14_method_15_code 211 = .ok (.ldc2_w 117, 3) := by decide +kernel
theorem d_14_15_214 : decode prog_14_method_15_code 214 = .ok (.land, 1) := by decide +kernel
theorem d_14_15_215 : decode prog_14_method_15_code 215 = .ok (.lstore 6, 2) := by decide +kernel
theorem d_14_15_217 : decode prog_14_method_15_code 217 = .ok (.aload_n 0, 1) := by decide +kernel
theorem d_14_15_218 : decode prog_14_method_15_code 218 = .ok (.getfield 40, 3) := by decide +kernel
theorem d_14_15_221 : decode prog_14_method_15_code 221 = .ok (.getfield 119, 3) := by decide +kernel
theorem wo_2137 : (Cond.fieldLinkNest "NumberHouseModel" (119 : Nat) "NumberHouseModel$TextRows" "thrown" "I" "NumberHouseModel") ∈ q_odd := q_oo 2137 (by decide +kernel) (by decide +kernel)
theorem d_14_15_224 : decode prog_14_method_15_code 224 = .ok (.iconst 1, 1) := by decide +kernel
theorem d_14_15_225 : decode prog_14_method_15_code 225 = .ok (.if_icmp .ne 7, 3) := by decide +kernel
theorem d_14_15_228 : decode prog_14_method_15_code 228 = .ok (.iconst 2, 1) := by decide +kernel
theorem d_14_15_229 : decode prog_14_method_15_code 229 = .ok (.goto 4, 3) := by decide +kernel
theorem d_14_15_233 : decode prog_14_method_15_code 233 = .ok (.istore 5, 2) := by decide +kernel
theorem d_14_15_235 : decode prog_14_method_15_code 235 = .ok (.iload 5, 2) := by decide +kernel
theorem d_14_15_237 : decode prog_14_method_15_code 237 = .ok (.ifCond .ne 11, 3) := by decide +kernel
theorem d_14_15_248 : decode prog_14_method_15_code 248 = .ok (.aload_n 0, 1) := by decide +kernel
theorem d_14_15_249 : decode prog_14_method_15_code 249 = .ok (.iload 5, 2) := by decide +kernel
theorem d_14_15_251 : decode prog_14_method_15_code 251 = .ok (.iconst 3, 1) := by decide +kernel
theorem d_14_15_252 : decode prog_14_method_15_code 252 = .ok (.if_icmp .ne 7, 3) := by decide +kernel
theorem d_14_15_259 : decode prog_14_method_15_code 259 = .ok (.iconst 0, 1) := by decide +kernel
theorem d_14_15_260 : decode prog_14_method_15_code 260 = .ok (.putfield 58, 3) := by decide +kernel
theorem d_14_15_263 : decode prog_14_method_15_code 263 = .ok (.aload_n 0, 1) := by decide +kernel
theorem d_14_15_264 : decode prog_14_method_15_code 264 = .ok (.iload 5, 2) := by decide +kernel
theorem d_14_15_266 : decode prog_14_method_15_code 266 = .ok (.ifCond .ne 7, 3) := by decide +kernel
theorem d_14_15_273 : decode prog_14_method_15_code 273 = .ok (.aload_n 0, 1) := by decide +kernel
theorem d_14_15_274 : decode prog_14_method_15_code 274 = .ok (.getfield 62, 3) := by decide +kernel
theorem d_14_15_277 : decode prog_14_method_15_code 277 = .ok (.putfield 62, 3) := by decide +kernel
theorem d_14_15_280 : decode prog_14_method_15_code 280 = .ok (.iload 5, 2) := by decide +kernel
theorem d_14_15_282 : decode prog_14_method_15_code 282 = .ok (.ifCond .ne 7, 3) := by decide +kernel
theorem d_14_15_289 : decode prog_14_method_15_code 289 = .ok (.iconst 0, 1) := by decide +kernel
theorem d_14_15_290 : decode prog_14_method_15_code 290 = .ok (.ireturn, 1) := by decide +kernel
theorem d_14_15_193 : decode prog_14_method_15_code 193 = .ok (.aload_n 0, 1) := by decide +kernel
theorem d_14_15_194 : decode prog_14_method_15_code 194 = .ok (.getfield 40, 3) := by decide +kernel
theorem d_14_15_197 : decode prog_14_method_15_code 197 = .ok (.invokevirtual 110, 3) := by decide +kernel
theorem d_14_15_200 : decode prog_14_method_15_code 200 = .ok (.goto 15, 3) := by decide +kernel
theorem d_14_15_118 : decode prog_14_method_15_code 118 = .ok (.aload_n 0, 1) := by decide +kernel
theorem d_14_15_119 : decode prog_14_method_15_code 119 = .ok (.getfield 26, 3) := by decide +kernel
theorem d_14_15_122 : decode prog_14_method_15_code 122 = .ok (.aload_n 0, 1) := by decide +kernel
theorem d_14_15_123 : decode prog_14_method_15_code 123 = .ok (.getfield 7, 3) := by decide +kernel
theorem d_14_15_126 : decode prog_14_method_15_code 126 = .ok (.aload_n 0, 1) := by decide +kernel
theorem d_14_15_127 : decode prog_14_method_15_code 127 = .ok (.getfield 62, 3) := by decide +kernel
theorem d_14_15_130 : decode prog_14_method_15_code 130 = .ok (.aload_n 0, 1) := by decide +kernel
theorem d_14_15_131 : decode prog_14_method_15_code 131 = .ok (.getfield 26, 3) := by decide +kernel
theorem d_14_15_134 : decode prog_14_method_15_code 134 = .ok (.getfield 100, 3) := by decide +kernel
theorem d_14_15_137 : decode prog_14_method_15_code 137 = .ok (.invokestatic 90, 3) := by decide +kernel
theorem d_14_15_140 : decode prog_14_method_15_code 140 = .ok (.putfield 101, 3) := by decide +kernel
theorem d_14_15_143 : decode prog_14_method_15_code 143 = .ok (.aload_n 0, 1) := by decide +kernel
theorem d_14_15_144 : decode prog_14_method_15_code 144 = .ok (.getfield 26, 3) := by decide +kernel
theorem d_14_15_147 : decode prog_14_method_15_code 147 = .ok (.iload_n 2, 1) := by decide +kernel
theorem d_14_15_148 : decode prog_14_method_15_code 148 = .ok (.invokevirtual 102, 3) := by decide +kernel
theorem d_14_15_151 : decode prog_14_method_15_code 151 = .ok (.aload_n 0, 1) := by decide +kernel
theorem d_14_15_152 : decode prog_14_method_15_code 152 = .ok (.getfield 26, 3) := by decide +kernel
theorem d_14_15_155 : decode prog_14_method_15_code 155 = .ok (.getfield 105, 3) := by decide +kernel
theorem d_14_15_158 : decode prog_14_method_15_code 158 = .ok (.istore 5, 2) := by decide +kernel
theorem d_14_15_160 : decode prog_14_method_15_code 160 = .ok (.goto 88, 3) := by decide +kernel
theorem d_14_15_12 : decode prog_14_method_15_code 12 = .ok (.iload_n 3, 1) := by decide +kernel
theorem d_14_15_13 : decode prog_14_method_15_code 13 = .ok (.iconst 2, 1) := by decide +kernel
theorem d_14_15_14 : decode prog_14_method_15_code 14 = .ok (.if_icmp .lt 18, 3) := by decide +kernel
theorem d_14_15_17 : decode prog_14_method_15_code 17 = .ok (.iload_n 3, 1) := by decide +kernel
theorem d_14_15_18 : decode prog_14_method_15_code 18 = .ok (.bipush 36, 2) := by decide +kernel
theorem d_14_15_20 : decode prog_14_method_15_code 20 = .ok (.if_icmp .le 16, 3) := by decide +kernel
theorem d_14_15_67 : decode prog_14_method_15_code 67 = .ok (.aload_n 0, 1) := by decide +kernel
theorem d_14_15_68 : decode prog_14_method_15_code 68 = .ok (.getfield 19, 3) := by decide +kernel
theorem d_14_15_71 : decode prog_14_method_15_code 71 = .ok (.aload_n 0, 1) := by decide +kernel
theorem d_14_15_72 : decode prog_14_method_15_code 72 = .ok (.getfield 7, 3) := by decide +kernel
theorem d_14_15_75 : decode prog_14_method_15_code 75 = .ok (.aload_n 0, 1) := by decide +kernel
theorem d_14_15_76 : decode prog_14_method_15_code 76 = .ok (.getfield 62, 3) := by decide +kernel
theorem d_14_15_79 : decode prog_14_method_15_code 79 = .ok (.aload_n 0, 1) := by decide +kernel
theorem d_14_15_80 : decode prog_14_method_15_code 80 = .ok (.getfield 19, 3) := by decide +kernel
theorem d_14_15_83 : decode prog_14_method_15_code 83 = .ok (.getfield 87, 3) := by decide +kernel
theorem d_14_15_86 : decode prog_14_method_15_code 86 = .ok (.invokestatic 90, 3) := by decide +kernel
theorem d_14_15_89 : decode prog_14_method_15_code 89 = .ok (.putfield 94, 3) := by decide +kernel
theorem d_14_15_92 : decode prog_14_method_15_code 92 = .ok (.aload_n 0, 1) := by decide +kernel
theorem d_14_15_93 : decode prog_14_method_15_code 93 = .ok (.getfield 19, 3) := by decide +kernel
theorem d_14_15_96 : decode prog_14_method_15_code 96 = .ok (.iload_n 2, 1) := by decide +kernel
theorem d_14_15_97 : decode prog_14_method_15_code 97 = .ok (.iload_n 3, 1) := by decide +kernel
theorem d_14_15_98 : decode prog_14_method_15_code 98 = .ok (.invokevirtual 95, 3) := by decide +kernel
theorem d_14_15_101 : decode prog_14_method_15_code 101 = .ok (.aload_n 0, 1) := by decide +kernel
theorem d_14_15_102 : decode prog_14_method_15_code 102 = .ok (.getfield 19, 3) := by decide +kernel
theorem d_14_15_105 : decode prog_14_method_15_code 105 = .ok (.getfield 99, 3) := by decide +kernel
theorem d_14_15_108 : decode prog_14_method_15_code 108 = .ok (.istore 5, 2) := by decide +kernel
theorem d_14_15_110 : decode prog_14_method_15_code 110 = .ok (.goto 138, 3) := by decide +kernel
theorem d_14_15_23 : decode prog_14_method_15_code 23 = .ok (.goto 9, 3) := by decide +kernel
def y_NM_read : MethodName := ⟨"NumberHouseModel", "read", "(III)Z"⟩
set_option maxRecDepth 100000 in
set_option maxHeartbeats 4000000 in
/-- read on a fresh object -/
theorem c_NM_read (l : Launch) (D : va_G) (g : Nat → ClassId) (ws : va_W) ( qO0 qA1 qA2 qO3 qO4 qO5 qO6 qO7 qA8 qA9 qA10 qA11 qA12 qA13 qA14 qA15 qA16 qA17 qA18 qA19 qA20 qA21 qA22 qA23 qA24 qA25 qA26 qA27 qA28 qA29 qA30 qA31 qA32 qA33 qA41 qA42 qA43 : Nat) (x1 : Int32) (x2 : Int32) (x3 : Int32) (hO0 : ws[116]? = (some (qO0, .inr (12, [.int 0, .ref qA1, .int 0, .ref qA2, .int 0, .ref qO3, .ref qO4, .ref qO5, .ref qO6, .ref qO7, .ref qA8, .ref qA9])) : Option (Nat × va_E))) (hO3 : ws[119]? = (some (qO3, .inr (13, [.int 0, .int 0, .ref qA10, .int 0, .ref qA11, .ref qA12, .ref qA13, .int 0, .ref qA14, .ref qA15, .ref qA16, .ref qA17, .ref qA18, .ref qA19, .ref qA20, .ref qA21, .int 0, .int 0, .ref qA22, .ref qA23, .int 0])) : Option (Nat × va_E))) (hO4 : ws[134]? = (some (qO4, .inr (14, [.int 0, .ref qA24, .int 0, .ref qA25, .ref qA26, .ref qA27, .ref qA28, .ref qA29, .int 0, .long 0, .int 0, .int 0, .ref qA30, .int 0, .ref qA31, .int 0, .ref qA32, .int 0, .ref qA33, .int 0, .int 0])) : Option (Nat × va_E))) (hO6 : ws[153]? = (some (qO6, .inr (16, [.int 0, .ref qA41, .int 0, .int 0, .int 0, .int 0, .ref qA42, .int 0, .int 0, .long 0, .ref qA43, .int 0, .int 0, .long 0, .long 0, .int 0, .int 0])) : Option (Nat × va_E))) : q_mI l y_NM_read prog_14_method_15_code 8 (.boolean) 6 0 0 D g [.ref qO0, .int x1, .int x2, .int x3] ws (fun r u => ∃ (t0 z2 z4 : Int32), u[116]? = (some (qO0, .inr (12, [.int t0, .ref qA1, .int z2, .ref qA2, .int z4, .ref qO3, .ref qO4, .ref qO5, .ref qO6, .ref qO7, .ref qA8, .ref qA9])) : Option (Nat × va_E)) ∧ ((t0.toInt = 0 ∧ ((0 ≤ x1.toInt ∧ x1.toInt ≤ 3) ∧ (0 ≤ x2.toInt ∧ x2.toInt ≤ 9) ∧ (x1.toInt = 0 → (2 ≤ x3.toInt ∧ x3.toInt ≤ 36)) ∧ (x1.toInt ≠ 0 → x3.toInt = 10)) ∧ r.toInt = 0) ∨ (t0.toInt = 1 ∧ ¬ ((0 ≤ x1.toInt ∧ x1.toInt ≤ 3) ∧ (0 ≤ x2.toInt ∧ x2.toInt ≤ 9) ∧ (x1.toInt = 0 → (2 ≤ x3.toInt ∧ x3.toInt ≤ 36)) ∧ (x1.toInt ≠ 0 → x3.toInt = 10)))) ∧ q_ge 169 ws u) := by
  intro sz
  refine q_into (by decide) (Nat.le_of_ble_eq_true rfl) ?_
  intro p e s m below meth c ls hsz C0 V hl
  have hx := C0.1
  have hb := C0.2.1
  have hl : lv_has ls 8 [(0, .ref qO0), (1, .int x1), (2, .int x2), (3, .int x3)] := hl
  have hF : q_ge 169 ws ws := q_g0
  refine lv_iload_n hx hb d_14_15_0 rfl (lv_at hl 1 rfl) ?_
  refine lv_iload_n hx hb d_14_15_1 rfl (lv_at hl 2 rfl) ?_
  refine q_goi V (q_runS (As := [.int x1, .int x2]) (rest := []) (d := 2) (mc := 0) (ms := 0) C0 V rfl LS_NM_84 (c_NM_no_IIZ l D g ws x1 x2 _) rfl hl.1 rfl (Nat.le_of_ble_eq_true rfl) ⟨by decide, by decide⟩ ⟨Nat.le_of_ble_eq_true rfl, Nat.le_of_ble_eq_true rfl⟩ d_14_15_2) (fun v3 u2 H locs hp1 V => ?_)
  rcases hp1 with ⟨c4, rfl, rfl⟩ | ⟨c6, c7, rfl, rfl⟩ | ⟨c9, c10, c11, rfl, rfl⟩ | ⟨c13, c14, c15, c16, rfl, rfl⟩ | ⟨c18, c19, c20, c21, rfl, rfl⟩
  ·
    refine lv_if_ne (tgt := 32) hx hb d_14_15_5 (by decide) (fun c23 => ?_) (fun c23 => absurd c23 (by decide))
    refine lv_iconst (v := 1) hx hb d_14_15_32 (by decide) ?_
    refine lv_goto (tgt := 37) hx hb d_14_15_33 (by decide) ?_
    refine lv_istore (lv' := [(4, .int 1), (0, .ref qO0), (1, .int x1), (2, .int x2), (3, .int x3)]) hx hb d_14_15_37 hl (by decide) rfl (fun ls hl => ?_)
    refine lv_aload_n hx hb d_14_15_39 rfl (lv_at hl 1 rfl) ?_
    refine lv_iload hx hb d_14_15_40 (lv_at hl 0 rfl) ?_
    refine lv_if_eq (tgt := 49) hx hb d_14_15_42 (by decide) (fun c24 => absurd c24 (by decide)) (fun c24 => ?_)
    refine lv_iconst (v := 1) hx hb d_14_15_45 (by decide) ?_
    refine lv_goto (tgt := 50) hx hb d_14_15_46 (by decide) ?_
    refine q_put (ci := 12) (j := 0) (v := .int 1) (ty := .int) C0 V i_NM o_NM n_NM rfl rfl hO0 (by decide) w_2298 rfl rfl rfl rfl (Nat.le_of_ble_eq_true rfl) d_14_15_50 (fun H locs w25 hu26 hO0 V => ?_)
    replace hO0 : w25[116]? = (some (qO0, .inr (12, [.int 1, .ref qA1, .int 0, .ref qA2, .int 0, .ref qO3, .ref qO4, .ref qO5, .ref qO6, .ref qO7, .ref qA8, .ref qA9])) : Option (Nat × va_E)) := hO0
    replace hF := q_gs hF hu26 (Nat.le_of_ble_eq_true rfl)
    refine lv_iload hx hb d_14_15_53 (lv_at hl 0 rfl) ?_
    refine lv_if_eq (tgt := 60) hx hb d_14_15_55 (by decide) (fun c27 => absurd c27 (by decide)) (fun c27 => ?_)
    refine lv_iconst (v := 0) hx hb d_14_15_58 (by decide) ?_
    exact q_retz C0 V (rfl) (⟨1, 0, 0, hO0, (show ((1 : Int32).toInt = 0 ∧ ((0 ≤ x1.toInt ∧ x1.toInt ≤ 3) ∧ (0 ≤ x2.toInt ∧ x2.toInt ≤ 9) ∧ (x1.toInt = 0 → (2 ≤ x3.toInt ∧ x3.toInt ≤ 36)) ∧ (x1.toInt ≠ 0 → x3.toInt = 10)) ∧ (0 : Int32).toInt = 0) ∨ ((1 : Int32).toInt = 1 ∧ ¬ ((0 ≤ x1.toInt ∧ x1.toInt ≤ 3) ∧ (0 ≤ x2.toInt ∧ x2.toInt ≤ 9) ∧ (x1.toInt = 0 → (2 ≤ x3.toInt ∧ x3.toInt ≤ 36)) ∧ (x1.toInt ≠ 0 → x3.toInt = 10))) from by have t1 : x1.toInt < 0 := q_ltI c4; have e0 : (1 : Int32).toInt = 1 := (by decide); have e1 : (0 : Int32).toInt = 0 := (by decide); omega), hF⟩) d_14_15_59
  ·
    refine lv_if_ne (tgt := 32) hx hb d_14_15_5 (by decide) (fun c28 => ?_) (fun c28 => absurd c28 (by decide))
    refine lv_iconst (v := 1) hx hb d_14_15_32 (by decide) ?_
    refine lv_goto (tgt := 37) hx hb d_14_15_33 (by decide) ?_
    refine lv_istore (lv' := [(4, .int 1), (0, .ref qO0), (1, .int x1), (2, .int x2), (3, .int x3)]) hx hb d_14_15_37 hl (by decide) rfl (fun ls hl => ?_)
    refine lv_aload_n hx hb d_14_15_39 rfl (lv_at hl 1 rfl) ?_
    refine lv_iload hx hb d_14_15_40 (lv_at hl 0 rfl) ?_
    refine lv_if_eq (tgt := 49) hx hb d_14_15_42 (by decide) (fun c29 => absurd c29 (by decide)) (fun c29 => ?_)
    refine lv_iconst (v := 1) hx hb d_14_15_45 (by decide) ?_
    refine lv_goto (tgt := 50) hx hb d_14_15_46 (by decide) ?_
    refine q_put (ci := 12) (j := 0) (v := .int 1) (ty := .int) C0 V i_NM o_NM n_NM rfl rfl hO0 (by decide) w_2298 rfl rfl rfl rfl (Nat.le_of_ble_eq_true rfl) d_14_15_50 (fun H locs w30 hu31 hO0 V => ?_)
    replace hO0 : w30[116]? = (some (qO0, .inr (12, [.int 1, .ref qA1, .int 0, .ref qA2, .int 0, .ref qO3, .ref qO4, .ref qO5, .ref qO6, .ref qO7, .ref qA8, .ref qA9])) : Option (Nat × va_E)) := hO0
    replace hF := q_gs hF hu31 (Nat.le_of_ble_eq_true rfl)
    refine lv_iload hx hb d_14_15_53 (lv_at hl 0 rfl) ?_
    refine lv_if_eq (tgt := 60) hx hb d_14_15_55 (by decide) (fun c32 => absurd c32 (by decide)) (fun c32 => ?_)
    refine lv_iconst (v := 0) hx hb d_14_15_58 (by decide) ?_
    exact q_retz C0 V (rfl) (⟨1, 0, 0, hO0, (show ((1 : Int32).toInt = 0 ∧ ((0 ≤ x1.toInt ∧ x1.toInt ≤ 3) ∧ (0 ≤ x2.toInt ∧ x2.toInt ≤ 9) ∧ (x1.toInt = 0 → (2 ≤ x3.toInt ∧ x3.toInt ≤ 36)) ∧ (x1.toInt ≠ 0 → x3.toInt = 10)) ∧ (0 : Int32).toInt = 0) ∨ ((1 : Int32).toInt = 1 ∧ ¬ ((0 ≤ x1.toInt ∧ x1.toInt ≤ 3) ∧ (0 ≤ x2.toInt ∧ x2.toInt ≤ 9) ∧ (x1.toInt = 0 → (2 ≤ x3.toInt ∧ x3.toInt ≤ 36)) ∧ (x1.toInt ≠ 0 → x3.toInt = 10))) from by have t1 : 0 ≤ x1.toInt := q_nltI c6; have t2 : 3 < x1.toInt := q_ltI c7; have e0 : (1 : Int32).toInt = 1 := (by decide); have e1 : (0 : Int32).toInt = 0 := (by decide); omega), hF⟩) d_14_15_59
  ·
    refine lv_if_ne (tgt := 32) hx hb d_14_15_5 (by decide) (fun c33 => ?_) (fun c33 => absurd c33 (by decide))
    refine lv_iconst (v := 1) hx hb d_14_15_32 (by decide) ?_
    refine lv_goto (tgt := 37) hx hb d_14_15_33 (by decide) ?_
    refine lv_istore (lv' := [(4, .int 1), (0, .ref qO0), (1, .int x1), (2, .int x2), (3, .int x3)]) hx hb d_14_15_37 hl (by decide) rfl (fun ls hl => ?_)
    refine lv_aload_n hx hb d_14_15_39 rfl (lv_at hl 1 rfl) ?_
    refine lv_iload hx hb d_14_15_40 (lv_at hl 0 rfl) ?_
    refine lv_if_eq (tgt := 49) hx hb d_14_15_42 (by decide) (fun c34 => absurd c34 (by decide)) (fun c34 => ?_)
    refine lv_iconst (v := 1) hx hb d_14_15_45 (by decide) ?_
    refine lv_goto (tgt := 50) hx hb d_14_15_46 (by decide) ?_
    refine q_put (ci := 12) (j := 0) (v := .int 1) (ty := .int) C0 V i_NM o_NM n_NM rfl rfl hO0 (by decide) w_2298 rfl rfl rfl rfl (Nat.le_of_ble_eq_true rfl) d_14_15_50 (fun H locs w35 hu36 hO0 V => ?_)
    replace hO0 : w35[116]? = (some (qO0, .inr (12, [.int 1, .ref qA1, .int 0, .ref qA2, .int 0, .ref qO3, .ref qO4, .ref qO5, .ref qO6, .ref qO7, .ref qA8, .ref qA9])) : Option (Nat × va_E)) := hO0
    replace hF := q_gs hF hu36 (Nat.le_of_ble_eq_true rfl)
    refine lv_iload hx hb d_14_15_53 (lv_at hl 0 rfl) ?_
    refine lv_if_eq (tgt := 60) hx hb d_14_15_55 (by decide) (fun c37 => absurd c37 (by decide)) (fun c37 => ?_)
    refine lv_iconst (v := 0) hx hb d_14_15_58 (by decide) ?_
    exact q_retz C0 V (rfl) (⟨1, 0, 0, hO0, (show ((1 : Int32).toInt = 0 ∧ ((0 ≤ x1.toInt ∧ x1.toInt ≤ 3) ∧ (0 ≤ x2.toInt ∧ x2.toInt ≤ 9) ∧ (x1.toInt = 0 → (2 ≤ x3.toInt ∧ x3.toInt ≤ 36)) ∧ (x1.toInt ≠ 0 → x3.toInt = 10)) ∧ (0 : Int32).toInt = 0) ∨ ((1 : Int32).toInt = 1 ∧ ¬ ((0 ≤ x1.toInt ∧ x1.toInt ≤ 3) ∧ (0 ≤ x2.toInt ∧ x2.toInt ≤ 9) ∧ (x1.toInt = 0 → (2 ≤ x3.toInt ∧ x3.toInt ≤ 36)) ∧ (x1.toInt ≠ 0 → x3.toInt = 10))) from by have t1 : 0 ≤ x1.toInt := q_nltI c9; have t2 : x1.toInt ≤ 3 := q_nltI c10; have t3 : x2.toInt < 0 := q_ltI c11; have e0 : (1 : Int32).toInt = 1 := (by decide); have e1 : (0 : Int32).toInt = 0 := (by decide); omega), hF⟩) d_14_15_59
  ·
    refine lv_if_ne (tgt := 32) hx hb d_14_15_5 (by decide) (fun c38 => absurd (by decide) c38) (fun c38 => ?_)
    refine lv_iload_n hx hb d_14_15_8 rfl (lv_at hl 1 rfl) ?_
    refine lv_if_ne (tgt := 26) hx hb d_14_15_9 (by decide) (fun c39 => ?_) (fun c39 => ?_)
    ·
      refine lv_iload_n hx hb d_14_15_26 rfl (lv_at hl 3 rfl) ?_
      refine lv_bipush (v := 10) hx hb d_14_15_27 (by decide) ?_
      refine lv_icmp_eq (tgt := 36) hx hb d_14_15_29 (by decide) (fun c40 => ?_) (fun c40 => ?_)
      ·
        refine lv_iconst (v := 0) hx hb d_14_15_36 (by decide) ?_
        refine lv_istore (lv' := [(4, .int 0), (0, .ref qO0), (1, .int x1), (2, .int x2), (3, .int x3)]) hx hb d_14_15_37 hl (by decide) rfl (fun ls hl => ?_)
        refine lv_aload_n hx hb d_14_15_39 rfl (lv_at hl 1 rfl) ?_
        refine lv_iload hx hb d_14_15_40 (lv_at hl 0 rfl) ?_
        refine lv_if_eq (tgt := 49) hx hb d_14_15_42 (by decide) (fun c41 => ?_) (fun c41 => absurd (by decide) c41)
        refine lv_iconst (v := 0) hx hb d_14_15_49 (by decide) ?_
        refine q_put (ci := 12) (j := 0) (v := .int 0) (ty := .int) C0 V i_NM o_NM n_NM rfl rfl hO0 (by decide) w_2298 rfl rfl rfl rfl (Nat.le_of_ble_eq_true rfl) d_14_15_50 (fun H locs w42 hu43 hO0 V => ?_)
        replace hO0 : w42[116]? = (some (qO0, .inr (12, [.int 0, .ref qA1, .int 0, .ref qA2, .int 0, .ref qO3, .ref qO4, .ref qO5, .ref qO6, .ref qO7, .ref qA8, .ref qA9])) : Option (Nat × va_E)) := hO0
        replace hF := q_gs hF hu43 (Nat.le_of_ble_eq_true rfl)
        refine lv_iload hx hb d_14_15_53 (lv_at hl 0 rfl) ?_
        refine lv_if_eq (tgt := 60) hx hb d_14_15_55 (by decide) (fun c44 => ?_) (fun c44 => absurd (by decide) c44)
        refine lv_iconst (v := 0) hx hb d_14_15_60 (by decide) ?_
        refine lv_istore (lv' := [(5, .int 0), (4, .int 0), (0, .ref qO0), (1, .int x1), (2, .int x2), (3, .int x3)]) hx hb d_14_15_61 hl (by decide) rfl (fun ls hl => ?_)
        refine lv_iload_n hx hb d_14_15_63 rfl (lv_at hl 3 rfl) ?_
        refine lv_if_ne (tgt := 113) hx hb d_14_15_64 (by decide) (fun c45 => ?_) (fun c45 => absurd c45 c39)
        refine lv_iload_n hx hb d_14_15_113 rfl (lv_at hl 3 rfl) ?_
        refine lv_iconst (v := 1) hx hb d_14_15_114 (by decide) ?_
        refine lv_icmp_ne (tgt := 163) hx hb d_14_15_115 (by decide) (fun c46 => ?_) (fun c46 => ?_)
        ·
          refine lv_aload_n hx hb d_14_15_163 rfl (lv_at hl 2 rfl) ?_
          refine q_get (ci := 12) (j := 8) (v := .ref qO6) C0 V i_NM rfl rfl hO0 (by decide) w_2306 rfl d_14_15_164 ?_
          refine lv_aload_n hx hb d_14_15_167 rfl (lv_at hl 2 rfl) ?_
          refine q_get (ci := 12) (j := 1) (v := .ref qA1) C0 V i_NM rfl rfl hO0 (by decide) w_2299 rfl d_14_15_168 ?_
          refine lv_aload_n hx hb d_14_15_171 rfl (lv_at hl 2 rfl) ?_
          refine q_get (ci := 12) (j := 2) (v := .int 0) C0 V i_NM rfl rfl hO0 (by decide) w_2300 rfl d_14_15_172 ?_
          refine lv_aload_n hx hb d_14_15_175 rfl (lv_at hl 2 rfl) ?_
          refine q_get (ci := 12) (j := 8) (v := .ref qO6) C0 V i_NM rfl rfl hO0 (by decide) w_2306 rfl d_14_15_176 ?_
          replace hO6 := (hu43 _ (q_pd 153 116 rfl)).trans (hO6)
          refine q_getN (ci := 16) (j := 1) (v := .ref qA41) C0 V i_TR rfl rfl hO6 (by decide) wo_2140 rfl d_14_15_179 ?_
          refine q_goi V (q_runS (As := [.ref qA1, .int 0, .ref qA41]) (rest := [.ref qO6]) (d := 1) (mc := 0) (ms := 0) C0 V rfl LS_NM_90 (c_NM_load l D g w42 qA1 qA41 _) rfl hl.1 rfl (Nat.le_of_ble_eq_true rfl) ⟨by decide, by decide⟩ ⟨Nat.le_of_ble_eq_true rfl, Nat.le_of_ble_eq_true rfl⟩ d_14_15_182) (fun v49 u48 H locs hp47 V => ?_)
          obtain ⟨rfl, rfl⟩ := hp47
          refine q_putN (ci := 16) (j := 2) (v := .int 0) (ty := .int) C0 V i_TR o_TR n_TR rfl rfl hO6 (by decide) wo_2142 rfl rfl rfl rfl (Nat.le_of_ble_eq_true rfl) d_14_15_185 (fun H locs w51 hu52 hO6 V => ?_)
          replace hO6 : w51[153]? = (some (qO6, .inr (16, [.int 0, .ref qA41, .int 0, .int 0, .int 0, .int 0, .ref qA42, .int 0, .int 0, .long 0, .ref qA43, .int 0, .int 0, .long 0, .long 0, .int 0, .int 0])) : Option (Nat × va_E)) := hO6
          replace hF := q_gs hF hu52 (Nat.le_of_ble_eq_true rfl)
          refine lv_iload_n hx hb d_14_15_188 rfl (lv_at hl 3 rfl) ?_
          refine lv_iconst (v := 2) hx hb d_14_15_189 (by decide) ?_
          refine lv_icmp_ne (tgt := 203) hx hb d_14_15_190 (by decide) (fun c53 => ?_) (fun c53 => ?_)
          ·
            refine lv_aload_n hx hb d_14_15_203 rfl (lv_at hl 2 rfl) ?_
            replace hO0 := (hu52 _ (q_pd 116 153 rfl)).trans (hO0)
            refine q_get (ci := 12) (j := 8) (v := .ref qO6) C0 V i_NM rfl rfl hO0 (by decide) w_2306 rfl d_14_15_204 ?_
            refine q_goi V (q_runV (As := []) (rest := []) (d := 5) (mc := 0) (ms := 0) (ci := 16) C0 V rfl LV_NM_113 (c_TR_floatBits_2 l D g w51 153 qO6 qA41 qA42 qA43 hO6 _) rfl rfl hO6 rfl hl.1 rfl (Nat.le_of_ble_eq_true rfl) ⟨by decide, by decide⟩ ⟨Nat.le_of_ble_eq_true rfl, Nat.le_of_ble_eq_true rfl⟩ d_14_15_207) (fun v56 u55 H locs hp54 V => ?_)
            obtain ⟨rfl, hg57, hO6⟩ := hp54
            replace hF := q_gc hF hg57 (q_al (Nat.le_of_ble_eq_true rfl) (fun _ h => absurd h List.not_mem_nil))
            refine lv_i2l hx hb d_14_15_210 rfl ?_
            refine q_tl (v := 0) (by decide) ?_
            refine q_ldc2 C0 rfl w_2530 d_14_15_211 ?_
            refine lv_land hx hb d_14_15_214 ?_
            refine q_tl (v := 0) (by decide) ?_
            refine lv_lstore (lv' := [(6, .long 0), (5, .int 0), (4, .int 0), (0, .ref qO0), (1, .int x1), (2, .int x2), (3, .int x3)]) hx hb d_14_15_215 hl (by decide) rfl (fun ls hl => ?_)
            refine lv_aload_n hx hb d_14_15_217 rfl (lv_at hl 3 rfl) ?_
            replace hO0 := (hg57 _ (q_nc (q_pd 116 153 rfl) List.not_mem_nil)).trans (hO0)
            refine q_get (ci := 12) (j := 8) (v := .ref qO6) C0 V i_NM rfl rfl hO0 (by decide) w_2306 rfl d_14_15_218 ?_
            refine q_getN (ci := 16) (j := 0) (v := .int 1) C0 V i_TR rfl rfl hO6 (by decide) wo_2137 rfl d_14_15_221 ?_
            refine lv_iconst (v := 1) hx hb d_14_15_224 (by decide) ?_
            refine lv_icmp_ne (tgt := 232) hx hb d_14_15_225 (by decide) (fun c58 => absurd (by decide) c58) (fun c58 => ?_)
            refine lv_iconst (v := 2) hx hb d_14_15_228 (by decide) ?_
            refine lv_goto (tgt := 233) hx hb d_14_15_229 (by decide) ?_
            refine lv_istore (lv' := [(5, .int 2), (6, .long 0), (4, .int 0), (0, .ref qO0), (1, .int x1), (2, .int x2), (3, .int x3)]) hx hb d_14_15_233 hl (by decide) rfl (fun ls hl => ?_)
            refine lv_iload hx hb d_14_15_235 (lv_at hl 0 rfl) ?_
            refine lv_if_ne (tgt := 248) hx hb d_14_15_237 (by decide) (fun c59 => ?_) (fun c59 => absurd c59 (by decide))
            refine lv_aload_n hx hb d_14_15_248 rfl (lv_at hl 3 rfl) ?_
            refine lv_iload hx hb d_14_15_249 (lv_at hl 0 rfl) ?_
            refine lv_iconst (v := 3) hx hb d_14_15_251 (by decide) ?_
            refine lv_icmp_ne (tgt := 259) hx hb d_14_15_252 (by decide) (fun c60 => ?_) (fun c60 => absurd c60 (by decide))
            refine lv_iconst (v := 0) hx hb d_14_15_259 (by decide) ?_
            refine q_put (ci := 12) (j := 0) (v := .int 0) (ty := .int) C0 V i_NM o_NM n_NM rfl rfl hO0 (by decide) w_2298 rfl rfl rfl rfl (Nat.le_of_ble_eq_true rfl) d_14_15_260 (fun H locs w61 hu62 hO0 V => ?_)
            replace hO0 : w61[116]? = (some (qO0, .inr (12, [.int 0, .ref qA1, .int 0, .ref qA2, .int 0, .ref qO3, .ref qO4, .ref qO5, .ref qO6, .ref qO7, .ref qA8, .ref qA9])) : Option (Nat × va_E)) := hO0
            replace hF := q_gs hF hu62 (Nat.le_of_ble_eq_true rfl)
            refine lv_aload_n hx hb d_14_15_263 rfl (lv_at hl 3 rfl) ?_
            refine lv_iload hx hb d_14_15_264 (lv_at hl 0 rfl) ?_
            refine lv_if_ne (tgt := 273) hx hb d_14_15_266 (by decide) (fun c63 => ?_) (fun c63 => absurd c63 (by decide))
            refine lv_aload_n hx hb d_14_15_273 rfl (lv_at hl 3 rfl) ?_
            refine q_get (ci := 12) (j := 2) (v := .int 0) C0 V i_NM rfl rfl hO0 (by decide) w_2300 rfl d_14_15_274 ?_
            refine q_put (ci := 12) (j := 2) (v := .int 0) (ty := .int) C0 V i_NM o_NM n_NM rfl rfl hO0 (by decide) w_2300 rfl rfl rfl rfl (Nat.le_of_ble_eq_true rfl) d_14_15_277 (fun H locs w64 hu65 hO0 V => ?_)
            replace hO0 : w64[116]? = (some (qO0, .inr (12, [.int 0, .ref qA1, .int 0, .ref qA2, .int 0, .ref qO3, .ref qO4, .ref qO5, .ref qO6, .ref qO7, .ref qA8, .ref qA9])) : Option (Nat × va_E)) := hO0
            replace hF := q_gs hF hu65 (Nat.le_of_ble_eq_true rfl)
            refine lv_iload hx hb d_14_15_280 (lv_at hl 0 rfl) ?_
            refine lv_if_ne (tgt := 289) hx hb d_14_15_282 (by decide) (fun c66 => ?_) (fun c66 => absurd c66 (by decide))
            refine lv_iconst (v := 0) hx hb d_14_15_289 (by decide) ?_
            exact q_retz C0 V (rfl) (⟨0, 0, 0, hO0, (show ((0 : Int32).toInt = 0 ∧ ((0 ≤ x1.toInt ∧ x1.toInt ≤ 3) ∧ (0 ≤ x2.toInt ∧ x2.toInt ≤ 9) ∧ (x1.toInt = 0 → (2 ≤ x3.toInt ∧ x3.toInt ≤ 36)) ∧ (x1.toInt ≠ 0 → x3.toInt = 10)) ∧ (0 : Int32).toInt = 0) ∨ ((0 : Int32).toInt = 1 ∧ ¬ ((0 ≤ x1.toInt ∧ x1.toInt ≤ 3) ∧ (0 ≤ x2.toInt ∧ x2.toInt ≤ 9) ∧ (x1.toInt = 0 → (2 ≤ x3.toInt ∧ x3.toInt ≤ 36)) ∧ (x1.toInt ≠ 0 → x3.toInt = 10))) from by have t1 : 0 ≤ x1.toInt := q_nltI c13; have t2 : x1.toInt ≤ 3 := q_nltI c14; have t3 : 0 ≤ x2.toInt := q_nltI c15; have t4 : x2.toInt ≤ 9 := q_leI c16; have t5 : x1.toInt ≠ 0 := q_neI c39; have t6 : x3.toInt = 10 := q_eqI c40; have t7 : x1.toInt ≠ 1 := q_neI c46; have t8 : x1.toInt ≠ 2 := q_neI c53; have e0 : (0 : Int32).toInt = 0 := (by decide); have e1 : (0 : Int32).toInt = 0 := (by decide); omega), hF⟩) d_14_15_290
          ·
            refine lv_aload_n hx hb d_14_15_193 rfl (lv_at hl 2 rfl) ?_
            replace hO0 := (hu52 _ (q_pd 116 153 rfl)).trans (hO0)
            refine q_get (ci := 12) (j := 8) (v := .ref qO6) C0 V i_NM rfl rfl hO0 (by decide) w_2306 rfl d_14_15_194 ?_
            refine q_gol V (q_runV (As := []) (rest := []) (d := 5) (mc := 0) (ms := 0) (ci := 16) C0 V rfl LV_NM_110 (c_TR_bits_2 l D g w51 153 qO6 qA41 qA42 qA43 hO6 _) rfl rfl hO6 rfl hl.1 rfl (Nat.le_of_ble_eq_true rfl) ⟨by decide, by decide⟩ ⟨Nat.le_of_ble_eq_true rfl, Nat.le_of_ble_eq_true rfl⟩ d_14_15_197) (fun v69 u68 H locs hp67 V => ?_)
            obtain ⟨rfl, hg70, hO6⟩ := hp67
            replace hF := q_gc hF hg70 (q_al (Nat.le_of_ble_eq_true rfl) (fun _ h => absurd h List.not_mem_nil))
            refine lv_goto (tgt := 215) hx hb d_14_15_200 (by decide) ?_
            refine lv_lstore (lv' := [(6, .long 0), (5, .int 0), (4, .int 0), (0, .ref qO0), (1, .int x1), (2, .int x2), (3, .int x3)]) hx hb d_14_15_215 hl (by decide) rfl (fun ls hl => ?_)
            refine lv_aload_n hx hb d_14_15_217 rfl (lv_at hl 3 rfl) ?_
            replace hO0 := (hg70 _ (q_nc (q_pd 116 153 rfl) List.not_mem_nil)).trans (hO0)
            refine q_get (ci := 12) (j := 8) (v := .ref qO6) C0 V i_NM rfl rfl hO0 (by decide) w_2306 rfl d_14_15_218 ?_
            refine q_getN (ci := 16) (j := 0) (v := .int 1) C0 V i_TR rfl rfl hO6 (by decide) wo_2137 rfl d_14_15_221 ?_
            refine lv_iconst (v := 1) hx hb d_14_15_224 (by decide) ?_
            refine lv_icmp_ne (tgt := 232) hx hb d_14_15_225 (by decide) (fun c71 => absurd (by decide) c71) (fun c71 => ?_)
            refine lv_iconst (v := 2) hx hb d_14_15_228 (by decide) ?_
            refine lv_goto (tgt := 233) hx hb d_14_15_229 (by decide) ?_
            refine lv_istore (lv' := [(5, .int 2), (6, .long 0), (4, .int 0), (0, .ref qO0), (1, .int x1), (2, .int x2), (3, .int x3)]) hx hb d_14_15_233 hl (by decide) rfl (fun ls hl => ?_)
            refine lv_iload hx hb d_14_15_235 (lv_at hl 0 rfl) ?_
            refine lv_if_ne (tgt := 248) hx hb d_14_15_237 (by decide) (fun c72 => ?_) (fun c72 => absurd c72 (by decide))
            refine lv_aload_n hx hb d_14_15_248 rfl (lv_at hl 3 rfl) ?_
            refine lv_iload hx hb d_14_15_249 (lv_at hl 0 rfl) ?_
            refine lv_iconst (v := 3) hx hb d_14_15_251 (by decide) ?_
            refine lv_icmp_ne (tgt := 259) hx hb d_14_15_252 (by decide) (fun c73 => ?_) (fun c73 => absurd c73 (by decide))
            refine lv_iconst (v := 0) hx hb d_14_15_259 (by decide) ?_
            refine q_put (ci := 12) (j := 0) (v := .int 0) (ty := .int) C0 V i_NM o_NM n_NM rfl rfl hO0 (by decide) w_2298 rfl rfl rfl rfl (Nat.le_of_ble_eq_true rfl) d_14_15_260 (fun H locs w74 hu75 hO0 V => ?_)
            replace hO0 : w74[116]? = (some (qO0, .inr (12, [.int 0, .ref qA1, .int 0, .ref qA2, .int 0, .ref qO3, .ref qO4, .ref qO5, .ref qO6, .ref qO7, .ref qA8, .ref qA9])) : Option (Nat × va_E)) := hO0
            replace hF := q_gs hF hu75 (Nat.le_of_ble_eq_true rfl)
            refine lv_aload_n hx hb d_14_15_263 rfl (lv_at hl 3 rfl) ?_
            refine lv_iload hx hb d_14_15_264 (lv_at hl 0 rfl) ?_
            refine lv_if_ne (tgt := 273) hx hb d_14_15_266 (by decide) (fun c76 => ?_) (fun c76 => absurd c76 (by decide))
            refine lv_aload_n hx hb d_14_15_273 rfl (lv_at hl 3 rfl) ?_
            refine q_get (ci := 12) (j := 2) (v := .int 0) C0 V i_NM rfl rfl hO0 (by decide) w_2300 rfl d_14_15_274 ?_
            refine q_put (ci := 12) (j := 2) (v := .int 0) (ty := .int) C0 V i_NM o_NM n_NM rfl rfl hO0 (by decide) w_2300 rfl rfl rfl rfl (Nat.le_of_ble_eq_true rfl) d_14_15_277 (fun H locs w77 hu78 hO0 V => ?_)
            replace hO0 : w77[116]? = (some (qO0, .inr (12, [.int 0, .ref qA1, .int 0, .ref qA2, .int 0, .ref qO3, .ref qO4, .ref qO5, .ref qO6, .ref qO7, .ref qA8, .ref qA9])) : Option (Nat × va_E)) := hO0
            replace hF := q_gs hF hu78 (Nat.le_of_ble_eq_true rfl)
            refine lv_iload hx hb d_14_15_280 (lv_at hl 0 rfl) ?_
            refine lv_if_ne (tgt := 289) hx hb d_14_15_282 (by decide) (fun c79 => ?_) (fun c79 => absurd c79 (by decide))
            refine lv_iconst (v := 0) hx hb d_14_15_289 (by decide) ?_
            exact q_retz C0 V (rfl) (⟨0, 0, 0, hO0, (show ((0 : Int32).toInt = 0 ∧ ((0 ≤ x1.toInt ∧ x1.toInt ≤ 3) ∧ (0 ≤ x2.toInt ∧ x2.toInt ≤ 9) ∧ (x1.toInt = 0 → (2 ≤ x3.toInt ∧ x3.toInt ≤ 36)) ∧ (x1.toInt ≠ 0 → x3.toInt = 10)) ∧ (0 : Int32).toInt = 0) ∨ ((0 : Int32).toInt = 1 ∧ ¬ ((0 ≤ x1.toInt ∧ x1.toInt ≤ 3) ∧ (0 ≤ x2.toInt ∧ x2.toInt ≤ 9) ∧ (x1.toInt = 0 → (2 ≤ x3.toInt ∧ x3.toInt ≤ 36)) ∧ (x1.toInt ≠ 0 → x3.toInt = 10))) from by have t1 : 0 ≤ x1.toInt := q_nltI c13; have t2 : x1.toInt ≤ 3 := q_nltI c14; have t3 : 0 ≤ x2.toInt := q_nltI c15; have t4 : x2.toInt ≤ 9 := q_leI c16; have t5 : x1.toInt ≠ 0 := q_neI c39; have t6 : x3.toInt = 10 := q_eqI c40; have t7 : x1.toInt ≠ 1 := q_neI c46; have t8 : x1.toInt = 2 := q_eqI c53; have e0 : (0 : Int32).toInt = 0 := (by decide); have e1 : (0 : Int32).toInt = 0 := (by decide); omega), hF⟩) d_14_15_290
        ·
          refine lv_aload_n hx hb d_14_15_118 rfl (lv_at hl 2 rfl) ?_
          refine q_get (ci := 12) (j := 6) (v := .ref qO4) C0 V i_NM rfl rfl hO0 (by decide) w_2304 rfl d_14_15_119 ?_
          refine lv_aload_n hx hb d_14_15_122 rfl (lv_at hl 2 rfl) ?_
          refine q_get (ci := 12) (j := 1) (v := .ref qA1) C0 V i_NM rfl rfl hO0 (by decide) w_2299 rfl d_14_15_123 ?_
          refine lv_aload_n hx hb d_14_15_126 rfl (lv_at hl 2 rfl) ?_
          refine q_get (ci := 12) (j := 2) (v := .int 0) C0 V i_NM rfl rfl hO0 (by decide) w_2300 rfl d_14_15_127 ?_
          refine lv_aload_n hx hb d_14_15_130 rfl (lv_at hl 2 rfl) ?_
          refine q_get (ci := 12) (j := 6) (v := .ref qO4) C0 V i_NM rfl rfl hO0 (by decide) w_2304 rfl d_14_15_131 ?_
          replace hO4 := (hu43 _ (q_pd 134 116 rfl)).trans (hO4)
          refine q_getN (ci := 14) (j := 1) (v := .ref qA24) C0 V i_DR rfl rfl hO4 (by decide) wo_1999 rfl d_14_15_134 ?_
          refine q_goi V (q_runS (As := [.ref qA1, .int 0, .ref qA24]) (rest := [.ref qO4]) (d := 1) (mc := 0) (ms := 0) C0 V rfl LS_NM_90 (c_NM_load l D g w42 qA1 qA24 _) rfl hl.1 rfl (Nat.le_of_ble_eq_true rfl) ⟨by decide, by decide⟩ ⟨Nat.le_of_ble_eq_true rfl, Nat.le_of_ble_eq_true rfl⟩ d_14_15_137) (fun v82 u81 H locs hp80 V => ?_)
          obtain ⟨rfl, rfl⟩ := hp80
          refine q_putN (ci := 14) (j := 2) (v := .int 0) (ty := .int) C0 V i_DR o_DR n_DR rfl rfl hO4 (by decide) wo_2000 rfl rfl rfl rfl (Nat.le_of_ble_eq_true rfl) d_14_15_140 (fun H locs w84 hu85 hO4 V => ?_)
          replace hO4 : w84[134]? = (some (qO4, .inr (14, [.int 0, .ref qA24, .int 0, .ref qA25, .ref qA26, .ref qA27, .ref qA28, .ref qA29, .int 0, .long 0, .int 0, .int 0, .ref qA30, .int 0, .ref qA31, .int 0, .ref qA32, .int 0, .ref qA33, .int 0, .int 0])) : Option (Nat × va_E)) := hO4
          replace hF := q_gs hF hu85 (Nat.le_of_ble_eq_true rfl)
          refine lv_aload_n hx hb d_14_15_143 rfl (lv_at hl 2 rfl) ?_
          replace hO0 := (hu85 _ (q_pd 116 134 rfl)).trans (hO0)
          refine q_get (ci := 12) (j := 6) (v := .ref qO4) C0 V i_NM rfl rfl hO0 (by decide) w_2304 rfl d_14_15_144 ?_
          refine lv_iload_n hx hb d_14_15_147 rfl (lv_at hl 4 rfl) ?_
          refine q_gov V (q_runV (As := [.int x2]) (rest := []) (d := 3) (mc := 0) (ms := 0) (ci := 14) C0 V rfl LV_NM_102 (c_DR_read_3 l D g w84 134 qO4 qA24 qA25 qA26 qA27 qA28 qA29 qA30 qA31 qA32 qA33 x2 hO4 (q_Ile (x := 0) (y := x2.toInt) (by decide) rfl (by have t1 : 0 ≤ x2.toInt := q_nltI c15; have t2 : x2.toInt ≤ 9 := q_leI c16; omega)) c16 _) rfl rfl hO4 rfl hl.1 rfl (Nat.le_of_ble_eq_true rfl) ⟨by decide, by decide⟩ ⟨Nat.le_of_ble_eq_true rfl, Nat.le_of_ble_eq_true rfl⟩ d_14_15_148) (fun u87 H locs hp86 V => ?_)
          obtain ⟨hg88, hO4⟩ := hp86
          replace hF := q_gc hF hg88 (q_al (Nat.le_of_ble_eq_true rfl) (fun _ h => absurd h List.not_mem_nil))
          refine lv_aload_n hx hb d_14_15_151 rfl (lv_at hl 2 rfl) ?_
          replace hO0 := (hg88 _ (q_nc (q_pd 116 134 rfl) List.not_mem_nil)).trans (hO0)
          refine q_get (ci := 12) (j := 6) (v := .ref qO4) C0 V i_NM rfl rfl hO0 (by decide) w_2304 rfl d_14_15_152 ?_
          refine q_getN (ci := 14) (j := 0) (v := .int 2) C0 V i_DR rfl rfl hO4 (by decide) wo_1997 rfl d_14_15_155 ?_
          refine lv_istore (lv' := [(5, .int 2), (4, .int 0), (0, .ref qO0), (1, .int x1), (2, .int x2), (3, .int x3)]) hx hb d_14_15_158 hl (by decide) rfl (fun ls hl => ?_)
          refine lv_goto (tgt := 248) hx hb d_14_15_160 (by decide) ?_
          refine lv_aload_n hx hb d_14_15_248 rfl (lv_at hl 2 rfl) ?_
          refine lv_iload hx hb d_14_15_249 (lv_at hl 0 rfl) ?_
          refine lv_iconst (v := 3) hx hb d_14_15_251 (by decide) ?_
          refine lv_icmp_ne (tgt := 259) hx hb d_14_15_252 (by decide) (fun c89 => ?_) (fun c89 => absurd c89 (by decide))
          refine lv_iconst (v := 0) hx hb d_14_15_259 (by decide) ?_
          refine q_put (ci := 12) (j := 0) (v := .int 0) (ty := .int) C0 V i_NM o_NM n_NM rfl rfl hO0 (by decide) w_2298 rfl rfl rfl rfl (Nat.le_of_ble_eq_true rfl) d_14_15_260 (fun H locs w90 hu91 hO0 V => ?_)
          replace hO0 : w90[116]? = (some (qO0, .inr (12, [.int 0, .ref qA1, .int 0, .ref qA2, .int 0, .ref qO3, .ref qO4, .ref qO5, .ref qO6, .ref qO7, .ref qA8, .ref qA9])) : Option (Nat × va_E)) := hO0
          replace hF := q_gs hF hu91 (Nat.le_of_ble_eq_true rfl)
          refine lv_aload_n hx hb d_14_15_263 rfl (lv_at hl 2 rfl) ?_
          refine lv_iload hx hb d_14_15_264 (lv_at hl 0 rfl) ?_
          refine lv_if_ne (tgt := 273) hx hb d_14_15_266 (by decide) (fun c92 => ?_) (fun c92 => absurd c92 (by decide))
          refine lv_aload_n hx hb d_14_15_273 rfl (lv_at hl 2 rfl) ?_
          refine q_get (ci := 12) (j := 2) (v := .int 0) C0 V i_NM rfl rfl hO0 (by decide) w_2300 rfl d_14_15_274 ?_
          refine q_put (ci := 12) (j := 2) (v := .int 0) (ty := .int) C0 V i_NM o_NM n_NM rfl rfl hO0 (by decide) w_2300 rfl rfl rfl rfl (Nat.le_of_ble_eq_true rfl) d_14_15_277 (fun H locs w93 hu94 hO0 V => ?_)
          replace hO0 : w93[116]? = (some (qO0, .inr (12, [.int 0, .ref qA1, .int 0, .ref qA2, .int 0, .ref qO3, .ref qO4, .ref qO5, .ref qO6, .ref qO7, .ref qA8, .ref qA9])) : Option (Nat × va_E)) := hO0
          replace hF := q_gs hF hu94 (Nat.le_of_ble_eq_true rfl)
          refine lv_iload hx hb d_14_15_280 (lv_at hl 0 rfl) ?_
          refine lv_if_ne (tgt := 289) hx hb d_14_15_282 (by decide) (fun c95 => ?_) (fun c95 => absurd c95 (by decide))
          refine lv_iconst (v := 0) hx hb d_14_15_289 (by decide) ?_
          exact q_retz C0 V (rfl) (⟨0, 0, 0, hO0, (show ((0 : Int32).toInt = 0 ∧ ((0 ≤ x1.toInt ∧ x1.toInt ≤ 3) ∧ (0 ≤ x2.toInt ∧ x2.toInt ≤ 9) ∧ (x1.toInt = 0 → (2 ≤ x3.toInt ∧ x3.toInt ≤ 36)) ∧ (x1.toInt ≠ 0 → x3.toInt = 10)) ∧ (0 : Int32).toInt = 0) ∨ ((0 : Int32).toInt = 1 ∧ ¬ ((0 ≤ x1.toInt ∧ x1.toInt ≤ 3) ∧ (0 ≤ x2.toInt ∧ x2.toInt ≤ 9) ∧ (x1.toInt = 0 → (2 ≤ x3.toInt ∧ x3.toInt ≤ 36)) ∧ (x1.toInt ≠ 0 → x3.toInt = 10))) from by have t1 : 0 ≤ x1.toInt := q_nltI c13; have t2 : x1.toInt ≤ 3 := q_nltI c14; have t3 : 0 ≤ x2.toInt := q_nltI c15; have t4 : x2.toInt ≤ 9 := q_leI c16; have t5 : x1.toInt ≠ 0 := q_neI c39; have t6 : x3.toInt = 10 := q_eqI c40; have t7 : x1.toInt = 1 := q_eqI c46; have e0 : (0 : Int32).toInt = 0 := (by decide); have e1 : (0 : Int32).toInt = 0 := (by decide); omega), hF⟩) d_14_15_290
      ·
        refine lv_iconst (v := 1) hx hb d_14_15_32 (by decide) ?_
        refine lv_goto (tgt := 37) hx hb d_14_15_33 (by decide) ?_
        refine lv_istore (lv' := [(4, .int 1), (0, .ref qO0), (1, .int x1), (2, .int x2), (3, .int x3)]) hx hb d_14_15_37 hl (by decide) rfl (fun ls hl => ?_)
        refine lv_aload_n hx hb d_14_15_39 rfl (lv_at hl 1 rfl) ?_
        refine lv_iload hx hb d_14_15_40 (lv_at hl 0 rfl) ?_
        refine lv_if_eq (tgt := 49) hx hb d_14_15_42 (by decide) (fun c96 => absurd c96 (by decide)) (fun c96 => ?_)
        refine lv_iconst (v := 1) hx hb d_14_15_45 (by decide) ?_
        refine lv_goto (tgt := 50) hx hb d_14_15_46 (by decide) ?_
        refine q_put (ci := 12) (j := 0) (v := .int 1) (ty := .int) C0 V i_NM o_NM n_NM rfl rfl hO0 (by decide) w_2298 rfl rfl rfl rfl (Nat.le_of_ble_eq_true rfl) d_14_15_50 (fun H locs w97 hu98 hO0 V => ?_)
        replace hO0 : w97[116]? = (some (qO0, .inr (12, [.int 1, .ref qA1, .int 0, .ref qA2, .int 0, .ref qO3, .ref qO4, .ref qO5, .ref qO6, .ref qO7, .ref qA8, .ref qA9])) : Option (Nat × va_E)) := hO0
        replace hF := q_gs hF hu98 (Nat.le_of_ble_eq_true rfl)
        refine lv_iload hx hb d_14_15_53 (lv_at hl 0 rfl) ?_
        refine lv_if_eq (tgt := 60) hx hb d_14_15_55 (by decide) (fun c99 => absurd c99 (by decide)) (fun c99 => ?_)
        refine lv_iconst (v := 0) hx hb d_14_15_58 (by decide) ?_
        exact q_retz C0 V (rfl) (⟨1, 0, 0, hO0, (show ((1 : Int32).toInt = 0 ∧ ((0 ≤ x1.toInt ∧ x1.toInt ≤ 3) ∧ (0 ≤ x2.toInt ∧ x2.toInt ≤ 9) ∧ (x1.toInt = 0 → (2 ≤ x3.toInt ∧ x3.toInt ≤ 36)) ∧ (x1.toInt ≠ 0 → x3.toInt = 10)) ∧ (0 : Int32).toInt = 0) ∨ ((1 : Int32).toInt = 1 ∧ ¬ ((0 ≤ x1.toInt ∧ x1.toInt ≤ 3) ∧ (0 ≤ x2.toInt ∧ x2.toInt ≤ 9) ∧ (x1.toInt = 0 → (2 ≤ x3.toInt ∧ x3.toInt ≤ 36)) ∧ (x1.toInt ≠ 0 → x3.toInt = 10))) from by have t1 : 0 ≤ x1.toInt := q_nltI c13; have t2 : x1.toInt ≤ 3 := q_nltI c14; have t3 : 0 ≤ x2.toInt := q_nltI c15; have t4 : x2.toInt ≤ 9 := q_leI c16; have t5 : x1.toInt ≠ 0 := q_neI c39; have t6 : x3.toInt ≠ 10 := q_neI c40; have e0 : (1 : Int32).toInt = 1 := (by decide); have e1 : (0 : Int32).toInt = 0 := (by decide); omega), hF⟩) d_14_15_59
    ·
      refine lv_iload_n hx hb d_14_15_12 rfl (lv_at hl 3 rfl) ?_
      refine lv_iconst (v := 2) hx hb d_14_15_13 (by decide) ?_
      refine lv_icmp_lt (tgt := 32) hx hb d_14_15_14 (by decide) (fun c100 => ?_) (fun c100 => ?_)
      ·
        refine lv_iconst (v := 1) hx hb d_14_15_32 (by decide) ?_
        refine lv_goto (tgt := 37) hx hb d_14_15_33 (by decide) ?_
        refine lv_istore (lv' := [(4, .int 1), (0, .ref qO0), (1, .int x1), (2, .int x2), (3, .int x3)]) hx hb d_14_15_37 hl (by decide) rfl (fun ls hl => ?_)
        refine lv_aload_n hx hb d_14_15_39 rfl (lv_at hl 1 rfl) ?_
        refine lv_iload hx hb d_14_15_40 (lv_at hl 0 rfl) ?_
        refine lv_if_eq (tgt := 49) hx hb d_14_15_42 (by decide) (fun c101 => absurd c101 (by decide)) (fun c101 => ?_)
        refine lv_iconst (v := 1) hx hb d_14_15_45 (by decide) ?_
        refine lv_goto (tgt := 50) hx hb d_14_15_46 (by decide) ?_
        refine q_put (ci := 12) (j := 0) (v := .int 1) (ty := .int) C0 V i_NM o_NM n_NM rfl rfl hO0 (by decide) w_2298 rfl rfl rfl rfl (Nat.le_of_ble_eq_true rfl) d_14_15_50 (fun H locs w102 hu103 hO0 V => ?_)
        replace hO0 : w102[116]? = (some (qO0, .inr (12, [.int 1, .ref qA1, .int 0, .ref qA2, .int 0, .ref qO3, .ref qO4, .ref qO5, .ref qO6, .ref qO7, .ref qA8, .ref qA9])) : Option (Nat × va_E)) := hO0
        replace hF := q_gs hF hu103 (Nat.le_of_ble_eq_true rfl)
        refine lv_iload hx hb d_14_15_53 (lv_at hl 0 rfl) ?_
        refine lv_if_eq (tgt := 60) hx hb d_14_15_55 (by decide) (fun c104 => absurd c104 (by decide)) (fun c104 => ?_)
        refine lv_iconst (v := 0) hx hb d_14_15_58 (by decide) ?_
        exact q_retz C0 V (rfl) (⟨1, 0, 0, hO0, (show ((1 : Int32).toInt = 0 ∧ ((0 ≤ x1.toInt ∧ x1.toInt ≤ 3) ∧ (0 ≤ x2.toInt ∧ x2.toInt ≤ 9) ∧ (x1.toInt = 0 → (2 ≤ x3.toInt ∧ x3.toInt ≤ 36)) ∧ (x1.toInt ≠ 0 → x3.toInt = 10)) ∧ (0 : Int32).toInt = 0) ∨ ((1 : Int32).toInt = 1 ∧ ¬ ((0 ≤ x1.toInt ∧ x1.toInt ≤ 3) ∧ (0 ≤ x2.toInt ∧ x2.toInt ≤ 9) ∧ (x1.toInt = 0 → (2 ≤ x3.toInt ∧ x3.toInt ≤ 36)) ∧ (x1.toInt ≠ 0 → x3.toInt = 10))) from by have t1 : 0 ≤ x1.toInt := q_nltI c13; have t2 : x1.toInt ≤ 3 := q_nltI c14; have t3 : 0 ≤ x2.toInt := q_nltI c15; have t4 : x2.toInt ≤ 9 := q_leI c16; have t5 : x1.toInt = 0 := q_eqI c39; have t6 : x3.toInt < 2 := q_ltI c100; have e0 : (1 : Int32).toInt = 1 := (by decide); have e1 : (0 : Int32).toInt = 0 := (by decide); omega), hF⟩) d_14_15_59
      ·
        refine lv_iload_n hx hb d_14_15_17 rfl (lv_at hl 3 rfl) ?_
        refine lv_bipush (v := 36) hx hb d_14_15_18 (by decide) ?_
        refine lv_icmp_le (tgt := 36) hx hb d_14_15_20 (by decide) (fun c105 => ?_) (fun c105 => ?_)
        ·
          refine lv_iconst (v := 0) hx hb d_14_15_36 (by decide) ?_
          refine lv_istore (lv' := [(4, .int 0), (0, .ref qO0), (1, .int x1), (2, .int x2), (3, .int x3)]) hx hb d_14_15_37 hl (by decide) rfl (fun ls hl => ?_)
          refine lv_aload_n hx hb d_14_15_39 rfl (lv_at hl 1 rfl) ?_
          refine lv_iload hx hb d_14_15_40 (lv_at hl 0 rfl) ?_
          refine lv_if_eq (tgt := 49) hx hb d_14_15_42 (by decide) (fun c106 => ?_) (fun c106 => absurd (by decide) c106)
          refine lv_iconst (v := 0) hx hb d_14_15_49 (by decide) ?_
          refine q_put (ci := 12) (j := 0) (v := .int 0) (ty := .int) C0 V i_NM o_NM n_NM rfl rfl hO0 (by decide) w_2298 rfl rfl rfl rfl (Nat.le_of_ble_eq_true rfl) d_14_15_50 (fun H locs w107 hu108 hO0 V => ?_)
          replace hO0 : w107[116]? = (some (qO0, .inr (12, [.int 0, .ref qA1, .int 0, .ref qA2, .int 0, .ref qO3, .ref qO4, .ref qO5, .ref qO6, .ref qO7, .ref qA8, .ref qA9])) : Option (Nat × va_E)) := hO0
          replace hF := q_gs hF hu108 (Nat.le_of_ble_eq_true rfl)
          refine lv_iload hx hb d_14_15_53 (lv_at hl 0 rfl) ?_
          refine lv_if_eq (tgt := 60) hx hb d_14_15_55 (by decide) (fun c109 => ?_) (fun c109 => absurd (by decide) c109)
          refine lv_iconst (v := 0) hx hb d_14_15_60 (by decide) ?_
          refine lv_istore (lv' := [(5, .int 0), (4, .int 0), (0, .ref qO0), (1, .int x1), (2, .int x2), (3, .int x3)]) hx hb d_14_15_61 hl (by decide) rfl (fun ls hl => ?_)
          refine lv_iload_n hx hb d_14_15_63 rfl (lv_at hl 3 rfl) ?_
          refine q_ti (v := 0) c39 ?_
          refine lv_if_ne (tgt := 113) hx hb d_14_15_64 (by decide) (fun c110 => absurd (by decide) c110) (fun c110 => ?_)
          refine lv_aload_n hx hb d_14_15_67 rfl (lv_at hl 2 rfl) ?_
          refine q_get (ci := 12) (j := 5) (v := .ref qO3) C0 V i_NM rfl rfl hO0 (by decide) w_2303 rfl d_14_15_68 ?_
          refine lv_aload_n hx hb d_14_15_71 rfl (lv_at hl 2 rfl) ?_
          refine q_get (ci := 12) (j := 1) (v := .ref qA1) C0 V i_NM rfl rfl hO0 (by decide) w_2299 rfl d_14_15_72 ?_
          refine lv_aload_n hx hb d_14_15_75 rfl (lv_at hl 2 rfl) ?_
          refine q_get (ci := 12) (j := 2) (v := .int 0) C0 V i_NM rfl rfl hO0 (by decide) w_2300 rfl d_14_15_76 ?_
          refine lv_aload_n hx hb d_14_15_79 rfl (lv_at hl 2 rfl) ?_
          refine q_get (ci := 12) (j := 5) (v := .ref qO3) C0 V i_NM rfl rfl hO0 (by decide) w_2303 rfl d_14_15_80 ?_
          replace hO3 := (hu108 _ (q_pd 119 116 rfl)).trans (hO3)
          refine q_getN (ci := 13) (j := 2) (v := .ref qA10) C0 V i_WR rfl rfl hO3 (by decide) wo_1925 rfl d_14_15_83 ?_
          refine q_goi V (q_runS (As := [.ref qA1, .int 0, .ref qA10]) (rest := [.ref qO3]) (d := 1) (mc := 0) (ms := 0) C0 V rfl LS_NM_90 (c_NM_load l D g w107 qA1 qA10 _) rfl hl.1 rfl (Nat.le_of_ble_eq_true rfl) ⟨by decide, by decide⟩ ⟨Nat.le_of_ble_eq_true rfl, Nat.le_of_ble_eq_true rfl⟩ d_14_15_86) (fun v113 u112 H locs hp111 V => ?_)
          obtain ⟨rfl, rfl⟩ := hp111
          refine q_putN (ci := 13) (j := 3) (v := .int 0) (ty := .int) C0 V i_WR o_WR n_WR rfl rfl hO3 (by decide) wo_1926 rfl rfl rfl rfl (Nat.le_of_ble_eq_true rfl) d_14_15_89 (fun H locs w115 hu116 hO3 V => ?_)
          replace hO3 : w115[119]? = (some (qO3, .inr (13, [.int 0, .int 0, .ref qA10, .int 0, .ref qA11, .ref qA12, .ref qA13, .int 0, .ref qA14, .ref qA15, .ref qA16, .ref qA17, .ref qA18, .ref qA19, .ref qA20, .ref qA21, .int 0, .int 0, .ref qA22, .ref qA23, .int 0])) : Option (Nat × va_E)) := hO3
          replace hF := q_gs hF hu116 (Nat.le_of_ble_eq_true rfl)
          refine lv_aload_n hx hb d_14_15_92 rfl (lv_at hl 2 rfl) ?_
          replace hO0 := (hu116 _ (q_pd 116 119 rfl)).trans (hO0)
          refine q_get (ci := 12) (j := 5) (v := .ref qO3) C0 V i_NM rfl rfl hO0 (by decide) w_2303 rfl d_14_15_93 ?_
          refine lv_iload_n hx hb d_14_15_96 rfl (lv_at hl 4 rfl) ?_
          refine lv_iload_n hx hb d_14_15_97 rfl (lv_at hl 5 rfl) ?_
          refine q_gov V (q_runV (As := [.int x2, .int x3]) (rest := []) (d := 2) (mc := 0) (ms := 0) (ci := 13) C0 V rfl LV_NM_95 (c_WR_read_2 l D g w115 119 qO3 qA10 qA11 qA12 qA13 qA14 qA15 qA16 qA17 qA18 qA19 qA20 qA21 qA22 qA23 x2 x3 hO3 (q_Ile (x := 0) (y := x2.toInt) (by decide) rfl (by have t1 : 0 ≤ x2.toInt := q_nltI c15; have t2 : x2.toInt ≤ 9 := q_leI c16; omega)) c16 (q_Ile (x := 2) (y := x3.toInt) (by decide) rfl (by have t1 : 2 ≤ x3.toInt := q_nltI c100; have t2 : x3.toInt ≤ 36 := q_leI c105; omega)) c105 _) rfl rfl hO3 rfl hl.1 rfl (Nat.le_of_ble_eq_true rfl) ⟨by decide, by decide⟩ ⟨Nat.le_of_ble_eq_true rfl, Nat.le_of_ble_eq_true rfl⟩ d_14_15_98) (fun u118 H locs hp117 V => ?_)
          obtain ⟨hg119, hO3⟩ := hp117
          replace hF := q_gc hF hg119 (q_al (Nat.le_of_ble_eq_true rfl) (fun _ h => absurd h List.not_mem_nil))
          refine lv_aload_n hx hb d_14_15_101 rfl (lv_at hl 2 rfl) ?_
          replace hO0 := (hg119 _ (q_nc (q_pd 116 119 rfl) List.not_mem_nil)).trans (hO0)
          refine q_get (ci := 12) (j := 5) (v := .ref qO3) C0 V i_NM rfl rfl hO0 (by decide) w_2303 rfl d_14_15_102 ?_
          refine q_getN (ci := 13) (j := 0) (v := .int 2) C0 V i_WR rfl rfl hO3 (by decide) wo_1922 rfl d_14_15_105 ?_
          refine lv_istore (lv' := [(5, .int 2), (4, .int 0), (0, .ref qO0), (1, .int x1), (2, .int x2), (3, .int x3)]) hx hb d_14_15_108 hl (by decide) rfl (fun ls hl => ?_)
          refine lv_goto (tgt := 248) hx hb d_14_15_110 (by decide) ?_
          refine lv_aload_n hx hb d_14_15_248 rfl (lv_at hl 2 rfl) ?_
          refine lv_iload hx hb d_14_15_249 (lv_at hl 0 rfl) ?_
          refine lv_iconst (v := 3) hx hb d_14_15_251 (by decide) ?_
          refine lv_icmp_ne (tgt := 259) hx hb d_14_15_252 (by decide) (fun c120 => ?_) (fun c120 => absurd c120 (by decide))
          refine lv_iconst (v := 0) hx hb d_14_15_259 (by decide) ?_
          refine q_put (ci := 12) (j := 0) (v := .int 0) (ty := .int) C0 V i_NM o_NM n_NM rfl rfl hO0 (by decide) w_2298 rfl rfl rfl rfl (Nat.le_of_ble_eq_true rfl) d_14_15_260 (fun H locs w121 hu122 hO0 V => ?_)
          replace hO0 : w121[116]? = (some (qO0, .inr (12, [.int 0, .ref qA1, .int 0, .ref qA2, .int 0, .ref qO3, .ref qO4, .ref qO5, .ref qO6, .ref qO7, .ref qA8, .ref qA9])) : Option (Nat × va_E)) := hO0
          replace hF := q_gs hF hu122 (Nat.le_of_ble_eq_true rfl)
          refine lv_aload_n hx hb d_14_15_263 rfl (lv_at hl 2 rfl) ?_
          refine lv_iload hx hb d_14_15_264 (lv_at hl 0 rfl) ?_
          refine lv_if_ne (tgt := 273) hx hb d_14_15_266 (by decide) (fun c123 => ?_) (fun c123 => absurd c123 (by decide))
          refine lv_aload_n hx hb d_14_15_273 rfl (lv_at hl 2 rfl) ?_
          refine q_get (ci := 12) (j := 2) (v := .int 0) C0 V i_NM rfl rfl hO0 (by decide) w_2300 rfl d_14_15_274 ?_
          refine q_put (ci := 12) (j := 2) (v := .int 0) (ty := .int) C0 V i_NM o_NM n_NM rfl rfl hO0 (by decide) w_2300 rfl rfl rfl rfl (Nat.le_of_ble_eq_true rfl) d_14_15_277 (fun H locs w124 hu125 hO0 V => ?_)
          replace hO0 : w124[116]? = (some (qO0, .inr (12, [.int 0, .ref qA1, .int 0, .ref qA2, .int 0, .ref qO3, .ref qO4, .ref qO5, .ref qO6, .ref qO7, .ref qA8, .ref qA9])) : Option (Nat × va_E)) := hO0
          replace hF := q_gs hF hu125 (Nat.le_of_ble_eq_true rfl)
          refine lv_iload hx hb d_14_15_280 (lv_at hl 0 rfl) ?_
          refine lv_if_ne (tgt := 289) hx hb d_14_15_282 (by decide) (fun c126 => ?_) (fun c126 => absurd c126 (by decide))
          refine lv_iconst (v := 0) hx hb d_14_15_289 (by decide) ?_
          exact q_retz C0 V (rfl) (⟨0, 0, 0, hO0, (show ((0 : Int32).toInt = 0 ∧ ((0 ≤ x1.toInt ∧ x1.toInt ≤ 3) ∧ (0 ≤ x2.toInt ∧ x2.toInt ≤ 9) ∧ (x1.toInt = 0 → (2 ≤ x3.toInt ∧ x3.toInt ≤ 36)) ∧ (x1.toInt ≠ 0 → x3.toInt = 10)) ∧ (0 : Int32).toInt = 0) ∨ ((0 : Int32).toInt = 1 ∧ ¬ ((0 ≤ x1.toInt ∧ x1.toInt ≤ 3) ∧ (0 ≤ x2.toInt ∧ x2.toInt ≤ 9) ∧ (x1.toInt = 0 → (2 ≤ x3.toInt ∧ x3.toInt ≤ 36)) ∧ (x1.toInt ≠ 0 → x3.toInt = 10))) from by have t1 : 0 ≤ x1.toInt := q_nltI c13; have t2 : x1.toInt ≤ 3 := q_nltI c14; have t3 : 0 ≤ x2.toInt := q_nltI c15; have t4 : x2.toInt ≤ 9 := q_leI c16; have t5 : x1.toInt = 0 := q_eqI c39; have t6 : 2 ≤ x3.toInt := q_nltI c100; have t7 : x3.toInt ≤ 36 := q_leI c105; have e0 : (0 : Int32).toInt = 0 := (by decide); have e1 : (0 : Int32).toInt = 0 := (by decide); omega), hF⟩) d_14_15_290
        ·
          refine lv_goto (tgt := 32) hx hb d_14_15_23 (by decide) ?_
          refine lv_iconst (v := 1) hx hb d_14_15_32 (by decide) ?_
          refine lv_goto (tgt := 37) hx hb d_14_15_33 (by decide) ?_
          refine lv_istore (lv' := [(4, .int 1), (0, .ref qO0), (1, .int x1), (2, .int x2), (3, .int x3)]) hx hb d_14_15_37 hl (by decide) rfl (fun ls hl => ?_)
          refine lv_aload_n hx hb d_14_15_39 rfl (lv_at hl 1 rfl) ?_
          refine lv_iload hx hb d_14_15_40 (lv_at hl 0 rfl) ?_
          refine lv_if_eq (tgt := 49) hx hb d_14_15_42 (by decide) (fun c127 => absurd c127 (by decide)) (fun c127 => ?_)
          refine lv_iconst (v := 1) hx hb d_14_15_45 (by decide) ?_
          refine lv_goto (tgt := 50) hx hb d_14_15_46 (by decide) ?_
          refine q_put (ci := 12) (j := 0) (v := .int 1) (ty := .int) C0 V i_NM o_NM n_NM rfl rfl hO0 (by decide) w_2298 rfl rfl rfl rfl (Nat.le_of_ble_eq_true rfl) d_14_15_50 (fun H locs w128 hu129 hO0 V => ?_)
          replace hO0 : w128[116]? = (some (qO0, .inr (12, [.int 1, .ref qA1, .int 0, .ref qA2, .int 0, .ref qO3, .ref qO4, .ref qO5, .ref qO6, .ref qO7, .ref qA8, .ref qA9])) : Option (Nat × va_E)) := hO0
          replace hF := q_gs hF hu129 (Nat.le_of_ble_eq_true rfl)
          refine lv_iload hx hb d_14_15_53 (lv_at hl 0 rfl) ?_
          refine lv_if_eq (tgt := 60) hx hb d_14_15_55 (by decide) (fun c130 => absurd c130 (by decide)) (fun c130 => ?_)
          refine lv_iconst (v := 0) hx hb d_14_15_58 (by decide) ?_
          exact q_retz C0 V (rfl) (⟨1, 0, 0, hO0, (show ((1 : Int32).toInt = 0 ∧ ((0 ≤ x1.toInt ∧ x1.toInt ≤ 3) ∧ (0 ≤ x2.toInt ∧ x2.toInt ≤ 9) ∧ (x1.toInt = 0 → (2 ≤ x3.toInt ∧ x3.toInt ≤ 36)) ∧ (x1.toInt ≠ 0 → x3.toInt = 10)) ∧ (0 : Int32).toInt = 0) ∨ ((1 : Int32).toInt = 1 ∧ ¬ ((0 ≤ x1.toInt ∧ x1.toInt ≤ 3) ∧ (0 ≤ x2.toInt ∧ x2.toInt ≤ 9) ∧ (x1.toInt = 0 → (2 ≤ x3.toInt ∧ x3.toInt ≤ 36)) ∧ (x1.toInt ≠ 0 → x3.toInt = 10))) from by have t1 : 0 ≤ x1.toInt := q_nltI c13; have t2 : x1.toInt ≤ 3 := q_nltI c14; have t3 : 0 ≤ x2.toInt := q_nltI c15; have t4 : x2.toInt ≤ 9 := q_leI c16; have t5 : x1.toInt = 0 := q_eqI c39; have t6 : 2 ≤ x3.toInt := q_nltI c100; have t7 : 36 < x3.toInt := q_nleI c105; have e0 : (1 : Int32).toInt = 1 := (by decide); have e1 : (0 : Int32).toInt = 0 := (by decide); omega), hF⟩) d_14_15_59
  ·
    refine lv_if_ne (tgt := 32) hx hb d_14_15_5 (by decide) (fun c131 => ?_) (fun c131 => absurd c131 (by decide))
    refine lv_iconst (v := 1) hx hb d_14_15_32 (by decide) ?_
    refine lv_goto (tgt := 37) hx hb d_14_15_33 (by decide) ?_
    refine lv_istore (lv' := [(4, .int 1), (0, .ref qO0), (1, .int x1), (2, .int x2), (3, .int x3)]) hx hb d_14_15_37 hl (by decide) rfl (fun ls hl => ?_)
    refine lv_aload_n hx hb d_14_15_39 rfl (lv_at hl 1 rfl) ?_
    refine lv_iload hx hb d_14_15_40 (lv_at hl 0 rfl) ?_
    refine lv_if_eq (tgt := 49) hx hb d_14_15_42 (by decide) (fun c132 => absurd c132 (by decide)) (fun c132 => ?_)
    refine lv_iconst (v := 1) hx hb d_14_15_45 (by decide) ?_
    refine lv_goto (tgt := 50) hx hb d_14_15_46 (by decide) ?_
    refine q_put (ci := 12) (j := 0) (v := .int 1) (ty := .int) C0 V i_NM o_NM n_NM rfl rfl hO0 (by decide) w_2298 rfl rfl rfl rfl (Nat.le_of_ble_eq_true rfl) d_14_15_50 (fun H locs w133 hu134 hO0 V => ?_)
    replace hO0 : w133[116]? = (some (qO0, .inr (12, [.int 1, .ref qA1, .int 0, .ref qA2, .int 0, .ref qO3, .ref qO4, .ref qO5, .ref qO6, .ref qO7, .ref qA8, .ref qA9])) : Option (Nat × va_E)) := hO0
    replace hF := q_gs hF hu134 (Nat.le_of_ble_eq_true rfl)
    refine lv_iload hx hb d_14_15_53 (lv_at hl 0 rfl) ?_
    refine lv_if_eq (tgt := 60) hx hb d_14_15_55 (by decide) (fun c135 => absurd c135 (by decide)) (fun c135 => ?_)
    refine lv_iconst (v := 0) hx hb d_14_15_58 (by decide) ?_
    exact q_retz C0 V (rfl) (⟨1, 0, 0, hO0, (show ((1 : Int32).toInt = 0 ∧ ((0 ≤ x1.toInt ∧ x1.toInt ≤ 3) ∧ (0 ≤ x2.toInt ∧ x2.toInt ≤ 9) ∧ (x1.toInt = 0 → (2 ≤ x3.toInt ∧ x3.toInt ≤ 36)) ∧ (x1.toInt ≠ 0 → x3.toInt = 10)) ∧ (0 : Int32).toInt = 0) ∨ ((1 : Int32).toInt = 1 ∧ ¬ ((0 ≤ x1.toInt ∧ x1.toInt ≤ 3) ∧ (0 ≤ x2.toInt ∧ x2.toInt ≤ 9) ∧ (x1.toInt = 0 → (2 ≤ x3.toInt ∧ x3.toInt ≤ 36)) ∧ (x1.toInt ≠ 0 → x3.toInt = 10))) from by have t1 : 0 ≤ x1.toInt := q_nltI c18; have t2 : x1.toInt ≤ 3 := q_nltI c19; have t3 : 0 ≤ x2.toInt := q_nltI c20; have t4 : 9 < x2.toInt := q_nleI c21; have e0 : (1 : Int32).toInt = 1 := (by decide); have e1 : (0 : Int32).toInt = 0 := (by decide); omega), hF⟩) d_14_15_59
