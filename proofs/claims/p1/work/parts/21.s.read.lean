/-! the class on a fresh object: read -/
theorem d_10_9_0 : decode prog_10_method_9_code 0 = .ok (.aload_n 0, 1) := by decide +kernel
theorem d_10_9_1 : decode prog_10_method_9_code 1 = .ok (.iconst 0, 1) := by decide +kernel
theorem d_10_9_2 : decode prog_10_method_9_code 2 = .ok (.putfield 36, 3) := by decide +kernel
theorem w_290 : (Cond.fieldLink "NumberHouse$Reader" (36 : Nat) "NumberHouse$Reader" "place" "I") ∈ q_tbl := q_of 290 (by decide +kernel) (by decide +kernel)
theorem d_10_9_5 : decode prog_10_method_9_code 5 = .ok (.aload_n 0, 1) := by decide +kernel
theorem d_10_9_6 : decode prog_10_method_9_code 6 = .ok (.aload_n 0, 1) := by decide +kernel
theorem d_10_9_7 : decode prog_10_method_9_code 7 = .ok (.getfield 9, 3) := by decide +kernel
theorem d_10_9_10 : decode prog_10_method_9_code 10 = .ok (.getfield 145, 3) := by decide +kernel
theorem w_59 : (Cond.fieldLink "NumberHouse$Reader" (145 : Nat) "NumberHouse$Sheet" "size" "I") ∈ q_tbl := q_of 59 (by decide +kernel) (by decide +kernel)
theorem d_10_9_13 : decode prog_10_method_9_code 13 = .ok (.putfield 40, 3) := by decide +kernel
theorem w_291 : (Cond.fieldLink "NumberHouse$Reader" (40 : Nat) "NumberHouse$Reader" "end" "I") ∈ q_tbl := q_of 291 (by decide +kernel) (by decide +kernel)
theorem d_10_9_16 : decode prog_10_method_9_code 16 = .ok (.return_, 1) := by decide +kernel
def y_Rea_begin : MethodName := ⟨"NumberHouse$Reader", "begin", "()V"⟩
set_option maxRecDepth 100000 in
set_option maxHeartbeats 4000000 in
theorem c_Rea_begin (l : Launch) (D : va_G) (g : Nat → ClassId) (ws : va_W) (kO0 kO1 qO0 qO1 qO2 qA3 : Nat) (hO0 : ws[kO0]? = (some (qO0, .inr (8, [.long 0, .long 0, .ref qO1, .ref qO2, .int 0, .int 0, .int 0, .int 0, .int 0, .int 0, .int 0, .long 0])) : Option (Nat × va_E))) (hO1 : ws[kO1]? = (some (qO1, .inr (1, [.ref qA3, .int 4100, .int 0])) : Option (Nat × va_E))) : q_mV l y_Rea_begin prog_10_method_9_code 1 1 0 0 D g [.ref qO0] ws (fun u => q_un ws u [kO0] ∧ u[kO0]? = (some (qO0, .inr (8, [.long 0, .long 0, .ref qO1, .ref qO2, .int 0, .int 0, .int 0, .int 0, .int 0, .int 0, .int 0, .long 0])) : Option (Nat × va_E))) := by
  intro sz
  refine q_into (by decide) (Nat.le_of_ble_eq_true rfl) ?_
  intro p e s m below meth c ls hsz C0 V hl
  have hx := C0.1
  have hb := C0.2.1
  have hl : lv_has ls 1 [(0, .ref qO0)] := hl
  have n_O1_O0 := q_dc hO1 hO0 (q_pd 1 8 rfl)
  have hF : q_un ws ws [kO0] := q_u0
  refine lv_aload_n hx hb d_10_9_0 rfl (lv_at hl 0 rfl) ?_
  refine lv_iconst (v := 0) hx hb d_10_9_1 (by decide) ?_
  refine q_put (ci := 8) (j := 4) (v := .int 0) (ty := .int) C0 V i_Rea o_Rea n_Rea rfl rfl hO0 (by decide) w_290 rfl rfl rfl rfl (Nat.le_of_ble_eq_true rfl) d_10_9_2 (fun H locs w1 hu2 hO0 V => ?_)
  replace hO0 : w1[kO0]? = (some (qO0, .inr (8, [.long 0, .long 0, .ref qO1, .ref qO2, .int 0, .int 0, .int 0, .int 0, .int 0, .int 0, .int 0, .long 0])) : Option (Nat × va_E)) := hO0
  replace hF := q_us hF hu2 (.head _)
  refine lv_aload_n hx hb d_10_9_5 rfl (lv_at hl 0 rfl) ?_
  refine lv_aload_n hx hb d_10_9_6 rfl (lv_at hl 0 rfl) ?_
  refine q_get (ci := 8) (j := 2) (v := .ref qO1) C0 V i_Rea rfl rfl hO0 (by decide) w_288 rfl d_10_9_7 ?_
  replace hO1 := (hu2 _ n_O1_O0).trans (hO1)
  refine q_get (ci := 1) (j := 2) (v := .int 0) C0 V i_She rfl rfl hO1 (by decide) w_59 rfl d_10_9_10 ?_
  refine q_put (ci := 8) (j := 5) (v := .int 0) (ty := .int) C0 V i_Rea o_Rea n_Rea rfl rfl hO0 (by decide) w_291 rfl rfl rfl rfl (Nat.le_of_ble_eq_true rfl) d_10_9_13 (fun H locs w3 hu4 hO0 V => ?_)
  replace hO0 : w3[kO0]? = (some (qO0, .inr (8, [.long 0, .long 0, .ref qO1, .ref qO2, .int 0, .int 0, .int 0, .int 0, .int 0, .int 0, .int 0, .long 0])) : Option (Nat × va_E)) := hO0
  replace hF := q_us hF hu4 (.head _)
  exact q_retv C0 V (⟨hF, hO0⟩) d_10_9_16
theorem d_10_10_0 : decode prog_10_method_10_code 0 = .ok (.aload_n 0, 1) := by decide +kernel
theorem d_10_10_1 : decode prog_10_method_10_code 1 = .ok (.getfield 36, 3) := by decide +kernel
theorem d_10_10_4 : decode prog_10_method_10_code 4 = .ok (.aload_n 0, 1) := by decide +kernel
theorem d_10_10_5 : decode prog_10_method_10_code 5 = .ok (.getfield 40, 3) := by decide +kernel
theorem d_10_10_8 : decode prog_10_method_10_code 8 = .ok (.if_icmp .ge 33, 3) := by decide +kernel
theorem d_10_10_41 : decode prog_10_method_10_code 41 = .ok (.aload_n 0, 1) := by decide +kernel
theorem d_10_10_42 : decode prog_10_method_10_code 42 = .ok (.getfield 40, 3) := by decide +kernel
theorem d_10_10_45 : decode prog_10_method_10_code 45 = .ok (.aload_n 0, 1) := by decide +kernel
theorem d_10_10_46 : decode prog_10_method_10_code 46 = .ok (.getfield 36, 3) := by decide +kernel
theorem d_10_10_49 : decode prog_10_method_10_code 49 = .ok (.if_icmp .le 35, 3) := by decide +kernel
theorem d_10_10_84 : decode prog_10_method_10_code 84 = .ok (.return_, 1) := by decide +kernel
def y_Rea_trimBlanks : MethodName := ⟨"NumberHouse$Reader", "trimBlanks", "()V"⟩
set_option maxRecDepth 100000 in
set_option maxHeartbeats 4000000 in
theorem c_Rea_trimBlanks (l : Launch) (D : va_G) (g : Nat → ClassId) (ws : va_W) (kO0 qO0 qO1 qO2 : Nat) (hO0 : ws[kO0]? = (some (qO0, .inr (8, [.long 0, .long 0, .ref qO1, .ref qO2, .int 0, .int 0, .int 0, .int 0, .int 0, .int 0, .int 0, .long 0])) : Option (Nat × va_E))) : q_mV l y_Rea_trimBlanks prog_10_method_10_code 1 1 0 0 D g [.ref qO0] ws (fun u => ws = u) := by
  intro sz
  refine q_into (by decide) (Nat.le_of_ble_eq_true rfl) ?_
  intro p e s m below meth c ls hsz C0 V hl
  have hx := C0.1
  have hb := C0.2.1
  have hl : lv_has ls 1 [(0, .ref qO0)] := hl
  refine lv_aload_n hx hb d_10_10_0 rfl (lv_at hl 0 rfl) ?_
  refine q_get (ci := 8) (j := 4) (v := .int 0) C0 V i_Rea rfl rfl hO0 (by decide) w_290 rfl d_10_10_1 ?_
  refine lv_aload_n hx hb d_10_10_4 rfl (lv_at hl 0 rfl) ?_
  refine q_get (ci := 8) (j := 5) (v := .int 0) C0 V i_Rea rfl rfl hO0 (by decide) w_291 rfl d_10_10_5 ?_
  refine lv_icmp_ge (tgt := 41) hx hb d_10_10_8 (by decide) (fun c1 => ?_) (fun c1 => absurd (by decide) c1)
  refine lv_aload_n hx hb d_10_10_41 rfl (lv_at hl 0 rfl) ?_
  refine q_get (ci := 8) (j := 5) (v := .int 0) C0 V i_Rea rfl rfl hO0 (by decide) w_291 rfl d_10_10_42 ?_
  refine lv_aload_n hx hb d_10_10_45 rfl (lv_at hl 0 rfl) ?_
  refine q_get (ci := 8) (j := 4) (v := .int 0) C0 V i_Rea rfl rfl hO0 (by decide) w_290 rfl d_10_10_46 ?_
  refine lv_icmp_le (tgt := 84) hx hb d_10_10_49 (by decide) (fun c2 => ?_) (fun c2 => absurd (by decide) c2)
  exact q_retv C0 V (rfl) d_10_10_84
theorem d_10_16_0 : decode prog_10_method_16_code 0 = .ok (.aload_n 0, 1) := by decide +kernel
theorem d_10_16_1 : decode prog_10_method_16_code 1 = .ok (.getfield 36, 3) := by decide +kernel
theorem d_10_16_4 : decode prog_10_method_16_code 4 = .ok (.aload_n 0, 1) := by decide +kernel
theorem d_10_16_5 : decode prog_10_method_16_code 5 = .ok (.getfield 40, 3) := by decide +kernel
theorem d_10_16_8 : decode prog_10_method_16_code 8 = .ok (.if_icmp .ge 18, 3) := by decide +kernel
theorem d_10_16_26 : decode prog_10_method_16_code 26 = .ok (.iconst (-1), 1) := by decide +kernel
theorem d_10_16_27 : decode prog_10_method_16_code 27 = .ok (.ireturn, 1) := by decide +kernel
def y_Rea_here : MethodName := ⟨"NumberHouse$Reader", "here", "()I"⟩
set_option maxRecDepth 100000 in
set_option maxHeartbeats 4000000 in
theorem c_Rea_here (l : Launch) (D : va_G) (g : Nat → ClassId) (ws : va_W) (kO0 qO0 qO1 qO2 : Nat) (hO0 : ws[kO0]? = (some (qO0, .inr (8, [.long 0, .long 0, .ref qO1, .ref qO2, .int 0, .int 0, .int 0, .int 0, .int 0, .int 0, .int 0, .long 0])) : Option (Nat × va_E))) : q_mI l y_Rea_here prog_10_method_16_code 1 (.int) 1 0 0 D g [.ref qO0] ws (fun r u => (-1) = r ∧ ws = u) := by
  intro sz
  refine q_into (by decide) (Nat.le_of_ble_eq_true rfl) ?_
  intro p e s m below meth c ls hsz C0 V hl
  have hx := C0.1
  have hb := C0.2.1
  have hl : lv_has ls 1 [(0, .ref qO0)] := hl
  refine lv_aload_n hx hb d_10_16_0 rfl (lv_at hl 0 rfl) ?_
  refine q_get (ci := 8) (j := 4) (v := .int 0) C0 V i_Rea rfl rfl hO0 (by decide) w_290 rfl d_10_16_1 ?_
  refine lv_aload_n hx hb d_10_16_4 rfl (lv_at hl 0 rfl) ?_
  refine q_get (ci := 8) (j := 5) (v := .int 0) C0 V i_Rea rfl rfl hO0 (by decide) w_291 rfl d_10_16_5 ?_
  refine lv_icmp_ge (tgt := 26) hx hb d_10_16_8 (by decide) (fun c1 => ?_) (fun c1 => absurd (by decide) c1)
  refine lv_iconst (v := (-1)) hx hb d_10_16_26 (by decide) ?_
  exact q_reti C0 V (⟨rfl, rfl⟩) d_10_16_27
theorem d_10_11_0 : decode prog_10_method_11_code 0 = .ok (.aload_n 0, 1) := by decide +kernel
theorem d_10_11_1 : decode prog_10_method_11_code 1 = .ok (.invokevirtual 70, 3) := by decide +kernel
theorem w_596 : (Cond.code ({ cls := "NumberHouse$Reader", name := "here", desc := "()I" } : MethodName) prog_10_method_16_code (1 : Nat) (some .int)) ∈ q_tbl := q_of 596 (by decide +kernel) (by decide +kernel)
theorem w_593 : (Cond.methodLink "NumberHouse$Reader" (70 : Nat) ({ cls := "NumberHouse$Reader", name := "here", desc := "()I" } : MethodName)) ∈ q_tbl := q_of 593 (by decide +kernel) (by decide +kernel)
theorem w_595 : (Cond.instanceMethod ({ cls := "NumberHouse$Reader", name := "here", desc := "()I" } : MethodName)) ∈ q_tbl := q_of 595 (by decide +kernel) (by decide +kernel)
theorem ws_3 : Cond.selects "NumberHouse$Reader" (⟨"NumberHouse$Reader", "here", "()I"⟩ : MethodName) (⟨"NumberHouse$Reader", "here", "()I"⟩ : MethodName) ∈ q_tbl := q_ofs 3 (by decide +kernel) (by decide +kernel)
theorem LV_Rea_70 : q_LV "NumberHouse$Reader" 70 y_Rea_here prog_10_method_16_code 1 (some .int) 0 := ⟨w_596, w_10, w_593, w_595, ws_3, ⟨by decide, by decide, by decide +kernel⟩⟩
theorem d_10_11_4 : decode prog_10_method_11_code 4 = .ok (.istore_n 1, 1) := by decide +kernel
theorem d_10_11_5 : decode prog_10_method_11_code 5 = .ok (.aload_n 0, 1) := by decide +kernel
theorem d_10_11_6 : decode prog_10_method_11_code 6 = .ok (.iload_n 1, 1) := by decide +kernel
theorem d_10_11_7 : decode prog_10_method_11_code 7 = .ok (.bipush 45, 2) := by decide +kernel
theorem d_10_11_9 : decode prog_10_method_11_code 9 = .ok (.if_icmp .ne 7, 3) := by decide +kernel
theorem d_10_11_16 : decode prog_10_method_11_code 16 = .ok (.iconst 0, 1) := by decide +kernel
theorem d_10_11_17 : decode prog_10_method_11_code 17 = .ok (.putfield 54, 3) := by decide +kernel
theorem w_292 : (Cond.fieldLink "NumberHouse$Reader" (54 : Nat) "NumberHouse$Reader" "negative" "Z") ∈ q_tbl := q_of 292 (by decide +kernel) (by decide +kernel)
theorem d_10_11_20 : decode prog_10_method_11_code 20 = .ok (.iload_n 1, 1) := by decide +kernel
theorem d_10_11_21 : decode prog_10_method_11_code 21 = .ok (.bipush 45, 2) := by decide +kernel
theorem d_10_11_23 : decode prog_10_method_11_code 23 = .ok (.if_icmp .eq 9, 3) := by decide +kernel
theorem d_10_11_26 : decode prog_10_method_11_code 26 = .ok (.iload_n 1, 1) := by decide +kernel
theorem d_10_11_27 : decode prog_10_method_11_code 27 = .ok (.bipush 43, 2) := by decide +kernel
theorem d_10_11_29 : decode prog_10_method_11_code 29 = .ok (.if_icmp .ne 13, 3) := by decide +kernel
theorem d_10_11_42 : decode prog_10_method_11_code 42 = .ok (.return_, 1) := by decide +kernel
def y_Rea_takeSign : MethodName := ⟨"NumberHouse$Reader", "takeSign", "()V"⟩
set_option maxRecDepth 100000 in
set_option maxHeartbeats 4000000 in
theorem c_Rea_takeSign (l : Launch) (D : va_G) (g : Nat → ClassId) (ws : va_W) (kO0 qO0 qO1 qO2 : Nat) (hO0 : ws[kO0]? = (some (qO0, .inr (8, [.long 0, .long 0, .ref qO1, .ref qO2, .int 0, .int 0, .int 0, .int 0, .int 0, .int 0, .int 0, .long 0])) : Option (Nat × va_E))) : q_mV l y_Rea_takeSign prog_10_method_11_code 2 2 0 0 D g [.ref qO0] ws (fun u => q_un ws u [kO0] ∧ u[kO0]? = (some (qO0, .inr (8, [.long 0, .long 0, .ref qO1, .ref qO2, .int 0, .int 0, .int 0, .int 0, .int 0, .int 0, .int 0, .long 0])) : Option (Nat × va_E))) := by
  intro sz
  refine q_into (by decide) (Nat.le_of_ble_eq_true rfl) ?_
  intro p e s m below meth c ls hsz C0 V hl
  have hx := C0.1
  have hb := C0.2.1
  have hl : lv_has ls 2 [(0, .ref qO0)] := hl
  have hF : q_un ws ws [kO0] := q_u0
  refine lv_aload_n hx hb d_10_11_0 rfl (lv_at hl 0 rfl) ?_
  refine q_goi V (q_runV (As := []) (rest := []) (d := 1) (mc := 0) (ms := 0) (ci := 8) C0 V rfl LV_Rea_70 (c_Rea_here l D g ws kO0 qO0 qO1 qO2 hO0 _) rfl rfl hO0 rfl hl.1 rfl (Nat.le_of_ble_eq_true rfl) ⟨by decide, by decide⟩ ⟨Nat.le_of_ble_eq_true rfl, Nat.le_of_ble_eq_true rfl⟩ d_10_11_1) (fun v3 u2 H locs hp1 V => ?_)
  obtain ⟨rfl, rfl⟩ := hp1
  refine lv_istore_n (lv' := [(1, .int (-1)), (0, .ref qO0)]) hx hb d_10_11_4 rfl hl (by decide) rfl (fun ls hl => ?_)
  refine lv_aload_n hx hb d_10_11_5 rfl (lv_at hl 1 rfl) ?_
  refine lv_iload_n hx hb d_10_11_6 rfl (lv_at hl 0 rfl) ?_
  refine lv_bipush (v := 45) hx hb d_10_11_7 (by decide) ?_
  refine lv_icmp_ne (tgt := 16) hx hb d_10_11_9 (by decide) (fun c5 => ?_) (fun c5 => absurd c5 (by decide))
  refine lv_iconst (v := 0) hx hb d_10_11_16 (by decide) ?_
  refine q_put (ci := 8) (j := 6) (v := .int 0) (ty := .boolean) C0 V i_Rea o_Rea n_Rea rfl rfl hO0 (by decide) w_292 rfl rfl rfl rfl (Nat.le_of_ble_eq_true rfl) d_10_11_17 (fun H locs w6 hu7 hO0 V => ?_)
  replace hO0 : w6[kO0]? = (some (qO0, .inr (8, [.long 0, .long 0, .ref qO1, .ref qO2, .int 0, .int 0, .int 0, .int 0, .int 0, .int 0, .int 0, .long 0])) : Option (Nat × va_E)) := hO0
  replace hF := q_us hF hu7 (.head _)
  refine lv_iload_n hx hb d_10_11_20 rfl (lv_at hl 0 rfl) ?_
  refine lv_bipush (v := 45) hx hb d_10_11_21 (by decide) ?_
  refine lv_icmp_eq (tgt := 32) hx hb d_10_11_23 (by decide) (fun c8 => absurd c8 (by decide)) (fun c8 => ?_)
  refine lv_iload_n hx hb d_10_11_26 rfl (lv_at hl 0 rfl) ?_
  refine lv_bipush (v := 43) hx hb d_10_11_27 (by decide) ?_
  refine lv_icmp_ne (tgt := 42) hx hb d_10_11_29 (by decide) (fun c9 => ?_) (fun c9 => absurd c9 (by decide))
  exact q_retv C0 V (⟨hF, hO0⟩) d_10_11_42
set_option maxRecDepth 100000 in
set_option maxHeartbeats 4000000 in
theorem c_jStr_coder_3 (l : Launch) (D : va_G) (g : Nat → ClassId) (ws : va_W) : q_mI l y_jStr_coder prog_31_method_152_code 1 (.byte) 1 0 0 D g [.ref (g (8 + 2 * 20))] ws (fun r u => 0 = r ∧ ws = u) := by
  intro sz
  refine q_into (by decide) (Nat.le_of_ble_eq_true rfl) ?_
  intro p e s m below meth c ls hsz C0 V hl
  have hx := C0.1
  have hb := C0.2.1
  have hl : lv_has ls 1 [(0, .ref (g (8 + 2 * 20)))] := hl
  refine q_scmp C0 V rfl w_663 d_31_152_0 ?_
  refine lv_if_eq (tgt := 13) hx hb d_31_152_3 (by decide) (fun c1 => absurd c1 (by decide)) (fun c1 => ?_)
  refine lv_aload_n hx hb d_31_152_6 rfl (lv_at hl 0 rfl) ?_
  refine q_scod (i := 20) C0 V rfl rfl w_1019 d_31_152_7 ?_
  refine lv_goto (tgt := 14) hx hb d_31_152_10 (by decide) ?_
  exact q_retn C0 V (rfl) (⟨rfl, rfl⟩) d_31_152_14
set_option maxRecDepth 100000 in
set_option maxHeartbeats 4000000 in
theorem c_jStr_length_3 (l : Launch) (D : va_G) (g : Nat → ClassId) (ws : va_W) : q_mI l y_jStr_length prog_31_method_54_code 1 (.int) 2 0 0 D g [.ref (g (8 + 2 * 20))] ws (fun r u => 3 = r ∧ ws = u) := by
  intro sz
  refine q_into (by decide) (Nat.le_of_ble_eq_true rfl) ?_
  intro p e s m below meth c ls hsz C0 V hl
  have hx := C0.1
  have hb := C0.2.1
  have hl : lv_has ls 1 [(0, .ref (g (8 + 2 * 20)))] := hl
  refine lv_aload_n hx hb d_31_54_0 rfl (lv_at hl 0 rfl) ?_
  refine q_sval (i := 20) C0 V rfl rfl w_1018 d_31_54_1 ?_
  refine q_slen (i := 20) (v := 3) C0 V rfl (by decide) d_31_54_4 ?_
  refine lv_aload_n hx hb d_31_54_5 rfl (lv_at hl 0 rfl) ?_
  refine q_goi V (q_runVs (As := []) (rest := [.int 3]) (d := 1) (mc := 0) (ms := 0) (i := 20) C0 V rfl LV_jStr_335 (c_jStr_coder_3 l D g ws _) rfl rfl rfl hl.1 rfl (Nat.le_of_ble_eq_true rfl) ⟨by decide, by decide⟩ ⟨Nat.le_of_ble_eq_true rfl, Nat.le_of_ble_eq_true rfl⟩ d_31_54_6) (fun v3 u2 H locs hp1 V => ?_)
  obtain ⟨rfl, rfl⟩ := hp1
  refine lv_ishr hx hb d_31_54_9 ?_
  refine q_ti (v := 3) (by decide) ?_
  exact q_reti C0 V (⟨rfl, rfl⟩) d_31_54_10
theorem d_10_15_0 : decode prog_10_method_15_code 0 = .ok (.aload_n 0, 1) := by decide +kernel
theorem d_10_15_1 : decode prog_10_method_15_code 1 = .ok (.getfield 40, 3) := by decide +kernel
theorem d_10_15_4 : decode prog_10_method_15_code 4 = .ok (.aload_n 0, 1) := by decide +kernel
theorem d_10_15_5 : decode prog_10_method_15_code 5 = .ok (.getfield 36, 3) := by decide +kernel
theorem d_10_15_8 : decode prog_10_method_15_code 8 = .ok (.isub, 1) := by decide +kernel
theorem d_10_15_9 : decode prog_10_method_15_code 9 = .ok (.aload_n 1, 1) := by decide +kernel
theorem d_10_15_10 : decode prog_10_method_15_code 10 = .ok (.invokevirtual 157, 3) := by decide +kernel
theorem w_655 : (Cond.methodLink "NumberHouse$Reader" (157 : Nat) ({ cls := "java/lang/String", name := "length", desc := "()I" } : MethodName)) ∈ q_tbl := q_of 655 (by decide +kernel) (by decide +kernel)
theorem LV_Rea_157 : q_LV "NumberHouse$Reader" 157 y_jStr_length prog_31_method_54_code 1 (some .int) 0 := ⟨w_658, w_25, w_655, w_656, w_657, ⟨by decide, by decide, by decide +kernel⟩⟩
theorem d_10_15_13 : decode prog_10_method_15_code 13 = .ok (.if_icmp .eq 5, 3) := by decide +kernel
theorem d_10_15_16 : decode prog_10_method_15_code 16 = .ok (.iconst 0, 1) := by decide +kernel
theorem d_10_15_17 : decode prog_10_method_15_code 17 = .ok (.ireturn, 1) := by decide +kernel
def y_Rea_saysRest : MethodName := ⟨"NumberHouse$Reader", "saysRest", "(Ljava/lang/String;)Z"⟩
set_option maxRecDepth 100000 in
set_option maxHeartbeats 4000000 in
theorem c_Rea_saysRest (l : Launch) (D : va_G) (g : Nat → ClassId) (ws : va_W) (kO0 qO0 qO1 qO2 : Nat) (hO0 : ws[kO0]? = (some (qO0, .inr (8, [.long 0, .long 0, .ref qO1, .ref qO2, .int 0, .int 0, .int 0, .int 0, .int 0, .int 0, .int 0, .long 0])) : Option (Nat × va_E))) : q_mI l y_Rea_saysRest prog_10_method_15_code 3 (.boolean) 3 0 0 D g [.ref qO0, .ref (g (8 + 2 * 20))] ws (fun r u => 0 = r ∧ ws = u) := by
  intro sz
  refine q_into (by decide) (Nat.le_of_ble_eq_true rfl) ?_
  intro p e s m below meth c ls hsz C0 V hl
  have hx := C0.1
  have hb := C0.2.1
  have hl : lv_has ls 3 [(0, .ref qO0), (1, .ref (g (8 + 2 * 20)))] := hl
  refine lv_aload_n hx hb d_10_15_0 rfl (lv_at hl 0 rfl) ?_
  refine q_get (ci := 8) (j := 5) (v := .int 0) C0 V i_Rea rfl rfl hO0 (by decide) w_291 rfl d_10_15_1 ?_
  refine lv_aload_n hx hb d_10_15_4 rfl (lv_at hl 0 rfl) ?_
  refine q_get (ci := 8) (j := 4) (v := .int 0) C0 V i_Rea rfl rfl hO0 (by decide) w_290 rfl d_10_15_5 ?_
  refine lv_isub hx hb d_10_15_8 ?_
  refine q_ti (v := 0) (by decide) ?_
  refine lv_aload_n hx hb d_10_15_9 rfl (lv_at hl 1 rfl) ?_
  refine q_goi V (q_runVs (As := []) (rest := [.int 0]) (d := 2) (mc := 0) (ms := 0) (i := 20) C0 V rfl LV_Rea_157 (c_jStr_length_3 l D g ws _) rfl rfl rfl hl.1 rfl (Nat.le_of_ble_eq_true rfl) ⟨by decide, by decide⟩ ⟨Nat.le_of_ble_eq_true rfl, Nat.le_of_ble_eq_true rfl⟩ d_10_15_10) (fun v3 u2 H locs hp1 V => ?_)
  obtain ⟨rfl, rfl⟩ := hp1
  refine lv_icmp_eq (tgt := 18) hx hb d_10_15_13 (by decide) (fun c5 => absurd c5 (by decide)) (fun c5 => ?_)
  refine lv_iconst (v := 0) hx hb d_10_15_16 (by decide) ?_
  exact q_retz C0 V (rfl) (⟨rfl, rfl⟩) d_10_15_17
set_option maxRecDepth 100000 in
set_option maxHeartbeats 4000000 in
theorem c_jStr_coder_4 (l : Launch) (D : va_G) (g : Nat → ClassId) (ws : va_W) : q_mI l y_jStr_coder prog_31_method_152_code 1 (.byte) 1 0 0 D g [.ref (g (8 + 2 * 21))] ws (fun r u => 0 = r ∧ ws = u) := by
  intro sz
  refine q_into (by decide) (Nat.le_of_ble_eq_true rfl) ?_
  intro p e s m below meth c ls hsz C0 V hl
  have hx := C0.1
  have hb := C0.2.1
  have hl : lv_has ls 1 [(0, .ref (g (8 + 2 * 21)))] := hl
  refine q_scmp C0 V rfl w_663 d_31_152_0 ?_
  refine lv_if_eq (tgt := 13) hx hb d_31_152_3 (by decide) (fun c1 => absurd c1 (by decide)) (fun c1 => ?_)
  refine lv_aload_n hx hb d_31_152_6 rfl (lv_at hl 0 rfl) ?_
  refine q_scod (i := 21) C0 V rfl rfl w_1019 d_31_152_7 ?_
  refine lv_goto (tgt := 14) hx hb d_31_152_10 (by decide) ?_
  exact q_retn C0 V (rfl) (⟨rfl, rfl⟩) d_31_152_14
set_option maxRecDepth 100000 in
set_option maxHeartbeats 4000000 in
theorem c_jStr_length_4 (l : Launch) (D : va_G) (g : Nat → ClassId) (ws : va_W) : q_mI l y_jStr_length prog_31_method_54_code 1 (.int) 2 0 0 D g [.ref (g (8 + 2 * 21))] ws (fun r u => 8 = r ∧ ws = u) := by
  intro sz
  refine q_into (by decide) (Nat.le_of_ble_eq_true rfl) ?_
  intro p e s m below meth c ls hsz C0 V hl
  have hx := C0.1
  have hb := C0.2.1
  have hl : lv_has ls 1 [(0, .ref (g (8 + 2 * 21)))] := hl
  refine lv_aload_n hx hb d_31_54_0 rfl (lv_at hl 0 rfl) ?_
  refine q_sval (i := 21) C0 V rfl rfl w_1018 d_31_54_1 ?_
  refine q_slen (i := 21) (v := 8) C0 V rfl (by decide) d_31_54_4 ?_
  refine lv_aload_n hx hb d_31_54_5 rfl (lv_at hl 0 rfl) ?_
  refine q_goi V (q_runVs (As := []) (rest := [.int 8]) (d := 1) (mc := 0) (ms := 0) (i := 21) C0 V rfl LV_jStr_335 (c_jStr_coder_4 l D g ws _) rfl rfl rfl hl.1 rfl (Nat.le_of_ble_eq_true rfl) ⟨by decide, by decide⟩ ⟨Nat.le_of_ble_eq_true rfl, Nat.le_of_ble_eq_true rfl⟩ d_31_54_6) (fun v3 u2 H locs hp1 V => ?_)
  obtain ⟨rfl, rfl⟩ := hp1
  refine lv_ishr hx hb d_31_54_9 ?_
  refine q_ti (v := 8) (by decide) ?_
  exact q_reti C0 V (⟨rfl, rfl⟩) d_31_54_10
set_option maxRecDepth 100000 in
set_option maxHeartbeats 4000000 in
theorem c_Rea_saysRest_2 (l : Launch) (D : va_G) (g : Nat → ClassId) (ws : va_W) (kO0 qO0 qO1 qO2 : Nat) (hO0 : ws[kO0]? = (some (qO0, .inr (8, [.long 0, .long 0, .ref qO1, .ref qO2, .int 0, .int 0, .int 0, .int 0, .int 0, .int 0, .int 0, .long 0])) : Option (Nat × va_E))) : q_mI l y_Rea_saysRest prog_10_method_15_code 3 (.boolean) 3 0 0 D g [.ref qO0, .ref (g (8 + 2 * 21))] ws (fun r u => 0 = r ∧ ws = u) := by
  intro sz
  refine q_into (by decide) (Nat.le_of_ble_eq_true rfl) ?_
  intro p e s m below meth c ls hsz C0 V hl
  have hx := C0.1
  have hb := C0.2.1
  have hl : lv_has ls 3 [(0, .ref qO0), (1, .ref (g (8 + 2 * 21)))] := hl
  refine lv_aload_n hx hb d_10_15_0 rfl (lv_at hl 0 rfl) ?_
  refine q_get (ci := 8) (j := 5) (v := .int 0) C0 V i_Rea rfl rfl hO0 (by decide) w_291 rfl d_10_15_1 ?_
  refine lv_aload_n hx hb d_10_15_4 rfl (lv_at hl 0 rfl) ?_
  refine q_get (ci := 8) (j := 4) (v := .int 0) C0 V i_Rea rfl rfl hO0 (by decide) w_290 rfl d_10_15_5 ?_
  refine lv_isub hx hb d_10_15_8 ?_
  refine q_ti (v := 0) (by decide) ?_
  refine lv_aload_n hx hb d_10_15_9 rfl (lv_at hl 1 rfl) ?_
  refine q_goi V (q_runVs (As := []) (rest := [.int 0]) (d := 2) (mc := 0) (ms := 0) (i := 21) C0 V rfl LV_Rea_157 (c_jStr_length_4 l D g ws _) rfl rfl rfl hl.1 rfl (Nat.le_of_ble_eq_true rfl) ⟨by decide, by decide⟩ ⟨Nat.le_of_ble_eq_true rfl, Nat.le_of_ble_eq_true rfl⟩ d_10_15_10) (fun v3 u2 H locs hp1 V => ?_)
  obtain ⟨rfl, rfl⟩ := hp1
  refine lv_icmp_eq (tgt := 18) hx hb d_10_15_13 (by decide) (fun c5 => absurd c5 (by decide)) (fun c5 => ?_)
  refine lv_iconst (v := 0) hx hb d_10_15_16 (by decide) ?_
  exact q_retz C0 V (rfl) (⟨rfl, rfl⟩) d_10_15_17
theorem d_10_5_0 : decode prog_10_method_5_code 0 = .ok (.aload_n 0, 1) := by decide +kernel
theorem d_10_5_1 : decode prog_10_method_5_code 1 = .ok (.getfield 40, 3) := by decide +kernel
theorem d_10_5_4 : decode prog_10_method_5_code 4 = .ok (.aload_n 0, 1) := by decide +kernel
theorem d_10_5_5 : decode prog_10_method_5_code 5 = .ok (.getfield 36, 3) := by decide +kernel
theorem d_10_5_8 : decode prog_10_method_5_code 8 = .ok (.isub, 1) := by decide +kernel
theorem d_10_5_9 : decode prog_10_method_5_code 9 = .ok (.iconst 2, 1) := by decide +kernel
theorem d_10_5_10 : decode prog_10_method_5_code 10 = .ok (.if_icmp .lt 46, 3) := by decide +kernel
theorem d_10_5_56 : decode prog_10_method_5_code 56 = .ok (.iconst 0, 1) := by decide +kernel
theorem d_10_5_57 : decode prog_10_method_5_code 57 = .ok (.istore_n 1, 1) := by decide +kernel
theorem d_10_5_58 : decode prog_10_method_5_code 58 = .ok (.aload_n 0, 1) := by decide +kernel
theorem d_10_5_59 : decode prog_10_method_5_code 59 = .ok (.dup, 1) := by decide +kernel
theorem d_10_5_60 : decode prog_10_method_5_code 60 = .ok (.getfield 36, 3) := by decide +kernel
theorem d_10_5_63 : decode prog_10_method_5_code 63 = .ok (.iload_n 1, 1) := by decide +kernel
theorem d_10_5_64 : decode prog_10_method_5_code 64 = .ok (.ifCond .eq 7, 3) := by decide +kernel
theorem d_10_5_71 : decode prog_10_method_5_code 71 = .ok (.iconst 0, 1) := by decide +kernel
theorem d_10_5_72 : decode prog_10_method_5_code 72 = .ok (.iadd, 1) := by decide +kernel
theorem d_10_5_73 : decode prog_10_method_5_code 73 = .ok (.putfield 36, 3) := by decide +kernel
theorem d_10_5_76 : decode prog_10_method_5_code 76 = .ok (.iload_n 1, 1) := by decide +kernel
theorem d_10_5_77 : decode prog_10_method_5_code 77 = .ok (.ireturn, 1) := by decide +kernel
def y_Rea_takeHexadecimalMark : MethodName := ⟨"NumberHouse$Reader", "takeHexadecimalMark", "()Z"⟩
set_option maxRecDepth 100000 in
set_option maxHeartbeats 4000000 in
theorem c_Rea_takeHexadecimalMark (l : Launch) (D : va_G) (g : Nat → ClassId) (ws : va_W) (kO0 qO0 qO1 qO2 : Nat) (hO0 : ws[kO0]? = (some (qO0, .inr (8, [.long 0, .long 0, .ref qO1, .ref qO2, .int 0, .int 0, .int 0, .int 0, .int 0, .int 0, .int 0, .long 0])) : Option (Nat × va_E))) : q_mI l y_Rea_takeHexadecimalMark prog_10_method_5_code 2 (.boolean) 1 0 0 D g [.ref qO0] ws (fun r u => 0 = r ∧ q_un ws u [kO0] ∧ u[kO0]? = (some (qO0, .inr (8, [.long 0, .long 0, .ref qO1, .ref qO2, .int 0, .int 0, .int 0, .int 0, .int 0, .int 0, .int 0, .long 0])) : Option (Nat × va_E))) := by
  intro sz
  refine q_into (by decide) (Nat.le_of_ble_eq_true rfl) ?_
  intro p e s m below meth c ls hsz C0 V hl
  have hx := C0.1
  have hb := C0.2.1
  have hl : lv_has ls 2 [(0, .ref qO0)] := hl
  have hF : q_un ws ws [kO0] := q_u0
  refine lv_aload_n hx hb d_10_5_0 rfl (lv_at hl 0 rfl) ?_
  refine q_get (ci := 8) (j := 5) (v := .int 0) C0 V i_Rea rfl rfl hO0 (by decide) w_291 rfl d_10_5_1 ?_
  refine lv_aload_n hx hb d_10_5_4 rfl (lv_at hl 0 rfl) ?_
  refine q_get (ci := 8) (j := 4) (v := .int 0) C0 V i_Rea rfl rfl hO0 (by decide) w_290 rfl d_10_5_5 ?_
  refine lv_isub hx hb d_10_5_8 ?_
  refine q_ti (v := 0) (by decide) ?_
  refine lv_iconst (v := 2) hx hb d_10_5_9 (by decide) ?_
  refine lv_icmp_lt (tgt := 56) hx hb d_10_5_10 (by decide) (fun c1 => ?_) (fun c1 => absurd (by decide) c1)
  refine lv_iconst (v := 0) hx hb d_10_5_56 (by decide) ?_
  refine lv_istore_n (lv' := [(1, .int 0), (0, .ref qO0)]) hx hb d_10_5_57 rfl hl (by decide) rfl (fun ls hl => ?_)
  refine lv_aload_n hx hb d_10_5_58 rfl (lv_at hl 1 rfl) ?_
  refine lv_dup hx hb d_10_5_59 rfl ?_
  refine q_get (ci := 8) (j := 4) (v := .int 0) C0 V i_Rea rfl rfl hO0 (by decide) w_290 rfl d_10_5_60 ?_
  refine lv_iload_n hx hb d_10_5_63 rfl (lv_at hl 0 rfl) ?_
  refine lv_if_eq (tgt := 71) hx hb d_10_5_64 (by decide) (fun c2 => ?_) (fun c2 => absurd (by decide) c2)
  refine lv_iconst (v := 0) hx hb d_10_5_71 (by decide) ?_
  refine lv_iadd hx hb d_10_5_72 ?_
  refine q_ti (v := 0) (by decide) ?_
  refine q_put (ci := 8) (j := 4) (v := .int 0) (ty := .int) C0 V i_Rea o_Rea n_Rea rfl rfl hO0 (by decide) w_290 rfl rfl rfl rfl (Nat.le_of_ble_eq_true rfl) d_10_5_73 (fun H locs w3 hu4 hO0 V => ?_)
  replace hO0 : w3[kO0]? = (some (qO0, .inr (8, [.long 0, .long 0, .ref qO1, .ref qO2, .int 0, .int 0, .int 0, .int 0, .int 0, .int 0, .int 0, .long 0])) : Option (Nat × va_E)) := hO0
  replace hF := q_us hF hu4 (.head _)
  refine lv_iload_n hx hb d_10_5_76 rfl (lv_at hl 0 rfl) ?_
  exact q_retz C0 V (rfl) (⟨rfl, hF, hO0⟩) d_10_5_77
theorem d_10_12_0 : decode prog_10_method_12_code 0 = .ok (.iconst 0, 1) := by decide +kernel
theorem d_10_12_1 : decode prog_10_method_12_code 1 = .ok (.istore_n 3, 1) := by decide +kernel
theorem d_10_12_2 : decode prog_10_method_12_code 2 = .ok (.iconst 0, 1) := by decide +kernel
theorem d_10_12_3 : decode prog_10_method_12_code 3 = .ok (.istore 4, 2) := by decide +kernel
theorem d_10_12_5 : decode prog_10_method_12_code 5 = .ok (.aload_n 0, 1) := by decide +kernel
theorem d_10_12_6 : decode prog_10_method_12_code 6 = .ok (.iconst 0, 1) := by decide +kernel
theorem d_10_12_7 : decode prog_10_method_12_code 7 = .ok (.putfield 77, 3) := by decide +kernel
theorem w_293 : (Cond.fieldLink "NumberHouse$Reader" (77 : Nat) "NumberHouse$Reader" "behindPoint" "I") ∈ q_tbl := q_of 293 (by decide +kernel) (by decide +kernel)
theorem d_10_12_10 : decode prog_10_method_12_code 10 = .ok (.aload_n 0, 1) := by decide +kernel
theorem d_10_12_11 : decode prog_10_method_12_code 11 = .ok (.iconst 0, 1) := by decide +kernel
theorem d_10_12_12 : decode prog_10_method_12_code 12 = .ok (.putfield 146, 3) := by decide +kernel
theorem w_294 : (Cond.fieldLink "NumberHouse$Reader" (146 : Nat) "NumberHouse$Reader" "kept" "I") ∈ q_tbl := q_of 294 (by decide +kernel) (by decide +kernel)
theorem d_10_12_15 : decode prog_10_method_12_code 15 = .ok (.aload_n 0, 1) := by decide +kernel
theorem d_10_12_16 : decode prog_10_method_12_code 16 = .ok (.iconst 0, 1) := by decide +kernel
theorem d_10_12_17 : decode prog_10_method_12_code 17 = .ok (.putfield 83, 3) := by decide +kernel
theorem w_295 : (Cond.fieldLink "NumberHouse$Reader" (83 : Nat) "NumberHouse$Reader" "dropped" "I") ∈ q_tbl := q_of 295 (by decide +kernel) (by decide +kernel)
theorem d_10_12_20 : decode prog_10_method_12_code 20 = .ok (.aload_n 0, 1) := by decide +kernel
theorem d_10_12_21 : decode prog_10_method_12_code 21 = .ok (.iconst 0, 1) := by decide +kernel
theorem d_10_12_22 : decode prog_10_method_12_code 22 = .ok (.putfield 128, 3) := by decide +kernel
theorem w_296 : (Cond.fieldLink "NumberHouse$Reader" (128 : Nat) "NumberHouse$Reader" "droppedSome" "Z") ∈ q_tbl := q_of 296 (by decide +kernel) (by decide +kernel)
theorem d_10_12_25 : decode prog_10_method_12_code 25 = .ok (.aload_n 0, 1) := by decide +kernel
theorem d_10_12_26 : decode prog_10_method_12_code 26 = .ok (.getfield 15, 3) := by decide +kernel
theorem d_10_12_29 : decode prog_10_method_12_code 29 = .ok (.getfield 25, 3) := by decide +kernel
theorem w_109 : (Cond.fieldLink "NumberHouse$Reader" (25 : Nat) "NumberHouse$Mill" "number" "LNumberHouse$Big;") ∈ q_tbl := q_of 109 (by decide +kernel) (by decide +kernel)
theorem d_10_12_32 : decode prog_10_method_12_code 32 = .ok (.invokevirtual 31, 3) := by decide +kernel
theorem w_598 : (Cond.methodLink "NumberHouse$Reader" (31 : Nat) ({ cls := "NumberHouse$Big", name := "clear", desc := "()V" } : MethodName)) ∈ q_tbl := q_of 598 (by decide +kernel) (by decide +kernel)
theorem LV_Rea_31 : q_LV "NumberHouse$Reader" 31 y_Big_clear prog_2_method_2_code 1 none 0 := ⟨w_197, w_4, w_598, w_195, w_196, ⟨by decide, by decide, by decide +kernel⟩⟩
theorem d_10_12_35 : decode prog_10_method_12_code 35 = .ok (.aload_n 0, 1) := by decide +kernel
theorem d_10_12_36 : decode prog_10_method_12_code 36 = .ok (.getfield 36, 3) := by decide +kernel
theorem d_10_12_39 : decode prog_10_method_12_code 39 = .ok (.aload_n 0, 1) := by decide +kernel
theorem d_10_12_40 : decode prog_10_method_12_code 40 = .ok (.getfield 40, 3) := by decide +kernel
theorem d_10_12_43 : decode prog_10_method_12_code 43 = .ok (.if_icmp .ge 75, 3) := by decide +kernel
theorem d_10_12_118 : decode prog_10_method_12_code 118 = .ok (.iload 4, 2) := by decide +kernel
theorem d_10_12_120 : decode prog_10_method_12_code 120 = .ok (.ifCond .le 7, 3) := by decide +kernel
theorem d_10_12_127 : decode prog_10_method_12_code 127 = .ok (.iconst 0, 1) := by decide +kernel
theorem d_10_12_128 : decode prog_10_method_12_code 128 = .ok (.ireturn, 1) := by decide +kernel
def y_Rea_takeFigures : MethodName := ⟨"NumberHouse$Reader", "takeFigures", "(II)Z"⟩
set_option maxRecDepth 100000 in
set_option maxHeartbeats 4000000 in
theorem c_Rea_takeFigures (l : Launch) (D : va_G) (g : Nat → ClassId) (ws : va_W) (kO0 kO2 kO4 qO0 qO1 qO2 qO4 qO5 qO6 qO7 qO8 qO9 qO10 qO11 qO12 qO13 qA14 : Nat) (hO0 : ws[kO0]? = (some (qO0, .inr (8, [.long 0, .long 0, .ref qO1, .ref qO2, .int 0, .int 0, .int 0, .int 0, .int 0, .int 0, .int 0, .long 0])) : Option (Nat × va_E))) (hO2 : ws[kO2]? = (some (qO2, .inr (4, [.ref qO4, .ref qO5, .ref qO6, .ref qO7, .ref qO8, .ref qO9, .ref qO10, .ref qO11, .ref qO12, .ref qO13])) : Option (Nat × va_E))) (hO4 : ws[kO4]? = (some (qO4, .inr (2, [.ref qA14, .int 0, .int 0])) : Option (Nat × va_E))) : q_mI l y_Rea_takeFigures prog_10_method_12_code 6 (.boolean) 2 0 0 D g [.ref qO0, .int 10, .int 800] ws (fun r u => 0 = r ∧ q_un ws u [kO0, kO4] ∧ u[kO0]? = (some (qO0, .inr (8, [.long 0, .long 0, .ref qO1, .ref qO2, .int 0, .int 0, .int 0, .int 0, .int 0, .int 0, .int 0, .long 0])) : Option (Nat × va_E)) ∧ u[kO4]? = (some (qO4, .inr (2, [.ref qA14, .int 0, .int 0])) : Option (Nat × va_E))) := by
  intro sz
  refine q_into (by decide) (Nat.le_of_ble_eq_true rfl) ?_
  intro p e s m below meth c ls hsz C0 V hl
  have hx := C0.1
  have hb := C0.2.1
  have hl : lv_has ls 6 [(0, .ref qO0), (1, .int 10), (2, .int 800)] := hl
  have n_O0_O4 := q_dc hO0 hO4 (q_pd 8 2 rfl)
  have n_O2_O0 := q_dc hO2 hO0 (q_pd 4 8 rfl)
  have n_O2_O4 := q_dc hO2 hO4 (q_pd 4 2 rfl)
  have n_O4_O0 := q_dc hO4 hO0 (q_pd 2 8 rfl)
  have hF : q_un ws ws [kO0, kO4] := q_u0
  refine lv_iconst (v := 0) hx hb d_10_12_0 (by decide) ?_
  refine lv_istore_n (lv' := [(3, .int 0), (0, .ref qO0), (1, .int 10), (2, .int 800)]) hx hb d_10_12_1 rfl hl (by decide) rfl (fun ls hl => ?_)
  refine lv_iconst (v := 0) hx hb d_10_12_2 (by decide) ?_
  refine lv_istore (lv' := [(4, .int 0), (3, .int 0), (0, .ref qO0), (1, .int 10), (2, .int 800)]) hx hb d_10_12_3 hl (by decide) rfl (fun ls hl => ?_)
  refine lv_aload_n hx hb d_10_12_5 rfl (lv_at hl 2 rfl) ?_
  refine lv_iconst (v := 0) hx hb d_10_12_6 (by decide) ?_
  refine q_put (ci := 8) (j := 7) (v := .int 0) (ty := .int) C0 V i_Rea o_Rea n_Rea rfl rfl hO0 (by decide) w_293 rfl rfl rfl rfl (Nat.le_of_ble_eq_true rfl) d_10_12_7 (fun H locs w1 hu2 hO0 V => ?_)
  replace hO0 : w1[kO0]? = (some (qO0, .inr (8, [.long 0, .long 0, .ref qO1, .ref qO2, .int 0, .int 0, .int 0, .int 0, .int 0, .int 0, .int 0, .long 0])) : Option (Nat × va_E)) := hO0
  replace hF := q_us hF hu2 (.head _)
  refine lv_aload_n hx hb d_10_12_10 rfl (lv_at hl 2 rfl) ?_
  refine lv_iconst (v := 0) hx hb d_10_12_11 (by decide) ?_
  refine q_put (ci := 8) (j := 8) (v := .int 0) (ty := .int) C0 V i_Rea o_Rea n_Rea rfl rfl hO0 (by decide) w_294 rfl rfl rfl rfl (Nat.le_of_ble_eq_true rfl) d_10_12_12 (fun H locs w3 hu4 hO0 V => ?_)
  replace hO0 : w3[kO0]? = (some (qO0, .inr (8, [.long 0, .long 0, .ref qO1, .ref qO2, .int 0, .int 0, .int 0, .int 0, .int 0, .int 0, .int 0, .long 0])) : Option (Nat × va_E)) := hO0
  replace hF := q_us hF hu4 (.head _)
  refine lv_aload_n hx hb d_10_12_15 rfl (lv_at hl 2 rfl) ?_
  refine lv_iconst (v := 0) hx hb d_10_12_16 (by decide) ?_
  refine q_put (ci := 8) (j := 9) (v := .int 0) (ty := .int) C0 V i_Rea o_Rea n_Rea rfl rfl hO0 (by decide) w_295 rfl rfl rfl rfl (Nat.le_of_ble_eq_true rfl) d_10_12_17 (fun H locs w5 hu6 hO0 V => ?_)
  replace hO0 : w5[kO0]? = (some (qO0, .inr (8, [.long 0, .long 0, .ref qO1, .ref qO2, .int 0, .int 0, .int 0, .int 0, .int 0, .int 0, .int 0, .long 0])) : Option (Nat × va_E)) := hO0
  replace hF := q_us hF hu6 (.head _)
  refine lv_aload_n hx hb d_10_12_20 rfl (lv_at hl 2 rfl) ?_
  refine lv_iconst (v := 0) hx hb d_10_12_21 (by decide) ?_
  refine q_put (ci := 8) (j := 10) (v := .int 0) (ty := .boolean) C0 V i_Rea o_Rea n_Rea rfl rfl hO0 (by decide) w_296 rfl rfl rfl rfl (Nat.le_of_ble_eq_true rfl) d_10_12_22 (fun H locs w7 hu8 hO0 V => ?_)
  replace hO0 : w7[kO0]? = (some (qO0, .inr (8, [.long 0, .long 0, .ref qO1, .ref qO2, .int 0, .int 0, .int 0, .int 0, .int 0, .int 0, .int 0, .long 0])) : Option (Nat × va_E)) := hO0
  replace hF := q_us hF hu8 (.head _)
  refine lv_aload_n hx hb d_10_12_25 rfl (lv_at hl 2 rfl) ?_
  refine q_get (ci := 8) (j := 3) (v := .ref qO2) C0 V i_Rea rfl rfl hO0 (by decide) w_289 rfl d_10_12_26 ?_
  replace hO2 := (hu8 _ n_O2_O0).trans ((hu6 _ n_O2_O0).trans ((hu4 _ n_O2_O0).trans ((hu2 _ n_O2_O0).trans (hO2))))
  refine q_get (ci := 4) (j := 0) (v := .ref qO4) C0 V i_Mil rfl rfl hO2 (by decide) w_109 rfl d_10_12_29 ?_
  replace hO4 := (hu8 _ n_O4_O0).trans ((hu6 _ n_O4_O0).trans ((hu4 _ n_O4_O0).trans ((hu2 _ n_O4_O0).trans (hO4))))
  refine q_gov V (q_runV (As := []) (rest := []) (d := 1) (mc := 0) (ms := 0) (ci := 2) C0 V rfl LV_Rea_31 (c_Big_clear l D g w7 kO4 qO4 qA14 0 0 hO4 _) rfl rfl hO4 rfl hl.1 rfl (Nat.le_of_ble_eq_true rfl) ⟨by decide, by decide⟩ ⟨Nat.le_of_ble_eq_true rfl, Nat.le_of_ble_eq_true rfl⟩ d_10_12_32) (fun u10 H locs hp9 V => ?_)
  obtain ⟨hg11, hO4⟩ := hp9
  replace hF := q_uc hF hg11 (q_sc (.tail _ (.head _)) (fun _ h => absurd h List.not_mem_nil))
  refine lv_aload_n hx hb d_10_12_35 rfl (lv_at hl 2 rfl) ?_
  replace hO0 := (hg11 _ (q_nc n_O0_O4 List.not_mem_nil)).trans (hO0)
  refine q_get (ci := 8) (j := 4) (v := .int 0) C0 V i_Rea rfl rfl hO0 (by decide) w_290 rfl d_10_12_36 ?_
  refine lv_aload_n hx hb d_10_12_39 rfl (lv_at hl 2 rfl) ?_
  refine q_get (ci := 8) (j := 5) (v := .int 0) C0 V i_Rea rfl rfl hO0 (by decide) w_291 rfl d_10_12_40 ?_
  refine lv_icmp_ge (tgt := 118) hx hb d_10_12_43 (by decide) (fun c12 => ?_) (fun c12 => absurd (by decide) c12)
  refine lv_iload hx hb d_10_12_118 (lv_at hl 0 rfl) ?_
  refine lv_if_le (tgt := 127) hx hb d_10_12_120 (by decide) (fun c13 => ?_) (fun c13 => absurd (by decide) c13)
  refine lv_iconst (v := 0) hx hb d_10_12_127 (by decide) ?_
  exact q_retz C0 V (rfl) (⟨rfl, hF, hO0, hO4⟩) d_10_12_128
theorem d_10_7_0 : decode prog_10_method_7_code 0 = .ok (.aload_n 0, 1) := by decide +kernel
theorem d_10_7_1 : decode prog_10_method_7_code 1 = .ok (.bipush 10, 2) := by decide +kernel
theorem d_10_7_3 : decode prog_10_method_7_code 3 = .ok (.sipush 800, 3) := by decide +kernel
theorem d_10_7_6 : decode prog_10_method_7_code 6 = .ok (.invokevirtual 62, 3) := by decide +kernel
theorem w_627 : (Cond.code ({ cls := "NumberHouse$Reader", name := "takeFigures", desc := "(II)Z" } : MethodName) prog_10_method_12_code (6 : Nat) (some .boolean)) ∈ q_tbl := q_of 627 (by decide +kernel) (by decide +kernel)
theorem w_624 : (Cond.methodLink "NumberHouse$Reader" (62 : Nat) ({ cls := "NumberHouse$Reader", name := "takeFigures", desc := "(II)Z" } : MethodName)) ∈ q_tbl := q_of 624 (by decide +kernel) (by decide +kernel)
theorem w_626 : (Cond.instanceMethod ({ cls := "NumberHouse$Reader", name := "takeFigures", desc := "(II)Z" } : MethodName)) ∈ q_tbl := q_of 626 (by decide +kernel) (by decide +kernel)
theorem ws_5 : Cond.selects "NumberHouse$Reader" (⟨"NumberHouse$Reader", "takeFigures", "(II)Z"⟩ : MethodName) (⟨"NumberHouse$Reader", "takeFigures", "(II)Z"⟩ : MethodName) ∈ q_tbl := q_ofs 5 (by decide +kernel) (by decide +kernel)
theorem LV_Rea_62 : q_LV "NumberHouse$Reader" 62 y_Rea_takeFigures prog_10_method_12_code 6 (some .boolean) 2 := ⟨w_627, w_10, w_624, w_626, ws_5, ⟨by decide, by decide, by decide +kernel⟩⟩
theorem d_10_7_9 : decode prog_10_method_7_code 9 = .ok (.ifCond .ne 5, 3) := by decide +kernel
theorem d_10_7_12 : decode prog_10_method_7_code 12 = .ok (.iconst 0, 1) := by decide +kernel
theorem d_10_7_13 : decode prog_10_method_7_code 13 = .ok (.ireturn, 1) := by decide +kernel
def y_Rea_takeDecimal : MethodName := ⟨"NumberHouse$Reader", "takeDecimal", "()Z"⟩
set_option maxRecDepth 100000 in
set_option maxHeartbeats 4000000 in
theorem c_Rea_takeDecimal (l : Launch) (D : va_G) (g : Nat → ClassId) (ws : va_W) (kO0 kO2 kO4 qO0 qO1 qO2 qO4 qO5 qO6 qO7 qO8 qO9 qO10 qO11 qO12 qO13 qA14 : Nat) (hO0 : ws[kO0]? = (some (qO0, .inr (8, [.long 0, .long 0, .ref qO1, .ref qO2, .int 0, .int 0, .int 0, .int 0, .int 0, .int 0, .int 0, .long 0])) : Option (Nat × va_E))) (hO2 : ws[kO2]? = (some (qO2, .inr (4, [.ref qO4, .ref qO5, .ref qO6, .ref qO7, .ref qO8, .ref qO9, .ref qO10, .ref qO11, .ref qO12, .ref qO13])) : Option (Nat × va_E))) (hO4 : ws[kO4]? = (some (qO4, .inr (2, [.ref qA14, .int 0, .int 0])) : Option (Nat × va_E))) : q_mI l y_Rea_takeDecimal prog_10_method_7_code 1 (.boolean) 3 0 0 D g [.ref qO0] ws (fun r u => 0 = r ∧ q_un ws u [kO0, kO4] ∧ u[kO0]? = (some (qO0, .inr (8, [.long 0, .long 0, .ref qO1, .ref qO2, .int 0, .int 0, .int 0, .int 0, .int 0, .int 0, .int 0, .long 0])) : Option (Nat × va_E)) ∧ u[kO4]? = (some (qO4, .inr (2, [.ref qA14, .int 0, .int 0])) : Option (Nat × va_E))) := by
  intro sz
  refine q_into (by decide) (Nat.le_of_ble_eq_true rfl) ?_
  intro p e s m below meth c ls hsz C0 V hl
  have hx := C0.1
  have hb := C0.2.1
  have hl : lv_has ls 1 [(0, .ref qO0)] := hl
  have n_O2_O0 := q_dc hO2 hO0 (q_pd 4 8 rfl)
  have n_O2_O4 := q_dc hO2 hO4 (q_pd 4 2 rfl)
  have hF : q_un ws ws [kO0, kO4] := q_u0
  refine lv_aload_n hx hb d_10_7_0 rfl (lv_at hl 0 rfl) ?_
  refine lv_bipush (v := 10) hx hb d_10_7_1 (by decide) ?_
  refine lv_sipush (v := 800) hx hb d_10_7_3 (by decide) ?_
  refine q_goi V (q_runV (As := [.int 10, .int 800]) (rest := []) (d := 2) (mc := 0) (ms := 0) (ci := 8) C0 V rfl LV_Rea_62 (c_Rea_takeFigures l D g ws kO0 kO2 kO4 qO0 qO1 qO2 qO4 qO5 qO6 qO7 qO8 qO9 qO10 qO11 qO12 qO13 qA14 hO0 hO2 hO4 _) rfl rfl hO0 rfl hl.1 rfl (Nat.le_of_ble_eq_true rfl) ⟨by decide, by decide⟩ ⟨Nat.le_of_ble_eq_true rfl, Nat.le_of_ble_eq_true rfl⟩ d_10_7_6) (fun v3 u2 H locs hp1 V => ?_)
  obtain ⟨rfl, hg4, hO0, hO4⟩ := hp1
  replace hF := q_uc hF hg4 (q_sc (.head _) (q_sc (.tail _ (.head _)) (fun _ h => absurd h List.not_mem_nil)))
  refine lv_if_ne (tgt := 14) hx hb d_10_7_9 (by decide) (fun c5 => absurd (by decide) c5) (fun c5 => ?_)
  refine lv_iconst (v := 0) hx hb d_10_7_12 (by decide) ?_
  exact q_retz C0 V (rfl) (⟨rfl, hF, hO0, hO4⟩) d_10_7_13
theorem d_10_4_0 : decode prog_10_method_4_code 0 = .ok (.aload_n 0, 1) := by decide +kernel
theorem d_10_4_1 : decode prog_10_method_4_code 1 = .ok (.invokevirtual 19, 3) := by decide +kernel
theorem w_588 : (Cond.code ({ cls := "NumberHouse$Reader", name := "begin", desc := "()V" } : MethodName) prog_10_method_9_code (1 : Nat) (none : Option ClassFile.FieldType)) ∈ q_tbl := q_of 588 (by decide +kernel) (by decide +kernel)
theorem w_585 : (Cond.methodLink "NumberHouse$Reader" (19 : Nat) ({ cls := "NumberHouse$Reader", name := "begin", desc := "()V" } : MethodName)) ∈ q_tbl := q_of 585 (by decide +kernel) (by decide +kernel)
theorem w_587 : (Cond.instanceMethod ({ cls := "NumberHouse$Reader", name := "begin", desc := "()V" } : MethodName)) ∈ q_tbl := q_of 587 (by decide +kernel) (by decide +kernel)
theorem ws_1 : Cond.selects "NumberHouse$Reader" (⟨"NumberHouse$Reader", "begin", "()V"⟩ : MethodName) (⟨"NumberHouse$Reader", "begin", "()V"⟩ : MethodName) ∈ q_tbl := q_ofs 1 (by decide +kernel) (by decide +kernel)
theorem LV_Rea_19 : q_LV "NumberHouse$Reader" 19 y_Rea_begin prog_10_method_9_code 1 none 0 := ⟨w_588, w_10, w_585, w_587, ws_1, ⟨by decide, by decide, by decide +kernel⟩⟩
theorem d_10_4_4 : decode prog_10_method_4_code 4 = .ok (.aload_n 0, 1) := by decide +kernel
theorem d_10_4_5 : decode prog_10_method_4_code 5 = .ok (.invokevirtual 86, 3) := by decide +kernel
theorem w_649 : (Cond.code ({ cls := "NumberHouse$Reader", name := "trimBlanks", desc := "()V" } : MethodName) prog_10_method_10_code (1 : Nat) (none : Option ClassFile.FieldType)) ∈ q_tbl := q_of 649 (by decide +kernel) (by decide +kernel)
theorem w_646 : (Cond.methodLink "NumberHouse$Reader" (86 : Nat) ({ cls := "NumberHouse$Reader", name := "trimBlanks", desc := "()V" } : MethodName)) ∈ q_tbl := q_of 646 (by decide +kernel) (by decide +kernel)
theorem w_648 : (Cond.instanceMethod ({ cls := "NumberHouse$Reader", name := "trimBlanks", desc := "()V" } : MethodName)) ∈ q_tbl := q_of 648 (by decide +kernel) (by decide +kernel)
theorem ws_9 : Cond.selects "NumberHouse$Reader" (⟨"NumberHouse$Reader", "trimBlanks", "()V"⟩ : MethodName) (⟨"NumberHouse$Reader", "trimBlanks", "()V"⟩ : MethodName) ∈ q_tbl := q_ofs 9 (by decide +kernel) (by decide +kernel)
theorem LV_Rea_86 : q_LV "NumberHouse$Reader" 86 y_Rea_trimBlanks prog_10_method_10_code 1 none 0 := ⟨w_649, w_10, w_646, w_648, ws_9, ⟨by decide, by decide, by decide +kernel⟩⟩
theorem d_10_4_8 : decode prog_10_method_4_code 8 = .ok (.aload_n 0, 1) := by decide +kernel
theorem d_10_4_9 : decode prog_10_method_4_code 9 = .ok (.invokevirtual 22, 3) := by decide +kernel
theorem w_592 : (Cond.code ({ cls := "NumberHouse$Reader", name := "takeSign", desc := "()V" } : MethodName) prog_10_method_11_code (2 : Nat) (none : Option ClassFile.FieldType)) ∈ q_tbl := q_of 592 (by decide +kernel) (by decide +kernel)
theorem w_589 : (Cond.methodLink "NumberHouse$Reader" (22 : Nat) ({ cls := "NumberHouse$Reader", name := "takeSign", desc := "()V" } : MethodName)) ∈ q_tbl := q_of 589 (by decide +kernel) (by decide +kernel)
theorem w_591 : (Cond.instanceMethod ({ cls := "NumberHouse$Reader", name := "takeSign", desc := "()V" } : MethodName)) ∈ q_tbl := q_of 591 (by decide +kernel) (by decide +kernel)
theorem ws_2 : Cond.selects "NumberHouse$Reader" (⟨"NumberHouse$Reader", "takeSign", "()V"⟩ : MethodName) (⟨"NumberHouse$Reader", "takeSign", "()V"⟩ : MethodName) ∈ q_tbl := q_ofs 2 (by decide +kernel) (by decide +kernel)
theorem LV_Rea_22 : q_LV "NumberHouse$Reader" 22 y_Rea_takeSign prog_10_method_11_code 2 none 0 := ⟨w_592, w_10, w_589, w_591, ws_2, ⟨by decide, by decide, by decide +kernel⟩⟩
theorem d_10_4_12 : decode prog_10_method_4_code 12 = .ok (.aload_n 0, 1) := by decide +kernel
theorem d_10_4_13 : decode prog_10_method_4_code 13 = .ok (.ldc 89, 2) := by decide +kernel
theorem d_10_4_15 : decode prog_10_method_4_code 15 = .ok (.invokevirtual 91, 3) := by decide +kernel
theorem w_654 : (Cond.code ({ cls := "NumberHouse$Reader", name := "saysRest", desc := "(Ljava/lang/String;)Z" } : MethodName) prog_10_method_15_code (3 : Nat) (some .boolean)) ∈ q_tbl := q_of 654 (by decide +kernel) (by decide +kernel)
theorem w_651 : (Cond.methodLink "NumberHouse$Reader" (91 : Nat) ({ cls := "NumberHouse$Reader", name := "saysRest", desc := "(Ljava/lang/String;)Z" } : MethodName)) ∈ q_tbl := q_of 651 (by decide +kernel) (by decide +kernel)
theorem w_653 : (Cond.instanceMethod ({ cls := "NumberHouse$Reader", name := "saysRest", desc := "(Ljava/lang/String;)Z" } : MethodName)) ∈ q_tbl := q_of 653 (by decide +kernel) (by decide +kernel)
theorem ws_10 : Cond.selects "NumberHouse$Reader" (⟨"NumberHouse$Reader", "saysRest", "(Ljava/lang/String;)Z"⟩ : MethodName) (⟨"NumberHouse$Reader", "saysRest", "(Ljava/lang/String;)Z"⟩ : MethodName) ∈ q_tbl := q_ofs 10 (by decide +kernel) (by decide +kernel)
theorem LV_Rea_91 : q_LV "NumberHouse$Reader" 91 y_Rea_saysRest prog_10_method_15_code 3 (some .boolean) 1 := ⟨w_654, w_10, w_651, w_653, ws_10, ⟨by decide, by decide, by decide +kernel⟩⟩
theorem d_10_4_18 : decode prog_10_method_4_code 18 = .ok (.ifCond .eq 13, 3) := by decide +kernel
theorem d_10_4_31 : decode prog_10_method_4_code 31 = .ok (.aload_n 1, 1) := by decide +kernel
theorem d_10_4_32 : decode prog_10_method_4_code 32 = .ok (.aload_n 0, 1) := by decide +kernel
theorem d_10_4_33 : decode prog_10_method_4_code 33 = .ok (.getfield 54, 3) := by decide +kernel
theorem d_10_4_36 : decode prog_10_method_4_code 36 = .ok (.invokevirtual 104, 3) := by decide +kernel
theorem w_711 : (Cond.methodLink "NumberHouse$Reader" (104 : Nat) ({ cls := "NumberHouse$Floats", name := "signBit", desc := "(Z)J" } : MethodName)) ∈ q_tbl := q_of 711 (by decide +kernel) (by decide +kernel)
theorem LV_Rea_104 : q_LV "NumberHouse$Reader" 104 y_Flo_signBit prog_7_method_8_code 2 (some .long) 1 := ⟨w_714, w_8, w_711, w_712, w_713, ⟨by decide, by decide, by decide +kernel⟩⟩
theorem d_10_4_39 : decode prog_10_method_4_code 39 = .ok (.lstore_n 2, 1) := by decide +kernel
theorem d_10_4_40 : decode prog_10_method_4_code 40 = .ok (.aload_n 0, 1) := by decide +kernel
theorem d_10_4_41 : decode prog_10_method_4_code 41 = .ok (.ldc 108, 2) := by decide +kernel
theorem d_10_4_43 : decode prog_10_method_4_code 43 = .ok (.invokevirtual 91, 3) := by decide +kernel
theorem d_10_4_46 : decode prog_10_method_4_code 46 = .ok (.ifCond .eq 15, 3) := by decide +kernel
theorem d_10_4_61 : decode prog_10_method_4_code 61 = .ok (.aload_n 0, 1) := by decide +kernel
theorem d_10_4_62 : decode prog_10_method_4_code 62 = .ok (.invokevirtual 113, 3) := by decide +kernel
theorem w_720 : (Cond.code ({ cls := "NumberHouse$Reader", name := "takeHexadecimalMark", desc := "()Z" } : MethodName) prog_10_method_5_code (2 : Nat) (some .boolean)) ∈ q_tbl := q_of 720 (by decide +kernel) (by decide +kernel)
theorem w_717 : (Cond.methodLink "NumberHouse$Reader" (113 : Nat) ({ cls := "NumberHouse$Reader", name := "takeHexadecimalMark", desc := "()Z" } : MethodName)) ∈ q_tbl := q_of 717 (by decide +kernel) (by decide +kernel)
theorem w_719 : (Cond.instanceMethod ({ cls := "NumberHouse$Reader", name := "takeHexadecimalMark", desc := "()Z" } : MethodName)) ∈ q_tbl := q_of 719 (by decide +kernel) (by decide +kernel)
theorem ws_11 : Cond.selects "NumberHouse$Reader" (⟨"NumberHouse$Reader", "takeHexadecimalMark", "()Z"⟩ : MethodName) (⟨"NumberHouse$Reader", "takeHexadecimalMark", "()Z"⟩ : MethodName) ∈ q_tbl := q_ofs 11 (by decide +kernel) (by decide +kernel)
theorem LV_Rea_113 : q_LV "NumberHouse$Reader" 113 y_Rea_takeHexadecimalMark prog_10_method_5_code 2 (some .boolean) 0 := ⟨w_720, w_10, w_717, w_719, ws_11, ⟨by decide, by decide, by decide +kernel⟩⟩
theorem d_10_4_65 : decode prog_10_method_4_code 65 = .ok (.istore 4, 2) := by decide +kernel
theorem d_10_4_67 : decode prog_10_method_4_code 67 = .ok (.iload 4, 2) := by decide +kernel
theorem d_10_4_69 : decode prog_10_method_4_code 69 = .ok (.ifCond .eq 13, 3) := by decide +kernel
theorem d_10_4_82 : decode prog_10_method_4_code 82 = .ok (.aload_n 0, 1) := by decide +kernel
theorem d_10_4_83 : decode prog_10_method_4_code 83 = .ok (.invokevirtual 120, 3) := by decide +kernel
theorem w_728 : (Cond.code ({ cls := "NumberHouse$Reader", name := "takeDecimal", desc := "()Z" } : MethodName) prog_10_method_7_code (1 : Nat) (some .boolean)) ∈ q_tbl := q_of 728 (by decide +kernel) (by decide +kernel)
theorem w_725 : (Cond.methodLink "NumberHouse$Reader" (120 : Nat) ({ cls := "NumberHouse$Reader", name := "takeDecimal", desc := "()Z" } : MethodName)) ∈ q_tbl := q_of 725 (by decide +kernel) (by decide +kernel)
theorem w_727 : (Cond.instanceMethod ({ cls := "NumberHouse$Reader", name := "takeDecimal", desc := "()Z" } : MethodName)) ∈ q_tbl := q_of 727 (by decide +kernel) (by decide +kernel)
theorem ws_13 : Cond.selects "NumberHouse$Reader" (⟨"NumberHouse$Reader", "takeDecimal", "()Z"⟩ : MethodName) (⟨"NumberHouse$Reader", "takeDecimal", "()Z"⟩ : MethodName) ∈ q_tbl := q_ofs 13 (by decide +kernel) (by decide +kernel)
theorem LV_Rea_120 : q_LV "NumberHouse$Reader" 120 y_Rea_takeDecimal prog_10_method_7_code 1 (some .boolean) 0 := ⟨w_728, w_10, w_725, w_727, ws_13, ⟨by decide, by decide, by decide +kernel⟩⟩
theorem d_10_4_86 : decode prog_10_method_4_code 86 = .ok (.ifCond .eq 10, 3) := by decide +kernel
theorem d_10_4_96 : decode prog_10_method_4_code 96 = .ok (.iconst 0, 1) := by decide +kernel
theorem d_10_4_97 : decode prog_10_method_4_code 97 = .ok (.ireturn, 1) := by decide +kernel
def y_Rea_floatText : MethodName := ⟨"NumberHouse$Reader", "floatText", "(LNumberHouse$Floats;)I"⟩
set_option maxRecDepth 100000 in
set_option maxHeartbeats 4000000 in
theorem c_Rea_floatText (l : Launch) (D : va_G) (g : Nat → ClassId) (ws : va_W) (kO0 kO1 kO2 kO3 kO5 qO0 qO1 qO2 qO3 qA4 qO5 qO6 qO7 qO8 qO9 qO10 qO11 qO12 qO13 qO14 qA15 : Nat) (hO0 : ws[kO0]? = (some (qO0, .inr (8, [.long 0, .long 0, .ref qO2, .ref qO3, .int 0, .int 0, .int 0, .int 0, .int 0, .int 0, .int 0, .long 0])) : Option (Nat × va_E))) (hO1 : ws[kO1]? = (some (qO1, .inr (6, [.int 23, .int 150, .int 255, .long 0, .int 0, .ref qO3, .int 0])) : Option (Nat × va_E))) (hO2 : ws[kO2]? = (some (qO2, .inr (1, [.ref qA4, .int 4100, .int 0])) : Option (Nat × va_E))) (hO3 : ws[kO3]? = (some (qO3, .inr (4, [.ref qO5, .ref qO6, .ref qO7, .ref qO8, .ref qO9, .ref qO10, .ref qO11, .ref qO12, .ref qO13, .ref qO14])) : Option (Nat × va_E))) (hO5 : ws[kO5]? = (some (qO5, .inr (2, [.ref qA15, .int 0, .int 0])) : Option (Nat × va_E))) : q_mI l y_Rea_floatText prog_10_method_4_code 5 (.int) 4 0 0 D g [.ref qO0, .ref qO1] ws (fun r u => 0 = r ∧ q_un ws u [kO0, kO5] ∧ u[kO0]? = (some (qO0, .inr (8, [.long 0, .long 0, .ref qO2, .ref qO3, .int 0, .int 0, .int 0, .int 0, .int 0, .int 0, .int 0, .long 0])) : Option (Nat × va_E)) ∧ u[kO5]? = (some (qO5, .inr (2, [.ref qA15, .int 0, .int 0])) : Option (Nat × va_E))) := by
  intro sz
  refine q_into (by decide) (Nat.le_of_ble_eq_true rfl) ?_
  intro p e s m below meth c ls hsz C0 V hl
  have hx := C0.1
  have hb := C0.2.1
  have hl : lv_has ls 5 [(0, .ref qO0), (1, .ref qO1)] := hl
  have n_O1_O0 := q_dc hO1 hO0 (q_pd 6 8 rfl)
  have n_O1_O5 := q_dc hO1 hO5 (q_pd 6 2 rfl)
  have n_O2_O0 := q_dc hO2 hO0 (q_pd 1 8 rfl)
  have n_O2_O5 := q_dc hO2 hO5 (q_pd 1 2 rfl)
  have n_O3_O0 := q_dc hO3 hO0 (q_pd 4 8 rfl)
  have n_O3_O5 := q_dc hO3 hO5 (q_pd 4 2 rfl)
  have n_O5_O0 := q_dc hO5 hO0 (q_pd 2 8 rfl)
  have hF : q_un ws ws [kO0, kO5] := q_u0
  refine lv_aload_n hx hb d_10_4_0 rfl (lv_at hl 0 rfl) ?_
  refine q_gov V (q_runV (As := []) (rest := []) (d := 1) (mc := 0) (ms := 0) (ci := 8) C0 V rfl LV_Rea_19 (c_Rea_begin l D g ws kO0 kO2 qO0 qO2 qO3 qA4 hO0 hO2 _) rfl rfl hO0 rfl hl.1 rfl (Nat.le_of_ble_eq_true rfl) ⟨by decide, by decide⟩ ⟨Nat.le_of_ble_eq_true rfl, Nat.le_of_ble_eq_true rfl⟩ d_10_4_1) (fun u2 H locs hp1 V => ?_)
  obtain ⟨hg3, hO0⟩ := hp1
  replace hF := q_uc hF hg3 (q_sc (.head _) (fun _ h => absurd h List.not_mem_nil))
  refine lv_aload_n hx hb d_10_4_4 rfl (lv_at hl 0 rfl) ?_
  refine q_gov V (q_runV (As := []) (rest := []) (d := 1) (mc := 0) (ms := 0) (ci := 8) C0 V rfl LV_Rea_86 (c_Rea_trimBlanks l D g u2 kO0 qO0 qO2 qO3 hO0 _) rfl rfl hO0 rfl hl.1 rfl (Nat.le_of_ble_eq_true rfl) ⟨by decide, by decide⟩ ⟨Nat.le_of_ble_eq_true rfl, Nat.le_of_ble_eq_true rfl⟩ d_10_4_5) (fun u5 H locs hp4 V => ?_)
  obtain rfl := hp4
  refine lv_aload_n hx hb d_10_4_8 rfl (lv_at hl 0 rfl) ?_
  refine q_gov V (q_runV (As := []) (rest := []) (d := 2) (mc := 0) (ms := 0) (ci := 8) C0 V rfl LV_Rea_22 (c_Rea_takeSign l D g u2 kO0 qO0 qO2 qO3 hO0 _) rfl rfl hO0 rfl hl.1 rfl (Nat.le_of_ble_eq_true rfl) ⟨by decide, by decide⟩ ⟨Nat.le_of_ble_eq_true rfl, Nat.le_of_ble_eq_true rfl⟩ d_10_4_9) (fun u8 H locs hp7 V => ?_)
  obtain ⟨hg9, hO0⟩ := hp7
  replace hF := q_uc hF hg9 (q_sc (.head _) (fun _ h => absurd h List.not_mem_nil))
  refine lv_aload_n hx hb d_10_4_12 rfl (lv_at hl 0 rfl) ?_
  refine q_ldcs (i := 20) C0 V rfl rfl d_10_4_13 ?_
  refine q_goi V (q_runV (As := [.ref (g (8 + 2 * 20))]) (rest := []) (d := 3) (mc := 0) (ms := 0) (ci := 8) C0 V rfl LV_Rea_91 (c_Rea_saysRest l D g u8 kO0 qO0 qO2 qO3 hO0 _) rfl rfl hO0 rfl hl.1 rfl (Nat.le_of_ble_eq_true rfl) ⟨by decide, by decide⟩ ⟨Nat.le_of_ble_eq_true rfl, Nat.le_of_ble_eq_true rfl⟩ d_10_4_15) (fun v12 u11 H locs hp10 V => ?_)
  obtain ⟨rfl, rfl⟩ := hp10
  refine lv_if_eq (tgt := 31) hx hb d_10_4_18 (by decide) (fun c14 => ?_) (fun c14 => absurd (by decide) c14)
  refine lv_aload_n hx hb d_10_4_31 rfl (lv_at hl 1 rfl) ?_
  refine lv_aload_n hx hb d_10_4_32 rfl (lv_at hl 0 rfl) ?_
  refine q_get (ci := 8) (j := 6) (v := .int 0) C0 V i_Rea rfl rfl hO0 (by decide) w_292 rfl d_10_4_33 ?_
  replace hO1 := (hg9 _ (q_nc n_O1_O0 List.not_mem_nil)).trans ((hg3 _ (q_nc n_O1_O0 List.not_mem_nil)).trans (hO1))
  refine q_gol V (q_runV (As := [.int 0]) (rest := []) (d := 1) (mc := 0) (ms := 0) (ci := 6) C0 V rfl LV_Rea_104 (c_Flo_signBit_3 l D g u8 qO1 _) rfl rfl hO1 rfl hl.1 rfl (Nat.le_of_ble_eq_true rfl) ⟨by decide, by decide⟩ ⟨Nat.le_of_ble_eq_true rfl, Nat.le_of_ble_eq_true rfl⟩ d_10_4_36) (fun v17 u16 H locs hp15 V => ?_)
  obtain ⟨rfl, rfl⟩ := hp15
  refine lv_lstore_n (lv' := [(2, .long 0), (0, .ref qO0), (1, .ref qO1)]) hx hb d_10_4_39 rfl hl (by decide) rfl (fun ls hl => ?_)
  refine lv_aload_n hx hb d_10_4_40 rfl (lv_at hl 1 rfl) ?_
  refine q_ldcs (i := 21) C0 V rfl rfl d_10_4_41 ?_
  refine q_goi V (q_runV (As := [.ref (g (8 + 2 * 21))]) (rest := []) (d := 3) (mc := 0) (ms := 0) (ci := 8) C0 V rfl LV_Rea_91 (c_Rea_saysRest_2 l D g u8 kO0 qO0 qO2 qO3 hO0 _) rfl rfl hO0 rfl hl.1 rfl (Nat.le_of_ble_eq_true rfl) ⟨by decide, by decide⟩ ⟨Nat.le_of_ble_eq_true rfl, Nat.le_of_ble_eq_true rfl⟩ d_10_4_43) (fun v21 u20 H locs hp19 V => ?_)
  obtain ⟨rfl, rfl⟩ := hp19
  refine lv_if_eq (tgt := 61) hx hb d_10_4_46 (by decide) (fun c23 => ?_) (fun c23 => absurd (by decide) c23)
  refine lv_aload_n hx hb d_10_4_61 rfl (lv_at hl 1 rfl) ?_
  refine q_goi V (q_runV (As := []) (rest := []) (d := 1) (mc := 0) (ms := 0) (ci := 8) C0 V rfl LV_Rea_113 (c_Rea_takeHexadecimalMark l D g u8 kO0 qO0 qO2 qO3 hO0 _) rfl rfl hO0 rfl hl.1 rfl (Nat.le_of_ble_eq_true rfl) ⟨by decide, by decide⟩ ⟨Nat.le_of_ble_eq_true rfl, Nat.le_of_ble_eq_true rfl⟩ d_10_4_62) (fun v26 u25 H locs hp24 V => ?_)
  obtain ⟨rfl, hg27, hO0⟩ := hp24
  replace hF := q_uc hF hg27 (q_sc (.head _) (fun _ h => absurd h List.not_mem_nil))
  refine lv_istore (lv' := [(4, .int 0), (2, .long 0), (0, .ref qO0), (1, .ref qO1)]) hx hb d_10_4_65 hl (by decide) rfl (fun ls hl => ?_)
  refine lv_iload hx hb d_10_4_67 (lv_at hl 0 rfl) ?_
  refine lv_if_eq (tgt := 82) hx hb d_10_4_69 (by decide) (fun c28 => ?_) (fun c28 => absurd (by decide) c28)
  refine lv_aload_n hx hb d_10_4_82 rfl (lv_at hl 2 rfl) ?_
  replace hO3 := (hg27 _ (q_nc n_O3_O0 List.not_mem_nil)).trans ((hg9 _ (q_nc n_O3_O0 List.not_mem_nil)).trans ((hg3 _ (q_nc n_O3_O0 List.not_mem_nil)).trans (hO3)))
  replace hO5 := (hg27 _ (q_nc n_O5_O0 List.not_mem_nil)).trans ((hg9 _ (q_nc n_O5_O0 List.not_mem_nil)).trans ((hg3 _ (q_nc n_O5_O0 List.not_mem_nil)).trans (hO5)))
  refine q_goi V (q_runV (As := []) (rest := []) (d := 3) (mc := 0) (ms := 0) (ci := 8) C0 V rfl LV_Rea_120 (c_Rea_takeDecimal l D g u25 kO0 kO3 kO5 qO0 qO2 qO3 qO5 qO6 qO7 qO8 qO9 qO10 qO11 qO12 qO13 qO14 qA15 hO0 hO3 hO5 _) rfl rfl hO0 rfl hl.1 rfl (Nat.le_of_ble_eq_true rfl) ⟨by decide, by decide⟩ ⟨Nat.le_of_ble_eq_true rfl, Nat.le_of_ble_eq_true rfl⟩ d_10_4_83) (fun v31 u30 H locs hp29 V => ?_)
  obtain ⟨rfl, hg32, hO0, hO5⟩ := hp29
  replace hF := q_uc hF hg32 (q_sc (.head _) (q_sc (.tail _ (.head _)) (fun _ h => absurd h List.not_mem_nil)))
  refine lv_if_eq (tgt := 96) hx hb d_10_4_86 (by decide) (fun c33 => ?_) (fun c33 => absurd (by decide) c33)
  refine lv_iconst (v := 0) hx hb d_10_4_96 (by decide) ?_
  exact q_reti C0 V (⟨rfl, hF, hO0, hO5⟩) d_10_4_97
set_option maxRecDepth 100000 in
set_option maxHeartbeats 4000000 in
theorem c_Rea_floatText_2 (l : Launch) (D : va_G) (g : Nat → ClassId) (ws : va_W) (kO0 kO1 kO2 kO3 kO5 qO0 qO1 qO2 qO3 qA4 qO5 qO6 qO7 qO8 qO9 qO10 qO11 qO12 qO13 qO14 qA15 : Nat) (hO0 : ws[kO0]? = (some (qO0, .inr (8, [.long 0, .long 0, .ref qO2, .ref qO3, .int 0, .int 0, .int 0, .int 0, .int 0, .int 0, .int 0, .long 0])) : Option (Nat × va_E))) (hO1 : ws[kO1]? = (some (qO1, .inr (6, [.int 52, .int 1075, .int 2047, .long 0, .int 0, .ref qO3, .int 0])) : Option (Nat × va_E))) (hO2 : ws[kO2]? = (some (qO2, .inr (1, [.ref qA4, .int 4100, .int 0])) : Option (Nat × va_E))) (hO3 : ws[kO3]? = (some (qO3, .inr (4, [.ref qO5, .ref qO6, .ref qO7, .ref qO8, .ref qO9, .ref qO10, .ref qO11, .ref qO12, .ref qO13, .ref qO14])) : Option (Nat × va_E))) (hO5 : ws[kO5]? = (some (qO5, .inr (2, [.ref qA15, .int 0, .int 0])) : Option (Nat × va_E))) : q_mI l y_Rea_floatText prog_10_method_4_code 5 (.int) 4 0 0 D g [.ref qO0, .ref qO1] ws (fun r u => 0 = r ∧ q_un ws u [kO0, kO5] ∧ u[kO0]? = (some (qO0, .inr (8, [.long 0, .long 0, .ref qO2, .ref qO3, .int 0, .int 0, .int 0, .int 0, .int 0, .int 0, .int 0, .long 0])) : Option (Nat × va_E)) ∧ u[kO5]? = (some (qO5, .inr (2, [.ref qA15, .int 0, .int 0])) : Option (Nat × va_E))) := by
  intro sz
  refine q_into (by decide) (Nat.le_of_ble_eq_true rfl) ?_
  intro p e s m below meth c ls hsz C0 V hl
  have hx := C0.1
  have hb := C0.2.1
  have hl : lv_has ls 5 [(0, .ref qO0), (1, .ref qO1)] := hl
  have n_O1_O0 := q_dc hO1 hO0 (q_pd 6 8 rfl)
  have n_O1_O5 := q_dc hO1 hO5 (q_pd 6 2 rfl)
  have n_O2_O0 := q_dc hO2 hO0 (q_pd 1 8 rfl)
  have n_O2_O5 := q_dc hO2 hO5 (q_pd 1 2 rfl)
  have n_O3_O0 := q_dc hO3 hO0 (q_pd 4 8 rfl)
  have n_O3_O5 := q_dc hO3 hO5 (q_pd 4 2 rfl)
  have n_O5_O0 := q_dc hO5 hO0 (q_pd 2 8 rfl)
  have hF : q_un ws ws [kO0, kO5] := q_u0
  refine lv_aload_n hx hb d_10_4_0 rfl (lv_at hl 0 rfl) ?_
  refine q_gov V (q_runV (As := []) (rest := []) (d := 1) (mc := 0) (ms := 0) (ci := 8) C0 V rfl LV_Rea_19 (c_Rea_begin l D g ws kO0 kO2 qO0 qO2 qO3 qA4 hO0 hO2 _) rfl rfl hO0 rfl hl.1 rfl (Nat.le_of_ble_eq_true rfl) ⟨by decide, by decide⟩ ⟨Nat.le_of_ble_eq_true rfl, Nat.le_of_ble_eq_true rfl⟩ d_10_4_1) (fun u2 H locs hp1 V => ?_)
  obtain ⟨hg3, hO0⟩ := hp1
  replace hF := q_uc hF hg3 (q_sc (.head _) (fun _ h => absurd h List.not_mem_nil))
  refine lv_aload_n hx hb d_10_4_4 rfl (lv_at hl 0 rfl) ?_
  refine q_gov V (q_runV (As := []) (rest := []) (d := 1) (mc := 0) (ms := 0) (ci := 8) C0 V rfl LV_Rea_86 (c_Rea_trimBlanks l D g u2 kO0 qO0 qO2 qO3 hO0 _) rfl rfl hO0 rfl hl.1 rfl (Nat.le_of_ble_eq_true rfl) ⟨by decide, by decide⟩ ⟨Nat.le_of_ble_eq_true rfl, Nat.le_of_ble_eq_true rfl⟩ d_10_4_5) (fun u5 H locs hp4 V => ?_)
  obtain rfl := hp4
  refine lv_aload_n hx hb d_10_4_8 rfl (lv_at hl 0 rfl) ?_
  refine q_gov V (q_runV (As := []) (rest := []) (d := 2) (mc := 0) (ms := 0) (ci := 8) C0 V rfl LV_Rea_22 (c_Rea_takeSign l D g u2 kO0 qO0 qO2 qO3 hO0 _) rfl rfl hO0 rfl hl.1 rfl (Nat.le_of_ble_eq_true rfl) ⟨by decide, by decide⟩ ⟨Nat.le_of_ble_eq_true rfl, Nat.le_of_ble_eq_true rfl⟩ d_10_4_9) (fun u8 H locs hp7 V => ?_)
  obtain ⟨hg9, hO0⟩ := hp7
  replace hF := q_uc hF hg9 (q_sc (.head _) (fun _ h => absurd h List.not_mem_nil))
  refine lv_aload_n hx hb d_10_4_12 rfl (lv_at hl 0 rfl) ?_
  refine q_ldcs (i := 20) C0 V rfl rfl d_10_4_13 ?_
  refine q_goi V (q_runV (As := [.ref (g (8 + 2 * 20))]) (rest := []) (d := 3) (mc := 0) (ms := 0) (ci := 8) C0 V rfl LV_Rea_91 (c_Rea_saysRest l D g u8 kO0 qO0 qO2 qO3 hO0 _) rfl rfl hO0 rfl hl.1 rfl (Nat.le_of_ble_eq_true rfl) ⟨by decide, by decide⟩ ⟨Nat.le_of_ble_eq_true rfl, Nat.le_of_ble_eq_true rfl⟩ d_10_4_15) (fun v12 u11 H locs hp10 V => ?_)
  obtain ⟨rfl, rfl⟩ := hp10
  refine lv_if_eq (tgt := 31) hx hb d_10_4_18 (by decide) (fun c14 => ?_) (fun c14 => absurd (by decide) c14)
  refine lv_aload_n hx hb d_10_4_31 rfl (lv_at hl 1 rfl) ?_
  refine lv_aload_n hx hb d_10_4_32 rfl (lv_at hl 0 rfl) ?_
  refine q_get (ci := 8) (j := 6) (v := .int 0) C0 V i_Rea rfl rfl hO0 (by decide) w_292 rfl d_10_4_33 ?_
  replace hO1 := (hg9 _ (q_nc n_O1_O0 List.not_mem_nil)).trans ((hg3 _ (q_nc n_O1_O0 List.not_mem_nil)).trans (hO1))
  refine q_gol V (q_runV (As := [.int 0]) (rest := []) (d := 1) (mc := 0) (ms := 0) (ci := 6) C0 V rfl LV_Rea_104 (c_Flo_signBit_3 l D g u8 qO1 _) rfl rfl hO1 rfl hl.1 rfl (Nat.le_of_ble_eq_true rfl) ⟨by decide, by decide⟩ ⟨Nat.le_of_ble_eq_true rfl, Nat.le_of_ble_eq_true rfl⟩ d_10_4_36) (fun v17 u16 H locs hp15 V => ?_)
  obtain ⟨rfl, rfl⟩ := hp15
  refine lv_lstore_n (lv' := [(2, .long 0), (0, .ref qO0), (1, .ref qO1)]) hx hb d_10_4_39 rfl hl (by decide) rfl (fun ls hl => ?_)
  refine lv_aload_n hx hb d_10_4_40 rfl (lv_at hl 1 rfl) ?_
  refine q_ldcs (i := 21) C0 V rfl rfl d_10_4_41 ?_
  refine q_goi V (q_runV (As := [.ref (g (8 + 2 * 21))]) (rest := []) (d := 3) (mc := 0) (ms := 0) (ci := 8) C0 V rfl LV_Rea_91 (c_Rea_saysRest_2 l D g u8 kO0 qO0 qO2 qO3 hO0 _) rfl rfl hO0 rfl hl.1 rfl (Nat.le_of_ble_eq_true rfl) ⟨by decide, by decide⟩ ⟨Nat.le_of_ble_eq_true rfl, Nat.le_of_ble_eq_true rfl⟩ d_10_4_43) (fun v21 u20 H locs hp19 V => ?_)
  obtain ⟨rfl, rfl⟩ := hp19
  refine lv_if_eq (tgt := 61) hx hb d_10_4_46 (by decide) (fun c23 => ?_) (fun c23 => absurd (by decide) c23)
  refine lv_aload_n hx hb d_10_4_61 rfl (lv_at hl 1 rfl) ?_
  refine q_goi V (q_runV (As := []) (rest := []) (d := 1) (mc := 0) (ms := 0) (ci := 8) C0 V rfl LV_Rea_113 (c_Rea_takeHexadecimalMark l D g u8 kO0 qO0 qO2 qO3 hO0 _) rfl rfl hO0 rfl hl.1 rfl (Nat.le_of_ble_eq_true rfl) ⟨by decide, by decide⟩ ⟨Nat.le_of_ble_eq_true rfl, Nat.le_of_ble_eq_true rfl⟩ d_10_4_62) (fun v26 u25 H locs hp24 V => ?_)
  obtain ⟨rfl, hg27, hO0⟩ := hp24
  replace hF := q_uc hF hg27 (q_sc (.head _) (fun _ h => absurd h List.not_mem_nil))
  refine lv_istore (lv' := [(4, .int 0), (2, .long 0), (0, .ref qO0), (1, .ref qO1)]) hx hb d_10_4_65 hl (by decide) rfl (fun ls hl => ?_)
  refine lv_iload hx hb d_10_4_67 (lv_at hl 0 rfl) ?_
  refine lv_if_eq (tgt := 82) hx hb d_10_4_69 (by decide) (fun c28 => ?_) (fun c28 => absurd (by decide) c28)
  refine lv_aload_n hx hb d_10_4_82 rfl (lv_at hl 2 rfl) ?_
  replace hO3 := (hg27 _ (q_nc n_O3_O0 List.not_mem_nil)).trans ((hg9 _ (q_nc n_O3_O0 List.not_mem_nil)).trans ((hg3 _ (q_nc n_O3_O0 List.not_mem_nil)).trans (hO3)))
  replace hO5 := (hg27 _ (q_nc n_O5_O0 List.not_mem_nil)).trans ((hg9 _ (q_nc n_O5_O0 List.not_mem_nil)).trans ((hg3 _ (q_nc n_O5_O0 List.not_mem_nil)).trans (hO5)))
  refine q_goi V (q_runV (As := []) (rest := []) (d := 3) (mc := 0) (ms := 0) (ci := 8) C0 V rfl LV_Rea_120 (c_Rea_takeDecimal l D g u25 kO0 kO3 kO5 qO0 qO2 qO3 qO5 qO6 qO7 qO8 qO9 qO10 qO11 qO12 qO13 qO14 qA15 hO0 hO3 hO5 _) rfl rfl hO0 rfl hl.1 rfl (Nat.le_of_ble_eq_true rfl) ⟨by decide, by decide⟩ ⟨Nat.le_of_ble_eq_true rfl, Nat.le_of_ble_eq_true rfl⟩ d_10_4_83) (fun v31 u30 H locs hp29 V => ?_)
  obtain ⟨rfl, hg32, hO0, hO5⟩ := hp29
  replace hF := q_uc hF hg32 (q_sc (.head _) (q_sc (.tail _ (.head _)) (fun _ h => absurd h List.not_mem_nil)))
  refine lv_if_eq (tgt := 96) hx hb d_10_4_86 (by decide) (fun c33 => ?_) (fun c33 => absurd (by decide) c33)
  refine lv_iconst (v := 0) hx hb d_10_4_96 (by decide) ?_
  exact q_reti C0 V (⟨rfl, hF, hO0, hO5⟩) d_10_4_97
set_option maxRecDepth 100000 in
set_option maxHeartbeats 4000000 in
theorem c_Rea_takeFigures_2 (l : Launch) (D : va_G) (g : Nat → ClassId) (ws : va_W) (kO0 kO2 kO4 qO0 qO1 qO2 qO4 qO5 qO6 qO7 qO8 qO9 qO10 qO11 qO12 qO13 qA14 : Nat) (hO0 : ws[kO0]? = (some (qO0, .inr (8, [.long 0, .long 0, .ref qO1, .ref qO2, .int 0, .int 0, .int 0, .int 0, .int 0, .int 0, .int 0, .long 0])) : Option (Nat × va_E))) (hO2 : ws[kO2]? = (some (qO2, .inr (4, [.ref qO4, .ref qO5, .ref qO6, .ref qO7, .ref qO8, .ref qO9, .ref qO10, .ref qO11, .ref qO12, .ref qO13])) : Option (Nat × va_E))) (hO4 : ws[kO4]? = (some (qO4, .inr (2, [.ref qA14, .int 0, .int 0])) : Option (Nat × va_E))) : q_mI l y_Rea_takeFigures prog_10_method_12_code 6 (.boolean) 2 0 0 D g [.ref qO0, .int 10, .int 1000] ws (fun r u => 0 = r ∧ q_un ws u [kO0, kO4] ∧ u[kO0]? = (some (qO0, .inr (8, [.long 0, .long 0, .ref qO1, .ref qO2, .int 0, .int 0, .int 0, .int 0, .int 0, .int 0, .int 0, .long 0])) : Option (Nat × va_E)) ∧ u[kO4]? = (some (qO4, .inr (2, [.ref qA14, .int 0, .int 0])) : Option (Nat × va_E))) := by
  intro sz
  refine q_into (by decide) (Nat.le_of_ble_eq_true rfl) ?_
  intro p e s m below meth c ls hsz C0 V hl
  have hx := C0.1
  have hb := C0.2.1
  have hl : lv_has ls 6 [(0, .ref qO0), (1, .int 10), (2, .int 1000)] := hl
  have n_O0_O4 := q_dc hO0 hO4 (q_pd 8 2 rfl)
  have n_O2_O0 := q_dc hO2 hO0 (q_pd 4 8 rfl)
  have n_O2_O4 := q_dc hO2 hO4 (q_pd 4 2 rfl)
  have n_O4_O0 := q_dc hO4 hO0 (q_pd 2 8 rfl)
  have hF : q_un ws ws [kO0, kO4] := q_u0
  refine lv_iconst (v := 0) hx hb d_10_12_0 (by decide) ?_
  refine lv_istore_n (lv' := [(3, .int 0), (0, .ref qO0), (1, .int 10), (2, .int 1000)]) hx hb d_10_12_1 rfl hl (by decide) rfl (fun ls hl => ?_)
  refine lv_iconst (v := 0) hx hb d_10_12_2 (by decide) ?_
  refine lv_istore (lv' := [(4, .int 0), (3, .int 0), (0, .ref qO0), (1, .int 10), (2, .int 1000)]) hx hb d_10_12_3 hl (by decide) rfl (fun ls hl => ?_)
  refine lv_aload_n hx hb d_10_12_5 rfl (lv_at hl 2 rfl) ?_
  refine lv_iconst (v := 0) hx hb d_10_12_6 (by decide) ?_
  refine q_put (ci := 8) (j := 7) (v := .int 0) (ty := .int) C0 V i_Rea o_Rea n_Rea rfl rfl hO0 (by decide) w_293 rfl rfl rfl rfl (Nat.le_of_ble_eq_true rfl) d_10_12_7 (fun H locs w1 hu2 hO0 V => ?_)
  replace hO0 : w1[kO0]? = (some (qO0, .inr (8, [.long 0, .long 0, .ref qO1, .ref qO2, .int 0, .int 0, .int 0, .int 0, .int 0, .int 0, .int 0, .long 0])) : Option (Nat × va_E)) := hO0
  replace hF := q_us hF hu2 (.head _)
  refine lv_aload_n hx hb d_10_12_10 rfl (lv_at hl 2 rfl) ?_
  refine lv_iconst (v := 0) hx hb d_10_12_11 (by decide) ?_
  refine q_put (ci := 8) (j := 8) (v := .int 0) (ty := .int) C0 V i_Rea o_Rea n_Rea rfl rfl hO0 (by decide) w_294 rfl rfl rfl rfl (Nat.le_of_ble_eq_true rfl) d_10_12_12 (fun H locs w3 hu4 hO0 V => ?_)
  replace hO0 : w3[kO0]? = (some (qO0, .inr (8, [.long 0, .long 0, .ref qO1, .ref qO2, .int 0, .int 0, .int 0, .int 0, .int 0, .int 0, .int 0, .long 0])) : Option (Nat × va_E)) := hO0
  replace hF := q_us hF hu4 (.head _)
  refine lv_aload_n hx hb d_10_12_15 rfl (lv_at hl 2 rfl) ?_
  refine lv_iconst (v := 0) hx hb d_10_12_16 (by decide) ?_
  refine q_put (ci := 8) (j := 9) (v := .int 0) (ty := .int) C0 V i_Rea o_Rea n_Rea rfl rfl hO0 (by decide) w_295 rfl rfl rfl rfl (Nat.le_of_ble_eq_true rfl) d_10_12_17 (fun H locs w5 hu6 hO0 V => ?_)
  replace hO0 : w5[kO0]? = (some (qO0, .inr (8, [.long 0, .long 0, .ref qO1, .ref qO2, .int 0, .int 0, .int 0, .int 0, .int 0, .int 0, .int 0, .long 0])) : Option (Nat × va_E)) := hO0
  replace hF := q_us hF hu6 (.head _)
  refine lv_aload_n hx hb d_10_12_20 rfl (lv_at hl 2 rfl) ?_
  refine lv_iconst (v := 0) hx hb d_10_12_21 (by decide) ?_
  refine q_put (ci := 8) (j := 10) (v := .int 0) (ty := .boolean) C0 V i_Rea o_Rea n_Rea rfl rfl hO0 (by decide) w_296 rfl rfl rfl rfl (Nat.le_of_ble_eq_true rfl) d_10_12_22 (fun H locs w7 hu8 hO0 V => ?_)
  replace hO0 : w7[kO0]? = (some (qO0, .inr (8, [.long 0, .long 0, .ref qO1, .ref qO2, .int 0, .int 0, .int 0, .int 0, .int 0, .int 0, .int 0, .long 0])) : Option (Nat × va_E)) := hO0
  replace hF := q_us hF hu8 (.head _)
  refine lv_aload_n hx hb d_10_12_25 rfl (lv_at hl 2 rfl) ?_
  refine q_get (ci := 8) (j := 3) (v := .ref qO2) C0 V i_Rea rfl rfl hO0 (by decide) w_289 rfl d_10_12_26 ?_
  replace hO2 := (hu8 _ n_O2_O0).trans ((hu6 _ n_O2_O0).trans ((hu4 _ n_O2_O0).trans ((hu2 _ n_O2_O0).trans (hO2))))
  refine q_get (ci := 4) (j := 0) (v := .ref qO4) C0 V i_Mil rfl rfl hO2 (by decide) w_109 rfl d_10_12_29 ?_
  replace hO4 := (hu8 _ n_O4_O0).trans ((hu6 _ n_O4_O0).trans ((hu4 _ n_O4_O0).trans ((hu2 _ n_O4_O0).trans (hO4))))
  refine q_gov V (q_runV (As := []) (rest := []) (d := 1) (mc := 0) (ms := 0) (ci := 2) C0 V rfl LV_Rea_31 (c_Big_clear l D g w7 kO4 qO4 qA14 0 0 hO4 _) rfl rfl hO4 rfl hl.1 rfl (Nat.le_of_ble_eq_true rfl) ⟨by decide, by decide⟩ ⟨Nat.le_of_ble_eq_true rfl, Nat.le_of_ble_eq_true rfl⟩ d_10_12_32) (fun u10 H locs hp9 V => ?_)
  obtain ⟨hg11, hO4⟩ := hp9
  replace hF := q_uc hF hg11 (q_sc (.tail _ (.head _)) (fun _ h => absurd h List.not_mem_nil))
  refine lv_aload_n hx hb d_10_12_35 rfl (lv_at hl 2 rfl) ?_
  replace hO0 := (hg11 _ (q_nc n_O0_O4 List.not_mem_nil)).trans (hO0)
  refine q_get (ci := 8) (j := 4) (v := .int 0) C0 V i_Rea rfl rfl hO0 (by decide) w_290 rfl d_10_12_36 ?_
  refine lv_aload_n hx hb d_10_12_39 rfl (lv_at hl 2 rfl) ?_
  refine q_get (ci := 8) (j := 5) (v := .int 0) C0 V i_Rea rfl rfl hO0 (by decide) w_291 rfl d_10_12_40 ?_
  refine lv_icmp_ge (tgt := 118) hx hb d_10_12_43 (by decide) (fun c12 => ?_) (fun c12 => absurd (by decide) c12)
  refine lv_iload hx hb d_10_12_118 (lv_at hl 0 rfl) ?_
  refine lv_if_le (tgt := 127) hx hb d_10_12_120 (by decide) (fun c13 => ?_) (fun c13 => absurd (by decide) c13)
  refine lv_iconst (v := 0) hx hb d_10_12_127 (by decide) ?_
  exact q_retz C0 V (rfl) (⟨rfl, hF, hO0, hO4⟩) d_10_12_128
theorem d_10_3_0 : decode prog_10_method_3_code 0 = .ok (.aload_n 0, 1) := by decide +kernel
theorem d_10_3_1 : decode prog_10_method_3_code 1 = .ok (.invokevirtual 19, 3) := by decide +kernel
theorem d_10_3_4 : decode prog_10_method_3_code 4 = .ok (.aload_n 0, 1) := by decide +kernel
theorem d_10_3_5 : decode prog_10_method_3_code 5 = .ok (.invokevirtual 22, 3) := by decide +kernel
theorem d_10_3_8 : decode prog_10_method_3_code 8 = .ok (.aload_n 0, 1) := by decide +kernel
theorem d_10_3_9 : decode prog_10_method_3_code 9 = .ok (.bipush 10, 2) := by decide +kernel
theorem d_10_3_11 : decode prog_10_method_3_code 11 = .ok (.sipush 1000, 3) := by decide +kernel
theorem d_10_3_14 : decode prog_10_method_3_code 14 = .ok (.invokevirtual 62, 3) := by decide +kernel
theorem d_10_3_17 : decode prog_10_method_3_code 17 = .ok (.ifCond .ne 5, 3) := by decide +kernel
theorem d_10_3_20 : decode prog_10_method_3_code 20 = .ok (.iconst 0, 1) := by decide +kernel
theorem d_10_3_21 : decode prog_10_method_3_code 21 = .ok (.ireturn, 1) := by decide +kernel
def y_Rea_decimalText : MethodName := ⟨"NumberHouse$Reader", "decimalText", "()I"⟩
set_option maxRecDepth 100000 in
set_option maxHeartbeats 4000000 in
theorem c_Rea_decimalText (l : Launch) (D : va_G) (g : Nat → ClassId) (ws : va_W) (kO0 kO1 kO2 kO4 qO0 qO1 qO2 qA3 qO4 qO5 qO6 qO7 qO8 qO9 qO10 qO11 qO12 qO13 qA14 : Nat) (hO0 : ws[kO0]? = (some (qO0, .inr (8, [.long 0, .long 0, .ref qO1, .ref qO2, .int 0, .int 0, .int 0, .int 0, .int 0, .int 0, .int 0, .long 0])) : Option (Nat × va_E))) (hO1 : ws[kO1]? = (some (qO1, .inr (1, [.ref qA3, .int 4100, .int 0])) : Option (Nat × va_E))) (hO2 : ws[kO2]? = (some (qO2, .inr (4, [.ref qO4, .ref qO5, .ref qO6, .ref qO7, .ref qO8, .ref qO9, .ref qO10, .ref qO11, .ref qO12, .ref qO13])) : Option (Nat × va_E))) (hO4 : ws[kO4]? = (some (qO4, .inr (2, [.ref qA14, .int 0, .int 0])) : Option (Nat × va_E))) : q_mI l y_Rea_decimalText prog_10_method_3_code 1 (.int) 3 0 0 D g [.ref qO0] ws (fun r u => 0 = r ∧ q_un ws u [kO0, kO4] ∧ u[kO0]? = (some (qO0, .inr (8, [.long 0, .long 0, .ref qO1, .ref qO2, .int 0, .int 0, .int 0, .int 0, .int 0, .int 0, .int 0, .long 0])) : Option (Nat × va_E)) ∧ u[kO4]? = (some (qO4, .inr (2, [.ref qA14, .int 0, .int 0])) : Option (Nat × va_E))) := by
  intro sz
  refine q_into (by decide) (Nat.le_of_ble_eq_true rfl) ?_
  intro p e s m below meth c ls hsz C0 V hl
  have hx := C0.1
  have hb := C0.2.1
  have hl : lv_has ls 1 [(0, .ref qO0)] := hl
  have n_O1_O0 := q_dc hO1 hO0 (q_pd 1 8 rfl)
  have n_O1_O4 := q_dc hO1 hO4 (q_pd 1 2 rfl)
  have n_O2_O0 := q_dc hO2 hO0 (q_pd 4 8 rfl)
  have n_O2_O4 := q_dc hO2 hO4 (q_pd 4 2 rfl)
  have n_O4_O0 := q_dc hO4 hO0 (q_pd 2 8 rfl)
  have hF : q_un ws ws [kO0, kO4] := q_u0
  refine lv_aload_n hx hb d_10_3_0 rfl (lv_at hl 0 rfl) ?_
  refine q_gov V (q_runV (As := []) (rest := []) (d := 1) (mc := 0) (ms := 0) (ci := 8) C0 V rfl LV_Rea_19 (c_Rea_begin l D g ws kO0 kO1 qO0 qO1 qO2 qA3 hO0 hO1 _) rfl rfl hO0 rfl hl.1 rfl (Nat.le_of_ble_eq_true rfl) ⟨by decide, by decide⟩ ⟨Nat.le_of_ble_eq_true rfl, Nat.le_of_ble_eq_true rfl⟩ d_10_3_1) (fun u2 H locs hp1 V => ?_)
  obtain ⟨hg3, hO0⟩ := hp1
  replace hF := q_uc hF hg3 (q_sc (.head _) (fun _ h => absurd h List.not_mem_nil))
  refine lv_aload_n hx hb d_10_3_4 rfl (lv_at hl 0 rfl) ?_
  refine q_gov V (q_runV (As := []) (rest := []) (d := 2) (mc := 0) (ms := 0) (ci := 8) C0 V rfl LV_Rea_22 (c_Rea_takeSign l D g u2 kO0 qO0 qO1 qO2 hO0 _) rfl rfl hO0 rfl hl.1 rfl (Nat.le_of_ble_eq_true rfl) ⟨by decide, by decide⟩ ⟨Nat.le_of_ble_eq_true rfl, Nat.le_of_ble_eq_true rfl⟩ d_10_3_5) (fun u5 H locs hp4 V => ?_)
  obtain ⟨hg6, hO0⟩ := hp4
  replace hF := q_uc hF hg6 (q_sc (.head _) (fun _ h => absurd h List.not_mem_nil))
  refine lv_aload_n hx hb d_10_3_8 rfl (lv_at hl 0 rfl) ?_
  refine lv_bipush (v := 10) hx hb d_10_3_9 (by decide) ?_
  refine lv_sipush (v := 1000) hx hb d_10_3_11 (by decide) ?_
  replace hO2 := (hg6 _ (q_nc n_O2_O0 List.not_mem_nil)).trans ((hg3 _ (q_nc n_O2_O0 List.not_mem_nil)).trans (hO2))
  replace hO4 := (hg6 _ (q_nc n_O4_O0 List.not_mem_nil)).trans ((hg3 _ (q_nc n_O4_O0 List.not_mem_nil)).trans (hO4))
  refine q_goi V (q_runV (As := [.int 10, .int 1000]) (rest := []) (d := 2) (mc := 0) (ms := 0) (ci := 8) C0 V rfl LV_Rea_62 (c_Rea_takeFigures_2 l D g u5 kO0 kO2 kO4 qO0 qO1 qO2 qO4 qO5 qO6 qO7 qO8 qO9 qO10 qO11 qO12 qO13 qA14 hO0 hO2 hO4 _) rfl rfl hO0 rfl hl.1 rfl (Nat.le_of_ble_eq_true rfl) ⟨by decide, by decide⟩ ⟨Nat.le_of_ble_eq_true rfl, Nat.le_of_ble_eq_true rfl⟩ d_10_3_14) (fun v9 u8 H locs hp7 V => ?_)
  obtain ⟨rfl, hg10, hO0, hO4⟩ := hp7
  replace hF := q_uc hF hg10 (q_sc (.head _) (q_sc (.tail _ (.head _)) (fun _ h => absurd h List.not_mem_nil)))
  refine lv_if_ne (tgt := 22) hx hb d_10_3_17 (by decide) (fun c11 => absurd (by decide) c11) (fun c11 => ?_)
  refine lv_iconst (v := 0) hx hb d_10_3_20 (by decide) ?_
  exact q_reti C0 V (⟨rfl, hF, hO0, hO4⟩) d_10_3_21
theorem d_10_2_0 : decode prog_10_method_2_code 0 = .ok (.aload_n 0, 1) := by decide +kernel
theorem d_10_2_1 : decode prog_10_method_2_code 1 = .ok (.invokevirtual 19, 3) := by decide +kernel
theorem d_10_2_4 : decode prog_10_method_2_code 4 = .ok (.aload_n 0, 1) := by decide +kernel
theorem d_10_2_5 : decode prog_10_method_2_code 5 = .ok (.invokevirtual 22, 3) := by decide +kernel
theorem d_10_2_8 : decode prog_10_method_2_code 8 = .ok (.aload_n 0, 1) := by decide +kernel
theorem d_10_2_9 : decode prog_10_method_2_code 9 = .ok (.getfield 15, 3) := by decide +kernel
theorem d_10_2_12 : decode prog_10_method_2_code 12 = .ok (.getfield 25, 3) := by decide +kernel
theorem d_10_2_15 : decode prog_10_method_2_code 15 = .ok (.astore_n 2, 1) := by decide +kernel
theorem d_10_2_16 : decode prog_10_method_2_code 16 = .ok (.aload_n 2, 1) := by decide +kernel
theorem d_10_2_17 : decode prog_10_method_2_code 17 = .ok (.invokevirtual 31, 3) := by decide +kernel
theorem d_10_2_20 : decode prog_10_method_2_code 20 = .ok (.iconst 1, 1) := by decide +kernel
theorem d_10_2_21 : decode prog_10_method_2_code 21 = .ok (.istore_n 3, 1) := by decide +kernel
theorem d_10_2_22 : decode prog_10_method_2_code 22 = .ok (.aload_n 0, 1) := by decide +kernel
theorem d_10_2_23 : decode prog_10_method_2_code 23 = .ok (.getfield 36, 3) := by decide +kernel
theorem d_10_2_26 : decode prog_10_method_2_code 26 = .ok (.aload_n 0, 1) := by decide +kernel
theorem d_10_2_27 : decode prog_10_method_2_code 27 = .ok (.getfield 40, 3) := by decide +kernel
theorem d_10_2_30 : decode prog_10_method_2_code 30 = .ok (.if_icmp .lt 5, 3) := by decide +kernel
theorem d_10_2_33 : decode prog_10_method_2_code 33 = .ok (.iconst 0, 1) := by decide +kernel
theorem d_10_2_34 : decode prog_10_method_2_code 34 = .ok (.ireturn, 1) := by decide +kernel
def y_Rea_wholeText : MethodName := ⟨"NumberHouse$Reader", "wholeText", "(I)I"⟩
set_option maxRecDepth 100000 in
set_option maxHeartbeats 4000000 in
theorem c_Rea_wholeText (l : Launch) (D : va_G) (g : Nat → ClassId) (ws : va_W) (kO0 kO1 kO2 kO4 qO0 qO1 qO2 qA3 qO4 qO5 qO6 qO7 qO8 qO9 qO10 qO11 qO12 qO13 qA14 : Nat) (x1 : Int32) (hO0 : ws[kO0]? = (some (qO0, .inr (8, [.long 0, .long 0, .ref qO1, .ref qO2, .int 0, .int 0, .int 0, .int 0, .int 0, .int 0, .int 0, .long 0])) : Option (Nat × va_E))) (hO1 : ws[kO1]? = (some (qO1, .inr (1, [.ref qA3, .int 4100, .int 0])) : Option (Nat × va_E))) (hO2 : ws[kO2]? = (some (qO2, .inr (4, [.ref qO4, .ref qO5, .ref qO6, .ref qO7, .ref qO8, .ref qO9, .ref qO10, .ref qO11, .ref qO12, .ref qO13])) : Option (Nat × va_E))) (hO4 : ws[kO4]? = (some (qO4, .inr (2, [.ref qA14, .int 0, .int 0])) : Option (Nat × va_E))) (x1lo : 2 ≤ x1) (x1hi : x1 ≤ 36) : q_mI l y_Rea_wholeText prog_10_method_2_code 5 (.int) 3 0 0 D g [.ref qO0, .int x1] ws (fun r u => 0 = r ∧ q_un ws u [kO0, kO4] ∧ u[kO0]? = (some (qO0, .inr (8, [.long 0, .long 0, .ref qO1, .ref qO2, .int 0, .int 0, .int 0, .int 0, .int 0, .int 0, .int 0, .long 0])) : Option (Nat × va_E)) ∧ u[kO4]? = (some (qO4, .inr (2, [.ref qA14, .int 0, .int 0])) : Option (Nat × va_E))) := by
  intro sz
  refine q_into (by decide) (Nat.le_of_ble_eq_true rfl) ?_
  intro p e s m below meth c ls hsz C0 V hl
  have hx := C0.1
  have hb := C0.2.1
  have hl : lv_has ls 5 [(0, .ref qO0), (1, .int x1)] := hl
  have n_O0_O4 := q_dc hO0 hO4 (q_pd 8 2 rfl)
  have n_O1_O0 := q_dc hO1 hO0 (q_pd 1 8 rfl)
  have n_O1_O4 := q_dc hO1 hO4 (q_pd 1 2 rfl)
  have n_O2_O0 := q_dc hO2 hO0 (q_pd 4 8 rfl)
  have n_O2_O4 := q_dc hO2 hO4 (q_pd 4 2 rfl)
  have n_O4_O0 := q_dc hO4 hO0 (q_pd 2 8 rfl)
  have hF : q_un ws ws [kO0, kO4] := q_u0
  refine lv_aload_n hx hb d_10_2_0 rfl (lv_at hl 0 rfl) ?_
  refine q_gov V (q_runV (As := []) (rest := []) (d := 1) (mc := 0) (ms := 0) (ci := 8) C0 V rfl LV_Rea_19 (c_Rea_begin l D g ws kO0 kO1 qO0 qO1 qO2 qA3 hO0 hO1 _) rfl rfl hO0 rfl hl.1 rfl (Nat.le_of_ble_eq_true rfl) ⟨by decide, by decide⟩ ⟨Nat.le_of_ble_eq_true rfl, Nat.le_of_ble_eq_true rfl⟩ d_10_2_1) (fun u2 H locs hp1 V => ?_)
  obtain ⟨hg3, hO0⟩ := hp1
  replace hF := q_uc hF hg3 (q_sc (.head _) (fun _ h => absurd h List.not_mem_nil))
  refine lv_aload_n hx hb d_10_2_4 rfl (lv_at hl 0 rfl) ?_
  refine q_gov V (q_runV (As := []) (rest := []) (d := 2) (mc := 0) (ms := 0) (ci := 8) C0 V rfl LV_Rea_22 (c_Rea_takeSign l D g u2 kO0 qO0 qO1 qO2 hO0 _) rfl rfl hO0 rfl hl.1 rfl (Nat.le_of_ble_eq_true rfl) ⟨by decide, by decide⟩ ⟨Nat.le_of_ble_eq_true rfl, Nat.le_of_ble_eq_true rfl⟩ d_10_2_5) (fun u5 H locs hp4 V => ?_)
  obtain ⟨hg6, hO0⟩ := hp4
  replace hF := q_uc hF hg6 (q_sc (.head _) (fun _ h => absurd h List.not_mem_nil))
  refine lv_aload_n hx hb d_10_2_8 rfl (lv_at hl 0 rfl) ?_
  refine q_get (ci := 8) (j := 3) (v := .ref qO2) C0 V i_Rea rfl rfl hO0 (by decide) w_289 rfl d_10_2_9 ?_
  replace hO2 := (hg6 _ (q_nc n_O2_O0 List.not_mem_nil)).trans ((hg3 _ (q_nc n_O2_O0 List.not_mem_nil)).trans (hO2))
  refine q_get (ci := 4) (j := 0) (v := .ref qO4) C0 V i_Mil rfl rfl hO2 (by decide) w_109 rfl d_10_2_12 ?_
  refine lv_astore_n (lv' := [(2, .ref qO4), (0, .ref qO0), (1, .int x1)]) hx hb d_10_2_15 rfl hl (by decide) rfl (fun ls hl => ?_)
  refine lv_aload_n hx hb d_10_2_16 rfl (lv_at hl 0 rfl) ?_
  replace hO4 := (hg6 _ (q_nc n_O4_O0 List.not_mem_nil)).trans ((hg3 _ (q_nc n_O4_O0 List.not_mem_nil)).trans (hO4))
  refine q_gov V (q_runV (As := []) (rest := []) (d := 1) (mc := 0) (ms := 0) (ci := 2) C0 V rfl LV_Rea_31 (c_Big_clear l D g u5 kO4 qO4 qA14 0 0 hO4 _) rfl rfl hO4 rfl hl.1 rfl (Nat.le_of_ble_eq_true rfl) ⟨by decide, by decide⟩ ⟨Nat.le_of_ble_eq_true rfl, Nat.le_of_ble_eq_true rfl⟩ d_10_2_17) (fun u8 H locs hp7 V => ?_)
  obtain ⟨hg9, hO4⟩ := hp7
  replace hF := q_uc hF hg9 (q_sc (.tail _ (.head _)) (fun _ h => absurd h List.not_mem_nil))
  refine lv_iconst (v := 1) hx hb d_10_2_20 (by decide) ?_
  refine lv_istore_n (lv' := [(3, .int 1), (2, .ref qO4), (0, .ref qO0), (1, .int x1)]) hx hb d_10_2_21 rfl hl (by decide) rfl (fun ls hl => ?_)
  refine lv_aload_n hx hb d_10_2_22 rfl (lv_at hl 2 rfl) ?_
  replace hO0 := (hg9 _ (q_nc n_O0_O4 List.not_mem_nil)).trans (hO0)
  refine q_get (ci := 8) (j := 4) (v := .int 0) C0 V i_Rea rfl rfl hO0 (by decide) w_290 rfl d_10_2_23 ?_
  refine lv_aload_n hx hb d_10_2_26 rfl (lv_at hl 2 rfl) ?_
  refine q_get (ci := 8) (j := 5) (v := .int 0) C0 V i_Rea rfl rfl hO0 (by decide) w_291 rfl d_10_2_27 ?_
  refine lv_icmp_lt (tgt := 35) hx hb d_10_2_30 (by decide) (fun c10 => absurd c10 (by decide)) (fun c10 => ?_)
  refine lv_iconst (v := 0) hx hb d_10_2_33 (by decide) ?_
  exact q_reti C0 V (⟨rfl, hF, hO0, hO4⟩) d_10_2_34
theorem d_1_4_0 : decode prog_1_method_4_code 0 = .ok (.iload_n 1, 1) := by decide +kernel
theorem d_1_4_1 : decode prog_1_method_4_code 1 = .ok (.iload_n 2, 1) := by decide +kernel
theorem d_1_4_2 : decode prog_1_method_4_code 2 = .ok (.invokestatic 118, 3) := by decide +kernel
theorem d_1_4_5 : decode prog_1_method_4_code 5 = .ok (.iload_n 1, 1) := by decide +kernel
theorem d_1_4_6 : decode prog_1_method_4_code 6 = .ok (.ifCond .ne 22, 3) := by decide +kernel
theorem d_1_4_28 : decode prog_1_method_4_code 28 = .ok (.iload_n 3, 1) := by decide +kernel
theorem d_1_4_29 : decode prog_1_method_4_code 29 = .ok (.bipush 10, 2) := by decide +kernel
theorem d_1_4_31 : decode prog_1_method_4_code 31 = .ok (.if_icmp .ne 7, 3) := by decide +kernel
theorem d_1_4_38 : decode prog_1_method_4_code 38 = .ok (.iconst 0, 1) := by decide +kernel
theorem d_1_4_39 : decode prog_1_method_4_code 39 = .ok (.invokestatic 104, 3) := by decide +kernel
theorem d_1_4_34 : decode prog_1_method_4_code 34 = .ok (.iconst 1, 1) := by decide +kernel
theorem d_1_4_35 : decode prog_1_method_4_code 35 = .ok (.goto 4, 3) := by decide +kernel
theorem d_1_4_42 : decode prog_1_method_4_code 42 = .ok (.iload_n 1, 1) := by decide +kernel
theorem d_1_4_43 : decode prog_1_method_4_code 43 = .ok (.ifCond .ne 16, 3) := by decide +kernel
theorem d_1_4_59 : decode prog_1_method_4_code 59 = .ok (.iload_n 1, 1) := by decide +kernel
theorem d_1_4_60 : decode prog_1_method_4_code 60 = .ok (.iconst 1, 1) := by decide +kernel
theorem d_1_4_61 : decode prog_1_method_4_code 61 = .ok (.if_icmp .ne 15, 3) := by decide +kernel
theorem d_1_4_76 : decode prog_1_method_4_code 76 = .ok (.aload_n 0, 1) := by decide +kernel
theorem d_1_4_77 : decode prog_1_method_4_code 77 = .ok (.getfield 80, 3) := by decide +kernel
theorem d_1_4_80 : decode prog_1_method_4_code 80 = .ok (.aload_n 0, 1) := by decide +kernel
theorem d_1_4_81 : decode prog_1_method_4_code 81 = .ok (.iload_n 1, 1) := by decide +kernel
theorem d_1_4_82 : decode prog_1_method_4_code 82 = .ok (.invokevirtual 130, 3) := by decide +kernel
theorem d_1_4_85 : decode prog_1_method_4_code 85 = .ok (.invokevirtual 134, 3) := by decide +kernel
theorem w_645 : (Cond.code ({ cls := "NumberHouse$Reader", name := "floatText", desc := "(LNumberHouse$Floats;)I" } : MethodName) prog_10_method_4_code (5 : Nat) (some .int)) ∈ q_tbl := q_of 645 (by decide +kernel) (by decide +kernel)
theorem w_642 : (Cond.methodLink "NumberHouse" (134 : Nat) ({ cls := "NumberHouse$Reader", name := "floatText", desc := "(LNumberHouse$Floats;)I" } : MethodName)) ∈ q_tbl := q_of 642 (by decide +kernel) (by decide +kernel)
theorem w_643 : (Cond.instanceMethod ({ cls := "NumberHouse$Reader", name := "floatText", desc := "(LNumberHouse$Floats;)I" } : MethodName)) ∈ q_tbl := q_of 643 (by decide +kernel) (by decide +kernel)
theorem w_644 : (Cond.selects "NumberHouse$Reader" ({ cls := "NumberHouse$Reader", name := "floatText", desc := "(LNumberHouse$Floats;)I" } : MethodName) ({ cls := "NumberHouse$Reader", name := "floatText", desc := "(LNumberHouse$Floats;)I" } : MethodName)) ∈ q_tbl := q_of 644 (by decide +kernel) (by decide +kernel)
theorem LV_NH_134 : q_LV "NumberHouse" 134 y_Rea_floatText prog_10_method_4_code 5 (some .int) 1 := ⟨w_645, w_10, w_642, w_643, w_644, ⟨by decide, by decide, by decide +kernel⟩⟩
theorem d_1_4_88 : decode prog_1_method_4_code 88 = .ok (.istore 4, 2) := by decide +kernel
theorem d_1_4_90 : decode prog_1_method_4_code 90 = .ok (.iload 4, 2) := by decide +kernel
theorem d_1_4_92 : decode prog_1_method_4_code 92 = .ok (.ifCond .ne 5, 3) := by decide +kernel
theorem d_1_4_95 : decode prog_1_method_4_code 95 = .ok (.iconst 0, 1) := by decide +kernel
theorem d_1_4_96 : decode prog_1_method_4_code 96 = .ok (.ireturn, 1) := by decide +kernel
theorem d_1_4_64 : decode prog_1_method_4_code 64 = .ok (.aload_n 0, 1) := by decide +kernel
theorem d_1_4_65 : decode prog_1_method_4_code 65 = .ok (.getfield 80, 3) := by decide +kernel
theorem d_1_4_68 : decode prog_1_method_4_code 68 = .ok (.invokevirtual 126, 3) := by decide +kernel
theorem w_623 : (Cond.code ({ cls := "NumberHouse$Reader", name := "decimalText", desc := "()I" } : MethodName) prog_10_method_3_code (1 : Nat) (some .int)) ∈ q_tbl := q_of 623 (by decide +kernel) (by decide +kernel)
theorem w_620 : (Cond.methodLink "NumberHouse" (126 : Nat) ({ cls := "NumberHouse$Reader", name := "decimalText", desc := "()I" } : MethodName)) ∈ q_tbl := q_of 620 (by decide +kernel) (by decide +kernel)
theorem w_621 : (Cond.instanceMethod ({ cls := "NumberHouse$Reader", name := "decimalText", desc := "()I" } : MethodName)) ∈ q_tbl := q_of 621 (by decide +kernel) (by decide +kernel)
theorem w_622 : (Cond.selects "NumberHouse$Reader" ({ cls := "NumberHouse$Reader", name := "decimalText", desc := "()I" } : MethodName) ({ cls := "NumberHouse$Reader", name := "decimalText", desc := "()I" } : MethodName)) ∈ q_tbl := q_of 622 (by decide +kernel) (by decide +kernel)
theorem LV_NH_126 : q_LV "NumberHouse" 126 y_Rea_decimalText prog_10_method_3_code 1 (some .int) 0 := ⟨w_623, w_10, w_620, w_621, w_622, ⟨by decide, by decide, by decide +kernel⟩⟩
theorem d_1_4_71 : decode prog_1_method_4_code 71 = .ok (.istore 4, 2) := by decide +kernel
theorem d_1_4_73 : decode prog_1_method_4_code 73 = .ok (.goto 17, 3) := by decide +kernel
theorem d_1_4_9 : decode prog_1_method_4_code 9 = .ok (.iload_n 3, 1) := by decide +kernel
theorem d_1_4_10 : decode prog_1_method_4_code 10 = .ok (.iconst 2, 1) := by decide +kernel
theorem d_1_4_11 : decode prog_1_method_4_code 11 = .ok (.if_icmp .lt 13, 3) := by decide +kernel
theorem d_1_4_24 : decode prog_1_method_4_code 24 = .ok (.iconst 0, 1) := by decide +kernel
theorem d_1_4_25 : decode prog_1_method_4_code 25 = .ok (.goto 14, 3) := by decide +kernel
theorem d_1_4_14 : decode prog_1_method_4_code 14 = .ok (.iload_n 3, 1) := by decide +kernel
theorem d_1_4_15 : decode prog_1_method_4_code 15 = .ok (.bipush 36, 2) := by decide +kernel
theorem d_1_4_17 : decode prog_1_method_4_code 17 = .ok (.if_icmp .gt 7, 3) := by decide +kernel
theorem d_1_4_20 : decode prog_1_method_4_code 20 = .ok (.iconst 1, 1) := by decide +kernel
theorem d_1_4_21 : decode prog_1_method_4_code 21 = .ok (.goto 18, 3) := by decide +kernel
theorem d_1_4_46 : decode prog_1_method_4_code 46 = .ok (.aload_n 0, 1) := by decide +kernel
theorem d_1_4_47 : decode prog_1_method_4_code 47 = .ok (.getfield 80, 3) := by decide +kernel
theorem d_1_4_50 : decode prog_1_method_4_code 50 = .ok (.iload_n 3, 1) := by decide +kernel
theorem d_1_4_51 : decode prog_1_method_4_code 51 = .ok (.invokevirtual 122, 3) := by decide +kernel
theorem w_584 : (Cond.code ({ cls := "NumberHouse$Reader", name := "wholeText", desc := "(I)I" } : MethodName) prog_10_method_2_code (5 : Nat) (some .int)) ∈ q_tbl := q_of 584 (by decide +kernel) (by decide +kernel)
theorem w_581 : (Cond.methodLink "NumberHouse" (122 : Nat) ({ cls := "NumberHouse$Reader", name := "wholeText", desc := "(I)I" } : MethodName)) ∈ q_tbl := q_of 581 (by decide +kernel) (by decide +kernel)
theorem w_582 : (Cond.instanceMethod ({ cls := "NumberHouse$Reader", name := "wholeText", desc := "(I)I" } : MethodName)) ∈ q_tbl := q_of 582 (by decide +kernel) (by decide +kernel)
theorem w_583 : (Cond.selects "NumberHouse$Reader" ({ cls := "NumberHouse$Reader", name := "wholeText", desc := "(I)I" } : MethodName) ({ cls := "NumberHouse$Reader", name := "wholeText", desc := "(I)I" } : MethodName)) ∈ q_tbl := q_of 583 (by decide +kernel) (by decide +kernel)
theorem LV_NH_122 : q_LV "NumberHouse" 122 y_Rea_wholeText prog_10_method_2_code 5 (some .int) 1 := ⟨w_584, w_10, w_581, w_582, w_583, ⟨by decide, by decide, by decide +kernel⟩⟩
theorem d_1_4_54 : decode prog_1_method_4_code 54 = .ok (.istore 4, 2) := by decide +kernel
theorem d_1_4_56 : decode prog_1_method_4_code 56 = .ok (.goto 34, 3) := by decide +kernel
def y_NH_read : MethodName := ⟨"NumberHouse", "read", "(III)Z"⟩
set_option maxRecDepth 100000 in
set_option maxHeartbeats 4000000 in
/-- read on a fresh object -/
theorem c_NH_read (l : Launch) (D : va_G) (g : Nat → ClassId) (ws : va_W) (hlt : l.stackTraces = false) ( qO0 qO1 qO2 qA3 qA4 qA5 qA6 qO7 qO8 qO9 qO10 qO11 qO12 qO13 qO14 qA15 qO17 qO18 qO19 qO20 qO21 qO22 qO23 qO24 qO25 qO26 qA35 : Nat) (x1 : Int32) (x2 : Int32) (x3 : Int32) (hO0 : ws[0]? = (some (qO0, .inr (0, [.ref qO1, .ref qO2, .ref qA3, .ref qA4, .ref qA5, .ref qA6, .ref qO7, .ref qO8, .ref qO9, .ref qO10, .ref qO11, .ref qO12, .ref qO13, .ref qO14])) : Option (Nat × va_E))) (hO1 : ws[1]? = (some (qO1, .inr (1, [.ref qA15, .int 4100, .int 0])) : Option (Nat × va_E))) (hO7 : ws[9]? = (some (qO7, .inr (4, [.ref qO17, .ref qO18, .ref qO19, .ref qO20, .ref qO21, .ref qO22, .ref qO23, .ref qO24, .ref qO25, .ref qO26])) : Option (Nat × va_E))) (hO9 : ws[34]? = (some (qO9, .inr (6, [.int 52, .int 1075, .int 2047, .long 0, .int 0, .ref qO7, .int 0])) : Option (Nat × va_E))) (hO10 : ws[35]? = (some (qO10, .inr (6, [.int 23, .int 150, .int 255, .long 0, .int 0, .ref qO7, .int 0])) : Option (Nat × va_E))) (hO12 : ws[38]? = (some (qO12, .inr (8, [.long 0, .long 0, .ref qO1, .ref qO7, .int 0, .int 0, .int 0, .int 0, .int 0, .int 0, .int 0, .long 0])) : Option (Nat × va_E))) (hO17 : ws[10]? = (some (qO17, .inr (2, [.ref qA35, .int 0, .int 0])) : Option (Nat × va_E))) : q_xI l y_NH_read prog_1_method_4_code 5 (.boolean) 9 2 12 D g [.ref qO0, .int x1, .int x2, .int x3] ws (fun r u => (((0 ≤ x1.toInt ∧ x1.toInt ≤ 3) ∧ (0 ≤ x2.toInt ∧ x2.toInt ≤ 9) ∧ (x1.toInt = 0 → (2 ≤ x3.toInt ∧ x3.toInt ≤ 36)) ∧ (x1.toInt ≠ 0 → x3.toInt = 10)) ∧ r.toInt = 0) ∧ q_ge 116 ws u) (fun E u => (("java/lang/IllegalArgumentException" = E ∧ (¬ ((0 ≤ x1.toInt ∧ x1.toInt ≤ 3) ∧ (0 ≤ x2.toInt ∧ x2.toInt ≤ 9) ∧ (x1.toInt = 0 → (2 ≤ x3.toInt ∧ x3.toInt ≤ 36)) ∧ (x1.toInt ≠ 0 → x3.toInt = 10))))) ∧ q_ge 116 ws u) := by
  intro sz
  refine q_intoX (by decide) (Nat.le_of_ble_eq_true rfl) ?_
  intro p e s m below meth c ls hsz C0 V hno hl
  have hx := C0.1
  have hb := C0.2.1
  have hl : lv_has ls 5 [(0, .ref qO0), (1, .int x1), (2, .int x2), (3, .int x3)] := hl
  have hF : q_ge 116 ws ws := q_g0
  refine lv_iload_n hx hb d_1_4_0 rfl (lv_at hl 1 rfl) ?_
  refine lv_iload_n hx hb d_1_4_1 rfl (lv_at hl 2 rfl) ?_
  refine q_goxv V (q_runSX (As := [.int x1, .int x2]) (rest := []) (d := 8) (mc := 1) (ms := 6) C0 V rfl LS_NH_118 (c_NH_needRegister l D g ws hlt x1 x2 _) rfl hl.1 rfl (Nat.le_of_ble_eq_true rfl) ⟨by decide, by decide⟩ ⟨Nat.le_of_ble_eq_true rfl, Nat.le_of_ble_eq_true rfl⟩ d_1_4_2) (fun qx Ex ce u2 H locs hp1 V hce hcv hcl => ?_) (fun u2 H locs hp1 V => ?_)
  ·
    rcases hp1 with ⟨c3, rfl, rfl⟩ | ⟨c5, c6, rfl, rfl⟩ | ⟨c8, c9, c10, rfl, rfl⟩ | ⟨c12, c13, c14, c15, rfl, rfl⟩
    ·
      exact q_outT hno C0 V (⟨⟨rfl, (show ¬ ((0 ≤ x1.toInt ∧ x1.toInt ≤ 3) ∧ (0 ≤ x2.toInt ∧ x2.toInt ≤ 9) ∧ (x1.toInt = 0 → (2 ≤ x3.toInt ∧ x3.toInt ≤ 36)) ∧ (x1.toInt ≠ 0 → x3.toInt = 10)) from by have t1 : x1.toInt < 0 := q_ltI c3; omega)⟩, hF⟩) hce hcv hcl (Nat.le_of_ble_eq_true rfl) (Nat.le_of_ble_eq_true rfl)
    ·
      exact q_outT hno C0 V (⟨⟨rfl, (show ¬ ((0 ≤ x1.toInt ∧ x1.toInt ≤ 3) ∧ (0 ≤ x2.toInt ∧ x2.toInt ≤ 9) ∧ (x1.toInt = 0 → (2 ≤ x3.toInt ∧ x3.toInt ≤ 36)) ∧ (x1.toInt ≠ 0 → x3.toInt = 10)) from by have t1 : 0 ≤ x1.toInt := q_nltI c5; have t2 : 3 < x1.toInt := q_ltI c6; omega)⟩, hF⟩) hce hcv hcl (Nat.le_of_ble_eq_true rfl) (Nat.le_of_ble_eq_true rfl)
    ·
      exact q_outT hno C0 V (⟨⟨rfl, (show ¬ ((0 ≤ x1.toInt ∧ x1.toInt ≤ 3) ∧ (0 ≤ x2.toInt ∧ x2.toInt ≤ 9) ∧ (x1.toInt = 0 → (2 ≤ x3.toInt ∧ x3.toInt ≤ 36)) ∧ (x1.toInt ≠ 0 → x3.toInt = 10)) from by have t1 : 0 ≤ x1.toInt := q_nltI c8; have t2 : x1.toInt ≤ 3 := q_nltI c9; have t3 : x2.toInt < 0 := q_ltI c10; omega)⟩, hF⟩) hce hcv hcl (Nat.le_of_ble_eq_true rfl) (Nat.le_of_ble_eq_true rfl)
    ·
      exact q_outT hno C0 V (⟨⟨rfl, (show ¬ ((0 ≤ x1.toInt ∧ x1.toInt ≤ 3) ∧ (0 ≤ x2.toInt ∧ x2.toInt ≤ 9) ∧ (x1.toInt = 0 → (2 ≤ x3.toInt ∧ x3.toInt ≤ 36)) ∧ (x1.toInt ≠ 0 → x3.toInt = 10)) from by have t1 : 0 ≤ x1.toInt := q_nltI c12; have t2 : x1.toInt ≤ 3 := q_nltI c13; have t3 : 0 ≤ x2.toInt := q_nltI c14; have t4 : 10 ≤ x2.toInt := q_leI c15; omega)⟩, hF⟩) hce hcv hcl (Nat.le_of_ble_eq_true rfl) (Nat.le_of_ble_eq_true rfl)
  ·
    obtain ⟨c17, c18, c19, c20, rfl⟩ := hp1
    refine lv_iload_n hx hb d_1_4_5 rfl (lv_at hl 1 rfl) ?_
    refine lv_if_ne (tgt := 28) hx hb d_1_4_6 (by decide) (fun c22 => ?_) (fun c22 => ?_)
    ·
      refine lv_iload_n hx hb d_1_4_28 rfl (lv_at hl 3 rfl) ?_
      refine lv_bipush (v := 10) hx hb d_1_4_29 (by decide) ?_
      refine lv_icmp_ne (tgt := 38) hx hb d_1_4_31 (by decide) (fun c23 => ?_) (fun c23 => ?_)
      ·
        refine lv_iconst (v := 0) hx hb d_1_4_38 (by decide) ?_
        refine q_goxv V (q_runSX (As := [.int 0]) (rest := []) (d := 7) (mc := 1) (ms := 6) C0 V rfl LS_NH_104 (c_NH_need l D g ws hlt 0 _) rfl hl.1 rfl (Nat.le_of_ble_eq_true rfl) ⟨by decide, by decide⟩ ⟨Nat.le_of_ble_eq_true rfl, Nat.le_of_ble_eq_true rfl⟩ d_1_4_39) (fun qx Ex ce u25 H locs hp24 V hce hcv hcl => ?_) (fun u25 H locs hp24 V => ?_)
        ·
          obtain ⟨c26, rfl, rfl⟩ := hp24
          exact q_outT hno C0 V (⟨⟨rfl, (show ¬ ((0 ≤ x1.toInt ∧ x1.toInt ≤ 3) ∧ (0 ≤ x2.toInt ∧ x2.toInt ≤ 9) ∧ (x1.toInt = 0 → (2 ≤ x3.toInt ∧ x3.toInt ≤ 36)) ∧ (x1.toInt ≠ 0 → x3.toInt = 10)) from by have t1 : 0 ≤ x1.toInt := q_nltI c17; have t2 : x1.toInt ≤ 3 := q_nltI c18; have t3 : 0 ≤ x2.toInt := q_nltI c19; have t4 : x2.toInt < 10 := q_nleI c20; have t5 : x1.toInt ≠ 0 := q_neI c22; have t6 : x3.toInt ≠ 10 := q_neI c23; omega)⟩, hF⟩) hce hcv hcl (Nat.le_of_ble_eq_true rfl) (Nat.le_of_ble_eq_true rfl)
        ·
          obtain ⟨c28, rfl⟩ := hp24
          exact absurd c28 (by decide)
      ·
        refine lv_iconst (v := 1) hx hb d_1_4_34 (by decide) ?_
        refine lv_goto (tgt := 39) hx hb d_1_4_35 (by decide) ?_
        refine q_goxv V (q_runSX (As := [.int 1]) (rest := []) (d := 7) (mc := 1) (ms := 6) C0 V rfl LS_NH_104 (c_NH_need l D g ws hlt 1 _) rfl hl.1 rfl (Nat.le_of_ble_eq_true rfl) ⟨by decide, by decide⟩ ⟨Nat.le_of_ble_eq_true rfl, Nat.le_of_ble_eq_true rfl⟩ d_1_4_39) (fun qx Ex ce u31 H locs hp30 V hce hcv hcl => ?_) (fun u31 H locs hp30 V => ?_)
        ·
          obtain ⟨c32, rfl, rfl⟩ := hp30
          exact absurd c32 (by decide)
        ·
          obtain ⟨c34, rfl⟩ := hp30
          refine lv_iload_n hx hb d_1_4_42 rfl (lv_at hl 1 rfl) ?_
          refine lv_if_ne (tgt := 59) hx hb d_1_4_43 (by decide) (fun c36 => ?_) (fun c36 => absurd c36 c22)
          refine lv_iload_n hx hb d_1_4_59 rfl (lv_at hl 1 rfl) ?_
          refine lv_iconst (v := 1) hx hb d_1_4_60 (by decide) ?_
          refine lv_icmp_ne (tgt := 76) hx hb d_1_4_61 (by decide) (fun c37 => ?_) (fun c37 => ?_)
          ·
            refine lv_aload_n hx hb d_1_4_76 rfl (lv_at hl 0 rfl) ?_
            refine q_get (ci := 0) (j := 11) (v := .ref qO12) C0 V i_NH rfl rfl hO0 (by decide) w_435 rfl d_1_4_77 ?_
            refine lv_aload_n hx hb d_1_4_80 rfl (lv_at hl 0 rfl) ?_
            refine lv_iload_n hx hb d_1_4_81 rfl (lv_at hl 1 rfl) ?_
            refine q_gor (post := fun r u => (¬ x1 = 2 ∧ qO10 = r ∧ ws = u) ∨ (x1 = 2 ∧ qO9 = r ∧ ws = u)) V (q_runV (As := [.int x1]) (rest := [.ref qO12]) (d := 1) (mc := 0) (ms := 0) (ci := 0) C0 V rfl LV_NH_130 (c_NH_floatsOf l D g ws qO0 qO1 qO2 qA3 qA4 qA5 qA6 qO7 qO8 qO9 qO10 qO11 qO12 qO13 qO14 x1 hO0 (q_Ile (x := 2) (y := x1.toInt) (by decide) rfl (by have t1 : 0 ≤ x1.toInt := q_nltI c17; have t2 : x1.toInt ≤ 3 := q_nltI c18; have t3 : x1.toInt ≠ 0 := q_neI c22; have t4 : x1.toInt ≠ 1 := q_neI c37; omega)) (q_Ile (x := x1.toInt) (y := 3) rfl (by decide) (by have t1 : 0 ≤ x1.toInt := q_nltI c17; have t2 : x1.toInt ≤ 3 := q_nltI c18; have t3 : x1.toInt ≠ 0 := q_neI c22; have t4 : x1.toInt ≠ 1 := q_neI c37; omega)) _) rfl rfl hO0 rfl hl.1 rfl (Nat.le_of_ble_eq_true rfl) ⟨by decide, by decide⟩ ⟨Nat.le_of_ble_eq_true rfl, Nat.le_of_ble_eq_true rfl⟩ d_1_4_82) (fun v40 u39 H locs hp38 V => ?_)
            rcases hp38 with ⟨c41, rfl, rfl⟩ | ⟨c43, rfl, rfl⟩
            ·
              refine q_goi V (q_runV (As := [.ref qO10]) (rest := []) (d := 4) (mc := 0) (ms := 0) (ci := 8) C0 V rfl LV_NH_134 (c_Rea_floatText l D g ws 38 35 1 9 10 qO12 qO10 qO1 qO7 qA15 qO17 qO18 qO19 qO20 qO21 qO22 qO23 qO24 qO25 qO26 qA35 hO12 hO10 hO1 hO7 hO17 _) rfl rfl hO12 rfl hl.1 rfl (Nat.le_of_ble_eq_true rfl) ⟨by decide, by decide⟩ ⟨Nat.le_of_ble_eq_true rfl, Nat.le_of_ble_eq_true rfl⟩ d_1_4_85) (fun v47 u46 H locs hp45 V => ?_)
              obtain ⟨rfl, hg48, hO12, hO17⟩ := hp45
              replace hF := q_gc hF hg48 (q_al (Nat.le_of_ble_eq_true rfl) (q_al (Nat.le_of_ble_eq_true rfl) (fun _ h => absurd h List.not_mem_nil)))
              refine lv_istore (lv' := [(4, .int 0), (0, .ref qO0), (1, .int x1), (2, .int x2), (3, .int x3)]) hx hb d_1_4_88 hl (by decide) rfl (fun ls hl => ?_)
              refine lv_iload hx hb d_1_4_90 (lv_at hl 0 rfl) ?_
              refine lv_if_ne (tgt := 97) hx hb d_1_4_92 (by decide) (fun c49 => absurd (by decide) c49) (fun c49 => ?_)
              refine lv_iconst (v := 0) hx hb d_1_4_95 (by decide) ?_
              exact q_retX (q_retz C0 V (rfl) (⟨(show ((0 ≤ x1.toInt ∧ x1.toInt ≤ 3) ∧ (0 ≤ x2.toInt ∧ x2.toInt ≤ 9) ∧ (x1.toInt = 0 → (2 ≤ x3.toInt ∧ x3.toInt ≤ 36)) ∧ (x1.toInt ≠ 0 → x3.toInt = 10)) ∧ (0 : Int32).toInt = 0 from by have t1 : 0 ≤ x1.toInt := q_nltI c17; have t2 : x1.toInt ≤ 3 := q_nltI c18; have t3 : 0 ≤ x2.toInt := q_nltI c19; have t4 : x2.toInt < 10 := q_nleI c20; have t5 : x1.toInt ≠ 0 := q_neI c22; have t6 : x3.toInt = 10 := q_eqI c23; have t7 : x1.toInt ≠ 1 := q_neI c37; have t8 : x1.toInt ≠ 2 := q_neI c41; have e0 : (0 : Int32).toInt = 0 := (by decide); omega), hF⟩) d_1_4_96)
            ·
              refine q_goi V (q_runV (As := [.ref qO9]) (rest := []) (d := 4) (mc := 0) (ms := 0) (ci := 8) C0 V rfl LV_NH_134 (c_Rea_floatText_2 l D g ws 38 34 1 9 10 qO12 qO9 qO1 qO7 qA15 qO17 qO18 qO19 qO20 qO21 qO22 qO23 qO24 qO25 qO26 qA35 hO12 hO9 hO1 hO7 hO17 _) rfl rfl hO12 rfl hl.1 rfl (Nat.le_of_ble_eq_true rfl) ⟨by decide, by decide⟩ ⟨Nat.le_of_ble_eq_true rfl, Nat.le_of_ble_eq_true rfl⟩ d_1_4_85) (fun v52 u51 H locs hp50 V => ?_)
              obtain ⟨rfl, hg53, hO12, hO17⟩ := hp50
              replace hF := q_gc hF hg53 (q_al (Nat.le_of_ble_eq_true rfl) (q_al (Nat.le_of_ble_eq_true rfl) (fun _ h => absurd h List.not_mem_nil)))
              refine lv_istore (lv' := [(4, .int 0), (0, .ref qO0), (1, .int x1), (2, .int x2), (3, .int x3)]) hx hb d_1_4_88 hl (by decide) rfl (fun ls hl => ?_)
              refine lv_iload hx hb d_1_4_90 (lv_at hl 0 rfl) ?_
              refine lv_if_ne (tgt := 97) hx hb d_1_4_92 (by decide) (fun c54 => absurd (by decide) c54) (fun c54 => ?_)
              refine lv_iconst (v := 0) hx hb d_1_4_95 (by decide) ?_
              exact q_retX (q_retz C0 V (rfl) (⟨(show ((0 ≤ x1.toInt ∧ x1.toInt ≤ 3) ∧ (0 ≤ x2.toInt ∧ x2.toInt ≤ 9) ∧ (x1.toInt = 0 → (2 ≤ x3.toInt ∧ x3.toInt ≤ 36)) ∧ (x1.toInt ≠ 0 → x3.toInt = 10)) ∧ (0 : Int32).toInt = 0 from by have t1 : 0 ≤ x1.toInt := q_nltI c17; have t2 : x1.toInt ≤ 3 := q_nltI c18; have t3 : 0 ≤ x2.toInt := q_nltI c19; have t4 : x2.toInt < 10 := q_nleI c20; have t5 : x1.toInt ≠ 0 := q_neI c22; have t6 : x3.toInt = 10 := q_eqI c23; have t7 : x1.toInt ≠ 1 := q_neI c37; have t8 : x1.toInt = 2 := q_eqI c43; have e0 : (0 : Int32).toInt = 0 := (by decide); omega), hF⟩) d_1_4_96)
          ·
            refine lv_aload_n hx hb d_1_4_64 rfl (lv_at hl 0 rfl) ?_
            refine q_get (ci := 0) (j := 11) (v := .ref qO12) C0 V i_NH rfl rfl hO0 (by decide) w_435 rfl d_1_4_65 ?_
            refine q_goi V (q_runV (As := []) (rest := []) (d := 3) (mc := 0) (ms := 0) (ci := 8) C0 V rfl LV_NH_126 (c_Rea_decimalText l D g ws 38 1 9 10 qO12 qO1 qO7 qA15 qO17 qO18 qO19 qO20 qO21 qO22 qO23 qO24 qO25 qO26 qA35 hO12 hO1 hO7 hO17 _) rfl rfl hO12 rfl hl.1 rfl (Nat.le_of_ble_eq_true rfl) ⟨by decide, by decide⟩ ⟨Nat.le_of_ble_eq_true rfl, Nat.le_of_ble_eq_true rfl⟩ d_1_4_68) (fun v57 u56 H locs hp55 V => ?_)
            obtain ⟨rfl, hg58, hO12, hO17⟩ := hp55
            replace hF := q_gc hF hg58 (q_al (Nat.le_of_ble_eq_true rfl) (q_al (Nat.le_of_ble_eq_true rfl) (fun _ h => absurd h List.not_mem_nil)))
            refine lv_istore (lv' := [(4, .int 0), (0, .ref qO0), (1, .int x1), (2, .int x2), (3, .int x3)]) hx hb d_1_4_71 hl (by decide) rfl (fun ls hl => ?_)
            refine lv_goto (tgt := 90) hx hb d_1_4_73 (by decide) ?_
            refine lv_iload hx hb d_1_4_90 (lv_at hl 0 rfl) ?_
            refine lv_if_ne (tgt := 97) hx hb d_1_4_92 (by decide) (fun c59 => absurd (by decide) c59) (fun c59 => ?_)
            refine lv_iconst (v := 0) hx hb d_1_4_95 (by decide) ?_
            exact q_retX (q_retz C0 V (rfl) (⟨(show ((0 ≤ x1.toInt ∧ x1.toInt ≤ 3) ∧ (0 ≤ x2.toInt ∧ x2.toInt ≤ 9) ∧ (x1.toInt = 0 → (2 ≤ x3.toInt ∧ x3.toInt ≤ 36)) ∧ (x1.toInt ≠ 0 → x3.toInt = 10)) ∧ (0 : Int32).toInt = 0 from by have t1 : 0 ≤ x1.toInt := q_nltI c17; have t2 : x1.toInt ≤ 3 := q_nltI c18; have t3 : 0 ≤ x2.toInt := q_nltI c19; have t4 : x2.toInt < 10 := q_nleI c20; have t5 : x1.toInt ≠ 0 := q_neI c22; have t6 : x3.toInt = 10 := q_eqI c23; have t7 : x1.toInt = 1 := q_eqI c37; have e0 : (0 : Int32).toInt = 0 := (by decide); omega), hF⟩) d_1_4_96)
    ·
      refine lv_iload_n hx hb d_1_4_9 rfl (lv_at hl 3 rfl) ?_
      refine lv_iconst (v := 2) hx hb d_1_4_10 (by decide) ?_
      refine lv_icmp_lt (tgt := 24) hx hb d_1_4_11 (by decide) (fun c60 => ?_) (fun c60 => ?_)
      ·
        refine lv_iconst (v := 0) hx hb d_1_4_24 (by decide) ?_
        refine lv_goto (tgt := 39) hx hb d_1_4_25 (by decide) ?_
        refine q_goxv V (q_runSX (As := [.int 0]) (rest := []) (d := 7) (mc := 1) (ms := 6) C0 V rfl LS_NH_104 (c_NH_need l D g ws hlt 0 _) rfl hl.1 rfl (Nat.le_of_ble_eq_true rfl) ⟨by decide, by decide⟩ ⟨Nat.le_of_ble_eq_true rfl, Nat.le_of_ble_eq_true rfl⟩ d_1_4_39) (fun qx Ex ce u62 H locs hp61 V hce hcv hcl => ?_) (fun u62 H locs hp61 V => ?_)
        ·
          obtain ⟨c63, rfl, rfl⟩ := hp61
          exact q_outT hno C0 V (⟨⟨rfl, (show ¬ ((0 ≤ x1.toInt ∧ x1.toInt ≤ 3) ∧ (0 ≤ x2.toInt ∧ x2.toInt ≤ 9) ∧ (x1.toInt = 0 → (2 ≤ x3.toInt ∧ x3.toInt ≤ 36)) ∧ (x1.toInt ≠ 0 → x3.toInt = 10)) from by have t1 : 0 ≤ x1.toInt := q_nltI c17; have t2 : x1.toInt ≤ 3 := q_nltI c18; have t3 : 0 ≤ x2.toInt := q_nltI c19; have t4 : x2.toInt < 10 := q_nleI c20; have t5 : x1.toInt = 0 := q_eqI c22; have t6 : x3.toInt < 2 := q_ltI c60; omega)⟩, hF⟩) hce hcv hcl (Nat.le_of_ble_eq_true rfl) (Nat.le_of_ble_eq_true rfl)
        ·
          obtain ⟨c65, rfl⟩ := hp61
          exact absurd c65 (by decide)
      ·
        refine lv_iload_n hx hb d_1_4_14 rfl (lv_at hl 3 rfl) ?_
        refine lv_bipush (v := 36) hx hb d_1_4_15 (by decide) ?_
        refine lv_icmp_gt (tgt := 24) hx hb d_1_4_17 (by decide) (fun c67 => ?_) (fun c67 => ?_)
        ·
          refine lv_iconst (v := 0) hx hb d_1_4_24 (by decide) ?_
          refine lv_goto (tgt := 39) hx hb d_1_4_25 (by decide) ?_
          refine q_goxv V (q_runSX (As := [.int 0]) (rest := []) (d := 7) (mc := 1) (ms := 6) C0 V rfl LS_NH_104 (c_NH_need l D g ws hlt 0 _) rfl hl.1 rfl (Nat.le_of_ble_eq_true rfl) ⟨by decide, by decide⟩ ⟨Nat.le_of_ble_eq_true rfl, Nat.le_of_ble_eq_true rfl⟩ d_1_4_39) (fun qx Ex ce u69 H locs hp68 V hce hcv hcl => ?_) (fun u69 H locs hp68 V => ?_)
          ·
            obtain ⟨c70, rfl, rfl⟩ := hp68
            exact q_outT hno C0 V (⟨⟨rfl, (show ¬ ((0 ≤ x1.toInt ∧ x1.toInt ≤ 3) ∧ (0 ≤ x2.toInt ∧ x2.toInt ≤ 9) ∧ (x1.toInt = 0 → (2 ≤ x3.toInt ∧ x3.toInt ≤ 36)) ∧ (x1.toInt ≠ 0 → x3.toInt = 10)) from by have t1 : 0 ≤ x1.toInt := q_nltI c17; have t2 : x1.toInt ≤ 3 := q_nltI c18; have t3 : 0 ≤ x2.toInt := q_nltI c19; have t4 : x2.toInt < 10 := q_nleI c20; have t5 : x1.toInt = 0 := q_eqI c22; have t6 : 2 ≤ x3.toInt := q_nltI c60; have t7 : 36 < x3.toInt := q_ltI c67; omega)⟩, hF⟩) hce hcv hcl (Nat.le_of_ble_eq_true rfl) (Nat.le_of_ble_eq_true rfl)
          ·
            obtain ⟨c72, rfl⟩ := hp68
            exact absurd c72 (by decide)
        ·
          refine lv_iconst (v := 1) hx hb d_1_4_20 (by decide) ?_
          refine lv_goto (tgt := 39) hx hb d_1_4_21 (by decide) ?_
          refine q_goxv V (q_runSX (As := [.int 1]) (rest := []) (d := 7) (mc := 1) (ms := 6) C0 V rfl LS_NH_104 (c_NH_need l D g ws hlt 1 _) rfl hl.1 rfl (Nat.le_of_ble_eq_true rfl) ⟨by decide, by decide⟩ ⟨Nat.le_of_ble_eq_true rfl, Nat.le_of_ble_eq_true rfl⟩ d_1_4_39) (fun qx Ex ce u75 H locs hp74 V hce hcv hcl => ?_) (fun u75 H locs hp74 V => ?_)
          ·
            obtain ⟨c76, rfl, rfl⟩ := hp74
            exact absurd c76 (by decide)
          ·
            obtain ⟨c78, rfl⟩ := hp74
            refine lv_iload_n hx hb d_1_4_42 rfl (lv_at hl 1 rfl) ?_
            refine q_ti (v := 0) c22 ?_
            refine lv_if_ne (tgt := 59) hx hb d_1_4_43 (by decide) (fun c80 => absurd (by decide) c80) (fun c80 => ?_)
            refine lv_aload_n hx hb d_1_4_46 rfl (lv_at hl 0 rfl) ?_
            refine q_get (ci := 0) (j := 11) (v := .ref qO12) C0 V i_NH rfl rfl hO0 (by decide) w_435 rfl d_1_4_47 ?_
            refine lv_iload_n hx hb d_1_4_50 rfl (lv_at hl 3 rfl) ?_
            refine q_goi V (q_runV (As := [.int x3]) (rest := []) (d := 3) (mc := 0) (ms := 0) (ci := 8) C0 V rfl LV_NH_122 (c_Rea_wholeText l D g ws 38 1 9 10 qO12 qO1 qO7 qA15 qO17 qO18 qO19 qO20 qO21 qO22 qO23 qO24 qO25 qO26 qA35 x3 hO12 hO1 hO7 hO17 (q_Ile (x := 2) (y := x3.toInt) (by decide) rfl (by have t1 : 2 ≤ x3.toInt := q_nltI c60; have t2 : x3.toInt ≤ 36 := q_nltI c67; omega)) (q_Ile (x := x3.toInt) (y := 36) rfl (by decide) (by have t1 : 2 ≤ x3.toInt := q_nltI c60; have t2 : x3.toInt ≤ 36 := q_nltI c67; omega)) _) rfl rfl hO12 rfl hl.1 rfl (Nat.le_of_ble_eq_true rfl) ⟨by decide, by decide⟩ ⟨Nat.le_of_ble_eq_true rfl, Nat.le_of_ble_eq_true rfl⟩ d_1_4_51) (fun v83 u82 H locs hp81 V => ?_)
            obtain ⟨rfl, hg84, hO12, hO17⟩ := hp81
            replace hF := q_gc hF hg84 (q_al (Nat.le_of_ble_eq_true rfl) (q_al (Nat.le_of_ble_eq_true rfl) (fun _ h => absurd h List.not_mem_nil)))
            refine lv_istore (lv' := [(4, .int 0), (0, .ref qO0), (1, .int x1), (2, .int x2), (3, .int x3)]) hx hb d_1_4_54 hl (by decide) rfl (fun ls hl => ?_)
            refine lv_goto (tgt := 90) hx hb d_1_4_56 (by decide) ?_
            refine lv_iload hx hb d_1_4_90 (lv_at hl 0 rfl) ?_
            refine lv_if_ne (tgt := 97) hx hb d_1_4_92 (by decide) (fun c85 => absurd (by decide) c85) (fun c85 => ?_)
            refine lv_iconst (v := 0) hx hb d_1_4_95 (by decide) ?_
            exact q_retX (q_retz C0 V (rfl) (⟨(show ((0 ≤ x1.toInt ∧ x1.toInt ≤ 3) ∧ (0 ≤ x2.toInt ∧ x2.toInt ≤ 9) ∧ (x1.toInt = 0 → (2 ≤ x3.toInt ∧ x3.toInt ≤ 36)) ∧ (x1.toInt ≠ 0 → x3.toInt = 10)) ∧ (0 : Int32).toInt = 0 from by have t1 : 0 ≤ x1.toInt := q_nltI c17; have t2 : x1.toInt ≤ 3 := q_nltI c18; have t3 : 0 ≤ x2.toInt := q_nltI c19; have t4 : x2.toInt < 10 := q_nleI c20; have t5 : x1.toInt = 0 := q_eqI c22; have t6 : 2 ≤ x3.toInt := q_nltI c60; have t7 : x3.toInt ≤ 36 := q_nltI c67; have e0 : (0 : Int32).toInt = 0 := (by decide); omega), hF⟩) d_1_4_96)
