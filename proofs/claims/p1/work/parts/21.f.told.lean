/-! the class on a fresh object: told -/
set_option maxRecDepth 100000 in
set_option maxHeartbeats 4000000 in
theorem c_NH_floatRow_3 (l : Launch) (D : va_G) (g : Nat → ClassId) (ws : va_W) ( qO0 qO1 qO2 qA3 qA4 qA5 qA6 qO7 qO8 qO9 qO10 qO11 qO12 qO13 qO14 : Nat) (x1 : Int32) (hO0 : ws[0]? = (some (qO0, .inr (0, [.ref qO1, .ref qO2, .ref qA3, .ref qA4, .ref qA5, .ref qA6, .ref qO7, .ref qO8, .ref qO9, .ref qO10, .ref qO11, .ref qO12, .ref qO13, .ref qO14])) : Option (Nat × va_E))) (x1lo : 2 ≤ x1) (x1hi : x1 ≤ 3) : q_mR l y_NH_floatRow prog_1_method_31_code 2 (.array .long) 1 0 0 D g [.ref qO0, .int x1] ws (fun r u => (¬ x1 = 2 ∧ qA6 = r ∧ ws = u) ∨ (x1 = 2 ∧ qA5 = r ∧ ws = u)) := by
  intro sz
  refine q_into (by decide) (Nat.le_of_ble_eq_true rfl) ?_
  intro p e s m below meth c ls hsz C0 V hl
  have hx := C0.1
  have hb := C0.2.1
  have hl : lv_has ls 2 [(0, .ref qO0), (1, .int x1)] := hl
  refine lv_iload_n hx hb d_1_31_0 rfl (lv_at hl 1 rfl) ?_
  refine lv_iconst (v := 2) hx hb d_1_31_1 (by decide) ?_
  refine lv_icmp_ne (tgt := 12) hx hb d_1_31_2 (by decide) (fun c1 => ?_) (fun c1 => ?_)
  ·
    refine lv_aload_n hx hb d_1_31_12 rfl (lv_at hl 0 rfl) ?_
    refine q_get (ci := 0) (j := 5) (v := .ref qA6) C0 V i_NH rfl rfl hO0 (by decide) w_429 rfl d_1_31_13 ?_
    exact q_retr (post := fun r u => (¬ x1 = 2 ∧ qA6 = r ∧ ws = u) ∨ (x1 = 2 ∧ qA5 = r ∧ ws = u)) C0 V (Or.inr ⟨_, rfl⟩) (Or.inl ⟨c1, rfl, rfl⟩) d_1_31_16
  ·
    refine lv_aload_n hx hb d_1_31_5 rfl (lv_at hl 0 rfl) ?_
    refine q_get (ci := 0) (j := 4) (v := .ref qA5) C0 V i_NH rfl rfl hO0 (by decide) w_428 rfl d_1_31_6 ?_
    refine lv_goto (tgt := 16) hx hb d_1_31_9 (by decide) ?_
    exact q_retr (post := fun r u => (¬ x1 = 2 ∧ qA6 = r ∧ ws = u) ∨ (x1 = 2 ∧ qA5 = r ∧ ws = u)) C0 V (Or.inr ⟨_, rfl⟩) (Or.inr (⟨c1, rfl, rfl⟩)) d_1_31_16
theorem d_7_3_0 : decode prog_7_method_3_code 0 = .ok (.lload_n 1, 1) := by decide +kernel
theorem d_7_3_1 : decode prog_7_method_3_code 1 = .ok (.lconst 1, 1) := by decide +kernel
theorem d_7_3_2 : decode prog_7_method_3_code 2 = .ok (.aload_n 0, 1) := by decide +kernel
theorem d_7_3_3 : decode prog_7_method_3_code 3 = .ok (.getfield 7, 3) := by decide +kernel
theorem d_7_3_6 : decode prog_7_method_3_code 6 = .ok (.lshl, 1) := by decide +kernel
theorem d_7_3_7 : decode prog_7_method_3_code 7 = .ok (.lconst 1, 1) := by decide +kernel
theorem d_7_3_8 : decode prog_7_method_3_code 8 = .ok (.lsub, 1) := by decide +kernel
theorem d_7_3_9 : decode prog_7_method_3_code 9 = .ok (.land, 1) := by decide +kernel
theorem d_7_3_10 : decode prog_7_method_3_code 10 = .ok (.lreturn, 1) := by decide +kernel
def y_Flo_fraction : MethodName := ⟨"NumberHouse$Floats", "fraction", "(J)J"⟩
set_option maxRecDepth 100000 in
set_option maxHeartbeats 4000000 in
theorem c_Flo_fraction (l : Launch) (D : va_G) (g : Nat → ClassId) (ws : va_W) (kO0 qO0 qO1 : Nat) (hO0 : ws[kO0]? = (some (qO0, .inr (6, [.int 23, .int 150, .int 255, .long 0, .int 0, .ref qO1, .int 0])) : Option (Nat × va_E))) : q_mL l y_Flo_fraction prog_7_method_3_code 3 1 0 0 D g [.ref qO0, .long 0] ws (fun r u => 0 = r ∧ ws = u) := by
  intro sz
  refine q_into (by decide) (Nat.le_of_ble_eq_true rfl) ?_
  intro p e s m below meth c ls hsz C0 V hl
  have hx := C0.1
  have hb := C0.2.1
  have hl : lv_has ls 3 [(0, .ref qO0), (1, .long 0)] := hl
  refine lv_lload_n hx hb d_7_3_0 rfl (lv_at hl 1 rfl) ?_
  refine lv_lconst (v := 1) hx hb d_7_3_1 (by decide) ?_
  refine lv_aload_n hx hb d_7_3_2 rfl (lv_at hl 0 rfl) ?_
  refine q_get (ci := 6) (j := 0) (v := .int 23) C0 V i_Flo rfl rfl hO0 (by decide) w_231 rfl d_7_3_3 ?_
  refine lv_lshl hx hb d_7_3_6 rfl ?_
  refine q_tl (v := 8388608) (by decide) ?_
  refine lv_lconst (v := 1) hx hb d_7_3_7 (by decide) ?_
  refine lv_lsub hx hb d_7_3_8 ?_
  refine q_tl (v := 8388607) (by decide) ?_
  refine lv_land hx hb d_7_3_9 ?_
  refine q_tl (v := 0) (by decide) ?_
  exact q_retl C0 V (⟨rfl, rfl⟩) d_7_3_10
theorem d_7_7_0 : decode prog_7_method_7_code 0 = .ok (.aload_n 0, 1) := by decide +kernel
theorem d_7_7_1 : decode prog_7_method_7_code 1 = .ok (.lload_n 1, 1) := by decide +kernel
theorem d_7_7_2 : decode prog_7_method_7_code 2 = .ok (.invokevirtual 27, 3) := by decide +kernel
theorem d_7_7_5 : decode prog_7_method_7_code 5 = .ok (.ifCond .ne 17, 3) := by decide +kernel
theorem d_7_7_8 : decode prog_7_method_7_code 8 = .ok (.aload_n 0, 1) := by decide +kernel
theorem d_7_7_9 : decode prog_7_method_7_code 9 = .ok (.lload_n 1, 1) := by decide +kernel
theorem d_7_7_10 : decode prog_7_method_7_code 10 = .ok (.invokevirtual 35, 3) := by decide +kernel
theorem w_1171 : (Cond.code ({ cls := "NumberHouse$Floats", name := "fraction", desc := "(J)J" } : MethodName) prog_7_method_3_code (3 : Nat) (some .long)) ∈ q_tbl := q_of 1171 (by decide +kernel) (by decide +kernel)
theorem w_1168 : (Cond.methodLink "NumberHouse$Floats" (35 : Nat) ({ cls := "NumberHouse$Floats", name := "fraction", desc := "(J)J" } : MethodName)) ∈ q_tbl := q_of 1168 (by decide +kernel) (by decide +kernel)
theorem w_1169 : (Cond.instanceMethod ({ cls := "NumberHouse$Floats", name := "fraction", desc := "(J)J" } : MethodName)) ∈ q_tbl := q_of 1169 (by decide +kernel) (by decide +kernel)
theorem w_1170 : (Cond.selects "NumberHouse$Floats" ({ cls := "NumberHouse$Floats", name := "fraction", desc := "(J)J" } : MethodName) ({ cls := "NumberHouse$Floats", name := "fraction", desc := "(J)J" } : MethodName)) ∈ q_tbl := q_of 1170 (by decide +kernel) (by decide +kernel)
theorem LV_Flo_35 : q_LV "NumberHouse$Floats" 35 y_Flo_fraction prog_7_method_3_code 3 (some .long) 1 := ⟨w_1171, w_8, w_1168, w_1169, w_1170, ⟨by decide, by decide, by decide +kernel⟩⟩
theorem d_7_7_13 : decode prog_7_method_7_code 13 = .ok (.lconst 0, 1) := by decide +kernel
theorem d_7_7_14 : decode prog_7_method_7_code 14 = .ok (.lcmp, 1) := by decide +kernel
theorem d_7_7_15 : decode prog_7_method_7_code 15 = .ok (.ifCond .ne 7, 3) := by decide +kernel
theorem d_7_7_18 : decode prog_7_method_7_code 18 = .ok (.iconst 1, 1) := by decide +kernel
theorem d_7_7_19 : decode prog_7_method_7_code 19 = .ok (.goto 4, 3) := by decide +kernel
theorem d_7_7_23 : decode prog_7_method_7_code 23 = .ok (.ireturn, 1) := by decide +kernel
def y_Flo_isZero : MethodName := ⟨"NumberHouse$Floats", "isZero", "(J)Z"⟩
set_option maxRecDepth 100000 in
set_option maxHeartbeats 4000000 in
theorem c_Flo_isZero (l : Launch) (D : va_G) (g : Nat → ClassId) (ws : va_W) (kO0 qO0 qO1 : Nat) (hO0 : ws[kO0]? = (some (qO0, .inr (6, [.int 23, .int 150, .int 255, .long 0, .int 0, .ref qO1, .int 0])) : Option (Nat × va_E))) : q_mI l y_Flo_isZero prog_7_method_7_code 3 (.boolean) 2 0 0 D g [.ref qO0, .long 0] ws (fun r u => 1 = r ∧ ws = u) := by
  intro sz
  refine q_into (by decide) (Nat.le_of_ble_eq_true rfl) ?_
  intro p e s m below meth c ls hsz C0 V hl
  have hx := C0.1
  have hb := C0.2.1
  have hl : lv_has ls 3 [(0, .ref qO0), (1, .long 0)] := hl
  refine lv_aload_n hx hb d_7_7_0 rfl (lv_at hl 0 rfl) ?_
  refine lv_lload_n hx hb d_7_7_1 rfl (lv_at hl 1 rfl) ?_
  refine q_goi V (q_runV (As := [.long 0]) (rest := []) (d := 1) (mc := 0) (ms := 0) (ci := 6) C0 V rfl LV_Flo_27 (c_Flo_exponent l D g ws kO0 qO0 qO1 hO0 _) rfl rfl hO0 rfl hl.1 rfl (Nat.le_of_ble_eq_true rfl) ⟨by decide, by decide⟩ ⟨Nat.le_of_ble_eq_true rfl, Nat.le_of_ble_eq_true rfl⟩ d_7_7_2) (fun v3 u2 H locs hp1 V => ?_)
  obtain ⟨rfl, rfl⟩ := hp1
  refine lv_if_ne (tgt := 22) hx hb d_7_7_5 (by decide) (fun c5 => absurd (by decide) c5) (fun c5 => ?_)
  refine lv_aload_n hx hb d_7_7_8 rfl (lv_at hl 0 rfl) ?_
  refine lv_lload_n hx hb d_7_7_9 rfl (lv_at hl 1 rfl) ?_
  refine q_gol V (q_runV (As := [.long 0]) (rest := []) (d := 1) (mc := 0) (ms := 0) (ci := 6) C0 V rfl LV_Flo_35 (c_Flo_fraction l D g ws kO0 qO0 qO1 hO0 _) rfl rfl hO0 rfl hl.1 rfl (Nat.le_of_ble_eq_true rfl) ⟨by decide, by decide⟩ ⟨Nat.le_of_ble_eq_true rfl, Nat.le_of_ble_eq_true rfl⟩ d_7_7_10) (fun v8 u7 H locs hp6 V => ?_)
  obtain ⟨rfl, rfl⟩ := hp6
  refine lv_lconst (v := 0) hx hb d_7_7_13 (by decide) ?_
  refine W.lcmp hx hb d_7_7_14 ?_
  refine q_ti (v := 0) (by decide) ?_
  refine lv_if_ne (tgt := 22) hx hb d_7_7_15 (by decide) (fun c10 => absurd (by decide) c10) (fun c10 => ?_)
  refine lv_iconst (v := 1) hx hb d_7_7_18 (by decide) ?_
  refine lv_goto (tgt := 23) hx hb d_7_7_19 (by decide) ?_
  exact q_retz C0 V (rfl) (⟨rfl, rfl⟩) d_7_7_23
theorem d_7_19_0 : decode prog_7_method_19_code 0 = .ok (.aload_n 0, 1) := by decide +kernel
theorem d_7_19_1 : decode prog_7_method_19_code 1 = .ok (.lconst 0, 1) := by decide +kernel
theorem d_7_19_2 : decode prog_7_method_19_code 2 = .ok (.putfield 141, 3) := by decide +kernel
theorem w_237 : (Cond.fieldLink "NumberHouse$Floats" (141 : Nat) "NumberHouse$Floats" "shortNumber" "J") ∈ q_tbl := q_of 237 (by decide +kernel) (by decide +kernel)
theorem d_7_19_5 : decode prog_7_method_19_code 5 = .ok (.aload_n 0, 1) := by decide +kernel
theorem d_7_19_6 : decode prog_7_method_19_code 6 = .ok (.iconst 0, 1) := by decide +kernel
theorem d_7_19_7 : decode prog_7_method_19_code 7 = .ok (.putfield 145, 3) := by decide +kernel
theorem w_240 : (Cond.fieldLink "NumberHouse$Floats" (145 : Nat) "NumberHouse$Floats" "shortPower" "I") ∈ q_tbl := q_of 240 (by decide +kernel) (by decide +kernel)
theorem d_7_19_10 : decode prog_7_method_19_code 10 = .ok (.aload_n 0, 1) := by decide +kernel
theorem d_7_19_11 : decode prog_7_method_19_code 11 = .ok (.lload_n 1, 1) := by decide +kernel
theorem d_7_19_12 : decode prog_7_method_19_code 12 = .ok (.invokevirtual 148, 3) := by decide +kernel
theorem w_1167 : (Cond.code ({ cls := "NumberHouse$Floats", name := "isZero", desc := "(J)Z" } : MethodName) prog_7_method_7_code (3 : Nat) (some .boolean)) ∈ q_tbl := q_of 1167 (by decide +kernel) (by decide +kernel)
theorem w_1164 : (Cond.methodLink "NumberHouse$Floats" (148 : Nat) ({ cls := "NumberHouse$Floats", name := "isZero", desc := "(J)Z" } : MethodName)) ∈ q_tbl := q_of 1164 (by decide +kernel) (by decide +kernel)
theorem w_1165 : (Cond.instanceMethod ({ cls := "NumberHouse$Floats", name := "isZero", desc := "(J)Z" } : MethodName)) ∈ q_tbl := q_of 1165 (by decide +kernel) (by decide +kernel)
theorem w_1166 : (Cond.selects "NumberHouse$Floats" ({ cls := "NumberHouse$Floats", name := "isZero", desc := "(J)Z" } : MethodName) ({ cls := "NumberHouse$Floats", name := "isZero", desc := "(J)Z" } : MethodName)) ∈ q_tbl := q_of 1166 (by decide +kernel) (by decide +kernel)
theorem LV_Flo_148 : q_LV "NumberHouse$Floats" 148 y_Flo_isZero prog_7_method_7_code 3 (some .boolean) 1 := ⟨w_1167, w_8, w_1164, w_1165, w_1166, ⟨by decide, by decide, by decide +kernel⟩⟩
theorem d_7_19_15 : decode prog_7_method_19_code 15 = .ok (.ifCond .eq 4, 3) := by decide +kernel
theorem d_7_19_18 : decode prog_7_method_19_code 18 = .ok (.return_, 1) := by decide +kernel
def y_Flo_findShortest : MethodName := ⟨"NumberHouse$Floats", "findShortest", "(J)V"⟩
set_option maxRecDepth 100000 in
set_option maxHeartbeats 4000000 in
theorem c_Flo_findShortest (l : Launch) (D : va_G) (g : Nat → ClassId) (ws : va_W) (kO0 qO0 qO1 : Nat) (hO0 : ws[kO0]? = (some (qO0, .inr (6, [.int 23, .int 150, .int 255, .long 0, .int 0, .ref qO1, .int 0])) : Option (Nat × va_E))) : q_mV l y_Flo_findShortest prog_7_method_19_code 9 3 0 0 D g [.ref qO0, .long 0] ws (fun u => q_un ws u [kO0] ∧ u[kO0]? = (some (qO0, .inr (6, [.int 23, .int 150, .int 255, .long 0, .int 0, .ref qO1, .int 0])) : Option (Nat × va_E))) := by
  intro sz
  refine q_into (by decide) (Nat.le_of_ble_eq_true rfl) ?_
  intro p e s m below meth c ls hsz C0 V hl
  have hx := C0.1
  have hb := C0.2.1
  have hl : lv_has ls 9 [(0, .ref qO0), (1, .long 0)] := hl
  have hF : q_un ws ws [kO0] := q_u0
  refine lv_aload_n hx hb d_7_19_0 rfl (lv_at hl 0 rfl) ?_
  refine lv_lconst (v := 0) hx hb d_7_19_1 (by decide) ?_
  refine q_put (ci := 6) (j := 3) (v := .long 0) (ty := .long) C0 V i_Flo o_Flo n_Flo rfl rfl hO0 (by decide) w_237 rfl rfl rfl rfl (Nat.le_of_ble_eq_true rfl) d_7_19_2 (fun H locs w1 hu2 hO0 V => ?_)
  replace hO0 : w1[kO0]? = (some (qO0, .inr (6, [.int 23, .int 150, .int 255, .long 0, .int 0, .ref qO1, .int 0])) : Option (Nat × va_E)) := hO0
  replace hF := q_us hF hu2 (.head _)
  refine lv_aload_n hx hb d_7_19_5 rfl (lv_at hl 0 rfl) ?_
  refine lv_iconst (v := 0) hx hb d_7_19_6 (by decide) ?_
  refine q_put (ci := 6) (j := 4) (v := .int 0) (ty := .int) C0 V i_Flo o_Flo n_Flo rfl rfl hO0 (by decide) w_240 rfl rfl rfl rfl (Nat.le_of_ble_eq_true rfl) d_7_19_7 (fun H locs w3 hu4 hO0 V => ?_)
  replace hO0 : w3[kO0]? = (some (qO0, .inr (6, [.int 23, .int 150, .int 255, .long 0, .int 0, .ref qO1, .int 0])) : Option (Nat × va_E)) := hO0
  replace hF := q_us hF hu4 (.head _)
  refine lv_aload_n hx hb d_7_19_10 rfl (lv_at hl 0 rfl) ?_
  refine lv_lload_n hx hb d_7_19_11 rfl (lv_at hl 1 rfl) ?_
  refine q_goi V (q_runV (As := [.long 0]) (rest := []) (d := 2) (mc := 0) (ms := 0) (ci := 6) C0 V rfl LV_Flo_148 (c_Flo_isZero l D g w3 kO0 qO0 qO1 hO0 _) rfl rfl hO0 rfl hl.1 rfl (Nat.le_of_ble_eq_true rfl) ⟨by decide, by decide⟩ ⟨Nat.le_of_ble_eq_true rfl, Nat.le_of_ble_eq_true rfl⟩ d_7_19_12) (fun v7 u6 H locs hp5 V => ?_)
  obtain ⟨rfl, rfl⟩ := hp5
  refine lv_if_eq (tgt := 19) hx hb d_7_19_15 (by decide) (fun c9 => absurd c9 (by decide)) (fun c9 => ?_)
  exact q_retv C0 V (⟨hF, hO0⟩) d_7_19_18
set_option maxRecDepth 100000 in
set_option maxHeartbeats 4000000 in
theorem c_Flo_fraction_2 (l : Launch) (D : va_G) (g : Nat → ClassId) (ws : va_W) (kO0 qO0 qO1 : Nat) (hO0 : ws[kO0]? = (some (qO0, .inr (6, [.int 52, .int 1075, .int 2047, .long 0, .int 0, .ref qO1, .int 0])) : Option (Nat × va_E))) : q_mL l y_Flo_fraction prog_7_method_3_code 3 1 0 0 D g [.ref qO0, .long 0] ws (fun r u => 0 = r ∧ ws = u) := by
  intro sz
  refine q_into (by decide) (Nat.le_of_ble_eq_true rfl) ?_
  intro p e s m below meth c ls hsz C0 V hl
  have hx := C0.1
  have hb := C0.2.1
  have hl : lv_has ls 3 [(0, .ref qO0), (1, .long 0)] := hl
  refine lv_lload_n hx hb d_7_3_0 rfl (lv_at hl 1 rfl) ?_
  refine lv_lconst (v := 1) hx hb d_7_3_1 (by decide) ?_
  refine lv_aload_n hx hb d_7_3_2 rfl (lv_at hl 0 rfl) ?_
  refine q_get (ci := 6) (j := 0) (v := .int 52) C0 V i_Flo rfl rfl hO0 (by decide) w_231 rfl d_7_3_3 ?_
  refine lv_lshl hx hb d_7_3_6 rfl ?_
  refine q_tl (v := 4503599627370496) (by decide) ?_
  refine lv_lconst (v := 1) hx hb d_7_3_7 (by decide) ?_
  refine lv_lsub hx hb d_7_3_8 ?_
  refine q_tl (v := 4503599627370495) (by decide) ?_
  refine lv_land hx hb d_7_3_9 ?_
  refine q_tl (v := 0) (by decide) ?_
  exact q_retl C0 V (⟨rfl, rfl⟩) d_7_3_10
set_option maxRecDepth 100000 in
set_option maxHeartbeats 4000000 in
theorem c_Flo_isZero_2 (l : Launch) (D : va_G) (g : Nat → ClassId) (ws : va_W) (kO0 qO0 qO1 : Nat) (hO0 : ws[kO0]? = (some (qO0, .inr (6, [.int 52, .int 1075, .int 2047, .long 0, .int 0, .ref qO1, .int 0])) : Option (Nat × va_E))) : q_mI l y_Flo_isZero prog_7_method_7_code 3 (.boolean) 2 0 0 D g [.ref qO0, .long 0] ws (fun r u => 1 = r ∧ ws = u) := by
  intro sz
  refine q_into (by decide) (Nat.le_of_ble_eq_true rfl) ?_
  intro p e s m below meth c ls hsz C0 V hl
  have hx := C0.1
  have hb := C0.2.1
  have hl : lv_has ls 3 [(0, .ref qO0), (1, .long 0)] := hl
  refine lv_aload_n hx hb d_7_7_0 rfl (lv_at hl 0 rfl) ?_
  refine lv_lload_n hx hb d_7_7_1 rfl (lv_at hl 1 rfl) ?_
  refine q_goi V (q_runV (As := [.long 0]) (rest := []) (d := 1) (mc := 0) (ms := 0) (ci := 6) C0 V rfl LV_Flo_27 (c_Flo_exponent_2 l D g ws kO0 qO0 qO1 hO0 _) rfl rfl hO0 rfl hl.1 rfl (Nat.le_of_ble_eq_true rfl) ⟨by decide, by decide⟩ ⟨Nat.le_of_ble_eq_true rfl, Nat.le_of_ble_eq_true rfl⟩ d_7_7_2) (fun v3 u2 H locs hp1 V => ?_)
  obtain ⟨rfl, rfl⟩ := hp1
  refine lv_if_ne (tgt := 22) hx hb d_7_7_5 (by decide) (fun c5 => absurd (by decide) c5) (fun c5 => ?_)
  refine lv_aload_n hx hb d_7_7_8 rfl (lv_at hl 0 rfl) ?_
  refine lv_lload_n hx hb d_7_7_9 rfl (lv_at hl 1 rfl) ?_
  refine q_gol V (q_runV (As := [.long 0]) (rest := []) (d := 1) (mc := 0) (ms := 0) (ci := 6) C0 V rfl LV_Flo_35 (c_Flo_fraction_2 l D g ws kO0 qO0 qO1 hO0 _) rfl rfl hO0 rfl hl.1 rfl (Nat.le_of_ble_eq_true rfl) ⟨by decide, by decide⟩ ⟨Nat.le_of_ble_eq_true rfl, Nat.le_of_ble_eq_true rfl⟩ d_7_7_10) (fun v8 u7 H locs hp6 V => ?_)
  obtain ⟨rfl, rfl⟩ := hp6
  refine lv_lconst (v := 0) hx hb d_7_7_13 (by decide) ?_
  refine W.lcmp hx hb d_7_7_14 ?_
  refine q_ti (v := 0) (by decide) ?_
  refine lv_if_ne (tgt := 22) hx hb d_7_7_15 (by decide) (fun c10 => absurd (by decide) c10) (fun c10 => ?_)
  refine lv_iconst (v := 1) hx hb d_7_7_18 (by decide) ?_
  refine lv_goto (tgt := 23) hx hb d_7_7_19 (by decide) ?_
  exact q_retz C0 V (rfl) (⟨rfl, rfl⟩) d_7_7_23
set_option maxRecDepth 100000 in
set_option maxHeartbeats 4000000 in
theorem c_Flo_findShortest_2 (l : Launch) (D : va_G) (g : Nat → ClassId) (ws : va_W) (kO0 qO0 qO1 : Nat) (hO0 : ws[kO0]? = (some (qO0, .inr (6, [.int 52, .int 1075, .int 2047, .long 0, .int 0, .ref qO1, .int 0])) : Option (Nat × va_E))) : q_mV l y_Flo_findShortest prog_7_method_19_code 9 3 0 0 D g [.ref qO0, .long 0] ws (fun u => q_un ws u [kO0] ∧ u[kO0]? = (some (qO0, .inr (6, [.int 52, .int 1075, .int 2047, .long 0, .int 0, .ref qO1, .int 0])) : Option (Nat × va_E))) := by
  intro sz
  refine q_into (by decide) (Nat.le_of_ble_eq_true rfl) ?_
  intro p e s m below meth c ls hsz C0 V hl
  have hx := C0.1
  have hb := C0.2.1
  have hl : lv_has ls 9 [(0, .ref qO0), (1, .long 0)] := hl
  have hF : q_un ws ws [kO0] := q_u0
  refine lv_aload_n hx hb d_7_19_0 rfl (lv_at hl 0 rfl) ?_
  refine lv_lconst (v := 0) hx hb d_7_19_1 (by decide) ?_
  refine q_put (ci := 6) (j := 3) (v := .long 0) (ty := .long) C0 V i_Flo o_Flo n_Flo rfl rfl hO0 (by decide) w_237 rfl rfl rfl rfl (Nat.le_of_ble_eq_true rfl) d_7_19_2 (fun H locs w1 hu2 hO0 V => ?_)
  replace hO0 : w1[kO0]? = (some (qO0, .inr (6, [.int 52, .int 1075, .int 2047, .long 0, .int 0, .ref qO1, .int 0])) : Option (Nat × va_E)) := hO0
  replace hF := q_us hF hu2 (.head _)
  refine lv_aload_n hx hb d_7_19_5 rfl (lv_at hl 0 rfl) ?_
  refine lv_iconst (v := 0) hx hb d_7_19_6 (by decide) ?_
  refine q_put (ci := 6) (j := 4) (v := .int 0) (ty := .int) C0 V i_Flo o_Flo n_Flo rfl rfl hO0 (by decide) w_240 rfl rfl rfl rfl (Nat.le_of_ble_eq_true rfl) d_7_19_7 (fun H locs w3 hu4 hO0 V => ?_)
  replace hO0 : w3[kO0]? = (some (qO0, .inr (6, [.int 52, .int 1075, .int 2047, .long 0, .int 0, .ref qO1, .int 0])) : Option (Nat × va_E)) := hO0
  replace hF := q_us hF hu4 (.head _)
  refine lv_aload_n hx hb d_7_19_10 rfl (lv_at hl 0 rfl) ?_
  refine lv_lload_n hx hb d_7_19_11 rfl (lv_at hl 1 rfl) ?_
  refine q_goi V (q_runV (As := [.long 0]) (rest := []) (d := 2) (mc := 0) (ms := 0) (ci := 6) C0 V rfl LV_Flo_148 (c_Flo_isZero_2 l D g w3 kO0 qO0 qO1 hO0 _) rfl rfl hO0 rfl hl.1 rfl (Nat.le_of_ble_eq_true rfl) ⟨by decide, by decide⟩ ⟨Nat.le_of_ble_eq_true rfl, Nat.le_of_ble_eq_true rfl⟩ d_7_19_12) (fun v7 u6 H locs hp5 V => ?_)
  obtain ⟨rfl, rfl⟩ := hp5
  refine lv_if_eq (tgt := 19) hx hb d_7_19_15 (by decide) (fun c9 => absurd c9 (by decide)) (fun c9 => ?_)
  exact q_retv C0 V (⟨hF, hO0⟩) d_7_19_18
theorem d_1_24_0 : decode prog_1_method_24_code 0 = .ok (.iload_n 2, 1) := by decide +kernel
theorem d_1_24_1 : decode prog_1_method_24_code 1 = .ok (.ifCond .ne 12, 3) := by decide +kernel
theorem d_1_24_13 : decode prog_1_method_24_code 13 = .ok (.iload_n 2, 1) := by decide +kernel
theorem d_1_24_14 : decode prog_1_method_24_code 14 = .ok (.iconst 1, 1) := by decide +kernel
theorem d_1_24_15 : decode prog_1_method_24_code 15 = .ok (.if_icmp .ne 9, 3) := by decide +kernel
theorem d_1_24_24 : decode prog_1_method_24_code 24 = .ok (.iload_n 2, 1) := by decide +kernel
theorem d_1_24_25 : decode prog_1_method_24_code 25 = .ok (.iconst 2, 1) := by decide +kernel
theorem d_1_24_26 : decode prog_1_method_24_code 26 = .ok (.if_icmp .ne 9, 3) := by decide +kernel
theorem d_1_24_29 : decode prog_1_method_24_code 29 = .ok (.aload_n 1, 1) := by decide +kernel
theorem d_1_24_30 : decode prog_1_method_24_code 30 = .ok (.getfield 172, 3) := by decide +kernel
theorem w_182 : (Cond.fieldLink "NumberHouse" (172 : Nat) "NumberHouse$Dec" "figureCount" "I") ∈ q_tbl := q_of 182 (by decide +kernel) (by decide +kernel)
theorem d_1_24_33 : decode prog_1_method_24_code 33 = .ok (.i2l, 1) := by decide +kernel
theorem d_1_24_34 : decode prog_1_method_24_code 34 = .ok (.lreturn, 1) := by decide +kernel
theorem d_1_24_18 : decode prog_1_method_24_code 18 = .ok (.aload_n 1, 1) := by decide +kernel
theorem d_1_24_19 : decode prog_1_method_24_code 19 = .ok (.getfield 378, 3) := by decide +kernel
theorem w_178 : (Cond.fieldLink "NumberHouse" (378 : Nat) "NumberHouse$Dec" "scale" "I") ∈ q_tbl := q_of 178 (by decide +kernel) (by decide +kernel)
theorem d_1_24_22 : decode prog_1_method_24_code 22 = .ok (.i2l, 1) := by decide +kernel
theorem d_1_24_23 : decode prog_1_method_24_code 23 = .ok (.lreturn, 1) := by decide +kernel
theorem d_1_24_4 : decode prog_1_method_24_code 4 = .ok (.aload_n 1, 1) := by decide +kernel
theorem d_1_24_5 : decode prog_1_method_24_code 5 = .ok (.getfield 277, 3) := by decide +kernel
theorem w_174 : (Cond.fieldLink "NumberHouse" (277 : Nat) "NumberHouse$Dec" "number" "LNumberHouse$Big;") ∈ q_tbl := q_of 174 (by decide +kernel) (by decide +kernel)
theorem d_1_24_8 : decode prog_1_method_24_code 8 = .ok (.invokevirtual 225, 3) := by decide +kernel
theorem w_1119 : (Cond.methodLink "NumberHouse" (225 : Nat) ({ cls := "NumberHouse$Big", name := "sign", desc := "()I" } : MethodName)) ∈ q_tbl := q_of 1119 (by decide +kernel) (by decide +kernel)
theorem LV_NH_225 : q_LV "NumberHouse" 225 y_Big_sign prog_2_method_8_code 1 (some .int) 0 := ⟨w_1122, w_4, w_1119, w_1120, w_1121, ⟨by decide, by decide, by decide +kernel⟩⟩
theorem d_1_24_11 : decode prog_1_method_24_code 11 = .ok (.i2l, 1) := by decide +kernel
theorem d_1_24_12 : decode prog_1_method_24_code 12 = .ok (.lreturn, 1) := by decide +kernel
def y_NH_tellDecimal : MethodName := ⟨"NumberHouse", "tellDecimal", "(LNumberHouse$Dec;I)J"⟩
set_option maxRecDepth 100000 in
set_option maxHeartbeats 4000000 in
theorem c_NH_tellDecimal (l : Launch) (D : va_G) (g : Nat → ClassId) (ws : va_W) (kO1 kO16 qO0 qO1 qO16 qA37 : Nat) (x1 : Int32) (hO1 : ws[kO1]? = (some (qO1, .inr (3, [.ref qO16, .int 0, .int 1])) : Option (Nat × va_E))) (hO16 : ws[kO16]? = (some (qO16, .inr (2, [.ref qA37, .int 0, .int 0])) : Option (Nat × va_E))) (x1lo : 0 ≤ x1) (x1hi : x1 ≤ 2) : q_mL l y_NH_tellDecimal prog_1_method_24_code 3 2 0 0 D g [.ref qO0, .ref qO1, .int x1] ws (fun r u => (¬ x1 = 0 ∧ ¬ x1 = 1 ∧ 1 = r ∧ ws = u) ∨ (¬ x1 = 0 ∧ x1 = 1 ∧ 0 = r ∧ ws = u) ∨ (x1 = 0 ∧ 0 = r ∧ ws = u)) := by
  intro sz
  refine q_into (by decide) (Nat.le_of_ble_eq_true rfl) ?_
  intro p e s m below meth c ls hsz C0 V hl
  have hx := C0.1
  have hb := C0.2.1
  have hl : lv_has ls 3 [(0, .ref qO0), (1, .ref qO1), (2, .int x1)] := hl
  refine lv_iload_n hx hb d_1_24_0 rfl (lv_at hl 2 rfl) ?_
  refine lv_if_ne (tgt := 13) hx hb d_1_24_1 (by decide) (fun c1 => ?_) (fun c1 => ?_)
  ·
    refine lv_iload_n hx hb d_1_24_13 rfl (lv_at hl 2 rfl) ?_
    refine lv_iconst (v := 1) hx hb d_1_24_14 (by decide) ?_
    refine lv_icmp_ne (tgt := 24) hx hb d_1_24_15 (by decide) (fun c2 => ?_) (fun c2 => ?_)
    ·
      refine lv_iload_n hx hb d_1_24_24 rfl (lv_at hl 2 rfl) ?_
      refine q_ti (v := 2) (q_Ieq (x := x1.toInt) (y := 2) rfl (by decide) (by have t1 : 0 ≤ x1.toInt := q_leI x1lo; have t2 : x1.toInt ≤ 2 := q_leI x1hi; have t3 : x1.toInt ≠ 0 := q_neI c1; have t4 : x1.toInt ≠ 1 := q_neI c2; omega)) ?_
      refine lv_iconst (v := 2) hx hb d_1_24_25 (by decide) ?_
      refine lv_icmp_ne (tgt := 35) hx hb d_1_24_26 (by decide) (fun c3 => absurd (by decide) c3) (fun c3 => ?_)
      refine lv_aload_n hx hb d_1_24_29 rfl (lv_at hl 1 rfl) ?_
      refine q_get (ci := 3) (j := 2) (v := .int 1) C0 V i_Dec rfl rfl hO1 (by decide) w_182 rfl d_1_24_30 ?_
      refine lv_i2l hx hb d_1_24_33 rfl ?_
      refine q_tl (v := 1) (by decide) ?_
      exact q_retl C0 V (Or.inl ⟨c1, c2, rfl, rfl⟩) d_1_24_34
    ·
      refine lv_aload_n hx hb d_1_24_18 rfl (lv_at hl 1 rfl) ?_
      refine q_get (ci := 3) (j := 1) (v := .int 0) C0 V i_Dec rfl rfl hO1 (by decide) w_178 rfl d_1_24_19 ?_
      refine lv_i2l hx hb d_1_24_22 rfl ?_
      refine q_tl (v := 0) (by decide) ?_
      exact q_retl C0 V (Or.inr (Or.inl ⟨c1, c2, rfl, rfl⟩)) d_1_24_23
  ·
    refine lv_aload_n hx hb d_1_24_4 rfl (lv_at hl 1 rfl) ?_
    refine q_get (ci := 3) (j := 0) (v := .ref qO16) C0 V i_Dec rfl rfl hO1 (by decide) w_174 rfl d_1_24_5 ?_
    refine q_goi V (q_runV (As := []) (rest := []) (d := 1) (mc := 0) (ms := 0) (ci := 2) C0 V rfl LV_NH_225 (c_Big_sign l D g ws kO16 qO16 qA37 0 0 hO16 _) rfl rfl hO16 rfl hl.1 rfl (Nat.le_of_ble_eq_true rfl) ⟨by decide, by decide⟩ ⟨Nat.le_of_ble_eq_true rfl, Nat.le_of_ble_eq_true rfl⟩ d_1_24_8) (fun v6 u5 H locs hp4 V => ?_)
    rcases hp4 with ⟨c7, c8, rfl, rfl⟩ | ⟨c10, c11, rfl, rfl⟩ | ⟨c13, rfl, rfl⟩
    ·
      exact absurd c7 (by decide)
    ·
      exact absurd c10 (by decide)
    ·
      refine lv_i2l hx hb d_1_24_11 rfl ?_
      refine q_tl (v := 0) (by decide) ?_
      exact q_retl C0 V (Or.inr (Or.inr (⟨c1, rfl, rfl⟩))) d_1_24_12
theorem d_2_4_0 : decode prog_2_method_4_code 0 = .ok (.aload_n 0, 1) := by decide +kernel
theorem d_2_4_1 : decode prog_2_method_4_code 1 = .ok (.aload_n 1, 1) := by decide +kernel
theorem d_2_4_2 : decode prog_2_method_4_code 2 = .ok (.getfield 13, 3) := by decide +kernel
theorem d_2_4_5 : decode prog_2_method_4_code 5 = .ok (.aload_n 0, 1) := by decide +kernel
theorem d_2_4_6 : decode prog_2_method_4_code 6 = .ok (.getfield 7, 3) := by decide +kernel
theorem d_2_4_9 : decode prog_2_method_4_code 9 = .ok (.arraylength, 1) := by decide +kernel
theorem d_2_4_10 : decode prog_2_method_4_code 10 = .ok (.invokestatic 39, 3) := by decide +kernel
theorem w_773 : (Cond.methodLink "NumberHouse$Big" (39 : Nat) ({ cls := "java/lang/Math", name := "min", desc := "(II)I" } : MethodName)) ∈ q_tbl := q_of 773 (by decide +kernel) (by decide +kernel)
theorem w_774 : (Cond.static ({ cls := "java/lang/Math", name := "min", desc := "(II)I" } : MethodName)) ∈ q_tbl := q_of 774 (by decide +kernel) (by decide +kernel)
theorem w_775 : (Cond.code ({ cls := "java/lang/Math", name := "min", desc := "(II)I" } : MethodName) prog_29_method_69_code (2 : Nat) (some .int)) ∈ q_tbl := q_of 775 (by decide +kernel) (by decide +kernel)
theorem d_2_4_13 : decode prog_2_method_4_code 13 = .ok (.putfield 13, 3) := by decide +kernel
theorem d_2_4_16 : decode prog_2_method_4_code 16 = .ok (.aload_n 1, 1) := by decide +kernel
theorem d_2_4_17 : decode prog_2_method_4_code 17 = .ok (.getfield 7, 3) := by decide +kernel
theorem d_2_4_20 : decode prog_2_method_4_code 20 = .ok (.iconst 0, 1) := by decide +kernel
theorem d_2_4_21 : decode prog_2_method_4_code 21 = .ok (.aload_n 0, 1) := by decide +kernel
theorem d_2_4_22 : decode prog_2_method_4_code 22 = .ok (.getfield 7, 3) := by decide +kernel
theorem d_2_4_25 : decode prog_2_method_4_code 25 = .ok (.iconst 0, 1) := by decide +kernel
theorem d_2_4_26 : decode prog_2_method_4_code 26 = .ok (.aload_n 0, 1) := by decide +kernel
theorem d_2_4_27 : decode prog_2_method_4_code 27 = .ok (.getfield 13, 3) := by decide +kernel
theorem d_2_4_30 : decode prog_2_method_4_code 30 = .ok (.invokestatic 43, 3) := by decide +kernel
theorem w_791 : (Cond.methodLink "NumberHouse$Big" (43 : Nat) ({ cls := "java/lang/System", name := "arraycopy", desc := "(Ljava/lang/Object;ILjava/lang/Object;II)V" } : MethodName)) ∈ q_tbl := q_of 791 (by decide +kernel) (by decide +kernel)
theorem w_793 : (Cond.native ({ cls := "java/lang/System", name := "arraycopy", desc := "(Ljava/lang/Object;ILjava/lang/Object;II)V" } : MethodName)) ∈ q_tbl := q_of 793 (by decide +kernel) (by decide +kernel)
theorem w_792 : (Cond.static ({ cls := "java/lang/System", name := "arraycopy", desc := "(Ljava/lang/Object;ILjava/lang/Object;II)V" } : MethodName)) ∈ q_tbl := q_of 792 (by decide +kernel) (by decide +kernel)
theorem w_29 : (Cond.initialized "java/lang/System") ∈ q_tbl := q_of 29 (by decide +kernel) (by decide +kernel)
theorem d_2_4_33 : decode prog_2_method_4_code 33 = .ok (.aload_n 0, 1) := by decide +kernel
theorem d_2_4_34 : decode prog_2_method_4_code 34 = .ok (.aload_n 1, 1) := by decide +kernel
theorem d_2_4_35 : decode prog_2_method_4_code 35 = .ok (.getfield 17, 3) := by decide +kernel
theorem d_2_4_38 : decode prog_2_method_4_code 38 = .ok (.putfield 17, 3) := by decide +kernel
theorem d_2_4_41 : decode prog_2_method_4_code 41 = .ok (.return_, 1) := by decide +kernel
def y_Big_copy : MethodName := ⟨"NumberHouse$Big", "copy", "(LNumberHouse$Big;)V"⟩
set_option maxRecDepth 100000 in
set_option maxHeartbeats 4000000 in
theorem c_Big_copy (l : Launch) (D : va_G) (g : Nat → ClassId) (ws : va_W) (kO0 kO1 kA2 kA3 qO0 qO1 qA2 qA3 : Nat) (hO0 : ws[kO0]? = (some (qO0, .inr (2, [.ref qA2, .int 0, .int 0])) : Option (Nat × va_E))) (hO1 : ws[kO1]? = (some (qO1, .inr (2, [.ref qA3, .int 0, .int 0])) : Option (Nat × va_E))) (hA2 : ws[kA2]? = (some (qA2, .inl (g 0, 220, .inl (fun _ => 0))) : Option (Nat × va_E))) (hA3 : ws[kA3]? = (some (qA3, .inl (g 0, 108, .inl (fun _ => 0))) : Option (Nat × va_E))) (n_A3_A2 : kA3 ≠ kA2) (n_O1_O0 : kO1 ≠ kO0) : q_mV l y_Big_copy prog_2_method_4_code 2 2 0 0 D g [.ref qO0, .ref qO1] ws (fun u => q_un ws u [kO0, kA2] ∧ u[kO0]? = (some (qO0, .inr (2, [.ref qA2, .int 0, .int 0])) : Option (Nat × va_E)) ∧ u[kA2]? = (some (qA2, .inl (g 0, 220, .inl (fun _ => 0))) : Option (Nat × va_E))) := by
  intro sz
  refine q_into (by decide) (Nat.le_of_ble_eq_true rfl) ?_
  intro p e s m below meth c ls hsz C0 V hl
  have hx := C0.1
  have hb := C0.2.1
  have hl : lv_has ls 2 [(0, .ref qO0), (1, .ref qO1)] := hl
  have n_A2_O0 := q_df hA2 hO0
  have n_A3_O0 := q_df hA3 hO0
  have n_O0_A2 := Ne.symm (q_df hA2 hO0)
  have n_O1_A2 := Ne.symm (q_df hA2 hO1)
  have hF : q_un ws ws [kO0, kA2] := q_u0
  refine lv_aload_n hx hb d_2_4_0 rfl (lv_at hl 0 rfl) ?_
  refine lv_aload_n hx hb d_2_4_1 rfl (lv_at hl 1 rfl) ?_
  refine q_get (ci := 2) (j := 1) (v := .int 0) C0 V i_Big rfl rfl hO1 (by decide) w_85 rfl d_2_4_2 ?_
  refine lv_aload_n hx hb d_2_4_5 rfl (lv_at hl 0 rfl) ?_
  refine q_get (ci := 2) (j := 0) (v := .ref qA2) C0 V i_Big rfl rfl hO0 (by decide) w_84 rfl d_2_4_6 ?_
  refine q_alen (t := 0) (v := 220) C0 V hA2 rfl (by first | rfl | decide) d_2_4_9 ?_
  refine q_min C0 hl.1 rfl w_773 w_774 w_7 w_775 ⟨Nat.le_of_ble_eq_true rfl, Nat.le_of_ble_eq_true rfl⟩ ⟨Nat.le_of_ble_eq_true rfl, Nat.le_of_ble_eq_true rfl⟩ d_2_4_10 ?_
  refine q_ti (v := 0) (by decide) ?_
  refine q_put (ci := 2) (j := 1) (v := .int 0) (ty := .int) C0 V i_Big o_Big n_Big rfl rfl hO0 (by decide) w_85 rfl rfl rfl rfl (Nat.le_of_ble_eq_true rfl) d_2_4_13 (fun H locs w1 hu2 hO0 V => ?_)
  replace hO0 : w1[kO0]? = (some (qO0, .inr (2, [.ref qA2, .int 0, .int 0])) : Option (Nat × va_E)) := hO0
  replace hF := q_us hF hu2 (.head _)
  refine lv_aload_n hx hb d_2_4_16 rfl (lv_at hl 1 rfl) ?_
  replace hO1 := (hu2 _ n_O1_O0).trans (hO1)
  refine q_get (ci := 2) (j := 0) (v := .ref qA3) C0 V i_Big rfl rfl hO1 (by decide) w_84 rfl d_2_4_17 ?_
  refine lv_iconst (v := 0) hx hb d_2_4_20 (by decide) ?_
  refine lv_aload_n hx hb d_2_4_21 rfl (lv_at hl 0 rfl) ?_
  refine q_get (ci := 2) (j := 0) (v := .ref qA2) C0 V i_Big rfl rfl hO0 (by decide) w_84 rfl d_2_4_22 ?_
  refine lv_iconst (v := 0) hx hb d_2_4_25 (by decide) ?_
  refine lv_aload_n hx hb d_2_4_26 rfl (lv_at hl 0 rfl) ?_
  refine q_get (ci := 2) (j := 1) (v := .int 0) C0 V i_Big rfl rfl hO0 (by decide) w_85 rfl d_2_4_27 ?_
  replace hA3 := (hu2 _ n_A3_O0).trans (hA3)
  replace hA2 := (hu2 _ n_A2_O0).trans (hA2)
  refine q_copy C0 V hl.1 rfl w_791 w_793 w_792 w_29 hA3 hA2 (by decide) (by decide) (by decide) (by decide) (by decide) ⟨Nat.le_of_ble_eq_true rfl, Nat.le_of_ble_eq_true rfl⟩ d_2_4_30 (fun H locs w3 hu4 hA2 V => ?_)
  replace hA2 := q_re (y := (qA2, .inl (g 0, 220, .inl (fun _ => 0)))) hA2 (q_eI q_cpy0)
  replace hA2 : w3[kA2]? = (some (qA2, .inl (g 0, 220, .inl (fun _ => 0))) : Option (Nat × va_E)) := hA2
  replace hF := q_us hF hu4 (.tail _ (.head _))
  refine lv_aload_n hx hb d_2_4_33 rfl (lv_at hl 0 rfl) ?_
  refine lv_aload_n hx hb d_2_4_34 rfl (lv_at hl 1 rfl) ?_
  replace hO1 := (hu4 _ n_O1_A2).trans (hO1)
  refine q_get (ci := 2) (j := 2) (v := .int 0) C0 V i_Big rfl rfl hO1 (by decide) w_94 rfl d_2_4_35 ?_
  replace hO0 := (hu4 _ n_O0_A2).trans (hO0)
  refine q_put (ci := 2) (j := 2) (v := .int 0) (ty := .boolean) C0 V i_Big o_Big n_Big rfl rfl hO0 (by decide) w_94 rfl rfl rfl rfl (Nat.le_of_ble_eq_true rfl) d_2_4_38 (fun H locs w5 hu6 hO0 V => ?_)
  replace hO0 : w5[kO0]? = (some (qO0, .inr (2, [.ref qA2, .int 0, .int 0])) : Option (Nat × va_E)) := hO0
  replace hF := q_us hF hu6 (.head _)
  replace hA2 := (hu6 _ n_A2_O0).trans (hA2)
  exact q_retv C0 V (⟨hF, hO0, hA2⟩) d_2_4_41
theorem d_5_4_0 : decode prog_5_method_4_code 0 = .ok (.aload_n 0, 1) := by decide +kernel
theorem d_5_4_1 : decode prog_5_method_4_code 1 = .ok (.getfield 13, 3) := by decide +kernel
theorem w_264 : (Cond.fieldLink "NumberHouse$Digits" (13 : Nat) "NumberHouse$Digits" "count" "I") ∈ q_tbl := q_of 264 (by decide +kernel) (by decide +kernel)
theorem d_5_4_4 : decode prog_5_method_4_code 4 = .ok (.ifCond .le 30, 3) := by decide +kernel
theorem d_5_4_34 : decode prog_5_method_4_code 34 = .ok (.iconst 0, 1) := by decide +kernel
theorem d_5_4_35 : decode prog_5_method_4_code 35 = .ok (.istore_n 2, 1) := by decide +kernel
theorem d_5_4_36 : decode prog_5_method_4_code 36 = .ok (.aload_n 0, 1) := by decide +kernel
theorem d_5_4_37 : decode prog_5_method_4_code 37 = .ok (.getfield 13, 3) := by decide +kernel
theorem d_5_4_40 : decode prog_5_method_4_code 40 = .ok (.iconst 1, 1) := by decide +kernel
theorem d_5_4_41 : decode prog_5_method_4_code 41 = .ok (.isub, 1) := by decide +kernel
theorem d_5_4_42 : decode prog_5_method_4_code 42 = .ok (.istore_n 3, 1) := by decide +kernel
theorem d_5_4_43 : decode prog_5_method_4_code 43 = .ok (.iload_n 2, 1) := by decide +kernel
theorem d_5_4_44 : decode prog_5_method_4_code 44 = .ok (.iload_n 3, 1) := by decide +kernel
theorem d_5_4_45 : decode prog_5_method_4_code 45 = .ok (.if_icmp .ge 40, 3) := by decide +kernel
theorem d_5_4_85 : decode prog_5_method_4_code 85 = .ok (.aload_n 0, 1) := by decide +kernel
theorem d_5_4_86 : decode prog_5_method_4_code 86 = .ok (.aload_n 0, 1) := by decide +kernel
theorem d_5_4_87 : decode prog_5_method_4_code 87 = .ok (.getfield 13, 3) := by decide +kernel
theorem d_5_4_90 : decode prog_5_method_4_code 90 = .ok (.ifCond .ne 7, 3) := by decide +kernel
theorem d_5_4_93 : decode prog_5_method_4_code 93 = .ok (.iconst 0, 1) := by decide +kernel
theorem d_5_4_94 : decode prog_5_method_4_code 94 = .ok (.goto 11, 3) := by decide +kernel
theorem d_5_4_105 : decode prog_5_method_4_code 105 = .ok (.putfield 33, 3) := by decide +kernel
theorem w_266 : (Cond.fieldLink "NumberHouse$Digits" (33 : Nat) "NumberHouse$Digits" "power" "I") ∈ q_tbl := q_of 266 (by decide +kernel) (by decide +kernel)
theorem d_5_4_108 : decode prog_5_method_4_code 108 = .ok (.return_, 1) := by decide +kernel
def y_Dig_turn : MethodName := ⟨"NumberHouse$Digits", "turn", "(I)V"⟩
set_option maxRecDepth 100000 in
set_option maxHeartbeats 4000000 in
theorem c_Dig_turn (l : Launch) (D : va_G) (g : Nat → ClassId) (ws : va_W) (kO0 qO0 qA1 : Nat) (hO0 : ws[kO0]? = (some (qO0, .inr (7, [.int 0, .int 0, .ref qA1])) : Option (Nat × va_E))) : q_mV l y_Dig_turn prog_5_method_4_code 5 1 0 0 D g [.ref qO0, .int 0] ws (fun u => q_un ws u [kO0] ∧ u[kO0]? = (some (qO0, .inr (7, [.int 0, .int 0, .ref qA1])) : Option (Nat × va_E))) := by
  intro sz
  refine q_into (by decide) (Nat.le_of_ble_eq_true rfl) ?_
  intro p e s m below meth c ls hsz C0 V hl
  have hx := C0.1
  have hb := C0.2.1
  have hl : lv_has ls 5 [(0, .ref qO0), (1, .int 0)] := hl
  have hF : q_un ws ws [kO0] := q_u0
  refine lv_aload_n hx hb d_5_4_0 rfl (lv_at hl 0 rfl) ?_
  refine q_get (ci := 7) (j := 0) (v := .int 0) C0 V i_Dig rfl rfl hO0 (by decide) w_264 rfl d_5_4_1 ?_
  refine lv_if_le (tgt := 34) hx hb d_5_4_4 (by decide) (fun c1 => ?_) (fun c1 => absurd (by decide) c1)
  refine lv_iconst (v := 0) hx hb d_5_4_34 (by decide) ?_
  refine lv_istore_n (lv' := [(2, .int 0), (0, .ref qO0), (1, .int 0)]) hx hb d_5_4_35 rfl hl (by decide) rfl (fun ls hl => ?_)
  refine lv_aload_n hx hb d_5_4_36 rfl (lv_at hl 1 rfl) ?_
  refine q_get (ci := 7) (j := 0) (v := .int 0) C0 V i_Dig rfl rfl hO0 (by decide) w_264 rfl d_5_4_37 ?_
  refine lv_iconst (v := 1) hx hb d_5_4_40 (by decide) ?_
  refine lv_isub hx hb d_5_4_41 ?_
  refine q_ti (v := (-1)) (by decide) ?_
  refine lv_istore_n (lv' := [(3, .int (-1)), (2, .int 0), (0, .ref qO0), (1, .int 0)]) hx hb d_5_4_42 rfl hl (by decide) rfl (fun ls hl => ?_)
  refine lv_iload_n hx hb d_5_4_43 rfl (lv_at hl 1 rfl) ?_
  refine lv_iload_n hx hb d_5_4_44 rfl (lv_at hl 0 rfl) ?_
  refine lv_icmp_ge (tgt := 85) hx hb d_5_4_45 (by decide) (fun c2 => ?_) (fun c2 => absurd (by decide) c2)
  refine lv_aload_n hx hb d_5_4_85 rfl (lv_at hl 2 rfl) ?_
  refine lv_aload_n hx hb d_5_4_86 rfl (lv_at hl 2 rfl) ?_
  refine q_get (ci := 7) (j := 0) (v := .int 0) C0 V i_Dig rfl rfl hO0 (by decide) w_264 rfl d_5_4_87 ?_
  refine lv_if_ne (tgt := 97) hx hb d_5_4_90 (by decide) (fun c3 => absurd (by decide) c3) (fun c3 => ?_)
  refine lv_iconst (v := 0) hx hb d_5_4_93 (by decide) ?_
  refine lv_goto (tgt := 105) hx hb d_5_4_94 (by decide) ?_
  refine q_put (ci := 7) (j := 1) (v := .int 0) (ty := .int) C0 V i_Dig o_Dig n_Dig rfl rfl hO0 (by decide) w_266 rfl rfl rfl rfl (Nat.le_of_ble_eq_true rfl) d_5_4_105 (fun H locs w4 hu5 hO0 V => ?_)
  replace hO0 : w4[kO0]? = (some (qO0, .inr (7, [.int 0, .int 0, .ref qA1])) : Option (Nat × va_E)) := hO0
  replace hF := q_us hF hu5 (.head _)
  exact q_retv C0 V (⟨hF, hO0⟩) d_5_4_108
theorem d_5_2_0 : decode prog_5_method_2_code 0 = .ok (.aload_n 0, 1) := by decide +kernel
theorem d_5_2_1 : decode prog_5_method_2_code 1 = .ok (.iconst 0, 1) := by decide +kernel
theorem d_5_2_2 : decode prog_5_method_2_code 2 = .ok (.putfield 13, 3) := by decide +kernel
theorem d_5_2_5 : decode prog_5_method_2_code 5 = .ok (.iconst 0, 1) := by decide +kernel
theorem d_5_2_6 : decode prog_5_method_2_code 6 = .ok (.istore_n 3, 1) := by decide +kernel
theorem d_5_2_7 : decode prog_5_method_2_code 7 = .ok (.iload_n 3, 1) := by decide +kernel
theorem d_5_2_8 : decode prog_5_method_2_code 8 = .ok (.bipush 114, 2) := by decide +kernel
theorem d_5_2_10 : decode prog_5_method_2_code 10 = .ok (.if_icmp .ge 72, 3) := by decide +kernel
theorem d_5_2_82 : decode prog_5_method_2_code 82 = .ok (.aload_n 0, 1) := by decide +kernel
theorem d_5_2_83 : decode prog_5_method_2_code 83 = .ok (.iload_n 2, 1) := by decide +kernel
theorem d_5_2_84 : decode prog_5_method_2_code 84 = .ok (.invokevirtual 27, 3) := by decide +kernel
theorem w_1147 : (Cond.code ({ cls := "NumberHouse$Digits", name := "turn", desc := "(I)V" } : MethodName) prog_5_method_4_code (5 : Nat) (none : Option ClassFile.FieldType)) ∈ q_tbl := q_of 1147 (by decide +kernel) (by decide +kernel)
theorem w_1144 : (Cond.methodLink "NumberHouse$Digits" (27 : Nat) ({ cls := "NumberHouse$Digits", name := "turn", desc := "(I)V" } : MethodName)) ∈ q_tbl := q_of 1144 (by decide +kernel) (by decide +kernel)
theorem w_1146 : (Cond.instanceMethod ({ cls := "NumberHouse$Digits", name := "turn", desc := "(I)V" } : MethodName)) ∈ q_tbl := q_of 1146 (by decide +kernel) (by decide +kernel)
theorem ws_22 : Cond.selects "NumberHouse$Digits" (⟨"NumberHouse$Digits", "turn", "(I)V"⟩ : MethodName) (⟨"NumberHouse$Digits", "turn", "(I)V"⟩ : MethodName) ∈ q_tbl := q_ofs 22 (by decide +kernel) (by decide +kernel)
theorem LV_Dig_27 : q_LV "NumberHouse$Digits" 27 y_Dig_turn prog_5_method_4_code 5 none 1 := ⟨w_1147, w_9, w_1144, w_1146, ws_22, ⟨by decide, by decide, by decide +kernel⟩⟩
theorem d_5_2_87 : decode prog_5_method_2_code 87 = .ok (.return_, 1) := by decide +kernel
theorem d_5_2_13 : decode prog_5_method_2_code 13 = .ok (.aload_n 1, 1) := by decide +kernel
theorem d_5_2_14 : decode prog_5_method_2_code 14 = .ok (.getfield 17, 3) := by decide +kernel
theorem w_86 : (Cond.fieldLink "NumberHouse$Digits" (17 : Nat) "NumberHouse$Big" "size" "I") ∈ q_tbl := q_of 86 (by decide +kernel) (by decide +kernel)
theorem d_5_2_17 : decode prog_5_method_2_code 17 = .ok (.ifCond .le 65, 3) := by decide +kernel
def y_Dig_fill : MethodName := ⟨"NumberHouse$Digits", "fill", "(LNumberHouse$Big;I)V"⟩
set_option maxRecDepth 100000 in
set_option maxHeartbeats 4000000 in
theorem c_Dig_fill (l : Launch) (D : va_G) (g : Nat → ClassId) (ws : va_W) (kO0 kO1 qO0 qO1 qA2 qA3 : Nat) (hO0 : ws[kO0]? = (some (qO0, .inr (7, [.int 0, .int 0, .ref qA2])) : Option (Nat × va_E))) (hO1 : ws[kO1]? = (some (qO1, .inr (2, [.ref qA3, .int 0, .int 0])) : Option (Nat × va_E))) : q_mV l y_Dig_fill prog_5_method_2_code 6 2 0 0 D g [.ref qO0, .ref qO1, .int 0] ws (fun u => q_un ws u [kO0] ∧ u[kO0]? = (some (qO0, .inr (7, [.int 0, .int 0, .ref qA2])) : Option (Nat × va_E))) := by
  intro sz
  refine q_into (by decide) (Nat.le_of_ble_eq_true rfl) ?_
  intro p e s m below meth c ls hsz C0 V hl
  have hx := C0.1
  have hb := C0.2.1
  have hl : lv_has ls 6 [(0, .ref qO0), (1, .ref qO1), (2, .int 0)] := hl
  have n_O1_O0 := q_dc hO1 hO0 (q_pd 2 7 rfl)
  have hF : q_un ws ws [kO0] := q_u0
  refine lv_aload_n hx hb d_5_2_0 rfl (lv_at hl 0 rfl) ?_
  refine lv_iconst (v := 0) hx hb d_5_2_1 (by decide) ?_
  refine q_put (ci := 7) (j := 0) (v := .int 0) (ty := .int) C0 V i_Dig o_Dig n_Dig rfl rfl hO0 (by decide) w_264 rfl rfl rfl rfl (Nat.le_of_ble_eq_true rfl) d_5_2_2 (fun H locs w1 hu2 hO0 V => ?_)
  replace hO0 : w1[kO0]? = (some (qO0, .inr (7, [.int 0, .int 0, .ref qA2])) : Option (Nat × va_E)) := hO0
  replace hF := q_us hF hu2 (.head _)
  refine lv_iconst (v := 0) hx hb d_5_2_5 (by decide) ?_
  refine lv_istore_n (lv' := [(3, .int 0), (0, .ref qO0), (1, .ref qO1), (2, .int 0)]) hx hb d_5_2_6 rfl hl (by decide) rfl (fun ls hl => ?_)
  replace hO1 := (hu2 _ n_O1_O0).trans (hO1)
  refine q_loop (X := Int32) (fun z H locs ls w4 => (0 ≤ z.toInt ∧ (z.toInt ≤ 114 ∨ z.toInt = 0)) ∧ q_Wd D g (va_A ws sz) s w4 H locs ∧ lv_has ls 6 [(3, .int z), (0, .ref qO0), (1, .ref qO1), (2, .int 0)] ∧ q_un ws w4 [kO0] ∧ w4[kO0]? = (some (qO0, .inr (7, [.int 0, .int 0, .ref qA2])) : Option (Nat × va_E)) ∧ w4[kO1]? = (some (qO1, .inr (2, [.ref qA3, .int 0, .int 0])) : Option (Nat × va_E))) (fun z => (114 - z.toInt).toNat) ?_ ((0 : Int32)) _ _ _ w1 ⟨⟨by decide, Or.inr (by decide)⟩, V, hl, hF, hO0, hO1⟩
  rintro lx3 H locs ls w4 ⟨i5, V, hl, hF, hO0, hO1⟩ ih6
  replace i5 : 0 ≤ lx3.toInt ∧ (lx3.toInt ≤ 114 ∨ lx3.toInt = 0) := i5
  replace hl : lv_has ls 6 [(3, .int lx3), (0, .ref qO0), (1, .ref qO1), (2, .int 0)] := hl
  replace hO0 : w4[kO0]? = (some (qO0, .inr (7, [.int 0, .int 0, .ref qA2])) : Option (Nat × va_E)) := hO0
  replace hO1 : w4[kO1]? = (some (qO1, .inr (2, [.ref qA3, .int 0, .int 0])) : Option (Nat × va_E)) := hO1
  refine lv_iload_n hx hb d_5_2_7 rfl (lv_at hl 0 rfl) ?_
  refine lv_bipush (v := 114) hx hb d_5_2_8 (by decide) ?_
  refine lv_icmp_ge (tgt := 82) hx hb d_5_2_10 (by decide) (fun c7 => ?_) (fun c7 => ?_)
  ·
    refine lv_aload_n hx hb d_5_2_82 rfl (lv_at hl 1 rfl) ?_
    refine lv_iload_n hx hb d_5_2_83 rfl (lv_at hl 3 rfl) ?_
    refine q_gov V (q_runV (As := [.int 0]) (rest := []) (d := 1) (mc := 0) (ms := 0) (ci := 7) C0 V rfl LV_Dig_27 (c_Dig_turn l D g w4 kO0 qO0 qA2 hO0 _) rfl rfl hO0 rfl hl.1 rfl (Nat.le_of_ble_eq_true rfl) ⟨by decide, by decide⟩ ⟨Nat.le_of_ble_eq_true rfl, Nat.le_of_ble_eq_true rfl⟩ d_5_2_84) (fun u9 H locs hp8 V => ?_)
    obtain ⟨hg10, hO0⟩ := hp8
    replace hF := q_uc hF hg10 (q_sc (.head _) (fun _ h => absurd h List.not_mem_nil))
    exact q_retv C0 V (⟨hF, hO0⟩) d_5_2_87
  ·
    refine lv_aload_n hx hb d_5_2_13 rfl (lv_at hl 2 rfl) ?_
    refine q_get (ci := 2) (j := 1) (v := .int 0) C0 V i_Big rfl rfl hO1 (by decide) w_86 rfl d_5_2_14 ?_
    refine lv_if_le (tgt := 82) hx hb d_5_2_17 (by decide) (fun c11 => ?_) (fun c11 => absurd (by decide) c11)
    refine lv_aload_n hx hb d_5_2_82 rfl (lv_at hl 1 rfl) ?_
    refine lv_iload_n hx hb d_5_2_83 rfl (lv_at hl 3 rfl) ?_
    refine q_gov V (q_runV (As := [.int 0]) (rest := []) (d := 1) (mc := 0) (ms := 0) (ci := 7) C0 V rfl LV_Dig_27 (c_Dig_turn l D g w4 kO0 qO0 qA2 hO0 _) rfl rfl hO0 rfl hl.1 rfl (Nat.le_of_ble_eq_true rfl) ⟨by decide, by decide⟩ ⟨Nat.le_of_ble_eq_true rfl, Nat.le_of_ble_eq_true rfl⟩ d_5_2_84) (fun u13 H locs hp12 V => ?_)
    obtain ⟨hg14, hO0⟩ := hp12
    replace hF := q_uc hF hg14 (q_sc (.head _) (fun _ h => absurd h List.not_mem_nil))
    exact q_retv C0 V (⟨hF, hO0⟩) d_5_2_87
theorem d_5_5_0 : decode prog_5_method_5_code 0 = .ok (.iload_n 1, 1) := by decide +kernel
theorem d_5_5_1 : decode prog_5_method_5_code 1 = .ok (.ifCond .lt 20, 3) := by decide +kernel
theorem d_5_5_4 : decode prog_5_method_5_code 4 = .ok (.iload_n 1, 1) := by decide +kernel
theorem d_5_5_5 : decode prog_5_method_5_code 5 = .ok (.aload_n 0, 1) := by decide +kernel
theorem d_5_5_6 : decode prog_5_method_5_code 6 = .ok (.getfield 13, 3) := by decide +kernel
theorem d_5_5_9 : decode prog_5_method_5_code 9 = .ok (.if_icmp .ge 12, 3) := by decide +kernel
theorem d_5_5_21 : decode prog_5_method_5_code 21 = .ok (.iconst 0, 1) := by decide +kernel
theorem d_5_5_22 : decode prog_5_method_5_code 22 = .ok (.ireturn, 1) := by decide +kernel
def y_Dig_figure : MethodName := ⟨"NumberHouse$Digits", "figure", "(I)I"⟩
set_option maxRecDepth 100000 in
set_option maxHeartbeats 4000000 in
theorem c_Dig_figure (l : Launch) (D : va_G) (g : Nat → ClassId) (ws : va_W) (kO0 qO0 qA1 : Nat) (hO0 : ws[kO0]? = (some (qO0, .inr (7, [.int 0, .int 0, .ref qA1])) : Option (Nat × va_E))) : q_mI l y_Dig_figure prog_5_method_5_code 2 (.int) 1 0 0 D g [.ref qO0, .int 0] ws (fun r u => 0 = r ∧ ws = u) := by
  intro sz
  refine q_into (by decide) (Nat.le_of_ble_eq_true rfl) ?_
  intro p e s m below meth c ls hsz C0 V hl
  have hx := C0.1
  have hb := C0.2.1
  have hl : lv_has ls 2 [(0, .ref qO0), (1, .int 0)] := hl
  refine lv_iload_n hx hb d_5_5_0 rfl (lv_at hl 1 rfl) ?_
  refine lv_if_lt (tgt := 21) hx hb d_5_5_1 (by decide) (fun c1 => absurd c1 (by decide)) (fun c1 => ?_)
  refine lv_iload_n hx hb d_5_5_4 rfl (lv_at hl 1 rfl) ?_
  refine lv_aload_n hx hb d_5_5_5 rfl (lv_at hl 0 rfl) ?_
  refine q_get (ci := 7) (j := 0) (v := .int 0) C0 V i_Dig rfl rfl hO0 (by decide) w_264 rfl d_5_5_6 ?_
  refine lv_icmp_ge (tgt := 21) hx hb d_5_5_9 (by decide) (fun c2 => ?_) (fun c2 => absurd (by decide) c2)
  refine lv_iconst (v := 0) hx hb d_5_5_21 (by decide) ?_
  exact q_reti C0 V (⟨rfl, rfl⟩) d_5_5_22
theorem d_1_24_35 : decode prog_1_method_24_code 35 = .ok (.aload_n 0, 1) := by decide +kernel
theorem d_1_24_36 : decode prog_1_method_24_code 36 = .ok (.getfield 43, 3) := by decide +kernel
theorem d_1_24_39 : decode prog_1_method_24_code 39 = .ok (.getfield 141, 3) := by decide +kernel
theorem w_112 : (Cond.fieldLink "NumberHouse" (141 : Nat) "NumberHouse$Mill" "number" "LNumberHouse$Big;") ∈ q_tbl := q_of 112 (by decide +kernel) (by decide +kernel)
theorem d_1_24_42 : decode prog_1_method_24_code 42 = .ok (.aload_n 1, 1) := by decide +kernel
theorem d_1_24_43 : decode prog_1_method_24_code 43 = .ok (.getfield 277, 3) := by decide +kernel
theorem d_1_24_46 : decode prog_1_method_24_code 46 = .ok (.invokevirtual 145, 3) := by decide +kernel
theorem w_790 : (Cond.code ({ cls := "NumberHouse$Big", name := "copy", desc := "(LNumberHouse$Big;)V" } : MethodName) prog_2_method_4_code (2 : Nat) (none : Option ClassFile.FieldType)) ∈ q_tbl := q_of 790 (by decide +kernel) (by decide +kernel)
theorem w_1083 : (Cond.methodLink "NumberHouse" (145 : Nat) ({ cls := "NumberHouse$Big", name := "copy", desc := "(LNumberHouse$Big;)V" } : MethodName)) ∈ q_tbl := q_of 1083 (by decide +kernel) (by decide +kernel)
theorem w_788 : (Cond.instanceMethod ({ cls := "NumberHouse$Big", name := "copy", desc := "(LNumberHouse$Big;)V" } : MethodName)) ∈ q_tbl := q_of 788 (by decide +kernel) (by decide +kernel)
theorem w_789 : (Cond.selects "NumberHouse$Big" ({ cls := "NumberHouse$Big", name := "copy", desc := "(LNumberHouse$Big;)V" } : MethodName) ({ cls := "NumberHouse$Big", name := "copy", desc := "(LNumberHouse$Big;)V" } : MethodName)) ∈ q_tbl := q_of 789 (by decide +kernel) (by decide +kernel)
theorem LV_NH_145 : q_LV "NumberHouse" 145 y_Big_copy prog_2_method_4_code 2 none 1 := ⟨w_790, w_4, w_1083, w_788, w_789, ⟨by decide, by decide, by decide +kernel⟩⟩
theorem d_1_24_49 : decode prog_1_method_24_code 49 = .ok (.aload_n 0, 1) := by decide +kernel
theorem d_1_24_50 : decode prog_1_method_24_code 50 = .ok (.getfield 71, 3) := by decide +kernel
theorem d_1_24_53 : decode prog_1_method_24_code 53 = .ok (.aload_n 0, 1) := by decide +kernel
theorem d_1_24_54 : decode prog_1_method_24_code 54 = .ok (.getfield 43, 3) := by decide +kernel
theorem d_1_24_57 : decode prog_1_method_24_code 57 = .ok (.getfield 141, 3) := by decide +kernel
theorem d_1_24_60 : decode prog_1_method_24_code 60 = .ok (.iconst 0, 1) := by decide +kernel
theorem d_1_24_61 : decode prog_1_method_24_code 61 = .ok (.invokevirtual 394, 3) := by decide +kernel
theorem w_1141 : (Cond.code ({ cls := "NumberHouse$Digits", name := "fill", desc := "(LNumberHouse$Big;I)V" } : MethodName) prog_5_method_2_code (6 : Nat) (none : Option ClassFile.FieldType)) ∈ q_tbl := q_of 1141 (by decide +kernel) (by decide +kernel)
theorem w_1138 : (Cond.methodLink "NumberHouse" (394 : Nat) ({ cls := "NumberHouse$Digits", name := "fill", desc := "(LNumberHouse$Big;I)V" } : MethodName)) ∈ q_tbl := q_of 1138 (by decide +kernel) (by decide +kernel)
theorem w_1139 : (Cond.instanceMethod ({ cls := "NumberHouse$Digits", name := "fill", desc := "(LNumberHouse$Big;I)V" } : MethodName)) ∈ q_tbl := q_of 1139 (by decide +kernel) (by decide +kernel)
theorem w_1140 : (Cond.selects "NumberHouse$Digits" ({ cls := "NumberHouse$Digits", name := "fill", desc := "(LNumberHouse$Big;I)V" } : MethodName) ({ cls := "NumberHouse$Digits", name := "fill", desc := "(LNumberHouse$Big;I)V" } : MethodName)) ∈ q_tbl := q_of 1140 (by decide +kernel) (by decide +kernel)
theorem LV_NH_394 : q_LV "NumberHouse" 394 y_Dig_fill prog_5_method_2_code 6 none 2 := ⟨w_1141, w_9, w_1138, w_1139, w_1140, ⟨by decide, by decide, by decide +kernel⟩⟩
theorem d_1_24_64 : decode prog_1_method_24_code 64 = .ok (.aload_n 0, 1) := by decide +kernel
theorem d_1_24_65 : decode prog_1_method_24_code 65 = .ok (.getfield 71, 3) := by decide +kernel
theorem d_1_24_68 : decode prog_1_method_24_code 68 = .ok (.iload_n 2, 1) := by decide +kernel
theorem d_1_24_69 : decode prog_1_method_24_code 69 = .ok (.iconst 3, 1) := by decide +kernel
theorem d_1_24_70 : decode prog_1_method_24_code 70 = .ok (.isub, 1) := by decide +kernel
theorem d_1_24_71 : decode prog_1_method_24_code 71 = .ok (.invokevirtual 397, 3) := by decide +kernel
theorem w_1151 : (Cond.code ({ cls := "NumberHouse$Digits", name := "figure", desc := "(I)I" } : MethodName) prog_5_method_5_code (2 : Nat) (some .int)) ∈ q_tbl := q_of 1151 (by decide +kernel) (by decide +kernel)
theorem w_1148 : (Cond.methodLink "NumberHouse" (397 : Nat) ({ cls := "NumberHouse$Digits", name := "figure", desc := "(I)I" } : MethodName)) ∈ q_tbl := q_of 1148 (by decide +kernel) (by decide +kernel)
theorem w_1149 : (Cond.instanceMethod ({ cls := "NumberHouse$Digits", name := "figure", desc := "(I)I" } : MethodName)) ∈ q_tbl := q_of 1149 (by decide +kernel) (by decide +kernel)
theorem w_1150 : (Cond.selects "NumberHouse$Digits" ({ cls := "NumberHouse$Digits", name := "figure", desc := "(I)I" } : MethodName) ({ cls := "NumberHouse$Digits", name := "figure", desc := "(I)I" } : MethodName)) ∈ q_tbl := q_of 1150 (by decide +kernel) (by decide +kernel)
theorem LV_NH_397 : q_LV "NumberHouse" 397 y_Dig_figure prog_5_method_5_code 2 (some .int) 1 := ⟨w_1151, w_9, w_1148, w_1149, w_1150, ⟨by decide, by decide, by decide +kernel⟩⟩
theorem d_1_24_74 : decode prog_1_method_24_code 74 = .ok (.i2l, 1) := by decide +kernel
theorem d_1_24_75 : decode prog_1_method_24_code 75 = .ok (.lreturn, 1) := by decide +kernel
set_option maxRecDepth 100000 in
set_option maxHeartbeats 4000000 in
theorem c_NH_tellDecimal_2 (l : Launch) (D : va_G) (g : Nat → ClassId) (ws : va_W) (kO1 kO16 kA37 qO0 qO1 qO2 qO3 qA4 qA5 qA6 qA7 qO8 qO9 qO10 qO11 qO12 qO13 qO14 qO15 qO16 qO19 qO20 qO21 qO22 qO23 qO24 qO25 qO26 qO27 qO28 qA30 qA37 qA38 : Nat) (hO0 : ws[0]? = (some (qO0, .inr (0, [.ref qO2, .ref qO3, .ref qA4, .ref qA5, .ref qA6, .ref qA7, .ref qO8, .ref qO9, .ref qO10, .ref qO11, .ref qO12, .ref qO13, .ref qO14, .ref qO15])) : Option (Nat × va_E))) (hO1 : ws[kO1]? = (some (qO1, .inr (3, [.ref qO16, .int 0, .int 1])) : Option (Nat × va_E))) (hO8 : ws[9]? = (some (qO8, .inr (4, [.ref qO19, .ref qO20, .ref qO21, .ref qO22, .ref qO23, .ref qO24, .ref qO25, .ref qO26, .ref qO27, .ref qO28])) : Option (Nat × va_E))) (hO12 : ws[36]? = (some (qO12, .inr (7, [.int 0, .int 0, .ref qA30])) : Option (Nat × va_E))) (hO16 : ws[kO16]? = (some (qO16, .inr (2, [.ref qA37, .int 0, .int 0])) : Option (Nat × va_E))) (hO19 : ws[10]? = (some (qO19, .inr (2, [.ref qA38, .int 0, .int 0])) : Option (Nat × va_E))) (hA37 : ws[kA37]? = (some (qA37, .inl (g 0, 108, .inl (fun _ => 0))) : Option (Nat × va_E))) (hA38 : ws[11]? = (some (qA38, .inl (g 0, 220, .inl (fun _ => 0))) : Option (Nat × va_E))) (n_A37_A38 : kA37 ≠ 11) (n_O16_O19 : kO16 ≠ 10) : q_mL l y_NH_tellDecimal prog_1_method_24_code 3 3 0 0 D g [.ref qO0, .ref qO1, .int 3] ws (fun r u => 0 = r ∧ q_un ws u [36, 10, 11] ∧ u[36]? = (some (qO12, .inr (7, [.int 0, .int 0, .ref qA30])) : Option (Nat × va_E)) ∧ u[10]? = (some (qO19, .inr (2, [.ref qA38, .int 0, .int 0])) : Option (Nat × va_E)) ∧ u[11]? = (some (qA38, .inl (g 0, 220, .inl (fun _ => 0))) : Option (Nat × va_E))) := by
  intro sz
  refine q_into (by decide) (Nat.le_of_ble_eq_true rfl) ?_
  intro p e s m below meth c ls hsz C0 V hl
  have hx := C0.1
  have hb := C0.2.1
  have hl : lv_has ls 3 [(0, .ref qO0), (1, .ref qO1), (2, .int 3)] := hl
  have n_A37_O12 := q_df hA37 hO12
  have n_A37_O19 := q_df hA37 hO19
  have n_O1_A38 := Ne.symm (q_df hA38 hO1)
  have n_O1_O12 := q_dc hO1 hO12 (q_pd 3 7 rfl)
  have n_O1_O19 := q_dc hO1 hO19 (q_pd 3 2 rfl)
  have n_O16_A38 := Ne.symm (q_df hA38 hO16)
  have n_O16_O12 := q_dc hO16 hO12 (q_pd 2 7 rfl)
  have hF : q_un ws ws [36, 10, 11] := q_u0
  refine lv_iload_n hx hb d_1_24_0 rfl (lv_at hl 2 rfl) ?_
  refine lv_if_ne (tgt := 13) hx hb d_1_24_1 (by decide) (fun c1 => ?_) (fun c1 => absurd c1 (by decide))
  refine lv_iload_n hx hb d_1_24_13 rfl (lv_at hl 2 rfl) ?_
  refine lv_iconst (v := 1) hx hb d_1_24_14 (by decide) ?_
  refine lv_icmp_ne (tgt := 24) hx hb d_1_24_15 (by decide) (fun c2 => ?_) (fun c2 => absurd c2 (by decide))
  refine lv_iload_n hx hb d_1_24_24 rfl (lv_at hl 2 rfl) ?_
  refine lv_iconst (v := 2) hx hb d_1_24_25 (by decide) ?_
  refine lv_icmp_ne (tgt := 35) hx hb d_1_24_26 (by decide) (fun c3 => ?_) (fun c3 => absurd c3 (by decide))
  refine lv_aload_n hx hb d_1_24_35 rfl (lv_at hl 0 rfl) ?_
  refine q_get (ci := 0) (j := 6) (v := .ref qO8) C0 V i_NH rfl rfl hO0 (by decide) w_430 rfl d_1_24_36 ?_
  refine q_get (ci := 4) (j := 0) (v := .ref qO19) C0 V i_Mil rfl rfl hO8 (by decide) w_112 rfl d_1_24_39 ?_
  refine lv_aload_n hx hb d_1_24_42 rfl (lv_at hl 1 rfl) ?_
  refine q_get (ci := 3) (j := 0) (v := .ref qO16) C0 V i_Dec rfl rfl hO1 (by decide) w_174 rfl d_1_24_43 ?_
  refine q_gov V (q_runV (As := [.ref qO16]) (rest := []) (d := 2) (mc := 0) (ms := 0) (ci := 2) C0 V rfl LV_NH_145 (c_Big_copy l D g ws 10 kO16 11 kA37 qO19 qO16 qA38 qA37 hO19 hO16 hA38 hA37 n_A37_A38 n_O16_O19 _) rfl rfl hO19 rfl hl.1 rfl (Nat.le_of_ble_eq_true rfl) ⟨by decide, by decide⟩ ⟨Nat.le_of_ble_eq_true rfl, Nat.le_of_ble_eq_true rfl⟩ d_1_24_46) (fun u5 H locs hp4 V => ?_)
  obtain ⟨hg6, hO19, hA38⟩ := hp4
  replace hF := q_uc hF hg6 (q_sc (.tail _ (.head _)) (q_sc (.tail _ (.tail _ (.head _))) (fun _ h => absurd h List.not_mem_nil)))
  refine lv_aload_n hx hb d_1_24_49 rfl (lv_at hl 0 rfl) ?_
  replace hO0 := (hg6 _ (q_nc (q_pd 0 10 rfl) (q_nc (q_pd 0 11 rfl) List.not_mem_nil))).trans (hO0)
  refine q_get (ci := 0) (j := 10) (v := .ref qO12) C0 V i_NH rfl rfl hO0 (by decide) w_434 rfl d_1_24_50 ?_
  refine lv_aload_n hx hb d_1_24_53 rfl (lv_at hl 0 rfl) ?_
  refine q_get (ci := 0) (j := 6) (v := .ref qO8) C0 V i_NH rfl rfl hO0 (by decide) w_430 rfl d_1_24_54 ?_
  replace hO8 := (hg6 _ (q_nc (q_pd 9 10 rfl) (q_nc (q_pd 9 11 rfl) List.not_mem_nil))).trans (hO8)
  refine q_get (ci := 4) (j := 0) (v := .ref qO19) C0 V i_Mil rfl rfl hO8 (by decide) w_112 rfl d_1_24_57 ?_
  refine lv_iconst (v := 0) hx hb d_1_24_60 (by decide) ?_
  replace hO12 := (hg6 _ (q_nc (q_pd 36 10 rfl) (q_nc (q_pd 36 11 rfl) List.not_mem_nil))).trans (hO12)
  refine q_gov V (q_runV (As := [.ref qO19, .int 0]) (rest := []) (d := 2) (mc := 0) (ms := 0) (ci := 7) C0 V rfl LV_NH_394 (c_Dig_fill l D g u5 36 10 qO12 qO19 qA30 qA38 hO12 hO19 _) rfl rfl hO12 rfl hl.1 rfl (Nat.le_of_ble_eq_true rfl) ⟨by decide, by decide⟩ ⟨Nat.le_of_ble_eq_true rfl, Nat.le_of_ble_eq_true rfl⟩ d_1_24_61) (fun u8 H locs hp7 V => ?_)
  obtain ⟨hg9, hO12⟩ := hp7
  replace hF := q_uc hF hg9 (q_sc (.head _) (fun _ h => absurd h List.not_mem_nil))
  refine lv_aload_n hx hb d_1_24_64 rfl (lv_at hl 0 rfl) ?_
  replace hO0 := (hg9 _ (q_nc (q_pd 0 36 rfl) List.not_mem_nil)).trans (hO0)
  refine q_get (ci := 0) (j := 10) (v := .ref qO12) C0 V i_NH rfl rfl hO0 (by decide) w_434 rfl d_1_24_65 ?_
  refine lv_iload_n hx hb d_1_24_68 rfl (lv_at hl 2 rfl) ?_
  refine lv_iconst (v := 3) hx hb d_1_24_69 (by decide) ?_
  refine lv_isub hx hb d_1_24_70 ?_
  refine q_ti (v := 0) (by decide) ?_
  refine q_goi V (q_runV (As := [.int 0]) (rest := []) (d := 1) (mc := 0) (ms := 0) (ci := 7) C0 V rfl LV_NH_397 (c_Dig_figure l D g u8 36 qO12 qA30 hO12 _) rfl rfl hO12 rfl hl.1 rfl (Nat.le_of_ble_eq_true rfl) ⟨by decide, by decide⟩ ⟨Nat.le_of_ble_eq_true rfl, Nat.le_of_ble_eq_true rfl⟩ d_1_24_71) (fun v12 u11 H locs hp10 V => ?_)
  obtain ⟨rfl, rfl⟩ := hp10
  refine lv_i2l hx hb d_1_24_74 rfl ?_
  refine q_tl (v := 0) (by decide) ?_
  replace hO19 := (hg9 _ (q_nc (q_pd 10 36 rfl) List.not_mem_nil)).trans (hO19)
  replace hA38 := (hg9 _ (q_nc (q_pd 11 36 rfl) List.not_mem_nil)).trans (hA38)
  exact q_retl C0 V (⟨rfl, hF, hO12, hO19, hA38⟩) d_1_24_75
theorem d_1_23_0 : decode prog_1_method_23_code 0 = .ok (.iload_n 2, 1) := by decide +kernel
theorem d_1_23_1 : decode prog_1_method_23_code 1 = .ok (.tableswitch 54 0 3 #[31, 36, 42, 48], 31) := by decide +kernel
theorem d_1_23_32 : decode prog_1_method_23_code 32 = .ok (.aload_n 1, 1) := by decide +kernel
theorem d_1_23_33 : decode prog_1_method_23_code 33 = .ok (.invokevirtual 370, 3) := by decide +kernel
theorem w_1118 : (Cond.code ({ cls := "NumberHouse$Big", name := "toLong", desc := "()J" } : MethodName) prog_2_method_10_code (3 : Nat) (some .long)) ∈ q_tbl := q_of 1118 (by decide +kernel) (by decide +kernel)
theorem w_1115 : (Cond.methodLink "NumberHouse" (370 : Nat) ({ cls := "NumberHouse$Big", name := "toLong", desc := "()J" } : MethodName)) ∈ q_tbl := q_of 1115 (by decide +kernel) (by decide +kernel)
theorem w_1116 : (Cond.instanceMethod ({ cls := "NumberHouse$Big", name := "toLong", desc := "()J" } : MethodName)) ∈ q_tbl := q_of 1116 (by decide +kernel) (by decide +kernel)
theorem w_1117 : (Cond.selects "NumberHouse$Big" ({ cls := "NumberHouse$Big", name := "toLong", desc := "()J" } : MethodName) ({ cls := "NumberHouse$Big", name := "toLong", desc := "()J" } : MethodName)) ∈ q_tbl := q_of 1117 (by decide +kernel) (by decide +kernel)
theorem LV_NH_370 : q_LV "NumberHouse" 370 y_Big_toLong prog_2_method_10_code 3 (some .long) 0 := ⟨w_1118, w_4, w_1115, w_1116, w_1117, ⟨by decide, by decide, by decide +kernel⟩⟩
theorem d_1_23_36 : decode prog_1_method_23_code 36 = .ok (.lreturn, 1) := by decide +kernel
theorem d_1_23_37 : decode prog_1_method_23_code 37 = .ok (.aload_n 1, 1) := by decide +kernel
theorem d_1_23_38 : decode prog_1_method_23_code 38 = .ok (.invokevirtual 225, 3) := by decide +kernel
theorem d_1_23_41 : decode prog_1_method_23_code 41 = .ok (.i2l, 1) := by decide +kernel
theorem d_1_23_42 : decode prog_1_method_23_code 42 = .ok (.lreturn, 1) := by decide +kernel
theorem d_1_23_43 : decode prog_1_method_23_code 43 = .ok (.aload_n 1, 1) := by decide +kernel
theorem d_1_23_44 : decode prog_1_method_23_code 44 = .ok (.invokevirtual 383, 3) := by decide +kernel
theorem w_1123 : (Cond.methodLink "NumberHouse" (383 : Nat) ({ cls := "NumberHouse$Big", name := "lengthInBits", desc := "()I" } : MethodName)) ∈ q_tbl := q_of 1123 (by decide +kernel) (by decide +kernel)
theorem LV_NH_383 : q_LV "NumberHouse" 383 y_Big_lengthInBits prog_2_method_14_code 2 (some .int) 0 := ⟨w_1126, w_4, w_1123, w_1124, w_1125, ⟨by decide, by decide, by decide +kernel⟩⟩
theorem d_1_23_47 : decode prog_1_method_23_code 47 = .ok (.i2l, 1) := by decide +kernel
theorem d_1_23_48 : decode prog_1_method_23_code 48 = .ok (.lreturn, 1) := by decide +kernel
theorem d_1_23_49 : decode prog_1_method_23_code 49 = .ok (.aload_n 1, 1) := by decide +kernel
theorem d_1_23_50 : decode prog_1_method_23_code 50 = .ok (.invokevirtual 386, 3) := by decide +kernel
theorem w_1131 : (Cond.code ({ cls := "NumberHouse$Big", name := "otherBits", desc := "()I" } : MethodName) prog_2_method_16_code (3 : Nat) (some .int)) ∈ q_tbl := q_of 1131 (by decide +kernel) (by decide +kernel)
theorem w_1128 : (Cond.methodLink "NumberHouse" (386 : Nat) ({ cls := "NumberHouse$Big", name := "otherBits", desc := "()I" } : MethodName)) ∈ q_tbl := q_of 1128 (by decide +kernel) (by decide +kernel)
theorem w_1129 : (Cond.instanceMethod ({ cls := "NumberHouse$Big", name := "otherBits", desc := "()I" } : MethodName)) ∈ q_tbl := q_of 1129 (by decide +kernel) (by decide +kernel)
theorem w_1130 : (Cond.selects "NumberHouse$Big" ({ cls := "NumberHouse$Big", name := "otherBits", desc := "()I" } : MethodName) ({ cls := "NumberHouse$Big", name := "otherBits", desc := "()I" } : MethodName)) ∈ q_tbl := q_of 1130 (by decide +kernel) (by decide +kernel)
theorem LV_NH_386 : q_LV "NumberHouse" 386 y_Big_otherBits prog_2_method_16_code 3 (some .int) 0 := ⟨w_1131, w_4, w_1128, w_1129, w_1130, ⟨by decide, by decide, by decide +kernel⟩⟩
theorem d_1_23_53 : decode prog_1_method_23_code 53 = .ok (.i2l, 1) := by decide +kernel
theorem d_1_23_54 : decode prog_1_method_23_code 54 = .ok (.lreturn, 1) := by decide +kernel
theorem d_1_23_55 : decode prog_1_method_23_code 55 = .ok (.aload_n 1, 1) := by decide +kernel
theorem d_1_23_56 : decode prog_1_method_23_code 56 = .ok (.getfield 220, 3) := by decide +kernel
theorem w_91 : (Cond.fieldLink "NumberHouse" (220 : Nat) "NumberHouse$Big" "size" "I") ∈ q_tbl := q_of 91 (by decide +kernel) (by decide +kernel)
theorem d_1_23_59 : decode prog_1_method_23_code 59 = .ok (.ifCond .ne 9, 3) := by decide +kernel
theorem d_1_23_62 : decode prog_1_method_23_code 62 = .ok (.ldc2_w 389, 3) := by decide +kernel
theorem w_1132 : (Cond.constantLong "NumberHouse" (389 : Nat) (-1 : Int64)) ∈ q_tbl := q_of 1132 (by decide +kernel) (by decide +kernel)
theorem d_1_23_65 : decode prog_1_method_23_code 65 = .ok (.goto 8, 3) := by decide +kernel
theorem d_1_23_73 : decode prog_1_method_23_code 73 = .ok (.lreturn, 1) := by decide +kernel
def y_NH_tellWhole : MethodName := ⟨"NumberHouse", "tellWhole", "(LNumberHouse$Big;I)J"⟩
set_option maxRecDepth 100000 in
set_option maxHeartbeats 4000000 in
theorem c_NH_tellWhole (l : Launch) (D : va_G) (g : Nat → ClassId) (ws : va_W) (kO1 qO0 qO1 qA16 : Nat) (x1 : Int32) (hO1 : ws[kO1]? = (some (qO1, .inr (2, [.ref qA16, .int 0, .int 0])) : Option (Nat × va_E))) (x1lo : 0 ≤ x1) (x1hi : x1 ≤ 4) : q_mL l y_NH_tellWhole prog_1_method_23_code 3 3 0 0 D g [.ref qO0, .ref qO1, .int x1] ws (fun r u => (x1 = 0 ∧ 0 = r ∧ ws = u) ∨ (¬ x1 = 0 ∧ x1 = 1 ∧ 0 = r ∧ ws = u) ∨ (¬ x1 = 0 ∧ ¬ x1 = 1 ∧ x1 = 2 ∧ 0 = r ∧ ws = u) ∨ (¬ x1 = 0 ∧ ¬ x1 = 1 ∧ ¬ x1 = 2 ∧ x1 = 3 ∧ 0 = r ∧ ws = u) ∨ (¬ x1 = 0 ∧ ¬ x1 = 1 ∧ ¬ x1 = 2 ∧ ¬ x1 = 3 ∧ (-1) = r ∧ ws = u)) := by
  intro sz
  refine q_into (by decide) (Nat.le_of_ble_eq_true rfl) ?_
  intro p e s m below meth c ls hsz C0 V hl
  have hx := C0.1
  have hb := C0.2.1
  have hl : lv_has ls 3 [(0, .ref qO0), (1, .ref qO1), (2, .int x1)] := hl
  refine lv_iload_n hx hb d_1_23_0 rfl (lv_at hl 2 rfl) ?_
  by_cases c1 : x1 = 0
  ·
    refine q_ti (v := 0) c1 ?_
    refine lv_tableIn (tgt := 32) (off := 31) hx hb d_1_23_1 (by decide) (by decide) (by decide) (by decide) ?_
    refine lv_aload_n hx hb d_1_23_32 rfl (lv_at hl 1 rfl) ?_
    refine q_gol V (q_runV (As := []) (rest := []) (d := 2) (mc := 0) (ms := 0) (ci := 2) C0 V rfl LV_NH_370 (c_Big_toLong l D g ws kO1 qO1 qA16 hO1 _) rfl rfl hO1 rfl hl.1 rfl (Nat.le_of_ble_eq_true rfl) ⟨by decide, by decide⟩ ⟨Nat.le_of_ble_eq_true rfl, Nat.le_of_ble_eq_true rfl⟩ d_1_23_33) (fun v4 u3 H locs hp2 V => ?_)
    obtain ⟨rfl, rfl⟩ := hp2
    exact q_retl C0 V (Or.inl ⟨c1, rfl, rfl⟩) d_1_23_36
  by_cases c6 : x1 = 1
  ·
    refine q_ti (v := 1) c6 ?_
    refine lv_tableIn (tgt := 37) (off := 36) hx hb d_1_23_1 (by decide) (by decide) (by decide) (by decide) ?_
    refine lv_aload_n hx hb d_1_23_37 rfl (lv_at hl 1 rfl) ?_
    refine q_goi V (q_runV (As := []) (rest := []) (d := 1) (mc := 0) (ms := 0) (ci := 2) C0 V rfl LV_NH_225 (c_Big_sign l D g ws kO1 qO1 qA16 0 0 hO1 _) rfl rfl hO1 rfl hl.1 rfl (Nat.le_of_ble_eq_true rfl) ⟨by decide, by decide⟩ ⟨Nat.le_of_ble_eq_true rfl, Nat.le_of_ble_eq_true rfl⟩ d_1_23_38) (fun v9 u8 H locs hp7 V => ?_)
    rcases hp7 with ⟨c10, c11, rfl, rfl⟩ | ⟨c13, c14, rfl, rfl⟩ | ⟨c16, rfl, rfl⟩
    ·
      exact absurd c10 (by decide)
    ·
      exact absurd c13 (by decide)
    ·
      refine lv_i2l hx hb d_1_23_41 rfl ?_
      refine q_tl (v := 0) (by decide) ?_
      exact q_retl C0 V (Or.inr (Or.inl ⟨c1, c6, rfl, rfl⟩)) d_1_23_42
  by_cases c18 : x1 = 2
  ·
    refine q_ti (v := 2) c18 ?_
    refine lv_tableIn (tgt := 43) (off := 42) hx hb d_1_23_1 (by decide) (by decide) (by decide) (by decide) ?_
    refine lv_aload_n hx hb d_1_23_43 rfl (lv_at hl 1 rfl) ?_
    refine q_goi V (q_runV (As := []) (rest := []) (d := 2) (mc := 0) (ms := 0) (ci := 2) C0 V rfl LV_NH_383 (c_Big_lengthInBits l D g ws kO1 qO1 qA16 hO1 _) rfl rfl hO1 rfl hl.1 rfl (Nat.le_of_ble_eq_true rfl) ⟨by decide, by decide⟩ ⟨Nat.le_of_ble_eq_true rfl, Nat.le_of_ble_eq_true rfl⟩ d_1_23_44) (fun v21 u20 H locs hp19 V => ?_)
    obtain ⟨rfl, rfl⟩ := hp19
    refine lv_i2l hx hb d_1_23_47 rfl ?_
    refine q_tl (v := 0) (by decide) ?_
    exact q_retl C0 V (Or.inr (Or.inr (Or.inl ⟨c1, c6, c18, rfl, rfl⟩))) d_1_23_48
  by_cases c23 : x1 = 3
  ·
    refine q_ti (v := 3) c23 ?_
    refine lv_tableIn (tgt := 49) (off := 48) hx hb d_1_23_1 (by decide) (by decide) (by decide) (by decide) ?_
    refine lv_aload_n hx hb d_1_23_49 rfl (lv_at hl 1 rfl) ?_
    refine q_goi V (q_runV (As := []) (rest := []) (d := 1) (mc := 0) (ms := 0) (ci := 2) C0 V rfl LV_NH_386 (c_Big_otherBits l D g ws kO1 qO1 qA16 hO1 _) rfl rfl hO1 rfl hl.1 rfl (Nat.le_of_ble_eq_true rfl) ⟨by decide, by decide⟩ ⟨Nat.le_of_ble_eq_true rfl, Nat.le_of_ble_eq_true rfl⟩ d_1_23_50) (fun v26 u25 H locs hp24 V => ?_)
    obtain ⟨rfl, rfl⟩ := hp24
    refine lv_i2l hx hb d_1_23_53 rfl ?_
    refine q_tl (v := 0) (by decide) ?_
    exact q_retl C0 V (Or.inr (Or.inr (Or.inr (Or.inl ⟨c1, c6, c18, c23, rfl, rfl⟩)))) d_1_23_54
  refine lv_tableOut (tgt := 55) hx hb d_1_23_1 (by have z0 : x1.toInt ≠ 0 := q_neI c1; have z1 : x1.toInt ≠ 1 := q_neI c6; have z2 : x1.toInt ≠ 2 := q_neI c18; have z3 : x1.toInt ≠ 3 := q_neI c23; omega) (by decide) ?_
  refine lv_aload_n hx hb d_1_23_55 rfl (lv_at hl 1 rfl) ?_
  refine q_get (ci := 2) (j := 1) (v := .int 0) C0 V i_Big rfl rfl hO1 (by decide) w_91 rfl d_1_23_56 ?_
  refine lv_if_ne (tgt := 68) hx hb d_1_23_59 (by decide) (fun c28 => absurd (by decide) c28) (fun c28 => ?_)
  refine q_ldc2 C0 rfl w_1132 d_1_23_62 ?_
  refine lv_goto (tgt := 73) hx hb d_1_23_65 (by decide) ?_
  exact q_retl C0 V (Or.inr (Or.inr (Or.inr (Or.inr (⟨c1, c6, c18, c23, rfl, rfl⟩))))) d_1_23_73
theorem d_1_6_0 : decode prog_1_method_6_code 0 = .ok (.iload_n 1, 1) := by decide +kernel
theorem d_1_6_1 : decode prog_1_method_6_code 1 = .ok (.iload_n 2, 1) := by decide +kernel
theorem d_1_6_2 : decode prog_1_method_6_code 2 = .ok (.invokestatic 118, 3) := by decide +kernel
theorem d_1_6_5 : decode prog_1_method_6_code 5 = .ok (.iload_n 3, 1) := by decide +kernel
theorem d_1_6_6 : decode prog_1_method_6_code 6 = .ok (.ifCond .lt 7, 3) := by decide +kernel
theorem d_1_6_13 : decode prog_1_method_6_code 13 = .ok (.iconst 0, 1) := by decide +kernel
theorem d_1_6_14 : decode prog_1_method_6_code 14 = .ok (.invokestatic 104, 3) := by decide +kernel
theorem d_1_6_9 : decode prog_1_method_6_code 9 = .ok (.iconst 1, 1) := by decide +kernel
theorem d_1_6_10 : decode prog_1_method_6_code 10 = .ok (.goto 4, 3) := by decide +kernel
theorem d_1_6_17 : decode prog_1_method_6_code 17 = .ok (.iload_n 1, 1) := by decide +kernel
theorem d_1_6_18 : decode prog_1_method_6_code 18 = .ok (.ifCond .ne 28, 3) := by decide +kernel
theorem d_1_6_46 : decode prog_1_method_6_code 46 = .ok (.iload_n 1, 1) := by decide +kernel
theorem d_1_6_47 : decode prog_1_method_6_code 47 = .ok (.iconst 1, 1) := by decide +kernel
theorem d_1_6_48 : decode prog_1_method_6_code 48 = .ok (.if_icmp .ne 43, 3) := by decide +kernel
theorem d_1_6_91 : decode prog_1_method_6_code 91 = .ok (.iload_n 3, 1) := by decide +kernel
theorem d_1_6_92 : decode prog_1_method_6_code 92 = .ok (.iconst 2, 1) := by decide +kernel
theorem d_1_6_93 : decode prog_1_method_6_code 93 = .ok (.if_icmp .gt 7, 3) := by decide +kernel
theorem d_1_6_100 : decode prog_1_method_6_code 100 = .ok (.iconst 0, 1) := by decide +kernel
theorem d_1_6_101 : decode prog_1_method_6_code 101 = .ok (.invokestatic 104, 3) := by decide +kernel
theorem d_1_6_96 : decode prog_1_method_6_code 96 = .ok (.iconst 1, 1) := by decide +kernel
theorem d_1_6_97 : decode prog_1_method_6_code 97 = .ok (.goto 4, 3) := by decide +kernel
theorem d_1_6_104 : decode prog_1_method_6_code 104 = .ok (.aload_n 0, 1) := by decide +kernel
theorem d_1_6_105 : decode prog_1_method_6_code 105 = .ok (.iload_n 1, 1) := by decide +kernel
theorem d_1_6_106 : decode prog_1_method_6_code 106 = .ok (.invokevirtual 157, 3) := by decide +kernel
theorem d_1_6_109 : decode prog_1_method_6_code 109 = .ok (.iload_n 2, 1) := by decide +kernel
theorem d_1_6_110 : decode prog_1_method_6_code 110 = .ok (.laload, 1) := by decide +kernel
theorem d_1_6_111 : decode prog_1_method_6_code 111 = .ok (.lstore 4, 2) := by decide +kernel
theorem d_1_6_113 : decode prog_1_method_6_code 113 = .ok (.iload_n 3, 1) := by decide +kernel
theorem d_1_6_114 : decode prog_1_method_6_code 114 = .ok (.ifCond .ne 6, 3) := by decide +kernel
theorem d_1_6_120 : decode prog_1_method_6_code 120 = .ok (.aload_n 0, 1) := by decide +kernel
theorem d_1_6_121 : decode prog_1_method_6_code 121 = .ok (.iload_n 1, 1) := by decide +kernel
theorem d_1_6_122 : decode prog_1_method_6_code 122 = .ok (.invokevirtual 130, 3) := by decide +kernel
theorem d_1_6_125 : decode prog_1_method_6_code 125 = .ok (.astore 6, 2) := by decide +kernel
theorem d_1_6_127 : decode prog_1_method_6_code 127 = .ok (.aload 6, 2) := by decide +kernel
theorem d_1_6_129 : decode prog_1_method_6_code 129 = .ok (.lload 4, 2) := by decide +kernel
theorem d_1_6_131 : decode prog_1_method_6_code 131 = .ok (.invokevirtual 179, 3) := by decide +kernel
theorem w_1152 : (Cond.methodLink "NumberHouse" (179 : Nat) ({ cls := "NumberHouse$Floats", name := "isFinite", desc := "(J)Z" } : MethodName)) ∈ q_tbl := q_of 1152 (by decide +kernel) (by decide +kernel)
theorem LV_NH_179 : q_LV "NumberHouse" 179 y_Flo_isFinite prog_7_method_5_code 3 (some .boolean) 1 := ⟨w_1155, w_8, w_1152, w_1153, w_1154, ⟨by decide, by decide, by decide +kernel⟩⟩
theorem d_1_6_134 : decode prog_1_method_6_code 134 = .ok (.invokestatic 138, 3) := by decide +kernel
theorem d_1_6_137 : decode prog_1_method_6_code 137 = .ok (.aload 6, 2) := by decide +kernel
theorem d_1_6_139 : decode prog_1_method_6_code 139 = .ok (.lload 4, 2) := by decide +kernel
theorem d_1_6_141 : decode prog_1_method_6_code 141 = .ok (.invokevirtual 183, 3) := by decide +kernel
theorem w_1163 : (Cond.code ({ cls := "NumberHouse$Floats", name := "findShortest", desc := "(J)V" } : MethodName) prog_7_method_19_code (9 : Nat) (none : Option ClassFile.FieldType)) ∈ q_tbl := q_of 1163 (by decide +kernel) (by decide +kernel)
theorem w_1160 : (Cond.methodLink "NumberHouse" (183 : Nat) ({ cls := "NumberHouse$Floats", name := "findShortest", desc := "(J)V" } : MethodName)) ∈ q_tbl := q_of 1160 (by decide +kernel) (by decide +kernel)
theorem w_1161 : (Cond.instanceMethod ({ cls := "NumberHouse$Floats", name := "findShortest", desc := "(J)V" } : MethodName)) ∈ q_tbl := q_of 1161 (by decide +kernel) (by decide +kernel)
theorem w_1162 : (Cond.selects "NumberHouse$Floats" ({ cls := "NumberHouse$Floats", name := "findShortest", desc := "(J)V" } : MethodName) ({ cls := "NumberHouse$Floats", name := "findShortest", desc := "(J)V" } : MethodName)) ∈ q_tbl := q_of 1162 (by decide +kernel) (by decide +kernel)
theorem LV_NH_183 : q_LV "NumberHouse" 183 y_Flo_findShortest prog_7_method_19_code 9 none 1 := ⟨w_1163, w_8, w_1160, w_1161, w_1162, ⟨by decide, by decide, by decide +kernel⟩⟩
theorem d_1_6_144 : decode prog_1_method_6_code 144 = .ok (.iload_n 3, 1) := by decide +kernel
theorem d_1_6_145 : decode prog_1_method_6_code 145 = .ok (.iconst 1, 1) := by decide +kernel
theorem d_1_6_146 : decode prog_1_method_6_code 146 = .ok (.if_icmp .ne 11, 3) := by decide +kernel
theorem d_1_6_157 : decode prog_1_method_6_code 157 = .ok (.aload 6, 2) := by decide +kernel
theorem d_1_6_159 : decode prog_1_method_6_code 159 = .ok (.getfield 189, 3) := by decide +kernel
theorem w_238 : (Cond.fieldLink "NumberHouse" (189 : Nat) "NumberHouse$Floats" "shortPower" "I") ∈ q_tbl := q_of 238 (by decide +kernel) (by decide +kernel)
theorem d_1_6_162 : decode prog_1_method_6_code 162 = .ok (.i2l, 1) := by decide +kernel
theorem d_1_6_163 : decode prog_1_method_6_code 163 = .ok (.lreturn, 1) := by decide +kernel
theorem d_1_6_149 : decode prog_1_method_6_code 149 = .ok (.aload 6, 2) := by decide +kernel
theorem d_1_6_151 : decode prog_1_method_6_code 151 = .ok (.getfield 186, 3) := by decide +kernel
theorem w_235 : (Cond.fieldLink "NumberHouse" (186 : Nat) "NumberHouse$Floats" "shortNumber" "J") ∈ q_tbl := q_of 235 (by decide +kernel) (by decide +kernel)
theorem d_1_6_154 : decode prog_1_method_6_code 154 = .ok (.goto 9, 3) := by decide +kernel
theorem d_1_6_117 : decode prog_1_method_6_code 117 = .ok (.lload 4, 2) := by decide +kernel
theorem d_1_6_119 : decode prog_1_method_6_code 119 = .ok (.lreturn, 1) := by decide +kernel
theorem d_1_6_51 : decode prog_1_method_6_code 51 = .ok (.iload_n 3, 1) := by decide +kernel
theorem d_1_6_52 : decode prog_1_method_6_code 52 = .ok (.iconst 2, 1) := by decide +kernel
theorem d_1_6_53 : decode prog_1_method_6_code 53 = .ok (.if_icmp .le 18, 3) := by decide +kernel
theorem d_1_6_71 : decode prog_1_method_6_code 71 = .ok (.iconst 1, 1) := by decide +kernel
theorem d_1_6_72 : decode prog_1_method_6_code 72 = .ok (.goto 4, 3) := by decide +kernel
theorem d_1_6_76 : decode prog_1_method_6_code 76 = .ok (.invokestatic 104, 3) := by decide +kernel
theorem d_1_6_79 : decode prog_1_method_6_code 79 = .ok (.aload_n 0, 1) := by decide +kernel
theorem d_1_6_80 : decode prog_1_method_6_code 80 = .ok (.aload_n 0, 1) := by decide +kernel
theorem d_1_6_81 : decode prog_1_method_6_code 81 = .ok (.getfield 29, 3) := by decide +kernel
theorem d_1_6_84 : decode prog_1_method_6_code 84 = .ok (.iload_n 2, 1) := by decide +kernel
theorem d_1_6_85 : decode prog_1_method_6_code 85 = .ok (.aaload, 1) := by decide +kernel
theorem d_1_6_86 : decode prog_1_method_6_code 86 = .ok (.iload_n 3, 1) := by decide +kernel
theorem d_1_6_87 : decode prog_1_method_6_code 87 = .ok (.invokevirtual 175, 3) := by decide +kernel
theorem w_1137 : (Cond.code ({ cls := "NumberHouse", name := "tellDecimal", desc := "(LNumberHouse$Dec;I)J" } : MethodName) prog_1_method_24_code (3 : Nat) (some .long)) ∈ q_tbl := q_of 1137 (by decide +kernel) (by decide +kernel)
theorem w_1134 : (Cond.methodLink "NumberHouse" (175 : Nat) ({ cls := "NumberHouse", name := "tellDecimal", desc := "(LNumberHouse$Dec;I)J" } : MethodName)) ∈ q_tbl := q_of 1134 (by decide +kernel) (by decide +kernel)
theorem w_1136 : (Cond.instanceMethod ({ cls := "NumberHouse", name := "tellDecimal", desc := "(LNumberHouse$Dec;I)J" } : MethodName)) ∈ q_tbl := q_of 1136 (by decide +kernel) (by decide +kernel)
theorem ws_21 : Cond.selects "NumberHouse" (⟨"NumberHouse", "tellDecimal", "(LNumberHouse$Dec;I)J"⟩ : MethodName) (⟨"NumberHouse", "tellDecimal", "(LNumberHouse$Dec;I)J"⟩ : MethodName) ∈ q_tbl := q_ofs 21 (by decide +kernel) (by decide +kernel)
theorem LV_NH_175 : q_LV "NumberHouse" 175 y_NH_tellDecimal prog_1_method_24_code 3 (some .long) 2 := ⟨w_1137, w_1, w_1134, w_1136, ws_21, ⟨by decide, by decide, by decide +kernel⟩⟩
theorem d_1_6_90 : decode prog_1_method_6_code 90 = .ok (.lreturn, 1) := by decide +kernel
theorem d_1_6_56 : decode prog_1_method_6_code 56 = .ok (.iload_n 3, 1) := by decide +kernel
theorem d_1_6_57 : decode prog_1_method_6_code 57 = .ok (.iconst 3, 1) := by decide +kernel
theorem d_1_6_58 : decode prog_1_method_6_code 58 = .ok (.isub, 1) := by decide +kernel
theorem d_1_6_59 : decode prog_1_method_6_code 59 = .ok (.aload_n 0, 1) := by decide +kernel
theorem d_1_6_60 : decode prog_1_method_6_code 60 = .ok (.getfield 29, 3) := by decide +kernel
theorem d_1_6_63 : decode prog_1_method_6_code 63 = .ok (.iload_n 2, 1) := by decide +kernel
theorem d_1_6_64 : decode prog_1_method_6_code 64 = .ok (.aaload, 1) := by decide +kernel
theorem d_1_6_65 : decode prog_1_method_6_code 65 = .ok (.getfield 172, 3) := by decide +kernel
theorem d_1_6_68 : decode prog_1_method_6_code 68 = .ok (.if_icmp .ge 7, 3) := by decide +kernel
theorem d_1_6_75 : decode prog_1_method_6_code 75 = .ok (.iconst 0, 1) := by decide +kernel
theorem d_1_6_21 : decode prog_1_method_6_code 21 = .ok (.iload_n 3, 1) := by decide +kernel
theorem d_1_6_22 : decode prog_1_method_6_code 22 = .ok (.iconst 4, 1) := by decide +kernel
theorem d_1_6_23 : decode prog_1_method_6_code 23 = .ok (.if_icmp .gt 7, 3) := by decide +kernel
theorem d_1_6_30 : decode prog_1_method_6_code 30 = .ok (.iconst 0, 1) := by decide +kernel
theorem d_1_6_31 : decode prog_1_method_6_code 31 = .ok (.invokestatic 104, 3) := by decide +kernel
theorem d_1_6_26 : decode prog_1_method_6_code 26 = .ok (.iconst 1, 1) := by decide +kernel
theorem d_1_6_27 : decode prog_1_method_6_code 27 = .ok (.goto 4, 3) := by decide +kernel
theorem d_1_6_34 : decode prog_1_method_6_code 34 = .ok (.aload_n 0, 1) := by decide +kernel
theorem d_1_6_35 : decode prog_1_method_6_code 35 = .ok (.aload_n 0, 1) := by decide +kernel
theorem d_1_6_36 : decode prog_1_method_6_code 36 = .ok (.getfield 23, 3) := by decide +kernel
theorem d_1_6_39 : decode prog_1_method_6_code 39 = .ok (.iload_n 2, 1) := by decide +kernel
theorem d_1_6_40 : decode prog_1_method_6_code 40 = .ok (.aaload, 1) := by decide +kernel
theorem d_1_6_41 : decode prog_1_method_6_code 41 = .ok (.iload_n 3, 1) := by decide +kernel
theorem d_1_6_42 : decode prog_1_method_6_code 42 = .ok (.invokevirtual 168, 3) := by decide +kernel
theorem w_1114 : (Cond.code ({ cls := "NumberHouse", name := "tellWhole", desc := "(LNumberHouse$Big;I)J" } : MethodName) prog_1_method_23_code (3 : Nat) (some .long)) ∈ q_tbl := q_of 1114 (by decide +kernel) (by decide +kernel)
theorem w_1111 : (Cond.methodLink "NumberHouse" (168 : Nat) ({ cls := "NumberHouse", name := "tellWhole", desc := "(LNumberHouse$Big;I)J" } : MethodName)) ∈ q_tbl := q_of 1111 (by decide +kernel) (by decide +kernel)
theorem w_1113 : (Cond.instanceMethod ({ cls := "NumberHouse", name := "tellWhole", desc := "(LNumberHouse$Big;I)J" } : MethodName)) ∈ q_tbl := q_of 1113 (by decide +kernel) (by decide +kernel)
theorem ws_20 : Cond.selects "NumberHouse" (⟨"NumberHouse", "tellWhole", "(LNumberHouse$Big;I)J"⟩ : MethodName) (⟨"NumberHouse", "tellWhole", "(LNumberHouse$Big;I)J"⟩ : MethodName) ∈ q_tbl := q_ofs 20 (by decide +kernel) (by decide +kernel)
theorem LV_NH_168 : q_LV "NumberHouse" 168 y_NH_tellWhole prog_1_method_23_code 3 (some .long) 2 := ⟨w_1114, w_1, w_1111, w_1113, ws_20, ⟨by decide, by decide, by decide +kernel⟩⟩
theorem d_1_6_45 : decode prog_1_method_6_code 45 = .ok (.lreturn, 1) := by decide +kernel
def y_NH_told : MethodName := ⟨"NumberHouse", "told", "(III)J"⟩
set_option maxRecDepth 100000 in
set_option maxHeartbeats 4000000 in
/-- told on a fresh object -/
theorem c_NH_told (l : Launch) (D : va_G) (g : Nat → ClassId) (ws : va_W) (hlt : l.stackTraces = false) ( qO0 qO1 qO2 qA3 qA4 qA5 qA6 qO7 qO8 qO9 qO10 qO11 qO12 qO13 qO14 qO17 qO18 qO19 qO20 qO21 qO22 qO23 qO24 qO25 qO26 qA28 qA35 : Nat) (x1 : Int32) (x2 : Int32) (x3 : Int32) (f4 : Nat → Option Nat) (f5 : Nat → Option Nat) (hO0 : ws[0]? = (some (qO0, .inr (0, [.ref qO1, .ref qO2, .ref qA3, .ref qA4, .ref qA5, .ref qA6, .ref qO7, .ref qO8, .ref qO9, .ref qO10, .ref qO11, .ref qO12, .ref qO13, .ref qO14])) : Option (Nat × va_E))) (hA3 : ws[5]? = (some (qA3, .inl (g 4, 10, .inr (.inr (.inr (.inr f4))))) : Option (Nat × va_E))) (hA4 : ws[6]? = (some (qA4, .inl (g 5, 10, .inr (.inr (.inr (.inr f5))))) : Option (Nat × va_E))) (hA5 : ws[7]? = (some (qA5, .inl (g 1, 10, .inr (.inl (fun _ => 0)))) : Option (Nat × va_E))) (hA6 : ws[8]? = (some (qA6, .inl (g 1, 10, .inr (.inl (fun _ => 0)))) : Option (Nat × va_E))) (hO7 : ws[9]? = (some (qO7, .inr (4, [.ref qO17, .ref qO18, .ref qO19, .ref qO20, .ref qO21, .ref qO22, .ref qO23, .ref qO24, .ref qO25, .ref qO26])) : Option (Nat × va_E))) (hO9 : ws[34]? = (some (qO9, .inr (6, [.int 52, .int 1075, .int 2047, .long 0, .int 0, .ref qO7, .int 0])) : Option (Nat × va_E))) (hO10 : ws[35]? = (some (qO10, .inr (6, [.int 23, .int 150, .int 255, .long 0, .int 0, .ref qO7, .int 0])) : Option (Nat × va_E))) (hO11 : ws[36]? = (some (qO11, .inr (7, [.int 0, .int 0, .ref qA28])) : Option (Nat × va_E))) (hO17 : ws[10]? = (some (qO17, .inr (2, [.ref qA35, .int 0, .int 0])) : Option (Nat × va_E))) (hA35 : ws[11]? = (some (qA35, .inl (g 0, 220, .inl (fun _ => 0))) : Option (Nat × va_E))) (qW qWL qD qDN qDL : Nat → Nat) (hfW : ∀ i, i < 10 → f4 i = some (qW i)) (FW : ∀ i, i < 10 → ws[66 + 5 * i]? = (some (qW i, .inr (2, [.ref (qWL i), .int 0, .int 0])) : Option (Nat × va_E))) (FWL : ∀ i, i < 10 → ws[67 + 5 * i]? = (some (qWL i, .inl (g 0, 68, .inl (fun _ => 0))) : Option (Nat × va_E))) (hfD : ∀ i, i < 10 → f5 i = some (qD i)) (FD : ∀ i, i < 10 → ws[68 + 5 * i]? = (some (qD i, .inr (3, [.ref (qDN i), .int 0, .int 1])) : Option (Nat × va_E))) (FDN : ∀ i, i < 10 → ws[69 + 5 * i]? = (some (qDN i, .inr (2, [.ref (qDL i), .int 0, .int 0])) : Option (Nat × va_E))) (FDL : ∀ i, i < 10 → ws[70 + 5 * i]? = (some (qDL i, .inl (g 0, 108, .inl (fun _ => 0))) : Option (Nat × va_E))) : q_xL l y_NH_told prog_1_method_6_code 7 9 4 24 D g [.ref qO0, .int x1, .int x2, .int x3] ws (fun r u => (((0 ≤ x1.toInt ∧ x1.toInt ≤ 3) ∧ (0 ≤ x2.toInt ∧ x2.toInt ≤ 9) ∧ 0 ≤ x3.toInt ∧ (x1.toInt = 0 → x3.toInt ≤ 4) ∧ (x1.toInt = 1 → x3.toInt ≤ 3) ∧ (2 ≤ x1.toInt → x3.toInt ≤ 2)) ∧ ((x1.toInt = 0 ∧ x3.toInt = 4 ∧ r.toInt = -1) ∨ (x1.toInt = 1 ∧ x3.toInt = 2 ∧ r.toInt = 1) ∨ (¬ (x1.toInt = 0 ∧ x3.toInt = 4) ∧ ¬ (x1.toInt = 1 ∧ x3.toInt = 2) ∧ r.toInt = 0))) ∧ q_ge 116 ws u) (fun E u => (("java/lang/IllegalArgumentException" = E ∧ (¬ ((0 ≤ x1.toInt ∧ x1.toInt ≤ 3) ∧ (0 ≤ x2.toInt ∧ x2.toInt ≤ 9) ∧ 0 ≤ x3.toInt ∧ (x1.toInt = 0 → x3.toInt ≤ 4) ∧ (x1.toInt = 1 → x3.toInt ≤ 3) ∧ (2 ≤ x1.toInt → x3.toInt ≤ 2))))) ∧ q_ge 116 ws u) := by
  intro sz
  refine q_intoX (by decide) (Nat.le_of_ble_eq_true rfl) ?_
  intro p e s m below meth c ls hsz C0 V hno hl
  have hx := C0.1
  have hb := C0.2.1
  have hl : lv_has ls 7 [(0, .ref qO0), (1, .int x1), (2, .int x2), (3, .int x3)] := hl
  have hF : q_ge 116 ws ws := q_g0
  refine lv_iload_n hx hb d_1_6_0 rfl (lv_at hl 1 rfl) ?_
  refine lv_iload_n hx hb d_1_6_1 rfl (lv_at hl 2 rfl) ?_
  refine q_goxv V (q_runSX (As := [.int x1, .int x2]) (rest := []) (d := 8) (mc := 1) (ms := 6) C0 V rfl LS_NH_118 (c_NH_needRegister l D g ws hlt x1 x2 _) rfl hl.1 rfl (Nat.le_of_ble_eq_true rfl) ⟨by decide, by decide⟩ ⟨Nat.le_of_ble_eq_true rfl, Nat.le_of_ble_eq_true rfl⟩ d_1_6_2) (fun qx Ex ce u2 H locs hp1 V hce hcv hcl => ?_) (fun u2 H locs hp1 V => ?_)
  ·
    rcases hp1 with ⟨c3, rfl, rfl⟩ | ⟨c5, c6, rfl, rfl⟩ | ⟨c8, c9, c10, rfl, rfl⟩ | ⟨c12, c13, c14, c15, rfl, rfl⟩
    ·
      exact q_outT hno C0 V (⟨⟨rfl, (show ¬ ((0 ≤ x1.toInt ∧ x1.toInt ≤ 3) ∧ (0 ≤ x2.toInt ∧ x2.toInt ≤ 9) ∧ 0 ≤ x3.toInt ∧ (x1.toInt = 0 → x3.toInt ≤ 4) ∧ (x1.toInt = 1 → x3.toInt ≤ 3) ∧ (2 ≤ x1.toInt → x3.toInt ≤ 2)) from by have t1 : x1.toInt < 0 := q_ltI c3; omega)⟩, hF⟩) hce hcv hcl (Nat.le_of_ble_eq_true rfl) (Nat.le_of_ble_eq_true rfl)
    ·
      exact q_outT hno C0 V (⟨⟨rfl, (show ¬ ((0 ≤ x1.toInt ∧ x1.toInt ≤ 3) ∧ (0 ≤ x2.toInt ∧ x2.toInt ≤ 9) ∧ 0 ≤ x3.toInt ∧ (x1.toInt = 0 → x3.toInt ≤ 4) ∧ (x1.toInt = 1 → x3.toInt ≤ 3) ∧ (2 ≤ x1.toInt → x3.toInt ≤ 2)) from by have t1 : 0 ≤ x1.toInt := q_nltI c5; have t2 : 3 < x1.toInt := q_ltI c6; omega)⟩, hF⟩) hce hcv hcl (Nat.le_of_ble_eq_true rfl) (Nat.le_of_ble_eq_true rfl)
    ·
      exact q_outT hno C0 V (⟨⟨rfl, (show ¬ ((0 ≤ x1.toInt ∧ x1.toInt ≤ 3) ∧ (0 ≤ x2.toInt ∧ x2.toInt ≤ 9) ∧ 0 ≤ x3.toInt ∧ (x1.toInt = 0 → x3.toInt ≤ 4) ∧ (x1.toInt = 1 → x3.toInt ≤ 3) ∧ (2 ≤ x1.toInt → x3.toInt ≤ 2)) from by have t1 : 0 ≤ x1.toInt := q_nltI c8; have t2 : x1.toInt ≤ 3 := q_nltI c9; have t3 : x2.toInt < 0 := q_ltI c10; omega)⟩, hF⟩) hce hcv hcl (Nat.le_of_ble_eq_true rfl) (Nat.le_of_ble_eq_true rfl)
    ·
      exact q_outT hno C0 V (⟨⟨rfl, (show ¬ ((0 ≤ x1.toInt ∧ x1.toInt ≤ 3) ∧ (0 ≤ x2.toInt ∧ x2.toInt ≤ 9) ∧ 0 ≤ x3.toInt ∧ (x1.toInt = 0 → x3.toInt ≤ 4) ∧ (x1.toInt = 1 → x3.toInt ≤ 3) ∧ (2 ≤ x1.toInt → x3.toInt ≤ 2)) from by have t1 : 0 ≤ x1.toInt := q_nltI c12; have t2 : x1.toInt ≤ 3 := q_nltI c13; have t3 : 0 ≤ x2.toInt := q_nltI c14; have t4 : 10 ≤ x2.toInt := q_leI c15; omega)⟩, hF⟩) hce hcv hcl (Nat.le_of_ble_eq_true rfl) (Nat.le_of_ble_eq_true rfl)
  ·
    obtain ⟨c17, c18, c19, c20, rfl⟩ := hp1
    refine lv_iload_n hx hb d_1_6_5 rfl (lv_at hl 3 rfl) ?_
    refine lv_if_lt (tgt := 13) hx hb d_1_6_6 (by decide) (fun c22 => ?_) (fun c22 => ?_)
    ·
      refine lv_iconst (v := 0) hx hb d_1_6_13 (by decide) ?_
      refine q_goxv V (q_runSX (As := [.int 0]) (rest := []) (d := 7) (mc := 1) (ms := 6) C0 V rfl LS_NH_104 (c_NH_need l D g ws hlt 0 _) rfl hl.1 rfl (Nat.le_of_ble_eq_true rfl) ⟨by decide, by decide⟩ ⟨Nat.le_of_ble_eq_true rfl, Nat.le_of_ble_eq_true rfl⟩ d_1_6_14) (fun qx Ex ce u24 H locs hp23 V hce hcv hcl => ?_) (fun u24 H locs hp23 V => ?_)
      ·
        obtain ⟨c25, rfl, rfl⟩ := hp23
        exact q_outT hno C0 V (⟨⟨rfl, (show ¬ ((0 ≤ x1.toInt ∧ x1.toInt ≤ 3) ∧ (0 ≤ x2.toInt ∧ x2.toInt ≤ 9) ∧ 0 ≤ x3.toInt ∧ (x1.toInt = 0 → x3.toInt ≤ 4) ∧ (x1.toInt = 1 → x3.toInt ≤ 3) ∧ (2 ≤ x1.toInt → x3.toInt ≤ 2)) from by have t1 : 0 ≤ x1.toInt := q_nltI c17; have t2 : x1.toInt ≤ 3 := q_nltI c18; have t3 : 0 ≤ x2.toInt := q_nltI c19; have t4 : x2.toInt < 10 := q_nleI c20; have t5 : x3.toInt < 0 := q_ltI c22; omega)⟩, hF⟩) hce hcv hcl (Nat.le_of_ble_eq_true rfl) (Nat.le_of_ble_eq_true rfl)
      ·
        obtain ⟨c27, rfl⟩ := hp23
        exact absurd c27 (by decide)
    ·
      refine lv_iconst (v := 1) hx hb d_1_6_9 (by decide) ?_
      refine lv_goto (tgt := 14) hx hb d_1_6_10 (by decide) ?_
      refine q_goxv V (q_runSX (As := [.int 1]) (rest := []) (d := 7) (mc := 1) (ms := 6) C0 V rfl LS_NH_104 (c_NH_need l D g ws hlt 1 _) rfl hl.1 rfl (Nat.le_of_ble_eq_true rfl) ⟨by decide, by decide⟩ ⟨Nat.le_of_ble_eq_true rfl, Nat.le_of_ble_eq_true rfl⟩ d_1_6_14) (fun qx Ex ce u30 H locs hp29 V hce hcv hcl => ?_) (fun u30 H locs hp29 V => ?_)
      ·
        obtain ⟨c31, rfl, rfl⟩ := hp29
        exact absurd c31 (by decide)
      ·
        obtain ⟨c33, rfl⟩ := hp29
        refine lv_iload_n hx hb d_1_6_17 rfl (lv_at hl 1 rfl) ?_
        refine lv_if_ne (tgt := 46) hx hb d_1_6_18 (by decide) (fun c35 => ?_) (fun c35 => ?_)
        ·
          refine lv_iload_n hx hb d_1_6_46 rfl (lv_at hl 1 rfl) ?_
          refine lv_iconst (v := 1) hx hb d_1_6_47 (by decide) ?_
          refine lv_icmp_ne (tgt := 91) hx hb d_1_6_48 (by decide) (fun c36 => ?_) (fun c36 => ?_)
          ·
            refine lv_iload_n hx hb d_1_6_91 rfl (lv_at hl 3 rfl) ?_
            refine lv_iconst (v := 2) hx hb d_1_6_92 (by decide) ?_
            refine lv_icmp_gt (tgt := 100) hx hb d_1_6_93 (by decide) (fun c37 => ?_) (fun c37 => ?_)
            ·
              refine lv_iconst (v := 0) hx hb d_1_6_100 (by decide) ?_
              refine q_goxv V (q_runSX (As := [.int 0]) (rest := []) (d := 7) (mc := 1) (ms := 6) C0 V rfl LS_NH_104 (c_NH_need l D g ws hlt 0 _) rfl hl.1 rfl (Nat.le_of_ble_eq_true rfl) ⟨by decide, by decide⟩ ⟨Nat.le_of_ble_eq_true rfl, Nat.le_of_ble_eq_true rfl⟩ d_1_6_101) (fun qx Ex ce u39 H locs hp38 V hce hcv hcl => ?_) (fun u39 H locs hp38 V => ?_)
              ·
                obtain ⟨c40, rfl, rfl⟩ := hp38
                exact q_outT hno C0 V (⟨⟨rfl, (show ¬ ((0 ≤ x1.toInt ∧ x1.toInt ≤ 3) ∧ (0 ≤ x2.toInt ∧ x2.toInt ≤ 9) ∧ 0 ≤ x3.toInt ∧ (x1.toInt = 0 → x3.toInt ≤ 4) ∧ (x1.toInt = 1 → x3.toInt ≤ 3) ∧ (2 ≤ x1.toInt → x3.toInt ≤ 2)) from by have t1 : 0 ≤ x1.toInt := q_nltI c17; have t2 : x1.toInt ≤ 3 := q_nltI c18; have t3 : 0 ≤ x2.toInt := q_nltI c19; have t4 : x2.toInt < 10 := q_nleI c20; have t5 : 0 ≤ x3.toInt := q_nltI c22; have t6 : x1.toInt ≠ 0 := q_neI c35; have t7 : x1.toInt ≠ 1 := q_neI c36; have t8 : 2 < x3.toInt := q_ltI c37; omega)⟩, hF⟩) hce hcv hcl (Nat.le_of_ble_eq_true rfl) (Nat.le_of_ble_eq_true rfl)
              ·
                obtain ⟨c42, rfl⟩ := hp38
                exact absurd c42 (by decide)
            ·
              refine lv_iconst (v := 1) hx hb d_1_6_96 (by decide) ?_
              refine lv_goto (tgt := 101) hx hb d_1_6_97 (by decide) ?_
              refine q_goxv V (q_runSX (As := [.int 1]) (rest := []) (d := 7) (mc := 1) (ms := 6) C0 V rfl LS_NH_104 (c_NH_need l D g ws hlt 1 _) rfl hl.1 rfl (Nat.le_of_ble_eq_true rfl) ⟨by decide, by decide⟩ ⟨Nat.le_of_ble_eq_true rfl, Nat.le_of_ble_eq_true rfl⟩ d_1_6_101) (fun qx Ex ce u45 H locs hp44 V hce hcv hcl => ?_) (fun u45 H locs hp44 V => ?_)
              ·
                obtain ⟨c46, rfl, rfl⟩ := hp44
                exact absurd c46 (by decide)
              ·
                obtain ⟨c48, rfl⟩ := hp44
                refine lv_aload_n hx hb d_1_6_104 rfl (lv_at hl 0 rfl) ?_
                refine lv_iload_n hx hb d_1_6_105 rfl (lv_at hl 1 rfl) ?_
                refine q_gor (post := fun r u => (¬ x1 = 2 ∧ qA6 = r ∧ ws = u) ∨ (x1 = 2 ∧ qA5 = r ∧ ws = u)) V (q_runV (As := [.int x1]) (rest := []) (d := 1) (mc := 0) (ms := 0) (ci := 0) C0 V rfl LV_NH_157 (c_NH_floatRow_3 l D g ws qO0 qO1 qO2 qA3 qA4 qA5 qA6 qO7 qO8 qO9 qO10 qO11 qO12 qO13 qO14 x1 hO0 (q_Ile (x := 2) (y := x1.toInt) (by decide) rfl (by have t1 : 0 ≤ x1.toInt := q_nltI c17; have t2 : x1.toInt ≤ 3 := q_nltI c18; have t3 : x1.toInt ≠ 0 := q_neI c35; have t4 : x1.toInt ≠ 1 := q_neI c36; omega)) (q_Ile (x := x1.toInt) (y := 3) rfl (by decide) (by have t1 : 0 ≤ x1.toInt := q_nltI c17; have t2 : x1.toInt ≤ 3 := q_nltI c18; have t3 : x1.toInt ≠ 0 := q_neI c35; have t4 : x1.toInt ≠ 1 := q_neI c36; omega)) _) rfl rfl hO0 rfl hl.1 rfl (Nat.le_of_ble_eq_true rfl) ⟨by decide, by decide⟩ ⟨Nat.le_of_ble_eq_true rfl, Nat.le_of_ble_eq_true rfl⟩ d_1_6_106) (fun v52 u51 H locs hp50 V => ?_)
                rcases hp50 with ⟨c53, rfl, rfl⟩ | ⟨c55, rfl, rfl⟩
                ·
                  refine lv_iload_n hx hb d_1_6_109 rfl (lv_at hl 2 rfl) ?_
                  refine q_lald C0 V hA6 (q_ix (x := x2.toInt) rfl (by have t1 : 0 ≤ x2.toInt := q_nltI c19; have t2 : x2.toInt < 10 := q_nleI c20; omega) (by have t1 : 0 ≤ x2.toInt := q_nltI c19; have t2 : x2.toInt < 10 := q_nleI c20; omega)) d_1_6_110 ?_
                  refine q_tl (v := 0) (by first | rfl | decide | simp [upd, vp_updL, sb_cl0]) ?_
                  refine lv_lstore (lv' := [(4, .long 0), (0, .ref qO0), (1, .int x1), (2, .int x2), (3, .int x3)]) hx hb d_1_6_111 hl (by decide) rfl (fun ls hl => ?_)
                  refine lv_iload_n hx hb d_1_6_113 rfl (lv_at hl 4 rfl) ?_
                  refine lv_if_ne (tgt := 120) hx hb d_1_6_114 (by decide) (fun c57 => ?_) (fun c57 => ?_)
                  ·
                    refine lv_aload_n hx hb d_1_6_120 rfl (lv_at hl 1 rfl) ?_
                    refine lv_iload_n hx hb d_1_6_121 rfl (lv_at hl 2 rfl) ?_
                    refine q_ti (v := 3) (q_Ieq (x := x1.toInt) (y := 3) rfl (by decide) (by have t1 : 0 ≤ x1.toInt := q_nltI c17; have t2 : x1.toInt ≤ 3 := q_nltI c18; have t3 : x1.toInt ≠ 0 := q_neI c35; have t4 : x1.toInt ≠ 1 := q_neI c36; have t5 : x1.toInt ≠ 2 := q_neI c53; omega)) ?_
                    refine q_gor (post := fun r u => (¬ 3 = 2 ∧ qO10 = r ∧ ws = u) ∨ (3 = 2 ∧ qO9 = r ∧ ws = u)) V (q_runV (As := [.int 3]) (rest := []) (d := 1) (mc := 0) (ms := 0) (ci := 0) C0 V rfl LV_NH_130 (c_NH_floatsOf l D g ws qO0 qO1 qO2 qA3 qA4 qA5 qA6 qO7 qO8 qO9 qO10 qO11 qO12 qO13 qO14 3 hO0 (q_Ile (x := 2) (y := 3) (by decide) (by decide) (by omega)) (q_Ile (x := 3) (y := 3) (by decide) (by decide) (by omega)) _) rfl rfl hO0 rfl hl.1 rfl (Nat.le_of_ble_eq_true rfl) ⟨by decide, by decide⟩ ⟨Nat.le_of_ble_eq_true rfl, Nat.le_of_ble_eq_true rfl⟩ d_1_6_122) (fun v60 u59 H locs hp58 V => ?_)
                    rcases hp58 with ⟨c61, rfl, rfl⟩ | ⟨c63, rfl, rfl⟩
                    ·
                      refine lv_astore (lv' := [(6, .ref qO10), (4, .long 0), (0, .ref qO0), (1, .int x1), (2, .int x2), (3, .int x3)]) hx hb d_1_6_125 hl (by decide) rfl (fun ls hl => ?_)
                      refine lv_aload hx hb d_1_6_127 (lv_at hl 0 rfl) ?_
                      refine lv_lload hx hb d_1_6_129 (lv_at hl 1 rfl) ?_
                      refine q_goi V (q_runV (As := [.long 0]) (rest := []) (d := 2) (mc := 0) (ms := 0) (ci := 6) C0 V rfl LV_NH_179 (c_Flo_isFinite l D g ws 35 qO10 qO7 hO10 _) rfl rfl hO10 rfl hl.1 rfl (Nat.le_of_ble_eq_true rfl) ⟨by decide, by decide⟩ ⟨Nat.le_of_ble_eq_true rfl, Nat.le_of_ble_eq_true rfl⟩ d_1_6_131) (fun v67 u66 H locs hp65 V => ?_)
                      obtain ⟨rfl, rfl⟩ := hp65
                      refine q_goxv V (q_runSX (As := [.int 1]) (rest := []) (d := 7) (mc := 1) (ms := 6) C0 V rfl LS_NH_138 (c_NH_canHave l D g ws hlt 1 _) rfl hl.1 rfl (Nat.le_of_ble_eq_true rfl) ⟨by decide, by decide⟩ ⟨Nat.le_of_ble_eq_true rfl, Nat.le_of_ble_eq_true rfl⟩ d_1_6_134) (fun qx Ex ce u70 H locs hp69 V hce hcv hcl => ?_) (fun u70 H locs hp69 V => ?_)
                      ·
                        obtain ⟨c71, rfl, rfl⟩ := hp69
                        exact absurd c71 (by decide)
                      ·
                        obtain ⟨c73, rfl⟩ := hp69
                        refine lv_aload hx hb d_1_6_137 (lv_at hl 0 rfl) ?_
                        refine lv_lload hx hb d_1_6_139 (lv_at hl 1 rfl) ?_
                        refine q_gov V (q_runV (As := [.long 0]) (rest := []) (d := 3) (mc := 0) (ms := 0) (ci := 6) C0 V rfl LV_NH_183 (c_Flo_findShortest l D g ws 35 qO10 qO7 hO10 _) rfl rfl hO10 rfl hl.1 rfl (Nat.le_of_ble_eq_true rfl) ⟨by decide, by decide⟩ ⟨Nat.le_of_ble_eq_true rfl, Nat.le_of_ble_eq_true rfl⟩ d_1_6_141) (fun u76 H locs hp75 V => ?_)
                        obtain ⟨hg77, hO10⟩ := hp75
                        replace hF := q_gc hF hg77 (q_al (Nat.le_of_ble_eq_true rfl) (fun _ h => absurd h List.not_mem_nil))
                        refine lv_iload_n hx hb d_1_6_144 rfl (lv_at hl 5 rfl) ?_
                        refine lv_iconst (v := 1) hx hb d_1_6_145 (by decide) ?_
                        refine lv_icmp_ne (tgt := 157) hx hb d_1_6_146 (by decide) (fun c78 => ?_) (fun c78 => ?_)
                        ·
                          refine lv_aload hx hb d_1_6_157 (lv_at hl 0 rfl) ?_
                          refine q_get (ci := 6) (j := 4) (v := .int 0) C0 V i_Flo rfl rfl hO10 (by decide) w_238 rfl d_1_6_159 ?_
                          refine lv_i2l hx hb d_1_6_162 rfl ?_
                          refine q_tl (v := 0) (by decide) ?_
                          exact q_retX (q_retl C0 V (⟨(show ((0 ≤ x1.toInt ∧ x1.toInt ≤ 3) ∧ (0 ≤ x2.toInt ∧ x2.toInt ≤ 9) ∧ 0 ≤ x3.toInt ∧ (x1.toInt = 0 → x3.toInt ≤ 4) ∧ (x1.toInt = 1 → x3.toInt ≤ 3) ∧ (2 ≤ x1.toInt → x3.toInt ≤ 2)) ∧ ((x1.toInt = 0 ∧ x3.toInt = 4 ∧ (0 : Int64).toInt = -1) ∨ (x1.toInt = 1 ∧ x3.toInt = 2 ∧ (0 : Int64).toInt = 1) ∨ (¬ (x1.toInt = 0 ∧ x3.toInt = 4) ∧ ¬ (x1.toInt = 1 ∧ x3.toInt = 2) ∧ (0 : Int64).toInt = 0)) from by have t1 : 0 ≤ x1.toInt := q_nltI c17; have t2 : x1.toInt ≤ 3 := q_nltI c18; have t3 : 0 ≤ x2.toInt := q_nltI c19; have t4 : x2.toInt < 10 := q_nleI c20; have t5 : 0 ≤ x3.toInt := q_nltI c22; have t6 : x1.toInt ≠ 0 := q_neI c35; have t7 : x1.toInt ≠ 1 := q_neI c36; have t8 : x3.toInt ≤ 2 := q_nltI c37; have t9 : x1.toInt ≠ 2 := q_neI c53; have t10 : x3.toInt ≠ 0 := q_neI c57; have t11 : x3.toInt ≠ 1 := q_neI c78; have e0 : (0 : Int64).toInt = 0 := (by decide); omega), hF⟩) d_1_6_163)
                        ·
                          refine lv_aload hx hb d_1_6_149 (lv_at hl 0 rfl) ?_
                          refine q_get (ci := 6) (j := 3) (v := .long 0) C0 V i_Flo rfl rfl hO10 (by decide) w_235 rfl d_1_6_151 ?_
                          refine lv_goto (tgt := 163) hx hb d_1_6_154 (by decide) ?_
                          exact q_retX (q_retl C0 V (⟨(show ((0 ≤ x1.toInt ∧ x1.toInt ≤ 3) ∧ (0 ≤ x2.toInt ∧ x2.toInt ≤ 9) ∧ 0 ≤ x3.toInt ∧ (x1.toInt = 0 → x3.toInt ≤ 4) ∧ (x1.toInt = 1 → x3.toInt ≤ 3) ∧ (2 ≤ x1.toInt → x3.toInt ≤ 2)) ∧ ((x1.toInt = 0 ∧ x3.toInt = 4 ∧ (0 : Int64).toInt = -1) ∨ (x1.toInt = 1 ∧ x3.toInt = 2 ∧ (0 : Int64).toInt = 1) ∨ (¬ (x1.toInt = 0 ∧ x3.toInt = 4) ∧ ¬ (x1.toInt = 1 ∧ x3.toInt = 2) ∧ (0 : Int64).toInt = 0)) from by have t1 : 0 ≤ x1.toInt := q_nltI c17; have t2 : x1.toInt ≤ 3 := q_nltI c18; have t3 : 0 ≤ x2.toInt := q_nltI c19; have t4 : x2.toInt < 10 := q_nleI c20; have t5 : 0 ≤ x3.toInt := q_nltI c22; have t6 : x1.toInt ≠ 0 := q_neI c35; have t7 : x1.toInt ≠ 1 := q_neI c36; have t8 : x3.toInt ≤ 2 := q_nltI c37; have t9 : x1.toInt ≠ 2 := q_neI c53; have t10 : x3.toInt ≠ 0 := q_neI c57; have t11 : x3.toInt = 1 := q_eqI c78; have e0 : (0 : Int64).toInt = 0 := (by decide); omega), hF⟩) d_1_6_163)
                    ·
                      exact absurd c63 (by decide)
                  ·
                    refine lv_lload hx hb d_1_6_117 (lv_at hl 0 rfl) ?_
                    refine W.widen (k := 4) (n := 24) (Nat.le_of_ble_eq_true rfl) (Nat.le_of_ble_eq_true rfl) ?_
                    exact q_retX (q_retl C0 V (⟨(show ((0 ≤ x1.toInt ∧ x1.toInt ≤ 3) ∧ (0 ≤ x2.toInt ∧ x2.toInt ≤ 9) ∧ 0 ≤ x3.toInt ∧ (x1.toInt = 0 → x3.toInt ≤ 4) ∧ (x1.toInt = 1 → x3.toInt ≤ 3) ∧ (2 ≤ x1.toInt → x3.toInt ≤ 2)) ∧ ((x1.toInt = 0 ∧ x3.toInt = 4 ∧ (0 : Int64).toInt = -1) ∨ (x1.toInt = 1 ∧ x3.toInt = 2 ∧ (0 : Int64).toInt = 1) ∨ (¬ (x1.toInt = 0 ∧ x3.toInt = 4) ∧ ¬ (x1.toInt = 1 ∧ x3.toInt = 2) ∧ (0 : Int64).toInt = 0)) from by have t1 : 0 ≤ x1.toInt := q_nltI c17; have t2 : x1.toInt ≤ 3 := q_nltI c18; have t3 : 0 ≤ x2.toInt := q_nltI c19; have t4 : x2.toInt < 10 := q_nleI c20; have t5 : 0 ≤ x3.toInt := q_nltI c22; have t6 : x1.toInt ≠ 0 := q_neI c35; have t7 : x1.toInt ≠ 1 := q_neI c36; have t8 : x3.toInt ≤ 2 := q_nltI c37; have t9 : x1.toInt ≠ 2 := q_neI c53; have t10 : x3.toInt = 0 := q_eqI c57; have e0 : (0 : Int64).toInt = 0 := (by decide); omega), hF⟩) d_1_6_119)
                ·
                  refine lv_iload_n hx hb d_1_6_109 rfl (lv_at hl 2 rfl) ?_
                  refine q_lald C0 V hA5 (q_ix (x := x2.toInt) rfl (by have t1 : 0 ≤ x2.toInt := q_nltI c19; have t2 : x2.toInt < 10 := q_nleI c20; omega) (by have t1 : 0 ≤ x2.toInt := q_nltI c19; have t2 : x2.toInt < 10 := q_nleI c20; omega)) d_1_6_110 ?_
                  refine q_tl (v := 0) (by first | rfl | decide | simp [upd, vp_updL, sb_cl0]) ?_
                  refine lv_lstore (lv' := [(4, .long 0), (0, .ref qO0), (1, .int x1), (2, .int x2), (3, .int x3)]) hx hb d_1_6_111 hl (by decide) rfl (fun ls hl => ?_)
                  refine lv_iload_n hx hb d_1_6_113 rfl (lv_at hl 4 rfl) ?_
                  refine lv_if_ne (tgt := 120) hx hb d_1_6_114 (by decide) (fun c79 => ?_) (fun c79 => ?_)
                  ·
                    refine lv_aload_n hx hb d_1_6_120 rfl (lv_at hl 1 rfl) ?_
                    refine lv_iload_n hx hb d_1_6_121 rfl (lv_at hl 2 rfl) ?_
                    refine q_ti (v := 2) c55 ?_
                    refine q_gor (post := fun r u => (¬ 2 = 2 ∧ qO10 = r ∧ ws = u) ∨ (2 = 2 ∧ qO9 = r ∧ ws = u)) V (q_runV (As := [.int 2]) (rest := []) (d := 1) (mc := 0) (ms := 0) (ci := 0) C0 V rfl LV_NH_130 (c_NH_floatsOf l D g ws qO0 qO1 qO2 qA3 qA4 qA5 qA6 qO7 qO8 qO9 qO10 qO11 qO12 qO13 qO14 2 hO0 (q_Ile (x := 2) (y := 2) (by decide) (by decide) (by omega)) (q_Ile (x := 2) (y := 3) (by decide) (by decide) (by omega)) _) rfl rfl hO0 rfl hl.1 rfl (Nat.le_of_ble_eq_true rfl) ⟨by decide, by decide⟩ ⟨Nat.le_of_ble_eq_true rfl, Nat.le_of_ble_eq_true rfl⟩ d_1_6_122) (fun v82 u81 H locs hp80 V => ?_)
                    rcases hp80 with ⟨c83, rfl, rfl⟩ | ⟨c85, rfl, rfl⟩
                    ·
                      exact absurd c83 (by decide)
                    ·
                      refine lv_astore (lv' := [(6, .ref qO9), (4, .long 0), (0, .ref qO0), (1, .int x1), (2, .int x2), (3, .int x3)]) hx hb d_1_6_125 hl (by decide) rfl (fun ls hl => ?_)
                      refine lv_aload hx hb d_1_6_127 (lv_at hl 0 rfl) ?_
                      refine lv_lload hx hb d_1_6_129 (lv_at hl 1 rfl) ?_
                      refine q_goi V (q_runV (As := [.long 0]) (rest := []) (d := 2) (mc := 0) (ms := 0) (ci := 6) C0 V rfl LV_NH_179 (c_Flo_isFinite_2 l D g ws 34 qO9 qO7 hO9 _) rfl rfl hO9 rfl hl.1 rfl (Nat.le_of_ble_eq_true rfl) ⟨by decide, by decide⟩ ⟨Nat.le_of_ble_eq_true rfl, Nat.le_of_ble_eq_true rfl⟩ d_1_6_131) (fun v89 u88 H locs hp87 V => ?_)
                      obtain ⟨rfl, rfl⟩ := hp87
                      refine q_goxv V (q_runSX (As := [.int 1]) (rest := []) (d := 7) (mc := 1) (ms := 6) C0 V rfl LS_NH_138 (c_NH_canHave l D g ws hlt 1 _) rfl hl.1 rfl (Nat.le_of_ble_eq_true rfl) ⟨by decide, by decide⟩ ⟨Nat.le_of_ble_eq_true rfl, Nat.le_of_ble_eq_true rfl⟩ d_1_6_134) (fun qx Ex ce u92 H locs hp91 V hce hcv hcl => ?_) (fun u92 H locs hp91 V => ?_)
                      ·
                        obtain ⟨c93, rfl, rfl⟩ := hp91
                        exact absurd c93 (by decide)
                      ·
                        obtain ⟨c95, rfl⟩ := hp91
                        refine lv_aload hx hb d_1_6_137 (lv_at hl 0 rfl) ?_
                        refine lv_lload hx hb d_1_6_139 (lv_at hl 1 rfl) ?_
                        refine q_gov V (q_runV (As := [.long 0]) (rest := []) (d := 3) (mc := 0) (ms := 0) (ci := 6) C0 V rfl LV_NH_183 (c_Flo_findShortest_2 l D g ws 34 qO9 qO7 hO9 _) rfl rfl hO9 rfl hl.1 rfl (Nat.le_of_ble_eq_true rfl) ⟨by decide, by decide⟩ ⟨Nat.le_of_ble_eq_true rfl, Nat.le_of_ble_eq_true rfl⟩ d_1_6_141) (fun u98 H locs hp97 V => ?_)
                        obtain ⟨hg99, hO9⟩ := hp97
                        replace hF := q_gc hF hg99 (q_al (Nat.le_of_ble_eq_true rfl) (fun _ h => absurd h List.not_mem_nil))
                        refine lv_iload_n hx hb d_1_6_144 rfl (lv_at hl 5 rfl) ?_
                        refine lv_iconst (v := 1) hx hb d_1_6_145 (by decide) ?_
                        refine lv_icmp_ne (tgt := 157) hx hb d_1_6_146 (by decide) (fun c100 => ?_) (fun c100 => ?_)
                        ·
                          refine lv_aload hx hb d_1_6_157 (lv_at hl 0 rfl) ?_
                          refine q_get (ci := 6) (j := 4) (v := .int 0) C0 V i_Flo rfl rfl hO9 (by decide) w_238 rfl d_1_6_159 ?_
                          refine lv_i2l hx hb d_1_6_162 rfl ?_
                          refine q_tl (v := 0) (by decide) ?_
                          exact q_retX (q_retl C0 V (⟨(show ((0 ≤ x1.toInt ∧ x1.toInt ≤ 3) ∧ (0 ≤ x2.toInt ∧ x2.toInt ≤ 9) ∧ 0 ≤ x3.toInt ∧ (x1.toInt = 0 → x3.toInt ≤ 4) ∧ (x1.toInt = 1 → x3.toInt ≤ 3) ∧ (2 ≤ x1.toInt → x3.toInt ≤ 2)) ∧ ((x1.toInt = 0 ∧ x3.toInt = 4 ∧ (0 : Int64).toInt = -1) ∨ (x1.toInt = 1 ∧ x3.toInt = 2 ∧ (0 : Int64).toInt = 1) ∨ (¬ (x1.toInt = 0 ∧ x3.toInt = 4) ∧ ¬ (x1.toInt = 1 ∧ x3.toInt = 2) ∧ (0 : Int64).toInt = 0)) from by have t1 : 0 ≤ x1.toInt := q_nltI c17; have t2 : x1.toInt ≤ 3 := q_nltI c18; have t3 : 0 ≤ x2.toInt := q_nltI c19; have t4 : x2.toInt < 10 := q_nleI c20; have t5 : 0 ≤ x3.toInt := q_nltI c22; have t6 : x1.toInt ≠ 0 := q_neI c35; have t7 : x1.toInt ≠ 1 := q_neI c36; have t8 : x3.toInt ≤ 2 := q_nltI c37; have t9 : x1.toInt = 2 := q_eqI c55; have t10 : x3.toInt ≠ 0 := q_neI c79; have t11 : x3.toInt ≠ 1 := q_neI c100; have e0 : (0 : Int64).toInt = 0 := (by decide); omega), hF⟩) d_1_6_163)
                        ·
                          refine lv_aload hx hb d_1_6_149 (lv_at hl 0 rfl) ?_
                          refine q_get (ci := 6) (j := 3) (v := .long 0) C0 V i_Flo rfl rfl hO9 (by decide) w_235 rfl d_1_6_151 ?_
                          refine lv_goto (tgt := 163) hx hb d_1_6_154 (by decide) ?_
                          exact q_retX (q_retl C0 V (⟨(show ((0 ≤ x1.toInt ∧ x1.toInt ≤ 3) ∧ (0 ≤ x2.toInt ∧ x2.toInt ≤ 9) ∧ 0 ≤ x3.toInt ∧ (x1.toInt = 0 → x3.toInt ≤ 4) ∧ (x1.toInt = 1 → x3.toInt ≤ 3) ∧ (2 ≤ x1.toInt → x3.toInt ≤ 2)) ∧ ((x1.toInt = 0 ∧ x3.toInt = 4 ∧ (0 : Int64).toInt = -1) ∨ (x1.toInt = 1 ∧ x3.toInt = 2 ∧ (0 : Int64).toInt = 1) ∨ (¬ (x1.toInt = 0 ∧ x3.toInt = 4) ∧ ¬ (x1.toInt = 1 ∧ x3.toInt = 2) ∧ (0 : Int64).toInt = 0)) from by have t1 : 0 ≤ x1.toInt := q_nltI c17; have t2 : x1.toInt ≤ 3 := q_nltI c18; have t3 : 0 ≤ x2.toInt := q_nltI c19; have t4 : x2.toInt < 10 := q_nleI c20; have t5 : 0 ≤ x3.toInt := q_nltI c22; have t6 : x1.toInt ≠ 0 := q_neI c35; have t7 : x1.toInt ≠ 1 := q_neI c36; have t8 : x3.toInt ≤ 2 := q_nltI c37; have t9 : x1.toInt = 2 := q_eqI c55; have t10 : x3.toInt ≠ 0 := q_neI c79; have t11 : x3.toInt = 1 := q_eqI c100; have e0 : (0 : Int64).toInt = 0 := (by decide); omega), hF⟩) d_1_6_163)
                  ·
                    refine lv_lload hx hb d_1_6_117 (lv_at hl 0 rfl) ?_
                    refine W.widen (k := 4) (n := 24) (Nat.le_of_ble_eq_true rfl) (Nat.le_of_ble_eq_true rfl) ?_
                    exact q_retX (q_retl C0 V (⟨(show ((0 ≤ x1.toInt ∧ x1.toInt ≤ 3) ∧ (0 ≤ x2.toInt ∧ x2.toInt ≤ 9) ∧ 0 ≤ x3.toInt ∧ (x1.toInt = 0 → x3.toInt ≤ 4) ∧ (x1.toInt = 1 → x3.toInt ≤ 3) ∧ (2 ≤ x1.toInt → x3.toInt ≤ 2)) ∧ ((x1.toInt = 0 ∧ x3.toInt = 4 ∧ (0 : Int64).toInt = -1) ∨ (x1.toInt = 1 ∧ x3.toInt = 2 ∧ (0 : Int64).toInt = 1) ∨ (¬ (x1.toInt = 0 ∧ x3.toInt = 4) ∧ ¬ (x1.toInt = 1 ∧ x3.toInt = 2) ∧ (0 : Int64).toInt = 0)) from by have t1 : 0 ≤ x1.toInt := q_nltI c17; have t2 : x1.toInt ≤ 3 := q_nltI c18; have t3 : 0 ≤ x2.toInt := q_nltI c19; have t4 : x2.toInt < 10 := q_nleI c20; have t5 : 0 ≤ x3.toInt := q_nltI c22; have t6 : x1.toInt ≠ 0 := q_neI c35; have t7 : x1.toInt ≠ 1 := q_neI c36; have t8 : x3.toInt ≤ 2 := q_nltI c37; have t9 : x1.toInt = 2 := q_eqI c55; have t10 : x3.toInt = 0 := q_eqI c79; have e0 : (0 : Int64).toInt = 0 := (by decide); omega), hF⟩) d_1_6_119)
          ·
            refine lv_iload_n hx hb d_1_6_51 rfl (lv_at hl 3 rfl) ?_
            refine lv_iconst (v := 2) hx hb d_1_6_52 (by decide) ?_
            refine lv_icmp_le (tgt := 71) hx hb d_1_6_53 (by decide) (fun c101 => ?_) (fun c101 => ?_)
            ·
              refine lv_iconst (v := 1) hx hb d_1_6_71 (by decide) ?_
              refine lv_goto (tgt := 76) hx hb d_1_6_72 (by decide) ?_
              refine q_goxv V (q_runSX (As := [.int 1]) (rest := []) (d := 7) (mc := 1) (ms := 6) C0 V rfl LS_NH_104 (c_NH_need l D g ws hlt 1 _) rfl hl.1 rfl (Nat.le_of_ble_eq_true rfl) ⟨by decide, by decide⟩ ⟨Nat.le_of_ble_eq_true rfl, Nat.le_of_ble_eq_true rfl⟩ d_1_6_76) (fun qx Ex ce u103 H locs hp102 V hce hcv hcl => ?_) (fun u103 H locs hp102 V => ?_)
              ·
                obtain ⟨c104, rfl, rfl⟩ := hp102
                exact absurd c104 (by decide)
              ·
                obtain ⟨c106, rfl⟩ := hp102
                refine lv_aload_n hx hb d_1_6_79 rfl (lv_at hl 0 rfl) ?_
                refine lv_aload_n hx hb d_1_6_80 rfl (lv_at hl 0 rfl) ?_
                refine q_get (ci := 0) (j := 3) (v := .ref qA4) C0 V i_NH rfl rfl hO0 (by decide) w_427 rfl d_1_6_81 ?_
                refine lv_iload_n hx hb d_1_6_84 rfl (lv_at hl 2 rfl) ?_
                have r108 : x2.toNatClampNeg < 10 := (q_r10 (x := x2.toInt) rfl (by have t1 : 0 ≤ x2.toInt := q_nltI c19; have t2 : x2.toInt < 10 := q_nleI c20; omega) (by have t1 : 0 ≤ x2.toInt := q_nltI c19; have t2 : x2.toInt < 10 := q_nleI c20; omega))
                have hr109 : ws[68 + 5 * x2.toNatClampNeg]? = (some (qD x2.toNatClampNeg, .inr (3, [.ref (qDN x2.toNatClampNeg), .int 0, .int 1])) : Option (Nat × va_E)) := FD _ r108
                have hr110 : ws[69 + 5 * x2.toNatClampNeg]? = (some (qDN x2.toNatClampNeg, .inr (2, [.ref (qDL x2.toNatClampNeg), .int 0, .int 0])) : Option (Nat × va_E)) := FDN _ r108
                have hr111 : ws[70 + 5 * x2.toNatClampNeg]? = (some (qDL x2.toNatClampNeg, .inl (g 0, 108, .inl (fun _ => 0))) : Option (Nat × va_E)) := FDL _ r108
                have hh : x2.toNatClampNeg < 10 := (q_r10 (x := x2.toInt) rfl (by have t1 : 0 ≤ x2.toInt := q_nltI c19; have t2 : x2.toInt < 10 := q_nleI c20; omega) (by have t1 : 0 ≤ x2.toInt := q_nltI c19; have t2 : x2.toInt < 10 := q_nleI c20; omega))
                refine q_aald (t := 5) (q := qD x2.toNatClampNeg) C0 V hA4 rfl (q_ix (x := x2.toInt) rfl (by have t1 : 0 ≤ x2.toInt := q_nltI c19; have t2 : x2.toInt < 10 := q_nleI c20; omega) (by have t1 : 0 ≤ x2.toInt := q_nltI c19; have t2 : x2.toInt < 10 := q_nleI c20; omega)) (hfD _ hh) d_1_6_85 ?_
                refine lv_iload_n hx hb d_1_6_86 rfl (lv_at hl 3 rfl) ?_
                refine q_gol V (q_runV (As := [.ref (qD x2.toNatClampNeg), .int x3]) (rest := []) (d := 2) (mc := 0) (ms := 0) (ci := 0) C0 V rfl LV_NH_175 (c_NH_tellDecimal l D g ws (68 + 5 * x2.toNatClampNeg) (69 + 5 * x2.toNatClampNeg) qO0 (qD x2.toNatClampNeg) (qDN x2.toNatClampNeg) (qDL x2.toNatClampNeg) x3 hr109 hr110 (q_Ile (x := 0) (y := x3.toInt) (by decide) rfl (by have t1 : 0 ≤ x3.toInt := q_nltI c22; have t2 : x3.toInt ≤ 2 := q_leI c101; omega)) c101 _) rfl rfl hO0 rfl hl.1 rfl (Nat.le_of_ble_eq_true rfl) ⟨by decide, by decide⟩ ⟨Nat.le_of_ble_eq_true rfl, Nat.le_of_ble_eq_true rfl⟩ d_1_6_87) (fun v114 u113 H locs hp112 V => ?_)
                rcases hp112 with ⟨c115, c116, rfl, rfl⟩ | ⟨c118, c119, rfl, rfl⟩ | ⟨c121, rfl, rfl⟩
                ·
                  refine W.widen (k := 4) (n := 24) (Nat.le_of_ble_eq_true rfl) (Nat.le_of_ble_eq_true rfl) ?_
                  exact q_retX (q_retl C0 V (⟨(show ((0 ≤ x1.toInt ∧ x1.toInt ≤ 3) ∧ (0 ≤ x2.toInt ∧ x2.toInt ≤ 9) ∧ 0 ≤ x3.toInt ∧ (x1.toInt = 0 → x3.toInt ≤ 4) ∧ (x1.toInt = 1 → x3.toInt ≤ 3) ∧ (2 ≤ x1.toInt → x3.toInt ≤ 2)) ∧ ((x1.toInt = 0 ∧ x3.toInt = 4 ∧ (1 : Int64).toInt = -1) ∨ (x1.toInt = 1 ∧ x3.toInt = 2 ∧ (1 : Int64).toInt = 1) ∨ (¬ (x1.toInt = 0 ∧ x3.toInt = 4) ∧ ¬ (x1.toInt = 1 ∧ x3.toInt = 2) ∧ (1 : Int64).toInt = 0)) from by have t1 : 0 ≤ x1.toInt := q_nltI c17; have t2 : x1.toInt ≤ 3 := q_nltI c18; have t3 : 0 ≤ x2.toInt := q_nltI c19; have t4 : x2.toInt < 10 := q_nleI c20; have t5 : 0 ≤ x3.toInt := q_nltI c22; have t6 : x1.toInt ≠ 0 := q_neI c35; have t7 : x1.toInt = 1 := q_eqI c36; have t8 : x3.toInt ≤ 2 := q_leI c101; have t9 : x3.toInt ≠ 0 := q_neI c115; have t10 : x3.toInt ≠ 1 := q_neI c116; have e0 : (1 : Int64).toInt = 1 := (by decide); omega), hF⟩) d_1_6_90)
                ·
                  refine W.widen (k := 4) (n := 24) (Nat.le_of_ble_eq_true rfl) (Nat.le_of_ble_eq_true rfl) ?_
                  exact q_retX (q_retl C0 V (⟨(show ((0 ≤ x1.toInt ∧ x1.toInt ≤ 3) ∧ (0 ≤ x2.toInt ∧ x2.toInt ≤ 9) ∧ 0 ≤ x3.toInt ∧ (x1.toInt = 0 → x3.toInt ≤ 4) ∧ (x1.toInt = 1 → x3.toInt ≤ 3) ∧ (2 ≤ x1.toInt → x3.toInt ≤ 2)) ∧ ((x1.toInt = 0 ∧ x3.toInt = 4 ∧ (0 : Int64).toInt = -1) ∨ (x1.toInt = 1 ∧ x3.toInt = 2 ∧ (0 : Int64).toInt = 1) ∨ (¬ (x1.toInt = 0 ∧ x3.toInt = 4) ∧ ¬ (x1.toInt = 1 ∧ x3.toInt = 2) ∧ (0 : Int64).toInt = 0)) from by have t1 : 0 ≤ x1.toInt := q_nltI c17; have t2 : x1.toInt ≤ 3 := q_nltI c18; have t3 : 0 ≤ x2.toInt := q_nltI c19; have t4 : x2.toInt < 10 := q_nleI c20; have t5 : 0 ≤ x3.toInt := q_nltI c22; have t6 : x1.toInt ≠ 0 := q_neI c35; have t7 : x1.toInt = 1 := q_eqI c36; have t8 : x3.toInt ≤ 2 := q_leI c101; have t9 : x3.toInt ≠ 0 := q_neI c118; have t10 : x3.toInt = 1 := q_eqI c119; have e0 : (0 : Int64).toInt = 0 := (by decide); omega), hF⟩) d_1_6_90)
                ·
                  refine W.widen (k := 4) (n := 24) (Nat.le_of_ble_eq_true rfl) (Nat.le_of_ble_eq_true rfl) ?_
                  exact q_retX (q_retl C0 V (⟨(show ((0 ≤ x1.toInt ∧ x1.toInt ≤ 3) ∧ (0 ≤ x2.toInt ∧ x2.toInt ≤ 9) ∧ 0 ≤ x3.toInt ∧ (x1.toInt = 0 → x3.toInt ≤ 4) ∧ (x1.toInt = 1 → x3.toInt ≤ 3) ∧ (2 ≤ x1.toInt → x3.toInt ≤ 2)) ∧ ((x1.toInt = 0 ∧ x3.toInt = 4 ∧ (0 : Int64).toInt = -1) ∨ (x1.toInt = 1 ∧ x3.toInt = 2 ∧ (0 : Int64).toInt = 1) ∨ (¬ (x1.toInt = 0 ∧ x3.toInt = 4) ∧ ¬ (x1.toInt = 1 ∧ x3.toInt = 2) ∧ (0 : Int64).toInt = 0)) from by have t1 : 0 ≤ x1.toInt := q_nltI c17; have t2 : x1.toInt ≤ 3 := q_nltI c18; have t3 : 0 ≤ x2.toInt := q_nltI c19; have t4 : x2.toInt < 10 := q_nleI c20; have t5 : 0 ≤ x3.toInt := q_nltI c22; have t6 : x1.toInt ≠ 0 := q_neI c35; have t7 : x1.toInt = 1 := q_eqI c36; have t8 : x3.toInt ≤ 2 := q_leI c101; have t9 : x3.toInt = 0 := q_eqI c121; have e0 : (0 : Int64).toInt = 0 := (by decide); omega), hF⟩) d_1_6_90)
            ·
              refine lv_iload_n hx hb d_1_6_56 rfl (lv_at hl 3 rfl) ?_
              refine lv_iconst (v := 3) hx hb d_1_6_57 (by decide) ?_
              refine lv_isub hx hb d_1_6_58 ?_
              refine lv_aload_n hx hb d_1_6_59 rfl (lv_at hl 0 rfl) ?_
              refine q_get (ci := 0) (j := 3) (v := .ref qA4) C0 V i_NH rfl rfl hO0 (by decide) w_427 rfl d_1_6_60 ?_
              refine lv_iload_n hx hb d_1_6_63 rfl (lv_at hl 2 rfl) ?_
              have r123 : x2.toNatClampNeg < 10 := (q_r10 (x := x2.toInt) rfl (by have t1 : 0 ≤ x2.toInt := q_nltI c19; have t2 : x2.toInt < 10 := q_nleI c20; omega) (by have t1 : 0 ≤ x2.toInt := q_nltI c19; have t2 : x2.toInt < 10 := q_nleI c20; omega))
              have hr124 : ws[68 + 5 * x2.toNatClampNeg]? = (some (qD x2.toNatClampNeg, .inr (3, [.ref (qDN x2.toNatClampNeg), .int 0, .int 1])) : Option (Nat × va_E)) := FD _ r123
              have hr125 : ws[69 + 5 * x2.toNatClampNeg]? = (some (qDN x2.toNatClampNeg, .inr (2, [.ref (qDL x2.toNatClampNeg), .int 0, .int 0])) : Option (Nat × va_E)) := FDN _ r123
              have hr126 : ws[70 + 5 * x2.toNatClampNeg]? = (some (qDL x2.toNatClampNeg, .inl (g 0, 108, .inl (fun _ => 0))) : Option (Nat × va_E)) := FDL _ r123
              have hh : x2.toNatClampNeg < 10 := (q_r10 (x := x2.toInt) rfl (by have t1 : 0 ≤ x2.toInt := q_nltI c19; have t2 : x2.toInt < 10 := q_nleI c20; omega) (by have t1 : 0 ≤ x2.toInt := q_nltI c19; have t2 : x2.toInt < 10 := q_nleI c20; omega))
              refine q_aald (t := 5) (q := qD x2.toNatClampNeg) C0 V hA4 rfl (q_ix (x := x2.toInt) rfl (by have t1 : 0 ≤ x2.toInt := q_nltI c19; have t2 : x2.toInt < 10 := q_nleI c20; omega) (by have t1 : 0 ≤ x2.toInt := q_nltI c19; have t2 : x2.toInt < 10 := q_nleI c20; omega)) (hfD _ hh) d_1_6_64 ?_
              refine q_get (ci := 3) (j := 2) (v := .int 1) C0 V i_Dec rfl rfl hr124 (by decide) w_182 rfl d_1_6_65 ?_
              refine lv_icmp_ge (tgt := 75) hx hb d_1_6_68 (by decide) (fun c127 => ?_) (fun c127 => ?_)
              ·
                refine lv_iconst (v := 0) hx hb d_1_6_75 (by decide) ?_
                refine q_goxv V (q_runSX (As := [.int 0]) (rest := []) (d := 7) (mc := 1) (ms := 6) C0 V rfl LS_NH_104 (c_NH_need l D g ws hlt 0 _) rfl hl.1 rfl (Nat.le_of_ble_eq_true rfl) ⟨by decide, by decide⟩ ⟨Nat.le_of_ble_eq_true rfl, Nat.le_of_ble_eq_true rfl⟩ d_1_6_76) (fun qx Ex ce u129 H locs hp128 V hce hcv hcl => ?_) (fun u129 H locs hp128 V => ?_)
                ·
                  obtain ⟨c130, rfl, rfl⟩ := hp128
                  exact q_outT hno C0 V (⟨⟨rfl, (show ¬ ((0 ≤ x1.toInt ∧ x1.toInt ≤ 3) ∧ (0 ≤ x2.toInt ∧ x2.toInt ≤ 9) ∧ 0 ≤ x3.toInt ∧ (x1.toInt = 0 → x3.toInt ≤ 4) ∧ (x1.toInt = 1 → x3.toInt ≤ 3) ∧ (2 ≤ x1.toInt → x3.toInt ≤ 2)) from by have t1 : 0 ≤ x1.toInt := q_nltI c17; have t2 : x1.toInt ≤ 3 := q_nltI c18; have t3 : 0 ≤ x2.toInt := q_nltI c19; have t4 : x2.toInt < 10 := q_nleI c20; have t5 : 0 ≤ x3.toInt := q_nltI c22; have t6 : x1.toInt ≠ 0 := q_neI c35; have t7 : x1.toInt = 1 := q_eqI c36; have t8 : 2 < x3.toInt := q_nleI c101; have t9 : 1 ≤ (x3.toInt - 3) := by { have e1 : (1 : Int32).toInt = 1 := (by decide); have e2 : ((x3 - 3) : Int32).toInt = (x3.toInt - 3) := (q_subI (x := x3.toInt) (y := 3) rfl (by decide) (by have t1 : 0 ≤ x3.toInt := q_nltI c22; have t2 : 2 < x3.toInt := q_nleI c101; have y0h := q_hi32 (x := x3); omega) (by have t1 : 0 ≤ x3.toInt := q_nltI c22; have t2 : 2 < x3.toInt := q_nleI c101; have y0h := q_hi32 (x := x3); omega)); have e3 := q_leI c127; omega }; omega)⟩, hF⟩) hce hcv hcl (Nat.le_of_ble_eq_true rfl) (Nat.le_of_ble_eq_true rfl)
                ·
                  obtain ⟨c132, rfl⟩ := hp128
                  exact absurd c132 (by decide)
              ·
                refine lv_iconst (v := 1) hx hb d_1_6_71 (by decide) ?_
                refine lv_goto (tgt := 76) hx hb d_1_6_72 (by decide) ?_
                refine q_goxv V (q_runSX (As := [.int 1]) (rest := []) (d := 7) (mc := 1) (ms := 6) C0 V rfl LS_NH_104 (c_NH_need l D g ws hlt 1 _) rfl hl.1 rfl (Nat.le_of_ble_eq_true rfl) ⟨by decide, by decide⟩ ⟨Nat.le_of_ble_eq_true rfl, Nat.le_of_ble_eq_true rfl⟩ d_1_6_76) (fun qx Ex ce u135 H locs hp134 V hce hcv hcl => ?_) (fun u135 H locs hp134 V => ?_)
                ·
                  obtain ⟨c136, rfl, rfl⟩ := hp134
                  exact absurd c136 (by decide)
                ·
                  obtain ⟨c138, rfl⟩ := hp134
                  refine lv_aload_n hx hb d_1_6_79 rfl (lv_at hl 0 rfl) ?_
                  refine lv_aload_n hx hb d_1_6_80 rfl (lv_at hl 0 rfl) ?_
                  refine q_get (ci := 0) (j := 3) (v := .ref qA4) C0 V i_NH rfl rfl hO0 (by decide) w_427 rfl d_1_6_81 ?_
                  refine lv_iload_n hx hb d_1_6_84 rfl (lv_at hl 2 rfl) ?_
                  have hh : x2.toNatClampNeg < 10 := (q_r10 (x := x2.toInt) rfl (by have t1 : 0 ≤ x2.toInt := q_nltI c19; have t2 : x2.toInt < 10 := q_nleI c20; omega) (by have t1 : 0 ≤ x2.toInt := q_nltI c19; have t2 : x2.toInt < 10 := q_nleI c20; omega))
                  refine q_aald (t := 5) (q := qD x2.toNatClampNeg) C0 V hA4 rfl (q_ix (x := x2.toInt) rfl (by have t1 : 0 ≤ x2.toInt := q_nltI c19; have t2 : x2.toInt < 10 := q_nleI c20; omega) (by have t1 : 0 ≤ x2.toInt := q_nltI c19; have t2 : x2.toInt < 10 := q_nleI c20; omega)) (hfD _ hh) d_1_6_85 ?_
                  refine lv_iload_n hx hb d_1_6_86 rfl (lv_at hl 3 rfl) ?_
                  refine q_ti (v := 3) (q_Ieq (x := x3.toInt) (y := 3) rfl (by decide) (by have t1 : 0 ≤ x3.toInt := q_nltI c22; have t2 : 2 < x3.toInt := q_nleI c101; have t3 : (x3.toInt - 3) < 1 := by { have e1 : (1 : Int32).toInt = 1 := (by decide); have e2 : ((x3 - 3) : Int32).toInt = (x3.toInt - 3) := (q_subI (x := x3.toInt) (y := 3) rfl (by decide) (by have t1 : 0 ≤ x3.toInt := q_nltI c22; have t2 : 2 < x3.toInt := q_nleI c101; have y0h := q_hi32 (x := x3); omega) (by have t1 : 0 ≤ x3.toInt := q_nltI c22; have t2 : 2 < x3.toInt := q_nleI c101; have y0h := q_hi32 (x := x3); omega)); have e3 := q_nleI c127; omega }; omega)) ?_
                  refine q_gol V (q_runV (As := [.ref (qD x2.toNatClampNeg), .int 3]) (rest := []) (d := 3) (mc := 0) (ms := 0) (ci := 0) C0 V rfl LV_NH_175 (c_NH_tellDecimal_2 l D g ws (68 + 5 * x2.toNatClampNeg) (69 + 5 * x2.toNatClampNeg) (70 + 5 * x2.toNatClampNeg) qO0 (qD x2.toNatClampNeg) qO1 qO2 qA3 qA4 qA5 qA6 qO7 qO8 qO9 qO10 qO11 qO12 qO13 qO14 (qDN x2.toNatClampNeg) qO17 qO18 qO19 qO20 qO21 qO22 qO23 qO24 qO25 qO26 qA28 (qDL x2.toNatClampNeg) qA35 hO0 hr124 hO7 hO11 hr125 hO17 hr126 hA35 (q_f5 rfl) (q_f5 rfl) _) rfl rfl hO0 rfl hl.1 rfl (Nat.le_of_ble_eq_true rfl) ⟨by decide, by decide⟩ ⟨Nat.le_of_ble_eq_true rfl, Nat.le_of_ble_eq_true rfl⟩ d_1_6_87) (fun v142 u141 H locs hp140 V => ?_)
                  obtain ⟨rfl, hg143, hO11, hO17, hA35⟩ := hp140
                  replace hF := q_gc hF hg143 (q_al (Nat.le_of_ble_eq_true rfl) (q_al (Nat.le_of_ble_eq_true rfl) (q_al (Nat.le_of_ble_eq_true rfl) (fun _ h => absurd h List.not_mem_nil))))
                  refine W.widen (k := 4) (n := 24) (Nat.le_of_ble_eq_true rfl) (Nat.le_of_ble_eq_true rfl) ?_
                  exact q_retX (q_retl C0 V (⟨(show ((0 ≤ x1.toInt ∧ x1.toInt ≤ 3) ∧ (0 ≤ x2.toInt ∧ x2.toInt ≤ 9) ∧ 0 ≤ x3.toInt ∧ (x1.toInt = 0 → x3.toInt ≤ 4) ∧ (x1.toInt = 1 → x3.toInt ≤ 3) ∧ (2 ≤ x1.toInt → x3.toInt ≤ 2)) ∧ ((x1.toInt = 0 ∧ x3.toInt = 4 ∧ (0 : Int64).toInt = -1) ∨ (x1.toInt = 1 ∧ x3.toInt = 2 ∧ (0 : Int64).toInt = 1) ∨ (¬ (x1.toInt = 0 ∧ x3.toInt = 4) ∧ ¬ (x1.toInt = 1 ∧ x3.toInt = 2) ∧ (0 : Int64).toInt = 0)) from by have t1 : 0 ≤ x1.toInt := q_nltI c17; have t2 : x1.toInt ≤ 3 := q_nltI c18; have t3 : 0 ≤ x2.toInt := q_nltI c19; have t4 : x2.toInt < 10 := q_nleI c20; have t5 : 0 ≤ x3.toInt := q_nltI c22; have t6 : x1.toInt ≠ 0 := q_neI c35; have t7 : x1.toInt = 1 := q_eqI c36; have t8 : 2 < x3.toInt := q_nleI c101; have t9 : (x3.toInt - 3) < 1 := by { have e1 : (1 : Int32).toInt = 1 := (by decide); have e2 : ((x3 - 3) : Int32).toInt = (x3.toInt - 3) := (q_subI (x := x3.toInt) (y := 3) rfl (by decide) (by have t1 : 0 ≤ x3.toInt := q_nltI c22; have t2 : 2 < x3.toInt := q_nleI c101; have y0h := q_hi32 (x := x3); omega) (by have t1 : 0 ≤ x3.toInt := q_nltI c22; have t2 : 2 < x3.toInt := q_nleI c101; have y0h := q_hi32 (x := x3); omega)); have e3 := q_nleI c127; omega }; have e0 : (0 : Int64).toInt = 0 := (by decide); omega), hF⟩) d_1_6_90)
        ·
          refine lv_iload_n hx hb d_1_6_21 rfl (lv_at hl 3 rfl) ?_
          refine lv_iconst (v := 4) hx hb d_1_6_22 (by decide) ?_
          refine lv_icmp_gt (tgt := 30) hx hb d_1_6_23 (by decide) (fun c144 => ?_) (fun c144 => ?_)
          ·
            refine lv_iconst (v := 0) hx hb d_1_6_30 (by decide) ?_
            refine q_goxv V (q_runSX (As := [.int 0]) (rest := []) (d := 7) (mc := 1) (ms := 6) C0 V rfl LS_NH_104 (c_NH_need l D g ws hlt 0 _) rfl hl.1 rfl (Nat.le_of_ble_eq_true rfl) ⟨by decide, by decide⟩ ⟨Nat.le_of_ble_eq_true rfl, Nat.le_of_ble_eq_true rfl⟩ d_1_6_31) (fun qx Ex ce u146 H locs hp145 V hce hcv hcl => ?_) (fun u146 H locs hp145 V => ?_)
            ·
              obtain ⟨c147, rfl, rfl⟩ := hp145
              exact q_outT hno C0 V (⟨⟨rfl, (show ¬ ((0 ≤ x1.toInt ∧ x1.toInt ≤ 3) ∧ (0 ≤ x2.toInt ∧ x2.toInt ≤ 9) ∧ 0 ≤ x3.toInt ∧ (x1.toInt = 0 → x3.toInt ≤ 4) ∧ (x1.toInt = 1 → x3.toInt ≤ 3) ∧ (2 ≤ x1.toInt → x3.toInt ≤ 2)) from by have t1 : 0 ≤ x1.toInt := q_nltI c17; have t2 : x1.toInt ≤ 3 := q_nltI c18; have t3 : 0 ≤ x2.toInt := q_nltI c19; have t4 : x2.toInt < 10 := q_nleI c20; have t5 : 0 ≤ x3.toInt := q_nltI c22; have t6 : x1.toInt = 0 := q_eqI c35; have t7 : 4 < x3.toInt := q_ltI c144; omega)⟩, hF⟩) hce hcv hcl (Nat.le_of_ble_eq_true rfl) (Nat.le_of_ble_eq_true rfl)
            ·
              obtain ⟨c149, rfl⟩ := hp145
              exact absurd c149 (by decide)
          ·
            refine lv_iconst (v := 1) hx hb d_1_6_26 (by decide) ?_
            refine lv_goto (tgt := 31) hx hb d_1_6_27 (by decide) ?_
            refine q_goxv V (q_runSX (As := [.int 1]) (rest := []) (d := 7) (mc := 1) (ms := 6) C0 V rfl LS_NH_104 (c_NH_need l D g ws hlt 1 _) rfl hl.1 rfl (Nat.le_of_ble_eq_true rfl) ⟨by decide, by decide⟩ ⟨Nat.le_of_ble_eq_true rfl, Nat.le_of_ble_eq_true rfl⟩ d_1_6_31) (fun qx Ex ce u152 H locs hp151 V hce hcv hcl => ?_) (fun u152 H locs hp151 V => ?_)
            ·
              obtain ⟨c153, rfl, rfl⟩ := hp151
              exact absurd c153 (by decide)
            ·
              obtain ⟨c155, rfl⟩ := hp151
              refine lv_aload_n hx hb d_1_6_34 rfl (lv_at hl 0 rfl) ?_
              refine lv_aload_n hx hb d_1_6_35 rfl (lv_at hl 0 rfl) ?_
              refine q_get (ci := 0) (j := 2) (v := .ref qA3) C0 V i_NH rfl rfl hO0 (by decide) w_426 rfl d_1_6_36 ?_
              refine lv_iload_n hx hb d_1_6_39 rfl (lv_at hl 2 rfl) ?_
              have r157 : x2.toNatClampNeg < 10 := (q_r10 (x := x2.toInt) rfl (by have t1 : 0 ≤ x2.toInt := q_nltI c19; have t2 : x2.toInt < 10 := q_nleI c20; omega) (by have t1 : 0 ≤ x2.toInt := q_nltI c19; have t2 : x2.toInt < 10 := q_nleI c20; omega))
              have hr158 : ws[66 + 5 * x2.toNatClampNeg]? = (some (qW x2.toNatClampNeg, .inr (2, [.ref (qWL x2.toNatClampNeg), .int 0, .int 0])) : Option (Nat × va_E)) := FW _ r157
              have hr159 : ws[67 + 5 * x2.toNatClampNeg]? = (some (qWL x2.toNatClampNeg, .inl (g 0, 68, .inl (fun _ => 0))) : Option (Nat × va_E)) := FWL _ r157
              have hh : x2.toNatClampNeg < 10 := (q_r10 (x := x2.toInt) rfl (by have t1 : 0 ≤ x2.toInt := q_nltI c19; have t2 : x2.toInt < 10 := q_nleI c20; omega) (by have t1 : 0 ≤ x2.toInt := q_nltI c19; have t2 : x2.toInt < 10 := q_nleI c20; omega))
              refine q_aald (t := 4) (q := qW x2.toNatClampNeg) C0 V hA3 rfl (q_ix (x := x2.toInt) rfl (by have t1 : 0 ≤ x2.toInt := q_nltI c19; have t2 : x2.toInt < 10 := q_nleI c20; omega) (by have t1 : 0 ≤ x2.toInt := q_nltI c19; have t2 : x2.toInt < 10 := q_nleI c20; omega)) (hfW _ hh) d_1_6_40 ?_
              refine lv_iload_n hx hb d_1_6_41 rfl (lv_at hl 3 rfl) ?_
              refine q_gol V (q_runV (As := [.ref (qW x2.toNatClampNeg), .int x3]) (rest := []) (d := 3) (mc := 0) (ms := 0) (ci := 0) C0 V rfl LV_NH_168 (c_NH_tellWhole l D g ws (66 + 5 * x2.toNatClampNeg) qO0 (qW x2.toNatClampNeg) (qWL x2.toNatClampNeg) x3 hr158 (q_Ile (x := 0) (y := x3.toInt) (by decide) rfl (by have t1 : 0 ≤ x3.toInt := q_nltI c22; have t2 : x3.toInt ≤ 4 := q_nltI c144; omega)) (q_Ile (x := x3.toInt) (y := 4) rfl (by decide) (by have t1 : 0 ≤ x3.toInt := q_nltI c22; have t2 : x3.toInt ≤ 4 := q_nltI c144; omega)) _) rfl rfl hO0 rfl hl.1 rfl (Nat.le_of_ble_eq_true rfl) ⟨by decide, by decide⟩ ⟨Nat.le_of_ble_eq_true rfl, Nat.le_of_ble_eq_true rfl⟩ d_1_6_42) (fun v162 u161 H locs hp160 V => ?_)
              rcases hp160 with ⟨c163, rfl, rfl⟩ | ⟨c165, c166, rfl, rfl⟩ | ⟨c168, c169, c170, rfl, rfl⟩ | ⟨c172, c173, c174, c175, rfl, rfl⟩ | ⟨c177, c178, c179, c180, rfl, rfl⟩
              ·
                refine W.widen (k := 4) (n := 24) (Nat.le_of_ble_eq_true rfl) (Nat.le_of_ble_eq_true rfl) ?_
                exact q_retX (q_retl C0 V (⟨(show ((0 ≤ x1.toInt ∧ x1.toInt ≤ 3) ∧ (0 ≤ x2.toInt ∧ x2.toInt ≤ 9) ∧ 0 ≤ x3.toInt ∧ (x1.toInt = 0 → x3.toInt ≤ 4) ∧ (x1.toInt = 1 → x3.toInt ≤ 3) ∧ (2 ≤ x1.toInt → x3.toInt ≤ 2)) ∧ ((x1.toInt = 0 ∧ x3.toInt = 4 ∧ (0 : Int64).toInt = -1) ∨ (x1.toInt = 1 ∧ x3.toInt = 2 ∧ (0 : Int64).toInt = 1) ∨ (¬ (x1.toInt = 0 ∧ x3.toInt = 4) ∧ ¬ (x1.toInt = 1 ∧ x3.toInt = 2) ∧ (0 : Int64).toInt = 0)) from by have t1 : 0 ≤ x1.toInt := q_nltI c17; have t2 : x1.toInt ≤ 3 := q_nltI c18; have t3 : 0 ≤ x2.toInt := q_nltI c19; have t4 : x2.toInt < 10 := q_nleI c20; have t5 : 0 ≤ x3.toInt := q_nltI c22; have t6 : x1.toInt = 0 := q_eqI c35; have t7 : x3.toInt ≤ 4 := q_nltI c144; have t8 : x3.toInt = 0 := q_eqI c163; have e0 : (0 : Int64).toInt = 0 := (by decide); omega), hF⟩) d_1_6_45)
              ·
                refine W.widen (k := 4) (n := 24) (Nat.le_of_ble_eq_true rfl) (Nat.le_of_ble_eq_true rfl) ?_
                exact q_retX (q_retl C0 V (⟨(show ((0 ≤ x1.toInt ∧ x1.toInt ≤ 3) ∧ (0 ≤ x2.toInt ∧ x2.toInt ≤ 9) ∧ 0 ≤ x3.toInt ∧ (x1.toInt = 0 → x3.toInt ≤ 4) ∧ (x1.toInt = 1 → x3.toInt ≤ 3) ∧ (2 ≤ x1.toInt → x3.toInt ≤ 2)) ∧ ((x1.toInt = 0 ∧ x3.toInt = 4 ∧ (0 : Int64).toInt = -1) ∨ (x1.toInt = 1 ∧ x3.toInt = 2 ∧ (0 : Int64).toInt = 1) ∨ (¬ (x1.toInt = 0 ∧ x3.toInt = 4) ∧ ¬ (x1.toInt = 1 ∧ x3.toInt = 2) ∧ (0 : Int64).toInt = 0)) from by have t1 : 0 ≤ x1.toInt := q_nltI c17; have t2 : x1.toInt ≤ 3 := q_nltI c18; have t3 : 0 ≤ x2.toInt := q_nltI c19; have t4 : x2.toInt < 10 := q_nleI c20; have t5 : 0 ≤ x3.toInt := q_nltI c22; have t6 : x1.toInt = 0 := q_eqI c35; have t7 : x3.toInt ≤ 4 := q_nltI c144; have t8 : x3.toInt ≠ 0 := q_neI c165; have t9 : x3.toInt = 1 := q_eqI c166; have e0 : (0 : Int64).toInt = 0 := (by decide); omega), hF⟩) d_1_6_45)
              ·
                refine W.widen (k := 4) (n := 24) (Nat.le_of_ble_eq_true rfl) (Nat.le_of_ble_eq_true rfl) ?_
                exact q_retX (q_retl C0 V (⟨(show ((0 ≤ x1.toInt ∧ x1.toInt ≤ 3) ∧ (0 ≤ x2.toInt ∧ x2.toInt ≤ 9) ∧ 0 ≤ x3.toInt ∧ (x1.toInt = 0 → x3.toInt ≤ 4) ∧ (x1.toInt = 1 → x3.toInt ≤ 3) ∧ (2 ≤ x1.toInt → x3.toInt ≤ 2)) ∧ ((x1.toInt = 0 ∧ x3.toInt = 4 ∧ (0 : Int64).toInt = -1) ∨ (x1.toInt = 1 ∧ x3.toInt = 2 ∧ (0 : Int64).toInt = 1) ∨ (¬ (x1.toInt = 0 ∧ x3.toInt = 4) ∧ ¬ (x1.toInt = 1 ∧ x3.toInt = 2) ∧ (0 : Int64).toInt = 0)) from by have t1 : 0 ≤ x1.toInt := q_nltI c17; have t2 : x1.toInt ≤ 3 := q_nltI c18; have t3 : 0 ≤ x2.toInt := q_nltI c19; have t4 : x2.toInt < 10 := q_nleI c20; have t5 : 0 ≤ x3.toInt := q_nltI c22; have t6 : x1.toInt = 0 := q_eqI c35; have t7 : x3.toInt ≤ 4 := q_nltI c144; have t8 : x3.toInt ≠ 0 := q_neI c168; have t9 : x3.toInt ≠ 1 := q_neI c169; have t10 : x3.toInt = 2 := q_eqI c170; have e0 : (0 : Int64).toInt = 0 := (by decide); omega), hF⟩) d_1_6_45)
              ·
                refine W.widen (k := 4) (n := 24) (Nat.le_of_ble_eq_true rfl) (Nat.le_of_ble_eq_true rfl) ?_
                exact q_retX (q_retl C0 V (⟨(show ((0 ≤ x1.toInt ∧ x1.toInt ≤ 3) ∧ (0 ≤ x2.toInt ∧ x2.toInt ≤ 9) ∧ 0 ≤ x3.toInt ∧ (x1.toInt = 0 → x3.toInt ≤ 4) ∧ (x1.toInt = 1 → x3.toInt ≤ 3) ∧ (2 ≤ x1.toInt → x3.toInt ≤ 2)) ∧ ((x1.toInt = 0 ∧ x3.toInt = 4 ∧ (0 : Int64).toInt = -1) ∨ (x1.toInt = 1 ∧ x3.toInt = 2 ∧ (0 : Int64).toInt = 1) ∨ (¬ (x1.toInt = 0 ∧ x3.toInt = 4) ∧ ¬ (x1.toInt = 1 ∧ x3.toInt = 2) ∧ (0 : Int64).toInt = 0)) from by have t1 : 0 ≤ x1.toInt := q_nltI c17; have t2 : x1.toInt ≤ 3 := q_nltI c18; have t3 : 0 ≤ x2.toInt := q_nltI c19; have t4 : x2.toInt < 10 := q_nleI c20; have t5 : 0 ≤ x3.toInt := q_nltI c22; have t6 : x1.toInt = 0 := q_eqI c35; have t7 : x3.toInt ≤ 4 := q_nltI c144; have t8 : x3.toInt ≠ 0 := q_neI c172; have t9 : x3.toInt ≠ 1 := q_neI c173; have t10 : x3.toInt ≠ 2 := q_neI c174; have t11 : x3.toInt = 3 := q_eqI c175; have e0 : (0 : Int64).toInt = 0 := (by decide); omega), hF⟩) d_1_6_45)
              ·
                refine W.widen (k := 4) (n := 24) (Nat.le_of_ble_eq_true rfl) (Nat.le_of_ble_eq_true rfl) ?_
                exact q_retX (q_retl C0 V (⟨(show ((0 ≤ x1.toInt ∧ x1.toInt ≤ 3) ∧ (0 ≤ x2.toInt ∧ x2.toInt ≤ 9) ∧ 0 ≤ x3.toInt ∧ (x1.toInt = 0 → x3.toInt ≤ 4) ∧ (x1.toInt = 1 → x3.toInt ≤ 3) ∧ (2 ≤ x1.toInt → x3.toInt ≤ 2)) ∧ ((x1.toInt = 0 ∧ x3.toInt = 4 ∧ ((-1) : Int64).toInt = -1) ∨ (x1.toInt = 1 ∧ x3.toInt = 2 ∧ ((-1) : Int64).toInt = 1) ∨ (¬ (x1.toInt = 0 ∧ x3.toInt = 4) ∧ ¬ (x1.toInt = 1 ∧ x3.toInt = 2) ∧ ((-1) : Int64).toInt = 0)) from by have t1 : 0 ≤ x1.toInt := q_nltI c17; have t2 : x1.toInt ≤ 3 := q_nltI c18; have t3 : 0 ≤ x2.toInt := q_nltI c19; have t4 : x2.toInt < 10 := q_nleI c20; have t5 : 0 ≤ x3.toInt := q_nltI c22; have t6 : x1.toInt = 0 := q_eqI c35; have t7 : x3.toInt ≤ 4 := q_nltI c144; have t8 : x3.toInt ≠ 0 := q_neI c177; have t9 : x3.toInt ≠ 1 := q_neI c178; have t10 : x3.toInt ≠ 2 := q_neI c179; have t11 : x3.toInt ≠ 3 := q_neI c180; have e0 : ((-1) : Int64).toInt = (-1) := (by decide); omega), hF⟩) d_1_6_45)
