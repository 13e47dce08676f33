/-! the class on a fresh object: shape -/
theorem d_29_47_0 : decode prog_29_method_47_code 0 = .ok (.iload_n 0, 1) := by decide +kernel
theorem d_29_47_1 : decode prog_29_method_47_code 1 = .ok (.iload_n 1, 1) := by decide +kernel
theorem d_29_47_2 : decode prog_29_method_47_code 2 = .ok (.idiv, 1) := by decide +kernel
theorem d_29_47_3 : decode prog_29_method_47_code 3 = .ok (.istore_n 2, 1) := by decide +kernel
theorem d_29_47_4 : decode prog_29_method_47_code 4 = .ok (.iload_n 0, 1) := by decide +kernel
theorem d_29_47_5 : decode prog_29_method_47_code 5 = .ok (.iload_n 1, 1) := by decide +kernel
theorem d_29_47_6 : decode prog_29_method_47_code 6 = .ok (.ixor, 1) := by decide +kernel
theorem d_29_47_7 : decode prog_29_method_47_code 7 = .ok (.ifCond .ge 14, 3) := by decide +kernel
theorem d_29_47_21 : decode prog_29_method_47_code 21 = .ok (.iload_n 2, 1) := by decide +kernel
theorem d_29_47_22 : decode prog_29_method_47_code 22 = .ok (.ireturn, 1) := by decide +kernel
def y_jMath_floorDiv_III : MethodName := ⟨"java/lang/Math", "floorDiv", "(II)I"⟩
set_option maxRecDepth 100000 in
set_option maxHeartbeats 4000000 in
theorem c_jMath_floorDiv_III (l : Launch) (D : va_G) (g : Nat → ClassId) (ws : va_W) : q_mI l y_jMath_floorDiv_III prog_29_method_47_code 3 (.int) 1 0 0 D g [.int 0, .int 2] ws (fun r u => 0 = r ∧ ws = u) := by
  intro sz
  refine q_intoF (by decide +kernel) (Nat.le_of_ble_eq_true rfl) ?_
  intro p e s m below meth c ls hsz C0 V hl
  have hx := C0.1
  have hb := C0.2.1
  have hl : lv_has ls 3 [(0, .int 0), (1, .int 2)] := hl
  refine lv_iload_n hx hb d_29_47_0 rfl (lv_at hl 0 rfl) ?_
  refine lv_iload_n hx hb d_29_47_1 rfl (lv_at hl 1 rfl) ?_
  refine lv_idiv hx hb d_29_47_2 (by decide) ?_
  refine q_ti (v := 0) (by decide) ?_
  refine lv_istore_n (lv' := [(2, .int 0), (0, .int 0), (1, .int 2)]) hx hb d_29_47_3 rfl hl (by decide) rfl (fun ls hl => ?_)
  refine lv_iload_n hx hb d_29_47_4 rfl (lv_at hl 1 rfl) ?_
  refine lv_iload_n hx hb d_29_47_5 rfl (lv_at hl 2 rfl) ?_
  refine lv_ixor hx hb d_29_47_6 ?_
  refine q_ti (v := 2) (by decide) ?_
  refine lv_if_ge (tgt := 21) hx hb d_29_47_7 (by decide) (fun c1 => ?_) (fun c1 => absurd (by decide) c1)
  refine lv_iload_n hx hb d_29_47_21 rfl (lv_at hl 0 rfl) ?_
  exact q_reti C0 V (⟨rfl, rfl⟩) d_29_47_22
theorem d_4_13_0 : decode prog_4_method_13_code 0 = .ok (.aload_n 1, 1) := by decide +kernel
theorem d_4_13_1 : decode prog_4_method_13_code 1 = .ok (.getfield 48, 3) := by decide +kernel
theorem d_4_13_4 : decode prog_4_method_13_code 4 = .ok (.iconst 2, 1) := by decide +kernel
theorem d_4_13_5 : decode prog_4_method_13_code 5 = .ok (.invokestatic 157, 3) := by decide +kernel
theorem w_1486 : (Cond.code ({ cls := "java/lang/Math", name := "floorDiv", desc := "(II)I" } : MethodName) prog_29_method_47_code (3 : Nat) (some .int)) ∈ q_tbl := q_of 1486 (by decide +kernel) (by decide +kernel)
theorem w_1484 : (Cond.methodLink "NumberHouse$DecimalWork" (157 : Nat) ({ cls := "java/lang/Math", name := "floorDiv", desc := "(II)I" } : MethodName)) ∈ q_tbl := q_of 1484 (by decide +kernel) (by decide +kernel)
theorem w_1485 : (Cond.static ({ cls := "java/lang/Math", name := "floorDiv", desc := "(II)I" } : MethodName)) ∈ q_tbl := q_of 1485 (by decide +kernel) (by decide +kernel)
theorem LS_DW_157 : q_LS "NumberHouse$DecimalWork" 157 y_jMath_floorDiv_III prog_29_method_47_code 3 (some .int) 2 := ⟨w_1486, w_7, w_1484, w_1485, ⟨by decide, by decide, by decide +kernel⟩⟩
theorem d_4_13_8 : decode prog_4_method_13_code 8 = .ok (.istore 4, 2) := by decide +kernel
theorem d_4_13_10 : decode prog_4_method_13_code 10 = .ok (.aload_n 1, 1) := by decide +kernel
theorem d_4_13_11 : decode prog_4_method_13_code 11 = .ok (.getfield 24, 3) := by decide +kernel
theorem d_4_13_14 : decode prog_4_method_13_code 14 = .ok (.getfield 63, 3) := by decide +kernel
theorem d_4_13_17 : decode prog_4_method_13_code 17 = .ok (.ifCond .ne 22, 3) := by decide +kernel
theorem d_4_13_20 : decode prog_4_method_13_code 20 = .ok (.aload_n 0, 1) := by decide +kernel
theorem d_4_13_21 : decode prog_4_method_13_code 21 = .ok (.getfield 20, 3) := by decide +kernel
theorem d_4_13_24 : decode prog_4_method_13_code 24 = .ok (.getfield 55, 3) := by decide +kernel
theorem d_4_13_27 : decode prog_4_method_13_code 27 = .ok (.invokevirtual 135, 3) := by decide +kernel
theorem w_1438 : (Cond.methodLink "NumberHouse$DecimalWork" (135 : Nat) ({ cls := "NumberHouse$Big", name := "clear", desc := "()V" } : MethodName)) ∈ q_tbl := q_of 1438 (by decide +kernel) (by decide +kernel)
theorem LV_DW_135 : q_LV "NumberHouse$DecimalWork" 135 y_Big_clear prog_2_method_2_code 1 none 0 := ⟨w_197, w_4, w_1438, w_195, w_196, ⟨by decide, by decide, by decide +kernel⟩⟩
theorem d_4_13_30 : decode prog_4_method_13_code 30 = .ok (.aload_n 0, 1) := by decide +kernel
theorem d_4_13_31 : decode prog_4_method_13_code 31 = .ok (.iload 4, 2) := by decide +kernel
theorem d_4_13_33 : decode prog_4_method_13_code 33 = .ok (.i2l, 1) := by decide +kernel
theorem d_4_13_34 : decode prog_4_method_13_code 34 = .ok (.putfield 56, 3) := by decide +kernel
theorem d_4_13_37 : decode prog_4_method_13_code 37 = .ok (.iconst 1, 1) := by decide +kernel
theorem d_4_13_38 : decode prog_4_method_13_code 38 = .ok (.ireturn, 1) := by decide +kernel
def y_DW_squareRoot : MethodName := ⟨"NumberHouse$DecimalWork", "squareRoot", "(LNumberHouse$Dec;II)Z"⟩
set_option maxRecDepth 100000 in
set_option maxHeartbeats 4000000 in
theorem c_DW_squareRoot (l : Launch) (D : va_G) (g : Nat → ClassId) (ws : va_W) (kO0 kO1 kO3 kO4 kO6 qO0 qO1 qO2 qO3 qO4 qO6 qO7 qO8 qO9 qO10 qO11 qO12 qO13 qO14 qO15 qA16 qA18 : Nat) (x1 : Int32) (x2 : Int32) (hO0 : ws[kO0]? = (some (qO0, .inr (5, [.ref qO2, .long 0, .ref qO3, .int 0])) : Option (Nat × va_E))) (hO1 : ws[kO1]? = (some (qO1, .inr (3, [.ref qO4, .int 0, .int 1])) : Option (Nat × va_E))) (hO3 : ws[kO3]? = (some (qO3, .inr (4, [.ref qO6, .ref qO7, .ref qO8, .ref qO9, .ref qO10, .ref qO11, .ref qO12, .ref qO13, .ref qO14, .ref qO15])) : Option (Nat × va_E))) (hO4 : ws[kO4]? = (some (qO4, .inr (2, [.ref qA16, .int 0, .int 0])) : Option (Nat × va_E))) (hO6 : ws[kO6]? = (some (qO6, .inr (2, [.ref qA18, .int 0, .int 0])) : Option (Nat × va_E))) (n_O4_O6 : kO4 ≠ kO6) (x1lo : 1 ≤ x1) (x1hi : x1 ≤ 1000) (x2lo : 0 ≤ x2) (x2hi : x2 ≤ 7) : q_mI l y_DW_squareRoot prog_4_method_13_code 6 (.boolean) 2 0 0 D g [.ref qO0, .ref qO1, .int x1, .int x2] ws (fun r u => 1 = r ∧ q_un ws u [kO0, kO6] ∧ u[kO0]? = (some (qO0, .inr (5, [.ref qO2, .long 0, .ref qO3, .int 0])) : Option (Nat × va_E)) ∧ u[kO6]? = (some (qO6, .inr (2, [.ref qA18, .int 0, .int 0])) : Option (Nat × va_E))) := by
  intro sz
  refine q_into (by decide) (Nat.le_of_ble_eq_true rfl) ?_
  intro p e s m below meth c ls hsz C0 V hl
  have hx := C0.1
  have hb := C0.2.1
  have hl : lv_has ls 6 [(0, .ref qO0), (1, .ref qO1), (2, .int x1), (3, .int x2)] := hl
  have n_O0_O6 := q_dc hO0 hO6 (q_pd 5 2 rfl)
  have n_O1_O0 := q_dc hO1 hO0 (q_pd 3 5 rfl)
  have n_O1_O6 := q_dc hO1 hO6 (q_pd 3 2 rfl)
  have n_O3_O0 := q_dc hO3 hO0 (q_pd 4 5 rfl)
  have n_O3_O6 := q_dc hO3 hO6 (q_pd 4 2 rfl)
  have n_O4_O0 := q_dc hO4 hO0 (q_pd 2 5 rfl)
  have n_O6_O0 := q_dc hO6 hO0 (q_pd 2 5 rfl)
  have hF : q_un ws ws [kO0, kO6] := q_u0
  refine lv_aload_n hx hb d_4_13_0 rfl (lv_at hl 1 rfl) ?_
  refine q_get (ci := 3) (j := 1) (v := .int 0) C0 V i_Dec rfl rfl hO1 (by decide) w_176 rfl d_4_13_1 ?_
  refine lv_iconst (v := 2) hx hb d_4_13_4 (by decide) ?_
  refine q_goi V (q_runS (As := [.int 0, .int 2]) (rest := []) (d := 1) (mc := 0) (ms := 0) C0 V rfl LS_DW_157 (c_jMath_floorDiv_III l D g ws _) rfl hl.1 rfl (Nat.le_of_ble_eq_true rfl) ⟨by decide, by decide⟩ ⟨Nat.le_of_ble_eq_true rfl, Nat.le_of_ble_eq_true rfl⟩ d_4_13_5) (fun v3 u2 H locs hp1 V => ?_)
  obtain ⟨rfl, rfl⟩ := hp1
  refine lv_istore (lv' := [(4, .int 0), (0, .ref qO0), (1, .ref qO1), (2, .int x1), (3, .int x2)]) hx hb d_4_13_8 hl (by decide) rfl (fun ls hl => ?_)
  refine lv_aload_n hx hb d_4_13_10 rfl (lv_at hl 2 rfl) ?_
  refine q_get (ci := 3) (j := 0) (v := .ref qO4) C0 V i_Dec rfl rfl hO1 (by decide) w_171 rfl d_4_13_11 ?_
  refine q_get (ci := 2) (j := 1) (v := .int 0) C0 V i_Big rfl rfl hO4 (by decide) w_90 rfl d_4_13_14 ?_
  refine lv_if_ne (tgt := 39) hx hb d_4_13_17 (by decide) (fun c5 => absurd (by decide) c5) (fun c5 => ?_)
  refine lv_aload_n hx hb d_4_13_20 rfl (lv_at hl 1 rfl) ?_
  refine q_get (ci := 5) (j := 2) (v := .ref qO3) C0 V i_DW rfl rfl hO0 (by decide) w_214 rfl d_4_13_21 ?_
  refine q_get (ci := 4) (j := 0) (v := .ref qO6) C0 V i_Mil rfl rfl hO3 (by decide) w_111 rfl d_4_13_24 ?_
  refine q_gov V (q_runV (As := []) (rest := []) (d := 1) (mc := 0) (ms := 0) (ci := 2) C0 V rfl LV_DW_135 (c_Big_clear l D g ws kO6 qO6 qA18 0 0 hO6 _) rfl rfl hO6 rfl hl.1 rfl (Nat.le_of_ble_eq_true rfl) ⟨by decide, by decide⟩ ⟨Nat.le_of_ble_eq_true rfl, Nat.le_of_ble_eq_true rfl⟩ d_4_13_27) (fun u7 H locs hp6 V => ?_)
  obtain ⟨hg8, hO6⟩ := hp6
  replace hF := q_uc hF hg8 (q_sc (.tail _ (.head _)) (fun _ h => absurd h List.not_mem_nil))
  refine lv_aload_n hx hb d_4_13_30 rfl (lv_at hl 1 rfl) ?_
  refine lv_iload hx hb d_4_13_31 (lv_at hl 0 rfl) ?_
  refine lv_i2l hx hb d_4_13_33 rfl ?_
  refine q_tl (v := 0) (by decide) ?_
  replace hO0 := (hg8 _ (q_nc n_O0_O6 List.not_mem_nil)).trans (hO0)
  refine q_put (ci := 5) (j := 1) (v := .long 0) (ty := .long) C0 V i_DW o_DW n_DW rfl rfl hO0 (by decide) w_212 rfl rfl rfl rfl (Nat.le_of_ble_eq_true rfl) d_4_13_34 (fun H locs w9 hu10 hO0 V => ?_)
  replace hO0 : w9[kO0]? = (some (qO0, .inr (5, [.ref qO2, .long 0, .ref qO3, .int 0])) : Option (Nat × va_E)) := hO0
  replace hF := q_us hF hu10 (.head _)
  refine lv_iconst (v := 1) hx hb d_4_13_37 (by decide) ?_
  replace hO6 := (hu10 _ n_O6_O0).trans (hO6)
  exact q_retz C0 V (rfl) (⟨rfl, hF, hO0, hO6⟩) d_4_13_38
theorem d_4_12_0 : decode prog_4_method_12_code 0 = .ok (.aload_n 1, 1) := by decide +kernel
theorem d_4_12_1 : decode prog_4_method_12_code 1 = .ok (.getfield 48, 3) := by decide +kernel
theorem d_4_12_4 : decode prog_4_method_12_code 4 = .ok (.i2l, 1) := by decide +kernel
theorem d_4_12_5 : decode prog_4_method_12_code 5 = .ok (.aload_n 2, 1) := by decide +kernel
theorem d_4_12_6 : decode prog_4_method_12_code 6 = .ok (.getfield 48, 3) := by decide +kernel
theorem d_4_12_9 : decode prog_4_method_12_code 9 = .ok (.i2l, 1) := by decide +kernel
theorem d_4_12_10 : decode prog_4_method_12_code 10 = .ok (.lsub, 1) := by decide +kernel
theorem d_4_12_11 : decode prog_4_method_12_code 11 = .ok (.lstore 5, 2) := by decide +kernel
theorem d_4_12_13 : decode prog_4_method_12_code 13 = .ok (.aload_n 1, 1) := by decide +kernel
theorem d_4_12_14 : decode prog_4_method_12_code 14 = .ok (.getfield 24, 3) := by decide +kernel
theorem d_4_12_17 : decode prog_4_method_12_code 17 = .ok (.getfield 63, 3) := by decide +kernel
theorem d_4_12_20 : decode prog_4_method_12_code 20 = .ok (.ifCond .ne 21, 3) := by decide +kernel
theorem d_4_12_23 : decode prog_4_method_12_code 23 = .ok (.aload_n 0, 1) := by decide +kernel
theorem d_4_12_24 : decode prog_4_method_12_code 24 = .ok (.getfield 20, 3) := by decide +kernel
theorem d_4_12_27 : decode prog_4_method_12_code 27 = .ok (.getfield 55, 3) := by decide +kernel
theorem d_4_12_30 : decode prog_4_method_12_code 30 = .ok (.invokevirtual 135, 3) := by decide +kernel
theorem d_4_12_33 : decode prog_4_method_12_code 33 = .ok (.aload_n 0, 1) := by decide +kernel
theorem d_4_12_34 : decode prog_4_method_12_code 34 = .ok (.lload 5, 2) := by decide +kernel
theorem d_4_12_36 : decode prog_4_method_12_code 36 = .ok (.putfield 56, 3) := by decide +kernel
theorem d_4_12_39 : decode prog_4_method_12_code 39 = .ok (.iconst 1, 1) := by decide +kernel
theorem d_4_12_40 : decode prog_4_method_12_code 40 = .ok (.ireturn, 1) := by decide +kernel
def y_DW_divideToPrecision : MethodName := ⟨"NumberHouse$DecimalWork", "divideToPrecision", "(LNumberHouse$Dec;LNumberHouse$Dec;II)Z"⟩
set_option maxRecDepth 100000 in
set_option maxHeartbeats 4000000 in
theorem c_DW_divideToPrecision (l : Launch) (D : va_G) (g : Nat → ClassId) (ws : va_W) (kO0 kO1 kO2 kO3 kO4 kO6 qO0 qO1 qO2 qO3 qO4 qO5 qO6 qO7 qO8 qO9 qO10 qO11 qO12 qO13 qO14 qO15 qA16 qA18 : Nat) (x1 : Int32) (x2 : Int32) (hO0 : ws[kO0]? = (some (qO0, .inr (5, [.ref qO2, .long 0, .ref qO3, .int 0])) : Option (Nat × va_E))) (hO1 : ws[kO1]? = (some (qO1, .inr (3, [.ref qO4, .int 0, .int 1])) : Option (Nat × va_E))) (hO2 : ws[kO2]? = (some (qO2, .inr (3, [.ref qO5, .int 0, .int 1])) : Option (Nat × va_E))) (hO3 : ws[kO3]? = (some (qO3, .inr (4, [.ref qO6, .ref qO7, .ref qO8, .ref qO9, .ref qO10, .ref qO11, .ref qO12, .ref qO13, .ref qO14, .ref qO15])) : Option (Nat × va_E))) (hO4 : ws[kO4]? = (some (qO4, .inr (2, [.ref qA16, .int 0, .int 0])) : Option (Nat × va_E))) (hO6 : ws[kO6]? = (some (qO6, .inr (2, [.ref qA18, .int 0, .int 0])) : Option (Nat × va_E))) (n_O4_O6 : kO4 ≠ kO6) (x1lo : 1 ≤ x1) (x1hi : x1 ≤ 1000) (x2lo : 0 ≤ x2) (x2hi : x2 ≤ 7) : q_mI l y_DW_divideToPrecision prog_4_method_12_code 10 (.boolean) 2 0 0 D g [.ref qO0, .ref qO1, .ref qO2, .int x1, .int x2] ws (fun r u => 1 = r ∧ q_un ws u [kO0, kO6] ∧ u[kO0]? = (some (qO0, .inr (5, [.ref qO2, .long 0, .ref qO3, .int 0])) : Option (Nat × va_E)) ∧ u[kO6]? = (some (qO6, .inr (2, [.ref qA18, .int 0, .int 0])) : Option (Nat × va_E))) := by
  intro sz
  refine q_into (by decide) (Nat.le_of_ble_eq_true rfl) ?_
  intro p e s m below meth c ls hsz C0 V hl
  have hx := C0.1
  have hb := C0.2.1
  have hl : lv_has ls 10 [(0, .ref qO0), (1, .ref qO1), (2, .ref qO2), (3, .int x1), (4, .int x2)] := hl
  have n_O0_O6 := q_dc hO0 hO6 (q_pd 5 2 rfl)
  have n_O1_O0 := q_dc hO1 hO0 (q_pd 3 5 rfl)
  have n_O1_O6 := q_dc hO1 hO6 (q_pd 3 2 rfl)
  have n_O2_O0 := q_dc hO2 hO0 (q_pd 3 5 rfl)
  have n_O2_O6 := q_dc hO2 hO6 (q_pd 3 2 rfl)
  have n_O3_O0 := q_dc hO3 hO0 (q_pd 4 5 rfl)
  have n_O3_O6 := q_dc hO3 hO6 (q_pd 4 2 rfl)
  have n_O4_O0 := q_dc hO4 hO0 (q_pd 2 5 rfl)
  have n_O6_O0 := q_dc hO6 hO0 (q_pd 2 5 rfl)
  have hF : q_un ws ws [kO0, kO6] := q_u0
  refine lv_aload_n hx hb d_4_12_0 rfl (lv_at hl 1 rfl) ?_
  refine q_get (ci := 3) (j := 1) (v := .int 0) C0 V i_Dec rfl rfl hO1 (by decide) w_176 rfl d_4_12_1 ?_
  refine lv_i2l hx hb d_4_12_4 rfl ?_
  refine q_tl (v := 0) (by decide) ?_
  refine lv_aload_n hx hb d_4_12_5 rfl (lv_at hl 2 rfl) ?_
  refine q_get (ci := 3) (j := 1) (v := .int 0) C0 V i_Dec rfl rfl hO2 (by decide) w_176 rfl d_4_12_6 ?_
  refine lv_i2l hx hb d_4_12_9 rfl ?_
  refine q_tl (v := 0) (by decide) ?_
  refine lv_lsub hx hb d_4_12_10 ?_
  refine q_tl (v := 0) (by decide) ?_
  refine lv_lstore (lv' := [(5, .long 0), (0, .ref qO0), (1, .ref qO1), (2, .ref qO2), (3, .int x1), (4, .int x2)]) hx hb d_4_12_11 hl (by decide) rfl (fun ls hl => ?_)
  refine lv_aload_n hx hb d_4_12_13 rfl (lv_at hl 2 rfl) ?_
  refine q_get (ci := 3) (j := 0) (v := .ref qO4) C0 V i_Dec rfl rfl hO1 (by decide) w_171 rfl d_4_12_14 ?_
  refine q_get (ci := 2) (j := 1) (v := .int 0) C0 V i_Big rfl rfl hO4 (by decide) w_90 rfl d_4_12_17 ?_
  refine lv_if_ne (tgt := 41) hx hb d_4_12_20 (by decide) (fun c1 => absurd (by decide) c1) (fun c1 => ?_)
  refine lv_aload_n hx hb d_4_12_23 rfl (lv_at hl 1 rfl) ?_
  refine q_get (ci := 5) (j := 2) (v := .ref qO3) C0 V i_DW rfl rfl hO0 (by decide) w_214 rfl d_4_12_24 ?_
  refine q_get (ci := 4) (j := 0) (v := .ref qO6) C0 V i_Mil rfl rfl hO3 (by decide) w_111 rfl d_4_12_27 ?_
  refine q_gov V (q_runV (As := []) (rest := []) (d := 1) (mc := 0) (ms := 0) (ci := 2) C0 V rfl LV_DW_135 (c_Big_clear l D g ws kO6 qO6 qA18 0 0 hO6 _) rfl rfl hO6 rfl hl.1 rfl (Nat.le_of_ble_eq_true rfl) ⟨by decide, by decide⟩ ⟨Nat.le_of_ble_eq_true rfl, Nat.le_of_ble_eq_true rfl⟩ d_4_12_30) (fun u3 H locs hp2 V => ?_)
  obtain ⟨hg4, hO6⟩ := hp2
  replace hF := q_uc hF hg4 (q_sc (.tail _ (.head _)) (fun _ h => absurd h List.not_mem_nil))
  refine lv_aload_n hx hb d_4_12_33 rfl (lv_at hl 1 rfl) ?_
  refine lv_lload hx hb d_4_12_34 (lv_at hl 0 rfl) ?_
  replace hO0 := (hg4 _ (q_nc n_O0_O6 List.not_mem_nil)).trans (hO0)
  refine q_put (ci := 5) (j := 1) (v := .long 0) (ty := .long) C0 V i_DW o_DW n_DW rfl rfl hO0 (by decide) w_212 rfl rfl rfl rfl (Nat.le_of_ble_eq_true rfl) d_4_12_36 (fun H locs w5 hu6 hO0 V => ?_)
  replace hO0 : w5[kO0]? = (some (qO0, .inr (5, [.ref qO2, .long 0, .ref qO3, .int 0])) : Option (Nat × va_E)) := hO0
  replace hF := q_us hF hu6 (.head _)
  refine lv_iconst (v := 1) hx hb d_4_12_39 (by decide) ?_
  replace hO6 := (hu6 _ n_O6_O0).trans (hO6)
  exact q_retz C0 V (rfl) (⟨rfl, hF, hO0, hO6⟩) d_4_12_40
theorem d_4_11_0 : decode prog_4_method_11_code 0 = .ok (.aload_n 0, 1) := by decide +kernel
theorem d_4_11_1 : decode prog_4_method_11_code 1 = .ok (.iload_n 3, 1) := by decide +kernel
theorem d_4_11_2 : decode prog_4_method_11_code 2 = .ok (.i2l, 1) := by decide +kernel
theorem d_4_11_3 : decode prog_4_method_11_code 3 = .ok (.putfield 56, 3) := by decide +kernel
theorem d_4_11_6 : decode prog_4_method_11_code 6 = .ok (.iload_n 3, 1) := by decide +kernel
theorem d_4_11_7 : decode prog_4_method_11_code 7 = .ok (.aload_n 2, 1) := by decide +kernel
theorem d_4_11_8 : decode prog_4_method_11_code 8 = .ok (.getfield 48, 3) := by decide +kernel
theorem d_4_11_11 : decode prog_4_method_11_code 11 = .ok (.iadd, 1) := by decide +kernel
theorem d_4_11_12 : decode prog_4_method_11_code 12 = .ok (.aload_n 1, 1) := by decide +kernel
theorem d_4_11_13 : decode prog_4_method_11_code 13 = .ok (.getfield 48, 3) := by decide +kernel
theorem d_4_11_16 : decode prog_4_method_11_code 16 = .ok (.isub, 1) := by decide +kernel
theorem d_4_11_17 : decode prog_4_method_11_code 17 = .ok (.istore 5, 2) := by decide +kernel
theorem d_4_11_19 : decode prog_4_method_11_code 19 = .ok (.aload_n 1, 1) := by decide +kernel
theorem d_4_11_20 : decode prog_4_method_11_code 20 = .ok (.getfield 24, 3) := by decide +kernel
theorem d_4_11_23 : decode prog_4_method_11_code 23 = .ok (.getfield 63, 3) := by decide +kernel
theorem d_4_11_26 : decode prog_4_method_11_code 26 = .ok (.ifCond .ne 15, 3) := by decide +kernel
theorem d_4_11_29 : decode prog_4_method_11_code 29 = .ok (.aload_n 0, 1) := by decide +kernel
theorem d_4_11_30 : decode prog_4_method_11_code 30 = .ok (.getfield 20, 3) := by decide +kernel
theorem d_4_11_33 : decode prog_4_method_11_code 33 = .ok (.getfield 55, 3) := by decide +kernel
theorem d_4_11_36 : decode prog_4_method_11_code 36 = .ok (.invokevirtual 135, 3) := by decide +kernel
theorem d_4_11_39 : decode prog_4_method_11_code 39 = .ok (.iconst 1, 1) := by decide +kernel
theorem d_4_11_40 : decode prog_4_method_11_code 40 = .ok (.ireturn, 1) := by decide +kernel
def y_DW_divideToScale : MethodName := ⟨"NumberHouse$DecimalWork", "divideToScale", "(LNumberHouse$Dec;LNumberHouse$Dec;II)Z"⟩
set_option maxRecDepth 100000 in
set_option maxHeartbeats 4000000 in
theorem c_DW_divideToScale (l : Launch) (D : va_G) (g : Nat → ClassId) (ws : va_W) (kO0 kO1 kO2 kO3 kO4 kO6 qO0 qO1 qO2 qO3 qO4 qO5 qO6 qO7 qO8 qO9 qO10 qO11 qO12 qO13 qO14 qO15 qA16 qA18 : Nat) (x1 : Int32) (x2 : Int32) (hO0 : ws[kO0]? = (some (qO0, .inr (5, [.ref qO2, .long 0, .ref qO3, .int 0])) : Option (Nat × va_E))) (hO1 : ws[kO1]? = (some (qO1, .inr (3, [.ref qO4, .int 0, .int 1])) : Option (Nat × va_E))) (hO2 : ws[kO2]? = (some (qO2, .inr (3, [.ref qO5, .int 0, .int 1])) : Option (Nat × va_E))) (hO3 : ws[kO3]? = (some (qO3, .inr (4, [.ref qO6, .ref qO7, .ref qO8, .ref qO9, .ref qO10, .ref qO11, .ref qO12, .ref qO13, .ref qO14, .ref qO15])) : Option (Nat × va_E))) (hO4 : ws[kO4]? = (some (qO4, .inr (2, [.ref qA16, .int 0, .int 0])) : Option (Nat × va_E))) (hO6 : ws[kO6]? = (some (qO6, .inr (2, [.ref qA18, .int 0, .int 0])) : Option (Nat × va_E))) (n_O4_O6 : kO4 ≠ kO6) (x1lo : (-10000) ≤ x1) (x1hi : x1 ≤ 10000) (x2lo : 0 ≤ x2) (x2hi : x2 ≤ 7) : q_mI l y_DW_divideToScale prog_4_method_11_code 6 (.boolean) 2 0 0 D g [.ref qO0, .ref qO1, .ref qO2, .int x1, .int x2] ws (fun r u => 1 = r ∧ q_un ws u [kO0, kO6] ∧ u[kO0]? = (some (qO0, .inr (5, [.ref qO2, .long x1.toInt64, .ref qO3, .int 0])) : Option (Nat × va_E)) ∧ u[kO6]? = (some (qO6, .inr (2, [.ref qA18, .int 0, .int 0])) : Option (Nat × va_E))) := by
  intro sz
  refine q_into (by decide) (Nat.le_of_ble_eq_true rfl) ?_
  intro p e s m below meth c ls hsz C0 V hl
  have hx := C0.1
  have hb := C0.2.1
  have hl : lv_has ls 6 [(0, .ref qO0), (1, .ref qO1), (2, .ref qO2), (3, .int x1), (4, .int x2)] := hl
  have n_O0_O6 := q_dc hO0 hO6 (q_pd 5 2 rfl)
  have n_O1_O0 := q_dc hO1 hO0 (q_pd 3 5 rfl)
  have n_O1_O6 := q_dc hO1 hO6 (q_pd 3 2 rfl)
  have n_O2_O0 := q_dc hO2 hO0 (q_pd 3 5 rfl)
  have n_O2_O6 := q_dc hO2 hO6 (q_pd 3 2 rfl)
  have n_O3_O0 := q_dc hO3 hO0 (q_pd 4 5 rfl)
  have n_O3_O6 := q_dc hO3 hO6 (q_pd 4 2 rfl)
  have n_O4_O0 := q_dc hO4 hO0 (q_pd 2 5 rfl)
  have n_O6_O0 := q_dc hO6 hO0 (q_pd 2 5 rfl)
  have hF : q_un ws ws [kO0, kO6] := q_u0
  refine lv_aload_n hx hb d_4_11_0 rfl (lv_at hl 0 rfl) ?_
  refine lv_iload_n hx hb d_4_11_1 rfl (lv_at hl 3 rfl) ?_
  refine lv_i2l hx hb d_4_11_2 rfl ?_
  refine q_put (ci := 5) (j := 1) (v := .long x1.toInt64) (ty := .long) C0 V i_DW o_DW n_DW rfl rfl hO0 (by decide) w_212 rfl rfl rfl rfl (Nat.le_of_ble_eq_true rfl) d_4_11_3 (fun H locs w1 hu2 hO0 V => ?_)
  replace hO0 : w1[kO0]? = (some (qO0, .inr (5, [.ref qO2, .long x1.toInt64, .ref qO3, .int 0])) : Option (Nat × va_E)) := hO0
  replace hF := q_us hF hu2 (.head _)
  refine lv_iload_n hx hb d_4_11_6 rfl (lv_at hl 3 rfl) ?_
  refine lv_aload_n hx hb d_4_11_7 rfl (lv_at hl 2 rfl) ?_
  replace hO2 := (hu2 _ n_O2_O0).trans (hO2)
  refine q_get (ci := 3) (j := 1) (v := .int 0) C0 V i_Dec rfl rfl hO2 (by decide) w_176 rfl d_4_11_8 ?_
  refine lv_iadd hx hb d_4_11_11 ?_
  refine q_ti (v := x1) (by simp) ?_
  refine lv_aload_n hx hb d_4_11_12 rfl (lv_at hl 1 rfl) ?_
  replace hO1 := (hu2 _ n_O1_O0).trans (hO1)
  refine q_get (ci := 3) (j := 1) (v := .int 0) C0 V i_Dec rfl rfl hO1 (by decide) w_176 rfl d_4_11_13 ?_
  refine lv_isub hx hb d_4_11_16 ?_
  refine q_ti (v := x1) (by simp) ?_
  refine lv_istore (lv' := [(5, .int x1), (0, .ref qO0), (1, .ref qO1), (2, .ref qO2), (3, .int x1), (4, .int x2)]) hx hb d_4_11_17 hl (by decide) rfl (fun ls hl => ?_)
  refine lv_aload_n hx hb d_4_11_19 rfl (lv_at hl 2 rfl) ?_
  refine q_get (ci := 3) (j := 0) (v := .ref qO4) C0 V i_Dec rfl rfl hO1 (by decide) w_171 rfl d_4_11_20 ?_
  replace hO4 := (hu2 _ n_O4_O0).trans (hO4)
  refine q_get (ci := 2) (j := 1) (v := .int 0) C0 V i_Big rfl rfl hO4 (by decide) w_90 rfl d_4_11_23 ?_
  refine lv_if_ne (tgt := 41) hx hb d_4_11_26 (by decide) (fun c3 => absurd (by decide) c3) (fun c3 => ?_)
  refine lv_aload_n hx hb d_4_11_29 rfl (lv_at hl 1 rfl) ?_
  refine q_get (ci := 5) (j := 2) (v := .ref qO3) C0 V i_DW rfl rfl hO0 (by decide) w_214 rfl d_4_11_30 ?_
  replace hO3 := (hu2 _ n_O3_O0).trans (hO3)
  refine q_get (ci := 4) (j := 0) (v := .ref qO6) C0 V i_Mil rfl rfl hO3 (by decide) w_111 rfl d_4_11_33 ?_
  replace hO6 := (hu2 _ n_O6_O0).trans (hO6)
  refine q_gov V (q_runV (As := []) (rest := []) (d := 1) (mc := 0) (ms := 0) (ci := 2) C0 V rfl LV_DW_135 (c_Big_clear l D g w1 kO6 qO6 qA18 0 0 hO6 _) rfl rfl hO6 rfl hl.1 rfl (Nat.le_of_ble_eq_true rfl) ⟨by decide, by decide⟩ ⟨Nat.le_of_ble_eq_true rfl, Nat.le_of_ble_eq_true rfl⟩ d_4_11_36) (fun u5 H locs hp4 V => ?_)
  obtain ⟨hg6, hO6⟩ := hp4
  replace hF := q_uc hF hg6 (q_sc (.tail _ (.head _)) (fun _ h => absurd h List.not_mem_nil))
  refine lv_iconst (v := 1) hx hb d_4_11_39 (by decide) ?_
  replace hO0 := (hg6 _ (q_nc n_O0_O6 List.not_mem_nil)).trans (hO0)
  exact q_retz C0 V (rfl) (⟨rfl, hF, hO0, hO6⟩) d_4_11_40
theorem d_4_2_34 : decode prog_4_method_2_code 34 = .ok (.iconst 0, 1) := by decide +kernel
theorem d_4_2_35 : decode prog_4_method_2_code 35 = .ok (.ireturn, 1) := by decide +kernel
set_option maxRecDepth 100000 in
set_option maxHeartbeats 4000000 in
theorem c_DW_settle_2 (l : Launch) (D : va_G) (g : Nat → ClassId) (ws : va_W) (kO0 kO1 kO2 kO4 kA5 kO6 kA17 qO0 qO1 qO2 qO3 qO4 qA5 qO6 qO8 qO9 qO10 qO11 qO12 qO13 qO14 qO15 qO16 qA17 : Nat) (x1 : Int64) (y2 : Int64) (hO0 : ws[kO0]? = (some (qO0, .inr (5, [.ref qO3, .long y2, .ref qO4, .int 0])) : Option (Nat × va_E))) (hO1 : ws[kO1]? = (some (qO1, .inr (2, [.ref qA5, .int 0, .int 0])) : Option (Nat × va_E))) (hO2 : ws[kO2]? = (some (qO2, .inr (3, [.ref qO6, .int 0, .int 1])) : Option (Nat × va_E))) (hO4 : ws[kO4]? = (some (qO4, .inr (4, [.ref qO1, .ref qO8, .ref qO9, .ref qO10, .ref qO11, .ref qO12, .ref qO13, .ref qO14, .ref qO15, .ref qO16])) : Option (Nat × va_E))) (hA5 : ws[kA5]? = (some (qA5, .inl (g 0, 220, .inl (fun _ => 0))) : Option (Nat × va_E))) (hO6 : ws[kO6]? = (some (qO6, .inr (2, [.ref qA17, .int 0, .int 0])) : Option (Nat × va_E))) (hA17 : ws[kA17]? = (some (qA17, .inl (g 0, 108, .inl (fun _ => 0))) : Option (Nat × va_E))) (n_A5_A17 : kA5 ≠ kA17) (n_O1_O6 : kO1 ≠ kO6) : q_mI l y_DW_settle prog_4_method_2_code 6 (.boolean) 3 0 0 D g [.ref qO0, .ref qO1, .long x1, .ref qO2] ws (fun r u => ((lg_cmp x1 (-10000)) < 0 ∧ 0 = r ∧ q_un ws u [kO2, kO6, kA17] ∧ u[kO2]? = (some (qO2, .inr (3, [.ref qO6, .int 0, .int 1])) : Option (Nat × va_E)) ∧ u[kO6]? = (some (qO6, .inr (2, [.ref qA17, .int 0, .int 0])) : Option (Nat × va_E)) ∧ u[kA17]? = (some (qA17, .inl (g 0, 108, .inl (fun _ => 0))) : Option (Nat × va_E))) ∨ (¬ (lg_cmp x1 (-10000)) < 0 ∧ (lg_cmp x1 10000) ≤ 0 ∧ 1 = r ∧ q_un ws u [kO2, kO6, kA17] ∧ u[kO2]? = (some (qO2, .inr (3, [.ref qO6, .int x1.toInt32, .int 1])) : Option (Nat × va_E)) ∧ u[kO6]? = (some (qO6, .inr (2, [.ref qA17, .int 0, .int 0])) : Option (Nat × va_E)) ∧ u[kA17]? = (some (qA17, .inl (g 0, 108, .inl (fun _ => 0))) : Option (Nat × va_E))) ∨ (¬ (lg_cmp x1 (-10000)) < 0 ∧ ¬ (lg_cmp x1 10000) ≤ 0 ∧ 0 = r ∧ q_un ws u [kO2, kO6, kA17] ∧ u[kO2]? = (some (qO2, .inr (3, [.ref qO6, .int 0, .int 1])) : Option (Nat × va_E)) ∧ u[kO6]? = (some (qO6, .inr (2, [.ref qA17, .int 0, .int 0])) : Option (Nat × va_E)) ∧ u[kA17]? = (some (qA17, .inl (g 0, 108, .inl (fun _ => 0))) : Option (Nat × va_E)))) := by
  intro sz
  refine q_into (by decide) (Nat.le_of_ble_eq_true rfl) ?_
  intro p e s m below meth c ls hsz C0 V hl
  have hx := C0.1
  have hb := C0.2.1
  have hl : lv_has ls 6 [(0, .ref qO0), (1, .ref qO1), (2, .long x1), (4, .ref qO2)] := hl
  have n_A17_O2 := q_df hA17 hO2
  have n_A5_O2 := q_df hA5 hO2
  have n_A5_O6 := q_df hA5 hO6
  have n_O0_A17 := Ne.symm (q_df hA17 hO0)
  have n_O0_O2 := q_dc hO0 hO2 (q_pd 5 3 rfl)
  have n_O0_O6 := q_dc hO0 hO6 (q_pd 5 2 rfl)
  have n_O1_A17 := Ne.symm (q_df hA17 hO1)
  have n_O1_O2 := q_dc hO1 hO2 (q_pd 2 3 rfl)
  have n_O2_A17 := Ne.symm (q_df hA17 hO2)
  have n_O2_O6 := q_dc hO2 hO6 (q_pd 3 2 rfl)
  have n_O4_A17 := Ne.symm (q_df hA17 hO4)
  have n_O4_O2 := q_dc hO4 hO2 (q_pd 4 3 rfl)
  have n_O4_O6 := q_dc hO4 hO6 (q_pd 4 2 rfl)
  have n_O6_O2 := q_dc hO6 hO2 (q_pd 2 3 rfl)
  have hF : q_un ws ws [kO2, kO6, kA17] := q_u0
  refine lv_aload_n hx hb d_4_2_0 rfl (lv_at hl 0 rfl) ?_
  refine q_get (ci := 5) (j := 2) (v := .ref qO4) C0 V i_DW rfl rfl hO0 (by decide) w_214 rfl d_4_2_1 ?_
  refine lv_aload_n hx hb d_4_2_4 rfl (lv_at hl 1 rfl) ?_
  refine q_goi V (q_runV (As := [.ref qO1]) (rest := []) (d := 1) (mc := 0) (ms := 0) (ci := 4) C0 V rfl LV_DW_34 (c_Mil_countFigures l D g ws kO1 qO4 qO1 qA5 hO1 _) rfl rfl hO4 rfl hl.1 rfl (Nat.le_of_ble_eq_true rfl) ⟨by decide, by decide⟩ ⟨Nat.le_of_ble_eq_true rfl, Nat.le_of_ble_eq_true rfl⟩ d_4_2_5) (fun v3 u2 H locs hp1 V => ?_)
  obtain ⟨rfl, rfl⟩ := hp1
  refine lv_istore (lv' := [(5, .int 1), (0, .ref qO0), (1, .ref qO1), (2, .long x1), (4, .ref qO2)]) hx hb d_4_2_8 hl (by decide) rfl (fun ls hl => ?_)
  refine lv_iload hx hb d_4_2_10 (lv_at hl 0 rfl) ?_
  refine lv_sipush (v := 1000) hx hb d_4_2_12 (by decide) ?_
  refine lv_icmp_gt (tgt := 34) hx hb d_4_2_15 (by decide) (fun c5 => absurd c5 (by decide)) (fun c5 => ?_)
  refine lv_lload_n hx hb d_4_2_18 rfl (lv_at hl 3 rfl) ?_
  refine q_ldc2 C0 rfl w_1089 d_4_2_19 ?_
  refine W.lcmp hx hb d_4_2_22 ?_
  refine lv_if_lt (tgt := 34) hx hb d_4_2_23 (by decide) (fun c6 => ?_) (fun c6 => ?_)
  ·
    refine lv_iconst (v := 0) hx hb d_4_2_34 (by decide) ?_
    exact q_retz C0 V (rfl) (Or.inl ⟨c6, rfl, hF, hO2, hO6, hA17⟩) d_4_2_35
  ·
    refine lv_lload_n hx hb d_4_2_26 rfl (lv_at hl 3 rfl) ?_
    refine q_ldc2 C0 rfl w_1090 d_4_2_27 ?_
    refine W.lcmp hx hb d_4_2_30 ?_
    refine lv_if_le (tgt := 36) hx hb d_4_2_31 (by decide) (fun c7 => ?_) (fun c7 => ?_)
    ·
      refine lv_aload hx hb d_4_2_36 (lv_at hl 4 rfl) ?_
      refine q_get (ci := 3) (j := 0) (v := .ref qO6) C0 V i_Dec rfl rfl hO2 (by decide) w_171 rfl d_4_2_38 ?_
      refine lv_aload_n hx hb d_4_2_41 rfl (lv_at hl 2 rfl) ?_
      refine q_gov V (q_runV (As := [.ref qO1]) (rest := []) (d := 2) (mc := 0) (ms := 0) (ci := 2) C0 V rfl LV_DW_44 (c_Big_copy_5 l D g ws kO6 kO1 kA17 kA5 qO6 qO1 qA17 qA5 hO6 hO1 hA17 hA5 n_A5_A17 n_O1_O6 _) rfl rfl hO6 rfl hl.1 rfl (Nat.le_of_ble_eq_true rfl) ⟨by decide, by decide⟩ ⟨Nat.le_of_ble_eq_true rfl, Nat.le_of_ble_eq_true rfl⟩ d_4_2_42) (fun u9 H locs hp8 V => ?_)
      obtain ⟨hg10, hO6, hA17⟩ := hp8
      replace hF := q_uc hF hg10 (q_sc (.tail _ (.head _)) (q_sc (.tail _ (.tail _ (.head _))) (fun _ h => absurd h List.not_mem_nil)))
      refine lv_aload hx hb d_4_2_45 (lv_at hl 4 rfl) ?_
      refine lv_lload_n hx hb d_4_2_47 rfl (lv_at hl 3 rfl) ?_
      refine lv_l2i hx hb d_4_2_48 rfl ?_
      replace hO2 := (hg10 _ (q_nc n_O2_O6 (q_nc n_O2_A17 List.not_mem_nil))).trans (hO2)
      refine q_put (ci := 3) (j := 1) (v := .int x1.toInt32) (ty := .int) C0 V i_Dec o_Dec n_Dec rfl rfl hO2 (by decide) w_176 rfl rfl rfl rfl (Nat.le_of_ble_eq_true rfl) d_4_2_49 (fun H locs w11 hu12 hO2 V => ?_)
      replace hO2 : w11[kO2]? = (some (qO2, .inr (3, [.ref qO6, .int x1.toInt32, .int 1])) : Option (Nat × va_E)) := hO2
      replace hF := q_us hF hu12 (.head _)
      refine lv_aload hx hb d_4_2_52 (lv_at hl 4 rfl) ?_
      refine lv_iload hx hb d_4_2_54 (lv_at hl 0 rfl) ?_
      refine q_put (ci := 3) (j := 2) (v := .int 1) (ty := .int) C0 V i_Dec o_Dec n_Dec rfl rfl hO2 (by decide) w_180 rfl rfl rfl rfl (Nat.le_of_ble_eq_true rfl) d_4_2_56 (fun H locs w13 hu14 hO2 V => ?_)
      replace hO2 : w13[kO2]? = (some (qO2, .inr (3, [.ref qO6, .int x1.toInt32, .int 1])) : Option (Nat × va_E)) := hO2
      replace hF := q_us hF hu14 (.head _)
      refine lv_iconst (v := 1) hx hb d_4_2_59 (by decide) ?_
      replace hO6 := (hu14 _ n_O6_O2).trans ((hu12 _ n_O6_O2).trans (hO6))
      replace hA17 := (hu14 _ n_A17_O2).trans ((hu12 _ n_A17_O2).trans (hA17))
      exact q_retz C0 V (rfl) (Or.inr (Or.inl ⟨c6, c7, rfl, hF, hO2, hO6, hA17⟩)) d_4_2_60
    ·
      refine lv_iconst (v := 0) hx hb d_4_2_34 (by decide) ?_
      exact q_retz C0 V (rfl) (Or.inr (Or.inr (⟨c6, c7, rfl, hF, hO2, hO6, hA17⟩))) d_4_2_35
set_option maxRecDepth 100000 in
set_option maxHeartbeats 4000000 in
theorem c_NH_keepDecimal_2 (l : Launch) (D : va_G) (g : Nat → ClassId) (ws : va_W) (hlt : l.stackTraces = false) ( qO0 qO1 qO2 qA3 qA4 qA5 qA6 qO7 qO8 qO9 qO10 qO11 qO12 qO13 qO14 qO17 qO18 qO19 qO20 qO21 qO22 qO23 qO24 qO25 qO26 qO27 qA35 : Nat) (x1 : Int32) (f3 : Nat → Option Nat) (y4 : Int64) (hO0 : ws[0]? = (some (qO0, .inr (0, [.ref qO1, .ref qO2, .ref qA3, .ref qA4, .ref qA5, .ref qA6, .ref qO7, .ref qO8, .ref qO9, .ref qO10, .ref qO11, .ref qO12, .ref qO13, .ref qO14])) : Option (Nat × va_E))) (hA4 : ws[6]? = (some (qA4, .inl (g 5, 10, .inr (.inr (.inr (.inr f3))))) : Option (Nat × va_E))) (hO7 : ws[9]? = (some (qO7, .inr (4, [.ref qO17, .ref qO18, .ref qO19, .ref qO20, .ref qO21, .ref qO22, .ref qO23, .ref qO24, .ref qO25, .ref qO26])) : Option (Nat × va_E))) (hO8 : ws[30]? = (some (qO8, .inr (5, [.ref qO27, .long y4, .ref qO7, .int 0])) : Option (Nat × va_E))) (hO17 : ws[10]? = (some (qO17, .inr (2, [.ref qA35, .int 0, .int 0])) : Option (Nat × va_E))) (hA35 : ws[11]? = (some (qA35, .inl (g 0, 220, .inl (fun _ => 0))) : Option (Nat × va_E))) (x1lo : 0 ≤ x1) (x1hi : x1 ≤ 9) (qW qWL qD qDN qDL : Nat → Nat) (hfD : ∀ i, i < 10 → f3 i = some (qD i)) (FD : ∀ i, i < 10 → ws[68 + 5 * i]? = (some (qD i, .inr (3, [.ref (qDN i), .int 0, .int 1])) : Option (Nat × va_E))) (FDN : ∀ i, i < 10 → ws[69 + 5 * i]? = (some (qDN i, .inr (2, [.ref (qDL i), .int 0, .int 0])) : Option (Nat × va_E))) (FDL : ∀ i, i < 10 → ws[70 + 5 * i]? = (some (qDL i, .inl (g 0, 108, .inl (fun _ => 0))) : Option (Nat × va_E))) : q_xV l y_NH_keepDecimal prog_1_method_29_code 2 8 1 6 D g [.ref qO0, .int x1] ws (fun u => ¬ (lg_cmp y4 (-10000)) < 0 ∧ (lg_cmp y4 10000) ≤ 0 ∧ q_ge 116 ws u) (fun E u => ((lg_cmp y4 (-10000)) < 0 ∧ "java/lang/ArithmeticException" = E ∧ q_ge 116 ws u) ∨ (¬ (lg_cmp y4 (-10000)) < 0 ∧ ¬ (lg_cmp y4 10000) ≤ 0 ∧ "java/lang/ArithmeticException" = E ∧ q_ge 116 ws u)) := by
  intro sz
  refine q_intoX (by decide) (Nat.le_of_ble_eq_true rfl) ?_
  intro p e s m below meth c ls hsz C0 V hno hl
  have hx := C0.1
  have hb := C0.2.1
  have hl : lv_has ls 2 [(0, .ref qO0), (1, .int x1)] := hl
  have hF : q_ge 116 ws ws := q_g0
  refine lv_aload_n hx hb d_1_29_0 rfl (lv_at hl 0 rfl) ?_
  refine q_get (ci := 0) (j := 7) (v := .ref qO8) C0 V i_NH rfl rfl hO0 (by decide) w_431 rfl d_1_29_1 ?_
  refine lv_aload_n hx hb d_1_29_4 rfl (lv_at hl 0 rfl) ?_
  refine q_get (ci := 0) (j := 6) (v := .ref qO7) C0 V i_NH rfl rfl hO0 (by decide) w_430 rfl d_1_29_5 ?_
  refine q_get (ci := 4) (j := 0) (v := .ref qO17) C0 V i_Mil rfl rfl hO7 (by decide) w_112 rfl d_1_29_8 ?_
  refine lv_aload_n hx hb d_1_29_11 rfl (lv_at hl 0 rfl) ?_
  refine q_get (ci := 0) (j := 7) (v := .ref qO8) C0 V i_NH rfl rfl hO0 (by decide) w_431 rfl d_1_29_12 ?_
  refine q_get (ci := 5) (j := 1) (v := .long y4) C0 V i_DW rfl rfl hO8 (by decide) w_213 rfl d_1_29_15 ?_
  refine lv_aload_n hx hb d_1_29_18 rfl (lv_at hl 0 rfl) ?_
  refine q_get (ci := 0) (j := 3) (v := .ref qA4) C0 V i_NH rfl rfl hO0 (by decide) w_427 rfl d_1_29_19 ?_
  refine lv_iload_n hx hb d_1_29_22 rfl (lv_at hl 1 rfl) ?_
  have r1 : x1.toNatClampNeg < 10 := (q_r10 (x := x1.toInt) rfl (by have t1 : 0 ≤ x1.toInt := q_leI x1lo; have t2 : x1.toInt ≤ 9 := q_leI x1hi; omega) (by have t1 : 0 ≤ x1.toInt := q_leI x1lo; have t2 : x1.toInt ≤ 9 := q_leI x1hi; omega))
  have hr2 : ws[68 + 5 * x1.toNatClampNeg]? = (some (qD x1.toNatClampNeg, .inr (3, [.ref (qDN x1.toNatClampNeg), .int 0, .int 1])) : Option (Nat × va_E)) := FD _ r1
  have hr3 : ws[69 + 5 * x1.toNatClampNeg]? = (some (qDN x1.toNatClampNeg, .inr (2, [.ref (qDL x1.toNatClampNeg), .int 0, .int 0])) : Option (Nat × va_E)) := FDN _ r1
  have hr4 : ws[70 + 5 * x1.toNatClampNeg]? = (some (qDL x1.toNatClampNeg, .inl (g 0, 108, .inl (fun _ => 0))) : Option (Nat × va_E)) := FDL _ r1
  have hh : x1.toNatClampNeg < 10 := (q_r10 (x := x1.toInt) rfl (by have t1 : 0 ≤ x1.toInt := q_leI x1lo; have t2 : x1.toInt ≤ 9 := q_leI x1hi; omega) (by have t1 : 0 ≤ x1.toInt := q_leI x1lo; have t2 : x1.toInt ≤ 9 := q_leI x1hi; omega))
  refine q_aald (t := 5) (q := qD x1.toNatClampNeg) C0 V hA4 rfl (q_ix (x := x1.toInt) rfl (by have t1 : 0 ≤ x1.toInt := q_leI x1lo; have t2 : x1.toInt ≤ 9 := q_leI x1hi; omega) (by have t1 : 0 ≤ x1.toInt := q_leI x1lo; have t2 : x1.toInt ≤ 9 := q_leI x1hi; omega)) (hfD _ hh) d_1_29_23 ?_
  refine q_goi V (q_runV (As := [.ref qO17, .long y4, .ref (qD x1.toNatClampNeg)]) (rest := []) (d := 3) (mc := 0) (ms := 0) (ci := 5) C0 V rfl LV_NH_153 (c_DW_settle_2 l D g ws 30 10 (68 + 5 * x1.toNatClampNeg) 9 11 (69 + 5 * x1.toNatClampNeg) (70 + 5 * x1.toNatClampNeg) qO8 qO17 (qD x1.toNatClampNeg) qO27 qO7 qA35 (qDN x1.toNatClampNeg) qO18 qO19 qO20 qO21 qO22 qO23 qO24 qO25 qO26 (qDL x1.toNatClampNeg) y4 y4 hO8 hO17 hr2 hO7 hA35 hr3 hr4 (Ne.symm (q_f5 rfl)) (Ne.symm (q_f5 rfl)) _) rfl rfl hO8 rfl hl.1 rfl (Nat.le_of_ble_eq_true rfl) ⟨by decide, by decide⟩ ⟨Nat.le_of_ble_eq_true rfl, Nat.le_of_ble_eq_true rfl⟩ d_1_29_24) (fun v7 u6 H locs hp5 V => ?_)
  rcases hp5 with ⟨c8, rfl, hg9, hr2, hr3, hr4⟩ | ⟨c10, c11, rfl, hg12, hr2, hr3, hr4⟩ | ⟨c13, c14, rfl, hg15, hr2, hr3, hr4⟩
  ·
    replace hF := q_gc hF hg9 (q_al (by omega) (q_al (by omega) (q_al (by omega) (fun _ h => absurd h List.not_mem_nil))))
    refine q_goxv V (q_runSX (As := [.int 0]) (rest := []) (d := 7) (mc := 1) (ms := 6) C0 V rfl LS_NH_138 (c_NH_canHave l D g u6 hlt 0 _) rfl hl.1 rfl (Nat.le_of_ble_eq_true rfl) ⟨by decide, by decide⟩ ⟨Nat.le_of_ble_eq_true rfl, Nat.le_of_ble_eq_true rfl⟩ d_1_29_27) (fun qx Ex ce u17 H locs hp16 V hce hcv hcl => ?_) (fun u17 H locs hp16 V => ?_)
    ·
      obtain ⟨c18, rfl, rfl⟩ := hp16
      exact q_outT hno C0 V (Or.inl ⟨c8, rfl, hF⟩) hce hcv hcl (Nat.le_of_ble_eq_true rfl) (Nat.le_of_ble_eq_true rfl)
    ·
      obtain ⟨c20, rfl⟩ := hp16
      exact absurd c20 (by decide)
  ·
    replace hF := q_gc hF hg12 (q_al (by omega) (q_al (by omega) (q_al (by omega) (fun _ h => absurd h List.not_mem_nil))))
    refine q_goxv V (q_runSX (As := [.int 1]) (rest := []) (d := 7) (mc := 1) (ms := 6) C0 V rfl LS_NH_138 (c_NH_canHave l D g u6 hlt 1 _) rfl hl.1 rfl (Nat.le_of_ble_eq_true rfl) ⟨by decide, by decide⟩ ⟨Nat.le_of_ble_eq_true rfl, Nat.le_of_ble_eq_true rfl⟩ d_1_29_27) (fun qx Ex ce u23 H locs hp22 V hce hcv hcl => ?_) (fun u23 H locs hp22 V => ?_)
    ·
      obtain ⟨c24, rfl, rfl⟩ := hp22
      exact absurd c24 (by decide)
    ·
      obtain ⟨c26, rfl⟩ := hp22
      exact q_retX (q_retv C0 V (⟨c10, c11, hF⟩) d_1_29_30)
  ·
    replace hF := q_gc hF hg15 (q_al (by omega) (q_al (by omega) (q_al (by omega) (fun _ h => absurd h List.not_mem_nil))))
    refine q_goxv V (q_runSX (As := [.int 0]) (rest := []) (d := 7) (mc := 1) (ms := 6) C0 V rfl LS_NH_138 (c_NH_canHave l D g u6 hlt 0 _) rfl hl.1 rfl (Nat.le_of_ble_eq_true rfl) ⟨by decide, by decide⟩ ⟨Nat.le_of_ble_eq_true rfl, Nat.le_of_ble_eq_true rfl⟩ d_1_29_27) (fun qx Ex ce u29 H locs hp28 V hce hcv hcl => ?_) (fun u29 H locs hp28 V => ?_)
    ·
      obtain ⟨c30, rfl, rfl⟩ := hp28
      exact q_outT hno C0 V (Or.inr (⟨c13, c14, rfl, hF⟩)) hce hcv hcl (Nat.le_of_ble_eq_true rfl) (Nat.le_of_ble_eq_true rfl)
    ·
      obtain ⟨c32, rfl⟩ := hp28
      exact absurd c32 (by decide)
theorem d_1_15_0 : decode prog_1_method_15_code 0 = .ok (.iload_n 1, 1) := by decide +kernel
theorem d_1_15_1 : decode prog_1_method_15_code 1 = .ok (.ifCond .lt 34, 3) := by decide +kernel
theorem d_1_15_35 : decode prog_1_method_15_code 35 = .ok (.iconst 0, 1) := by decide +kernel
theorem d_1_15_36 : decode prog_1_method_15_code 36 = .ok (.invokestatic 104, 3) := by decide +kernel
theorem d_1_15_4 : decode prog_1_method_15_code 4 = .ok (.iload_n 1, 1) := by decide +kernel
theorem d_1_15_5 : decode prog_1_method_15_code 5 = .ok (.iconst 2, 1) := by decide +kernel
theorem d_1_15_6 : decode prog_1_method_15_code 6 = .ok (.if_icmp .gt 29, 3) := by decide +kernel
theorem d_1_15_9 : decode prog_1_method_15_code 9 = .ok (.iload_n 2, 1) := by decide +kernel
theorem d_1_15_10 : decode prog_1_method_15_code 10 = .ok (.invokestatic 212, 3) := by decide +kernel
theorem d_1_15_13 : decode prog_1_method_15_code 13 = .ok (.ifCond .eq 22, 3) := by decide +kernel
theorem d_1_15_16 : decode prog_1_method_15_code 16 = .ok (.iload_n 3, 1) := by decide +kernel
theorem d_1_15_17 : decode prog_1_method_15_code 17 = .ok (.invokestatic 212, 3) := by decide +kernel
theorem d_1_15_20 : decode prog_1_method_15_code 20 = .ok (.ifCond .eq 15, 3) := by decide +kernel
theorem d_1_15_23 : decode prog_1_method_15_code 23 = .ok (.iload 5, 2) := by decide +kernel
theorem d_1_15_25 : decode prog_1_method_15_code 25 = .ok (.invokestatic 296, 3) := by decide +kernel
theorem d_1_15_28 : decode prog_1_method_15_code 28 = .ok (.ifCond .eq 7, 3) := by decide +kernel
theorem d_1_15_31 : decode prog_1_method_15_code 31 = .ok (.iconst 1, 1) := by decide +kernel
theorem d_1_15_32 : decode prog_1_method_15_code 32 = .ok (.goto 4, 3) := by decide +kernel
theorem d_1_15_39 : decode prog_1_method_15_code 39 = .ok (.iload_n 1, 1) := by decide +kernel
theorem d_1_15_40 : decode prog_1_method_15_code 40 = .ok (.ifCond .ne 11, 3) := by decide +kernel
theorem d_1_15_51 : decode prog_1_method_15_code 51 = .ok (.iload 4, 2) := by decide +kernel
theorem d_1_15_53 : decode prog_1_method_15_code 53 = .ok (.iconst 1, 1) := by decide +kernel
theorem d_1_15_54 : decode prog_1_method_15_code 54 = .ok (.if_icmp .lt 15, 3) := by decide +kernel
theorem d_1_15_69 : decode prog_1_method_15_code 69 = .ok (.iconst 0, 1) := by decide +kernel
theorem d_1_15_70 : decode prog_1_method_15_code 70 = .ok (.invokestatic 104, 3) := by decide +kernel
theorem d_1_15_57 : decode prog_1_method_15_code 57 = .ok (.iload 4, 2) := by decide +kernel
theorem d_1_15_59 : decode prog_1_method_15_code 59 = .ok (.sipush 1000, 3) := by decide +kernel
theorem d_1_15_62 : decode prog_1_method_15_code 62 = .ok (.if_icmp .gt 7, 3) := by decide +kernel
theorem d_1_15_65 : decode prog_1_method_15_code 65 = .ok (.iconst 1, 1) := by decide +kernel
theorem d_1_15_66 : decode prog_1_method_15_code 66 = .ok (.goto 4, 3) := by decide +kernel
theorem d_1_15_73 : decode prog_1_method_15_code 73 = .ok (.aload_n 0, 1) := by decide +kernel
theorem d_1_15_74 : decode prog_1_method_15_code 74 = .ok (.getfield 29, 3) := by decide +kernel
theorem d_1_15_77 : decode prog_1_method_15_code 77 = .ok (.iload_n 2, 1) := by decide +kernel
theorem d_1_15_78 : decode prog_1_method_15_code 78 = .ok (.aaload, 1) := by decide +kernel
theorem d_1_15_79 : decode prog_1_method_15_code 79 = .ok (.astore 6, 2) := by decide +kernel
theorem d_1_15_81 : decode prog_1_method_15_code 81 = .ok (.iload_n 1, 1) := by decide +kernel
theorem d_1_15_82 : decode prog_1_method_15_code 82 = .ok (.ifCond .ne 29, 3) := by decide +kernel
theorem d_1_15_111 : decode prog_1_method_15_code 111 = .ok (.iload_n 1, 1) := by decide +kernel
theorem d_1_15_112 : decode prog_1_method_15_code 112 = .ok (.iconst 1, 1) := by decide +kernel
theorem d_1_15_113 : decode prog_1_method_15_code 113 = .ok (.if_icmp .ne 29, 3) := by decide +kernel
theorem d_1_15_142 : decode prog_1_method_15_code 142 = .ok (.aload 6, 2) := by decide +kernel
theorem d_1_15_144 : decode prog_1_method_15_code 144 = .ok (.getfield 277, 3) := by decide +kernel
theorem d_1_15_147 : decode prog_1_method_15_code 147 = .ok (.invokevirtual 225, 3) := by decide +kernel
theorem d_1_15_150 : decode prog_1_method_15_code 150 = .ok (.ifCond .lt 7, 3) := by decide +kernel
theorem d_1_15_153 : decode prog_1_method_15_code 153 = .ok (.iconst 1, 1) := by decide +kernel
theorem d_1_15_154 : decode prog_1_method_15_code 154 = .ok (.goto 4, 3) := by decide +kernel
theorem d_1_15_158 : decode prog_1_method_15_code 158 = .ok (.invokestatic 138, 3) := by decide +kernel
theorem d_1_15_161 : decode prog_1_method_15_code 161 = .ok (.aload_n 0, 1) := by decide +kernel
theorem d_1_15_162 : decode prog_1_method_15_code 162 = .ok (.getfield 52, 3) := by decide +kernel
theorem d_1_15_165 : decode prog_1_method_15_code 165 = .ok (.aload 6, 2) := by decide +kernel
theorem d_1_15_167 : decode prog_1_method_15_code 167 = .ok (.iload 4, 2) := by decide +kernel
theorem d_1_15_169 : decode prog_1_method_15_code 169 = .ok (.iload 5, 2) := by decide +kernel
theorem d_1_15_171 : decode prog_1_method_15_code 171 = .ok (.invokevirtual 313, 3) := by decide +kernel
theorem w_1483 : (Cond.code ({ cls := "NumberHouse$DecimalWork", name := "squareRoot", desc := "(LNumberHouse$Dec;II)Z" } : MethodName) prog_4_method_13_code (6 : Nat) (some .boolean)) ∈ q_tbl := q_of 1483 (by decide +kernel) (by decide +kernel)
theorem w_1480 : (Cond.methodLink "NumberHouse" (313 : Nat) ({ cls := "NumberHouse$DecimalWork", name := "squareRoot", desc := "(LNumberHouse$Dec;II)Z" } : MethodName)) ∈ q_tbl := q_of 1480 (by decide +kernel) (by decide +kernel)
theorem w_1481 : (Cond.instanceMethod ({ cls := "NumberHouse$DecimalWork", name := "squareRoot", desc := "(LNumberHouse$Dec;II)Z" } : MethodName)) ∈ q_tbl := q_of 1481 (by decide +kernel) (by decide +kernel)
theorem w_1482 : (Cond.selects "NumberHouse$DecimalWork" ({ cls := "NumberHouse$DecimalWork", name := "squareRoot", desc := "(LNumberHouse$Dec;II)Z" } : MethodName) ({ cls := "NumberHouse$DecimalWork", name := "squareRoot", desc := "(LNumberHouse$Dec;II)Z" } : MethodName)) ∈ q_tbl := q_of 1482 (by decide +kernel) (by decide +kernel)
theorem LV_NH_313 : q_LV "NumberHouse" 313 y_DW_squareRoot prog_4_method_13_code 6 (some .boolean) 3 := ⟨w_1483, w_5, w_1480, w_1481, w_1482, ⟨by decide, by decide, by decide +kernel⟩⟩
theorem d_1_15_174 : decode prog_1_method_15_code 174 = .ok (.invokestatic 138, 3) := by decide +kernel
theorem d_1_15_177 : decode prog_1_method_15_code 177 = .ok (.aload_n 0, 1) := by decide +kernel
theorem d_1_15_178 : decode prog_1_method_15_code 178 = .ok (.iload_n 3, 1) := by decide +kernel
theorem d_1_15_179 : decode prog_1_method_15_code 179 = .ok (.invokevirtual 281, 3) := by decide +kernel
theorem d_1_15_182 : decode prog_1_method_15_code 182 = .ok (.return_, 1) := by decide +kernel
theorem d_1_15_116 : decode prog_1_method_15_code 116 = .ok (.aload_n 0, 1) := by decide +kernel
theorem d_1_15_117 : decode prog_1_method_15_code 117 = .ok (.getfield 52, 3) := by decide +kernel
theorem d_1_15_120 : decode prog_1_method_15_code 120 = .ok (.aload 6, 2) := by decide +kernel
theorem d_1_15_122 : decode prog_1_method_15_code 122 = .ok (.aload_n 0, 1) := by decide +kernel
theorem d_1_15_123 : decode prog_1_method_15_code 123 = .ok (.getfield 52, 3) := by decide +kernel
theorem d_1_15_126 : decode prog_1_method_15_code 126 = .ok (.getfield 309, 3) := by decide +kernel
theorem w_211 : (Cond.fieldLink "NumberHouse" (309 : Nat) "NumberHouse$DecimalWork" "one" "LNumberHouse$Dec;") ∈ q_tbl := q_of 211 (by decide +kernel) (by decide +kernel)
theorem d_1_15_129 : decode prog_1_method_15_code 129 = .ok (.iload 4, 2) := by decide +kernel
theorem d_1_15_131 : decode prog_1_method_15_code 131 = .ok (.iload 5, 2) := by decide +kernel
theorem d_1_15_133 : decode prog_1_method_15_code 133 = .ok (.invokevirtual 306, 3) := by decide +kernel
theorem w_1468 : (Cond.code ({ cls := "NumberHouse$DecimalWork", name := "divideToPrecision", desc := "(LNumberHouse$Dec;LNumberHouse$Dec;II)Z" } : MethodName) prog_4_method_12_code (10 : Nat) (some .boolean)) ∈ q_tbl := q_of 1468 (by decide +kernel) (by decide +kernel)
theorem w_1465 : (Cond.methodLink "NumberHouse" (306 : Nat) ({ cls := "NumberHouse$DecimalWork", name := "divideToPrecision", desc := "(LNumberHouse$Dec;LNumberHouse$Dec;II)Z" } : MethodName)) ∈ q_tbl := q_of 1465 (by decide +kernel) (by decide +kernel)
theorem w_1466 : (Cond.instanceMethod ({ cls := "NumberHouse$DecimalWork", name := "divideToPrecision", desc := "(LNumberHouse$Dec;LNumberHouse$Dec;II)Z" } : MethodName)) ∈ q_tbl := q_of 1466 (by decide +kernel) (by decide +kernel)
theorem w_1467 : (Cond.selects "NumberHouse$DecimalWork" ({ cls := "NumberHouse$DecimalWork", name := "divideToPrecision", desc := "(LNumberHouse$Dec;LNumberHouse$Dec;II)Z" } : MethodName) ({ cls := "NumberHouse$DecimalWork", name := "divideToPrecision", desc := "(LNumberHouse$Dec;LNumberHouse$Dec;II)Z" } : MethodName)) ∈ q_tbl := q_of 1467 (by decide +kernel) (by decide +kernel)
theorem LV_NH_306 : q_LV "NumberHouse" 306 y_DW_divideToPrecision prog_4_method_12_code 10 (some .boolean) 4 := ⟨w_1468, w_5, w_1465, w_1466, w_1467, ⟨by decide, by decide, by decide +kernel⟩⟩
theorem d_1_15_136 : decode prog_1_method_15_code 136 = .ok (.invokestatic 138, 3) := by decide +kernel
theorem d_1_15_139 : decode prog_1_method_15_code 139 = .ok (.goto 38, 3) := by decide +kernel
theorem d_1_15_43 : decode prog_1_method_15_code 43 = .ok (.iload 4, 2) := by decide +kernel
theorem d_1_15_45 : decode prog_1_method_15_code 45 = .ok (.invokestatic 299, 3) := by decide +kernel
theorem d_1_15_48 : decode prog_1_method_15_code 48 = .ok (.goto 22, 3) := by decide +kernel
theorem d_1_15_85 : decode prog_1_method_15_code 85 = .ok (.aload_n 0, 1) := by decide +kernel
theorem d_1_15_86 : decode prog_1_method_15_code 86 = .ok (.getfield 52, 3) := by decide +kernel
theorem d_1_15_89 : decode prog_1_method_15_code 89 = .ok (.aload 6, 2) := by decide +kernel
theorem d_1_15_91 : decode prog_1_method_15_code 91 = .ok (.aload_n 0, 1) := by decide +kernel
theorem d_1_15_92 : decode prog_1_method_15_code 92 = .ok (.getfield 52, 3) := by decide +kernel
theorem d_1_15_95 : decode prog_1_method_15_code 95 = .ok (.getfield 309, 3) := by decide +kernel
theorem d_1_15_98 : decode prog_1_method_15_code 98 = .ok (.iload 4, 2) := by decide +kernel
theorem d_1_15_100 : decode prog_1_method_15_code 100 = .ok (.iload 5, 2) := by decide +kernel
theorem d_1_15_102 : decode prog_1_method_15_code 102 = .ok (.invokevirtual 302, 3) := by decide +kernel
theorem w_1437 : (Cond.code ({ cls := "NumberHouse$DecimalWork", name := "divideToScale", desc := "(LNumberHouse$Dec;LNumberHouse$Dec;II)Z" } : MethodName) prog_4_method_11_code (6 : Nat) (some .boolean)) ∈ q_tbl := q_of 1437 (by decide +kernel) (by decide +kernel)
theorem w_1434 : (Cond.methodLink "NumberHouse" (302 : Nat) ({ cls := "NumberHouse$DecimalWork", name := "divideToScale", desc := "(LNumberHouse$Dec;LNumberHouse$Dec;II)Z" } : MethodName)) ∈ q_tbl := q_of 1434 (by decide +kernel) (by decide +kernel)
theorem w_1435 : (Cond.instanceMethod ({ cls := "NumberHouse$DecimalWork", name := "divideToScale", desc := "(LNumberHouse$Dec;LNumberHouse$Dec;II)Z" } : MethodName)) ∈ q_tbl := q_of 1435 (by decide +kernel) (by decide +kernel)
theorem w_1436 : (Cond.selects "NumberHouse$DecimalWork" ({ cls := "NumberHouse$DecimalWork", name := "divideToScale", desc := "(LNumberHouse$Dec;LNumberHouse$Dec;II)Z" } : MethodName) ({ cls := "NumberHouse$DecimalWork", name := "divideToScale", desc := "(LNumberHouse$Dec;LNumberHouse$Dec;II)Z" } : MethodName)) ∈ q_tbl := q_of 1436 (by decide +kernel) (by decide +kernel)
theorem LV_NH_302 : q_LV "NumberHouse" 302 y_DW_divideToScale prog_4_method_11_code 6 (some .boolean) 4 := ⟨w_1437, w_5, w_1434, w_1435, w_1436, ⟨by decide, by decide, by decide +kernel⟩⟩
theorem d_1_15_105 : decode prog_1_method_15_code 105 = .ok (.invokestatic 138, 3) := by decide +kernel
theorem d_1_15_108 : decode prog_1_method_15_code 108 = .ok (.goto 69, 3) := by decide +kernel
def y_NH_shape : MethodName := ⟨"NumberHouse", "shape", "(IIIII)V"⟩
set_option maxRecDepth 100000 in
set_option maxHeartbeats 4000000 in
/-- shape on a fresh object -/
theorem c_NH_shape (l : Launch) (D : va_G) (g : Nat → ClassId) (ws : va_W) (hlt : l.stackTraces = false) ( qO0 qO1 qO2 qA3 qA4 qA5 qA6 qO7 qO8 qO9 qO10 qO11 qO12 qO13 qO14 qO17 qO18 qO19 qO20 qO21 qO22 qO23 qO24 qO25 qO26 qO27 qA35 qO45 : Nat) (x1 : Int32) (x2 : Int32) (x3 : Int32) (x4 : Int32) (x5 : Int32) (f7 : Nat → Option Nat) (hO0 : ws[0]? = (some (qO0, .inr (0, [.ref qO1, .ref qO2, .ref qA3, .ref qA4, .ref qA5, .ref qA6, .ref qO7, .ref qO8, .ref qO9, .ref qO10, .ref qO11, .ref qO12, .ref qO13, .ref qO14])) : Option (Nat × va_E))) (hA4 : ws[6]? = (some (qA4, .inl (g 5, 10, .inr (.inr (.inr (.inr f7))))) : Option (Nat × va_E))) (hO7 : ws[9]? = (some (qO7, .inr (4, [.ref qO17, .ref qO18, .ref qO19, .ref qO20, .ref qO21, .ref qO22, .ref qO23, .ref qO24, .ref qO25, .ref qO26])) : Option (Nat × va_E))) (hO8 : ws[30]? = (some (qO8, .inr (5, [.ref qO27, .long 0, .ref qO7, .int 0])) : Option (Nat × va_E))) (hO17 : ws[10]? = (some (qO17, .inr (2, [.ref qA35, .int 0, .int 0])) : Option (Nat × va_E))) (hO27 : ws[31]? = (some (qO27, .inr (3, [.ref qO45, .int 0, .int 1])) : Option (Nat × va_E))) (hA35 : ws[11]? = (some (qA35, .inl (g 0, 220, .inl (fun _ => 0))) : Option (Nat × va_E))) (qW qWL qD qDN qDL : Nat → Nat) (hfD : ∀ i, i < 10 → f7 i = some (qD i)) (FD : ∀ i, i < 10 → ws[68 + 5 * i]? = (some (qD i, .inr (3, [.ref (qDN i), .int 0, .int 1])) : Option (Nat × va_E))) (FDN : ∀ i, i < 10 → ws[69 + 5 * i]? = (some (qDN i, .inr (2, [.ref (qDL i), .int 0, .int 0])) : Option (Nat × va_E))) (FDL : ∀ i, i < 10 → ws[70 + 5 * i]? = (some (qDL i, .inl (g 0, 108, .inl (fun _ => 0))) : Option (Nat × va_E))) : q_xV l y_NH_shape prog_1_method_15_code 7 9 5 30 D g [.ref qO0, .int x1, .int x2, .int x3, .int x4, .int x5] ws (fun u => (((0 ≤ x1.toInt ∧ x1.toInt ≤ 2) ∧ (0 ≤ x2.toInt ∧ x2.toInt ≤ 9) ∧ (0 ≤ x3.toInt ∧ x3.toInt ≤ 9) ∧ (0 ≤ x5.toInt ∧ x5.toInt ≤ 7) ∧ (x1.toInt = 0 → ((-10000) ≤ x4.toInt ∧ x4.toInt ≤ 10000)) ∧ (x1.toInt ≠ 0 → (1 ≤ x4.toInt ∧ x4.toInt ≤ 1000)))) ∧ q_ge 116 ws u) (fun E u => (("java/lang/IllegalArgumentException" = E ∧ (¬ ((0 ≤ x1.toInt ∧ x1.toInt ≤ 2) ∧ (0 ≤ x2.toInt ∧ x2.toInt ≤ 9) ∧ (0 ≤ x3.toInt ∧ x3.toInt ≤ 9) ∧ (0 ≤ x5.toInt ∧ x5.toInt ≤ 7) ∧ (x1.toInt = 0 → ((-10000) ≤ x4.toInt ∧ x4.toInt ≤ 10000)) ∧ (x1.toInt ≠ 0 → (1 ≤ x4.toInt ∧ x4.toInt ≤ 1000)))))) ∧ q_ge 116 ws u) := by
  intro sz
  refine q_intoX (by decide) (Nat.le_of_ble_eq_true rfl) ?_
  intro p e s m below meth c ls hsz C0 V hno hl
  have hx := C0.1
  have hb := C0.2.1
  have hl : lv_has ls 7 [(0, .ref qO0), (1, .int x1), (2, .int x2), (3, .int x3), (4, .int x4), (5, .int x5)] := hl
  have hF : q_ge 116 ws ws := q_g0
  refine lv_iload_n hx hb d_1_15_0 rfl (lv_at hl 1 rfl) ?_
  refine lv_if_lt (tgt := 35) hx hb d_1_15_1 (by decide) (fun c1 => ?_) (fun c1 => ?_)
  ·
    refine lv_iconst (v := 0) hx hb d_1_15_35 (by decide) ?_
    refine q_goxv V (q_runSX (As := [.int 0]) (rest := []) (d := 7) (mc := 1) (ms := 6) C0 V rfl LS_NH_104 (c_NH_need l D g ws hlt 0 _) rfl hl.1 rfl (Nat.le_of_ble_eq_true rfl) ⟨by decide, by decide⟩ ⟨Nat.le_of_ble_eq_true rfl, Nat.le_of_ble_eq_true rfl⟩ d_1_15_36) (fun qx Ex ce u3 H locs hp2 V hce hcv hcl => ?_) (fun u3 H locs hp2 V => ?_)
    ·
      obtain ⟨c4, rfl, rfl⟩ := hp2
      exact q_outT hno C0 V (⟨⟨rfl, (show ¬ ((0 ≤ x1.toInt ∧ x1.toInt ≤ 2) ∧ (0 ≤ x2.toInt ∧ x2.toInt ≤ 9) ∧ (0 ≤ x3.toInt ∧ x3.toInt ≤ 9) ∧ (0 ≤ x5.toInt ∧ x5.toInt ≤ 7) ∧ (x1.toInt = 0 → ((-10000) ≤ x4.toInt ∧ x4.toInt ≤ 10000)) ∧ (x1.toInt ≠ 0 → (1 ≤ x4.toInt ∧ x4.toInt ≤ 1000))) from by have t1 : x1.toInt < 0 := q_ltI c1; omega)⟩, hF⟩) hce hcv hcl (Nat.le_of_ble_eq_true rfl) (Nat.le_of_ble_eq_true rfl)
    ·
      obtain ⟨c6, rfl⟩ := hp2
      exact absurd c6 (by decide)
  ·
    refine lv_iload_n hx hb d_1_15_4 rfl (lv_at hl 1 rfl) ?_
    refine lv_iconst (v := 2) hx hb d_1_15_5 (by decide) ?_
    refine lv_icmp_gt (tgt := 35) hx hb d_1_15_6 (by decide) (fun c8 => ?_) (fun c8 => ?_)
    ·
      refine lv_iconst (v := 0) hx hb d_1_15_35 (by decide) ?_
      refine q_goxv V (q_runSX (As := [.int 0]) (rest := []) (d := 7) (mc := 1) (ms := 6) C0 V rfl LS_NH_104 (c_NH_need l D g ws hlt 0 _) rfl hl.1 rfl (Nat.le_of_ble_eq_true rfl) ⟨by decide, by decide⟩ ⟨Nat.le_of_ble_eq_true rfl, Nat.le_of_ble_eq_true rfl⟩ d_1_15_36) (fun qx Ex ce u10 H locs hp9 V hce hcv hcl => ?_) (fun u10 H locs hp9 V => ?_)
      ·
        obtain ⟨c11, rfl, rfl⟩ := hp9
        exact q_outT hno C0 V (⟨⟨rfl, (show ¬ ((0 ≤ x1.toInt ∧ x1.toInt ≤ 2) ∧ (0 ≤ x2.toInt ∧ x2.toInt ≤ 9) ∧ (0 ≤ x3.toInt ∧ x3.toInt ≤ 9) ∧ (0 ≤ x5.toInt ∧ x5.toInt ≤ 7) ∧ (x1.toInt = 0 → ((-10000) ≤ x4.toInt ∧ x4.toInt ≤ 10000)) ∧ (x1.toInt ≠ 0 → (1 ≤ x4.toInt ∧ x4.toInt ≤ 1000))) from by have t1 : 0 ≤ x1.toInt := q_nltI c1; have t2 : 2 < x1.toInt := q_ltI c8; omega)⟩, hF⟩) hce hcv hcl (Nat.le_of_ble_eq_true rfl) (Nat.le_of_ble_eq_true rfl)
      ·
        obtain ⟨c13, rfl⟩ := hp9
        exact absurd c13 (by decide)
    ·
      refine lv_iload_n hx hb d_1_15_9 rfl (lv_at hl 2 rfl) ?_
      refine q_goi V (q_runS (As := [.int x2]) (rest := []) (d := 1) (mc := 0) (ms := 0) C0 V rfl LS_NH_212 (c_NH_isRegister l D g ws x2 _) rfl hl.1 rfl (Nat.le_of_ble_eq_true rfl) ⟨by decide, by decide⟩ ⟨Nat.le_of_ble_eq_true rfl, Nat.le_of_ble_eq_true rfl⟩ d_1_15_10) (fun v17 u16 H locs hp15 V => ?_)
      rcases hp15 with ⟨c18, rfl, rfl⟩ | ⟨c20, c21, rfl, rfl⟩ | ⟨c23, c24, rfl, rfl⟩
      ·
        refine lv_if_eq (tgt := 35) hx hb d_1_15_13 (by decide) (fun c26 => ?_) (fun c26 => absurd (by decide) c26)
        refine lv_iconst (v := 0) hx hb d_1_15_35 (by decide) ?_
        refine q_goxv V (q_runSX (As := [.int 0]) (rest := []) (d := 7) (mc := 1) (ms := 6) C0 V rfl LS_NH_104 (c_NH_need l D g ws hlt 0 _) rfl hl.1 rfl (Nat.le_of_ble_eq_true rfl) ⟨by decide, by decide⟩ ⟨Nat.le_of_ble_eq_true rfl, Nat.le_of_ble_eq_true rfl⟩ d_1_15_36) (fun qx Ex ce u28 H locs hp27 V hce hcv hcl => ?_) (fun u28 H locs hp27 V => ?_)
        ·
          obtain ⟨c29, rfl, rfl⟩ := hp27
          exact q_outT hno C0 V (⟨⟨rfl, (show ¬ ((0 ≤ x1.toInt ∧ x1.toInt ≤ 2) ∧ (0 ≤ x2.toInt ∧ x2.toInt ≤ 9) ∧ (0 ≤ x3.toInt ∧ x3.toInt ≤ 9) ∧ (0 ≤ x5.toInt ∧ x5.toInt ≤ 7) ∧ (x1.toInt = 0 → ((-10000) ≤ x4.toInt ∧ x4.toInt ≤ 10000)) ∧ (x1.toInt ≠ 0 → (1 ≤ x4.toInt ∧ x4.toInt ≤ 1000))) from by have t1 : 0 ≤ x1.toInt := q_nltI c1; have t2 : x1.toInt ≤ 2 := q_nltI c8; have t3 : x2.toInt < 0 := q_ltI c18; omega)⟩, hF⟩) hce hcv hcl (Nat.le_of_ble_eq_true rfl) (Nat.le_of_ble_eq_true rfl)
        ·
          obtain ⟨c31, rfl⟩ := hp27
          exact absurd c31 (by decide)
      ·
        refine lv_if_eq (tgt := 35) hx hb d_1_15_13 (by decide) (fun c33 => ?_) (fun c33 => absurd (by decide) c33)
        refine lv_iconst (v := 0) hx hb d_1_15_35 (by decide) ?_
        refine q_goxv V (q_runSX (As := [.int 0]) (rest := []) (d := 7) (mc := 1) (ms := 6) C0 V rfl LS_NH_104 (c_NH_need l D g ws hlt 0 _) rfl hl.1 rfl (Nat.le_of_ble_eq_true rfl) ⟨by decide, by decide⟩ ⟨Nat.le_of_ble_eq_true rfl, Nat.le_of_ble_eq_true rfl⟩ d_1_15_36) (fun qx Ex ce u35 H locs hp34 V hce hcv hcl => ?_) (fun u35 H locs hp34 V => ?_)
        ·
          obtain ⟨c36, rfl, rfl⟩ := hp34
          exact q_outT hno C0 V (⟨⟨rfl, (show ¬ ((0 ≤ x1.toInt ∧ x1.toInt ≤ 2) ∧ (0 ≤ x2.toInt ∧ x2.toInt ≤ 9) ∧ (0 ≤ x3.toInt ∧ x3.toInt ≤ 9) ∧ (0 ≤ x5.toInt ∧ x5.toInt ≤ 7) ∧ (x1.toInt = 0 → ((-10000) ≤ x4.toInt ∧ x4.toInt ≤ 10000)) ∧ (x1.toInt ≠ 0 → (1 ≤ x4.toInt ∧ x4.toInt ≤ 1000))) from by have t1 : 0 ≤ x1.toInt := q_nltI c1; have t2 : x1.toInt ≤ 2 := q_nltI c8; have t3 : 0 ≤ x2.toInt := q_nltI c20; have t4 : 10 ≤ x2.toInt := q_leI c21; omega)⟩, hF⟩) hce hcv hcl (Nat.le_of_ble_eq_true rfl) (Nat.le_of_ble_eq_true rfl)
        ·
          obtain ⟨c38, rfl⟩ := hp34
          exact absurd c38 (by decide)
      ·
        refine lv_if_eq (tgt := 35) hx hb d_1_15_13 (by decide) (fun c40 => absurd c40 (by decide)) (fun c40 => ?_)
        refine lv_iload_n hx hb d_1_15_16 rfl (lv_at hl 3 rfl) ?_
        refine q_goi V (q_runS (As := [.int x3]) (rest := []) (d := 1) (mc := 0) (ms := 0) C0 V rfl LS_NH_212 (c_NH_isRegister l D g ws x3 _) rfl hl.1 rfl (Nat.le_of_ble_eq_true rfl) ⟨by decide, by decide⟩ ⟨Nat.le_of_ble_eq_true rfl, Nat.le_of_ble_eq_true rfl⟩ d_1_15_17) (fun v43 u42 H locs hp41 V => ?_)
        rcases hp41 with ⟨c44, rfl, rfl⟩ | ⟨c46, c47, rfl, rfl⟩ | ⟨c49, c50, rfl, rfl⟩
        ·
          refine lv_if_eq (tgt := 35) hx hb d_1_15_20 (by decide) (fun c52 => ?_) (fun c52 => absurd (by decide) c52)
          refine lv_iconst (v := 0) hx hb d_1_15_35 (by decide) ?_
          refine q_goxv V (q_runSX (As := [.int 0]) (rest := []) (d := 7) (mc := 1) (ms := 6) C0 V rfl LS_NH_104 (c_NH_need l D g ws hlt 0 _) rfl hl.1 rfl (Nat.le_of_ble_eq_true rfl) ⟨by decide, by decide⟩ ⟨Nat.le_of_ble_eq_true rfl, Nat.le_of_ble_eq_true rfl⟩ d_1_15_36) (fun qx Ex ce u54 H locs hp53 V hce hcv hcl => ?_) (fun u54 H locs hp53 V => ?_)
          ·
            obtain ⟨c55, rfl, rfl⟩ := hp53
            exact q_outT hno C0 V (⟨⟨rfl, (show ¬ ((0 ≤ x1.toInt ∧ x1.toInt ≤ 2) ∧ (0 ≤ x2.toInt ∧ x2.toInt ≤ 9) ∧ (0 ≤ x3.toInt ∧ x3.toInt ≤ 9) ∧ (0 ≤ x5.toInt ∧ x5.toInt ≤ 7) ∧ (x1.toInt = 0 → ((-10000) ≤ x4.toInt ∧ x4.toInt ≤ 10000)) ∧ (x1.toInt ≠ 0 → (1 ≤ x4.toInt ∧ x4.toInt ≤ 1000))) from by have t1 : 0 ≤ x1.toInt := q_nltI c1; have t2 : x1.toInt ≤ 2 := q_nltI c8; have t3 : 0 ≤ x2.toInt := q_nltI c23; have t4 : x2.toInt < 10 := q_nleI c24; have t5 : x3.toInt < 0 := q_ltI c44; omega)⟩, hF⟩) hce hcv hcl (Nat.le_of_ble_eq_true rfl) (Nat.le_of_ble_eq_true rfl)
          ·
            obtain ⟨c57, rfl⟩ := hp53
            exact absurd c57 (by decide)
        ·
          refine lv_if_eq (tgt := 35) hx hb d_1_15_20 (by decide) (fun c59 => ?_) (fun c59 => absurd (by decide) c59)
          refine lv_iconst (v := 0) hx hb d_1_15_35 (by decide) ?_
          refine q_goxv V (q_runSX (As := [.int 0]) (rest := []) (d := 7) (mc := 1) (ms := 6) C0 V rfl LS_NH_104 (c_NH_need l D g ws hlt 0 _) rfl hl.1 rfl (Nat.le_of_ble_eq_true rfl) ⟨by decide, by decide⟩ ⟨Nat.le_of_ble_eq_true rfl, Nat.le_of_ble_eq_true rfl⟩ d_1_15_36) (fun qx Ex ce u61 H locs hp60 V hce hcv hcl => ?_) (fun u61 H locs hp60 V => ?_)
          ·
            obtain ⟨c62, rfl, rfl⟩ := hp60
            exact q_outT hno C0 V (⟨⟨rfl, (show ¬ ((0 ≤ x1.toInt ∧ x1.toInt ≤ 2) ∧ (0 ≤ x2.toInt ∧ x2.toInt ≤ 9) ∧ (0 ≤ x3.toInt ∧ x3.toInt ≤ 9) ∧ (0 ≤ x5.toInt ∧ x5.toInt ≤ 7) ∧ (x1.toInt = 0 → ((-10000) ≤ x4.toInt ∧ x4.toInt ≤ 10000)) ∧ (x1.toInt ≠ 0 → (1 ≤ x4.toInt ∧ x4.toInt ≤ 1000))) from by have t1 : 0 ≤ x1.toInt := q_nltI c1; have t2 : x1.toInt ≤ 2 := q_nltI c8; have t3 : 0 ≤ x2.toInt := q_nltI c23; have t4 : x2.toInt < 10 := q_nleI c24; have t5 : 0 ≤ x3.toInt := q_nltI c46; have t6 : 10 ≤ x3.toInt := q_leI c47; omega)⟩, hF⟩) hce hcv hcl (Nat.le_of_ble_eq_true rfl) (Nat.le_of_ble_eq_true rfl)
          ·
            obtain ⟨c64, rfl⟩ := hp60
            exact absurd c64 (by decide)
        ·
          refine lv_if_eq (tgt := 35) hx hb d_1_15_20 (by decide) (fun c66 => absurd c66 (by decide)) (fun c66 => ?_)
          refine lv_iload hx hb d_1_15_23 (lv_at hl 5 rfl) ?_
          refine q_goi V (q_runS (As := [.int x5]) (rest := []) (d := 1) (mc := 0) (ms := 0) C0 V rfl LS_NH_296 (c_NH_isMode l D g ws x5 _) rfl hl.1 rfl (Nat.le_of_ble_eq_true rfl) ⟨by decide, by decide⟩ ⟨Nat.le_of_ble_eq_true rfl, Nat.le_of_ble_eq_true rfl⟩ d_1_15_25) (fun v69 u68 H locs hp67 V => ?_)
          rcases hp67 with ⟨c70, rfl, rfl⟩ | ⟨c72, c73, rfl, rfl⟩ | ⟨c75, c76, rfl, rfl⟩
          ·
            refine lv_if_eq (tgt := 35) hx hb d_1_15_28 (by decide) (fun c78 => ?_) (fun c78 => absurd (by decide) c78)
            refine lv_iconst (v := 0) hx hb d_1_15_35 (by decide) ?_
            refine q_goxv V (q_runSX (As := [.int 0]) (rest := []) (d := 7) (mc := 1) (ms := 6) C0 V rfl LS_NH_104 (c_NH_need l D g ws hlt 0 _) rfl hl.1 rfl (Nat.le_of_ble_eq_true rfl) ⟨by decide, by decide⟩ ⟨Nat.le_of_ble_eq_true rfl, Nat.le_of_ble_eq_true rfl⟩ d_1_15_36) (fun qx Ex ce u80 H locs hp79 V hce hcv hcl => ?_) (fun u80 H locs hp79 V => ?_)
            ·
              obtain ⟨c81, rfl, rfl⟩ := hp79
              exact q_outT hno C0 V (⟨⟨rfl, (show ¬ ((0 ≤ x1.toInt ∧ x1.toInt ≤ 2) ∧ (0 ≤ x2.toInt ∧ x2.toInt ≤ 9) ∧ (0 ≤ x3.toInt ∧ x3.toInt ≤ 9) ∧ (0 ≤ x5.toInt ∧ x5.toInt ≤ 7) ∧ (x1.toInt = 0 → ((-10000) ≤ x4.toInt ∧ x4.toInt ≤ 10000)) ∧ (x1.toInt ≠ 0 → (1 ≤ x4.toInt ∧ x4.toInt ≤ 1000))) from by have t1 : 0 ≤ x1.toInt := q_nltI c1; have t2 : x1.toInt ≤ 2 := q_nltI c8; have t3 : 0 ≤ x2.toInt := q_nltI c23; have t4 : x2.toInt < 10 := q_nleI c24; have t5 : 0 ≤ x3.toInt := q_nltI c49; have t6 : x3.toInt < 10 := q_nleI c50; have t7 : x5.toInt < 0 := q_ltI c70; omega)⟩, hF⟩) hce hcv hcl (Nat.le_of_ble_eq_true rfl) (Nat.le_of_ble_eq_true rfl)
            ·
              obtain ⟨c83, rfl⟩ := hp79
              exact absurd c83 (by decide)
          ·
            refine lv_if_eq (tgt := 35) hx hb d_1_15_28 (by decide) (fun c85 => ?_) (fun c85 => absurd (by decide) c85)
            refine lv_iconst (v := 0) hx hb d_1_15_35 (by decide) ?_
            refine q_goxv V (q_runSX (As := [.int 0]) (rest := []) (d := 7) (mc := 1) (ms := 6) C0 V rfl LS_NH_104 (c_NH_need l D g ws hlt 0 _) rfl hl.1 rfl (Nat.le_of_ble_eq_true rfl) ⟨by decide, by decide⟩ ⟨Nat.le_of_ble_eq_true rfl, Nat.le_of_ble_eq_true rfl⟩ d_1_15_36) (fun qx Ex ce u87 H locs hp86 V hce hcv hcl => ?_) (fun u87 H locs hp86 V => ?_)
            ·
              obtain ⟨c88, rfl, rfl⟩ := hp86
              exact q_outT hno C0 V (⟨⟨rfl, (show ¬ ((0 ≤ x1.toInt ∧ x1.toInt ≤ 2) ∧ (0 ≤ x2.toInt ∧ x2.toInt ≤ 9) ∧ (0 ≤ x3.toInt ∧ x3.toInt ≤ 9) ∧ (0 ≤ x5.toInt ∧ x5.toInt ≤ 7) ∧ (x1.toInt = 0 → ((-10000) ≤ x4.toInt ∧ x4.toInt ≤ 10000)) ∧ (x1.toInt ≠ 0 → (1 ≤ x4.toInt ∧ x4.toInt ≤ 1000))) from by have t1 : 0 ≤ x1.toInt := q_nltI c1; have t2 : x1.toInt ≤ 2 := q_nltI c8; have t3 : 0 ≤ x2.toInt := q_nltI c23; have t4 : x2.toInt < 10 := q_nleI c24; have t5 : 0 ≤ x3.toInt := q_nltI c49; have t6 : x3.toInt < 10 := q_nleI c50; have t7 : 0 ≤ x5.toInt := q_nltI c72; have t8 : 7 < x5.toInt := q_ltI c73; omega)⟩, hF⟩) hce hcv hcl (Nat.le_of_ble_eq_true rfl) (Nat.le_of_ble_eq_true rfl)
            ·
              obtain ⟨c90, rfl⟩ := hp86
              exact absurd c90 (by decide)
          ·
            refine lv_if_eq (tgt := 35) hx hb d_1_15_28 (by decide) (fun c92 => absurd c92 (by decide)) (fun c92 => ?_)
            refine lv_iconst (v := 1) hx hb d_1_15_31 (by decide) ?_
            refine lv_goto (tgt := 36) hx hb d_1_15_32 (by decide) ?_
            refine q_goxv V (q_runSX (As := [.int 1]) (rest := []) (d := 7) (mc := 1) (ms := 6) C0 V rfl LS_NH_104 (c_NH_need l D g ws hlt 1 _) rfl hl.1 rfl (Nat.le_of_ble_eq_true rfl) ⟨by decide, by decide⟩ ⟨Nat.le_of_ble_eq_true rfl, Nat.le_of_ble_eq_true rfl⟩ d_1_15_36) (fun qx Ex ce u94 H locs hp93 V hce hcv hcl => ?_) (fun u94 H locs hp93 V => ?_)
            ·
              obtain ⟨c95, rfl, rfl⟩ := hp93
              exact absurd c95 (by decide)
            ·
              obtain ⟨c97, rfl⟩ := hp93
              refine lv_iload_n hx hb d_1_15_39 rfl (lv_at hl 1 rfl) ?_
              refine lv_if_ne (tgt := 51) hx hb d_1_15_40 (by decide) (fun c99 => ?_) (fun c99 => ?_)
              ·
                refine lv_iload hx hb d_1_15_51 (lv_at hl 4 rfl) ?_
                refine lv_iconst (v := 1) hx hb d_1_15_53 (by decide) ?_
                refine lv_icmp_lt (tgt := 69) hx hb d_1_15_54 (by decide) (fun c100 => ?_) (fun c100 => ?_)
                ·
                  refine lv_iconst (v := 0) hx hb d_1_15_69 (by decide) ?_
                  refine q_goxv V (q_runSX (As := [.int 0]) (rest := []) (d := 7) (mc := 1) (ms := 6) C0 V rfl LS_NH_104 (c_NH_need l D g ws hlt 0 _) rfl hl.1 rfl (Nat.le_of_ble_eq_true rfl) ⟨by decide, by decide⟩ ⟨Nat.le_of_ble_eq_true rfl, Nat.le_of_ble_eq_true rfl⟩ d_1_15_70) (fun qx Ex ce u102 H locs hp101 V hce hcv hcl => ?_) (fun u102 H locs hp101 V => ?_)
                  ·
                    obtain ⟨c103, rfl, rfl⟩ := hp101
                    exact q_outT hno C0 V (⟨⟨rfl, (show ¬ ((0 ≤ x1.toInt ∧ x1.toInt ≤ 2) ∧ (0 ≤ x2.toInt ∧ x2.toInt ≤ 9) ∧ (0 ≤ x3.toInt ∧ x3.toInt ≤ 9) ∧ (0 ≤ x5.toInt ∧ x5.toInt ≤ 7) ∧ (x1.toInt = 0 → ((-10000) ≤ x4.toInt ∧ x4.toInt ≤ 10000)) ∧ (x1.toInt ≠ 0 → (1 ≤ x4.toInt ∧ x4.toInt ≤ 1000))) from by have t1 : 0 ≤ x1.toInt := q_nltI c1; have t2 : x1.toInt ≤ 2 := q_nltI c8; have t3 : 0 ≤ x2.toInt := q_nltI c23; have t4 : x2.toInt < 10 := q_nleI c24; have t5 : 0 ≤ x3.toInt := q_nltI c49; have t6 : x3.toInt < 10 := q_nleI c50; have t7 : 0 ≤ x5.toInt := q_nltI c75; have t8 : x5.toInt ≤ 7 := q_nltI c76; have t9 : x1.toInt ≠ 0 := q_neI c99; have t10 : x4.toInt < 1 := q_ltI c100; omega)⟩, hF⟩) hce hcv hcl (Nat.le_of_ble_eq_true rfl) (Nat.le_of_ble_eq_true rfl)
                  ·
                    obtain ⟨c105, rfl⟩ := hp101
                    exact absurd c105 (by decide)
                ·
                  refine lv_iload hx hb d_1_15_57 (lv_at hl 4 rfl) ?_
                  refine lv_sipush (v := 1000) hx hb d_1_15_59 (by decide) ?_
                  refine lv_icmp_gt (tgt := 69) hx hb d_1_15_62 (by decide) (fun c107 => ?_) (fun c107 => ?_)
                  ·
                    refine lv_iconst (v := 0) hx hb d_1_15_69 (by decide) ?_
                    refine q_goxv V (q_runSX (As := [.int 0]) (rest := []) (d := 7) (mc := 1) (ms := 6) C0 V rfl LS_NH_104 (c_NH_need l D g ws hlt 0 _) rfl hl.1 rfl (Nat.le_of_ble_eq_true rfl) ⟨by decide, by decide⟩ ⟨Nat.le_of_ble_eq_true rfl, Nat.le_of_ble_eq_true rfl⟩ d_1_15_70) (fun qx Ex ce u109 H locs hp108 V hce hcv hcl => ?_) (fun u109 H locs hp108 V => ?_)
                    ·
                      obtain ⟨c110, rfl, rfl⟩ := hp108
                      exact q_outT hno C0 V (⟨⟨rfl, (show ¬ ((0 ≤ x1.toInt ∧ x1.toInt ≤ 2) ∧ (0 ≤ x2.toInt ∧ x2.toInt ≤ 9) ∧ (0 ≤ x3.toInt ∧ x3.toInt ≤ 9) ∧ (0 ≤ x5.toInt ∧ x5.toInt ≤ 7) ∧ (x1.toInt = 0 → ((-10000) ≤ x4.toInt ∧ x4.toInt ≤ 10000)) ∧ (x1.toInt ≠ 0 → (1 ≤ x4.toInt ∧ x4.toInt ≤ 1000))) from by have t1 : 0 ≤ x1.toInt := q_nltI c1; have t2 : x1.toInt ≤ 2 := q_nltI c8; have t3 : 0 ≤ x2.toInt := q_nltI c23; have t4 : x2.toInt < 10 := q_nleI c24; have t5 : 0 ≤ x3.toInt := q_nltI c49; have t6 : x3.toInt < 10 := q_nleI c50; have t7 : 0 ≤ x5.toInt := q_nltI c75; have t8 : x5.toInt ≤ 7 := q_nltI c76; have t9 : x1.toInt ≠ 0 := q_neI c99; have t10 : 1 ≤ x4.toInt := q_nltI c100; have t11 : 1000 < x4.toInt := q_ltI c107; omega)⟩, hF⟩) hce hcv hcl (Nat.le_of_ble_eq_true rfl) (Nat.le_of_ble_eq_true rfl)
                    ·
                      obtain ⟨c112, rfl⟩ := hp108
                      exact absurd c112 (by decide)
                  ·
                    refine lv_iconst (v := 1) hx hb d_1_15_65 (by decide) ?_
                    refine lv_goto (tgt := 70) hx hb d_1_15_66 (by decide) ?_
                    refine q_goxv V (q_runSX (As := [.int 1]) (rest := []) (d := 7) (mc := 1) (ms := 6) C0 V rfl LS_NH_104 (c_NH_need l D g ws hlt 1 _) rfl hl.1 rfl (Nat.le_of_ble_eq_true rfl) ⟨by decide, by decide⟩ ⟨Nat.le_of_ble_eq_true rfl, Nat.le_of_ble_eq_true rfl⟩ d_1_15_70) (fun qx Ex ce u115 H locs hp114 V hce hcv hcl => ?_) (fun u115 H locs hp114 V => ?_)
                    ·
                      obtain ⟨c116, rfl, rfl⟩ := hp114
                      exact absurd c116 (by decide)
                    ·
                      obtain ⟨c118, rfl⟩ := hp114
                      refine lv_aload_n hx hb d_1_15_73 rfl (lv_at hl 0 rfl) ?_
                      refine q_get (ci := 0) (j := 3) (v := .ref qA4) C0 V i_NH rfl rfl hO0 (by decide) w_427 rfl d_1_15_74 ?_
                      refine lv_iload_n hx hb d_1_15_77 rfl (lv_at hl 2 rfl) ?_
                      have r120 : x2.toNatClampNeg < 10 := (q_r10 (x := x2.toInt) rfl (by have t1 : 0 ≤ x2.toInt := q_nltI c23; have t2 : x2.toInt < 10 := q_nleI c24; omega) (by have t1 : 0 ≤ x2.toInt := q_nltI c23; have t2 : x2.toInt < 10 := q_nleI c24; omega))
                      have hr121 : ws[68 + 5 * x2.toNatClampNeg]? = (some (qD x2.toNatClampNeg, .inr (3, [.ref (qDN x2.toNatClampNeg), .int 0, .int 1])) : Option (Nat × va_E)) := FD _ r120
                      have hr122 : ws[69 + 5 * x2.toNatClampNeg]? = (some (qDN x2.toNatClampNeg, .inr (2, [.ref (qDL x2.toNatClampNeg), .int 0, .int 0])) : Option (Nat × va_E)) := FDN _ r120
                      have hr123 : ws[70 + 5 * x2.toNatClampNeg]? = (some (qDL x2.toNatClampNeg, .inl (g 0, 108, .inl (fun _ => 0))) : Option (Nat × va_E)) := FDL _ r120
                      have hh : x2.toNatClampNeg < 10 := (q_r10 (x := x2.toInt) rfl (by have t1 : 0 ≤ x2.toInt := q_nltI c23; have t2 : x2.toInt < 10 := q_nleI c24; omega) (by have t1 : 0 ≤ x2.toInt := q_nltI c23; have t2 : x2.toInt < 10 := q_nleI c24; omega))
                      refine q_aald (t := 5) (q := qD x2.toNatClampNeg) C0 V hA4 rfl (q_ix (x := x2.toInt) rfl (by have t1 : 0 ≤ x2.toInt := q_nltI c23; have t2 : x2.toInt < 10 := q_nleI c24; omega) (by have t1 : 0 ≤ x2.toInt := q_nltI c23; have t2 : x2.toInt < 10 := q_nleI c24; omega)) (hfD _ hh) d_1_15_78 ?_
                      refine lv_astore (lv' := [(6, .ref (qD x2.toNatClampNeg)), (0, .ref qO0), (1, .int x1), (2, .int x2), (3, .int x3), (4, .int x4), (5, .int x5)]) hx hb d_1_15_79 hl (by decide) rfl (fun ls hl => ?_)
                      refine lv_iload_n hx hb d_1_15_81 rfl (lv_at hl 2 rfl) ?_
                      refine lv_if_ne (tgt := 111) hx hb d_1_15_82 (by decide) (fun c124 => ?_) (fun c124 => absurd c124 c99)
                      refine lv_iload_n hx hb d_1_15_111 rfl (lv_at hl 2 rfl) ?_
                      refine lv_iconst (v := 1) hx hb d_1_15_112 (by decide) ?_
                      refine lv_icmp_ne (tgt := 142) hx hb d_1_15_113 (by decide) (fun c125 => ?_) (fun c125 => ?_)
                      ·
                        refine lv_aload hx hb d_1_15_142 (lv_at hl 0 rfl) ?_
                        refine q_get (ci := 3) (j := 0) (v := .ref (qDN x2.toNatClampNeg)) C0 V i_Dec rfl rfl hr121 (by decide) w_174 rfl d_1_15_144 ?_
                        refine q_goi V (q_runV (As := []) (rest := []) (d := 1) (mc := 0) (ms := 0) (ci := 2) C0 V rfl LV_NH_225 (c_Big_sign l D g ws (69 + 5 * x2.toNatClampNeg) (qDN x2.toNatClampNeg) (qDL x2.toNatClampNeg) 0 0 hr122 _) rfl rfl hr122 rfl hl.1 rfl (Nat.le_of_ble_eq_true rfl) ⟨by decide, by decide⟩ ⟨Nat.le_of_ble_eq_true rfl, Nat.le_of_ble_eq_true rfl⟩ d_1_15_147) (fun v128 u127 H locs hp126 V => ?_)
                        rcases hp126 with ⟨c129, c130, rfl, rfl⟩ | ⟨c132, c133, rfl, rfl⟩ | ⟨c135, rfl, rfl⟩
                        ·
                          exact absurd c129 (by decide)
                        ·
                          exact absurd c132 (by decide)
                        ·
                          refine lv_if_lt (tgt := 157) hx hb d_1_15_150 (by decide) (fun c137 => absurd c137 (by decide)) (fun c137 => ?_)
                          refine lv_iconst (v := 1) hx hb d_1_15_153 (by decide) ?_
                          refine lv_goto (tgt := 158) hx hb d_1_15_154 (by decide) ?_
                          refine q_goxv V (q_runSX (As := [.int 1]) (rest := []) (d := 7) (mc := 1) (ms := 6) C0 V rfl LS_NH_138 (c_NH_canHave l D g ws hlt 1 _) rfl hl.1 rfl (Nat.le_of_ble_eq_true rfl) ⟨by decide, by decide⟩ ⟨Nat.le_of_ble_eq_true rfl, Nat.le_of_ble_eq_true rfl⟩ d_1_15_158) (fun qx Ex ce u139 H locs hp138 V hce hcv hcl => ?_) (fun u139 H locs hp138 V => ?_)
                          ·
                            obtain ⟨c140, rfl, rfl⟩ := hp138
                            exact absurd c140 (by decide)
                          ·
                            obtain ⟨c142, rfl⟩ := hp138
                            refine lv_aload_n hx hb d_1_15_161 rfl (lv_at hl 1 rfl) ?_
                            refine q_get (ci := 0) (j := 7) (v := .ref qO8) C0 V i_NH rfl rfl hO0 (by decide) w_431 rfl d_1_15_162 ?_
                            refine lv_aload hx hb d_1_15_165 (lv_at hl 0 rfl) ?_
                            refine lv_iload hx hb d_1_15_167 (lv_at hl 5 rfl) ?_
                            refine lv_iload hx hb d_1_15_169 (lv_at hl 6 rfl) ?_
                            refine q_goi V (q_runV (As := [.ref (qD x2.toNatClampNeg), .int x4, .int x5]) (rest := []) (d := 2) (mc := 0) (ms := 0) (ci := 5) C0 V rfl LV_NH_313 (c_DW_squareRoot l D g ws 30 (68 + 5 * x2.toNatClampNeg) 9 (69 + 5 * x2.toNatClampNeg) 10 qO8 (qD x2.toNatClampNeg) qO27 qO7 (qDN x2.toNatClampNeg) qO17 qO18 qO19 qO20 qO21 qO22 qO23 qO24 qO25 qO26 (qDL x2.toNatClampNeg) qA35 x4 x5 hO8 hr121 hO7 hr122 hO17 (q_f5 rfl) (q_Ile (x := 1) (y := x4.toInt) (by decide) rfl (by have t1 : 1 ≤ x4.toInt := q_nltI c100; have t2 : x4.toInt ≤ 1000 := q_nltI c107; omega)) (q_Ile (x := x4.toInt) (y := 1000) rfl (by decide) (by have t1 : 1 ≤ x4.toInt := q_nltI c100; have t2 : x4.toInt ≤ 1000 := q_nltI c107; omega)) (q_Ile (x := 0) (y := x5.toInt) (by decide) rfl (by have t1 : 0 ≤ x5.toInt := q_nltI c75; have t2 : x5.toInt ≤ 7 := q_nltI c76; omega)) (q_Ile (x := x5.toInt) (y := 7) rfl (by decide) (by have t1 : 0 ≤ x5.toInt := q_nltI c75; have t2 : x5.toInt ≤ 7 := q_nltI c76; omega)) _) rfl rfl hO8 rfl hl.1 rfl (Nat.le_of_ble_eq_true rfl) ⟨by decide, by decide⟩ ⟨Nat.le_of_ble_eq_true rfl, Nat.le_of_ble_eq_true rfl⟩ d_1_15_171) (fun v146 u145 H locs hp144 V => ?_)
                            obtain ⟨rfl, hg147, hO8, hO17⟩ := hp144
                            replace hF := q_gc hF hg147 (q_al (Nat.le_of_ble_eq_true rfl) (q_al (Nat.le_of_ble_eq_true rfl) (fun _ h => absurd h List.not_mem_nil)))
                            refine q_goxv V (q_runSX (As := [.int 1]) (rest := []) (d := 7) (mc := 1) (ms := 6) C0 V rfl LS_NH_138 (c_NH_canHave l D g u145 hlt 1 _) rfl hl.1 rfl (Nat.le_of_ble_eq_true rfl) ⟨by decide, by decide⟩ ⟨Nat.le_of_ble_eq_true rfl, Nat.le_of_ble_eq_true rfl⟩ d_1_15_174) (fun qx Ex ce u149 H locs hp148 V hce hcv hcl => ?_) (fun u149 H locs hp148 V => ?_)
                            ·
                              obtain ⟨c150, rfl, rfl⟩ := hp148
                              exact absurd c150 (by decide)
                            ·
                              obtain ⟨c152, rfl⟩ := hp148
                              refine lv_aload_n hx hb d_1_15_177 rfl (lv_at hl 1 rfl) ?_
                              refine lv_iload_n hx hb d_1_15_178 rfl (lv_at hl 4 rfl) ?_
                              replace hO0 := (hg147 _ (q_nc (q_pd 0 30 rfl) (q_nc (q_pd 0 10 rfl) List.not_mem_nil))).trans (hO0)
                              replace hA4 := (hg147 _ (q_nc (q_pd 6 30 rfl) (q_nc (q_pd 6 10 rfl) List.not_mem_nil))).trans (hA4)
                              replace hO7 := (hg147 _ (q_nc (q_pd 9 30 rfl) (q_nc (q_pd 9 10 rfl) List.not_mem_nil))).trans (hO7)
                              replace hA35 := (hg147 _ (q_nc (q_pd 11 30 rfl) (q_nc (q_pd 11 10 rfl) List.not_mem_nil))).trans (hA35)
                              replace FD := fun (i : Nat) (hi : i < 10) => (hg147 _ (q_nc (q_f5 rfl) (q_nc (q_f5 rfl) List.not_mem_nil))).trans (FD i hi)
                              replace FDN := fun (i : Nat) (hi : i < 10) => (hg147 _ (q_nc (q_f5 rfl) (q_nc (q_f5 rfl) List.not_mem_nil))).trans (FDN i hi)
                              replace FDL := fun (i : Nat) (hi : i < 10) => (hg147 _ (q_nc (q_f5 rfl) (q_nc (q_f5 rfl) List.not_mem_nil))).trans (FDL i hi)
                              refine q_gov V (q_runV (As := [.int x3]) (rest := []) (d := 8) (mc := 1) (ms := 6) (ci := 0) C0 V rfl LV_NH_281 (c_NH_keepDecimal l D g u145 hlt qO0 qO1 qO2 qA3 qA4 qA5 qA6 qO7 qO8 qO9 qO10 qO11 qO12 qO13 qO14 qO17 qO18 qO19 qO20 qO21 qO22 qO23 qO24 qO25 qO26 qO27 qA35 x3 f7 hO0 hA4 hO7 hO8 hO17 hA35 (q_Ile (x := 0) (y := x3.toInt) (by decide) rfl (by have t1 : 0 ≤ x3.toInt := q_nltI c49; have t2 : x3.toInt < 10 := q_nleI c50; omega)) (q_Ile (x := x3.toInt) (y := 9) rfl (by decide) (by have t1 : 0 ≤ x3.toInt := q_nltI c49; have t2 : x3.toInt < 10 := q_nleI c50; omega)) qW qWL qD qDN qDL hfD FD FDN FDL _) rfl rfl hO0 rfl hl.1 rfl (Nat.le_of_ble_eq_true rfl) ⟨by decide, by decide⟩ ⟨Nat.le_of_ble_eq_true rfl, Nat.le_of_ble_eq_true rfl⟩ d_1_15_179) (fun u155 H locs hp154 V => ?_)
                              have hg156 := hp154
                              replace hF := q_gt hF hg156
                              exact q_retX (q_retv C0 V (⟨(show ((0 ≤ x1.toInt ∧ x1.toInt ≤ 2) ∧ (0 ≤ x2.toInt ∧ x2.toInt ≤ 9) ∧ (0 ≤ x3.toInt ∧ x3.toInt ≤ 9) ∧ (0 ≤ x5.toInt ∧ x5.toInt ≤ 7) ∧ (x1.toInt = 0 → ((-10000) ≤ x4.toInt ∧ x4.toInt ≤ 10000)) ∧ (x1.toInt ≠ 0 → (1 ≤ x4.toInt ∧ x4.toInt ≤ 1000))) from by have t1 : 0 ≤ x1.toInt := q_nltI c1; have t2 : x1.toInt ≤ 2 := q_nltI c8; have t3 : 0 ≤ x2.toInt := q_nltI c23; have t4 : x2.toInt < 10 := q_nleI c24; have t5 : 0 ≤ x3.toInt := q_nltI c49; have t6 : x3.toInt < 10 := q_nleI c50; have t7 : 0 ≤ x5.toInt := q_nltI c75; have t8 : x5.toInt ≤ 7 := q_nltI c76; have t9 : x1.toInt ≠ 0 := q_neI c99; have t10 : 1 ≤ x4.toInt := q_nltI c100; have t11 : x4.toInt ≤ 1000 := q_nltI c107; have t12 : x1.toInt ≠ 1 := q_neI c125; omega), hF⟩) d_1_15_182)
                      ·
                        refine lv_aload_n hx hb d_1_15_116 rfl (lv_at hl 1 rfl) ?_
                        refine q_get (ci := 0) (j := 7) (v := .ref qO8) C0 V i_NH rfl rfl hO0 (by decide) w_431 rfl d_1_15_117 ?_
                        refine lv_aload hx hb d_1_15_120 (lv_at hl 0 rfl) ?_
                        refine lv_aload_n hx hb d_1_15_122 rfl (lv_at hl 1 rfl) ?_
                        refine q_get (ci := 0) (j := 7) (v := .ref qO8) C0 V i_NH rfl rfl hO0 (by decide) w_431 rfl d_1_15_123 ?_
                        refine q_get (ci := 5) (j := 0) (v := .ref qO27) C0 V i_DW rfl rfl hO8 (by decide) w_211 rfl d_1_15_126 ?_
                        refine lv_iload hx hb d_1_15_129 (lv_at hl 5 rfl) ?_
                        refine lv_iload hx hb d_1_15_131 (lv_at hl 6 rfl) ?_
                        refine q_goi V (q_runV (As := [.ref (qD x2.toNatClampNeg), .ref qO27, .int x4, .int x5]) (rest := []) (d := 2) (mc := 0) (ms := 0) (ci := 5) C0 V rfl LV_NH_306 (c_DW_divideToPrecision l D g ws 30 (68 + 5 * x2.toNatClampNeg) 31 9 (69 + 5 * x2.toNatClampNeg) 10 qO8 (qD x2.toNatClampNeg) qO27 qO7 (qDN x2.toNatClampNeg) qO45 qO17 qO18 qO19 qO20 qO21 qO22 qO23 qO24 qO25 qO26 (qDL x2.toNatClampNeg) qA35 x4 x5 hO8 hr121 hO27 hO7 hr122 hO17 (q_f5 rfl) (q_Ile (x := 1) (y := x4.toInt) (by decide) rfl (by have t1 : 1 ≤ x4.toInt := q_nltI c100; have t2 : x4.toInt ≤ 1000 := q_nltI c107; omega)) (q_Ile (x := x4.toInt) (y := 1000) rfl (by decide) (by have t1 : 1 ≤ x4.toInt := q_nltI c100; have t2 : x4.toInt ≤ 1000 := q_nltI c107; omega)) (q_Ile (x := 0) (y := x5.toInt) (by decide) rfl (by have t1 : 0 ≤ x5.toInt := q_nltI c75; have t2 : x5.toInt ≤ 7 := q_nltI c76; omega)) (q_Ile (x := x5.toInt) (y := 7) rfl (by decide) (by have t1 : 0 ≤ x5.toInt := q_nltI c75; have t2 : x5.toInt ≤ 7 := q_nltI c76; omega)) _) rfl rfl hO8 rfl hl.1 rfl (Nat.le_of_ble_eq_true rfl) ⟨by decide, by decide⟩ ⟨Nat.le_of_ble_eq_true rfl, Nat.le_of_ble_eq_true rfl⟩ d_1_15_133) (fun v159 u158 H locs hp157 V => ?_)
                        obtain ⟨rfl, hg160, hO8, hO17⟩ := hp157
                        replace hF := q_gc hF hg160 (q_al (Nat.le_of_ble_eq_true rfl) (q_al (Nat.le_of_ble_eq_true rfl) (fun _ h => absurd h List.not_mem_nil)))
                        refine q_goxv V (q_runSX (As := [.int 1]) (rest := []) (d := 7) (mc := 1) (ms := 6) C0 V rfl LS_NH_138 (c_NH_canHave l D g u158 hlt 1 _) rfl hl.1 rfl (Nat.le_of_ble_eq_true rfl) ⟨by decide, by decide⟩ ⟨Nat.le_of_ble_eq_true rfl, Nat.le_of_ble_eq_true rfl⟩ d_1_15_136) (fun qx Ex ce u162 H locs hp161 V hce hcv hcl => ?_) (fun u162 H locs hp161 V => ?_)
                        ·
                          obtain ⟨c163, rfl, rfl⟩ := hp161
                          exact absurd c163 (by decide)
                        ·
                          obtain ⟨c165, rfl⟩ := hp161
                          refine lv_goto (tgt := 177) hx hb d_1_15_139 (by decide) ?_
                          refine lv_aload_n hx hb d_1_15_177 rfl (lv_at hl 1 rfl) ?_
                          refine lv_iload_n hx hb d_1_15_178 rfl (lv_at hl 4 rfl) ?_
                          replace hO0 := (hg160 _ (q_nc (q_pd 0 30 rfl) (q_nc (q_pd 0 10 rfl) List.not_mem_nil))).trans (hO0)
                          replace hA4 := (hg160 _ (q_nc (q_pd 6 30 rfl) (q_nc (q_pd 6 10 rfl) List.not_mem_nil))).trans (hA4)
                          replace hO7 := (hg160 _ (q_nc (q_pd 9 30 rfl) (q_nc (q_pd 9 10 rfl) List.not_mem_nil))).trans (hO7)
                          replace hA35 := (hg160 _ (q_nc (q_pd 11 30 rfl) (q_nc (q_pd 11 10 rfl) List.not_mem_nil))).trans (hA35)
                          replace FD := fun (i : Nat) (hi : i < 10) => (hg160 _ (q_nc (q_f5 rfl) (q_nc (q_f5 rfl) List.not_mem_nil))).trans (FD i hi)
                          replace FDN := fun (i : Nat) (hi : i < 10) => (hg160 _ (q_nc (q_f5 rfl) (q_nc (q_f5 rfl) List.not_mem_nil))).trans (FDN i hi)
                          replace FDL := fun (i : Nat) (hi : i < 10) => (hg160 _ (q_nc (q_f5 rfl) (q_nc (q_f5 rfl) List.not_mem_nil))).trans (FDL i hi)
                          refine q_gov V (q_runV (As := [.int x3]) (rest := []) (d := 8) (mc := 1) (ms := 6) (ci := 0) C0 V rfl LV_NH_281 (c_NH_keepDecimal l D g u158 hlt qO0 qO1 qO2 qA3 qA4 qA5 qA6 qO7 qO8 qO9 qO10 qO11 qO12 qO13 qO14 qO17 qO18 qO19 qO20 qO21 qO22 qO23 qO24 qO25 qO26 qO27 qA35 x3 f7 hO0 hA4 hO7 hO8 hO17 hA35 (q_Ile (x := 0) (y := x3.toInt) (by decide) rfl (by have t1 : 0 ≤ x3.toInt := q_nltI c49; have t2 : x3.toInt < 10 := q_nleI c50; omega)) (q_Ile (x := x3.toInt) (y := 9) rfl (by decide) (by have t1 : 0 ≤ x3.toInt := q_nltI c49; have t2 : x3.toInt < 10 := q_nleI c50; omega)) qW qWL qD qDN qDL hfD FD FDN FDL _) rfl rfl hO0 rfl hl.1 rfl (Nat.le_of_ble_eq_true rfl) ⟨by decide, by decide⟩ ⟨Nat.le_of_ble_eq_true rfl, Nat.le_of_ble_eq_true rfl⟩ d_1_15_179) (fun u168 H locs hp167 V => ?_)
                          have hg169 := hp167
                          replace hF := q_gt hF hg169
                          refine W.widen (k := 5) (n := 30) (Nat.le_of_ble_eq_true rfl) (Nat.le_of_ble_eq_true rfl) ?_
                          exact q_retX (q_retv C0 V (⟨(show ((0 ≤ x1.toInt ∧ x1.toInt ≤ 2) ∧ (0 ≤ x2.toInt ∧ x2.toInt ≤ 9) ∧ (0 ≤ x3.toInt ∧ x3.toInt ≤ 9) ∧ (0 ≤ x5.toInt ∧ x5.toInt ≤ 7) ∧ (x1.toInt = 0 → ((-10000) ≤ x4.toInt ∧ x4.toInt ≤ 10000)) ∧ (x1.toInt ≠ 0 → (1 ≤ x4.toInt ∧ x4.toInt ≤ 1000))) from by have t1 : 0 ≤ x1.toInt := q_nltI c1; have t2 : x1.toInt ≤ 2 := q_nltI c8; have t3 : 0 ≤ x2.toInt := q_nltI c23; have t4 : x2.toInt < 10 := q_nleI c24; have t5 : 0 ≤ x3.toInt := q_nltI c49; have t6 : x3.toInt < 10 := q_nleI c50; have t7 : 0 ≤ x5.toInt := q_nltI c75; have t8 : x5.toInt ≤ 7 := q_nltI c76; have t9 : x1.toInt ≠ 0 := q_neI c99; have t10 : 1 ≤ x4.toInt := q_nltI c100; have t11 : x4.toInt ≤ 1000 := q_nltI c107; have t12 : x1.toInt = 1 := q_eqI c125; omega), hF⟩) d_1_15_182)
              ·
                refine lv_iload hx hb d_1_15_43 (lv_at hl 4 rfl) ?_
                refine q_goi V (q_runS (As := [.int x4]) (rest := []) (d := 1) (mc := 0) (ms := 0) C0 V rfl LS_NH_299 (c_NH_isScale l D g ws x4 _) rfl hl.1 rfl (Nat.le_of_ble_eq_true rfl) ⟨by decide, by decide⟩ ⟨Nat.le_of_ble_eq_true rfl, Nat.le_of_ble_eq_true rfl⟩ d_1_15_45) (fun v172 u171 H locs hp170 V => ?_)
                rcases hp170 with ⟨c173, rfl, rfl⟩ | ⟨c175, c176, rfl, rfl⟩ | ⟨c178, c179, rfl, rfl⟩
                ·
                  refine lv_goto (tgt := 70) hx hb d_1_15_48 (by decide) ?_
                  refine q_goxv V (q_runSX (As := [.int 0]) (rest := []) (d := 7) (mc := 1) (ms := 6) C0 V rfl LS_NH_104 (c_NH_need l D g ws hlt 0 _) rfl hl.1 rfl (Nat.le_of_ble_eq_true rfl) ⟨by decide, by decide⟩ ⟨Nat.le_of_ble_eq_true rfl, Nat.le_of_ble_eq_true rfl⟩ d_1_15_70) (fun qx Ex ce u182 H locs hp181 V hce hcv hcl => ?_) (fun u182 H locs hp181 V => ?_)
                  ·
                    obtain ⟨c183, rfl, rfl⟩ := hp181
                    exact q_outT hno C0 V (⟨⟨rfl, (show ¬ ((0 ≤ x1.toInt ∧ x1.toInt ≤ 2) ∧ (0 ≤ x2.toInt ∧ x2.toInt ≤ 9) ∧ (0 ≤ x3.toInt ∧ x3.toInt ≤ 9) ∧ (0 ≤ x5.toInt ∧ x5.toInt ≤ 7) ∧ (x1.toInt = 0 → ((-10000) ≤ x4.toInt ∧ x4.toInt ≤ 10000)) ∧ (x1.toInt ≠ 0 → (1 ≤ x4.toInt ∧ x4.toInt ≤ 1000))) from by have t1 : 0 ≤ x1.toInt := q_nltI c1; have t2 : x1.toInt ≤ 2 := q_nltI c8; have t3 : 0 ≤ x2.toInt := q_nltI c23; have t4 : x2.toInt < 10 := q_nleI c24; have t5 : 0 ≤ x3.toInt := q_nltI c49; have t6 : x3.toInt < 10 := q_nleI c50; have t7 : 0 ≤ x5.toInt := q_nltI c75; have t8 : x5.toInt ≤ 7 := q_nltI c76; have t9 : x1.toInt = 0 := q_eqI c99; have t10 : x4.toInt < (-10000) := q_ltI c173; omega)⟩, hF⟩) hce hcv hcl (Nat.le_of_ble_eq_true rfl) (Nat.le_of_ble_eq_true rfl)
                  ·
                    obtain ⟨c185, rfl⟩ := hp181
                    exact absurd c185 (by decide)
                ·
                  refine lv_goto (tgt := 70) hx hb d_1_15_48 (by decide) ?_
                  refine q_goxv V (q_runSX (As := [.int 0]) (rest := []) (d := 7) (mc := 1) (ms := 6) C0 V rfl LS_NH_104 (c_NH_need l D g ws hlt 0 _) rfl hl.1 rfl (Nat.le_of_ble_eq_true rfl) ⟨by decide, by decide⟩ ⟨Nat.le_of_ble_eq_true rfl, Nat.le_of_ble_eq_true rfl⟩ d_1_15_70) (fun qx Ex ce u188 H locs hp187 V hce hcv hcl => ?_) (fun u188 H locs hp187 V => ?_)
                  ·
                    obtain ⟨c189, rfl, rfl⟩ := hp187
                    exact q_outT hno C0 V (⟨⟨rfl, (show ¬ ((0 ≤ x1.toInt ∧ x1.toInt ≤ 2) ∧ (0 ≤ x2.toInt ∧ x2.toInt ≤ 9) ∧ (0 ≤ x3.toInt ∧ x3.toInt ≤ 9) ∧ (0 ≤ x5.toInt ∧ x5.toInt ≤ 7) ∧ (x1.toInt = 0 → ((-10000) ≤ x4.toInt ∧ x4.toInt ≤ 10000)) ∧ (x1.toInt ≠ 0 → (1 ≤ x4.toInt ∧ x4.toInt ≤ 1000))) from by have t1 : 0 ≤ x1.toInt := q_nltI c1; have t2 : x1.toInt ≤ 2 := q_nltI c8; have t3 : 0 ≤ x2.toInt := q_nltI c23; have t4 : x2.toInt < 10 := q_nleI c24; have t5 : 0 ≤ x3.toInt := q_nltI c49; have t6 : x3.toInt < 10 := q_nleI c50; have t7 : 0 ≤ x5.toInt := q_nltI c75; have t8 : x5.toInt ≤ 7 := q_nltI c76; have t9 : x1.toInt = 0 := q_eqI c99; have t10 : (-10000) ≤ x4.toInt := q_nltI c175; have t11 : 10000 < x4.toInt := q_ltI c176; omega)⟩, hF⟩) hce hcv hcl (Nat.le_of_ble_eq_true rfl) (Nat.le_of_ble_eq_true rfl)
                  ·
                    obtain ⟨c191, rfl⟩ := hp187
                    exact absurd c191 (by decide)
                ·
                  refine lv_goto (tgt := 70) hx hb d_1_15_48 (by decide) ?_
                  refine q_goxv V (q_runSX (As := [.int 1]) (rest := []) (d := 7) (mc := 1) (ms := 6) C0 V rfl LS_NH_104 (c_NH_need l D g ws hlt 1 _) rfl hl.1 rfl (Nat.le_of_ble_eq_true rfl) ⟨by decide, by decide⟩ ⟨Nat.le_of_ble_eq_true rfl, Nat.le_of_ble_eq_true rfl⟩ d_1_15_70) (fun qx Ex ce u194 H locs hp193 V hce hcv hcl => ?_) (fun u194 H locs hp193 V => ?_)
                  ·
                    obtain ⟨c195, rfl, rfl⟩ := hp193
                    exact absurd c195 (by decide)
                  ·
                    obtain ⟨c197, rfl⟩ := hp193
                    refine lv_aload_n hx hb d_1_15_73 rfl (lv_at hl 0 rfl) ?_
                    refine q_get (ci := 0) (j := 3) (v := .ref qA4) C0 V i_NH rfl rfl hO0 (by decide) w_427 rfl d_1_15_74 ?_
                    refine lv_iload_n hx hb d_1_15_77 rfl (lv_at hl 2 rfl) ?_
                    have r199 : x2.toNatClampNeg < 10 := (q_r10 (x := x2.toInt) rfl (by have t1 : 0 ≤ x2.toInt := q_nltI c23; have t2 : x2.toInt < 10 := q_nleI c24; omega) (by have t1 : 0 ≤ x2.toInt := q_nltI c23; have t2 : x2.toInt < 10 := q_nleI c24; omega))
                    have hr200 : ws[68 + 5 * x2.toNatClampNeg]? = (some (qD x2.toNatClampNeg, .inr (3, [.ref (qDN x2.toNatClampNeg), .int 0, .int 1])) : Option (Nat × va_E)) := FD _ r199
                    have hr201 : ws[69 + 5 * x2.toNatClampNeg]? = (some (qDN x2.toNatClampNeg, .inr (2, [.ref (qDL x2.toNatClampNeg), .int 0, .int 0])) : Option (Nat × va_E)) := FDN _ r199
                    have hr202 : ws[70 + 5 * x2.toNatClampNeg]? = (some (qDL x2.toNatClampNeg, .inl (g 0, 108, .inl (fun _ => 0))) : Option (Nat × va_E)) := FDL _ r199
                    have hh : x2.toNatClampNeg < 10 := (q_r10 (x := x2.toInt) rfl (by have t1 : 0 ≤ x2.toInt := q_nltI c23; have t2 : x2.toInt < 10 := q_nleI c24; omega) (by have t1 : 0 ≤ x2.toInt := q_nltI c23; have t2 : x2.toInt < 10 := q_nleI c24; omega))
                    refine q_aald (t := 5) (q := qD x2.toNatClampNeg) C0 V hA4 rfl (q_ix (x := x2.toInt) rfl (by have t1 : 0 ≤ x2.toInt := q_nltI c23; have t2 : x2.toInt < 10 := q_nleI c24; omega) (by have t1 : 0 ≤ x2.toInt := q_nltI c23; have t2 : x2.toInt < 10 := q_nleI c24; omega)) (hfD _ hh) d_1_15_78 ?_
                    refine lv_astore (lv' := [(6, .ref (qD x2.toNatClampNeg)), (0, .ref qO0), (1, .int x1), (2, .int x2), (3, .int x3), (4, .int x4), (5, .int x5)]) hx hb d_1_15_79 hl (by decide) rfl (fun ls hl => ?_)
                    refine lv_iload_n hx hb d_1_15_81 rfl (lv_at hl 2 rfl) ?_
                    refine q_ti (v := 0) c99 ?_
                    refine lv_if_ne (tgt := 111) hx hb d_1_15_82 (by decide) (fun c203 => absurd (by decide) c203) (fun c203 => ?_)
                    refine lv_aload_n hx hb d_1_15_85 rfl (lv_at hl 1 rfl) ?_
                    refine q_get (ci := 0) (j := 7) (v := .ref qO8) C0 V i_NH rfl rfl hO0 (by decide) w_431 rfl d_1_15_86 ?_
                    refine lv_aload hx hb d_1_15_89 (lv_at hl 0 rfl) ?_
                    refine lv_aload_n hx hb d_1_15_91 rfl (lv_at hl 1 rfl) ?_
                    refine q_get (ci := 0) (j := 7) (v := .ref qO8) C0 V i_NH rfl rfl hO0 (by decide) w_431 rfl d_1_15_92 ?_
                    refine q_get (ci := 5) (j := 0) (v := .ref qO27) C0 V i_DW rfl rfl hO8 (by decide) w_211 rfl d_1_15_95 ?_
                    refine lv_iload hx hb d_1_15_98 (lv_at hl 5 rfl) ?_
                    refine lv_iload hx hb d_1_15_100 (lv_at hl 6 rfl) ?_
                    refine q_goi V (q_runV (As := [.ref (qD x2.toNatClampNeg), .ref qO27, .int x4, .int x5]) (rest := []) (d := 2) (mc := 0) (ms := 0) (ci := 5) C0 V rfl LV_NH_302 (c_DW_divideToScale l D g ws 30 (68 + 5 * x2.toNatClampNeg) 31 9 (69 + 5 * x2.toNatClampNeg) 10 qO8 (qD x2.toNatClampNeg) qO27 qO7 (qDN x2.toNatClampNeg) qO45 qO17 qO18 qO19 qO20 qO21 qO22 qO23 qO24 qO25 qO26 (qDL x2.toNatClampNeg) qA35 x4 x5 hO8 hr200 hO27 hO7 hr201 hO17 (q_f5 rfl) (q_Ile (x := (-10000)) (y := x4.toInt) (by decide) rfl (by have t1 : (-10000) ≤ x4.toInt := q_nltI c178; have t2 : x4.toInt ≤ 10000 := q_nltI c179; omega)) (q_Ile (x := x4.toInt) (y := 10000) rfl (by decide) (by have t1 : (-10000) ≤ x4.toInt := q_nltI c178; have t2 : x4.toInt ≤ 10000 := q_nltI c179; omega)) (q_Ile (x := 0) (y := x5.toInt) (by decide) rfl (by have t1 : 0 ≤ x5.toInt := q_nltI c75; have t2 : x5.toInt ≤ 7 := q_nltI c76; omega)) (q_Ile (x := x5.toInt) (y := 7) rfl (by decide) (by have t1 : 0 ≤ x5.toInt := q_nltI c75; have t2 : x5.toInt ≤ 7 := q_nltI c76; omega)) _) rfl rfl hO8 rfl hl.1 rfl (Nat.le_of_ble_eq_true rfl) ⟨by decide, by decide⟩ ⟨Nat.le_of_ble_eq_true rfl, Nat.le_of_ble_eq_true rfl⟩ d_1_15_102) (fun v206 u205 H locs hp204 V => ?_)
                    obtain ⟨rfl, hg207, hO8, hO17⟩ := hp204
                    replace hF := q_gc hF hg207 (q_al (Nat.le_of_ble_eq_true rfl) (q_al (Nat.le_of_ble_eq_true rfl) (fun _ h => absurd h List.not_mem_nil)))
                    refine q_goxv V (q_runSX (As := [.int 1]) (rest := []) (d := 7) (mc := 1) (ms := 6) C0 V rfl LS_NH_138 (c_NH_canHave l D g u205 hlt 1 _) rfl hl.1 rfl (Nat.le_of_ble_eq_true rfl) ⟨by decide, by decide⟩ ⟨Nat.le_of_ble_eq_true rfl, Nat.le_of_ble_eq_true rfl⟩ d_1_15_105) (fun qx Ex ce u209 H locs hp208 V hce hcv hcl => ?_) (fun u209 H locs hp208 V => ?_)
                    ·
                      obtain ⟨c210, rfl, rfl⟩ := hp208
                      exact absurd c210 (by decide)
                    ·
                      obtain ⟨c212, rfl⟩ := hp208
                      refine lv_goto (tgt := 177) hx hb d_1_15_108 (by decide) ?_
                      refine lv_aload_n hx hb d_1_15_177 rfl (lv_at hl 1 rfl) ?_
                      refine lv_iload_n hx hb d_1_15_178 rfl (lv_at hl 4 rfl) ?_
                      replace hO0 := (hg207 _ (q_nc (q_pd 0 30 rfl) (q_nc (q_pd 0 10 rfl) List.not_mem_nil))).trans (hO0)
                      replace hA4 := (hg207 _ (q_nc (q_pd 6 30 rfl) (q_nc (q_pd 6 10 rfl) List.not_mem_nil))).trans (hA4)
                      replace hO7 := (hg207 _ (q_nc (q_pd 9 30 rfl) (q_nc (q_pd 9 10 rfl) List.not_mem_nil))).trans (hO7)
                      replace hA35 := (hg207 _ (q_nc (q_pd 11 30 rfl) (q_nc (q_pd 11 10 rfl) List.not_mem_nil))).trans (hA35)
                      replace FD := fun (i : Nat) (hi : i < 10) => (hg207 _ (q_nc (q_f5 rfl) (q_nc (q_f5 rfl) List.not_mem_nil))).trans (FD i hi)
                      replace FDN := fun (i : Nat) (hi : i < 10) => (hg207 _ (q_nc (q_f5 rfl) (q_nc (q_f5 rfl) List.not_mem_nil))).trans (FDN i hi)
                      replace FDL := fun (i : Nat) (hi : i < 10) => (hg207 _ (q_nc (q_f5 rfl) (q_nc (q_f5 rfl) List.not_mem_nil))).trans (FDL i hi)
                      refine q_goxv V (q_runVX (As := [.int x3]) (rest := []) (d := 8) (mc := 1) (ms := 6) (ci := 0) C0 V rfl LV_NH_281 (c_NH_keepDecimal_2 l D g u205 hlt qO0 qO1 qO2 qA3 qA4 qA5 qA6 qO7 qO8 qO9 qO10 qO11 qO12 qO13 qO14 qO17 qO18 qO19 qO20 qO21 qO22 qO23 qO24 qO25 qO26 qO27 qA35 x3 f7 x4.toInt64 hO0 hA4 hO7 hO8 hO17 hA35 (q_Ile (x := 0) (y := x3.toInt) (by decide) rfl (by have t1 : 0 ≤ x3.toInt := q_nltI c49; have t2 : x3.toInt < 10 := q_nleI c50; omega)) (q_Ile (x := x3.toInt) (y := 9) rfl (by decide) (by have t1 : 0 ≤ x3.toInt := q_nltI c49; have t2 : x3.toInt < 10 := q_nleI c50; omega)) qW qWL qD qDN qDL hfD FD FDN FDL _) rfl rfl hO0 rfl hl.1 rfl (Nat.le_of_ble_eq_true rfl) ⟨by decide, by decide⟩ ⟨Nat.le_of_ble_eq_true rfl, Nat.le_of_ble_eq_true rfl⟩ d_1_15_179) (fun qx Ex ce u215 H locs hp214 V hce hcv hcl => ?_) (fun u215 H locs hp214 V => ?_)
                      ·
                        rcases hp214 with ⟨c216, rfl, hg217⟩ | ⟨c218, c219, rfl, hg220⟩
                        ·
                          exfalso; exact (by have t1 : 0 ≤ x1.toInt := q_nltI c1; have t2 : x1.toInt ≤ 2 := q_nltI c8; have t3 : 0 ≤ x2.toInt := q_nltI c23; have t4 : x2.toInt < 10 := q_nleI c24; have t5 : 0 ≤ x3.toInt := q_nltI c49; have t6 : x3.toInt < 10 := q_nleI c50; have t7 : 0 ≤ x5.toInt := q_nltI c75; have t8 : x5.toInt ≤ 7 := q_nltI c76; have t9 : x1.toInt = 0 := q_eqI c99; have t10 : (-10000) ≤ x4.toInt := q_nltI c178; have t11 : x4.toInt ≤ 10000 := q_nltI c179; have ea : (x4.toInt64 : Int64).toInt = x4.toInt := (q_i2l (x := x4.toInt) rfl); have eb : ((-10000) : Int64).toInt = (-10000) := (by decide); have ec := q_k1 c216; have b0l := q_lo32 (x := x4); have b0h := q_hi32 (x := x4); omega)
                        ·
                          exfalso; exact (by have t1 : 0 ≤ x1.toInt := q_nltI c1; have t2 : x1.toInt ≤ 2 := q_nltI c8; have t3 : 0 ≤ x2.toInt := q_nltI c23; have t4 : x2.toInt < 10 := q_nleI c24; have t5 : 0 ≤ x3.toInt := q_nltI c49; have t6 : x3.toInt < 10 := q_nleI c50; have t7 : 0 ≤ x5.toInt := q_nltI c75; have t8 : x5.toInt ≤ 7 := q_nltI c76; have t9 : x1.toInt = 0 := q_eqI c99; have t10 : (-10000) ≤ x4.toInt := q_nltI c178; have t11 : x4.toInt ≤ 10000 := q_nltI c179; have ea : (x4.toInt64 : Int64).toInt = x4.toInt := (q_i2l (x := x4.toInt) rfl); have eb : (10000 : Int64).toInt = 10000 := (by decide); have ec := q_k6 c219; have b0l := q_lo32 (x := x4); have b0h := q_hi32 (x := x4); omega)
                      ·
                        obtain ⟨c221, c222, hg223⟩ := hp214
                        replace hF := q_gt hF hg223
                        refine W.widen (k := 5) (n := 30) (Nat.le_of_ble_eq_true rfl) (Nat.le_of_ble_eq_true rfl) ?_
                        exact q_retX (q_retv C0 V (⟨(show ((0 ≤ x1.toInt ∧ x1.toInt ≤ 2) ∧ (0 ≤ x2.toInt ∧ x2.toInt ≤ 9) ∧ (0 ≤ x3.toInt ∧ x3.toInt ≤ 9) ∧ (0 ≤ x5.toInt ∧ x5.toInt ≤ 7) ∧ (x1.toInt = 0 → ((-10000) ≤ x4.toInt ∧ x4.toInt ≤ 10000)) ∧ (x1.toInt ≠ 0 → (1 ≤ x4.toInt ∧ x4.toInt ≤ 1000))) from by have t1 : 0 ≤ x1.toInt := q_nltI c1; have t2 : x1.toInt ≤ 2 := q_nltI c8; have t3 : 0 ≤ x2.toInt := q_nltI c23; have t4 : x2.toInt < 10 := q_nleI c24; have t5 : 0 ≤ x3.toInt := q_nltI c49; have t6 : x3.toInt < 10 := q_nleI c50; have t7 : 0 ≤ x5.toInt := q_nltI c75; have t8 : x5.toInt ≤ 7 := q_nltI c76; have t9 : x1.toInt = 0 := q_eqI c99; have t10 : (-10000) ≤ x4.toInt := q_nltI c178; have t11 : x4.toInt ≤ 10000 := q_nltI c179; have ea12 : (x4.toInt64 : Int64).toInt = x4.toInt := (q_i2l (x := x4.toInt) rfl); have eb12 : ((-10000) : Int64).toInt = (-10000) := (by decide); have ec12 := q_k2 c221; have ea13 : (x4.toInt64 : Int64).toInt = x4.toInt := (q_i2l (x := x4.toInt) rfl); have eb13 : (10000 : Int64).toInt = 10000 := (by decide); have ec13 := q_k5 c222; omega), hF⟩) d_1_15_182)
