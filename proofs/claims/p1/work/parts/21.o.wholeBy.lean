/-! the class on a fresh object: wholeBy -/
set_option maxRecDepth 100000 in
set_option maxHeartbeats 4000000 in
theorem c_Big_shiftRight_3 (l : Launch) (D : va_G) (g : Nat → ClassId) (ws : va_W) (kO0 qO0 qA1 : Nat) (x1 : Int32) (hO0 : ws[kO0]? = (some (qO0, .inr (2, [.ref qA1, .int 0, .int 0])) : Option (Nat × va_E))) (x1lo : 1 ≤ x1) (x1hi : x1 ≤ 2048) : q_mI l y_Big_shiftRight prog_2_method_33_code 7 (.boolean) 1 0 0 D g [.ref qO0, .int x1] ws (fun r u => 0 = r ∧ ws = u) := by
  intro sz
  refine q_into (by decide) (Nat.le_of_ble_eq_true rfl) ?_
  intro p e s m below meth c ls hsz C0 V hl
  have hx := C0.1
  have hb := C0.2.1
  have hl : lv_has ls 7 [(0, .ref qO0), (1, .int x1)] := hl
  refine lv_iload_n hx hb d_2_33_0 rfl (lv_at hl 1 rfl) ?_
  refine lv_if_le (tgt := 11) hx hb d_2_33_1 (by decide) (fun c1 => absurd c1 (Int32.not_le.mpr (q_Ilt (x := 0) (y := x1.toInt) (by decide) rfl (by have t1 : 1 ≤ x1.toInt := q_leI x1lo; have t2 : x1.toInt ≤ 2048 := q_leI x1hi; omega)))) (fun c1 => ?_)
  refine lv_aload_n hx hb d_2_33_4 rfl (lv_at hl 0 rfl) ?_
  refine q_get (ci := 2) (j := 1) (v := .int 0) C0 V i_Big rfl rfl hO0 (by decide) w_85 rfl d_2_33_5 ?_
  refine lv_if_ne (tgt := 13) hx hb d_2_33_8 (by decide) (fun c2 => absurd (by decide) c2) (fun c2 => ?_)
  refine lv_iconst (v := 0) hx hb d_2_33_11 (by decide) ?_
  exact q_retz C0 V (rfl) (⟨rfl, rfl⟩) d_2_33_12
theorem d_2_32_14 : decode prog_2_method_32_code 14 = .ok (.aload_n 0, 1) := by decide +kernel
theorem d_2_32_15 : decode prog_2_method_32_code 15 = .ok (.getfield 13, 3) := by decide +kernel
theorem d_2_32_18 : decode prog_2_method_32_code 18 = .ok (.ifCond .eq 12, 3) := by decide +kernel
set_option maxRecDepth 100000 in
set_option maxHeartbeats 4000000 in
theorem c_Big_shiftLeft_3 (l : Launch) (D : va_G) (g : Nat → ClassId) (ws : va_W) (kO0 qO0 qA1 : Nat) (x1 : Int32) (hO0 : ws[kO0]? = (some (qO0, .inr (2, [.ref qA1, .int 0, .int 0])) : Option (Nat × va_E))) : q_mV l y_Big_shiftLeft prog_2_method_32_code 6 1 0 0 D g [.ref qO0, .int x1] ws (fun u => ws = u) := by
  intro sz
  refine q_into (by decide) (Nat.le_of_ble_eq_true rfl) ?_
  intro p e s m below meth c ls hsz C0 V hl
  have hx := C0.1
  have hb := C0.2.1
  have hl : lv_has ls 6 [(0, .ref qO0), (1, .int x1)] := hl
  refine lv_iload_n hx hb d_2_32_0 rfl (lv_at hl 1 rfl) ?_
  refine lv_bipush (v := 31) hx hb d_2_32_1 (by decide) ?_
  refine lv_idiv hx hb d_2_32_3 (by decide) ?_
  refine lv_istore_n (lv' := [(2, .int (x1 / 31)), (0, .ref qO0), (1, .int x1)]) hx hb d_2_32_4 rfl hl (by decide) rfl (fun ls hl => ?_)
  refine lv_iload_n hx hb d_2_32_5 rfl (lv_at hl 2 rfl) ?_
  refine lv_bipush (v := 31) hx hb d_2_32_6 (by decide) ?_
  refine lv_irem hx hb d_2_32_8 (by decide) ?_
  refine lv_istore_n (lv' := [(3, .int (x1 - x1 / 31 * 31)), (2, .int (x1 / 31)), (0, .ref qO0), (1, .int x1)]) hx hb d_2_32_9 rfl hl (by decide) rfl (fun ls hl => ?_)
  refine lv_iload_n hx hb d_2_32_10 rfl (lv_at hl 3 rfl) ?_
  refine lv_if_le (tgt := 30) hx hb d_2_32_11 (by decide) (fun c1 => ?_) (fun c1 => ?_)
  ·
    exact q_retv C0 V (rfl) d_2_32_30
  ·
    refine lv_aload_n hx hb d_2_32_14 rfl (lv_at hl 2 rfl) ?_
    refine q_get (ci := 2) (j := 1) (v := .int 0) C0 V i_Big rfl rfl hO0 (by decide) w_85 rfl d_2_32_15 ?_
    refine lv_if_eq (tgt := 30) hx hb d_2_32_18 (by decide) (fun c2 => ?_) (fun c2 => absurd (by decide) c2)
    exact q_retv C0 V (rfl) d_2_32_30
theorem d_8_10_0 : decode prog_8_method_10_code 0 = .ok (.aload_n 0, 1) := by decide +kernel
theorem d_8_10_1 : decode prog_8_method_10_code 1 = .ok (.getfield 16, 3) := by decide +kernel
theorem d_8_10_4 : decode prog_8_method_10_code 4 = .ok (.aload_n 1, 1) := by decide +kernel
theorem d_8_10_5 : decode prog_8_method_10_code 5 = .ok (.invokevirtual 51, 3) := by decide +kernel
theorem d_8_10_8 : decode prog_8_method_10_code 8 = .ok (.iload_n 2, 1) := by decide +kernel
theorem d_8_10_9 : decode prog_8_method_10_code 9 = .ok (.ifCond .lt 29, 3) := by decide +kernel
theorem d_8_10_38 : decode prog_8_method_10_code 38 = .ok (.iload_n 2, 1) := by decide +kernel
theorem d_8_10_39 : decode prog_8_method_10_code 39 = .ok (.sipush (-2048), 3) := by decide +kernel
theorem d_8_10_42 : decode prog_8_method_10_code 42 = .ok (.if_icmp .ge 9, 3) := by decide +kernel
theorem d_8_10_51 : decode prog_8_method_10_code 51 = .ok (.iload_n 2, 1) := by decide +kernel
theorem d_8_10_52 : decode prog_8_method_10_code 52 = .ok (.ineg, 1) := by decide +kernel
theorem d_8_10_53 : decode prog_8_method_10_code 53 = .ok (.istore_n 3, 1) := by decide +kernel
theorem d_8_10_54 : decode prog_8_method_10_code 54 = .ok (.aload_n 0, 1) := by decide +kernel
theorem d_8_10_55 : decode prog_8_method_10_code 55 = .ok (.getfield 16, 3) := by decide +kernel
theorem d_8_10_58 : decode prog_8_method_10_code 58 = .ok (.iload_n 3, 1) := by decide +kernel
theorem d_8_10_59 : decode prog_8_method_10_code 59 = .ok (.invokevirtual 116, 3) := by decide +kernel
theorem w_1345 : (Cond.methodLink "NumberHouse$Mill" (116 : Nat) ({ cls := "NumberHouse$Big", name := "shiftRight", desc := "(I)Z" } : MethodName)) ∈ q_tbl := q_of 1345 (by decide +kernel) (by decide +kernel)
theorem LV_Mil_116 : q_LV "NumberHouse$Mill" 116 y_Big_shiftRight prog_2_method_33_code 7 (some .boolean) 1 := ⟨w_1062, w_4, w_1345, w_1060, w_1061, ⟨by decide, by decide, by decide +kernel⟩⟩
theorem d_8_10_62 : decode prog_8_method_10_code 62 = .ok (.ifCond .eq 32, 3) := by decide +kernel
theorem d_8_10_94 : decode prog_8_method_10_code 94 = .ok (.iconst 1, 1) := by decide +kernel
theorem d_8_10_95 : decode prog_8_method_10_code 95 = .ok (.ireturn, 1) := by decide +kernel
theorem d_8_10_45 : decode prog_8_method_10_code 45 = .ok (.sipush 2048, 3) := by decide +kernel
theorem d_8_10_48 : decode prog_8_method_10_code 48 = .ok (.goto 5, 3) := by decide +kernel
theorem d_8_10_12 : decode prog_8_method_10_code 12 = .ok (.aload_n 1, 1) := by decide +kernel
theorem d_8_10_13 : decode prog_8_method_10_code 13 = .ok (.getfield 62, 3) := by decide +kernel
theorem d_8_10_16 : decode prog_8_method_10_code 16 = .ok (.ifCond .le 12, 3) := by decide +kernel
theorem d_8_10_28 : decode prog_8_method_10_code 28 = .ok (.aload_n 0, 1) := by decide +kernel
theorem d_8_10_29 : decode prog_8_method_10_code 29 = .ok (.getfield 16, 3) := by decide +kernel
theorem d_8_10_32 : decode prog_8_method_10_code 32 = .ok (.iload_n 2, 1) := by decide +kernel
theorem d_8_10_33 : decode prog_8_method_10_code 33 = .ok (.invokevirtual 96, 3) := by decide +kernel
theorem w_1337 : (Cond.methodLink "NumberHouse$Mill" (96 : Nat) ({ cls := "NumberHouse$Big", name := "shiftLeft", desc := "(I)V" } : MethodName)) ∈ q_tbl := q_of 1337 (by decide +kernel) (by decide +kernel)
theorem LV_Mil_96 : q_LV "NumberHouse$Mill" 96 y_Big_shiftLeft prog_2_method_32_code 6 none 1 := ⟨w_808, w_4, w_1337, w_806, w_807, ⟨by decide, by decide, by decide +kernel⟩⟩
theorem d_8_10_36 : decode prog_8_method_10_code 36 = .ok (.iconst 1, 1) := by decide +kernel
theorem d_8_10_37 : decode prog_8_method_10_code 37 = .ok (.ireturn, 1) := by decide +kernel
def y_Mil_shifted : MethodName := ⟨"NumberHouse$Mill", "shifted", "(LNumberHouse$Big;I)Z"⟩
set_option maxRecDepth 100000 in
set_option maxHeartbeats 4000000 in
theorem c_Mil_shifted (l : Launch) (D : va_G) (g : Nat → ClassId) (ws : va_W) (kO0 kO1 kO2 kA12 kA13 qO0 qO1 qO2 qO3 qO4 qO5 qO6 qO7 qO8 qO9 qO10 qO11 qA12 qA13 : Nat) (x1 : Int32) (hO0 : ws[kO0]? = (some (qO0, .inr (4, [.ref qO2, .ref qO3, .ref qO4, .ref qO5, .ref qO6, .ref qO7, .ref qO8, .ref qO9, .ref qO10, .ref qO11])) : Option (Nat × va_E))) (hO1 : ws[kO1]? = (some (qO1, .inr (2, [.ref qA12, .int 0, .int 0])) : Option (Nat × va_E))) (hO2 : ws[kO2]? = (some (qO2, .inr (2, [.ref qA13, .int 0, .int 0])) : Option (Nat × va_E))) (hA12 : ws[kA12]? = (some (qA12, .inl (g 0, 68, .inl (fun _ => 0))) : Option (Nat × va_E))) (hA13 : ws[kA13]? = (some (qA13, .inl (g 0, 220, .inl (fun _ => 0))) : Option (Nat × va_E))) (n_A12_A13 : kA12 ≠ kA13) (n_O1_O2 : kO1 ≠ kO2) : q_mI l y_Mil_shifted prog_8_method_10_code 4 (.boolean) 3 0 0 D g [.ref qO0, .ref qO1, .int x1] ws (fun r u => 1 = r ∧ q_un ws u [kO2, kA13] ∧ u[kO2]? = (some (qO2, .inr (2, [.ref qA13, .int 0, .int 0])) : Option (Nat × va_E)) ∧ u[kA13]? = (some (qA13, .inl (g 0, 220, .inl (fun _ => 0))) : Option (Nat × va_E))) := by
  intro sz
  refine q_into (by decide) (Nat.le_of_ble_eq_true rfl) ?_
  intro p e s m below meth c ls hsz C0 V hl
  have hx := C0.1
  have hb := C0.2.1
  have hl : lv_has ls 4 [(0, .ref qO0), (1, .ref qO1), (2, .int x1)] := hl
  have n_A12_O2 := q_df hA12 hO2
  have n_O0_A13 := Ne.symm (q_df hA13 hO0)
  have n_O0_O2 := q_dc hO0 hO2 (q_pd 4 2 rfl)
  have n_O1_A13 := Ne.symm (q_df hA13 hO1)
  have hF : q_un ws ws [kO2, kA13] := q_u0
  refine lv_aload_n hx hb d_8_10_0 rfl (lv_at hl 0 rfl) ?_
  refine q_get (ci := 4) (j := 0) (v := .ref qO2) C0 V i_Mil rfl rfl hO0 (by decide) w_108 rfl d_8_10_1 ?_
  refine lv_aload_n hx hb d_8_10_4 rfl (lv_at hl 1 rfl) ?_
  refine q_gov V (q_runV (As := [.ref qO1]) (rest := []) (d := 2) (mc := 0) (ms := 0) (ci := 2) C0 V rfl LV_Mil_51 (c_Big_copy_3 l D g ws kO2 kO1 kA13 kA12 qO2 qO1 qA13 qA12 hO2 hO1 hA13 hA12 n_A12_A13 n_O1_O2 _) rfl rfl hO2 rfl hl.1 rfl (Nat.le_of_ble_eq_true rfl) ⟨by decide, by decide⟩ ⟨Nat.le_of_ble_eq_true rfl, Nat.le_of_ble_eq_true rfl⟩ d_8_10_5) (fun u2 H locs hp1 V => ?_)
  obtain ⟨hg3, hO2, hA13⟩ := hp1
  replace hF := q_uc hF hg3 (q_sc (.head _) (q_sc (.tail _ (.head _)) (fun _ h => absurd h List.not_mem_nil)))
  refine lv_iload_n hx hb d_8_10_8 rfl (lv_at hl 2 rfl) ?_
  refine lv_if_lt (tgt := 38) hx hb d_8_10_9 (by decide) (fun c4 => ?_) (fun c4 => ?_)
  ·
    refine lv_iload_n hx hb d_8_10_38 rfl (lv_at hl 2 rfl) ?_
    refine lv_sipush (v := (-2048)) hx hb d_8_10_39 (by decide) ?_
    refine lv_icmp_ge (tgt := 51) hx hb d_8_10_42 (by decide) (fun c5 => ?_) (fun c5 => ?_)
    ·
      refine lv_iload_n hx hb d_8_10_51 rfl (lv_at hl 2 rfl) ?_
      refine lv_ineg hx hb d_8_10_52 ?_
      refine lv_istore_n (lv' := [(3, .int (-x1)), (0, .ref qO0), (1, .ref qO1), (2, .int x1)]) hx hb d_8_10_53 rfl hl (by decide) rfl (fun ls hl => ?_)
      refine lv_aload_n hx hb d_8_10_54 rfl (lv_at hl 1 rfl) ?_
      replace hO0 := (hg3 _ (q_nc n_O0_O2 (q_nc n_O0_A13 List.not_mem_nil))).trans (hO0)
      refine q_get (ci := 4) (j := 0) (v := .ref qO2) C0 V i_Mil rfl rfl hO0 (by decide) w_108 rfl d_8_10_55 ?_
      refine lv_iload_n hx hb d_8_10_58 rfl (lv_at hl 0 rfl) ?_
      refine q_goi V (q_runV (As := [.int (-x1)]) (rest := []) (d := 1) (mc := 0) (ms := 0) (ci := 2) C0 V rfl LV_Mil_116 (c_Big_shiftRight_3 l D g u2 kO2 qO2 qA13 (-x1) hO2 (q_Ile (x := 1) (y := (-x1.toInt)) (by decide) (q_negI (x := x1.toInt) rfl (by have t1 : x1.toInt < 0 := q_ltI c4; have t2 : (-2048) ≤ x1.toInt := q_leI c5; omega)) (by have t1 : x1.toInt < 0 := q_ltI c4; have t2 : (-2048) ≤ x1.toInt := q_leI c5; omega)) (q_Ile (x := (-x1.toInt)) (y := 2048) (q_negI (x := x1.toInt) rfl (by have t1 : x1.toInt < 0 := q_ltI c4; have t2 : (-2048) ≤ x1.toInt := q_leI c5; omega)) (by decide) (by have t1 : x1.toInt < 0 := q_ltI c4; have t2 : (-2048) ≤ x1.toInt := q_leI c5; omega)) _) rfl rfl hO2 rfl hl.1 rfl (Nat.le_of_ble_eq_true rfl) ⟨by decide, by decide⟩ ⟨Nat.le_of_ble_eq_true rfl, Nat.le_of_ble_eq_true rfl⟩ d_8_10_59) (fun v8 u7 H locs hp6 V => ?_)
      obtain ⟨rfl, rfl⟩ := hp6
      refine lv_if_eq (tgt := 94) hx hb d_8_10_62 (by decide) (fun c10 => ?_) (fun c10 => absurd (by decide) c10)
      refine lv_iconst (v := 1) hx hb d_8_10_94 (by decide) ?_
      exact q_retz C0 V (rfl) (⟨rfl, hF, hO2, hA13⟩) d_8_10_95
    ·
      refine lv_sipush (v := 2048) hx hb d_8_10_45 (by decide) ?_
      refine lv_goto (tgt := 53) hx hb d_8_10_48 (by decide) ?_
      refine lv_istore_n (lv' := [(3, .int 2048), (0, .ref qO0), (1, .ref qO1), (2, .int x1)]) hx hb d_8_10_53 rfl hl (by decide) rfl (fun ls hl => ?_)
      refine lv_aload_n hx hb d_8_10_54 rfl (lv_at hl 1 rfl) ?_
      replace hO0 := (hg3 _ (q_nc n_O0_O2 (q_nc n_O0_A13 List.not_mem_nil))).trans (hO0)
      refine q_get (ci := 4) (j := 0) (v := .ref qO2) C0 V i_Mil rfl rfl hO0 (by decide) w_108 rfl d_8_10_55 ?_
      refine lv_iload_n hx hb d_8_10_58 rfl (lv_at hl 0 rfl) ?_
      refine q_goi V (q_runV (As := [.int 2048]) (rest := []) (d := 1) (mc := 0) (ms := 0) (ci := 2) C0 V rfl LV_Mil_116 (c_Big_shiftRight_3 l D g u2 kO2 qO2 qA13 2048 hO2 (q_Ile (x := 1) (y := 2048) (by decide) (by decide) (by omega)) (q_Ile (x := 2048) (y := 2048) (by decide) (by decide) (by omega)) _) rfl rfl hO2 rfl hl.1 rfl (Nat.le_of_ble_eq_true rfl) ⟨by decide, by decide⟩ ⟨Nat.le_of_ble_eq_true rfl, Nat.le_of_ble_eq_true rfl⟩ d_8_10_59) (fun v13 u12 H locs hp11 V => ?_)
      obtain ⟨rfl, rfl⟩ := hp11
      refine lv_if_eq (tgt := 94) hx hb d_8_10_62 (by decide) (fun c15 => ?_) (fun c15 => absurd (by decide) c15)
      refine lv_iconst (v := 1) hx hb d_8_10_94 (by decide) ?_
      exact q_retz C0 V (rfl) (⟨rfl, hF, hO2, hA13⟩) d_8_10_95
  ·
    refine lv_aload_n hx hb d_8_10_12 rfl (lv_at hl 1 rfl) ?_
    replace hO1 := (hg3 _ (q_nc n_O1_O2 (q_nc n_O1_A13 List.not_mem_nil))).trans (hO1)
    refine q_get (ci := 2) (j := 1) (v := .int 0) C0 V i_Big rfl rfl hO1 (by decide) w_89 rfl d_8_10_13 ?_
    refine lv_if_le (tgt := 28) hx hb d_8_10_16 (by decide) (fun c16 => ?_) (fun c16 => absurd (by decide) c16)
    refine lv_aload_n hx hb d_8_10_28 rfl (lv_at hl 0 rfl) ?_
    replace hO0 := (hg3 _ (q_nc n_O0_O2 (q_nc n_O0_A13 List.not_mem_nil))).trans (hO0)
    refine q_get (ci := 4) (j := 0) (v := .ref qO2) C0 V i_Mil rfl rfl hO0 (by decide) w_108 rfl d_8_10_29 ?_
    refine lv_iload_n hx hb d_8_10_32 rfl (lv_at hl 2 rfl) ?_
    refine q_gov V (q_runV (As := [.int x1]) (rest := []) (d := 1) (mc := 0) (ms := 0) (ci := 2) C0 V rfl LV_Mil_96 (c_Big_shiftLeft_3 l D g u2 kO2 qO2 qA13 x1 hO2 _) rfl rfl hO2 rfl hl.1 rfl (Nat.le_of_ble_eq_true rfl) ⟨by decide, by decide⟩ ⟨Nat.le_of_ble_eq_true rfl, Nat.le_of_ble_eq_true rfl⟩ d_8_10_33) (fun u18 H locs hp17 V => ?_)
    obtain rfl := hp17
    refine lv_iconst (v := 1) hx hb d_8_10_36 (by decide) ?_
    exact q_retz C0 V (rfl) (⟨rfl, hF, hO2, hA13⟩) d_8_10_37
theorem d_8_9_0 : decode prog_8_method_9_code 0 = .ok (.aload_n 0, 1) := by decide +kernel
theorem d_8_9_1 : decode prog_8_method_9_code 1 = .ok (.getfield 26, 3) := by decide +kernel
theorem d_8_9_4 : decode prog_8_method_9_code 4 = .ok (.aload_n 1, 1) := by decide +kernel
theorem d_8_9_5 : decode prog_8_method_9_code 5 = .ok (.invokevirtual 51, 3) := by decide +kernel
theorem d_8_9_8 : decode prog_8_method_9_code 8 = .ok (.aload_n 1, 1) := by decide +kernel
theorem d_8_9_9 : decode prog_8_method_9_code 9 = .ok (.getfield 62, 3) := by decide +kernel
theorem d_8_9_12 : decode prog_8_method_9_code 12 = .ok (.ifCond .eq 8, 3) := by decide +kernel
theorem d_8_9_20 : decode prog_8_method_9_code 20 = .ok (.return_, 1) := by decide +kernel
def y_Mil_root : MethodName := ⟨"NumberHouse$Mill", "root", "(LNumberHouse$Big;I)V"⟩
set_option maxRecDepth 100000 in
set_option maxHeartbeats 4000000 in
theorem c_Mil_root (l : Launch) (D : va_G) (g : Nat → ClassId) (ws : va_W) (kO0 kO1 kO5 kA12 kA16 qO0 qO1 qO2 qO3 qO4 qO5 qO6 qO7 qO8 qO9 qO10 qO11 qA12 qA16 : Nat) (x1 : Int32) (hO0 : ws[kO0]? = (some (qO0, .inr (4, [.ref qO2, .ref qO3, .ref qO4, .ref qO5, .ref qO6, .ref qO7, .ref qO8, .ref qO9, .ref qO10, .ref qO11])) : Option (Nat × va_E))) (hO1 : ws[kO1]? = (some (qO1, .inr (2, [.ref qA12, .int 0, .int 0])) : Option (Nat × va_E))) (hO5 : ws[kO5]? = (some (qO5, .inr (2, [.ref qA16, .int 0, .int 0])) : Option (Nat × va_E))) (hA12 : ws[kA12]? = (some (qA12, .inl (g 0, 68, .inl (fun _ => 0))) : Option (Nat × va_E))) (hA16 : ws[kA16]? = (some (qA16, .inl (g 0, 220, .inl (fun _ => 0))) : Option (Nat × va_E))) (n_A12_A16 : kA12 ≠ kA16) (n_O1_O5 : kO1 ≠ kO5) (x1lo : 1 ≤ x1) (x1hi : x1 ≤ 64) : q_mV l y_Mil_root prog_8_method_9_code 4 3 0 0 D g [.ref qO0, .ref qO1, .int x1] ws (fun u => q_un ws u [kO5, kA16] ∧ u[kO5]? = (some (qO5, .inr (2, [.ref qA16, .int 0, .int 0])) : Option (Nat × va_E)) ∧ u[kA16]? = (some (qA16, .inl (g 0, 220, .inl (fun _ => 0))) : Option (Nat × va_E))) := by
  intro sz
  refine q_into (by decide) (Nat.le_of_ble_eq_true rfl) ?_
  intro p e s m below meth c ls hsz C0 V hl
  have hx := C0.1
  have hb := C0.2.1
  have hl : lv_has ls 4 [(0, .ref qO0), (1, .ref qO1), (2, .int x1)] := hl
  have n_A12_O5 := q_df hA12 hO5
  have n_O0_A16 := Ne.symm (q_df hA16 hO0)
  have n_O0_O5 := q_dc hO0 hO5 (q_pd 4 2 rfl)
  have n_O1_A16 := Ne.symm (q_df hA16 hO1)
  have hF : q_un ws ws [kO5, kA16] := q_u0
  refine lv_aload_n hx hb d_8_9_0 rfl (lv_at hl 0 rfl) ?_
  refine q_get (ci := 4) (j := 3) (v := .ref qO5) C0 V i_Mil rfl rfl hO0 (by decide) w_120 rfl d_8_9_1 ?_
  refine lv_aload_n hx hb d_8_9_4 rfl (lv_at hl 1 rfl) ?_
  refine q_gov V (q_runV (As := [.ref qO1]) (rest := []) (d := 2) (mc := 0) (ms := 0) (ci := 2) C0 V rfl LV_Mil_51 (c_Big_copy_3 l D g ws kO5 kO1 kA16 kA12 qO5 qO1 qA16 qA12 hO5 hO1 hA16 hA12 n_A12_A16 n_O1_O5 _) rfl rfl hO5 rfl hl.1 rfl (Nat.le_of_ble_eq_true rfl) ⟨by decide, by decide⟩ ⟨Nat.le_of_ble_eq_true rfl, Nat.le_of_ble_eq_true rfl⟩ d_8_9_5) (fun u2 H locs hp1 V => ?_)
  obtain ⟨hg3, hO5, hA16⟩ := hp1
  replace hF := q_uc hF hg3 (q_sc (.head _) (q_sc (.tail _ (.head _)) (fun _ h => absurd h List.not_mem_nil)))
  refine lv_aload_n hx hb d_8_9_8 rfl (lv_at hl 1 rfl) ?_
  replace hO1 := (hg3 _ (q_nc n_O1_O5 (q_nc n_O1_A16 List.not_mem_nil))).trans (hO1)
  refine q_get (ci := 2) (j := 1) (v := .int 0) C0 V i_Big rfl rfl hO1 (by decide) w_89 rfl d_8_9_9 ?_
  refine lv_if_eq (tgt := 20) hx hb d_8_9_12 (by decide) (fun c4 => ?_) (fun c4 => absurd (by decide) c4)
  exact q_retv C0 V (⟨hF, hO5, hA16⟩) d_8_9_20
set_option maxRecDepth 100000 in
set_option maxHeartbeats 4000000 in
theorem c_Big_push_7 (l : Launch) (D : va_G) (g : Nat → ClassId) (ws : va_W) (kO0 kA1 qO0 qA1 : Nat) (hO0 : ws[kO0]? = (some (qO0, .inr (2, [.ref qA1, .int 0, .int 0])) : Option (Nat × va_E))) (hA1 : ws[kA1]? = (some (qA1, .inl (g 0, 220, .inl (fun _ => 0))) : Option (Nat × va_E))) : q_mV l y_Big_push prog_2_method_6_code 2 1 0 0 D g [.ref qO0, .int 1] ws (fun u => q_un ws u [kO0, kA1] ∧ u[kO0]? = (some (qO0, .inr (2, [.ref qA1, .int 1, .int 0])) : Option (Nat × va_E)) ∧ u[kA1]? = (some (qA1, .inl (g 0, 220, .inl (upd (fun _ => 0) 0 1))) : Option (Nat × va_E))) := by
  intro sz
  refine q_into (by decide) (Nat.le_of_ble_eq_true rfl) ?_
  intro p e s m below meth c ls hsz C0 V hl
  have hx := C0.1
  have hb := C0.2.1
  have hl : lv_has ls 2 [(0, .ref qO0), (1, .int 1)] := hl
  have n_A1_O0 := q_df hA1 hO0
  have n_O0_A1 := Ne.symm (q_df hA1 hO0)
  have hF : q_un ws ws [kO0, kA1] := q_u0
  refine lv_aload_n hx hb d_2_6_0 rfl (lv_at hl 0 rfl) ?_
  refine q_get (ci := 2) (j := 1) (v := .int 0) C0 V i_Big rfl rfl hO0 (by decide) w_85 rfl d_2_6_1 ?_
  refine lv_aload_n hx hb d_2_6_4 rfl (lv_at hl 0 rfl) ?_
  refine q_get (ci := 2) (j := 0) (v := .ref qA1) C0 V i_Big rfl rfl hO0 (by decide) w_84 rfl d_2_6_5 ?_
  refine q_alen (t := 0) (v := 220) C0 V hA1 rfl (by first | rfl | decide) d_2_6_8 ?_
  refine lv_icmp_ge (tgt := 32) hx hb d_2_6_9 (by decide) (fun c1 => absurd c1 (by decide)) (fun c1 => ?_)
  refine lv_aload_n hx hb d_2_6_12 rfl (lv_at hl 0 rfl) ?_
  refine q_get (ci := 2) (j := 0) (v := .ref qA1) C0 V i_Big rfl rfl hO0 (by decide) w_84 rfl d_2_6_13 ?_
  refine lv_aload_n hx hb d_2_6_16 rfl (lv_at hl 0 rfl) ?_
  refine q_get (ci := 2) (j := 1) (v := .int 0) C0 V i_Big rfl rfl hO0 (by decide) w_85 rfl d_2_6_17 ?_
  refine lv_iload_n hx hb d_2_6_20 rfl (lv_at hl 1 rfl) ?_
  refine q_iast C0 V hA1 (by unfold vp_in; decide) d_2_6_21 (fun H locs w2 hu3 hA1 V => ?_)
  replace hA1 : w2[kA1]? = (some (qA1, .inl (g 0, 220, .inl (upd (fun _ => 0) 0 1))) : Option (Nat × va_E)) := hA1
  replace hF := q_us hF hu3 (.tail _ (.head _))
  refine lv_aload_n hx hb d_2_6_22 rfl (lv_at hl 0 rfl) ?_
  refine lv_dup hx hb d_2_6_23 rfl ?_
  replace hO0 := (hu3 _ n_O0_A1).trans (hO0)
  refine q_get (ci := 2) (j := 1) (v := .int 0) C0 V i_Big rfl rfl hO0 (by decide) w_85 rfl d_2_6_24 ?_
  refine lv_iconst (v := 1) hx hb d_2_6_27 (by decide) ?_
  refine lv_iadd hx hb d_2_6_28 ?_
  refine q_ti (v := 1) (by decide) ?_
  refine q_put (ci := 2) (j := 1) (v := .int 1) (ty := .int) C0 V i_Big o_Big n_Big rfl rfl hO0 (by decide) w_85 rfl rfl rfl rfl (Nat.le_of_ble_eq_true rfl) d_2_6_29 (fun H locs w4 hu5 hO0 V => ?_)
  replace hO0 : w4[kO0]? = (some (qO0, .inr (2, [.ref qA1, .int 1, .int 0])) : Option (Nat × va_E)) := hO0
  replace hF := q_us hF hu5 (.head _)
  replace hA1 := (hu5 _ n_A1_O0).trans (hA1)
  exact q_retv C0 V (⟨hF, hO0, hA1⟩) d_2_6_32
set_option maxRecDepth 100000 in
set_option maxHeartbeats 4000000 in
theorem c_Big_push_8 (l : Launch) (D : va_G) (g : Nat → ClassId) (ws : va_W) (kO0 kA1 qO0 qA1 : Nat) (hO0 : ws[kO0]? = (some (qO0, .inr (2, [.ref qA1, .int 1, .int 0])) : Option (Nat × va_E))) (hA1 : ws[kA1]? = (some (qA1, .inl (g 0, 220, .inl (upd (fun _ => 0) 0 1))) : Option (Nat × va_E))) : q_mV l y_Big_push prog_2_method_6_code 2 1 0 0 D g [.ref qO0, .int 0] ws (fun u => q_un ws u [kO0, kA1] ∧ u[kO0]? = (some (qO0, .inr (2, [.ref qA1, .int 2, .int 0])) : Option (Nat × va_E)) ∧ u[kA1]? = (some (qA1, .inl (g 0, 220, .inl (upd (fun _ => 0) 0 1))) : Option (Nat × va_E))) := by
  intro sz
  refine q_into (by decide) (Nat.le_of_ble_eq_true rfl) ?_
  intro p e s m below meth c ls hsz C0 V hl
  have hx := C0.1
  have hb := C0.2.1
  have hl : lv_has ls 2 [(0, .ref qO0), (1, .int 0)] := hl
  have n_A1_O0 := q_df hA1 hO0
  have n_O0_A1 := Ne.symm (q_df hA1 hO0)
  have hF : q_un ws ws [kO0, kA1] := q_u0
  refine lv_aload_n hx hb d_2_6_0 rfl (lv_at hl 0 rfl) ?_
  refine q_get (ci := 2) (j := 1) (v := .int 1) C0 V i_Big rfl rfl hO0 (by decide) w_85 rfl d_2_6_1 ?_
  refine lv_aload_n hx hb d_2_6_4 rfl (lv_at hl 0 rfl) ?_
  refine q_get (ci := 2) (j := 0) (v := .ref qA1) C0 V i_Big rfl rfl hO0 (by decide) w_84 rfl d_2_6_5 ?_
  refine q_alen (t := 0) (v := 220) C0 V hA1 rfl (by first | rfl | decide) d_2_6_8 ?_
  refine lv_icmp_ge (tgt := 32) hx hb d_2_6_9 (by decide) (fun c1 => absurd c1 (by decide)) (fun c1 => ?_)
  refine lv_aload_n hx hb d_2_6_12 rfl (lv_at hl 0 rfl) ?_
  refine q_get (ci := 2) (j := 0) (v := .ref qA1) C0 V i_Big rfl rfl hO0 (by decide) w_84 rfl d_2_6_13 ?_
  refine lv_aload_n hx hb d_2_6_16 rfl (lv_at hl 0 rfl) ?_
  refine q_get (ci := 2) (j := 1) (v := .int 1) C0 V i_Big rfl rfl hO0 (by decide) w_85 rfl d_2_6_17 ?_
  refine lv_iload_n hx hb d_2_6_20 rfl (lv_at hl 1 rfl) ?_
  refine q_iast C0 V hA1 (by unfold vp_in; decide) d_2_6_21 (fun H locs w2 hu3 hA1 V => ?_)
  replace hA1 : w2[kA1]? = (some (qA1, .inl (g 0, 220, .inl (upd (upd (fun _ => 0) 0 1) 1 0))) : Option (Nat × va_E)) := hA1
  replace hA1 := q_re (y := (qA1, .inl (g 0, 220, .inl (upd (fun _ => 0) 0 1)))) hA1 (q_eI (by funext k; simp only [upd]; (repeat' split) <;> first | rfl | omega))
  replace hA1 : w2[kA1]? = (some (qA1, .inl (g 0, 220, .inl (upd (fun _ => 0) 0 1))) : Option (Nat × va_E)) := hA1
  replace hF := q_us hF hu3 (.tail _ (.head _))
  refine lv_aload_n hx hb d_2_6_22 rfl (lv_at hl 0 rfl) ?_
  refine lv_dup hx hb d_2_6_23 rfl ?_
  replace hO0 := (hu3 _ n_O0_A1).trans (hO0)
  refine q_get (ci := 2) (j := 1) (v := .int 1) C0 V i_Big rfl rfl hO0 (by decide) w_85 rfl d_2_6_24 ?_
  refine lv_iconst (v := 1) hx hb d_2_6_27 (by decide) ?_
  refine lv_iadd hx hb d_2_6_28 ?_
  refine q_ti (v := 2) (by decide) ?_
  refine q_put (ci := 2) (j := 1) (v := .int 2) (ty := .int) C0 V i_Big o_Big n_Big rfl rfl hO0 (by decide) w_85 rfl rfl rfl rfl (Nat.le_of_ble_eq_true rfl) d_2_6_29 (fun H locs w4 hu5 hO0 V => ?_)
  replace hO0 : w4[kO0]? = (some (qO0, .inr (2, [.ref qA1, .int 2, .int 0])) : Option (Nat × va_E)) := hO0
  replace hF := q_us hF hu5 (.head _)
  replace hA1 := (hu5 _ n_A1_O0).trans (hA1)
  exact q_retv C0 V (⟨hF, hO0, hA1⟩) d_2_6_32
set_option maxRecDepth 100000 in
set_option maxHeartbeats 4000000 in
theorem c_Big_push_9 (l : Launch) (D : va_G) (g : Nat → ClassId) (ws : va_W) (kO0 kA1 qO0 qA1 : Nat) (hO0 : ws[kO0]? = (some (qO0, .inr (2, [.ref qA1, .int 2, .int 0])) : Option (Nat × va_E))) (hA1 : ws[kA1]? = (some (qA1, .inl (g 0, 220, .inl (upd (fun _ => 0) 0 1))) : Option (Nat × va_E))) : q_mV l y_Big_push prog_2_method_6_code 2 1 0 0 D g [.ref qO0, .int 0] ws (fun u => q_un ws u [kO0, kA1] ∧ u[kO0]? = (some (qO0, .inr (2, [.ref qA1, .int 3, .int 0])) : Option (Nat × va_E)) ∧ u[kA1]? = (some (qA1, .inl (g 0, 220, .inl (upd (fun _ => 0) 0 1))) : Option (Nat × va_E))) := by
  intro sz
  refine q_into (by decide) (Nat.le_of_ble_eq_true rfl) ?_
  intro p e s m below meth c ls hsz C0 V hl
  have hx := C0.1
  have hb := C0.2.1
  have hl : lv_has ls 2 [(0, .ref qO0), (1, .int 0)] := hl
  have n_A1_O0 := q_df hA1 hO0
  have n_O0_A1 := Ne.symm (q_df hA1 hO0)
  have hF : q_un ws ws [kO0, kA1] := q_u0
  refine lv_aload_n hx hb d_2_6_0 rfl (lv_at hl 0 rfl) ?_
  refine q_get (ci := 2) (j := 1) (v := .int 2) C0 V i_Big rfl rfl hO0 (by decide) w_85 rfl d_2_6_1 ?_
  refine lv_aload_n hx hb d_2_6_4 rfl (lv_at hl 0 rfl) ?_
  refine q_get (ci := 2) (j := 0) (v := .ref qA1) C0 V i_Big rfl rfl hO0 (by decide) w_84 rfl d_2_6_5 ?_
  refine q_alen (t := 0) (v := 220) C0 V hA1 rfl (by first | rfl | decide) d_2_6_8 ?_
  refine lv_icmp_ge (tgt := 32) hx hb d_2_6_9 (by decide) (fun c1 => absurd c1 (by decide)) (fun c1 => ?_)
  refine lv_aload_n hx hb d_2_6_12 rfl (lv_at hl 0 rfl) ?_
  refine q_get (ci := 2) (j := 0) (v := .ref qA1) C0 V i_Big rfl rfl hO0 (by decide) w_84 rfl d_2_6_13 ?_
  refine lv_aload_n hx hb d_2_6_16 rfl (lv_at hl 0 rfl) ?_
  refine q_get (ci := 2) (j := 1) (v := .int 2) C0 V i_Big rfl rfl hO0 (by decide) w_85 rfl d_2_6_17 ?_
  refine lv_iload_n hx hb d_2_6_20 rfl (lv_at hl 1 rfl) ?_
  refine q_iast C0 V hA1 (by unfold vp_in; decide) d_2_6_21 (fun H locs w2 hu3 hA1 V => ?_)
  replace hA1 : w2[kA1]? = (some (qA1, .inl (g 0, 220, .inl (upd (upd (fun _ => 0) 0 1) 2 0))) : Option (Nat × va_E)) := hA1
  replace hA1 := q_re (y := (qA1, .inl (g 0, 220, .inl (upd (fun _ => 0) 0 1)))) hA1 (q_eI (by funext k; simp only [upd]; (repeat' split) <;> first | rfl | omega))
  replace hA1 : w2[kA1]? = (some (qA1, .inl (g 0, 220, .inl (upd (fun _ => 0) 0 1))) : Option (Nat × va_E)) := hA1
  replace hF := q_us hF hu3 (.tail _ (.head _))
  refine lv_aload_n hx hb d_2_6_22 rfl (lv_at hl 0 rfl) ?_
  refine lv_dup hx hb d_2_6_23 rfl ?_
  replace hO0 := (hu3 _ n_O0_A1).trans (hO0)
  refine q_get (ci := 2) (j := 1) (v := .int 2) C0 V i_Big rfl rfl hO0 (by decide) w_85 rfl d_2_6_24 ?_
  refine lv_iconst (v := 1) hx hb d_2_6_27 (by decide) ?_
  refine lv_iadd hx hb d_2_6_28 ?_
  refine q_ti (v := 3) (by decide) ?_
  refine q_put (ci := 2) (j := 1) (v := .int 3) (ty := .int) C0 V i_Big o_Big n_Big rfl rfl hO0 (by decide) w_85 rfl rfl rfl rfl (Nat.le_of_ble_eq_true rfl) d_2_6_29 (fun H locs w4 hu5 hO0 V => ?_)
  replace hO0 : w4[kO0]? = (some (qO0, .inr (2, [.ref qA1, .int 3, .int 0])) : Option (Nat × va_E)) := hO0
  replace hF := q_us hF hu5 (.head _)
  replace hA1 := (hu5 _ n_A1_O0).trans (hA1)
  exact q_retv C0 V (⟨hF, hO0, hA1⟩) d_2_6_32
set_option maxRecDepth 100000 in
set_option maxHeartbeats 4000000 in
theorem c_Big_trim_5 (l : Launch) (D : va_G) (g : Nat → ClassId) (ws : va_W) (kO0 kA1 qO0 qA1 : Nat) (hO0 : ws[kO0]? = (some (qO0, .inr (2, [.ref qA1, .int 3, .int 0])) : Option (Nat × va_E))) (hA1 : ws[kA1]? = (some (qA1, .inl (g 0, 220, .inl (upd (fun _ => 0) 0 1))) : Option (Nat × va_E))) : q_mV l y_Big_trim prog_2_method_7_code 2 1 0 0 D g [.ref qO0] ws (fun u => q_un ws u [kO0] ∧ u[kO0]? = (some (qO0, .inr (2, [.ref qA1, .int 1, .int 0])) : Option (Nat × va_E))) := by
  intro sz
  refine q_into (by decide) (Nat.le_of_ble_eq_true rfl) ?_
  intro p e s m below meth c ls hsz C0 V hl
  have hx := C0.1
  have hb := C0.2.1
  have hl : lv_has ls 2 [(0, .ref qO0)] := hl
  have n_A1_O0 := q_df hA1 hO0
  have hF : q_un ws ws [kO0] := q_u0
  refine lv_aload_n hx hb d_2_7_0 rfl (lv_at hl 0 rfl) ?_
  refine q_get (ci := 2) (j := 1) (v := .int 3) C0 V i_Big rfl rfl hO0 (by decide) w_85 rfl d_2_7_1 ?_
  refine lv_istore_n (lv' := [(1, .int 3), (0, .ref qO0)]) hx hb d_2_7_4 rfl hl (by decide) rfl (fun ls hl => ?_)
  refine lv_iload_n hx hb d_2_7_5 rfl (lv_at hl 0 rfl) ?_
  refine lv_if_le (tgt := 26) hx hb d_2_7_6 (by decide) (fun c1 => absurd c1 (by decide)) (fun c1 => ?_)
  refine lv_aload_n hx hb d_2_7_9 rfl (lv_at hl 1 rfl) ?_
  refine q_get (ci := 2) (j := 0) (v := .ref qA1) C0 V i_Big rfl rfl hO0 (by decide) w_84 rfl d_2_7_10 ?_
  refine lv_iload_n hx hb d_2_7_13 rfl (lv_at hl 0 rfl) ?_
  refine lv_iconst (v := 1) hx hb d_2_7_14 (by decide) ?_
  refine lv_isub hx hb d_2_7_15 ?_
  refine q_ti (v := 2) (by decide) ?_
  refine q_iald C0 V hA1 (by unfold vp_in; decide) d_2_7_16 ?_
  refine q_ti (v := 0) (by first | rfl | decide | simp [upd, vp_updL, sb_cl0]) ?_
  refine lv_if_ne (tgt := 26) hx hb d_2_7_17 (by decide) (fun c2 => absurd (by decide) c2) (fun c2 => ?_)
  refine lv_iinc (v := 2) (lv' := [(1, .int 2), (0, .ref qO0)]) hx hb d_2_7_20 hl (k := 0) rfl (by decide) (by decide) rfl (fun ls hl => ?_)
  refine lv_goto (tgt := 5) hx hb d_2_7_23 (by decide) ?_
  refine lv_iload_n hx hb d_2_7_5 rfl (lv_at hl 0 rfl) ?_
  refine lv_if_le (tgt := 26) hx hb d_2_7_6 (by decide) (fun c3 => absurd c3 (by decide)) (fun c3 => ?_)
  refine lv_aload_n hx hb d_2_7_9 rfl (lv_at hl 1 rfl) ?_
  refine q_get (ci := 2) (j := 0) (v := .ref qA1) C0 V i_Big rfl rfl hO0 (by decide) w_84 rfl d_2_7_10 ?_
  refine lv_iload_n hx hb d_2_7_13 rfl (lv_at hl 0 rfl) ?_
  refine lv_iconst (v := 1) hx hb d_2_7_14 (by decide) ?_
  refine lv_isub hx hb d_2_7_15 ?_
  refine q_ti (v := 1) (by decide) ?_
  refine q_iald C0 V hA1 (by unfold vp_in; decide) d_2_7_16 ?_
  refine q_ti (v := 0) (by first | rfl | decide | simp [upd, vp_updL, sb_cl0]) ?_
  refine lv_if_ne (tgt := 26) hx hb d_2_7_17 (by decide) (fun c4 => absurd (by decide) c4) (fun c4 => ?_)
  refine lv_iinc (v := 1) (lv' := [(1, .int 1), (0, .ref qO0)]) hx hb d_2_7_20 hl (k := 0) rfl (by decide) (by decide) rfl (fun ls hl => ?_)
  refine lv_goto (tgt := 5) hx hb d_2_7_23 (by decide) ?_
  refine lv_iload_n hx hb d_2_7_5 rfl (lv_at hl 0 rfl) ?_
  refine lv_if_le (tgt := 26) hx hb d_2_7_6 (by decide) (fun c5 => absurd c5 (by decide)) (fun c5 => ?_)
  refine lv_aload_n hx hb d_2_7_9 rfl (lv_at hl 1 rfl) ?_
  refine q_get (ci := 2) (j := 0) (v := .ref qA1) C0 V i_Big rfl rfl hO0 (by decide) w_84 rfl d_2_7_10 ?_
  refine lv_iload_n hx hb d_2_7_13 rfl (lv_at hl 0 rfl) ?_
  refine lv_iconst (v := 1) hx hb d_2_7_14 (by decide) ?_
  refine lv_isub hx hb d_2_7_15 ?_
  refine q_ti (v := 0) (by decide) ?_
  refine q_iald C0 V hA1 (by unfold vp_in; decide) d_2_7_16 ?_
  refine q_ti (v := 1) (by first | rfl | decide | simp [upd, vp_updL, sb_cl0]) ?_
  refine lv_if_ne (tgt := 26) hx hb d_2_7_17 (by decide) (fun c6 => ?_) (fun c6 => absurd c6 (by decide))
  refine lv_aload_n hx hb d_2_7_26 rfl (lv_at hl 1 rfl) ?_
  refine lv_iload_n hx hb d_2_7_27 rfl (lv_at hl 0 rfl) ?_
  refine q_put (ci := 2) (j := 1) (v := .int 1) (ty := .int) C0 V i_Big o_Big n_Big rfl rfl hO0 (by decide) w_85 rfl rfl rfl rfl (Nat.le_of_ble_eq_true rfl) d_2_7_28 (fun H locs w7 hu8 hO0 V => ?_)
  replace hO0 : w7[kO0]? = (some (qO0, .inr (2, [.ref qA1, .int 1, .int 0])) : Option (Nat × va_E)) := hO0
  replace hF := q_us hF hu8 (.head _)
  refine lv_aload_n hx hb d_2_7_31 rfl (lv_at hl 1 rfl) ?_
  refine lv_aload_n hx hb d_2_7_32 rfl (lv_at hl 1 rfl) ?_
  refine q_get (ci := 2) (j := 2) (v := .int 0) C0 V i_Big rfl rfl hO0 (by decide) w_94 rfl d_2_7_33 ?_
  refine lv_if_eq (tgt := 47) hx hb d_2_7_36 (by decide) (fun c9 => ?_) (fun c9 => absurd (by decide) c9)
  refine lv_iconst (v := 0) hx hb d_2_7_47 (by decide) ?_
  refine q_put (ci := 2) (j := 2) (v := .int 0) (ty := .boolean) C0 V i_Big o_Big n_Big rfl rfl hO0 (by decide) w_94 rfl rfl rfl rfl (Nat.le_of_ble_eq_true rfl) d_2_7_48 (fun H locs w10 hu11 hO0 V => ?_)
  replace hO0 : w10[kO0]? = (some (qO0, .inr (2, [.ref qA1, .int 1, .int 0])) : Option (Nat × va_E)) := hO0
  replace hF := q_us hF hu11 (.head _)
  exact q_retv C0 V (⟨hF, hO0⟩) d_2_7_51
set_option maxRecDepth 100000 in
set_option maxHeartbeats 4000000 in
theorem c_Big_setLong_3 (l : Launch) (D : va_G) (g : Nat → ClassId) (ws : va_W) (kO0 kA1 qO0 qA1 : Nat) (hO0 : ws[kO0]? = (some (qO0, .inr (2, [.ref qA1, .int 0, .int 0])) : Option (Nat × va_E))) (hA1 : ws[kA1]? = (some (qA1, .inl (g 0, 220, .inl (fun _ => 0))) : Option (Nat × va_E))) : q_mV l y_Big_setLong prog_2_method_3_code 6 2 0 0 D g [.ref qO0, .long 1] ws (fun u => q_un ws u [kO0, kA1] ∧ u[kO0]? = (some (qO0, .inr (2, [.ref qA1, .int 1, .int 0])) : Option (Nat × va_E)) ∧ u[kA1]? = (some (qA1, .inl (g 0, 220, .inl (upd (fun _ => 0) 0 1))) : Option (Nat × va_E))) := by
  intro sz
  refine q_into (by decide) (Nat.le_of_ble_eq_true rfl) ?_
  intro p e s m below meth c ls hsz C0 V hl
  have hx := C0.1
  have hb := C0.2.1
  have hl : lv_has ls 6 [(0, .ref qO0), (1, .long 1)] := hl
  have n_A1_O0 := q_df hA1 hO0
  have hF : q_un ws ws [kO0, kA1] := q_u0
  refine lv_aload_n hx hb d_2_3_0 rfl (lv_at hl 0 rfl) ?_
  refine q_gov V (q_runV (As := []) (rest := []) (d := 1) (mc := 0) (ms := 0) (ci := 2) C0 V rfl LV_Big_21 (c_Big_clear l D g ws kO0 qO0 qA1 0 0 hO0 _) rfl rfl hO0 rfl hl.1 rfl (Nat.le_of_ble_eq_true rfl) ⟨by decide, by decide⟩ ⟨Nat.le_of_ble_eq_true rfl, Nat.le_of_ble_eq_true rfl⟩ d_2_3_1) (fun u2 H locs hp1 V => ?_)
  obtain ⟨hg3, hO0⟩ := hp1
  replace hF := q_uc hF hg3 (q_sc (.head _) (fun _ h => absurd h List.not_mem_nil))
  refine lv_lload_n hx hb d_2_3_4 rfl (lv_at hl 1 rfl) ?_
  refine q_absl C0 hl.1 rfl w_198 w_199 w_7 w_200 ⟨Nat.le_of_ble_eq_true rfl, Nat.le_of_ble_eq_true rfl⟩ ⟨Nat.le_of_ble_eq_true rfl, Nat.le_of_ble_eq_true rfl⟩ d_2_3_5 ?_
  refine q_tl (v := 1) (by decide) ?_
  refine lv_lstore_n (lv' := [(3, .long 1), (0, .ref qO0), (1, .long 1)]) hx hb d_2_3_8 rfl hl (by decide) rfl (fun ls hl => ?_)
  refine lv_iconst (v := 0) hx hb d_2_3_9 (by decide) ?_
  refine lv_istore (lv' := [(5, .int 0), (3, .long 1), (0, .ref qO0), (1, .long 1)]) hx hb d_2_3_10 hl (by decide) rfl (fun ls hl => ?_)
  refine lv_iload hx hb d_2_3_12 (lv_at hl 0 rfl) ?_
  refine lv_iconst (v := 3) hx hb d_2_3_14 (by decide) ?_
  refine lv_icmp_ge (tgt := 39) hx hb d_2_3_15 (by decide) (fun c4 => absurd c4 (by decide)) (fun c4 => ?_)
  refine lv_aload_n hx hb d_2_3_18 rfl (lv_at hl 2 rfl) ?_
  refine lv_lload_n hx hb d_2_3_19 rfl (lv_at hl 1 rfl) ?_
  refine q_ldc2 C0 rfl w_201 d_2_3_20 ?_
  refine lv_land hx hb d_2_3_23 ?_
  refine q_tl (v := 1) (by decide) ?_
  refine lv_l2i hx hb d_2_3_24 rfl ?_
  refine q_ti (v := 1) (by decide) ?_
  replace hA1 := (hg3 _ (q_nc n_A1_O0 List.not_mem_nil)).trans (hA1)
  refine q_gov V (q_runV (As := [.int 1]) (rest := []) (d := 1) (mc := 0) (ms := 0) (ci := 2) C0 V rfl LV_Big_32 (c_Big_push_7 l D g u2 kO0 kA1 qO0 qA1 hO0 hA1 _) rfl rfl hO0 rfl hl.1 rfl (Nat.le_of_ble_eq_true rfl) ⟨by decide, by decide⟩ ⟨Nat.le_of_ble_eq_true rfl, Nat.le_of_ble_eq_true rfl⟩ d_2_3_25) (fun u6 H locs hp5 V => ?_)
  obtain ⟨hg7, hO0, hA1⟩ := hp5
  replace hF := q_uc hF hg7 (q_sc (.head _) (q_sc (.tail _ (.head _)) (fun _ h => absurd h List.not_mem_nil)))
  refine lv_lload_n hx hb d_2_3_28 rfl (lv_at hl 1 rfl) ?_
  refine lv_bipush (v := 31) hx hb d_2_3_29 (by decide) ?_
  refine lv_lushr hx hb d_2_3_31 rfl ?_
  refine q_tl (v := 0) (by decide) ?_
  refine lv_lstore_n (lv' := [(3, .long 0), (5, .int 0), (0, .ref qO0), (1, .long 1)]) hx hb d_2_3_32 rfl hl (by decide) rfl (fun ls hl => ?_)
  refine lv_iinc (v := 1) (lv' := [(5, .int 1), (3, .long 0), (0, .ref qO0), (1, .long 1)]) hx hb d_2_3_33 hl (k := 1) rfl (by decide) (by decide) rfl (fun ls hl => ?_)
  refine lv_goto (tgt := 12) hx hb d_2_3_36 (by decide) ?_
  refine lv_iload hx hb d_2_3_12 (lv_at hl 0 rfl) ?_
  refine lv_iconst (v := 3) hx hb d_2_3_14 (by decide) ?_
  refine lv_icmp_ge (tgt := 39) hx hb d_2_3_15 (by decide) (fun c8 => absurd c8 (by decide)) (fun c8 => ?_)
  refine lv_aload_n hx hb d_2_3_18 rfl (lv_at hl 2 rfl) ?_
  refine lv_lload_n hx hb d_2_3_19 rfl (lv_at hl 1 rfl) ?_
  refine q_ldc2 C0 rfl w_201 d_2_3_20 ?_
  refine lv_land hx hb d_2_3_23 ?_
  refine q_tl (v := 0) (by decide) ?_
  refine lv_l2i hx hb d_2_3_24 rfl ?_
  refine q_ti (v := 0) (by decide) ?_
  refine q_gov V (q_runV (As := [.int 0]) (rest := []) (d := 1) (mc := 0) (ms := 0) (ci := 2) C0 V rfl LV_Big_32 (c_Big_push_8 l D g u6 kO0 kA1 qO0 qA1 hO0 hA1 _) rfl rfl hO0 rfl hl.1 rfl (Nat.le_of_ble_eq_true rfl) ⟨by decide, by decide⟩ ⟨Nat.le_of_ble_eq_true rfl, Nat.le_of_ble_eq_true rfl⟩ d_2_3_25) (fun u10 H locs hp9 V => ?_)
  obtain ⟨hg11, hO0, hA1⟩ := hp9
  replace hF := q_uc hF hg11 (q_sc (.head _) (q_sc (.tail _ (.head _)) (fun _ h => absurd h List.not_mem_nil)))
  refine lv_lload_n hx hb d_2_3_28 rfl (lv_at hl 1 rfl) ?_
  refine lv_bipush (v := 31) hx hb d_2_3_29 (by decide) ?_
  refine lv_lushr hx hb d_2_3_31 rfl ?_
  refine q_tl (v := 0) (by decide) ?_
  refine lv_lstore_n (lv' := [(3, .long 0), (5, .int 1), (0, .ref qO0), (1, .long 1)]) hx hb d_2_3_32 rfl hl (by decide) rfl (fun ls hl => ?_)
  refine lv_iinc (v := 2) (lv' := [(5, .int 2), (3, .long 0), (0, .ref qO0), (1, .long 1)]) hx hb d_2_3_33 hl (k := 1) rfl (by decide) (by decide) rfl (fun ls hl => ?_)
  refine lv_goto (tgt := 12) hx hb d_2_3_36 (by decide) ?_
  refine lv_iload hx hb d_2_3_12 (lv_at hl 0 rfl) ?_
  refine lv_iconst (v := 3) hx hb d_2_3_14 (by decide) ?_
  refine lv_icmp_ge (tgt := 39) hx hb d_2_3_15 (by decide) (fun c12 => absurd c12 (by decide)) (fun c12 => ?_)
  refine lv_aload_n hx hb d_2_3_18 rfl (lv_at hl 2 rfl) ?_
  refine lv_lload_n hx hb d_2_3_19 rfl (lv_at hl 1 rfl) ?_
  refine q_ldc2 C0 rfl w_201 d_2_3_20 ?_
  refine lv_land hx hb d_2_3_23 ?_
  refine q_tl (v := 0) (by decide) ?_
  refine lv_l2i hx hb d_2_3_24 rfl ?_
  refine q_ti (v := 0) (by decide) ?_
  refine q_gov V (q_runV (As := [.int 0]) (rest := []) (d := 1) (mc := 0) (ms := 0) (ci := 2) C0 V rfl LV_Big_32 (c_Big_push_9 l D g u10 kO0 kA1 qO0 qA1 hO0 hA1 _) rfl rfl hO0 rfl hl.1 rfl (Nat.le_of_ble_eq_true rfl) ⟨by decide, by decide⟩ ⟨Nat.le_of_ble_eq_true rfl, Nat.le_of_ble_eq_true rfl⟩ d_2_3_25) (fun u14 H locs hp13 V => ?_)
  obtain ⟨hg15, hO0, hA1⟩ := hp13
  replace hF := q_uc hF hg15 (q_sc (.head _) (q_sc (.tail _ (.head _)) (fun _ h => absurd h List.not_mem_nil)))
  refine lv_lload_n hx hb d_2_3_28 rfl (lv_at hl 1 rfl) ?_
  refine lv_bipush (v := 31) hx hb d_2_3_29 (by decide) ?_
  refine lv_lushr hx hb d_2_3_31 rfl ?_
  refine q_tl (v := 0) (by decide) ?_
  refine lv_lstore_n (lv' := [(3, .long 0), (5, .int 2), (0, .ref qO0), (1, .long 1)]) hx hb d_2_3_32 rfl hl (by decide) rfl (fun ls hl => ?_)
  refine lv_iinc (v := 3) (lv' := [(5, .int 3), (3, .long 0), (0, .ref qO0), (1, .long 1)]) hx hb d_2_3_33 hl (k := 1) rfl (by decide) (by decide) rfl (fun ls hl => ?_)
  refine lv_goto (tgt := 12) hx hb d_2_3_36 (by decide) ?_
  refine lv_iload hx hb d_2_3_12 (lv_at hl 0 rfl) ?_
  refine lv_iconst (v := 3) hx hb d_2_3_14 (by decide) ?_
  refine lv_icmp_ge (tgt := 39) hx hb d_2_3_15 (by decide) (fun c16 => ?_) (fun c16 => absurd (by decide) c16)
  refine lv_aload_n hx hb d_2_3_39 rfl (lv_at hl 2 rfl) ?_
  refine q_gov V (q_runV (As := []) (rest := []) (d := 1) (mc := 0) (ms := 0) (ci := 2) C0 V rfl LV_Big_36 (c_Big_trim_5 l D g u14 kO0 kA1 qO0 qA1 hO0 hA1 _) rfl rfl hO0 rfl hl.1 rfl (Nat.le_of_ble_eq_true rfl) ⟨by decide, by decide⟩ ⟨Nat.le_of_ble_eq_true rfl, Nat.le_of_ble_eq_true rfl⟩ d_2_3_40) (fun u18 H locs hp17 V => ?_)
  obtain ⟨hg19, hO0⟩ := hp17
  replace hF := q_uc hF hg19 (q_sc (.head _) (fun _ h => absurd h List.not_mem_nil))
  refine lv_aload_n hx hb d_2_3_43 rfl (lv_at hl 2 rfl) ?_
  refine lv_lload_n hx hb d_2_3_44 rfl (lv_at hl 3 rfl) ?_
  refine lv_lconst (v := 0) hx hb d_2_3_45 (by decide) ?_
  refine W.lcmp hx hb d_2_3_46 ?_
  refine q_ti (v := 1) (by decide) ?_
  refine lv_if_ge (tgt := 54) hx hb d_2_3_47 (by decide) (fun c20 => ?_) (fun c20 => absurd (by decide) c20)
  refine lv_iconst (v := 0) hx hb d_2_3_54 (by decide) ?_
  refine q_put (ci := 2) (j := 2) (v := .int 0) (ty := .boolean) C0 V i_Big o_Big n_Big rfl rfl hO0 (by decide) w_94 rfl rfl rfl rfl (Nat.le_of_ble_eq_true rfl) d_2_3_55 (fun H locs w21 hu22 hO0 V => ?_)
  replace hO0 : w21[kO0]? = (some (qO0, .inr (2, [.ref qA1, .int 1, .int 0])) : Option (Nat × va_E)) := hO0
  replace hF := q_us hF hu22 (.head _)
  replace hA1 := (hu22 _ n_A1_O0).trans ((hg19 _ (q_nc n_A1_O0 List.not_mem_nil)).trans (hA1))
  exact q_retv C0 V (⟨hF, hO0, hA1⟩) d_2_3_58
theorem d_27_49_0 : decode prog_27_method_49_code 0 = .ok (.iload_n 0, 1) := by decide +kernel
theorem d_27_49_1 : decode prog_27_method_49_code 1 = .ok (.iload_n 0, 1) := by decide +kernel
theorem d_27_49_2 : decode prog_27_method_49_code 2 = .ok (.iconst 1, 1) := by decide +kernel
theorem d_27_49_3 : decode prog_27_method_49_code 3 = .ok (.iushr, 1) := by decide +kernel
theorem d_27_49_4 : decode prog_27_method_49_code 4 = .ok (.ldc_w 265, 3) := by decide +kernel
theorem w_617 : (Cond.constant "java/lang/Integer" (265 : Nat) (1431655765 : Int32)) ∈ q_tbl := q_of 617 (by decide +kernel) (by decide +kernel)
theorem d_27_49_7 : decode prog_27_method_49_code 7 = .ok (.iand, 1) := by decide +kernel
theorem d_27_49_8 : decode prog_27_method_49_code 8 = .ok (.isub, 1) := by decide +kernel
theorem d_27_49_9 : decode prog_27_method_49_code 9 = .ok (.istore_n 0, 1) := by decide +kernel
theorem d_27_49_10 : decode prog_27_method_49_code 10 = .ok (.iload_n 0, 1) := by decide +kernel
theorem d_27_49_11 : decode prog_27_method_49_code 11 = .ok (.ldc_w 266, 3) := by decide +kernel
theorem w_618 : (Cond.constant "java/lang/Integer" (266 : Nat) (858993459 : Int32)) ∈ q_tbl := q_of 618 (by decide +kernel) (by decide +kernel)
theorem d_27_49_14 : decode prog_27_method_49_code 14 = .ok (.iand, 1) := by decide +kernel
theorem d_27_49_15 : decode prog_27_method_49_code 15 = .ok (.iload_n 0, 1) := by decide +kernel
theorem d_27_49_16 : decode prog_27_method_49_code 16 = .ok (.iconst 2, 1) := by decide +kernel
theorem d_27_49_17 : decode prog_27_method_49_code 17 = .ok (.iushr, 1) := by decide +kernel
theorem d_27_49_18 : decode prog_27_method_49_code 18 = .ok (.ldc_w 266, 3) := by decide +kernel
theorem d_27_49_21 : decode prog_27_method_49_code 21 = .ok (.iand, 1) := by decide +kernel
theorem d_27_49_22 : decode prog_27_method_49_code 22 = .ok (.iadd, 1) := by decide +kernel
theorem d_27_49_23 : decode prog_27_method_49_code 23 = .ok (.istore_n 0, 1) := by decide +kernel
theorem d_27_49_24 : decode prog_27_method_49_code 24 = .ok (.iload_n 0, 1) := by decide +kernel
theorem d_27_49_25 : decode prog_27_method_49_code 25 = .ok (.iload_n 0, 1) := by decide +kernel
theorem d_27_49_26 : decode prog_27_method_49_code 26 = .ok (.iconst 4, 1) := by decide +kernel
theorem d_27_49_27 : decode prog_27_method_49_code 27 = .ok (.iushr, 1) := by decide +kernel
theorem d_27_49_28 : decode prog_27_method_49_code 28 = .ok (.iadd, 1) := by decide +kernel
theorem d_27_49_29 : decode prog_27_method_49_code 29 = .ok (.ldc_w 267, 3) := by decide +kernel
theorem w_619 : (Cond.constant "java/lang/Integer" (267 : Nat) (252645135 : Int32)) ∈ q_tbl := q_of 619 (by decide +kernel) (by decide +kernel)
theorem d_27_49_32 : decode prog_27_method_49_code 32 = .ok (.iand, 1) := by decide +kernel
theorem d_27_49_33 : decode prog_27_method_49_code 33 = .ok (.istore_n 0, 1) := by decide +kernel
theorem d_27_49_34 : decode prog_27_method_49_code 34 = .ok (.iload_n 0, 1) := by decide +kernel
theorem d_27_49_35 : decode prog_27_method_49_code 35 = .ok (.iload_n 0, 1) := by decide +kernel
theorem d_27_49_36 : decode prog_27_method_49_code 36 = .ok (.bipush 8, 2) := by decide +kernel
theorem d_27_49_38 : decode prog_27_method_49_code 38 = .ok (.iushr, 1) := by decide +kernel
theorem d_27_49_39 : decode prog_27_method_49_code 39 = .ok (.iadd, 1) := by decide +kernel
theorem d_27_49_40 : decode prog_27_method_49_code 40 = .ok (.istore_n 0, 1) := by decide +kernel
theorem d_27_49_41 : decode prog_27_method_49_code 41 = .ok (.iload_n 0, 1) := by decide +kernel
theorem d_27_49_42 : decode prog_27_method_49_code 42 = .ok (.iload_n 0, 1) := by decide +kernel
theorem d_27_49_43 : decode prog_27_method_49_code 43 = .ok (.bipush 16, 2) := by decide +kernel
theorem d_27_49_45 : decode prog_27_method_49_code 45 = .ok (.iushr, 1) := by decide +kernel
theorem d_27_49_46 : decode prog_27_method_49_code 46 = .ok (.iadd, 1) := by decide +kernel
theorem d_27_49_47 : decode prog_27_method_49_code 47 = .ok (.istore_n 0, 1) := by decide +kernel
theorem d_27_49_48 : decode prog_27_method_49_code 48 = .ok (.iload_n 0, 1) := by decide +kernel
theorem d_27_49_49 : decode prog_27_method_49_code 49 = .ok (.bipush 63, 2) := by decide +kernel
theorem d_27_49_51 : decode prog_27_method_49_code 51 = .ok (.iand, 1) := by decide +kernel
theorem d_27_49_52 : decode prog_27_method_49_code 52 = .ok (.ireturn, 1) := by decide +kernel
def y_jInt_bitCount : MethodName := ⟨"java/lang/Integer", "bitCount", "(I)I"⟩
set_option maxRecDepth 100000 in
set_option maxHeartbeats 4000000 in
theorem c_jInt_bitCount (l : Launch) (D : va_G) (g : Nat → ClassId) (ws : va_W) (x1 : Int32) : q_mI l y_jInt_bitCount prog_27_method_49_code 1 (.int) 1 0 0 D g [.int x1] ws (fun r u => ∃ (ex0 : Int32), 0 ≤ ex0 ∧ ex0 ≤ 63 ∧ ex0 = r ∧ ws = u) := by
  intro sz
  refine q_into (by decide) (Nat.le_of_ble_eq_true rfl) ?_
  intro p e s m below meth c ls hsz C0 V hl
  have hx := C0.1
  have hb := C0.2.1
  have hl : lv_has ls 1 [(0, .int x1)] := hl
  refine lv_iload_n hx hb d_27_49_0 rfl (lv_at hl 0 rfl) ?_
  refine lv_iload_n hx hb d_27_49_1 rfl (lv_at hl 0 rfl) ?_
  refine lv_iconst (v := 1) hx hb d_27_49_2 (by decide) ?_
  refine lv_iushr hx hb d_27_49_3 rfl ?_
  refine q_ldcw C0 rfl w_617 d_27_49_4 ?_
  refine lv_iand hx hb d_27_49_7 ?_
  refine lv_isub hx hb d_27_49_8 ?_
  refine lv_istore_n (lv' := [(0, .int (x1 - (((x1.toUInt32 >>> ((1 : Int32).toUInt32 &&& Int32.toUInt32 31)).toInt32) &&& 1431655765)))]) hx hb d_27_49_9 rfl hl (by decide) rfl (fun ls hl => ?_)
  refine lv_iload_n hx hb d_27_49_10 rfl (lv_at hl 0 rfl) ?_
  refine q_ldcw C0 rfl w_618 d_27_49_11 ?_
  refine lv_iand hx hb d_27_49_14 ?_
  refine lv_iload_n hx hb d_27_49_15 rfl (lv_at hl 0 rfl) ?_
  refine lv_iconst (v := 2) hx hb d_27_49_16 (by decide) ?_
  refine lv_iushr hx hb d_27_49_17 rfl ?_
  refine q_ldcw C0 rfl w_618 d_27_49_18 ?_
  refine lv_iand hx hb d_27_49_21 ?_
  refine lv_iadd hx hb d_27_49_22 ?_
  refine lv_istore_n (lv' := [(0, .int (((x1 - (((x1.toUInt32 >>> ((1 : Int32).toUInt32 &&& Int32.toUInt32 31)).toInt32) &&& 1431655765)) &&& 858993459) + ((((x1 - (((x1.toUInt32 >>> ((1 : Int32).toUInt32 &&& Int32.toUInt32 31)).toInt32) &&& 1431655765)).toUInt32 >>> ((2 : Int32).toUInt32 &&& Int32.toUInt32 31)).toInt32) &&& 858993459)))]) hx hb d_27_49_23 rfl hl (by decide) rfl (fun ls hl => ?_)
  refine lv_iload_n hx hb d_27_49_24 rfl (lv_at hl 0 rfl) ?_
  refine lv_iload_n hx hb d_27_49_25 rfl (lv_at hl 0 rfl) ?_
  refine lv_iconst (v := 4) hx hb d_27_49_26 (by decide) ?_
  refine lv_iushr hx hb d_27_49_27 rfl ?_
  refine lv_iadd hx hb d_27_49_28 ?_
  refine q_ldcw C0 rfl w_619 d_27_49_29 ?_
  refine lv_iand hx hb d_27_49_32 ?_
  refine lv_istore_n (lv' := [(0, .int (((((x1 - (((x1.toUInt32 >>> ((1 : Int32).toUInt32 &&& Int32.toUInt32 31)).toInt32) &&& 1431655765)) &&& 858993459) + ((((x1 - (((x1.toUInt32 >>> ((1 : Int32).toUInt32 &&& Int32.toUInt32 31)).toInt32) &&& 1431655765)).toUInt32 >>> ((2 : Int32).toUInt32 &&& Int32.toUInt32 31)).toInt32) &&& 858993459)) + (((((x1 - (((x1.toUInt32 >>> ((1 : Int32).toUInt32 &&& Int32.toUInt32 31)).toInt32) &&& 1431655765)) &&& 858993459) + ((((x1 - (((x1.toUInt32 >>> ((1 : Int32).toUInt32 &&& Int32.toUInt32 31)).toInt32) &&& 1431655765)).toUInt32 >>> ((2 : Int32).toUInt32 &&& Int32.toUInt32 31)).toInt32) &&& 858993459)).toUInt32 >>> ((4 : Int32).toUInt32 &&& Int32.toUInt32 31)).toInt32)) &&& 252645135))]) hx hb d_27_49_33 rfl hl (by decide) rfl (fun ls hl => ?_)
  refine lv_iload_n hx hb d_27_49_34 rfl (lv_at hl 0 rfl) ?_
  refine lv_iload_n hx hb d_27_49_35 rfl (lv_at hl 0 rfl) ?_
  refine lv_bipush (v := 8) hx hb d_27_49_36 (by decide) ?_
  refine lv_iushr hx hb d_27_49_38 rfl ?_
  refine lv_iadd hx hb d_27_49_39 ?_
  refine lv_istore_n (lv' := [(0, .int ((((((x1 - (((x1.toUInt32 >>> ((1 : Int32).toUInt32 &&& Int32.toUInt32 31)).toInt32) &&& 1431655765)) &&& 858993459) + ((((x1 - (((x1.toUInt32 >>> ((1 : Int32).toUInt32 &&& Int32.toUInt32 31)).toInt32) &&& 1431655765)).toUInt32 >>> ((2 : Int32).toUInt32 &&& Int32.toUInt32 31)).toInt32) &&& 858993459)) + (((((x1 - (((x1.toUInt32 >>> ((1 : Int32).toUInt32 &&& Int32.toUInt32 31)).toInt32) &&& 1431655765)) &&& 858993459) + ((((x1 - (((x1.toUInt32 >>> ((1 : Int32).toUInt32 &&& Int32.toUInt32 31)).toInt32) &&& 1431655765)).toUInt32 >>> ((2 : Int32).toUInt32 &&& Int32.toUInt32 31)).toInt32) &&& 858993459)).toUInt32 >>> ((4 : Int32).toUInt32 &&& Int32.toUInt32 31)).toInt32)) &&& 252645135) + (((((((x1 - (((x1.toUInt32 >>> ((1 : Int32).toUInt32 &&& Int32.toUInt32 31)).toInt32) &&& 1431655765)) &&& 858993459) + ((((x1 - (((x1.toUInt32 >>> ((1 : Int32).toUInt32 &&& Int32.toUInt32 31)).toInt32) &&& 1431655765)).toUInt32 >>> ((2 : Int32).toUInt32 &&& Int32.toUInt32 31)).toInt32) &&& 858993459)) + (((((x1 - (((x1.toUInt32 >>> ((1 : Int32).toUInt32 &&& Int32.toUInt32 31)).toInt32) &&& 1431655765)) &&& 858993459) + ((((x1 - (((x1.toUInt32 >>> ((1 : Int32).toUInt32 &&& Int32.toUInt32 31)).toInt32) &&& 1431655765)).toUInt32 >>> ((2 : Int32).toUInt32 &&& Int32.toUInt32 31)).toInt32) &&& 858993459)).toUInt32 >>> ((4 : Int32).toUInt32 &&& Int32.toUInt32 31)).toInt32)) &&& 252645135).toUInt32 >>> ((8 : Int32).toUInt32 &&& Int32.toUInt32 31)).toInt32)))]) hx hb d_27_49_40 rfl hl (by decide) rfl (fun ls hl => ?_)
  refine lv_iload_n hx hb d_27_49_41 rfl (lv_at hl 0 rfl) ?_
  refine lv_iload_n hx hb d_27_49_42 rfl (lv_at hl 0 rfl) ?_
  refine lv_bipush (v := 16) hx hb d_27_49_43 (by decide) ?_
  refine lv_iushr hx hb d_27_49_45 rfl ?_
  refine lv_iadd hx hb d_27_49_46 ?_
  refine lv_istore_n (lv' := [(0, .int (((((((x1 - (((x1.toUInt32 >>> ((1 : Int32).toUInt32 &&& Int32.toUInt32 31)).toInt32) &&& 1431655765)) &&& 858993459) + ((((x1 - (((x1.toUInt32 >>> ((1 : Int32).toUInt32 &&& Int32.toUInt32 31)).toInt32) &&& 1431655765)).toUInt32 >>> ((2 : Int32).toUInt32 &&& Int32.toUInt32 31)).toInt32) &&& 858993459)) + (((((x1 - (((x1.toUInt32 >>> ((1 : Int32).toUInt32 &&& Int32.toUInt32 31)).toInt32) &&& 1431655765)) &&& 858993459) + ((((x1 - (((x1.toUInt32 >>> ((1 : Int32).toUInt32 &&& Int32.toUInt32 31)).toInt32) &&& 1431655765)).toUInt32 >>> ((2 : Int32).toUInt32 &&& Int32.toUInt32 31)).toInt32) &&& 858993459)).toUInt32 >>> ((4 : Int32).toUInt32 &&& Int32.toUInt32 31)).toInt32)) &&& 252645135) + (((((((x1 - (((x1.toUInt32 >>> ((1 : Int32).toUInt32 &&& Int32.toUInt32 31)).toInt32) &&& 1431655765)) &&& 858993459) + ((((x1 - (((x1.toUInt32 >>> ((1 : Int32).toUInt32 &&& Int32.toUInt32 31)).toInt32) &&& 1431655765)).toUInt32 >>> ((2 : Int32).toUInt32 &&& Int32.toUInt32 31)).toInt32) &&& 858993459)) + (((((x1 - (((x1.toUInt32 >>> ((1 : Int32).toUInt32 &&& Int32.toUInt32 31)).toInt32) &&& 1431655765)) &&& 858993459) + ((((x1 - (((x1.toUInt32 >>> ((1 : Int32).toUInt32 &&& Int32.toUInt32 31)).toInt32) &&& 1431655765)).toUInt32 >>> ((2 : Int32).toUInt32 &&& Int32.toUInt32 31)).toInt32) &&& 858993459)).toUInt32 >>> ((4 : Int32).toUInt32 &&& Int32.toUInt32 31)).toInt32)) &&& 252645135).toUInt32 >>> ((8 : Int32).toUInt32 &&& Int32.toUInt32 31)).toInt32)) + ((((((((x1 - (((x1.toUInt32 >>> ((1 : Int32).toUInt32 &&& Int32.toUInt32 31)).toInt32) &&& 1431655765)) &&& 858993459) + ((((x1 - (((x1.toUInt32 >>> ((1 : Int32).toUInt32 &&& Int32.toUInt32 31)).toInt32) &&& 1431655765)).toUInt32 >>> ((2 : Int32).toUInt32 &&& Int32.toUInt32 31)).toInt32) &&& 858993459)) + (((((x1 - (((x1.toUInt32 >>> ((1 : Int32).toUInt32 &&& Int32.toUInt32 31)).toInt32) &&& 1431655765)) &&& 858993459) + ((((x1 - (((x1.toUInt32 >>> ((1 : Int32).toUInt32 &&& Int32.toUInt32 31)).toInt32) &&& 1431655765)).toUInt32 >>> ((2 : Int32).toUInt32 &&& Int32.toUInt32 31)).toInt32) &&& 858993459)).toUInt32 >>> ((4 : Int32).toUInt32 &&& Int32.toUInt32 31)).toInt32)) &&& 252645135) + (((((((x1 - (((x1.toUInt32 >>> ((1 : Int32).toUInt32 &&& Int32.toUInt32 31)).toInt32) &&& 1431655765)) &&& 858993459) + ((((x1 - (((x1.toUInt32 >>> ((1 : Int32).toUInt32 &&& Int32.toUInt32 31)).toInt32) &&& 1431655765)).toUInt32 >>> ((2 : Int32).toUInt32 &&& Int32.toUInt32 31)).toInt32) &&& 858993459)) + (((((x1 - (((x1.toUInt32 >>> ((1 : Int32).toUInt32 &&& Int32.toUInt32 31)).toInt32) &&& 1431655765)) &&& 858993459) + ((((x1 - (((x1.toUInt32 >>> ((1 : Int32).toUInt32 &&& Int32.toUInt32 31)).toInt32) &&& 1431655765)).toUInt32 >>> ((2 : Int32).toUInt32 &&& Int32.toUInt32 31)).toInt32) &&& 858993459)).toUInt32 >>> ((4 : Int32).toUInt32 &&& Int32.toUInt32 31)).toInt32)) &&& 252645135).toUInt32 >>> ((8 : Int32).toUInt32 &&& Int32.toUInt32 31)).toInt32)).toUInt32 >>> ((16 : Int32).toUInt32 &&& Int32.toUInt32 31)).toInt32)))]) hx hb d_27_49_47 rfl hl (by decide) rfl (fun ls hl => ?_)
  refine lv_iload_n hx hb d_27_49_48 rfl (lv_at hl 0 rfl) ?_
  refine lv_bipush (v := 63) hx hb d_27_49_49 (by decide) ?_
  refine lv_iand hx hb d_27_49_51 ?_
  exact q_reti C0 V (⟨((((((((x1 - (((x1.toUInt32 >>> ((1 : Int32).toUInt32 &&& Int32.toUInt32 31)).toInt32) &&& 1431655765)) &&& 858993459) + ((((x1 - (((x1.toUInt32 >>> ((1 : Int32).toUInt32 &&& Int32.toUInt32 31)).toInt32) &&& 1431655765)).toUInt32 >>> ((2 : Int32).toUInt32 &&& Int32.toUInt32 31)).toInt32) &&& 858993459)) + (((((x1 - (((x1.toUInt32 >>> ((1 : Int32).toUInt32 &&& Int32.toUInt32 31)).toInt32) &&& 1431655765)) &&& 858993459) + ((((x1 - (((x1.toUInt32 >>> ((1 : Int32).toUInt32 &&& Int32.toUInt32 31)).toInt32) &&& 1431655765)).toUInt32 >>> ((2 : Int32).toUInt32 &&& Int32.toUInt32 31)).toInt32) &&& 858993459)).toUInt32 >>> ((4 : Int32).toUInt32 &&& Int32.toUInt32 31)).toInt32)) &&& 252645135) + (((((((x1 - (((x1.toUInt32 >>> ((1 : Int32).toUInt32 &&& Int32.toUInt32 31)).toInt32) &&& 1431655765)) &&& 858993459) + ((((x1 - (((x1.toUInt32 >>> ((1 : Int32).toUInt32 &&& Int32.toUInt32 31)).toInt32) &&& 1431655765)).toUInt32 >>> ((2 : Int32).toUInt32 &&& Int32.toUInt32 31)).toInt32) &&& 858993459)) + (((((x1 - (((x1.toUInt32 >>> ((1 : Int32).toUInt32 &&& Int32.toUInt32 31)).toInt32) &&& 1431655765)) &&& 858993459) + ((((x1 - (((x1.toUInt32 >>> ((1 : Int32).toUInt32 &&& Int32.toUInt32 31)).toInt32) &&& 1431655765)).toUInt32 >>> ((2 : Int32).toUInt32 &&& Int32.toUInt32 31)).toInt32) &&& 858993459)).toUInt32 >>> ((4 : Int32).toUInt32 &&& Int32.toUInt32 31)).toInt32)) &&& 252645135).toUInt32 >>> ((8 : Int32).toUInt32 &&& Int32.toUInt32 31)).toInt32)) + ((((((((x1 - (((x1.toUInt32 >>> ((1 : Int32).toUInt32 &&& Int32.toUInt32 31)).toInt32) &&& 1431655765)) &&& 858993459) + ((((x1 - (((x1.toUInt32 >>> ((1 : Int32).toUInt32 &&& Int32.toUInt32 31)).toInt32) &&& 1431655765)).toUInt32 >>> ((2 : Int32).toUInt32 &&& Int32.toUInt32 31)).toInt32) &&& 858993459)) + (((((x1 - (((x1.toUInt32 >>> ((1 : Int32).toUInt32 &&& Int32.toUInt32 31)).toInt32) &&& 1431655765)) &&& 858993459) + ((((x1 - (((x1.toUInt32 >>> ((1 : Int32).toUInt32 &&& Int32.toUInt32 31)).toInt32) &&& 1431655765)).toUInt32 >>> ((2 : Int32).toUInt32 &&& Int32.toUInt32 31)).toInt32) &&& 858993459)).toUInt32 >>> ((4 : Int32).toUInt32 &&& Int32.toUInt32 31)).toInt32)) &&& 252645135) + (((((((x1 - (((x1.toUInt32 >>> ((1 : Int32).toUInt32 &&& Int32.toUInt32 31)).toInt32) &&& 1431655765)) &&& 858993459) + ((((x1 - (((x1.toUInt32 >>> ((1 : Int32).toUInt32 &&& Int32.toUInt32 31)).toInt32) &&& 1431655765)).toUInt32 >>> ((2 : Int32).toUInt32 &&& Int32.toUInt32 31)).toInt32) &&& 858993459)) + (((((x1 - (((x1.toUInt32 >>> ((1 : Int32).toUInt32 &&& Int32.toUInt32 31)).toInt32) &&& 1431655765)) &&& 858993459) + ((((x1 - (((x1.toUInt32 >>> ((1 : Int32).toUInt32 &&& Int32.toUInt32 31)).toInt32) &&& 1431655765)).toUInt32 >>> ((2 : Int32).toUInt32 &&& Int32.toUInt32 31)).toInt32) &&& 858993459)).toUInt32 >>> ((4 : Int32).toUInt32 &&& Int32.toUInt32 31)).toInt32)) &&& 252645135).toUInt32 >>> ((8 : Int32).toUInt32 &&& Int32.toUInt32 31)).toInt32)).toUInt32 >>> ((16 : Int32).toUInt32 &&& Int32.toUInt32 31)).toInt32)) &&& 63), q_a63l, q_a63h, rfl, rfl⟩) d_27_49_52
theorem d_2_13_0 : decode prog_2_method_13_code 0 = .ok (.iload_n 0, 1) := by decide +kernel
theorem d_2_13_1 : decode prog_2_method_13_code 1 = .ok (.iload_n 0, 1) := by decide +kernel
theorem d_2_13_2 : decode prog_2_method_13_code 2 = .ok (.iconst 1, 1) := by decide +kernel
theorem d_2_13_3 : decode prog_2_method_13_code 3 = .ok (.iushr, 1) := by decide +kernel
theorem d_2_13_4 : decode prog_2_method_13_code 4 = .ok (.ior, 1) := by decide +kernel
theorem d_2_13_5 : decode prog_2_method_13_code 5 = .ok (.istore_n 1, 1) := by decide +kernel
theorem d_2_13_6 : decode prog_2_method_13_code 6 = .ok (.iload_n 1, 1) := by decide +kernel
theorem d_2_13_7 : decode prog_2_method_13_code 7 = .ok (.iload_n 1, 1) := by decide +kernel
theorem d_2_13_8 : decode prog_2_method_13_code 8 = .ok (.iconst 2, 1) := by decide +kernel
theorem d_2_13_9 : decode prog_2_method_13_code 9 = .ok (.iushr, 1) := by decide +kernel
theorem d_2_13_10 : decode prog_2_method_13_code 10 = .ok (.ior, 1) := by decide +kernel
theorem d_2_13_11 : decode prog_2_method_13_code 11 = .ok (.istore_n 1, 1) := by decide +kernel
theorem d_2_13_12 : decode prog_2_method_13_code 12 = .ok (.iload_n 1, 1) := by decide +kernel
theorem d_2_13_13 : decode prog_2_method_13_code 13 = .ok (.iload_n 1, 1) := by decide +kernel
theorem d_2_13_14 : decode prog_2_method_13_code 14 = .ok (.iconst 4, 1) := by decide +kernel
theorem d_2_13_15 : decode prog_2_method_13_code 15 = .ok (.iushr, 1) := by decide +kernel
theorem d_2_13_16 : decode prog_2_method_13_code 16 = .ok (.ior, 1) := by decide +kernel
theorem d_2_13_17 : decode prog_2_method_13_code 17 = .ok (.istore_n 1, 1) := by decide +kernel
theorem d_2_13_18 : decode prog_2_method_13_code 18 = .ok (.iload_n 1, 1) := by decide +kernel
theorem d_2_13_19 : decode prog_2_method_13_code 19 = .ok (.iload_n 1, 1) := by decide +kernel
theorem d_2_13_20 : decode prog_2_method_13_code 20 = .ok (.bipush 8, 2) := by decide +kernel
theorem d_2_13_22 : decode prog_2_method_13_code 22 = .ok (.iushr, 1) := by decide +kernel
theorem d_2_13_23 : decode prog_2_method_13_code 23 = .ok (.ior, 1) := by decide +kernel
theorem d_2_13_24 : decode prog_2_method_13_code 24 = .ok (.istore_n 1, 1) := by decide +kernel
theorem d_2_13_25 : decode prog_2_method_13_code 25 = .ok (.iload_n 1, 1) := by decide +kernel
theorem d_2_13_26 : decode prog_2_method_13_code 26 = .ok (.iload_n 1, 1) := by decide +kernel
theorem d_2_13_27 : decode prog_2_method_13_code 27 = .ok (.bipush 16, 2) := by decide +kernel
theorem d_2_13_29 : decode prog_2_method_13_code 29 = .ok (.iushr, 1) := by decide +kernel
theorem d_2_13_30 : decode prog_2_method_13_code 30 = .ok (.ior, 1) := by decide +kernel
theorem d_2_13_31 : decode prog_2_method_13_code 31 = .ok (.istore_n 1, 1) := by decide +kernel
theorem d_2_13_32 : decode prog_2_method_13_code 32 = .ok (.iload_n 1, 1) := by decide +kernel
theorem d_2_13_33 : decode prog_2_method_13_code 33 = .ok (.invokestatic 60, 3) := by decide +kernel
theorem w_616 : (Cond.code ({ cls := "java/lang/Integer", name := "bitCount", desc := "(I)I" } : MethodName) prog_27_method_49_code (1 : Nat) (some .int)) ∈ q_tbl := q_of 616 (by decide +kernel) (by decide +kernel)
theorem w_614 : (Cond.methodLink "NumberHouse$Big" (60 : Nat) ({ cls := "java/lang/Integer", name := "bitCount", desc := "(I)I" } : MethodName)) ∈ q_tbl := q_of 614 (by decide +kernel) (by decide +kernel)
theorem w_615 : (Cond.static ({ cls := "java/lang/Integer", name := "bitCount", desc := "(I)I" } : MethodName)) ∈ q_tbl := q_of 615 (by decide +kernel) (by decide +kernel)
theorem LS_Big_60 : q_LS "NumberHouse$Big" 60 y_jInt_bitCount prog_27_method_49_code 1 (some .int) 1 := ⟨w_616, w_24, w_614, w_615, ⟨by decide, by decide, by decide +kernel⟩⟩
theorem d_2_13_36 : decode prog_2_method_13_code 36 = .ok (.ireturn, 1) := by decide +kernel
def y_Big_bitsOf : MethodName := ⟨"NumberHouse$Big", "bitsOf", "(I)I"⟩
set_option maxRecDepth 100000 in
set_option maxHeartbeats 4000000 in
theorem c_Big_bitsOf (l : Launch) (D : va_G) (g : Nat → ClassId) (ws : va_W) (x1 : Int32) : q_mI l y_Big_bitsOf prog_2_method_13_code 2 (.int) 2 0 0 D g [.int x1] ws (fun r u => ∃ (ex0 : Int32), 0 ≤ ex0 ∧ ex0 ≤ 63 ∧ ex0 = r ∧ ws = u) := by
  intro sz
  refine q_into (by decide) (Nat.le_of_ble_eq_true rfl) ?_
  intro p e s m below meth c ls hsz C0 V hl
  have hx := C0.1
  have hb := C0.2.1
  have hl : lv_has ls 2 [(0, .int x1)] := hl
  refine lv_iload_n hx hb d_2_13_0 rfl (lv_at hl 0 rfl) ?_
  refine lv_iload_n hx hb d_2_13_1 rfl (lv_at hl 0 rfl) ?_
  refine lv_iconst (v := 1) hx hb d_2_13_2 (by decide) ?_
  refine lv_iushr hx hb d_2_13_3 rfl ?_
  refine lv_ior hx hb d_2_13_4 ?_
  refine lv_istore_n (lv' := [(1, .int (x1 ||| ((x1.toUInt32 >>> ((1 : Int32).toUInt32 &&& Int32.toUInt32 31)).toInt32))), (0, .int x1)]) hx hb d_2_13_5 rfl hl (by decide) rfl (fun ls hl => ?_)
  refine lv_iload_n hx hb d_2_13_6 rfl (lv_at hl 0 rfl) ?_
  refine lv_iload_n hx hb d_2_13_7 rfl (lv_at hl 0 rfl) ?_
  refine lv_iconst (v := 2) hx hb d_2_13_8 (by decide) ?_
  refine lv_iushr hx hb d_2_13_9 rfl ?_
  refine lv_ior hx hb d_2_13_10 ?_
  refine lv_istore_n (lv' := [(1, .int ((x1 ||| ((x1.toUInt32 >>> ((1 : Int32).toUInt32 &&& Int32.toUInt32 31)).toInt32)) ||| (((x1 ||| ((x1.toUInt32 >>> ((1 : Int32).toUInt32 &&& Int32.toUInt32 31)).toInt32)).toUInt32 >>> ((2 : Int32).toUInt32 &&& Int32.toUInt32 31)).toInt32))), (0, .int x1)]) hx hb d_2_13_11 rfl hl (by decide) rfl (fun ls hl => ?_)
  refine lv_iload_n hx hb d_2_13_12 rfl (lv_at hl 0 rfl) ?_
  refine lv_iload_n hx hb d_2_13_13 rfl (lv_at hl 0 rfl) ?_
  refine lv_iconst (v := 4) hx hb d_2_13_14 (by decide) ?_
  refine lv_iushr hx hb d_2_13_15 rfl ?_
  refine lv_ior hx hb d_2_13_16 ?_
  refine lv_istore_n (lv' := [(1, .int (((x1 ||| ((x1.toUInt32 >>> ((1 : Int32).toUInt32 &&& Int32.toUInt32 31)).toInt32)) ||| (((x1 ||| ((x1.toUInt32 >>> ((1 : Int32).toUInt32 &&& Int32.toUInt32 31)).toInt32)).toUInt32 >>> ((2 : Int32).toUInt32 &&& Int32.toUInt32 31)).toInt32)) ||| ((((x1 ||| ((x1.toUInt32 >>> ((1 : Int32).toUInt32 &&& Int32.toUInt32 31)).toInt32)) ||| (((x1 ||| ((x1.toUInt32 >>> ((1 : Int32).toUInt32 &&& Int32.toUInt32 31)).toInt32)).toUInt32 >>> ((2 : Int32).toUInt32 &&& Int32.toUInt32 31)).toInt32)).toUInt32 >>> ((4 : Int32).toUInt32 &&& Int32.toUInt32 31)).toInt32))), (0, .int x1)]) hx hb d_2_13_17 rfl hl (by decide) rfl (fun ls hl => ?_)
  refine lv_iload_n hx hb d_2_13_18 rfl (lv_at hl 0 rfl) ?_
  refine lv_iload_n hx hb d_2_13_19 rfl (lv_at hl 0 rfl) ?_
  refine lv_bipush (v := 8) hx hb d_2_13_20 (by decide) ?_
  refine lv_iushr hx hb d_2_13_22 rfl ?_
  refine lv_ior hx hb d_2_13_23 ?_
  refine lv_istore_n (lv' := [(1, .int ((((x1 ||| ((x1.toUInt32 >>> ((1 : Int32).toUInt32 &&& Int32.toUInt32 31)).toInt32)) ||| (((x1 ||| ((x1.toUInt32 >>> ((1 : Int32).toUInt32 &&& Int32.toUInt32 31)).toInt32)).toUInt32 >>> ((2 : Int32).toUInt32 &&& Int32.toUInt32 31)).toInt32)) ||| ((((x1 ||| ((x1.toUInt32 >>> ((1 : Int32).toUInt32 &&& Int32.toUInt32 31)).toInt32)) ||| (((x1 ||| ((x1.toUInt32 >>> ((1 : Int32).toUInt32 &&& Int32.toUInt32 31)).toInt32)).toUInt32 >>> ((2 : Int32).toUInt32 &&& Int32.toUInt32 31)).toInt32)).toUInt32 >>> ((4 : Int32).toUInt32 &&& Int32.toUInt32 31)).toInt32)) ||| (((((x1 ||| ((x1.toUInt32 >>> ((1 : Int32).toUInt32 &&& Int32.toUInt32 31)).toInt32)) ||| (((x1 ||| ((x1.toUInt32 >>> ((1 : Int32).toUInt32 &&& Int32.toUInt32 31)).toInt32)).toUInt32 >>> ((2 : Int32).toUInt32 &&& Int32.toUInt32 31)).toInt32)) ||| ((((x1 ||| ((x1.toUInt32 >>> ((1 : Int32).toUInt32 &&& Int32.toUInt32 31)).toInt32)) ||| (((x1 ||| ((x1.toUInt32 >>> ((1 : Int32).toUInt32 &&& Int32.toUInt32 31)).toInt32)).toUInt32 >>> ((2 : Int32).toUInt32 &&& Int32.toUInt32 31)).toInt32)).toUInt32 >>> ((4 : Int32).toUInt32 &&& Int32.toUInt32 31)).toInt32)).toUInt32 >>> ((8 : Int32).toUInt32 &&& Int32.toUInt32 31)).toInt32))), (0, .int x1)]) hx hb d_2_13_24 rfl hl (by decide) rfl (fun ls hl => ?_)
  refine lv_iload_n hx hb d_2_13_25 rfl (lv_at hl 0 rfl) ?_
  refine lv_iload_n hx hb d_2_13_26 rfl (lv_at hl 0 rfl) ?_
  refine lv_bipush (v := 16) hx hb d_2_13_27 (by decide) ?_
  refine lv_iushr hx hb d_2_13_29 rfl ?_
  refine lv_ior hx hb d_2_13_30 ?_
  refine lv_istore_n (lv' := [(1, .int (((((x1 ||| ((x1.toUInt32 >>> ((1 : Int32).toUInt32 &&& Int32.toUInt32 31)).toInt32)) ||| (((x1 ||| ((x1.toUInt32 >>> ((1 : Int32).toUInt32 &&& Int32.toUInt32 31)).toInt32)).toUInt32 >>> ((2 : Int32).toUInt32 &&& Int32.toUInt32 31)).toInt32)) ||| ((((x1 ||| ((x1.toUInt32 >>> ((1 : Int32).toUInt32 &&& Int32.toUInt32 31)).toInt32)) ||| (((x1 ||| ((x1.toUInt32 >>> ((1 : Int32).toUInt32 &&& Int32.toUInt32 31)).toInt32)).toUInt32 >>> ((2 : Int32).toUInt32 &&& Int32.toUInt32 31)).toInt32)).toUInt32 >>> ((4 : Int32).toUInt32 &&& Int32.toUInt32 31)).toInt32)) ||| (((((x1 ||| ((x1.toUInt32 >>> ((1 : Int32).toUInt32 &&& Int32.toUInt32 31)).toInt32)) ||| (((x1 ||| ((x1.toUInt32 >>> ((1 : Int32).toUInt32 &&& Int32.toUInt32 31)).toInt32)).toUInt32 >>> ((2 : Int32).toUInt32 &&& Int32.toUInt32 31)).toInt32)) ||| ((((x1 ||| ((x1.toUInt32 >>> ((1 : Int32).toUInt32 &&& Int32.toUInt32 31)).toInt32)) ||| (((x1 ||| ((x1.toUInt32 >>> ((1 : Int32).toUInt32 &&& Int32.toUInt32 31)).toInt32)).toUInt32 >>> ((2 : Int32).toUInt32 &&& Int32.toUInt32 31)).toInt32)).toUInt32 >>> ((4 : Int32).toUInt32 &&& Int32.toUInt32 31)).toInt32)).toUInt32 >>> ((8 : Int32).toUInt32 &&& Int32.toUInt32 31)).toInt32)) ||| ((((((x1 ||| ((x1.toUInt32 >>> ((1 : Int32).toUInt32 &&& Int32.toUInt32 31)).toInt32)) ||| (((x1 ||| ((x1.toUInt32 >>> ((1 : Int32).toUInt32 &&& Int32.toUInt32 31)).toInt32)).toUInt32 >>> ((2 : Int32).toUInt32 &&& Int32.toUInt32 31)).toInt32)) ||| ((((x1 ||| ((x1.toUInt32 >>> ((1 : Int32).toUInt32 &&& Int32.toUInt32 31)).toInt32)) ||| (((x1 ||| ((x1.toUInt32 >>> ((1 : Int32).toUInt32 &&& Int32.toUInt32 31)).toInt32)).toUInt32 >>> ((2 : Int32).toUInt32 &&& Int32.toUInt32 31)).toInt32)).toUInt32 >>> ((4 : Int32).toUInt32 &&& Int32.toUInt32 31)).toInt32)) ||| (((((x1 ||| ((x1.toUInt32 >>> ((1 : Int32).toUInt32 &&& Int32.toUInt32 31)).toInt32)) ||| (((x1 ||| ((x1.toUInt32 >>> ((1 : Int32).toUInt32 &&& Int32.toUInt32 31)).toInt32)).toUInt32 >>> ((2 : Int32).toUInt32 &&& Int32.toUInt32 31)).toInt32)) ||| ((((x1 ||| ((x1.toUInt32 >>> ((1 : Int32).toUInt32 &&& Int32.toUInt32 31)).toInt32)) ||| (((x1 ||| ((x1.toUInt32 >>> ((1 : Int32).toUInt32 &&& Int32.toUInt32 31)).toInt32)).toUInt32 >>> ((2 : Int32).toUInt32 &&& Int32.toUInt32 31)).toInt32)).toUInt32 >>> ((4 : Int32).toUInt32 &&& Int32.toUInt32 31)).toInt32)).toUInt32 >>> ((8 : Int32).toUInt32 &&& Int32.toUInt32 31)).toInt32)).toUInt32 >>> ((16 : Int32).toUInt32 &&& Int32.toUInt32 31)).toInt32))), (0, .int x1)]) hx hb d_2_13_31 rfl hl (by decide) rfl (fun ls hl => ?_)
  refine lv_iload_n hx hb d_2_13_32 rfl (lv_at hl 0 rfl) ?_
  refine q_goi V (q_runS (As := [.int (((((x1 ||| ((x1.toUInt32 >>> ((1 : Int32).toUInt32 &&& Int32.toUInt32 31)).toInt32)) ||| (((x1 ||| ((x1.toUInt32 >>> ((1 : Int32).toUInt32 &&& Int32.toUInt32 31)).toInt32)).toUInt32 >>> ((2 : Int32).toUInt32 &&& Int32.toUInt32 31)).toInt32)) ||| ((((x1 ||| ((x1.toUInt32 >>> ((1 : Int32).toUInt32 &&& Int32.toUInt32 31)).toInt32)) ||| (((x1 ||| ((x1.toUInt32 >>> ((1 : Int32).toUInt32 &&& Int32.toUInt32 31)).toInt32)).toUInt32 >>> ((2 : Int32).toUInt32 &&& Int32.toUInt32 31)).toInt32)).toUInt32 >>> ((4 : Int32).toUInt32 &&& Int32.toUInt32 31)).toInt32)) ||| (((((x1 ||| ((x1.toUInt32 >>> ((1 : Int32).toUInt32 &&& Int32.toUInt32 31)).toInt32)) ||| (((x1 ||| ((x1.toUInt32 >>> ((1 : Int32).toUInt32 &&& Int32.toUInt32 31)).toInt32)).toUInt32 >>> ((2 : Int32).toUInt32 &&& Int32.toUInt32 31)).toInt32)) ||| ((((x1 ||| ((x1.toUInt32 >>> ((1 : Int32).toUInt32 &&& Int32.toUInt32 31)).toInt32)) ||| (((x1 ||| ((x1.toUInt32 >>> ((1 : Int32).toUInt32 &&& Int32.toUInt32 31)).toInt32)).toUInt32 >>> ((2 : Int32).toUInt32 &&& Int32.toUInt32 31)).toInt32)).toUInt32 >>> ((4 : Int32).toUInt32 &&& Int32.toUInt32 31)).toInt32)).toUInt32 >>> ((8 : Int32).toUInt32 &&& Int32.toUInt32 31)).toInt32)) ||| ((((((x1 ||| ((x1.toUInt32 >>> ((1 : Int32).toUInt32 &&& Int32.toUInt32 31)).toInt32)) ||| (((x1 ||| ((x1.toUInt32 >>> ((1 : Int32).toUInt32 &&& Int32.toUInt32 31)).toInt32)).toUInt32 >>> ((2 : Int32).toUInt32 &&& Int32.toUInt32 31)).toInt32)) ||| ((((x1 ||| ((x1.toUInt32 >>> ((1 : Int32).toUInt32 &&& Int32.toUInt32 31)).toInt32)) ||| (((x1 ||| ((x1.toUInt32 >>> ((1 : Int32).toUInt32 &&& Int32.toUInt32 31)).toInt32)).toUInt32 >>> ((2 : Int32).toUInt32 &&& Int32.toUInt32 31)).toInt32)).toUInt32 >>> ((4 : Int32).toUInt32 &&& Int32.toUInt32 31)).toInt32)) ||| (((((x1 ||| ((x1.toUInt32 >>> ((1 : Int32).toUInt32 &&& Int32.toUInt32 31)).toInt32)) ||| (((x1 ||| ((x1.toUInt32 >>> ((1 : Int32).toUInt32 &&& Int32.toUInt32 31)).toInt32)).toUInt32 >>> ((2 : Int32).toUInt32 &&& Int32.toUInt32 31)).toInt32)) ||| ((((x1 ||| ((x1.toUInt32 >>> ((1 : Int32).toUInt32 &&& Int32.toUInt32 31)).toInt32)) ||| (((x1 ||| ((x1.toUInt32 >>> ((1 : Int32).toUInt32 &&& Int32.toUInt32 31)).toInt32)).toUInt32 >>> ((2 : Int32).toUInt32 &&& Int32.toUInt32 31)).toInt32)).toUInt32 >>> ((4 : Int32).toUInt32 &&& Int32.toUInt32 31)).toInt32)).toUInt32 >>> ((8 : Int32).toUInt32 &&& Int32.toUInt32 31)).toInt32)).toUInt32 >>> ((16 : Int32).toUInt32 &&& Int32.toUInt32 31)).toInt32))]) (rest := []) (d := 1) (mc := 0) (ms := 0) C0 V rfl LS_Big_60 (c_jInt_bitCount l D g ws (((((x1 ||| ((x1.toUInt32 >>> ((1 : Int32).toUInt32 &&& Int32.toUInt32 31)).toInt32)) ||| (((x1 ||| ((x1.toUInt32 >>> ((1 : Int32).toUInt32 &&& Int32.toUInt32 31)).toInt32)).toUInt32 >>> ((2 : Int32).toUInt32 &&& Int32.toUInt32 31)).toInt32)) ||| ((((x1 ||| ((x1.toUInt32 >>> ((1 : Int32).toUInt32 &&& Int32.toUInt32 31)).toInt32)) ||| (((x1 ||| ((x1.toUInt32 >>> ((1 : Int32).toUInt32 &&& Int32.toUInt32 31)).toInt32)).toUInt32 >>> ((2 : Int32).toUInt32 &&& Int32.toUInt32 31)).toInt32)).toUInt32 >>> ((4 : Int32).toUInt32 &&& Int32.toUInt32 31)).toInt32)) ||| (((((x1 ||| ((x1.toUInt32 >>> ((1 : Int32).toUInt32 &&& Int32.toUInt32 31)).toInt32)) ||| (((x1 ||| ((x1.toUInt32 >>> ((1 : Int32).toUInt32 &&& Int32.toUInt32 31)).toInt32)).toUInt32 >>> ((2 : Int32).toUInt32 &&& Int32.toUInt32 31)).toInt32)) ||| ((((x1 ||| ((x1.toUInt32 >>> ((1 : Int32).toUInt32 &&& Int32.toUInt32 31)).toInt32)) ||| (((x1 ||| ((x1.toUInt32 >>> ((1 : Int32).toUInt32 &&& Int32.toUInt32 31)).toInt32)).toUInt32 >>> ((2 : Int32).toUInt32 &&& Int32.toUInt32 31)).toInt32)).toUInt32 >>> ((4 : Int32).toUInt32 &&& Int32.toUInt32 31)).toInt32)).toUInt32 >>> ((8 : Int32).toUInt32 &&& Int32.toUInt32 31)).toInt32)) ||| ((((((x1 ||| ((x1.toUInt32 >>> ((1 : Int32).toUInt32 &&& Int32.toUInt32 31)).toInt32)) ||| (((x1 ||| ((x1.toUInt32 >>> ((1 : Int32).toUInt32 &&& Int32.toUInt32 31)).toInt32)).toUInt32 >>> ((2 : Int32).toUInt32 &&& Int32.toUInt32 31)).toInt32)) ||| ((((x1 ||| ((x1.toUInt32 >>> ((1 : Int32).toUInt32 &&& Int32.toUInt32 31)).toInt32)) ||| (((x1 ||| ((x1.toUInt32 >>> ((1 : Int32).toUInt32 &&& Int32.toUInt32 31)).toInt32)).toUInt32 >>> ((2 : Int32).toUInt32 &&& Int32.toUInt32 31)).toInt32)).toUInt32 >>> ((4 : Int32).toUInt32 &&& Int32.toUInt32 31)).toInt32)) ||| (((((x1 ||| ((x1.toUInt32 >>> ((1 : Int32).toUInt32 &&& Int32.toUInt32 31)).toInt32)) ||| (((x1 ||| ((x1.toUInt32 >>> ((1 : Int32).toUInt32 &&& Int32.toUInt32 31)).toInt32)).toUInt32 >>> ((2 : Int32).toUInt32 &&& Int32.toUInt32 31)).toInt32)) ||| ((((x1 ||| ((x1.toUInt32 >>> ((1 : Int32).toUInt32 &&& Int32.toUInt32 31)).toInt32)) ||| (((x1 ||| ((x1.toUInt32 >>> ((1 : Int32).toUInt32 &&& Int32.toUInt32 31)).toInt32)).toUInt32 >>> ((2 : Int32).toUInt32 &&& Int32.toUInt32 31)).toInt32)).toUInt32 >>> ((4 : Int32).toUInt32 &&& Int32.toUInt32 31)).toInt32)).toUInt32 >>> ((8 : Int32).toUInt32 &&& Int32.toUInt32 31)).toInt32)).toUInt32 >>> ((16 : Int32).toUInt32 &&& Int32.toUInt32 31)).toInt32)) _) rfl hl.1 rfl (Nat.le_of_ble_eq_true rfl) ⟨by decide, by decide⟩ ⟨Nat.le_of_ble_eq_true rfl, Nat.le_of_ble_eq_true rfl⟩ d_2_13_33) (fun v3 u2 H locs hp1 V => ?_)
  obtain ⟨y6, f4, f5, rfl, rfl⟩ := hp1
  exact q_reti C0 V (⟨y6, f4, f5, rfl, rfl⟩) d_2_13_36
set_option maxRecDepth 100000 in
set_option maxHeartbeats 4000000 in
theorem c_jArr_fill_2 (l : Launch) (D : va_G) (g : Nat → ClassId) (ws : va_W) (kA0 qA0 : Nat) (f1 : Nat → Int32) (hA0 : ws[kA0]? = (some (qA0, .inl (g 0, 220, .inl f1)) : Option (Nat × va_E))) : q_mV l y_jArr_fill prog_37_method_104_code 5 2 0 0 D g [.ref qA0, .int 0, .int 0, .int 0] ws (fun u => ws = u) := by
  intro sz
  refine q_into (by decide) (Nat.le_of_ble_eq_true rfl) ?_
  intro p e s m below meth c ls hsz C0 V hl
  have hx := C0.1
  have hb := C0.2.1
  have hl : lv_has ls 5 [(0, .ref qA0), (1, .int 0), (2, .int 0), (3, .int 0)] := hl
  refine lv_aload_n hx hb d_37_104_0 rfl (lv_at hl 0 rfl) ?_
  refine q_alen (t := 0) (v := 220) C0 V hA0 rfl (by first | rfl | decide) d_37_104_1 ?_
  refine lv_iload_n hx hb d_37_104_2 rfl (lv_at hl 1 rfl) ?_
  refine lv_iload_n hx hb d_37_104_3 rfl (lv_at hl 2 rfl) ?_
  refine q_gov V (q_runS (As := [.int 220, .int 0, .int 0]) (rest := []) (d := 1) (mc := 0) (ms := 0) C0 V rfl LS_jArr_13 (c_jArr_rangeCheck l D g ws _) rfl hl.1 rfl (Nat.le_of_ble_eq_true rfl) ⟨by decide, by decide⟩ ⟨Nat.le_of_ble_eq_true rfl, Nat.le_of_ble_eq_true rfl⟩ d_37_104_4) (fun u2 H locs hp1 V => ?_)
  obtain rfl := hp1
  refine lv_iload_n hx hb d_37_104_7 rfl (lv_at hl 1 rfl) ?_
  refine lv_istore (lv' := [(4, .int 0), (0, .ref qA0), (1, .int 0), (2, .int 0), (3, .int 0)]) hx hb d_37_104_8 hl (by decide) rfl (fun ls hl => ?_)
  refine lv_iload hx hb d_37_104_10 (lv_at hl 0 rfl) ?_
  refine lv_iload_n hx hb d_37_104_12 rfl (lv_at hl 3 rfl) ?_
  refine lv_icmp_ge (tgt := 27) hx hb d_37_104_13 (by decide) (fun c4 => ?_) (fun c4 => absurd (by decide) c4)
  exact q_retv C0 V (rfl) d_37_104_27
set_option maxRecDepth 100000 in
set_option maxHeartbeats 4000000 in
theorem c_Big_product_2 (l : Launch) (D : va_G) (g : Nat → ClassId) (ws : va_W) (kO0 kO1 kA2 qO0 qO1 qA2 qA3 : Nat) (y1 : Int32) (f2 : Nat → Int32) (hO0 : ws[kO0]? = (some (qO0, .inr (2, [.ref qA2, .int y1, .int 0])) : Option (Nat × va_E))) (hO1 : ws[kO1]? = (some (qO1, .inr (2, [.ref qA3, .int 0, .int 0])) : Option (Nat × va_E))) (hA2 : ws[kA2]? = (some (qA2, .inl (g 0, 220, .inl f2)) : Option (Nat × va_E))) (n_O1_O0 : kO1 ≠ kO0) : q_mV l y_Big_product prog_2_method_31_code 13 3 0 0 D g [.ref qO0, .ref qO1, .ref qO1] ws (fun u => q_un ws u [kO0] ∧ u[kO0]? = (some (qO0, .inr (2, [.ref qA2, .int 0, .int 0])) : Option (Nat × va_E))) := by
  intro sz
  refine q_into (by decide) (Nat.le_of_ble_eq_true rfl) ?_
  intro p e s m below meth c ls hsz C0 V hl
  have hx := C0.1
  have hb := C0.2.1
  have hl : lv_has ls 13 [(0, .ref qO0), (1, .ref qO1), (2, .ref qO1)] := hl
  have n_A2_O0 := q_df hA2 hO0
  have hF : q_un ws ws [kO0] := q_u0
  refine lv_aload_n hx hb d_2_31_0 rfl (lv_at hl 1 rfl) ?_
  refine q_get (ci := 2) (j := 1) (v := .int 0) C0 V i_Big rfl rfl hO1 (by decide) w_85 rfl d_2_31_1 ?_
  refine lv_aload_n hx hb d_2_31_4 rfl (lv_at hl 2 rfl) ?_
  refine q_get (ci := 2) (j := 1) (v := .int 0) C0 V i_Big rfl rfl hO1 (by decide) w_85 rfl d_2_31_5 ?_
  refine lv_iadd hx hb d_2_31_8 ?_
  refine q_ti (v := 0) (by decide) ?_
  refine lv_aload_n hx hb d_2_31_9 rfl (lv_at hl 0 rfl) ?_
  refine q_get (ci := 2) (j := 0) (v := .ref qA2) C0 V i_Big rfl rfl hO0 (by decide) w_84 rfl d_2_31_10 ?_
  refine q_alen (t := 0) (v := 220) C0 V hA2 rfl (by first | rfl | decide) d_2_31_13 ?_
  refine q_min C0 hl.1 rfl w_773 w_774 w_7 w_775 ⟨Nat.le_of_ble_eq_true rfl, Nat.le_of_ble_eq_true rfl⟩ ⟨Nat.le_of_ble_eq_true rfl, Nat.le_of_ble_eq_true rfl⟩ d_2_31_14 ?_
  refine q_ti (v := 0) (by decide) ?_
  refine lv_istore_n (lv' := [(3, .int 0), (0, .ref qO0), (1, .ref qO1), (2, .ref qO1)]) hx hb d_2_31_17 rfl hl (by decide) rfl (fun ls hl => ?_)
  refine lv_aload_n hx hb d_2_31_18 rfl (lv_at hl 1 rfl) ?_
  refine q_get (ci := 2) (j := 0) (v := .ref qA2) C0 V i_Big rfl rfl hO0 (by decide) w_84 rfl d_2_31_19 ?_
  refine lv_iconst (v := 0) hx hb d_2_31_22 (by decide) ?_
  refine lv_iload_n hx hb d_2_31_23 rfl (lv_at hl 0 rfl) ?_
  refine lv_iconst (v := 0) hx hb d_2_31_24 (by decide) ?_
  refine q_gov V (q_runS (As := [.ref qA2, .int 0, .int 0, .int 0]) (rest := []) (d := 2) (mc := 0) (ms := 0) C0 V rfl LS_Big_108 (c_jArr_fill_2 l D g ws kA2 qA2 f2 hA2 _) rfl hl.1 rfl (Nat.le_of_ble_eq_true rfl) ⟨by decide, by decide⟩ ⟨Nat.le_of_ble_eq_true rfl, Nat.le_of_ble_eq_true rfl⟩ d_2_31_25) (fun u2 H locs hp1 V => ?_)
  obtain rfl := hp1
  refine lv_iconst (v := 0) hx hb d_2_31_28 (by decide) ?_
  refine lv_istore (lv' := [(4, .int 0), (3, .int 0), (0, .ref qO0), (1, .ref qO1), (2, .ref qO1)]) hx hb d_2_31_29 hl (by decide) rfl (fun ls hl => ?_)
  refine lv_iload hx hb d_2_31_31 (lv_at hl 0 rfl) ?_
  refine lv_aload_n hx hb d_2_31_33 rfl (lv_at hl 3 rfl) ?_
  refine q_get (ci := 2) (j := 1) (v := .int 0) C0 V i_Big rfl rfl hO1 (by decide) w_85 rfl d_2_31_34 ?_
  refine lv_icmp_ge (tgt := 162) hx hb d_2_31_37 (by decide) (fun c4 => ?_) (fun c4 => absurd (by decide) c4)
  refine lv_aload_n hx hb d_2_31_162 rfl (lv_at hl 2 rfl) ?_
  refine lv_iload_n hx hb d_2_31_163 rfl (lv_at hl 1 rfl) ?_
  refine q_put (ci := 2) (j := 1) (v := .int 0) (ty := .int) C0 V i_Big o_Big n_Big rfl rfl hO0 (by decide) w_85 rfl rfl rfl rfl (Nat.le_of_ble_eq_true rfl) d_2_31_164 (fun H locs w5 hu6 hO0 V => ?_)
  replace hO0 : w5[kO0]? = (some (qO0, .inr (2, [.ref qA2, .int 0, .int 0])) : Option (Nat × va_E)) := hO0
  replace hF := q_us hF hu6 (.head _)
  refine lv_aload_n hx hb d_2_31_167 rfl (lv_at hl 2 rfl) ?_
  refine lv_aload_n hx hb d_2_31_168 rfl (lv_at hl 3 rfl) ?_
  replace hO1 := (hu6 _ n_O1_O0).trans (hO1)
  refine q_get (ci := 2) (j := 2) (v := .int 0) C0 V i_Big rfl rfl hO1 (by decide) w_94 rfl d_2_31_169 ?_
  refine lv_aload_n hx hb d_2_31_172 rfl (lv_at hl 4 rfl) ?_
  refine q_get (ci := 2) (j := 2) (v := .int 0) C0 V i_Big rfl rfl hO1 (by decide) w_94 rfl d_2_31_173 ?_
  refine lv_icmp_eq (tgt := 183) hx hb d_2_31_176 (by decide) (fun c7 => ?_) (fun c7 => absurd (by decide) c7)
  refine lv_iconst (v := 0) hx hb d_2_31_183 (by decide) ?_
  refine q_put (ci := 2) (j := 2) (v := .int 0) (ty := .boolean) C0 V i_Big o_Big n_Big rfl rfl hO0 (by decide) w_94 rfl rfl rfl rfl (Nat.le_of_ble_eq_true rfl) d_2_31_184 (fun H locs w8 hu9 hO0 V => ?_)
  replace hO0 : w8[kO0]? = (some (qO0, .inr (2, [.ref qA2, .int 0, .int 0])) : Option (Nat × va_E)) := hO0
  replace hF := q_us hF hu9 (.head _)
  refine lv_aload_n hx hb d_2_31_187 rfl (lv_at hl 2 rfl) ?_
  refine q_gov V (q_runV (As := []) (rest := []) (d := 1) (mc := 0) (ms := 0) (ci := 2) C0 V rfl LV_Big_36 (c_Big_trim l D g w8 kO0 qO0 qA2 hO0 _) rfl rfl hO0 rfl hl.1 rfl (Nat.le_of_ble_eq_true rfl) ⟨by decide, by decide⟩ ⟨Nat.le_of_ble_eq_true rfl, Nat.le_of_ble_eq_true rfl⟩ d_2_31_188) (fun u11 H locs hp10 V => ?_)
  obtain ⟨hg12, hO0⟩ := hp10
  replace hF := q_uc hF hg12 (q_sc (.head _) (fun _ h => absurd h List.not_mem_nil))
  exact q_retv C0 V (⟨hF, hO0⟩) d_2_31_191
set_option maxRecDepth 100000 in
set_option maxHeartbeats 4000000 in
theorem c_Big_copy_6 (l : Launch) (D : va_G) (g : Nat → ClassId) (ws : va_W) (kO0 kO1 kA2 kA3 qO0 qO1 qA2 qA3 : Nat) (f1 : Nat → Int32) (f2 : Nat → Int32) (hO0 : ws[kO0]? = (some (qO0, .inr (2, [.ref qA2, .int 0, .int 0])) : Option (Nat × va_E))) (hO1 : ws[kO1]? = (some (qO1, .inr (2, [.ref qA3, .int 0, .int 0])) : Option (Nat × va_E))) (hA2 : ws[kA2]? = (some (qA2, .inl (g 0, 220, .inl (upd f1 0 0))) : Option (Nat × va_E))) (hA3 : ws[kA3]? = (some (qA3, .inl (g 0, 220, .inl f2)) : Option (Nat × va_E))) (n_A3_A2 : kA3 ≠ kA2) (n_O1_O0 : kO1 ≠ kO0) : q_mV l y_Big_copy prog_2_method_4_code 2 2 0 0 D g [.ref qO0, .ref qO1] ws (fun u => q_un ws u [kO0, kA2] ∧ u[kO0]? = (some (qO0, .inr (2, [.ref qA2, .int 0, .int 0])) : Option (Nat × va_E)) ∧ u[kA2]? = (some (qA2, .inl (g 0, 220, .inl (upd f1 0 0))) : Option (Nat × va_E))) := by
  intro sz
  refine q_into (by decide) (Nat.le_of_ble_eq_true rfl) ?_
  intro p e s m below meth c ls hsz C0 V hl
  have hx := C0.1
  have hb := C0.2.1
  have hl : lv_has ls 2 [(0, .ref qO0), (1, .ref qO1)] := hl
  have n_A2_O0 := q_df hA2 hO0
  have n_A3_O0 := q_df hA3 hO0
  have n_O0_A2 := Ne.symm (q_df hA2 hO0)
  have n_O1_A2 := Ne.symm (q_df hA2 hO1)
  have hF : q_un ws ws [kO0, kA2] := q_u0
  refine lv_aload_n hx hb d_2_4_0 rfl (lv_at hl 0 rfl) ?_
  refine lv_aload_n hx hb d_2_4_1 rfl (lv_at hl 1 rfl) ?_
  refine q_get (ci := 2) (j := 1) (v := .int 0) C0 V i_Big rfl rfl hO1 (by decide) w_85 rfl d_2_4_2 ?_
  refine lv_aload_n hx hb d_2_4_5 rfl (lv_at hl 0 rfl) ?_
  refine q_get (ci := 2) (j := 0) (v := .ref qA2) C0 V i_Big rfl rfl hO0 (by decide) w_84 rfl d_2_4_6 ?_
  refine q_alen (t := 0) (v := 220) C0 V hA2 rfl (by first | rfl | decide) d_2_4_9 ?_
  refine q_min C0 hl.1 rfl w_773 w_774 w_7 w_775 ⟨Nat.le_of_ble_eq_true rfl, Nat.le_of_ble_eq_true rfl⟩ ⟨Nat.le_of_ble_eq_true rfl, Nat.le_of_ble_eq_true rfl⟩ d_2_4_10 ?_
  refine q_ti (v := 0) (by decide) ?_
  refine q_put (ci := 2) (j := 1) (v := .int 0) (ty := .int) C0 V i_Big o_Big n_Big rfl rfl hO0 (by decide) w_85 rfl rfl rfl rfl (Nat.le_of_ble_eq_true rfl) d_2_4_13 (fun H locs w1 hu2 hO0 V => ?_)
  replace hO0 : w1[kO0]? = (some (qO0, .inr (2, [.ref qA2, .int 0, .int 0])) : Option (Nat × va_E)) := hO0
  replace hF := q_us hF hu2 (.head _)
  refine lv_aload_n hx hb d_2_4_16 rfl (lv_at hl 1 rfl) ?_
  replace hO1 := (hu2 _ n_O1_O0).trans (hO1)
  refine q_get (ci := 2) (j := 0) (v := .ref qA3) C0 V i_Big rfl rfl hO1 (by decide) w_84 rfl d_2_4_17 ?_
  refine lv_iconst (v := 0) hx hb d_2_4_20 (by decide) ?_
  refine lv_aload_n hx hb d_2_4_21 rfl (lv_at hl 0 rfl) ?_
  refine q_get (ci := 2) (j := 0) (v := .ref qA2) C0 V i_Big rfl rfl hO0 (by decide) w_84 rfl d_2_4_22 ?_
  refine lv_iconst (v := 0) hx hb d_2_4_25 (by decide) ?_
  refine lv_aload_n hx hb d_2_4_26 rfl (lv_at hl 0 rfl) ?_
  refine q_get (ci := 2) (j := 1) (v := .int 0) C0 V i_Big rfl rfl hO0 (by decide) w_85 rfl d_2_4_27 ?_
  replace hA3 := (hu2 _ n_A3_O0).trans (hA3)
  replace hA2 := (hu2 _ n_A2_O0).trans (hA2)
  refine q_copy C0 V hl.1 rfl w_791 w_793 w_792 w_29 hA3 hA2 (by decide) (by decide) (by decide) (by decide) (by decide) ⟨Nat.le_of_ble_eq_true rfl, Nat.le_of_ble_eq_true rfl⟩ d_2_4_30 (fun H locs w3 hu4 hA2 V => ?_)
  replace hA2 := q_re (y := (qA2, .inl (g 0, 220, .inl (upd f1 0 0)))) hA2 (q_eI q_cpy0)
  replace hA2 : w3[kA2]? = (some (qA2, .inl (g 0, 220, .inl (upd f1 0 0))) : Option (Nat × va_E)) := hA2
  replace hF := q_us hF hu4 (.tail _ (.head _))
  refine lv_aload_n hx hb d_2_4_33 rfl (lv_at hl 0 rfl) ?_
  refine lv_aload_n hx hb d_2_4_34 rfl (lv_at hl 1 rfl) ?_
  replace hO1 := (hu4 _ n_O1_A2).trans (hO1)
  refine q_get (ci := 2) (j := 2) (v := .int 0) C0 V i_Big rfl rfl hO1 (by decide) w_94 rfl d_2_4_35 ?_
  replace hO0 := (hu4 _ n_O0_A2).trans (hO0)
  refine q_put (ci := 2) (j := 2) (v := .int 0) (ty := .boolean) C0 V i_Big o_Big n_Big rfl rfl hO0 (by decide) w_94 rfl rfl rfl rfl (Nat.le_of_ble_eq_true rfl) d_2_4_38 (fun H locs w5 hu6 hO0 V => ?_)
  replace hO0 : w5[kO0]? = (some (qO0, .inr (2, [.ref qA2, .int 0, .int 0])) : Option (Nat × va_E)) := hO0
  replace hF := q_us hF hu6 (.head _)
  replace hA2 := (hu6 _ n_A2_O0).trans (hA2)
  exact q_retv C0 V (⟨hF, hO0, hA2⟩) d_2_4_41
set_option maxRecDepth 100000 in
set_option maxHeartbeats 4000000 in
theorem c_Big_product_3 (l : Launch) (D : va_G) (g : Nat → ClassId) (ws : va_W) (kO0 kO1 kO2 kA3 qO0 qO1 qO2 qA3 qA4 qA5 : Nat) (f1 : Nat → Int32) (hO0 : ws[kO0]? = (some (qO0, .inr (2, [.ref qA3, .int 0, .int 0])) : Option (Nat × va_E))) (hO1 : ws[kO1]? = (some (qO1, .inr (2, [.ref qA4, .int 0, .int 0])) : Option (Nat × va_E))) (hO2 : ws[kO2]? = (some (qO2, .inr (2, [.ref qA5, .int 0, .int 0])) : Option (Nat × va_E))) (hA3 : ws[kA3]? = (some (qA3, .inl (g 0, 220, .inl (upd f1 0 0))) : Option (Nat × va_E))) (n_O1_O0 : kO1 ≠ kO0) (n_O2_O0 : kO2 ≠ kO0) : q_mV l y_Big_product prog_2_method_31_code 13 3 0 0 D g [.ref qO0, .ref qO1, .ref qO2] ws (fun u => q_un ws u [kO0] ∧ u[kO0]? = (some (qO0, .inr (2, [.ref qA3, .int 0, .int 0])) : Option (Nat × va_E))) := by
  intro sz
  refine q_into (by decide) (Nat.le_of_ble_eq_true rfl) ?_
  intro p e s m below meth c ls hsz C0 V hl
  have hx := C0.1
  have hb := C0.2.1
  have hl : lv_has ls 13 [(0, .ref qO0), (1, .ref qO1), (2, .ref qO2)] := hl
  have n_A3_O0 := q_df hA3 hO0
  have hF : q_un ws ws [kO0] := q_u0
  refine lv_aload_n hx hb d_2_31_0 rfl (lv_at hl 1 rfl) ?_
  refine q_get (ci := 2) (j := 1) (v := .int 0) C0 V i_Big rfl rfl hO1 (by decide) w_85 rfl d_2_31_1 ?_
  refine lv_aload_n hx hb d_2_31_4 rfl (lv_at hl 2 rfl) ?_
  refine q_get (ci := 2) (j := 1) (v := .int 0) C0 V i_Big rfl rfl hO2 (by decide) w_85 rfl d_2_31_5 ?_
  refine lv_iadd hx hb d_2_31_8 ?_
  refine q_ti (v := 0) (by decide) ?_
  refine lv_aload_n hx hb d_2_31_9 rfl (lv_at hl 0 rfl) ?_
  refine q_get (ci := 2) (j := 0) (v := .ref qA3) C0 V i_Big rfl rfl hO0 (by decide) w_84 rfl d_2_31_10 ?_
  refine q_alen (t := 0) (v := 220) C0 V hA3 rfl (by first | rfl | decide) d_2_31_13 ?_
  refine q_min C0 hl.1 rfl w_773 w_774 w_7 w_775 ⟨Nat.le_of_ble_eq_true rfl, Nat.le_of_ble_eq_true rfl⟩ ⟨Nat.le_of_ble_eq_true rfl, Nat.le_of_ble_eq_true rfl⟩ d_2_31_14 ?_
  refine q_ti (v := 0) (by decide) ?_
  refine lv_istore_n (lv' := [(3, .int 0), (0, .ref qO0), (1, .ref qO1), (2, .ref qO2)]) hx hb d_2_31_17 rfl hl (by decide) rfl (fun ls hl => ?_)
  refine lv_aload_n hx hb d_2_31_18 rfl (lv_at hl 1 rfl) ?_
  refine q_get (ci := 2) (j := 0) (v := .ref qA3) C0 V i_Big rfl rfl hO0 (by decide) w_84 rfl d_2_31_19 ?_
  refine lv_iconst (v := 0) hx hb d_2_31_22 (by decide) ?_
  refine lv_iload_n hx hb d_2_31_23 rfl (lv_at hl 0 rfl) ?_
  refine lv_iconst (v := 0) hx hb d_2_31_24 (by decide) ?_
  refine q_gov V (q_runS (As := [.ref qA3, .int 0, .int 0, .int 0]) (rest := []) (d := 2) (mc := 0) (ms := 0) C0 V rfl LS_Big_108 (c_jArr_fill_2 l D g ws kA3 qA3 (upd f1 0 0) hA3 _) rfl hl.1 rfl (Nat.le_of_ble_eq_true rfl) ⟨by decide, by decide⟩ ⟨Nat.le_of_ble_eq_true rfl, Nat.le_of_ble_eq_true rfl⟩ d_2_31_25) (fun u2 H locs hp1 V => ?_)
  obtain rfl := hp1
  refine lv_iconst (v := 0) hx hb d_2_31_28 (by decide) ?_
  refine lv_istore (lv' := [(4, .int 0), (3, .int 0), (0, .ref qO0), (1, .ref qO1), (2, .ref qO2)]) hx hb d_2_31_29 hl (by decide) rfl (fun ls hl => ?_)
  refine lv_iload hx hb d_2_31_31 (lv_at hl 0 rfl) ?_
  refine lv_aload_n hx hb d_2_31_33 rfl (lv_at hl 3 rfl) ?_
  refine q_get (ci := 2) (j := 1) (v := .int 0) C0 V i_Big rfl rfl hO1 (by decide) w_85 rfl d_2_31_34 ?_
  refine lv_icmp_ge (tgt := 162) hx hb d_2_31_37 (by decide) (fun c4 => ?_) (fun c4 => absurd (by decide) c4)
  refine lv_aload_n hx hb d_2_31_162 rfl (lv_at hl 2 rfl) ?_
  refine lv_iload_n hx hb d_2_31_163 rfl (lv_at hl 1 rfl) ?_
  refine q_put (ci := 2) (j := 1) (v := .int 0) (ty := .int) C0 V i_Big o_Big n_Big rfl rfl hO0 (by decide) w_85 rfl rfl rfl rfl (Nat.le_of_ble_eq_true rfl) d_2_31_164 (fun H locs w5 hu6 hO0 V => ?_)
  replace hO0 : w5[kO0]? = (some (qO0, .inr (2, [.ref qA3, .int 0, .int 0])) : Option (Nat × va_E)) := hO0
  replace hF := q_us hF hu6 (.head _)
  refine lv_aload_n hx hb d_2_31_167 rfl (lv_at hl 2 rfl) ?_
  refine lv_aload_n hx hb d_2_31_168 rfl (lv_at hl 3 rfl) ?_
  replace hO1 := (hu6 _ n_O1_O0).trans (hO1)
  refine q_get (ci := 2) (j := 2) (v := .int 0) C0 V i_Big rfl rfl hO1 (by decide) w_94 rfl d_2_31_169 ?_
  refine lv_aload_n hx hb d_2_31_172 rfl (lv_at hl 4 rfl) ?_
  replace hO2 := (hu6 _ n_O2_O0).trans (hO2)
  refine q_get (ci := 2) (j := 2) (v := .int 0) C0 V i_Big rfl rfl hO2 (by decide) w_94 rfl d_2_31_173 ?_
  refine lv_icmp_eq (tgt := 183) hx hb d_2_31_176 (by decide) (fun c7 => ?_) (fun c7 => absurd (by decide) c7)
  refine lv_iconst (v := 0) hx hb d_2_31_183 (by decide) ?_
  refine q_put (ci := 2) (j := 2) (v := .int 0) (ty := .boolean) C0 V i_Big o_Big n_Big rfl rfl hO0 (by decide) w_94 rfl rfl rfl rfl (Nat.le_of_ble_eq_true rfl) d_2_31_184 (fun H locs w8 hu9 hO0 V => ?_)
  replace hO0 : w8[kO0]? = (some (qO0, .inr (2, [.ref qA3, .int 0, .int 0])) : Option (Nat × va_E)) := hO0
  replace hF := q_us hF hu9 (.head _)
  refine lv_aload_n hx hb d_2_31_187 rfl (lv_at hl 2 rfl) ?_
  refine q_gov V (q_runV (As := []) (rest := []) (d := 1) (mc := 0) (ms := 0) (ci := 2) C0 V rfl LV_Big_36 (c_Big_trim l D g w8 kO0 qO0 qA3 hO0 _) rfl rfl hO0 rfl hl.1 rfl (Nat.le_of_ble_eq_true rfl) ⟨by decide, by decide⟩ ⟨Nat.le_of_ble_eq_true rfl, Nat.le_of_ble_eq_true rfl⟩ d_2_31_188) (fun u11 H locs hp10 V => ?_)
  obtain ⟨hg12, hO0⟩ := hp10
  replace hF := q_uc hF hg12 (q_sc (.head _) (fun _ h => absurd h List.not_mem_nil))
  exact q_retv C0 V (⟨hF, hO0⟩) d_2_31_191
set_option maxRecDepth 100000 in
set_option maxHeartbeats 4000000 in
theorem c_jArr_rangeCheck_2 (l : Launch) (D : va_G) (g : Nat → ClassId) (ws : va_W) : q_mV l y_jArr_rangeCheck prog_37_method_30_code 3 1 0 0 D g [.int 220, .int 0, .int 2] ws (fun u => ws = u) := by
  intro sz
  refine q_into (by decide) (Nat.le_of_ble_eq_true rfl) ?_
  intro p e s m below meth c ls hsz C0 V hl
  have hx := C0.1
  have hb := C0.2.1
  have hl : lv_has ls 3 [(0, .int 220), (1, .int 0), (2, .int 2)] := hl
  refine lv_iload_n hx hb d_37_30_0 rfl (lv_at hl 1 rfl) ?_
  refine lv_iload_n hx hb d_37_30_1 rfl (lv_at hl 2 rfl) ?_
  refine lv_icmp_le (tgt := 46) hx hb d_37_30_2 (by decide) (fun c1 => ?_) (fun c1 => absurd (by decide) c1)
  refine lv_iload_n hx hb d_37_30_46 rfl (lv_at hl 1 rfl) ?_
  refine lv_if_ge (tgt := 59) hx hb d_37_30_47 (by decide) (fun c2 => ?_) (fun c2 => absurd (by decide) c2)
  refine lv_iload_n hx hb d_37_30_59 rfl (lv_at hl 2 rfl) ?_
  refine lv_iload_n hx hb d_37_30_60 rfl (lv_at hl 0 rfl) ?_
  refine lv_icmp_le (tgt := 73) hx hb d_37_30_61 (by decide) (fun c3 => ?_) (fun c3 => absurd (by decide) c3)
  exact q_retv C0 V (rfl) d_37_30_73
theorem d_37_104_16 : decode prog_37_method_104_code 16 = .ok (.aload_n 0, 1) := by decide +kernel
theorem d_37_104_17 : decode prog_37_method_104_code 17 = .ok (.iload 4, 2) := by decide +kernel
theorem d_37_104_19 : decode prog_37_method_104_code 19 = .ok (.iload_n 3, 1) := by decide +kernel
theorem d_37_104_20 : decode prog_37_method_104_code 20 = .ok (.iastore, 1) := by decide +kernel
theorem d_37_104_21 : decode prog_37_method_104_code 21 = .ok (.iinc 4 1, 3) := by decide +kernel
theorem d_37_104_24 : decode prog_37_method_104_code 24 = .ok (.goto (-14), 3) := by decide +kernel
set_option maxRecDepth 100000 in
set_option maxHeartbeats 4000000 in
theorem c_jArr_fill_3 (l : Launch) (D : va_G) (g : Nat → ClassId) (ws : va_W) (kA0 qA0 : Nat) (f1 : Nat → Int32) (hA0 : ws[kA0]? = (some (qA0, .inl (g 0, 220, .inl f1)) : Option (Nat × va_E))) : q_mV l y_jArr_fill prog_37_method_104_code 5 2 0 0 D g [.ref qA0, .int 0, .int 2, .int 0] ws (fun u => q_un ws u [kA0] ∧ u[kA0]? = (some (qA0, .inl (g 0, 220, .inl (upd (upd f1 0 0) 1 0))) : Option (Nat × va_E))) := by
  intro sz
  refine q_into (by decide) (Nat.le_of_ble_eq_true rfl) ?_
  intro p e s m below meth c ls hsz C0 V hl
  have hx := C0.1
  have hb := C0.2.1
  have hl : lv_has ls 5 [(0, .ref qA0), (1, .int 0), (2, .int 2), (3, .int 0)] := hl
  have hF : q_un ws ws [kA0] := q_u0
  refine lv_aload_n hx hb d_37_104_0 rfl (lv_at hl 0 rfl) ?_
  refine q_alen (t := 0) (v := 220) C0 V hA0 rfl (by first | rfl | decide) d_37_104_1 ?_
  refine lv_iload_n hx hb d_37_104_2 rfl (lv_at hl 1 rfl) ?_
  refine lv_iload_n hx hb d_37_104_3 rfl (lv_at hl 2 rfl) ?_
  refine q_gov V (q_runS (As := [.int 220, .int 0, .int 2]) (rest := []) (d := 1) (mc := 0) (ms := 0) C0 V rfl LS_jArr_13 (c_jArr_rangeCheck_2 l D g ws _) rfl hl.1 rfl (Nat.le_of_ble_eq_true rfl) ⟨by decide, by decide⟩ ⟨Nat.le_of_ble_eq_true rfl, Nat.le_of_ble_eq_true rfl⟩ d_37_104_4) (fun u2 H locs hp1 V => ?_)
  obtain rfl := hp1
  refine lv_iload_n hx hb d_37_104_7 rfl (lv_at hl 1 rfl) ?_
  refine lv_istore (lv' := [(4, .int 0), (0, .ref qA0), (1, .int 0), (2, .int 2), (3, .int 0)]) hx hb d_37_104_8 hl (by decide) rfl (fun ls hl => ?_)
  refine lv_iload hx hb d_37_104_10 (lv_at hl 0 rfl) ?_
  refine lv_iload_n hx hb d_37_104_12 rfl (lv_at hl 3 rfl) ?_
  refine lv_icmp_ge (tgt := 27) hx hb d_37_104_13 (by decide) (fun c4 => absurd c4 (by decide)) (fun c4 => ?_)
  refine lv_aload_n hx hb d_37_104_16 rfl (lv_at hl 1 rfl) ?_
  refine lv_iload hx hb d_37_104_17 (lv_at hl 0 rfl) ?_
  refine lv_iload_n hx hb d_37_104_19 rfl (lv_at hl 4 rfl) ?_
  refine q_iast C0 V hA0 (by unfold vp_in; decide) d_37_104_20 (fun H locs w5 hu6 hA0 V => ?_)
  replace hA0 : w5[kA0]? = (some (qA0, .inl (g 0, 220, .inl (upd f1 0 0))) : Option (Nat × va_E)) := hA0
  replace hF := q_us hF hu6 (.head _)
  refine lv_iinc (v := 1) (lv' := [(4, .int 1), (0, .ref qA0), (1, .int 0), (2, .int 2), (3, .int 0)]) hx hb d_37_104_21 hl (k := 0) rfl (by decide) (by decide) rfl (fun ls hl => ?_)
  refine lv_goto (tgt := 10) hx hb d_37_104_24 (by decide) ?_
  refine lv_iload hx hb d_37_104_10 (lv_at hl 0 rfl) ?_
  refine lv_iload_n hx hb d_37_104_12 rfl (lv_at hl 3 rfl) ?_
  refine lv_icmp_ge (tgt := 27) hx hb d_37_104_13 (by decide) (fun c7 => absurd c7 (by decide)) (fun c7 => ?_)
  refine lv_aload_n hx hb d_37_104_16 rfl (lv_at hl 1 rfl) ?_
  refine lv_iload hx hb d_37_104_17 (lv_at hl 0 rfl) ?_
  refine lv_iload_n hx hb d_37_104_19 rfl (lv_at hl 4 rfl) ?_
  refine q_iast C0 V hA0 (by unfold vp_in; decide) d_37_104_20 (fun H locs w8 hu9 hA0 V => ?_)
  replace hA0 : w8[kA0]? = (some (qA0, .inl (g 0, 220, .inl (upd (upd f1 0 0) 1 0))) : Option (Nat × va_E)) := hA0
  replace hF := q_us hF hu9 (.head _)
  refine lv_iinc (v := 2) (lv' := [(4, .int 2), (0, .ref qA0), (1, .int 0), (2, .int 2), (3, .int 0)]) hx hb d_37_104_21 hl (k := 0) rfl (by decide) (by decide) rfl (fun ls hl => ?_)
  refine lv_goto (tgt := 10) hx hb d_37_104_24 (by decide) ?_
  refine lv_iload hx hb d_37_104_10 (lv_at hl 0 rfl) ?_
  refine lv_iload_n hx hb d_37_104_12 rfl (lv_at hl 3 rfl) ?_
  refine lv_icmp_ge (tgt := 27) hx hb d_37_104_13 (by decide) (fun c10 => ?_) (fun c10 => absurd (by decide) c10)
  exact q_retv C0 V (⟨hF, hA0⟩) d_37_104_27
set_option maxRecDepth 100000 in
set_option maxHeartbeats 4000000 in
theorem c_Big_trim_6 (l : Launch) (D : va_G) (g : Nat → ClassId) (ws : va_W) (kO0 kA1 qO0 qA1 : Nat) (f1 : Nat → Int32) (hO0 : ws[kO0]? = (some (qO0, .inr (2, [.ref qA1, .int 2, .int 0])) : Option (Nat × va_E))) (hA1 : ws[kA1]? = (some (qA1, .inl (g 0, 220, .inl (upd (upd f1 0 1) 1 0))) : Option (Nat × va_E))) : q_mV l y_Big_trim prog_2_method_7_code 2 1 0 0 D g [.ref qO0] ws (fun u => q_un ws u [kO0] ∧ u[kO0]? = (some (qO0, .inr (2, [.ref qA1, .int 1, .int 0])) : Option (Nat × va_E))) := by
  intro sz
  refine q_into (by decide) (Nat.le_of_ble_eq_true rfl) ?_
  intro p e s m below meth c ls hsz C0 V hl
  have hx := C0.1
  have hb := C0.2.1
  have hl : lv_has ls 2 [(0, .ref qO0)] := hl
  have n_A1_O0 := q_df hA1 hO0
  have hF : q_un ws ws [kO0] := q_u0
  refine lv_aload_n hx hb d_2_7_0 rfl (lv_at hl 0 rfl) ?_
  refine q_get (ci := 2) (j := 1) (v := .int 2) C0 V i_Big rfl rfl hO0 (by decide) w_85 rfl d_2_7_1 ?_
  refine lv_istore_n (lv' := [(1, .int 2), (0, .ref qO0)]) hx hb d_2_7_4 rfl hl (by decide) rfl (fun ls hl => ?_)
  refine lv_iload_n hx hb d_2_7_5 rfl (lv_at hl 0 rfl) ?_
  refine lv_if_le (tgt := 26) hx hb d_2_7_6 (by decide) (fun c1 => absurd c1 (by decide)) (fun c1 => ?_)
  refine lv_aload_n hx hb d_2_7_9 rfl (lv_at hl 1 rfl) ?_
  refine q_get (ci := 2) (j := 0) (v := .ref qA1) C0 V i_Big rfl rfl hO0 (by decide) w_84 rfl d_2_7_10 ?_
  refine lv_iload_n hx hb d_2_7_13 rfl (lv_at hl 0 rfl) ?_
  refine lv_iconst (v := 1) hx hb d_2_7_14 (by decide) ?_
  refine lv_isub hx hb d_2_7_15 ?_
  refine q_ti (v := 1) (by decide) ?_
  refine q_iald C0 V hA1 (by unfold vp_in; decide) d_2_7_16 ?_
  refine q_ti (v := 0) (by first | rfl | decide | simp [upd, vp_updL, sb_cl0]) ?_
  refine lv_if_ne (tgt := 26) hx hb d_2_7_17 (by decide) (fun c2 => absurd (by decide) c2) (fun c2 => ?_)
  refine lv_iinc (v := 1) (lv' := [(1, .int 1), (0, .ref qO0)]) hx hb d_2_7_20 hl (k := 0) rfl (by decide) (by decide) rfl (fun ls hl => ?_)
  refine lv_goto (tgt := 5) hx hb d_2_7_23 (by decide) ?_
  refine lv_iload_n hx hb d_2_7_5 rfl (lv_at hl 0 rfl) ?_
  refine lv_if_le (tgt := 26) hx hb d_2_7_6 (by decide) (fun c3 => absurd c3 (by decide)) (fun c3 => ?_)
  refine lv_aload_n hx hb d_2_7_9 rfl (lv_at hl 1 rfl) ?_
  refine q_get (ci := 2) (j := 0) (v := .ref qA1) C0 V i_Big rfl rfl hO0 (by decide) w_84 rfl d_2_7_10 ?_
  refine lv_iload_n hx hb d_2_7_13 rfl (lv_at hl 0 rfl) ?_
  refine lv_iconst (v := 1) hx hb d_2_7_14 (by decide) ?_
  refine lv_isub hx hb d_2_7_15 ?_
  refine q_ti (v := 0) (by decide) ?_
  refine q_iald C0 V hA1 (by unfold vp_in; decide) d_2_7_16 ?_
  refine q_ti (v := 1) (by first | rfl | decide | simp [upd, vp_updL, sb_cl0]) ?_
  refine lv_if_ne (tgt := 26) hx hb d_2_7_17 (by decide) (fun c4 => ?_) (fun c4 => absurd c4 (by decide))
  refine lv_aload_n hx hb d_2_7_26 rfl (lv_at hl 1 rfl) ?_
  refine lv_iload_n hx hb d_2_7_27 rfl (lv_at hl 0 rfl) ?_
  refine q_put (ci := 2) (j := 1) (v := .int 1) (ty := .int) C0 V i_Big o_Big n_Big rfl rfl hO0 (by decide) w_85 rfl rfl rfl rfl (Nat.le_of_ble_eq_true rfl) d_2_7_28 (fun H locs w5 hu6 hO0 V => ?_)
  replace hO0 : w5[kO0]? = (some (qO0, .inr (2, [.ref qA1, .int 1, .int 0])) : Option (Nat × va_E)) := hO0
  replace hF := q_us hF hu6 (.head _)
  refine lv_aload_n hx hb d_2_7_31 rfl (lv_at hl 1 rfl) ?_
  refine lv_aload_n hx hb d_2_7_32 rfl (lv_at hl 1 rfl) ?_
  refine q_get (ci := 2) (j := 2) (v := .int 0) C0 V i_Big rfl rfl hO0 (by decide) w_94 rfl d_2_7_33 ?_
  refine lv_if_eq (tgt := 47) hx hb d_2_7_36 (by decide) (fun c7 => ?_) (fun c7 => absurd (by decide) c7)
  refine lv_iconst (v := 0) hx hb d_2_7_47 (by decide) ?_
  refine q_put (ci := 2) (j := 2) (v := .int 0) (ty := .boolean) C0 V i_Big o_Big n_Big rfl rfl hO0 (by decide) w_94 rfl rfl rfl rfl (Nat.le_of_ble_eq_true rfl) d_2_7_48 (fun H locs w8 hu9 hO0 V => ?_)
  replace hO0 : w8[kO0]? = (some (qO0, .inr (2, [.ref qA1, .int 1, .int 0])) : Option (Nat × va_E)) := hO0
  replace hF := q_us hF hu9 (.head _)
  exact q_retv C0 V (⟨hF, hO0⟩) d_2_7_51
theorem d_2_31_40 : decode prog_2_method_31_code 40 = .ok (.aload_n 2, 1) := by decide +kernel
theorem d_2_31_41 : decode prog_2_method_31_code 41 = .ok (.getfield 13, 3) := by decide +kernel
theorem d_2_31_44 : decode prog_2_method_31_code 44 = .ok (.iload_n 3, 1) := by decide +kernel
theorem d_2_31_45 : decode prog_2_method_31_code 45 = .ok (.iload 4, 2) := by decide +kernel
theorem d_2_31_47 : decode prog_2_method_31_code 47 = .ok (.isub, 1) := by decide +kernel
theorem d_2_31_48 : decode prog_2_method_31_code 48 = .ok (.invokestatic 39, 3) := by decide +kernel
theorem d_2_31_51 : decode prog_2_method_31_code 51 = .ok (.istore 5, 2) := by decide +kernel
theorem d_2_31_53 : decode prog_2_method_31_code 53 = .ok (.aload_n 1, 1) := by decide +kernel
theorem d_2_31_54 : decode prog_2_method_31_code 54 = .ok (.getfield 7, 3) := by decide +kernel
theorem d_2_31_57 : decode prog_2_method_31_code 57 = .ok (.iload 4, 2) := by decide +kernel
theorem d_2_31_59 : decode prog_2_method_31_code 59 = .ok (.iaload, 1) := by decide +kernel
theorem d_2_31_60 : decode prog_2_method_31_code 60 = .ok (.i2l, 1) := by decide +kernel
theorem d_2_31_61 : decode prog_2_method_31_code 61 = .ok (.lstore 6, 2) := by decide +kernel
theorem d_2_31_63 : decode prog_2_method_31_code 63 = .ok (.lconst 0, 1) := by decide +kernel
theorem d_2_31_64 : decode prog_2_method_31_code 64 = .ok (.lstore 8, 2) := by decide +kernel
theorem d_2_31_66 : decode prog_2_method_31_code 66 = .ok (.iconst 0, 1) := by decide +kernel
theorem d_2_31_67 : decode prog_2_method_31_code 67 = .ok (.istore 10, 2) := by decide +kernel
theorem d_2_31_69 : decode prog_2_method_31_code 69 = .ok (.iload 10, 2) := by decide +kernel
theorem d_2_31_71 : decode prog_2_method_31_code 71 = .ok (.iload 5, 2) := by decide +kernel
theorem d_2_31_73 : decode prog_2_method_31_code 73 = .ok (.if_icmp .ge 61, 3) := by decide +kernel
theorem d_2_31_76 : decode prog_2_method_31_code 76 = .ok (.lload 6, 2) := by decide +kernel
theorem d_2_31_78 : decode prog_2_method_31_code 78 = .ok (.aload_n 2, 1) := by decide +kernel
theorem d_2_31_79 : decode prog_2_method_31_code 79 = .ok (.getfield 7, 3) := by decide +kernel
theorem d_2_31_82 : decode prog_2_method_31_code 82 = .ok (.iload 10, 2) := by decide +kernel
theorem d_2_31_84 : decode prog_2_method_31_code 84 = .ok (.iaload, 1) := by decide +kernel
theorem d_2_31_85 : decode prog_2_method_31_code 85 = .ok (.i2l, 1) := by decide +kernel
theorem d_2_31_86 : decode prog_2_method_31_code 86 = .ok (.lmul, 1) := by decide +kernel
theorem d_2_31_87 : decode prog_2_method_31_code 87 = .ok (.aload_n 0, 1) := by decide +kernel
theorem d_2_31_88 : decode prog_2_method_31_code 88 = .ok (.getfield 7, 3) := by decide +kernel
theorem d_2_31_91 : decode prog_2_method_31_code 91 = .ok (.iload 4, 2) := by decide +kernel
theorem d_2_31_93 : decode prog_2_method_31_code 93 = .ok (.iload 10, 2) := by decide +kernel
theorem d_2_31_95 : decode prog_2_method_31_code 95 = .ok (.iadd, 1) := by decide +kernel
theorem d_2_31_96 : decode prog_2_method_31_code 96 = .ok (.iaload, 1) := by decide +kernel
theorem d_2_31_97 : decode prog_2_method_31_code 97 = .ok (.i2l, 1) := by decide +kernel
theorem d_2_31_98 : decode prog_2_method_31_code 98 = .ok (.ladd, 1) := by decide +kernel
theorem d_2_31_99 : decode prog_2_method_31_code 99 = .ok (.lload 8, 2) := by decide +kernel
theorem d_2_31_101 : decode prog_2_method_31_code 101 = .ok (.ladd, 1) := by decide +kernel
theorem d_2_31_102 : decode prog_2_method_31_code 102 = .ok (.lstore 11, 2) := by decide +kernel
theorem d_2_31_104 : decode prog_2_method_31_code 104 = .ok (.aload_n 0, 1) := by decide +kernel
theorem d_2_31_105 : decode prog_2_method_31_code 105 = .ok (.getfield 7, 3) := by decide +kernel
theorem d_2_31_108 : decode prog_2_method_31_code 108 = .ok (.iload 4, 2) := by decide +kernel
theorem d_2_31_110 : decode prog_2_method_31_code 110 = .ok (.iload 10, 2) := by decide +kernel
theorem d_2_31_112 : decode prog_2_method_31_code 112 = .ok (.iadd, 1) := by decide +kernel
theorem d_2_31_113 : decode prog_2_method_31_code 113 = .ok (.lload 11, 2) := by decide +kernel
theorem d_2_31_115 : decode prog_2_method_31_code 115 = .ok (.ldc2_w 30, 3) := by decide +kernel
theorem d_2_31_118 : decode prog_2_method_31_code 118 = .ok (.land, 1) := by decide +kernel
theorem d_2_31_119 : decode prog_2_method_31_code 119 = .ok (.l2i, 1) := by decide +kernel
theorem d_2_31_120 : decode prog_2_method_31_code 120 = .ok (.iastore, 1) := by decide +kernel
theorem d_2_31_121 : decode prog_2_method_31_code 121 = .ok (.lload 11, 2) := by decide +kernel
theorem d_2_31_123 : decode prog_2_method_31_code 123 = .ok (.bipush 31, 2) := by decide +kernel
theorem d_2_31_125 : decode prog_2_method_31_code 125 = .ok (.lushr, 1) := by decide +kernel
theorem d_2_31_126 : decode prog_2_method_31_code 126 = .ok (.lstore 8, 2) := by decide +kernel
theorem d_2_31_128 : decode prog_2_method_31_code 128 = .ok (.iinc 10 1, 3) := by decide +kernel
theorem d_2_31_131 : decode prog_2_method_31_code 131 = .ok (.goto (-62), 3) := by decide +kernel
theorem d_2_31_134 : decode prog_2_method_31_code 134 = .ok (.iload 4, 2) := by decide +kernel
theorem d_2_31_136 : decode prog_2_method_31_code 136 = .ok (.iload 5, 2) := by decide +kernel
theorem d_2_31_138 : decode prog_2_method_31_code 138 = .ok (.iadd, 1) := by decide +kernel
theorem d_2_31_139 : decode prog_2_method_31_code 139 = .ok (.iload_n 3, 1) := by decide +kernel
theorem d_2_31_140 : decode prog_2_method_31_code 140 = .ok (.if_icmp .ge 16, 3) := by decide +kernel
theorem d_2_31_143 : decode prog_2_method_31_code 143 = .ok (.aload_n 0, 1) := by decide +kernel
theorem d_2_31_144 : decode prog_2_method_31_code 144 = .ok (.getfield 7, 3) := by decide +kernel
theorem d_2_31_147 : decode prog_2_method_31_code 147 = .ok (.iload 4, 2) := by decide +kernel
theorem d_2_31_149 : decode prog_2_method_31_code 149 = .ok (.iload 5, 2) := by decide +kernel
theorem d_2_31_151 : decode prog_2_method_31_code 151 = .ok (.iadd, 1) := by decide +kernel
theorem d_2_31_152 : decode prog_2_method_31_code 152 = .ok (.lload 8, 2) := by decide +kernel
theorem d_2_31_154 : decode prog_2_method_31_code 154 = .ok (.l2i, 1) := by decide +kernel
theorem d_2_31_155 : decode prog_2_method_31_code 155 = .ok (.iastore, 1) := by decide +kernel
theorem d_2_31_156 : decode prog_2_method_31_code 156 = .ok (.iinc 4 1, 3) := by decide +kernel
theorem d_2_31_159 : decode prog_2_method_31_code 159 = .ok (.goto (-128), 3) := by decide +kernel
set_option maxRecDepth 100000 in
set_option maxHeartbeats 4000000 in
theorem c_Big_product_4 (l : Launch) (D : va_G) (g : Nat → ClassId) (ws : va_W) (kO0 kO1 kA2 kA3 qO0 qO1 qA2 qA3 : Nat) (y1 : Int32) (f2 : Nat → Int32) (f3 : Nat → Int32) (hO0 : ws[kO0]? = (some (qO0, .inr (2, [.ref qA2, .int y1, .int 0])) : Option (Nat × va_E))) (hO1 : ws[kO1]? = (some (qO1, .inr (2, [.ref qA3, .int 1, .int 0])) : Option (Nat × va_E))) (hA2 : ws[kA2]? = (some (qA2, .inl (g 0, 220, .inl f2)) : Option (Nat × va_E))) (hA3 : ws[kA3]? = (some (qA3, .inl (g 0, 220, .inl (upd f3 0 1))) : Option (Nat × va_E))) (n_A3_A2 : kA3 ≠ kA2) (n_O1_O0 : kO1 ≠ kO0) : q_mV l y_Big_product prog_2_method_31_code 13 3 0 0 D g [.ref qO0, .ref qO1, .ref qO1] ws (fun u => q_un ws u [kO0, kA2] ∧ u[kO0]? = (some (qO0, .inr (2, [.ref qA2, .int 1, .int 0])) : Option (Nat × va_E)) ∧ u[kA2]? = (some (qA2, .inl (g 0, 220, .inl (upd (upd f2 0 1) 1 0))) : Option (Nat × va_E))) := by
  intro sz
  refine q_into (by decide) (Nat.le_of_ble_eq_true rfl) ?_
  intro p e s m below meth c ls hsz C0 V hl
  have hx := C0.1
  have hb := C0.2.1
  have hl : lv_has ls 13 [(0, .ref qO0), (1, .ref qO1), (2, .ref qO1)] := hl
  have n_A2_O0 := q_df hA2 hO0
  have n_A3_O0 := q_df hA3 hO0
  have n_O0_A2 := Ne.symm (q_df hA2 hO0)
  have n_O1_A2 := Ne.symm (q_df hA2 hO1)
  have hF : q_un ws ws [kO0, kA2] := q_u0
  refine lv_aload_n hx hb d_2_31_0 rfl (lv_at hl 1 rfl) ?_
  refine q_get (ci := 2) (j := 1) (v := .int 1) C0 V i_Big rfl rfl hO1 (by decide) w_85 rfl d_2_31_1 ?_
  refine lv_aload_n hx hb d_2_31_4 rfl (lv_at hl 2 rfl) ?_
  refine q_get (ci := 2) (j := 1) (v := .int 1) C0 V i_Big rfl rfl hO1 (by decide) w_85 rfl d_2_31_5 ?_
  refine lv_iadd hx hb d_2_31_8 ?_
  refine q_ti (v := 2) (by decide) ?_
  refine lv_aload_n hx hb d_2_31_9 rfl (lv_at hl 0 rfl) ?_
  refine q_get (ci := 2) (j := 0) (v := .ref qA2) C0 V i_Big rfl rfl hO0 (by decide) w_84 rfl d_2_31_10 ?_
  refine q_alen (t := 0) (v := 220) C0 V hA2 rfl (by first | rfl | decide) d_2_31_13 ?_
  refine q_min C0 hl.1 rfl w_773 w_774 w_7 w_775 ⟨Nat.le_of_ble_eq_true rfl, Nat.le_of_ble_eq_true rfl⟩ ⟨Nat.le_of_ble_eq_true rfl, Nat.le_of_ble_eq_true rfl⟩ d_2_31_14 ?_
  refine q_ti (v := 2) (by decide) ?_
  refine lv_istore_n (lv' := [(3, .int 2), (0, .ref qO0), (1, .ref qO1), (2, .ref qO1)]) hx hb d_2_31_17 rfl hl (by decide) rfl (fun ls hl => ?_)
  refine lv_aload_n hx hb d_2_31_18 rfl (lv_at hl 1 rfl) ?_
  refine q_get (ci := 2) (j := 0) (v := .ref qA2) C0 V i_Big rfl rfl hO0 (by decide) w_84 rfl d_2_31_19 ?_
  refine lv_iconst (v := 0) hx hb d_2_31_22 (by decide) ?_
  refine lv_iload_n hx hb d_2_31_23 rfl (lv_at hl 0 rfl) ?_
  refine lv_iconst (v := 0) hx hb d_2_31_24 (by decide) ?_
  refine q_gov V (q_runS (As := [.ref qA2, .int 0, .int 2, .int 0]) (rest := []) (d := 2) (mc := 0) (ms := 0) C0 V rfl LS_Big_108 (c_jArr_fill_3 l D g ws kA2 qA2 f2 hA2 _) rfl hl.1 rfl (Nat.le_of_ble_eq_true rfl) ⟨by decide, by decide⟩ ⟨Nat.le_of_ble_eq_true rfl, Nat.le_of_ble_eq_true rfl⟩ d_2_31_25) (fun u2 H locs hp1 V => ?_)
  obtain ⟨hg3, hA2⟩ := hp1
  replace hF := q_uc hF hg3 (q_sc (.tail _ (.head _)) (fun _ h => absurd h List.not_mem_nil))
  refine lv_iconst (v := 0) hx hb d_2_31_28 (by decide) ?_
  refine lv_istore (lv' := [(4, .int 0), (3, .int 2), (0, .ref qO0), (1, .ref qO1), (2, .ref qO1)]) hx hb d_2_31_29 hl (by decide) rfl (fun ls hl => ?_)
  refine lv_iload hx hb d_2_31_31 (lv_at hl 0 rfl) ?_
  refine lv_aload_n hx hb d_2_31_33 rfl (lv_at hl 3 rfl) ?_
  replace hO1 := (hg3 _ (q_nc n_O1_A2 List.not_mem_nil)).trans (hO1)
  refine q_get (ci := 2) (j := 1) (v := .int 1) C0 V i_Big rfl rfl hO1 (by decide) w_85 rfl d_2_31_34 ?_
  refine lv_icmp_ge (tgt := 162) hx hb d_2_31_37 (by decide) (fun c4 => absurd c4 (by decide)) (fun c4 => ?_)
  refine lv_aload_n hx hb d_2_31_40 rfl (lv_at hl 4 rfl) ?_
  refine q_get (ci := 2) (j := 1) (v := .int 1) C0 V i_Big rfl rfl hO1 (by decide) w_85 rfl d_2_31_41 ?_
  refine lv_iload_n hx hb d_2_31_44 rfl (lv_at hl 1 rfl) ?_
  refine lv_iload hx hb d_2_31_45 (lv_at hl 0 rfl) ?_
  refine lv_isub hx hb d_2_31_47 ?_
  refine q_ti (v := 2) (by decide) ?_
  refine q_min C0 hl.1 rfl w_773 w_774 w_7 w_775 ⟨Nat.le_of_ble_eq_true rfl, Nat.le_of_ble_eq_true rfl⟩ ⟨Nat.le_of_ble_eq_true rfl, Nat.le_of_ble_eq_true rfl⟩ d_2_31_48 ?_
  refine q_ti (v := 1) (by decide) ?_
  refine lv_istore (lv' := [(5, .int 1), (4, .int 0), (3, .int 2), (0, .ref qO0), (1, .ref qO1), (2, .ref qO1)]) hx hb d_2_31_51 hl (by decide) rfl (fun ls hl => ?_)
  refine lv_aload_n hx hb d_2_31_53 rfl (lv_at hl 4 rfl) ?_
  refine q_get (ci := 2) (j := 0) (v := .ref qA3) C0 V i_Big rfl rfl hO1 (by decide) w_84 rfl d_2_31_54 ?_
  refine lv_iload hx hb d_2_31_57 (lv_at hl 1 rfl) ?_
  replace hA3 := (hg3 _ (q_nc n_A3_A2 List.not_mem_nil)).trans (hA3)
  refine q_iald C0 V hA3 (by unfold vp_in; decide) d_2_31_59 ?_
  refine q_ti (v := 1) (by first | rfl | decide | simp [upd, vp_updL, sb_cl0]) ?_
  refine lv_i2l hx hb d_2_31_60 rfl ?_
  refine q_tl (v := 1) (by decide) ?_
  refine lv_lstore (lv' := [(6, .long 1), (5, .int 1), (4, .int 0), (3, .int 2), (0, .ref qO0), (1, .ref qO1), (2, .ref qO1)]) hx hb d_2_31_61 hl (by decide) rfl (fun ls hl => ?_)
  refine lv_lconst (v := 0) hx hb d_2_31_63 (by decide) ?_
  refine lv_lstore (lv' := [(8, .long 0), (6, .long 1), (5, .int 1), (4, .int 0), (3, .int 2), (0, .ref qO0), (1, .ref qO1), (2, .ref qO1)]) hx hb d_2_31_64 hl (by decide) rfl (fun ls hl => ?_)
  refine lv_iconst (v := 0) hx hb d_2_31_66 (by decide) ?_
  refine lv_istore (lv' := [(10, .int 0), (8, .long 0), (6, .long 1), (5, .int 1), (4, .int 0), (3, .int 2), (0, .ref qO0), (1, .ref qO1), (2, .ref qO1)]) hx hb d_2_31_67 hl (by decide) rfl (fun ls hl => ?_)
  refine lv_iload hx hb d_2_31_69 (lv_at hl 0 rfl) ?_
  refine lv_iload hx hb d_2_31_71 (lv_at hl 3 rfl) ?_
  refine lv_icmp_ge (tgt := 134) hx hb d_2_31_73 (by decide) (fun c5 => absurd c5 (by decide)) (fun c5 => ?_)
  refine lv_lload hx hb d_2_31_76 (lv_at hl 2 rfl) ?_
  refine lv_aload_n hx hb d_2_31_78 rfl (lv_at hl 8 rfl) ?_
  refine q_get (ci := 2) (j := 0) (v := .ref qA3) C0 V i_Big rfl rfl hO1 (by decide) w_84 rfl d_2_31_79 ?_
  refine lv_iload hx hb d_2_31_82 (lv_at hl 0 rfl) ?_
  refine q_iald C0 V hA3 (by unfold vp_in; decide) d_2_31_84 ?_
  refine q_ti (v := 1) (by first | rfl | decide | simp [upd, vp_updL, sb_cl0]) ?_
  refine lv_i2l hx hb d_2_31_85 rfl ?_
  refine q_tl (v := 1) (by decide) ?_
  refine lv_lmul hx hb d_2_31_86 ?_
  refine q_tl (v := 1) (by decide) ?_
  refine lv_aload_n hx hb d_2_31_87 rfl (lv_at hl 6 rfl) ?_
  replace hO0 := (hg3 _ (q_nc n_O0_A2 List.not_mem_nil)).trans (hO0)
  refine q_get (ci := 2) (j := 0) (v := .ref qA2) C0 V i_Big rfl rfl hO0 (by decide) w_84 rfl d_2_31_88 ?_
  refine lv_iload hx hb d_2_31_91 (lv_at hl 4 rfl) ?_
  refine lv_iload hx hb d_2_31_93 (lv_at hl 0 rfl) ?_
  refine lv_iadd hx hb d_2_31_95 ?_
  refine q_ti (v := 0) (by decide) ?_
  refine q_iald C0 V hA2 (by unfold vp_in; decide) d_2_31_96 ?_
  refine q_ti (v := 0) (by first | rfl | decide | simp [upd, vp_updL, sb_cl0]) ?_
  refine lv_i2l hx hb d_2_31_97 rfl ?_
  refine q_tl (v := 0) (by decide) ?_
  refine lv_ladd hx hb d_2_31_98 ?_
  refine q_tl (v := 1) (by decide) ?_
  refine lv_lload hx hb d_2_31_99 (lv_at hl 1 rfl) ?_
  refine lv_ladd hx hb d_2_31_101 ?_
  refine q_tl (v := 1) (by decide) ?_
  refine lv_lstore (lv' := [(11, .long 1), (10, .int 0), (8, .long 0), (6, .long 1), (5, .int 1), (4, .int 0), (3, .int 2), (0, .ref qO0), (1, .ref qO1), (2, .ref qO1)]) hx hb d_2_31_102 hl (by decide) rfl (fun ls hl => ?_)
  refine lv_aload_n hx hb d_2_31_104 rfl (lv_at hl 7 rfl) ?_
  refine q_get (ci := 2) (j := 0) (v := .ref qA2) C0 V i_Big rfl rfl hO0 (by decide) w_84 rfl d_2_31_105 ?_
  refine lv_iload hx hb d_2_31_108 (lv_at hl 5 rfl) ?_
  refine lv_iload hx hb d_2_31_110 (lv_at hl 1 rfl) ?_
  refine lv_iadd hx hb d_2_31_112 ?_
  refine q_ti (v := 0) (by decide) ?_
  refine lv_lload hx hb d_2_31_113 (lv_at hl 0 rfl) ?_
  refine q_ldc2 C0 rfl w_201 d_2_31_115 ?_
  refine lv_land hx hb d_2_31_118 ?_
  refine q_tl (v := 1) (by decide) ?_
  refine lv_l2i hx hb d_2_31_119 rfl ?_
  refine q_ti (v := 1) (by decide) ?_
  refine q_iast C0 V hA2 (by unfold vp_in; decide) d_2_31_120 (fun H locs w6 hu7 hA2 V => ?_)
  replace hA2 : w6[kA2]? = (some (qA2, .inl (g 0, 220, .inl (upd (upd (upd f2 0 0) 1 0) 0 1))) : Option (Nat × va_E)) := hA2
  replace hA2 := q_re (y := (qA2, .inl (g 0, 220, .inl (upd (upd f2 0 1) 1 0)))) hA2 (q_eI (by funext k; simp only [upd]; (repeat' split) <;> first | rfl | omega))
  replace hA2 : w6[kA2]? = (some (qA2, .inl (g 0, 220, .inl (upd (upd f2 0 1) 1 0))) : Option (Nat × va_E)) := hA2
  replace hF := q_us hF hu7 (.tail _ (.head _))
  refine lv_lload hx hb d_2_31_121 (lv_at hl 0 rfl) ?_
  refine lv_bipush (v := 31) hx hb d_2_31_123 (by decide) ?_
  refine lv_lushr hx hb d_2_31_125 rfl ?_
  refine q_tl (v := 0) (by decide) ?_
  refine lv_lstore (lv' := [(8, .long 0), (11, .long 1), (10, .int 0), (6, .long 1), (5, .int 1), (4, .int 0), (3, .int 2), (0, .ref qO0), (1, .ref qO1), (2, .ref qO1)]) hx hb d_2_31_126 hl (by decide) rfl (fun ls hl => ?_)
  refine lv_iinc (v := 1) (lv' := [(10, .int 1), (8, .long 0), (11, .long 1), (6, .long 1), (5, .int 1), (4, .int 0), (3, .int 2), (0, .ref qO0), (1, .ref qO1), (2, .ref qO1)]) hx hb d_2_31_128 hl (k := 2) rfl (by decide) (by decide) rfl (fun ls hl => ?_)
  refine lv_goto (tgt := 69) hx hb d_2_31_131 (by decide) ?_
  refine lv_iload hx hb d_2_31_69 (lv_at hl 0 rfl) ?_
  refine lv_iload hx hb d_2_31_71 (lv_at hl 4 rfl) ?_
  refine lv_icmp_ge (tgt := 134) hx hb d_2_31_73 (by decide) (fun c8 => ?_) (fun c8 => absurd (by decide) c8)
  refine lv_iload hx hb d_2_31_134 (lv_at hl 5 rfl) ?_
  refine lv_iload hx hb d_2_31_136 (lv_at hl 4 rfl) ?_
  refine lv_iadd hx hb d_2_31_138 ?_
  refine q_ti (v := 1) (by decide) ?_
  refine lv_iload_n hx hb d_2_31_139 rfl (lv_at hl 6 rfl) ?_
  refine lv_icmp_ge (tgt := 156) hx hb d_2_31_140 (by decide) (fun c9 => absurd c9 (by decide)) (fun c9 => ?_)
  refine lv_aload_n hx hb d_2_31_143 rfl (lv_at hl 7 rfl) ?_
  replace hO0 := (hu7 _ n_O0_A2).trans (hO0)
  refine q_get (ci := 2) (j := 0) (v := .ref qA2) C0 V i_Big rfl rfl hO0 (by decide) w_84 rfl d_2_31_144 ?_
  refine lv_iload hx hb d_2_31_147 (lv_at hl 5 rfl) ?_
  refine lv_iload hx hb d_2_31_149 (lv_at hl 4 rfl) ?_
  refine lv_iadd hx hb d_2_31_151 ?_
  refine q_ti (v := 1) (by decide) ?_
  refine lv_lload hx hb d_2_31_152 (lv_at hl 1 rfl) ?_
  refine lv_l2i hx hb d_2_31_154 rfl ?_
  refine q_ti (v := 0) (by decide) ?_
  refine q_iast C0 V hA2 (by unfold vp_in; decide) d_2_31_155 (fun H locs w10 hu11 hA2 V => ?_)
  replace hA2 : w10[kA2]? = (some (qA2, .inl (g 0, 220, .inl (upd (upd (upd f2 0 1) 1 0) 1 0))) : Option (Nat × va_E)) := hA2
  replace hA2 := q_re (y := (qA2, .inl (g 0, 220, .inl (upd (upd f2 0 1) 1 0)))) hA2 (q_eI (by funext k; simp only [upd]; (repeat' split) <;> first | rfl | omega))
  replace hA2 : w10[kA2]? = (some (qA2, .inl (g 0, 220, .inl (upd (upd f2 0 1) 1 0))) : Option (Nat × va_E)) := hA2
  replace hF := q_us hF hu11 (.tail _ (.head _))
  refine lv_iinc (v := 1) (lv' := [(4, .int 1), (10, .int 1), (8, .long 0), (11, .long 1), (6, .long 1), (5, .int 1), (3, .int 2), (0, .ref qO0), (1, .ref qO1), (2, .ref qO1)]) hx hb d_2_31_156 hl (k := 5) rfl (by decide) (by decide) rfl (fun ls hl => ?_)
  refine lv_goto (tgt := 31) hx hb d_2_31_159 (by decide) ?_
  refine lv_iload hx hb d_2_31_31 (lv_at hl 0 rfl) ?_
  refine lv_aload_n hx hb d_2_31_33 rfl (lv_at hl 8 rfl) ?_
  replace hO1 := (hu11 _ n_O1_A2).trans ((hu7 _ n_O1_A2).trans (hO1))
  refine q_get (ci := 2) (j := 1) (v := .int 1) C0 V i_Big rfl rfl hO1 (by decide) w_85 rfl d_2_31_34 ?_
  refine lv_icmp_ge (tgt := 162) hx hb d_2_31_37 (by decide) (fun c12 => ?_) (fun c12 => absurd (by decide) c12)
  refine lv_aload_n hx hb d_2_31_162 rfl (lv_at hl 7 rfl) ?_
  refine lv_iload_n hx hb d_2_31_163 rfl (lv_at hl 6 rfl) ?_
  replace hO0 := (hu11 _ n_O0_A2).trans (hO0)
  refine q_put (ci := 2) (j := 1) (v := .int 2) (ty := .int) C0 V i_Big o_Big n_Big rfl rfl hO0 (by decide) w_85 rfl rfl rfl rfl (Nat.le_of_ble_eq_true rfl) d_2_31_164 (fun H locs w13 hu14 hO0 V => ?_)
  replace hO0 : w13[kO0]? = (some (qO0, .inr (2, [.ref qA2, .int 2, .int 0])) : Option (Nat × va_E)) := hO0
  replace hF := q_us hF hu14 (.head _)
  refine lv_aload_n hx hb d_2_31_167 rfl (lv_at hl 7 rfl) ?_
  refine lv_aload_n hx hb d_2_31_168 rfl (lv_at hl 8 rfl) ?_
  replace hO1 := (hu14 _ n_O1_O0).trans (hO1)
  refine q_get (ci := 2) (j := 2) (v := .int 0) C0 V i_Big rfl rfl hO1 (by decide) w_94 rfl d_2_31_169 ?_
  refine lv_aload_n hx hb d_2_31_172 rfl (lv_at hl 9 rfl) ?_
  refine q_get (ci := 2) (j := 2) (v := .int 0) C0 V i_Big rfl rfl hO1 (by decide) w_94 rfl d_2_31_173 ?_
  refine lv_icmp_eq (tgt := 183) hx hb d_2_31_176 (by decide) (fun c15 => ?_) (fun c15 => absurd (by decide) c15)
  refine lv_iconst (v := 0) hx hb d_2_31_183 (by decide) ?_
  refine q_put (ci := 2) (j := 2) (v := .int 0) (ty := .boolean) C0 V i_Big o_Big n_Big rfl rfl hO0 (by decide) w_94 rfl rfl rfl rfl (Nat.le_of_ble_eq_true rfl) d_2_31_184 (fun H locs w16 hu17 hO0 V => ?_)
  replace hO0 : w16[kO0]? = (some (qO0, .inr (2, [.ref qA2, .int 2, .int 0])) : Option (Nat × va_E)) := hO0
  replace hF := q_us hF hu17 (.head _)
  refine lv_aload_n hx hb d_2_31_187 rfl (lv_at hl 7 rfl) ?_
  replace hA2 := (hu17 _ n_A2_O0).trans ((hu14 _ n_A2_O0).trans (hA2))
  refine q_gov V (q_runV (As := []) (rest := []) (d := 1) (mc := 0) (ms := 0) (ci := 2) C0 V rfl LV_Big_36 (c_Big_trim_6 l D g w16 kO0 kA2 qO0 qA2 f2 hO0 hA2 _) rfl rfl hO0 rfl hl.1 rfl (Nat.le_of_ble_eq_true rfl) ⟨by decide, by decide⟩ ⟨Nat.le_of_ble_eq_true rfl, Nat.le_of_ble_eq_true rfl⟩ d_2_31_188) (fun u19 H locs hp18 V => ?_)
  obtain ⟨hg20, hO0⟩ := hp18
  replace hF := q_uc hF hg20 (q_sc (.head _) (fun _ h => absurd h List.not_mem_nil))
  replace hA2 := (hg20 _ (q_nc n_A2_O0 List.not_mem_nil)).trans (hA2)
  exact q_retv C0 V (⟨hF, hO0, hA2⟩) d_2_31_191
set_option maxRecDepth 100000 in
set_option maxHeartbeats 4000000 in
theorem c_jInt_bitCount_2 (l : Launch) (D : va_G) (g : Nat → ClassId) (ws : va_W) : q_mI l y_jInt_bitCount prog_27_method_49_code 1 (.int) 1 0 0 D g [.int 1] ws (fun r u => 1 = r ∧ ws = u) := by
  intro sz
  refine q_into (by decide) (Nat.le_of_ble_eq_true rfl) ?_
  intro p e s m below meth c ls hsz C0 V hl
  have hx := C0.1
  have hb := C0.2.1
  have hl : lv_has ls 1 [(0, .int 1)] := hl
  refine lv_iload_n hx hb d_27_49_0 rfl (lv_at hl 0 rfl) ?_
  refine lv_iload_n hx hb d_27_49_1 rfl (lv_at hl 0 rfl) ?_
  refine lv_iconst (v := 1) hx hb d_27_49_2 (by decide) ?_
  refine lv_iushr hx hb d_27_49_3 rfl ?_
  refine q_ti (v := 0) (by decide) ?_
  refine q_ldcw C0 rfl w_617 d_27_49_4 ?_
  refine lv_iand hx hb d_27_49_7 ?_
  refine q_ti (v := 0) (by decide) ?_
  refine lv_isub hx hb d_27_49_8 ?_
  refine q_ti (v := 1) (by decide) ?_
  refine lv_istore_n (lv' := [(0, .int 1)]) hx hb d_27_49_9 rfl hl (by decide) rfl (fun ls hl => ?_)
  refine lv_iload_n hx hb d_27_49_10 rfl (lv_at hl 0 rfl) ?_
  refine q_ldcw C0 rfl w_618 d_27_49_11 ?_
  refine lv_iand hx hb d_27_49_14 ?_
  refine q_ti (v := 1) (by decide) ?_
  refine lv_iload_n hx hb d_27_49_15 rfl (lv_at hl 0 rfl) ?_
  refine lv_iconst (v := 2) hx hb d_27_49_16 (by decide) ?_
  refine lv_iushr hx hb d_27_49_17 rfl ?_
  refine q_ti (v := 0) (by decide) ?_
  refine q_ldcw C0 rfl w_618 d_27_49_18 ?_
  refine lv_iand hx hb d_27_49_21 ?_
  refine q_ti (v := 0) (by decide) ?_
  refine lv_iadd hx hb d_27_49_22 ?_
  refine q_ti (v := 1) (by decide) ?_
  refine lv_istore_n (lv' := [(0, .int 1)]) hx hb d_27_49_23 rfl hl (by decide) rfl (fun ls hl => ?_)
  refine lv_iload_n hx hb d_27_49_24 rfl (lv_at hl 0 rfl) ?_
  refine lv_iload_n hx hb d_27_49_25 rfl (lv_at hl 0 rfl) ?_
  refine lv_iconst (v := 4) hx hb d_27_49_26 (by decide) ?_
  refine lv_iushr hx hb d_27_49_27 rfl ?_
  refine q_ti (v := 0) (by decide) ?_
  refine lv_iadd hx hb d_27_49_28 ?_
  refine q_ti (v := 1) (by decide) ?_
  refine q_ldcw C0 rfl w_619 d_27_49_29 ?_
  refine lv_iand hx hb d_27_49_32 ?_
  refine q_ti (v := 1) (by decide) ?_
  refine lv_istore_n (lv' := [(0, .int 1)]) hx hb d_27_49_33 rfl hl (by decide) rfl (fun ls hl => ?_)
  refine lv_iload_n hx hb d_27_49_34 rfl (lv_at hl 0 rfl) ?_
  refine lv_iload_n hx hb d_27_49_35 rfl (lv_at hl 0 rfl) ?_
  refine lv_bipush (v := 8) hx hb d_27_49_36 (by decide) ?_
  refine lv_iushr hx hb d_27_49_38 rfl ?_
  refine q_ti (v := 0) (by decide) ?_
  refine lv_iadd hx hb d_27_49_39 ?_
  refine q_ti (v := 1) (by decide) ?_
  refine lv_istore_n (lv' := [(0, .int 1)]) hx hb d_27_49_40 rfl hl (by decide) rfl (fun ls hl => ?_)
  refine lv_iload_n hx hb d_27_49_41 rfl (lv_at hl 0 rfl) ?_
  refine lv_iload_n hx hb d_27_49_42 rfl (lv_at hl 0 rfl) ?_
  refine lv_bipush (v := 16) hx hb d_27_49_43 (by decide) ?_
  refine lv_iushr hx hb d_27_49_45 rfl ?_
  refine q_ti (v := 0) (by decide) ?_
  refine lv_iadd hx hb d_27_49_46 ?_
  refine q_ti (v := 1) (by decide) ?_
  refine lv_istore_n (lv' := [(0, .int 1)]) hx hb d_27_49_47 rfl hl (by decide) rfl (fun ls hl => ?_)
  refine lv_iload_n hx hb d_27_49_48 rfl (lv_at hl 0 rfl) ?_
  refine lv_bipush (v := 63) hx hb d_27_49_49 (by decide) ?_
  refine lv_iand hx hb d_27_49_51 ?_
  refine q_ti (v := 1) (by decide) ?_
  exact q_reti C0 V (⟨rfl, rfl⟩) d_27_49_52
set_option maxRecDepth 100000 in
set_option maxHeartbeats 4000000 in
theorem c_Big_bitsOf_2 (l : Launch) (D : va_G) (g : Nat → ClassId) (ws : va_W) : q_mI l y_Big_bitsOf prog_2_method_13_code 2 (.int) 2 0 0 D g [.int 1] ws (fun r u => 1 = r ∧ ws = u) := by
  intro sz
  refine q_into (by decide) (Nat.le_of_ble_eq_true rfl) ?_
  intro p e s m below meth c ls hsz C0 V hl
  have hx := C0.1
  have hb := C0.2.1
  have hl : lv_has ls 2 [(0, .int 1)] := hl
  refine lv_iload_n hx hb d_2_13_0 rfl (lv_at hl 0 rfl) ?_
  refine lv_iload_n hx hb d_2_13_1 rfl (lv_at hl 0 rfl) ?_
  refine lv_iconst (v := 1) hx hb d_2_13_2 (by decide) ?_
  refine lv_iushr hx hb d_2_13_3 rfl ?_
  refine q_ti (v := 0) (by decide) ?_
  refine lv_ior hx hb d_2_13_4 ?_
  refine q_ti (v := 1) (by decide) ?_
  refine lv_istore_n (lv' := [(1, .int 1), (0, .int 1)]) hx hb d_2_13_5 rfl hl (by decide) rfl (fun ls hl => ?_)
  refine lv_iload_n hx hb d_2_13_6 rfl (lv_at hl 0 rfl) ?_
  refine lv_iload_n hx hb d_2_13_7 rfl (lv_at hl 0 rfl) ?_
  refine lv_iconst (v := 2) hx hb d_2_13_8 (by decide) ?_
  refine lv_iushr hx hb d_2_13_9 rfl ?_
  refine q_ti (v := 0) (by decide) ?_
  refine lv_ior hx hb d_2_13_10 ?_
  refine q_ti (v := 1) (by decide) ?_
  refine lv_istore_n (lv' := [(1, .int 1), (0, .int 1)]) hx hb d_2_13_11 rfl hl (by decide) rfl (fun ls hl => ?_)
  refine lv_iload_n hx hb d_2_13_12 rfl (lv_at hl 0 rfl) ?_
  refine lv_iload_n hx hb d_2_13_13 rfl (lv_at hl 0 rfl) ?_
  refine lv_iconst (v := 4) hx hb d_2_13_14 (by decide) ?_
  refine lv_iushr hx hb d_2_13_15 rfl ?_
  refine q_ti (v := 0) (by decide) ?_
  refine lv_ior hx hb d_2_13_16 ?_
  refine q_ti (v := 1) (by decide) ?_
  refine lv_istore_n (lv' := [(1, .int 1), (0, .int 1)]) hx hb d_2_13_17 rfl hl (by decide) rfl (fun ls hl => ?_)
  refine lv_iload_n hx hb d_2_13_18 rfl (lv_at hl 0 rfl) ?_
  refine lv_iload_n hx hb d_2_13_19 rfl (lv_at hl 0 rfl) ?_
  refine lv_bipush (v := 8) hx hb d_2_13_20 (by decide) ?_
  refine lv_iushr hx hb d_2_13_22 rfl ?_
  refine q_ti (v := 0) (by decide) ?_
  refine lv_ior hx hb d_2_13_23 ?_
  refine q_ti (v := 1) (by decide) ?_
  refine lv_istore_n (lv' := [(1, .int 1), (0, .int 1)]) hx hb d_2_13_24 rfl hl (by decide) rfl (fun ls hl => ?_)
  refine lv_iload_n hx hb d_2_13_25 rfl (lv_at hl 0 rfl) ?_
  refine lv_iload_n hx hb d_2_13_26 rfl (lv_at hl 0 rfl) ?_
  refine lv_bipush (v := 16) hx hb d_2_13_27 (by decide) ?_
  refine lv_iushr hx hb d_2_13_29 rfl ?_
  refine q_ti (v := 0) (by decide) ?_
  refine lv_ior hx hb d_2_13_30 ?_
  refine q_ti (v := 1) (by decide) ?_
  refine lv_istore_n (lv' := [(1, .int 1), (0, .int 1)]) hx hb d_2_13_31 rfl hl (by decide) rfl (fun ls hl => ?_)
  refine lv_iload_n hx hb d_2_13_32 rfl (lv_at hl 0 rfl) ?_
  refine q_goi V (q_runS (As := [.int 1]) (rest := []) (d := 1) (mc := 0) (ms := 0) C0 V rfl LS_Big_60 (c_jInt_bitCount_2 l D g ws _) rfl hl.1 rfl (Nat.le_of_ble_eq_true rfl) ⟨by decide, by decide⟩ ⟨Nat.le_of_ble_eq_true rfl, Nat.le_of_ble_eq_true rfl⟩ d_2_13_33) (fun v3 u2 H locs hp1 V => ?_)
  obtain ⟨rfl, rfl⟩ := hp1
  exact q_reti C0 V (⟨rfl, rfl⟩) d_2_13_36
theorem d_2_12_11 : decode prog_2_method_12_code 11 = .ok (.aload_n 0, 1) := by decide +kernel
theorem d_2_12_12 : decode prog_2_method_12_code 12 = .ok (.getfield 13, 3) := by decide +kernel
theorem d_2_12_15 : decode prog_2_method_12_code 15 = .ok (.iconst 1, 1) := by decide +kernel
theorem d_2_12_16 : decode prog_2_method_12_code 16 = .ok (.isub, 1) := by decide +kernel
theorem d_2_12_17 : decode prog_2_method_12_code 17 = .ok (.bipush 31, 2) := by decide +kernel
theorem d_2_12_19 : decode prog_2_method_12_code 19 = .ok (.imul, 1) := by decide +kernel
theorem d_2_12_20 : decode prog_2_method_12_code 20 = .ok (.aload_n 0, 1) := by decide +kernel
theorem d_2_12_21 : decode prog_2_method_12_code 21 = .ok (.getfield 7, 3) := by decide +kernel
theorem d_2_12_24 : decode prog_2_method_12_code 24 = .ok (.aload_n 0, 1) := by decide +kernel
theorem d_2_12_25 : decode prog_2_method_12_code 25 = .ok (.getfield 13, 3) := by decide +kernel
theorem d_2_12_28 : decode prog_2_method_12_code 28 = .ok (.iconst 1, 1) := by decide +kernel
theorem d_2_12_29 : decode prog_2_method_12_code 29 = .ok (.isub, 1) := by decide +kernel
theorem d_2_12_30 : decode prog_2_method_12_code 30 = .ok (.iaload, 1) := by decide +kernel
theorem d_2_12_31 : decode prog_2_method_12_code 31 = .ok (.invokestatic 57, 3) := by decide +kernel
theorem w_613 : (Cond.code ({ cls := "NumberHouse$Big", name := "bitsOf", desc := "(I)I" } : MethodName) prog_2_method_13_code (2 : Nat) (some .int)) ∈ q_tbl := q_of 613 (by decide +kernel) (by decide +kernel)
theorem w_611 : (Cond.methodLink "NumberHouse$Big" (57 : Nat) ({ cls := "NumberHouse$Big", name := "bitsOf", desc := "(I)I" } : MethodName)) ∈ q_tbl := q_of 611 (by decide +kernel) (by decide +kernel)
theorem w_612 : (Cond.static ({ cls := "NumberHouse$Big", name := "bitsOf", desc := "(I)I" } : MethodName)) ∈ q_tbl := q_of 612 (by decide +kernel) (by decide +kernel)
theorem LS_Big_57 : q_LS "NumberHouse$Big" 57 y_Big_bitsOf prog_2_method_13_code 2 (some .int) 1 := ⟨w_613, w_4, w_611, w_612, ⟨by decide, by decide, by decide +kernel⟩⟩
theorem d_2_12_34 : decode prog_2_method_12_code 34 = .ok (.iadd, 1) := by decide +kernel
set_option maxRecDepth 100000 in
set_option maxHeartbeats 4000000 in
theorem c_Big_bitLength_2 (l : Launch) (D : va_G) (g : Nat → ClassId) (ws : va_W) (kO0 kA1 qO0 qA1 : Nat) (f1 : Nat → Int32) (hO0 : ws[kO0]? = (some (qO0, .inr (2, [.ref qA1, .int 1, .int 0])) : Option (Nat × va_E))) (hA1 : ws[kA1]? = (some (qA1, .inl (g 0, 220, .inl (upd (upd f1 0 1) 1 0))) : Option (Nat × va_E))) : q_mI l y_Big_bitLength prog_2_method_12_code 1 (.int) 3 0 0 D g [.ref qO0] ws (fun r u => 1 = r ∧ ws = u) := by
  intro sz
  refine q_into (by decide) (Nat.le_of_ble_eq_true rfl) ?_
  intro p e s m below meth c ls hsz C0 V hl
  have hx := C0.1
  have hb := C0.2.1
  have hl : lv_has ls 1 [(0, .ref qO0)] := hl
  refine lv_aload_n hx hb d_2_12_0 rfl (lv_at hl 0 rfl) ?_
  refine q_get (ci := 2) (j := 1) (v := .int 1) C0 V i_Big rfl rfl hO0 (by decide) w_85 rfl d_2_12_1 ?_
  refine lv_if_ne (tgt := 11) hx hb d_2_12_4 (by decide) (fun c1 => ?_) (fun c1 => absurd c1 (by decide))
  refine lv_aload_n hx hb d_2_12_11 rfl (lv_at hl 0 rfl) ?_
  refine q_get (ci := 2) (j := 1) (v := .int 1) C0 V i_Big rfl rfl hO0 (by decide) w_85 rfl d_2_12_12 ?_
  refine lv_iconst (v := 1) hx hb d_2_12_15 (by decide) ?_
  refine lv_isub hx hb d_2_12_16 ?_
  refine q_ti (v := 0) (by decide) ?_
  refine lv_bipush (v := 31) hx hb d_2_12_17 (by decide) ?_
  refine lv_imul hx hb d_2_12_19 ?_
  refine q_ti (v := 0) (by decide) ?_
  refine lv_aload_n hx hb d_2_12_20 rfl (lv_at hl 0 rfl) ?_
  refine q_get (ci := 2) (j := 0) (v := .ref qA1) C0 V i_Big rfl rfl hO0 (by decide) w_84 rfl d_2_12_21 ?_
  refine lv_aload_n hx hb d_2_12_24 rfl (lv_at hl 0 rfl) ?_
  refine q_get (ci := 2) (j := 1) (v := .int 1) C0 V i_Big rfl rfl hO0 (by decide) w_85 rfl d_2_12_25 ?_
  refine lv_iconst (v := 1) hx hb d_2_12_28 (by decide) ?_
  refine lv_isub hx hb d_2_12_29 ?_
  refine q_ti (v := 0) (by decide) ?_
  refine q_iald C0 V hA1 (by unfold vp_in; decide) d_2_12_30 ?_
  refine q_ti (v := 1) (by first | rfl | decide | simp [upd, vp_updL, sb_cl0]) ?_
  refine q_goi V (q_runS (As := [.int 1]) (rest := [.int 0]) (d := 2) (mc := 0) (ms := 0) C0 V rfl LS_Big_57 (c_Big_bitsOf_2 l D g ws _) rfl hl.1 rfl (Nat.le_of_ble_eq_true rfl) ⟨by decide, by decide⟩ ⟨Nat.le_of_ble_eq_true rfl, Nat.le_of_ble_eq_true rfl⟩ d_2_12_31) (fun v4 u3 H locs hp2 V => ?_)
  obtain ⟨rfl, rfl⟩ := hp2
  refine lv_iadd hx hb d_2_12_34 ?_
  refine q_ti (v := 1) (by decide) ?_
  exact q_reti C0 V (⟨rfl, rfl⟩) d_2_12_35
set_option maxRecDepth 100000 in
set_option maxHeartbeats 4000000 in
theorem c_Big_copy_7 (l : Launch) (D : va_G) (g : Nat → ClassId) (ws : va_W) (kO0 kO1 kA2 kA3 qO0 qO1 qA2 qA3 : Nat) (f1 : Nat → Int32) (f2 : Nat → Int32) (hO0 : ws[kO0]? = (some (qO0, .inr (2, [.ref qA2, .int 1, .int 0])) : Option (Nat × va_E))) (hO1 : ws[kO1]? = (some (qO1, .inr (2, [.ref qA3, .int 1, .int 0])) : Option (Nat × va_E))) (hA2 : ws[kA2]? = (some (qA2, .inl (g 0, 220, .inl (upd f1 0 1))) : Option (Nat × va_E))) (hA3 : ws[kA3]? = (some (qA3, .inl (g 0, 220, .inl (upd (upd f2 0 1) 1 0))) : Option (Nat × va_E))) (n_A3_A2 : kA3 ≠ kA2) (n_O1_O0 : kO1 ≠ kO0) : q_mV l y_Big_copy prog_2_method_4_code 2 2 0 0 D g [.ref qO0, .ref qO1] ws (fun u => q_un ws u [kO0, kA2] ∧ u[kO0]? = (some (qO0, .inr (2, [.ref qA2, .int 1, .int 0])) : Option (Nat × va_E)) ∧ u[kA2]? = (some (qA2, .inl (g 0, 220, .inl (upd f1 0 1))) : Option (Nat × va_E))) := by
  intro sz
  refine q_into (by decide) (Nat.le_of_ble_eq_true rfl) ?_
  intro p e s m below meth c ls hsz C0 V hl
  have hx := C0.1
  have hb := C0.2.1
  have hl : lv_has ls 2 [(0, .ref qO0), (1, .ref qO1)] := hl
  have n_A2_O0 := q_df hA2 hO0
  have n_A3_O0 := q_df hA3 hO0
  have n_O0_A2 := Ne.symm (q_df hA2 hO0)
  have n_O1_A2 := Ne.symm (q_df hA2 hO1)
  have hF : q_un ws ws [kO0, kA2] := q_u0
  refine lv_aload_n hx hb d_2_4_0 rfl (lv_at hl 0 rfl) ?_
  refine lv_aload_n hx hb d_2_4_1 rfl (lv_at hl 1 rfl) ?_
  refine q_get (ci := 2) (j := 1) (v := .int 1) C0 V i_Big rfl rfl hO1 (by decide) w_85 rfl d_2_4_2 ?_
  refine lv_aload_n hx hb d_2_4_5 rfl (lv_at hl 0 rfl) ?_
  refine q_get (ci := 2) (j := 0) (v := .ref qA2) C0 V i_Big rfl rfl hO0 (by decide) w_84 rfl d_2_4_6 ?_
  refine q_alen (t := 0) (v := 220) C0 V hA2 rfl (by first | rfl | decide) d_2_4_9 ?_
  refine q_min C0 hl.1 rfl w_773 w_774 w_7 w_775 ⟨Nat.le_of_ble_eq_true rfl, Nat.le_of_ble_eq_true rfl⟩ ⟨Nat.le_of_ble_eq_true rfl, Nat.le_of_ble_eq_true rfl⟩ d_2_4_10 ?_
  refine q_ti (v := 1) (by decide) ?_
  refine q_put (ci := 2) (j := 1) (v := .int 1) (ty := .int) C0 V i_Big o_Big n_Big rfl rfl hO0 (by decide) w_85 rfl rfl rfl rfl (Nat.le_of_ble_eq_true rfl) d_2_4_13 (fun H locs w1 hu2 hO0 V => ?_)
  replace hO0 : w1[kO0]? = (some (qO0, .inr (2, [.ref qA2, .int 1, .int 0])) : Option (Nat × va_E)) := hO0
  replace hF := q_us hF hu2 (.head _)
  refine lv_aload_n hx hb d_2_4_16 rfl (lv_at hl 1 rfl) ?_
  replace hO1 := (hu2 _ n_O1_O0).trans (hO1)
  refine q_get (ci := 2) (j := 0) (v := .ref qA3) C0 V i_Big rfl rfl hO1 (by decide) w_84 rfl d_2_4_17 ?_
  refine lv_iconst (v := 0) hx hb d_2_4_20 (by decide) ?_
  refine lv_aload_n hx hb d_2_4_21 rfl (lv_at hl 0 rfl) ?_
  refine q_get (ci := 2) (j := 0) (v := .ref qA2) C0 V i_Big rfl rfl hO0 (by decide) w_84 rfl d_2_4_22 ?_
  refine lv_iconst (v := 0) hx hb d_2_4_25 (by decide) ?_
  refine lv_aload_n hx hb d_2_4_26 rfl (lv_at hl 0 rfl) ?_
  refine q_get (ci := 2) (j := 1) (v := .int 1) C0 V i_Big rfl rfl hO0 (by decide) w_85 rfl d_2_4_27 ?_
  replace hA3 := (hu2 _ n_A3_O0).trans (hA3)
  replace hA2 := (hu2 _ n_A2_O0).trans (hA2)
  refine q_copy C0 V hl.1 rfl w_791 w_793 w_792 w_29 hA3 hA2 (by decide) (by decide) (by decide) (by decide) (by decide) ⟨Nat.le_of_ble_eq_true rfl, Nat.le_of_ble_eq_true rfl⟩ d_2_4_30 (fun H locs w3 hu4 hA2 V => ?_)
  replace hA2 := q_re (y := (qA2, .inl (g 0, 220, .inl (upd f1 0 1)))) hA2 (q_eI (q_cpy1.trans (by funext k; simp only [upd]; (repeat' split) <;> first | rfl | omega | simp_all)))
  replace hA2 : w3[kA2]? = (some (qA2, .inl (g 0, 220, .inl (upd f1 0 1))) : Option (Nat × va_E)) := hA2
  replace hF := q_us hF hu4 (.tail _ (.head _))
  refine lv_aload_n hx hb d_2_4_33 rfl (lv_at hl 0 rfl) ?_
  refine lv_aload_n hx hb d_2_4_34 rfl (lv_at hl 1 rfl) ?_
  replace hO1 := (hu4 _ n_O1_A2).trans (hO1)
  refine q_get (ci := 2) (j := 2) (v := .int 0) C0 V i_Big rfl rfl hO1 (by decide) w_94 rfl d_2_4_35 ?_
  replace hO0 := (hu4 _ n_O0_A2).trans (hO0)
  refine q_put (ci := 2) (j := 2) (v := .int 0) (ty := .boolean) C0 V i_Big o_Big n_Big rfl rfl hO0 (by decide) w_94 rfl rfl rfl rfl (Nat.le_of_ble_eq_true rfl) d_2_4_38 (fun H locs w5 hu6 hO0 V => ?_)
  replace hO0 : w5[kO0]? = (some (qO0, .inr (2, [.ref qA2, .int 1, .int 0])) : Option (Nat × va_E)) := hO0
  replace hF := q_us hF hu6 (.head _)
  replace hA2 := (hu6 _ n_A2_O0).trans (hA2)
  exact q_retv C0 V (⟨hF, hO0, hA2⟩) d_2_4_41
set_option maxRecDepth 100000 in
set_option maxHeartbeats 4000000 in
theorem c_Big_bitLength_3 (l : Launch) (D : va_G) (g : Nat → ClassId) (ws : va_W) (kO0 kA1 qO0 qA1 : Nat) (f1 : Nat → Int32) (hO0 : ws[kO0]? = (some (qO0, .inr (2, [.ref qA1, .int 1, .int 0])) : Option (Nat × va_E))) (hA1 : ws[kA1]? = (some (qA1, .inl (g 0, 220, .inl (upd f1 0 1))) : Option (Nat × va_E))) : q_mI l y_Big_bitLength prog_2_method_12_code 1 (.int) 3 0 0 D g [.ref qO0] ws (fun r u => 1 = r ∧ ws = u) := by
  intro sz
  refine q_into (by decide) (Nat.le_of_ble_eq_true rfl) ?_
  intro p e s m below meth c ls hsz C0 V hl
  have hx := C0.1
  have hb := C0.2.1
  have hl : lv_has ls 1 [(0, .ref qO0)] := hl
  refine lv_aload_n hx hb d_2_12_0 rfl (lv_at hl 0 rfl) ?_
  refine q_get (ci := 2) (j := 1) (v := .int 1) C0 V i_Big rfl rfl hO0 (by decide) w_85 rfl d_2_12_1 ?_
  refine lv_if_ne (tgt := 11) hx hb d_2_12_4 (by decide) (fun c1 => ?_) (fun c1 => absurd c1 (by decide))
  refine lv_aload_n hx hb d_2_12_11 rfl (lv_at hl 0 rfl) ?_
  refine q_get (ci := 2) (j := 1) (v := .int 1) C0 V i_Big rfl rfl hO0 (by decide) w_85 rfl d_2_12_12 ?_
  refine lv_iconst (v := 1) hx hb d_2_12_15 (by decide) ?_
  refine lv_isub hx hb d_2_12_16 ?_
  refine q_ti (v := 0) (by decide) ?_
  refine lv_bipush (v := 31) hx hb d_2_12_17 (by decide) ?_
  refine lv_imul hx hb d_2_12_19 ?_
  refine q_ti (v := 0) (by decide) ?_
  refine lv_aload_n hx hb d_2_12_20 rfl (lv_at hl 0 rfl) ?_
  refine q_get (ci := 2) (j := 0) (v := .ref qA1) C0 V i_Big rfl rfl hO0 (by decide) w_84 rfl d_2_12_21 ?_
  refine lv_aload_n hx hb d_2_12_24 rfl (lv_at hl 0 rfl) ?_
  refine q_get (ci := 2) (j := 1) (v := .int 1) C0 V i_Big rfl rfl hO0 (by decide) w_85 rfl d_2_12_25 ?_
  refine lv_iconst (v := 1) hx hb d_2_12_28 (by decide) ?_
  refine lv_isub hx hb d_2_12_29 ?_
  refine q_ti (v := 0) (by decide) ?_
  refine q_iald C0 V hA1 (by unfold vp_in; decide) d_2_12_30 ?_
  refine q_ti (v := 1) (by first | rfl | decide | simp [upd, vp_updL, sb_cl0]) ?_
  refine q_goi V (q_runS (As := [.int 1]) (rest := [.int 0]) (d := 2) (mc := 0) (ms := 0) C0 V rfl LS_Big_57 (c_Big_bitsOf_2 l D g ws _) rfl hl.1 rfl (Nat.le_of_ble_eq_true rfl) ⟨by decide, by decide⟩ ⟨Nat.le_of_ble_eq_true rfl, Nat.le_of_ble_eq_true rfl⟩ d_2_12_31) (fun v4 u3 H locs hp2 V => ?_)
  obtain ⟨rfl, rfl⟩ := hp2
  refine lv_iadd hx hb d_2_12_34 ?_
  refine q_ti (v := 1) (by decide) ?_
  exact q_reti C0 V (⟨rfl, rfl⟩) d_2_12_35
set_option maxRecDepth 100000 in
set_option maxHeartbeats 4000000 in
theorem c_jArr_rangeCheck_3 (l : Launch) (D : va_G) (g : Nat → ClassId) (ws : va_W) : q_mV l y_jArr_rangeCheck prog_37_method_30_code 3 1 0 0 D g [.int 220, .int 0, .int 1] ws (fun u => ws = u) := by
  intro sz
  refine q_into (by decide) (Nat.le_of_ble_eq_true rfl) ?_
  intro p e s m below meth c ls hsz C0 V hl
  have hx := C0.1
  have hb := C0.2.1
  have hl : lv_has ls 3 [(0, .int 220), (1, .int 0), (2, .int 1)] := hl
  refine lv_iload_n hx hb d_37_30_0 rfl (lv_at hl 1 rfl) ?_
  refine lv_iload_n hx hb d_37_30_1 rfl (lv_at hl 2 rfl) ?_
  refine lv_icmp_le (tgt := 46) hx hb d_37_30_2 (by decide) (fun c1 => ?_) (fun c1 => absurd (by decide) c1)
  refine lv_iload_n hx hb d_37_30_46 rfl (lv_at hl 1 rfl) ?_
  refine lv_if_ge (tgt := 59) hx hb d_37_30_47 (by decide) (fun c2 => ?_) (fun c2 => absurd (by decide) c2)
  refine lv_iload_n hx hb d_37_30_59 rfl (lv_at hl 2 rfl) ?_
  refine lv_iload_n hx hb d_37_30_60 rfl (lv_at hl 0 rfl) ?_
  refine lv_icmp_le (tgt := 73) hx hb d_37_30_61 (by decide) (fun c3 => ?_) (fun c3 => absurd (by decide) c3)
  exact q_retv C0 V (rfl) d_37_30_73
set_option maxRecDepth 100000 in
set_option maxHeartbeats 4000000 in
theorem c_jArr_fill_4 (l : Launch) (D : va_G) (g : Nat → ClassId) (ws : va_W) (kA0 qA0 : Nat) (f1 : Nat → Int32) (hA0 : ws[kA0]? = (some (qA0, .inl (g 0, 220, .inl (upd f1 0 1))) : Option (Nat × va_E))) : q_mV l y_jArr_fill prog_37_method_104_code 5 2 0 0 D g [.ref qA0, .int 0, .int 1, .int 0] ws (fun u => q_un ws u [kA0] ∧ u[kA0]? = (some (qA0, .inl (g 0, 220, .inl (upd f1 0 0))) : Option (Nat × va_E))) := by
  intro sz
  refine q_into (by decide) (Nat.le_of_ble_eq_true rfl) ?_
  intro p e s m below meth c ls hsz C0 V hl
  have hx := C0.1
  have hb := C0.2.1
  have hl : lv_has ls 5 [(0, .ref qA0), (1, .int 0), (2, .int 1), (3, .int 0)] := hl
  have hF : q_un ws ws [kA0] := q_u0
  refine lv_aload_n hx hb d_37_104_0 rfl (lv_at hl 0 rfl) ?_
  refine q_alen (t := 0) (v := 220) C0 V hA0 rfl (by first | rfl | decide) d_37_104_1 ?_
  refine lv_iload_n hx hb d_37_104_2 rfl (lv_at hl 1 rfl) ?_
  refine lv_iload_n hx hb d_37_104_3 rfl (lv_at hl 2 rfl) ?_
  refine q_gov V (q_runS (As := [.int 220, .int 0, .int 1]) (rest := []) (d := 1) (mc := 0) (ms := 0) C0 V rfl LS_jArr_13 (c_jArr_rangeCheck_3 l D g ws _) rfl hl.1 rfl (Nat.le_of_ble_eq_true rfl) ⟨by decide, by decide⟩ ⟨Nat.le_of_ble_eq_true rfl, Nat.le_of_ble_eq_true rfl⟩ d_37_104_4) (fun u2 H locs hp1 V => ?_)
  obtain rfl := hp1
  refine lv_iload_n hx hb d_37_104_7 rfl (lv_at hl 1 rfl) ?_
  refine lv_istore (lv' := [(4, .int 0), (0, .ref qA0), (1, .int 0), (2, .int 1), (3, .int 0)]) hx hb d_37_104_8 hl (by decide) rfl (fun ls hl => ?_)
  refine lv_iload hx hb d_37_104_10 (lv_at hl 0 rfl) ?_
  refine lv_iload_n hx hb d_37_104_12 rfl (lv_at hl 3 rfl) ?_
  refine lv_icmp_ge (tgt := 27) hx hb d_37_104_13 (by decide) (fun c4 => absurd c4 (by decide)) (fun c4 => ?_)
  refine lv_aload_n hx hb d_37_104_16 rfl (lv_at hl 1 rfl) ?_
  refine lv_iload hx hb d_37_104_17 (lv_at hl 0 rfl) ?_
  refine lv_iload_n hx hb d_37_104_19 rfl (lv_at hl 4 rfl) ?_
  refine q_iast C0 V hA0 (by unfold vp_in; decide) d_37_104_20 (fun H locs w5 hu6 hA0 V => ?_)
  replace hA0 : w5[kA0]? = (some (qA0, .inl (g 0, 220, .inl (upd (upd f1 0 1) 0 0))) : Option (Nat × va_E)) := hA0
  replace hA0 := q_re (y := (qA0, .inl (g 0, 220, .inl (upd f1 0 0)))) hA0 (q_eI (by funext k; simp only [upd]; (repeat' split) <;> first | rfl | omega))
  replace hA0 : w5[kA0]? = (some (qA0, .inl (g 0, 220, .inl (upd f1 0 0))) : Option (Nat × va_E)) := hA0
  replace hF := q_us hF hu6 (.head _)
  refine lv_iinc (v := 1) (lv' := [(4, .int 1), (0, .ref qA0), (1, .int 0), (2, .int 1), (3, .int 0)]) hx hb d_37_104_21 hl (k := 0) rfl (by decide) (by decide) rfl (fun ls hl => ?_)
  refine lv_goto (tgt := 10) hx hb d_37_104_24 (by decide) ?_
  refine lv_iload hx hb d_37_104_10 (lv_at hl 0 rfl) ?_
  refine lv_iload_n hx hb d_37_104_12 rfl (lv_at hl 3 rfl) ?_
  refine lv_icmp_ge (tgt := 27) hx hb d_37_104_13 (by decide) (fun c7 => ?_) (fun c7 => absurd (by decide) c7)
  exact q_retv C0 V (⟨hF, hA0⟩) d_37_104_27
set_option maxRecDepth 100000 in
set_option maxHeartbeats 4000000 in
theorem c_Big_trim_7 (l : Launch) (D : va_G) (g : Nat → ClassId) (ws : va_W) (kO0 kA1 qO0 qA1 : Nat) (f1 : Nat → Int32) (hO0 : ws[kO0]? = (some (qO0, .inr (2, [.ref qA1, .int 1, .int 0])) : Option (Nat × va_E))) (hA1 : ws[kA1]? = (some (qA1, .inl (g 0, 220, .inl (upd f1 0 0))) : Option (Nat × va_E))) : q_mV l y_Big_trim prog_2_method_7_code 2 1 0 0 D g [.ref qO0] ws (fun u => q_un ws u [kO0] ∧ u[kO0]? = (some (qO0, .inr (2, [.ref qA1, .int 0, .int 0])) : Option (Nat × va_E))) := by
  intro sz
  refine q_into (by decide) (Nat.le_of_ble_eq_true rfl) ?_
  intro p e s m below meth c ls hsz C0 V hl
  have hx := C0.1
  have hb := C0.2.1
  have hl : lv_has ls 2 [(0, .ref qO0)] := hl
  have n_A1_O0 := q_df hA1 hO0
  have hF : q_un ws ws [kO0] := q_u0
  refine lv_aload_n hx hb d_2_7_0 rfl (lv_at hl 0 rfl) ?_
  refine q_get (ci := 2) (j := 1) (v := .int 1) C0 V i_Big rfl rfl hO0 (by decide) w_85 rfl d_2_7_1 ?_
  refine lv_istore_n (lv' := [(1, .int 1), (0, .ref qO0)]) hx hb d_2_7_4 rfl hl (by decide) rfl (fun ls hl => ?_)
  refine lv_iload_n hx hb d_2_7_5 rfl (lv_at hl 0 rfl) ?_
  refine lv_if_le (tgt := 26) hx hb d_2_7_6 (by decide) (fun c1 => absurd c1 (by decide)) (fun c1 => ?_)
  refine lv_aload_n hx hb d_2_7_9 rfl (lv_at hl 1 rfl) ?_
  refine q_get (ci := 2) (j := 0) (v := .ref qA1) C0 V i_Big rfl rfl hO0 (by decide) w_84 rfl d_2_7_10 ?_
  refine lv_iload_n hx hb d_2_7_13 rfl (lv_at hl 0 rfl) ?_
  refine lv_iconst (v := 1) hx hb d_2_7_14 (by decide) ?_
  refine lv_isub hx hb d_2_7_15 ?_
  refine q_ti (v := 0) (by decide) ?_
  refine q_iald C0 V hA1 (by unfold vp_in; decide) d_2_7_16 ?_
  refine q_ti (v := 0) (by first | rfl | decide | simp [upd, vp_updL, sb_cl0]) ?_
  refine lv_if_ne (tgt := 26) hx hb d_2_7_17 (by decide) (fun c2 => absurd (by decide) c2) (fun c2 => ?_)
  refine lv_iinc (v := 0) (lv' := [(1, .int 0), (0, .ref qO0)]) hx hb d_2_7_20 hl (k := 0) rfl (by decide) (by decide) rfl (fun ls hl => ?_)
  refine lv_goto (tgt := 5) hx hb d_2_7_23 (by decide) ?_
  refine lv_iload_n hx hb d_2_7_5 rfl (lv_at hl 0 rfl) ?_
  refine lv_if_le (tgt := 26) hx hb d_2_7_6 (by decide) (fun c3 => ?_) (fun c3 => absurd (by decide) c3)
  refine lv_aload_n hx hb d_2_7_26 rfl (lv_at hl 1 rfl) ?_
  refine lv_iload_n hx hb d_2_7_27 rfl (lv_at hl 0 rfl) ?_
  refine q_put (ci := 2) (j := 1) (v := .int 0) (ty := .int) C0 V i_Big o_Big n_Big rfl rfl hO0 (by decide) w_85 rfl rfl rfl rfl (Nat.le_of_ble_eq_true rfl) d_2_7_28 (fun H locs w4 hu5 hO0 V => ?_)
  replace hO0 : w4[kO0]? = (some (qO0, .inr (2, [.ref qA1, .int 0, .int 0])) : Option (Nat × va_E)) := hO0
  replace hF := q_us hF hu5 (.head _)
  refine lv_aload_n hx hb d_2_7_31 rfl (lv_at hl 1 rfl) ?_
  refine lv_aload_n hx hb d_2_7_32 rfl (lv_at hl 1 rfl) ?_
  refine q_get (ci := 2) (j := 2) (v := .int 0) C0 V i_Big rfl rfl hO0 (by decide) w_94 rfl d_2_7_33 ?_
  refine lv_if_eq (tgt := 47) hx hb d_2_7_36 (by decide) (fun c6 => ?_) (fun c6 => absurd (by decide) c6)
  refine lv_iconst (v := 0) hx hb d_2_7_47 (by decide) ?_
  refine q_put (ci := 2) (j := 2) (v := .int 0) (ty := .boolean) C0 V i_Big o_Big n_Big rfl rfl hO0 (by decide) w_94 rfl rfl rfl rfl (Nat.le_of_ble_eq_true rfl) d_2_7_48 (fun H locs w7 hu8 hO0 V => ?_)
  replace hO0 : w7[kO0]? = (some (qO0, .inr (2, [.ref qA1, .int 0, .int 0])) : Option (Nat × va_E)) := hO0
  replace hF := q_us hF hu8 (.head _)
  exact q_retv C0 V (⟨hF, hO0⟩) d_2_7_51
set_option maxRecDepth 100000 in
set_option maxHeartbeats 4000000 in
theorem c_Big_product_5 (l : Launch) (D : va_G) (g : Nat → ClassId) (ws : va_W) (kO0 kO1 kO2 kA3 kA4 qO0 qO1 qO2 qA3 qA4 qA5 : Nat) (f1 : Nat → Int32) (f2 : Nat → Int32) (hO0 : ws[kO0]? = (some (qO0, .inr (2, [.ref qA3, .int 1, .int 0])) : Option (Nat × va_E))) (hO1 : ws[kO1]? = (some (qO1, .inr (2, [.ref qA4, .int 1, .int 0])) : Option (Nat × va_E))) (hO2 : ws[kO2]? = (some (qO2, .inr (2, [.ref qA5, .int 0, .int 0])) : Option (Nat × va_E))) (hA3 : ws[kA3]? = (some (qA3, .inl (g 0, 220, .inl (upd f1 0 1))) : Option (Nat × va_E))) (hA4 : ws[kA4]? = (some (qA4, .inl (g 0, 220, .inl (upd (upd f2 0 1) 1 0))) : Option (Nat × va_E))) (n_A4_A3 : kA4 ≠ kA3) (n_O1_O0 : kO1 ≠ kO0) (n_O2_O0 : kO2 ≠ kO0) : q_mV l y_Big_product prog_2_method_31_code 13 3 0 0 D g [.ref qO0, .ref qO1, .ref qO2] ws (fun u => q_un ws u [kO0, kA3] ∧ u[kO0]? = (some (qO0, .inr (2, [.ref qA3, .int 0, .int 0])) : Option (Nat × va_E)) ∧ u[kA3]? = (some (qA3, .inl (g 0, 220, .inl (upd f1 0 0))) : Option (Nat × va_E))) := by
  intro sz
  refine q_into (by decide) (Nat.le_of_ble_eq_true rfl) ?_
  intro p e s m below meth c ls hsz C0 V hl
  have hx := C0.1
  have hb := C0.2.1
  have hl : lv_has ls 13 [(0, .ref qO0), (1, .ref qO1), (2, .ref qO2)] := hl
  have n_A3_O0 := q_df hA3 hO0
  have n_A4_O0 := q_df hA4 hO0
  have n_O0_A3 := Ne.symm (q_df hA3 hO0)
  have n_O1_A3 := Ne.symm (q_df hA3 hO1)
  have n_O2_A3 := Ne.symm (q_df hA3 hO2)
  have hF : q_un ws ws [kO0, kA3] := q_u0
  refine lv_aload_n hx hb d_2_31_0 rfl (lv_at hl 1 rfl) ?_
  refine q_get (ci := 2) (j := 1) (v := .int 1) C0 V i_Big rfl rfl hO1 (by decide) w_85 rfl d_2_31_1 ?_
  refine lv_aload_n hx hb d_2_31_4 rfl (lv_at hl 2 rfl) ?_
  refine q_get (ci := 2) (j := 1) (v := .int 0) C0 V i_Big rfl rfl hO2 (by decide) w_85 rfl d_2_31_5 ?_
  refine lv_iadd hx hb d_2_31_8 ?_
  refine q_ti (v := 1) (by decide) ?_
  refine lv_aload_n hx hb d_2_31_9 rfl (lv_at hl 0 rfl) ?_
  refine q_get (ci := 2) (j := 0) (v := .ref qA3) C0 V i_Big rfl rfl hO0 (by decide) w_84 rfl d_2_31_10 ?_
  refine q_alen (t := 0) (v := 220) C0 V hA3 rfl (by first | rfl | decide) d_2_31_13 ?_
  refine q_min C0 hl.1 rfl w_773 w_774 w_7 w_775 ⟨Nat.le_of_ble_eq_true rfl, Nat.le_of_ble_eq_true rfl⟩ ⟨Nat.le_of_ble_eq_true rfl, Nat.le_of_ble_eq_true rfl⟩ d_2_31_14 ?_
  refine q_ti (v := 1) (by decide) ?_
  refine lv_istore_n (lv' := [(3, .int 1), (0, .ref qO0), (1, .ref qO1), (2, .ref qO2)]) hx hb d_2_31_17 rfl hl (by decide) rfl (fun ls hl => ?_)
  refine lv_aload_n hx hb d_2_31_18 rfl (lv_at hl 1 rfl) ?_
  refine q_get (ci := 2) (j := 0) (v := .ref qA3) C0 V i_Big rfl rfl hO0 (by decide) w_84 rfl d_2_31_19 ?_
  refine lv_iconst (v := 0) hx hb d_2_31_22 (by decide) ?_
  refine lv_iload_n hx hb d_2_31_23 rfl (lv_at hl 0 rfl) ?_
  refine lv_iconst (v := 0) hx hb d_2_31_24 (by decide) ?_
  refine q_gov V (q_runS (As := [.ref qA3, .int 0, .int 1, .int 0]) (rest := []) (d := 2) (mc := 0) (ms := 0) C0 V rfl LS_Big_108 (c_jArr_fill_4 l D g ws kA3 qA3 f1 hA3 _) rfl hl.1 rfl (Nat.le_of_ble_eq_true rfl) ⟨by decide, by decide⟩ ⟨Nat.le_of_ble_eq_true rfl, Nat.le_of_ble_eq_true rfl⟩ d_2_31_25) (fun u2 H locs hp1 V => ?_)
  obtain ⟨hg3, hA3⟩ := hp1
  replace hF := q_uc hF hg3 (q_sc (.tail _ (.head _)) (fun _ h => absurd h List.not_mem_nil))
  refine lv_iconst (v := 0) hx hb d_2_31_28 (by decide) ?_
  refine lv_istore (lv' := [(4, .int 0), (3, .int 1), (0, .ref qO0), (1, .ref qO1), (2, .ref qO2)]) hx hb d_2_31_29 hl (by decide) rfl (fun ls hl => ?_)
  refine lv_iload hx hb d_2_31_31 (lv_at hl 0 rfl) ?_
  refine lv_aload_n hx hb d_2_31_33 rfl (lv_at hl 3 rfl) ?_
  replace hO1 := (hg3 _ (q_nc n_O1_A3 List.not_mem_nil)).trans (hO1)
  refine q_get (ci := 2) (j := 1) (v := .int 1) C0 V i_Big rfl rfl hO1 (by decide) w_85 rfl d_2_31_34 ?_
  refine lv_icmp_ge (tgt := 162) hx hb d_2_31_37 (by decide) (fun c4 => absurd c4 (by decide)) (fun c4 => ?_)
  refine lv_aload_n hx hb d_2_31_40 rfl (lv_at hl 4 rfl) ?_
  replace hO2 := (hg3 _ (q_nc n_O2_A3 List.not_mem_nil)).trans (hO2)
  refine q_get (ci := 2) (j := 1) (v := .int 0) C0 V i_Big rfl rfl hO2 (by decide) w_85 rfl d_2_31_41 ?_
  refine lv_iload_n hx hb d_2_31_44 rfl (lv_at hl 1 rfl) ?_
  refine lv_iload hx hb d_2_31_45 (lv_at hl 0 rfl) ?_
  refine lv_isub hx hb d_2_31_47 ?_
  refine q_ti (v := 1) (by decide) ?_
  refine q_min C0 hl.1 rfl w_773 w_774 w_7 w_775 ⟨Nat.le_of_ble_eq_true rfl, Nat.le_of_ble_eq_true rfl⟩ ⟨Nat.le_of_ble_eq_true rfl, Nat.le_of_ble_eq_true rfl⟩ d_2_31_48 ?_
  refine q_ti (v := 0) (by decide) ?_
  refine lv_istore (lv' := [(5, .int 0), (4, .int 0), (3, .int 1), (0, .ref qO0), (1, .ref qO1), (2, .ref qO2)]) hx hb d_2_31_51 hl (by decide) rfl (fun ls hl => ?_)
  refine lv_aload_n hx hb d_2_31_53 rfl (lv_at hl 4 rfl) ?_
  refine q_get (ci := 2) (j := 0) (v := .ref qA4) C0 V i_Big rfl rfl hO1 (by decide) w_84 rfl d_2_31_54 ?_
  refine lv_iload hx hb d_2_31_57 (lv_at hl 1 rfl) ?_
  replace hA4 := (hg3 _ (q_nc n_A4_A3 List.not_mem_nil)).trans (hA4)
  refine q_iald C0 V hA4 (by unfold vp_in; decide) d_2_31_59 ?_
  refine q_ti (v := 1) (by first | rfl | decide | simp [upd, vp_updL, sb_cl0]) ?_
  refine lv_i2l hx hb d_2_31_60 rfl ?_
  refine q_tl (v := 1) (by decide) ?_
  refine lv_lstore (lv' := [(6, .long 1), (5, .int 0), (4, .int 0), (3, .int 1), (0, .ref qO0), (1, .ref qO1), (2, .ref qO2)]) hx hb d_2_31_61 hl (by decide) rfl (fun ls hl => ?_)
  refine lv_lconst (v := 0) hx hb d_2_31_63 (by decide) ?_
  refine lv_lstore (lv' := [(8, .long 0), (6, .long 1), (5, .int 0), (4, .int 0), (3, .int 1), (0, .ref qO0), (1, .ref qO1), (2, .ref qO2)]) hx hb d_2_31_64 hl (by decide) rfl (fun ls hl => ?_)
  refine lv_iconst (v := 0) hx hb d_2_31_66 (by decide) ?_
  refine lv_istore (lv' := [(10, .int 0), (8, .long 0), (6, .long 1), (5, .int 0), (4, .int 0), (3, .int 1), (0, .ref qO0), (1, .ref qO1), (2, .ref qO2)]) hx hb d_2_31_67 hl (by decide) rfl (fun ls hl => ?_)
  refine lv_iload hx hb d_2_31_69 (lv_at hl 0 rfl) ?_
  refine lv_iload hx hb d_2_31_71 (lv_at hl 3 rfl) ?_
  refine lv_icmp_ge (tgt := 134) hx hb d_2_31_73 (by decide) (fun c5 => ?_) (fun c5 => absurd (by decide) c5)
  refine lv_iload hx hb d_2_31_134 (lv_at hl 4 rfl) ?_
  refine lv_iload hx hb d_2_31_136 (lv_at hl 3 rfl) ?_
  refine lv_iadd hx hb d_2_31_138 ?_
  refine q_ti (v := 0) (by decide) ?_
  refine lv_iload_n hx hb d_2_31_139 rfl (lv_at hl 5 rfl) ?_
  refine lv_icmp_ge (tgt := 156) hx hb d_2_31_140 (by decide) (fun c6 => absurd c6 (by decide)) (fun c6 => ?_)
  refine lv_aload_n hx hb d_2_31_143 rfl (lv_at hl 6 rfl) ?_
  replace hO0 := (hg3 _ (q_nc n_O0_A3 List.not_mem_nil)).trans (hO0)
  refine q_get (ci := 2) (j := 0) (v := .ref qA3) C0 V i_Big rfl rfl hO0 (by decide) w_84 rfl d_2_31_144 ?_
  refine lv_iload hx hb d_2_31_147 (lv_at hl 4 rfl) ?_
  refine lv_iload hx hb d_2_31_149 (lv_at hl 3 rfl) ?_
  refine lv_iadd hx hb d_2_31_151 ?_
  refine q_ti (v := 0) (by decide) ?_
  refine lv_lload hx hb d_2_31_152 (lv_at hl 1 rfl) ?_
  refine lv_l2i hx hb d_2_31_154 rfl ?_
  refine q_ti (v := 0) (by decide) ?_
  refine q_iast C0 V hA3 (by unfold vp_in; decide) d_2_31_155 (fun H locs w7 hu8 hA3 V => ?_)
  replace hA3 : w7[kA3]? = (some (qA3, .inl (g 0, 220, .inl (upd (upd f1 0 0) 0 0))) : Option (Nat × va_E)) := hA3
  replace hA3 := q_re (y := (qA3, .inl (g 0, 220, .inl (upd f1 0 0)))) hA3 (q_eI (by funext k; simp only [upd]; (repeat' split) <;> first | rfl | omega))
  replace hA3 : w7[kA3]? = (some (qA3, .inl (g 0, 220, .inl (upd f1 0 0))) : Option (Nat × va_E)) := hA3
  replace hF := q_us hF hu8 (.tail _ (.head _))
  refine lv_iinc (v := 1) (lv' := [(4, .int 1), (10, .int 0), (8, .long 0), (6, .long 1), (5, .int 0), (3, .int 1), (0, .ref qO0), (1, .ref qO1), (2, .ref qO2)]) hx hb d_2_31_156 hl (k := 4) rfl (by decide) (by decide) rfl (fun ls hl => ?_)
  refine lv_goto (tgt := 31) hx hb d_2_31_159 (by decide) ?_
  refine lv_iload hx hb d_2_31_31 (lv_at hl 0 rfl) ?_
  refine lv_aload_n hx hb d_2_31_33 rfl (lv_at hl 7 rfl) ?_
  replace hO1 := (hu8 _ n_O1_A3).trans (hO1)
  refine q_get (ci := 2) (j := 1) (v := .int 1) C0 V i_Big rfl rfl hO1 (by decide) w_85 rfl d_2_31_34 ?_
  refine lv_icmp_ge (tgt := 162) hx hb d_2_31_37 (by decide) (fun c9 => ?_) (fun c9 => absurd (by decide) c9)
  refine lv_aload_n hx hb d_2_31_162 rfl (lv_at hl 6 rfl) ?_
  refine lv_iload_n hx hb d_2_31_163 rfl (lv_at hl 5 rfl) ?_
  replace hO0 := (hu8 _ n_O0_A3).trans (hO0)
  refine q_put (ci := 2) (j := 1) (v := .int 1) (ty := .int) C0 V i_Big o_Big n_Big rfl rfl hO0 (by decide) w_85 rfl rfl rfl rfl (Nat.le_of_ble_eq_true rfl) d_2_31_164 (fun H locs w10 hu11 hO0 V => ?_)
  replace hO0 : w10[kO0]? = (some (qO0, .inr (2, [.ref qA3, .int 1, .int 0])) : Option (Nat × va_E)) := hO0
  replace hF := q_us hF hu11 (.head _)
  refine lv_aload_n hx hb d_2_31_167 rfl (lv_at hl 6 rfl) ?_
  refine lv_aload_n hx hb d_2_31_168 rfl (lv_at hl 7 rfl) ?_
  replace hO1 := (hu11 _ n_O1_O0).trans (hO1)
  refine q_get (ci := 2) (j := 2) (v := .int 0) C0 V i_Big rfl rfl hO1 (by decide) w_94 rfl d_2_31_169 ?_
  refine lv_aload_n hx hb d_2_31_172 rfl (lv_at hl 8 rfl) ?_
  replace hO2 := (hu11 _ n_O2_O0).trans ((hu8 _ n_O2_A3).trans (hO2))
  refine q_get (ci := 2) (j := 2) (v := .int 0) C0 V i_Big rfl rfl hO2 (by decide) w_94 rfl d_2_31_173 ?_
  refine lv_icmp_eq (tgt := 183) hx hb d_2_31_176 (by decide) (fun c12 => ?_) (fun c12 => absurd (by decide) c12)
  refine lv_iconst (v := 0) hx hb d_2_31_183 (by decide) ?_
  refine q_put (ci := 2) (j := 2) (v := .int 0) (ty := .boolean) C0 V i_Big o_Big n_Big rfl rfl hO0 (by decide) w_94 rfl rfl rfl rfl (Nat.le_of_ble_eq_true rfl) d_2_31_184 (fun H locs w13 hu14 hO0 V => ?_)
  replace hO0 : w13[kO0]? = (some (qO0, .inr (2, [.ref qA3, .int 1, .int 0])) : Option (Nat × va_E)) := hO0
  replace hF := q_us hF hu14 (.head _)
  refine lv_aload_n hx hb d_2_31_187 rfl (lv_at hl 6 rfl) ?_
  replace hA3 := (hu14 _ n_A3_O0).trans ((hu11 _ n_A3_O0).trans (hA3))
  refine q_gov V (q_runV (As := []) (rest := []) (d := 1) (mc := 0) (ms := 0) (ci := 2) C0 V rfl LV_Big_36 (c_Big_trim_7 l D g w13 kO0 kA3 qO0 qA3 f1 hO0 hA3 _) rfl rfl hO0 rfl hl.1 rfl (Nat.le_of_ble_eq_true rfl) ⟨by decide, by decide⟩ ⟨Nat.le_of_ble_eq_true rfl, Nat.le_of_ble_eq_true rfl⟩ d_2_31_188) (fun u16 H locs hp15 V => ?_)
  obtain ⟨hg17, hO0⟩ := hp15
  replace hF := q_uc hF hg17 (q_sc (.head _) (fun _ h => absurd h List.not_mem_nil))
  replace hA3 := (hg17 _ (q_nc n_A3_O0 List.not_mem_nil)).trans (hA3)
  exact q_retv C0 V (⟨hF, hO0, hA3⟩) d_2_31_191
theorem d_8_8_0 : decode prog_8_method_8_code 0 = .ok (.aload_n 0, 1) := by decide +kernel
theorem d_8_8_1 : decode prog_8_method_8_code 1 = .ok (.getfield 23, 3) := by decide +kernel
theorem d_8_8_4 : decode prog_8_method_8_code 4 = .ok (.lconst 1, 1) := by decide +kernel
theorem d_8_8_5 : decode prog_8_method_8_code 5 = .ok (.invokevirtual 77, 3) := by decide +kernel
theorem w_766 : (Cond.methodLink "NumberHouse$Mill" (77 : Nat) ({ cls := "NumberHouse$Big", name := "setLong", desc := "(J)V" } : MethodName)) ∈ q_tbl := q_of 766 (by decide +kernel) (by decide +kernel)
theorem LV_Mil_77 : q_LV "NumberHouse$Mill" 77 y_Big_setLong prog_2_method_3_code 6 none 1 := ⟨w_193, w_4, w_766, w_191, w_192, ⟨by decide, by decide, by decide +kernel⟩⟩
theorem d_8_8_8 : decode prog_8_method_8_code 8 = .ok (.iload_n 2, 1) := by decide +kernel
theorem d_8_8_9 : decode prog_8_method_8_code 9 = .ok (.invokestatic 93, 3) := by decide +kernel
theorem w_1332 : (Cond.methodLink "NumberHouse$Mill" (93 : Nat) ({ cls := "NumberHouse$Big", name := "bitsOf", desc := "(I)I" } : MethodName)) ∈ q_tbl := q_of 1332 (by decide +kernel) (by decide +kernel)
theorem LS_Mil_93 : q_LS "NumberHouse$Mill" 93 y_Big_bitsOf prog_2_method_13_code 2 (some .int) 1 := ⟨w_613, w_4, w_1332, w_612, ⟨by decide, by decide, by decide +kernel⟩⟩
theorem d_8_8_12 : decode prog_8_method_8_code 12 = .ok (.iconst 1, 1) := by decide +kernel
theorem d_8_8_13 : decode prog_8_method_8_code 13 = .ok (.isub, 1) := by decide +kernel
theorem d_8_8_14 : decode prog_8_method_8_code 14 = .ok (.istore 4, 2) := by decide +kernel
theorem d_8_8_16 : decode prog_8_method_8_code 16 = .ok (.iload 4, 2) := by decide +kernel
theorem d_8_8_18 : decode prog_8_method_8_code 18 = .ok (.ifCond .lt 86, 3) := by decide +kernel
theorem d_8_8_104 : decode prog_8_method_8_code 104 = .ok (.iconst 1, 1) := by decide +kernel
theorem d_8_8_105 : decode prog_8_method_8_code 105 = .ok (.ireturn, 1) := by decide +kernel
theorem d_8_8_21 : decode prog_8_method_8_code 21 = .ok (.aload_n 0, 1) := by decide +kernel
theorem d_8_8_22 : decode prog_8_method_8_code 22 = .ok (.getfield 29, 3) := by decide +kernel
theorem d_8_8_25 : decode prog_8_method_8_code 25 = .ok (.aload_n 0, 1) := by decide +kernel
theorem d_8_8_26 : decode prog_8_method_8_code 26 = .ok (.getfield 23, 3) := by decide +kernel
theorem d_8_8_29 : decode prog_8_method_8_code 29 = .ok (.aload_n 0, 1) := by decide +kernel
theorem d_8_8_30 : decode prog_8_method_8_code 30 = .ok (.getfield 23, 3) := by decide +kernel
theorem d_8_8_33 : decode prog_8_method_8_code 33 = .ok (.invokevirtual 47, 3) := by decide +kernel
theorem d_8_8_36 : decode prog_8_method_8_code 36 = .ok (.aload_n 0, 1) := by decide +kernel
theorem d_8_8_37 : decode prog_8_method_8_code 37 = .ok (.getfield 29, 3) := by decide +kernel
theorem d_8_8_40 : decode prog_8_method_8_code 40 = .ok (.invokevirtual 85, 3) := by decide +kernel
theorem w_763 : (Cond.methodLink "NumberHouse$Mill" (85 : Nat) ({ cls := "NumberHouse$Big", name := "bitLength", desc := "()I" } : MethodName)) ∈ q_tbl := q_of 763 (by decide +kernel) (by decide +kernel)
theorem LV_Mil_85 : q_LV "NumberHouse$Mill" 85 y_Big_bitLength prog_2_method_12_code 1 (some .int) 0 := ⟨w_610, w_4, w_763, w_608, w_609, ⟨by decide, by decide, by decide +kernel⟩⟩
theorem d_8_8_43 : decode prog_8_method_8_code 43 = .ok (.iload_n 3, 1) := by decide +kernel
theorem d_8_8_44 : decode prog_8_method_8_code 44 = .ok (.if_icmp .le 5, 3) := by decide +kernel
theorem d_8_8_49 : decode prog_8_method_8_code 49 = .ok (.iload_n 2, 1) := by decide +kernel
theorem d_8_8_50 : decode prog_8_method_8_code 50 = .ok (.iload 4, 2) := by decide +kernel
theorem d_8_8_52 : decode prog_8_method_8_code 52 = .ok (.iushr, 1) := by decide +kernel
theorem d_8_8_53 : decode prog_8_method_8_code 53 = .ok (.iconst 1, 1) := by decide +kernel
theorem d_8_8_54 : decode prog_8_method_8_code 54 = .ok (.iand, 1) := by decide +kernel
theorem d_8_8_55 : decode prog_8_method_8_code 55 = .ok (.iconst 1, 1) := by decide +kernel
theorem d_8_8_56 : decode prog_8_method_8_code 56 = .ok (.if_icmp .ne 18, 3) := by decide +kernel
theorem d_8_8_74 : decode prog_8_method_8_code 74 = .ok (.aload_n 0, 1) := by decide +kernel
theorem d_8_8_75 : decode prog_8_method_8_code 75 = .ok (.getfield 23, 3) := by decide +kernel
theorem d_8_8_78 : decode prog_8_method_8_code 78 = .ok (.aload_n 0, 1) := by decide +kernel
theorem d_8_8_79 : decode prog_8_method_8_code 79 = .ok (.getfield 29, 3) := by decide +kernel
theorem d_8_8_82 : decode prog_8_method_8_code 82 = .ok (.invokevirtual 51, 3) := by decide +kernel
theorem d_8_8_85 : decode prog_8_method_8_code 85 = .ok (.aload_n 0, 1) := by decide +kernel
theorem d_8_8_86 : decode prog_8_method_8_code 86 = .ok (.getfield 23, 3) := by decide +kernel
theorem d_8_8_89 : decode prog_8_method_8_code 89 = .ok (.invokevirtual 85, 3) := by decide +kernel
theorem d_8_8_92 : decode prog_8_method_8_code 92 = .ok (.iload_n 3, 1) := by decide +kernel
theorem d_8_8_93 : decode prog_8_method_8_code 93 = .ok (.if_icmp .le 5, 3) := by decide +kernel
theorem d_8_8_98 : decode prog_8_method_8_code 98 = .ok (.iinc 4 (-1), 3) := by decide +kernel
theorem d_8_8_101 : decode prog_8_method_8_code 101 = .ok (.goto (-85), 3) := by decide +kernel
theorem d_8_8_59 : decode prog_8_method_8_code 59 = .ok (.aload_n 0, 1) := by decide +kernel
theorem d_8_8_60 : decode prog_8_method_8_code 60 = .ok (.getfield 23, 3) := by decide +kernel
theorem d_8_8_63 : decode prog_8_method_8_code 63 = .ok (.aload_n 0, 1) := by decide +kernel
theorem d_8_8_64 : decode prog_8_method_8_code 64 = .ok (.getfield 29, 3) := by decide +kernel
theorem d_8_8_67 : decode prog_8_method_8_code 67 = .ok (.aload_n 1, 1) := by decide +kernel
theorem d_8_8_68 : decode prog_8_method_8_code 68 = .ok (.invokevirtual 47, 3) := by decide +kernel
theorem d_8_8_71 : decode prog_8_method_8_code 71 = .ok (.goto 14, 3) := by decide +kernel
def y_Mil_power : MethodName := ⟨"NumberHouse$Mill", "power", "(LNumberHouse$Big;II)Z"⟩
set_option maxRecDepth 100000 in
set_option maxHeartbeats 4000000 in
theorem c_Mil_power (l : Launch) (D : va_G) (g : Nat → ClassId) (ws : va_W) (kO0 kO1 kO4 kO6 kA15 kA17 qO0 qO1 qO2 qO3 qO4 qO5 qO6 qO7 qO8 qO9 qO10 qO11 qA12 qA15 qA17 : Nat) (x1 : Int32) (hO0 : ws[kO0]? = (some (qO0, .inr (4, [.ref qO2, .ref qO3, .ref qO4, .ref qO5, .ref qO6, .ref qO7, .ref qO8, .ref qO9, .ref qO10, .ref qO11])) : Option (Nat × va_E))) (hO1 : ws[kO1]? = (some (qO1, .inr (2, [.ref qA12, .int 0, .int 0])) : Option (Nat × va_E))) (hO4 : ws[kO4]? = (some (qO4, .inr (2, [.ref qA15, .int 0, .int 0])) : Option (Nat × va_E))) (hO6 : ws[kO6]? = (some (qO6, .inr (2, [.ref qA17, .int 0, .int 0])) : Option (Nat × va_E))) (hA15 : ws[kA15]? = (some (qA15, .inl (g 0, 220, .inl (fun _ => 0))) : Option (Nat × va_E))) (hA17 : ws[kA17]? = (some (qA17, .inl (g 0, 220, .inl (fun _ => 0))) : Option (Nat × va_E))) (n_A15_A17 : kA15 ≠ kA17) (n_O1_O4 : kO1 ≠ kO4) (n_O1_O6 : kO1 ≠ kO6) (n_O4_O6 : kO4 ≠ kO6) : q_mI l y_Mil_power prog_8_method_8_code 5 (.boolean) 4 0 0 D g [.ref qO0, .ref qO1, .int x1, .int 2048] ws (fun r u => (∃ (ex0 : Int32) (ex1 : Nat → Int32) (ex2 : Nat → Int32), 1 = r ∧ q_un ws u [kO4, kO6, kA15, kA17] ∧ u[kO4]? = (some (qO4, .inr (2, [.ref qA15, .int 0, .int 0])) : Option (Nat × va_E)) ∧ u[kO6]? = (some (qO6, .inr (2, [.ref qA17, .int ex0, .int 0])) : Option (Nat × va_E)) ∧ u[kA15]? = (some (qA15, .inl (g 0, 220, .inl (upd ex1 0 0))) : Option (Nat × va_E)) ∧ u[kA17]? = (some (qA17, .inl (g 0, 220, .inl ex2)) : Option (Nat × va_E))) ∨ (∃ (ex0 : Int32) (ex1 : Nat → Int32) (ex2 : Nat → Int32), 1 = r ∧ q_un ws u [kO4, kO6, kA15, kA17] ∧ u[kO4]? = (some (qO4, .inr (2, [.ref qA15, .int 1, .int 0])) : Option (Nat × va_E)) ∧ u[kO6]? = (some (qO6, .inr (2, [.ref qA17, .int ex0, .int 0])) : Option (Nat × va_E)) ∧ u[kA15]? = (some (qA15, .inl (g 0, 220, .inl (upd ex1 0 1))) : Option (Nat × va_E)) ∧ u[kA17]? = (some (qA17, .inl (g 0, 220, .inl ex2)) : Option (Nat × va_E)))) := by
  intro sz
  refine q_into (by decide) (Nat.le_of_ble_eq_true rfl) ?_
  intro p e s m below meth c ls hsz C0 V hl
  have hx := C0.1
  have hb := C0.2.1
  have hl : lv_has ls 5 [(0, .ref qO0), (1, .ref qO1), (2, .int x1), (3, .int 2048)] := hl
  have n_A15_O4 := q_df hA15 hO4
  have n_A15_O6 := q_df hA15 hO6
  have n_A17_A15 := Ne.symm n_A15_A17
  have n_A17_O4 := q_df hA17 hO4
  have n_A17_O6 := q_df hA17 hO6
  have n_O0_A15 := Ne.symm (q_df hA15 hO0)
  have n_O0_A17 := Ne.symm (q_df hA17 hO0)
  have n_O0_O4 := q_dc hO0 hO4 (q_pd 4 2 rfl)
  have n_O0_O6 := q_dc hO0 hO6 (q_pd 4 2 rfl)
  have n_O1_A15 := Ne.symm (q_df hA15 hO1)
  have n_O1_A17 := Ne.symm (q_df hA17 hO1)
  have n_O4_A17 := Ne.symm (q_df hA17 hO4)
  have n_O6_A15 := Ne.symm (q_df hA15 hO6)
  have n_O6_O4 := Ne.symm n_O4_O6
  have hF : q_un ws ws [kO4, kO6, kA15, kA17] := q_u0
  refine lv_aload_n hx hb d_8_8_0 rfl (lv_at hl 0 rfl) ?_
  refine q_get (ci := 4) (j := 2) (v := .ref qO4) C0 V i_Mil rfl rfl hO0 (by decide) w_117 rfl d_8_8_1 ?_
  refine lv_lconst (v := 1) hx hb d_8_8_4 (by decide) ?_
  refine q_gov V (q_runV (As := [.long 1]) (rest := []) (d := 2) (mc := 0) (ms := 0) (ci := 2) C0 V rfl LV_Mil_77 (c_Big_setLong_3 l D g ws kO4 kA15 qO4 qA15 hO4 hA15 _) rfl rfl hO4 rfl hl.1 rfl (Nat.le_of_ble_eq_true rfl) ⟨by decide, by decide⟩ ⟨Nat.le_of_ble_eq_true rfl, Nat.le_of_ble_eq_true rfl⟩ d_8_8_5) (fun u2 H locs hp1 V => ?_)
  obtain ⟨hg3, hO4, hA15⟩ := hp1
  replace hF := q_uc hF hg3 (q_sc (.head _) (q_sc (.tail _ (.tail _ (.head _))) (fun _ h => absurd h List.not_mem_nil)))
  refine lv_iload_n hx hb d_8_8_8 rfl (lv_at hl 2 rfl) ?_
  refine q_goi V (q_runS (As := [.int x1]) (rest := []) (d := 2) (mc := 0) (ms := 0) C0 V rfl LS_Mil_93 (c_Big_bitsOf l D g u2 x1 _) rfl hl.1 rfl (Nat.le_of_ble_eq_true rfl) ⟨by decide, by decide⟩ ⟨Nat.le_of_ble_eq_true rfl, Nat.le_of_ble_eq_true rfl⟩ d_8_8_9) (fun v6 u5 H locs hp4 V => ?_)
  obtain ⟨y9, f7, f8, rfl, rfl⟩ := hp4
  refine lv_iconst (v := 1) hx hb d_8_8_12 (by decide) ?_
  refine lv_isub hx hb d_8_8_13 ?_
  refine lv_istore (lv' := [(4, .int (y9 - 1)), (0, .ref qO0), (1, .ref qO1), (2, .int x1), (3, .int 2048)]) hx hb d_8_8_14 hl (by decide) rfl (fun ls hl => ?_)
  replace hO6 := (hg3 _ (q_nc n_O6_O4 (q_nc n_O6_A15 List.not_mem_nil))).trans (hO6)
  replace hA17 := (hg3 _ (q_nc n_A17_O4 (q_nc n_A17_A15 List.not_mem_nil))).trans (hA17)
  replace hO0 := (hg3 _ (q_nc n_O0_O4 (q_nc n_O0_A15 List.not_mem_nil))).trans (hO0)
  replace hO1 := (hg3 _ (q_nc n_O1_O4 (q_nc n_O1_A15 List.not_mem_nil))).trans (hO1)
  refine q_loop (X := Int32 × Int32 × (Nat → Int32) × Int32 × (Nat → Int32)) (fun z H locs ls w16 => ((-1) ≤ z.1.toInt ∧ z.1.toInt ≤ 62) ∧ (z.2.1 = 0 ∨ z.2.1 = 1) ∧ q_Wd D g (va_A ws sz) s w16 H locs ∧ lv_has ls 5 [(4, .int z.1), (0, .ref qO0), (1, .ref qO1), (2, .int x1), (3, .int 2048)] ∧ q_un ws w16 [kO4, kO6, kA15, kA17] ∧ w16[kO0]? = (some (qO0, .inr (4, [.ref qO2, .ref qO3, .ref qO4, .ref qO5, .ref qO6, .ref qO7, .ref qO8, .ref qO9, .ref qO10, .ref qO11])) : Option (Nat × va_E)) ∧ w16[kO1]? = (some (qO1, .inr (2, [.ref qA12, .int 0, .int 0])) : Option (Nat × va_E)) ∧ w16[kO4]? = (some (qO4, .inr (2, [.ref qA15, .int z.2.1, .int 0])) : Option (Nat × va_E)) ∧ w16[kO6]? = (some (qO6, .inr (2, [.ref qA17, .int z.2.2.2.1, .int 0])) : Option (Nat × va_E)) ∧ w16[kA15]? = (some (qA15, .inl (g 0, 220, .inl (upd z.2.2.1 0 z.2.1))) : Option (Nat × va_E)) ∧ w16[kA17]? = (some (qA17, .inl (g 0, 220, .inl z.2.2.2.2)) : Option (Nat × va_E))) (fun z => (z.1.toInt + 1).toNat) ?_ ((y9 - 1 : Int32), (1 : Int32), (fun _ => 0 : (Nat → Int32)), (0 : Int32), (fun _ => 0 : (Nat → Int32))) _ _ _ u2 ⟨(show (-1) ≤ (y9 - 1 : Int32).toInt ∧ (y9 - 1 : Int32).toInt ≤ 62 from by have t1 : 0 ≤ y9.toInt := q_leI f7; have t2 : y9.toInt ≤ 63 := q_leI f8; have e0 : (y9 - 1 : Int32).toInt = (y9.toInt - 1) := (q_subI (x := y9.toInt) (y := 1) rfl (by decide) (by have t1 : 0 ≤ y9.toInt := q_leI f7; have t2 : y9.toInt ≤ 63 := q_leI f8; omega) (by have t1 : 0 ≤ y9.toInt := q_leI f7; have t2 : y9.toInt ≤ 63 := q_leI f8; omega)); have e1 : (1 : Int32).toInt = 1 := (by decide); have e3 : (0 : Int32).toInt = 0 := (by decide); omega), (Or.inr rfl), V, hl, hF, hO0, hO1, hO4, hO6, hA15, hA17⟩
  rintro ⟨lx11, lx12, lx13, lx14, lx15⟩ H locs ls w16 ⟨i17, i18, V, hl, hF, hO0, hO1, hO4, hO6, hA15, hA17⟩ ih19
  replace i17 : (-1) ≤ lx11.toInt ∧ lx11.toInt ≤ 62 := i17
  replace i18 : lx12 = 0 ∨ lx12 = 1 := i18
  replace hl : lv_has ls 5 [(4, .int lx11), (0, .ref qO0), (1, .ref qO1), (2, .int x1), (3, .int 2048)] := hl
  replace hO0 : w16[kO0]? = (some (qO0, .inr (4, [.ref qO2, .ref qO3, .ref qO4, .ref qO5, .ref qO6, .ref qO7, .ref qO8, .ref qO9, .ref qO10, .ref qO11])) : Option (Nat × va_E)) := hO0
  replace hO1 : w16[kO1]? = (some (qO1, .inr (2, [.ref qA12, .int 0, .int 0])) : Option (Nat × va_E)) := hO1
  replace hO4 : w16[kO4]? = (some (qO4, .inr (2, [.ref qA15, .int lx12, .int 0])) : Option (Nat × va_E)) := hO4
  replace hO6 : w16[kO6]? = (some (qO6, .inr (2, [.ref qA17, .int lx14, .int 0])) : Option (Nat × va_E)) := hO6
  replace hA15 : w16[kA15]? = (some (qA15, .inl (g 0, 220, .inl (upd lx13 0 lx12))) : Option (Nat × va_E)) := hA15
  replace hA17 : w16[kA17]? = (some (qA17, .inl (g 0, 220, .inl lx15)) : Option (Nat × va_E)) := hA17
  rcases i18 with rfl | rfl
  ·
    refine lv_iload hx hb d_8_8_16 (lv_at hl 0 rfl) ?_
    refine lv_if_lt (tgt := 104) hx hb d_8_8_18 (by decide) (fun c20 => ?_) (fun c20 => ?_)
    ·
      refine lv_iconst (v := 1) hx hb d_8_8_104 (by decide) ?_
      exact q_retz C0 V (rfl) (Or.inl ⟨lx14, lx13, lx15, rfl, hF, hO4, hO6, hA15, hA17⟩) d_8_8_105
    ·
      refine lv_aload_n hx hb d_8_8_21 rfl (lv_at hl 1 rfl) ?_
      refine q_get (ci := 4) (j := 4) (v := .ref qO6) C0 V i_Mil rfl rfl hO0 (by decide) w_123 rfl d_8_8_22 ?_
      refine lv_aload_n hx hb d_8_8_25 rfl (lv_at hl 1 rfl) ?_
      refine q_get (ci := 4) (j := 2) (v := .ref qO4) C0 V i_Mil rfl rfl hO0 (by decide) w_117 rfl d_8_8_26 ?_
      refine lv_aload_n hx hb d_8_8_29 rfl (lv_at hl 1 rfl) ?_
      refine q_get (ci := 4) (j := 2) (v := .ref qO4) C0 V i_Mil rfl rfl hO0 (by decide) w_117 rfl d_8_8_30 ?_
      refine q_gov V (q_runV (As := [.ref qO4, .ref qO4]) (rest := []) (d := 3) (mc := 0) (ms := 0) (ci := 2) C0 V rfl LV_Mil_47 (c_Big_product_2 l D g w16 kO6 kO4 kA17 qO6 qO4 qA17 qA15 lx14 lx15 hO6 hO4 hA17 n_O4_O6 _) rfl rfl hO6 rfl hl.1 rfl (Nat.le_of_ble_eq_true rfl) ⟨by decide, by decide⟩ ⟨Nat.le_of_ble_eq_true rfl, Nat.le_of_ble_eq_true rfl⟩ d_8_8_33) (fun u22 H locs hp21 V => ?_)
      obtain ⟨hg23, hO6⟩ := hp21
      replace hF := q_uc hF hg23 (q_sc (.tail _ (.head _)) (fun _ h => absurd h List.not_mem_nil))
      refine lv_aload_n hx hb d_8_8_36 rfl (lv_at hl 1 rfl) ?_
      replace hO0 := (hg23 _ (q_nc n_O0_O6 List.not_mem_nil)).trans (hO0)
      refine q_get (ci := 4) (j := 4) (v := .ref qO6) C0 V i_Mil rfl rfl hO0 (by decide) w_123 rfl d_8_8_37 ?_
      refine q_goi V (q_runV (As := []) (rest := []) (d := 1) (mc := 0) (ms := 0) (ci := 2) C0 V rfl LV_Mil_85 (c_Big_bitLength l D g u22 kO6 qO6 qA17 hO6 _) rfl rfl hO6 rfl hl.1 rfl (Nat.le_of_ble_eq_true rfl) ⟨by decide, by decide⟩ ⟨Nat.le_of_ble_eq_true rfl, Nat.le_of_ble_eq_true rfl⟩ d_8_8_40) (fun v26 u25 H locs hp24 V => ?_)
      obtain ⟨rfl, rfl⟩ := hp24
      refine lv_iload_n hx hb d_8_8_43 rfl (lv_at hl 4 rfl) ?_
      refine lv_icmp_le (tgt := 49) hx hb d_8_8_44 (by decide) (fun c28 => ?_) (fun c28 => absurd (by decide) c28)
      refine lv_iload_n hx hb d_8_8_49 rfl (lv_at hl 3 rfl) ?_
      refine lv_iload hx hb d_8_8_50 (lv_at hl 0 rfl) ?_
      refine lv_iushr hx hb d_8_8_52 rfl ?_
      refine lv_iconst (v := 1) hx hb d_8_8_53 (by decide) ?_
      refine lv_iand hx hb d_8_8_54 ?_
      refine lv_iconst (v := 1) hx hb d_8_8_55 (by decide) ?_
      refine lv_icmp_ne (tgt := 74) hx hb d_8_8_56 (by decide) (fun c29 => ?_) (fun c29 => ?_)
      ·
        refine lv_aload_n hx hb d_8_8_74 rfl (lv_at hl 1 rfl) ?_
        refine q_get (ci := 4) (j := 2) (v := .ref qO4) C0 V i_Mil rfl rfl hO0 (by decide) w_117 rfl d_8_8_75 ?_
        refine lv_aload_n hx hb d_8_8_78 rfl (lv_at hl 1 rfl) ?_
        refine q_get (ci := 4) (j := 4) (v := .ref qO6) C0 V i_Mil rfl rfl hO0 (by decide) w_123 rfl d_8_8_79 ?_
        replace hO4 := (hg23 _ (q_nc n_O4_O6 List.not_mem_nil)).trans (hO4)
        replace hA15 := (hg23 _ (q_nc n_A15_O6 List.not_mem_nil)).trans (hA15)
        replace hA17 := (hg23 _ (q_nc n_A17_O6 List.not_mem_nil)).trans (hA17)
        refine q_gov V (q_runV (As := [.ref qO6]) (rest := []) (d := 2) (mc := 0) (ms := 0) (ci := 2) C0 V rfl LV_Mil_51 (c_Big_copy_6 l D g u22 kO4 kO6 kA15 kA17 qO4 qO6 qA15 qA17 lx13 lx15 hO4 hO6 hA15 hA17 n_A17_A15 n_O6_O4 _) rfl rfl hO4 rfl hl.1 rfl (Nat.le_of_ble_eq_true rfl) ⟨by decide, by decide⟩ ⟨Nat.le_of_ble_eq_true rfl, Nat.le_of_ble_eq_true rfl⟩ d_8_8_82) (fun u31 H locs hp30 V => ?_)
        obtain ⟨hg32, hO4, hA15⟩ := hp30
        replace hF := q_uc hF hg32 (q_sc (.head _) (q_sc (.tail _ (.tail _ (.head _))) (fun _ h => absurd h List.not_mem_nil)))
        refine lv_aload_n hx hb d_8_8_85 rfl (lv_at hl 1 rfl) ?_
        replace hO0 := (hg32 _ (q_nc n_O0_O4 (q_nc n_O0_A15 List.not_mem_nil))).trans (hO0)
        refine q_get (ci := 4) (j := 2) (v := .ref qO4) C0 V i_Mil rfl rfl hO0 (by decide) w_117 rfl d_8_8_86 ?_
        refine q_goi V (q_runV (As := []) (rest := []) (d := 1) (mc := 0) (ms := 0) (ci := 2) C0 V rfl LV_Mil_85 (c_Big_bitLength l D g u31 kO4 qO4 qA15 hO4 _) rfl rfl hO4 rfl hl.1 rfl (Nat.le_of_ble_eq_true rfl) ⟨by decide, by decide⟩ ⟨Nat.le_of_ble_eq_true rfl, Nat.le_of_ble_eq_true rfl⟩ d_8_8_89) (fun v35 u34 H locs hp33 V => ?_)
        obtain ⟨rfl, rfl⟩ := hp33
        refine lv_iload_n hx hb d_8_8_92 rfl (lv_at hl 4 rfl) ?_
        refine lv_icmp_le (tgt := 98) hx hb d_8_8_93 (by decide) (fun c37 => ?_) (fun c37 => absurd (by decide) c37)
        refine lv_iinc (v := lx11 + (-1)) (lv' := [(4, .int (lx11 + (-1))), (0, .ref qO0), (1, .ref qO1), (2, .int x1), (3, .int 2048)]) hx hb d_8_8_98 hl (k := 0) rfl (rfl) (by decide) rfl (fun ls hl => ?_)
        refine lv_goto (tgt := 16) hx hb d_8_8_101 (by decide) ?_
        replace hO1 := (hg32 _ (q_nc n_O1_O4 (q_nc n_O1_A15 List.not_mem_nil))).trans ((hg23 _ (q_nc n_O1_O6 List.not_mem_nil)).trans (hO1))
        replace hO6 := (hg32 _ (q_nc n_O6_O4 (q_nc n_O6_A15 List.not_mem_nil))).trans (hO6)
        replace hA17 := (hg32 _ (q_nc n_A17_O4 (q_nc n_A17_A15 List.not_mem_nil))).trans (hA17)
        exact ih19 ((lx11 + (-1) : Int32), (0 : Int32), (lx13 : Nat → Int32), (0 : Int32), (lx15 : Nat → Int32)) _ _ _ _ (show ((lx11 + (-1) : Int32).toInt + 1).toNat < (lx11.toInt + 1).toNat from by have t1 : 0 ≤ lx11.toInt := q_nltI c20; have t2 : 0 ≤ y9.toInt := q_leI f7; have t3 : y9.toInt ≤ 63 := q_leI f8; have e0 : (lx11 + (-1) : Int32).toInt = (lx11.toInt + (-1)) := (q_addI (x := lx11.toInt) (y := (-1)) rfl (by decide) (by have t1 : 0 ≤ lx11.toInt := q_nltI c20; omega) (by have t1 : 0 ≤ lx11.toInt := q_nltI c20; omega)); have e1 : (0 : Int32).toInt = 0 := (by decide); have e3 : (0 : Int32).toInt = 0 := (by decide); omega) ⟨(show (-1) ≤ (lx11 + (-1) : Int32).toInt ∧ (lx11 + (-1) : Int32).toInt ≤ 62 from by have t1 : 0 ≤ lx11.toInt := q_nltI c20; have t2 : 0 ≤ y9.toInt := q_leI f7; have t3 : y9.toInt ≤ 63 := q_leI f8; have e0 : (lx11 + (-1) : Int32).toInt = (lx11.toInt + (-1)) := (q_addI (x := lx11.toInt) (y := (-1)) rfl (by decide) (by have t1 : 0 ≤ lx11.toInt := q_nltI c20; omega) (by have t1 : 0 ≤ lx11.toInt := q_nltI c20; omega)); have e1 : (0 : Int32).toInt = 0 := (by decide); have e3 : (0 : Int32).toInt = 0 := (by decide); omega), (Or.inl rfl), V, q_lw hl (q_lw1 0 rfl (q_lw1 1 rfl (q_lw1 2 rfl (q_lw1 3 rfl (q_lw1 4 rfl q_lw0))))), hF, hO0, hO1, hO4, hO6, hA15, hA17⟩
      ·
        refine lv_aload_n hx hb d_8_8_59 rfl (lv_at hl 1 rfl) ?_
        refine q_get (ci := 4) (j := 2) (v := .ref qO4) C0 V i_Mil rfl rfl hO0 (by decide) w_117 rfl d_8_8_60 ?_
        refine lv_aload_n hx hb d_8_8_63 rfl (lv_at hl 1 rfl) ?_
        refine q_get (ci := 4) (j := 4) (v := .ref qO6) C0 V i_Mil rfl rfl hO0 (by decide) w_123 rfl d_8_8_64 ?_
        refine lv_aload_n hx hb d_8_8_67 rfl (lv_at hl 2 rfl) ?_
        replace hO4 := (hg23 _ (q_nc n_O4_O6 List.not_mem_nil)).trans (hO4)
        replace hO1 := (hg23 _ (q_nc n_O1_O6 List.not_mem_nil)).trans (hO1)
        replace hA15 := (hg23 _ (q_nc n_A15_O6 List.not_mem_nil)).trans (hA15)
        refine q_gov V (q_runV (As := [.ref qO6, .ref qO1]) (rest := []) (d := 3) (mc := 0) (ms := 0) (ci := 2) C0 V rfl LV_Mil_47 (c_Big_product_3 l D g u22 kO4 kO6 kO1 kA15 qO4 qO6 qO1 qA15 qA17 qA12 lx13 hO4 hO6 hO1 hA15 n_O6_O4 n_O1_O4 _) rfl rfl hO4 rfl hl.1 rfl (Nat.le_of_ble_eq_true rfl) ⟨by decide, by decide⟩ ⟨Nat.le_of_ble_eq_true rfl, Nat.le_of_ble_eq_true rfl⟩ d_8_8_68) (fun u39 H locs hp38 V => ?_)
        obtain ⟨hg40, hO4⟩ := hp38
        replace hF := q_uc hF hg40 (q_sc (.head _) (fun _ h => absurd h List.not_mem_nil))
        refine lv_goto (tgt := 85) hx hb d_8_8_71 (by decide) ?_
        refine lv_aload_n hx hb d_8_8_85 rfl (lv_at hl 1 rfl) ?_
        replace hO0 := (hg40 _ (q_nc n_O0_O4 List.not_mem_nil)).trans (hO0)
        refine q_get (ci := 4) (j := 2) (v := .ref qO4) C0 V i_Mil rfl rfl hO0 (by decide) w_117 rfl d_8_8_86 ?_
        refine q_goi V (q_runV (As := []) (rest := []) (d := 1) (mc := 0) (ms := 0) (ci := 2) C0 V rfl LV_Mil_85 (c_Big_bitLength l D g u39 kO4 qO4 qA15 hO4 _) rfl rfl hO4 rfl hl.1 rfl (Nat.le_of_ble_eq_true rfl) ⟨by decide, by decide⟩ ⟨Nat.le_of_ble_eq_true rfl, Nat.le_of_ble_eq_true rfl⟩ d_8_8_89) (fun v43 u42 H locs hp41 V => ?_)
        obtain ⟨rfl, rfl⟩ := hp41
        refine lv_iload_n hx hb d_8_8_92 rfl (lv_at hl 4 rfl) ?_
        refine lv_icmp_le (tgt := 98) hx hb d_8_8_93 (by decide) (fun c45 => ?_) (fun c45 => absurd (by decide) c45)
        refine lv_iinc (v := lx11 + (-1)) (lv' := [(4, .int (lx11 + (-1))), (0, .ref qO0), (1, .ref qO1), (2, .int x1), (3, .int 2048)]) hx hb d_8_8_98 hl (k := 0) rfl (rfl) (by decide) rfl (fun ls hl => ?_)
        refine lv_goto (tgt := 16) hx hb d_8_8_101 (by decide) ?_
        replace hA15 := (hg40 _ (q_nc n_A15_O4 List.not_mem_nil)).trans (hA15)
        replace hO1 := (hg40 _ (q_nc n_O1_O4 List.not_mem_nil)).trans (hO1)
        replace hO6 := (hg40 _ (q_nc n_O6_O4 List.not_mem_nil)).trans (hO6)
        replace hA17 := (hg40 _ (q_nc n_A17_O4 List.not_mem_nil)).trans ((hg23 _ (q_nc n_A17_O6 List.not_mem_nil)).trans (hA17))
        exact ih19 ((lx11 + (-1) : Int32), (0 : Int32), (lx13 : Nat → Int32), (0 : Int32), (lx15 : Nat → Int32)) _ _ _ _ (show ((lx11 + (-1) : Int32).toInt + 1).toNat < (lx11.toInt + 1).toNat from by have t1 : 0 ≤ lx11.toInt := q_nltI c20; have t2 : 0 ≤ y9.toInt := q_leI f7; have t3 : y9.toInt ≤ 63 := q_leI f8; have e0 : (lx11 + (-1) : Int32).toInt = (lx11.toInt + (-1)) := (q_addI (x := lx11.toInt) (y := (-1)) rfl (by decide) (by have t1 : 0 ≤ lx11.toInt := q_nltI c20; omega) (by have t1 : 0 ≤ lx11.toInt := q_nltI c20; omega)); have e1 : (0 : Int32).toInt = 0 := (by decide); have e3 : (0 : Int32).toInt = 0 := (by decide); omega) ⟨(show (-1) ≤ (lx11 + (-1) : Int32).toInt ∧ (lx11 + (-1) : Int32).toInt ≤ 62 from by have t1 : 0 ≤ lx11.toInt := q_nltI c20; have t2 : 0 ≤ y9.toInt := q_leI f7; have t3 : y9.toInt ≤ 63 := q_leI f8; have e0 : (lx11 + (-1) : Int32).toInt = (lx11.toInt + (-1)) := (q_addI (x := lx11.toInt) (y := (-1)) rfl (by decide) (by have t1 : 0 ≤ lx11.toInt := q_nltI c20; omega) (by have t1 : 0 ≤ lx11.toInt := q_nltI c20; omega)); have e1 : (0 : Int32).toInt = 0 := (by decide); have e3 : (0 : Int32).toInt = 0 := (by decide); omega), (Or.inl rfl), V, q_lw hl (q_lw1 0 rfl (q_lw1 1 rfl (q_lw1 2 rfl (q_lw1 3 rfl (q_lw1 4 rfl q_lw0))))), hF, hO0, hO1, hO4, hO6, hA15, hA17⟩
  ·
    refine lv_iload hx hb d_8_8_16 (lv_at hl 0 rfl) ?_
    refine lv_if_lt (tgt := 104) hx hb d_8_8_18 (by decide) (fun c46 => ?_) (fun c46 => ?_)
    ·
      refine lv_iconst (v := 1) hx hb d_8_8_104 (by decide) ?_
      exact q_retz C0 V (rfl) (Or.inr (⟨lx14, lx13, lx15, rfl, hF, hO4, hO6, hA15, hA17⟩)) d_8_8_105
    ·
      refine lv_aload_n hx hb d_8_8_21 rfl (lv_at hl 1 rfl) ?_
      refine q_get (ci := 4) (j := 4) (v := .ref qO6) C0 V i_Mil rfl rfl hO0 (by decide) w_123 rfl d_8_8_22 ?_
      refine lv_aload_n hx hb d_8_8_25 rfl (lv_at hl 1 rfl) ?_
      refine q_get (ci := 4) (j := 2) (v := .ref qO4) C0 V i_Mil rfl rfl hO0 (by decide) w_117 rfl d_8_8_26 ?_
      refine lv_aload_n hx hb d_8_8_29 rfl (lv_at hl 1 rfl) ?_
      refine q_get (ci := 4) (j := 2) (v := .ref qO4) C0 V i_Mil rfl rfl hO0 (by decide) w_117 rfl d_8_8_30 ?_
      refine q_gov V (q_runV (As := [.ref qO4, .ref qO4]) (rest := []) (d := 3) (mc := 0) (ms := 0) (ci := 2) C0 V rfl LV_Mil_47 (c_Big_product_4 l D g w16 kO6 kO4 kA17 kA15 qO6 qO4 qA17 qA15 lx14 lx15 lx13 hO6 hO4 hA17 hA15 n_A15_A17 n_O4_O6 _) rfl rfl hO6 rfl hl.1 rfl (Nat.le_of_ble_eq_true rfl) ⟨by decide, by decide⟩ ⟨Nat.le_of_ble_eq_true rfl, Nat.le_of_ble_eq_true rfl⟩ d_8_8_33) (fun u48 H locs hp47 V => ?_)
      obtain ⟨hg49, hO6, hA17⟩ := hp47
      replace hF := q_uc hF hg49 (q_sc (.tail _ (.head _)) (q_sc (List.mem_of_getElem? (i := 3) rfl) (fun _ h => absurd h List.not_mem_nil)))
      refine lv_aload_n hx hb d_8_8_36 rfl (lv_at hl 1 rfl) ?_
      replace hO0 := (hg49 _ (q_nc n_O0_O6 (q_nc n_O0_A17 List.not_mem_nil))).trans (hO0)
      refine q_get (ci := 4) (j := 4) (v := .ref qO6) C0 V i_Mil rfl rfl hO0 (by decide) w_123 rfl d_8_8_37 ?_
      refine q_goi V (q_runV (As := []) (rest := []) (d := 3) (mc := 0) (ms := 0) (ci := 2) C0 V rfl LV_Mil_85 (c_Big_bitLength_2 l D g u48 kO6 kA17 qO6 qA17 lx15 hO6 hA17 _) rfl rfl hO6 rfl hl.1 rfl (Nat.le_of_ble_eq_true rfl) ⟨by decide, by decide⟩ ⟨Nat.le_of_ble_eq_true rfl, Nat.le_of_ble_eq_true rfl⟩ d_8_8_40) (fun v52 u51 H locs hp50 V => ?_)
      obtain ⟨rfl, rfl⟩ := hp50
      refine lv_iload_n hx hb d_8_8_43 rfl (lv_at hl 4 rfl) ?_
      refine lv_icmp_le (tgt := 49) hx hb d_8_8_44 (by decide) (fun c54 => ?_) (fun c54 => absurd (by decide) c54)
      refine lv_iload_n hx hb d_8_8_49 rfl (lv_at hl 3 rfl) ?_
      refine lv_iload hx hb d_8_8_50 (lv_at hl 0 rfl) ?_
      refine lv_iushr hx hb d_8_8_52 rfl ?_
      refine lv_iconst (v := 1) hx hb d_8_8_53 (by decide) ?_
      refine lv_iand hx hb d_8_8_54 ?_
      refine lv_iconst (v := 1) hx hb d_8_8_55 (by decide) ?_
      refine lv_icmp_ne (tgt := 74) hx hb d_8_8_56 (by decide) (fun c55 => ?_) (fun c55 => ?_)
      ·
        refine lv_aload_n hx hb d_8_8_74 rfl (lv_at hl 1 rfl) ?_
        refine q_get (ci := 4) (j := 2) (v := .ref qO4) C0 V i_Mil rfl rfl hO0 (by decide) w_117 rfl d_8_8_75 ?_
        refine lv_aload_n hx hb d_8_8_78 rfl (lv_at hl 1 rfl) ?_
        refine q_get (ci := 4) (j := 4) (v := .ref qO6) C0 V i_Mil rfl rfl hO0 (by decide) w_123 rfl d_8_8_79 ?_
        replace hO4 := (hg49 _ (q_nc n_O4_O6 (q_nc n_O4_A17 List.not_mem_nil))).trans (hO4)
        replace hA15 := (hg49 _ (q_nc n_A15_O6 (q_nc n_A15_A17 List.not_mem_nil))).trans (hA15)
        refine q_gov V (q_runV (As := [.ref qO6]) (rest := []) (d := 2) (mc := 0) (ms := 0) (ci := 2) C0 V rfl LV_Mil_51 (c_Big_copy_7 l D g u48 kO4 kO6 kA15 kA17 qO4 qO6 qA15 qA17 lx13 lx15 hO4 hO6 hA15 hA17 n_A17_A15 n_O6_O4 _) rfl rfl hO4 rfl hl.1 rfl (Nat.le_of_ble_eq_true rfl) ⟨by decide, by decide⟩ ⟨Nat.le_of_ble_eq_true rfl, Nat.le_of_ble_eq_true rfl⟩ d_8_8_82) (fun u57 H locs hp56 V => ?_)
        obtain ⟨hg58, hO4, hA15⟩ := hp56
        replace hF := q_uc hF hg58 (q_sc (.head _) (q_sc (.tail _ (.tail _ (.head _))) (fun _ h => absurd h List.not_mem_nil)))
        refine lv_aload_n hx hb d_8_8_85 rfl (lv_at hl 1 rfl) ?_
        replace hO0 := (hg58 _ (q_nc n_O0_O4 (q_nc n_O0_A15 List.not_mem_nil))).trans (hO0)
        refine q_get (ci := 4) (j := 2) (v := .ref qO4) C0 V i_Mil rfl rfl hO0 (by decide) w_117 rfl d_8_8_86 ?_
        refine q_goi V (q_runV (As := []) (rest := []) (d := 3) (mc := 0) (ms := 0) (ci := 2) C0 V rfl LV_Mil_85 (c_Big_bitLength_3 l D g u57 kO4 kA15 qO4 qA15 lx13 hO4 hA15 _) rfl rfl hO4 rfl hl.1 rfl (Nat.le_of_ble_eq_true rfl) ⟨by decide, by decide⟩ ⟨Nat.le_of_ble_eq_true rfl, Nat.le_of_ble_eq_true rfl⟩ d_8_8_89) (fun v61 u60 H locs hp59 V => ?_)
        obtain ⟨rfl, rfl⟩ := hp59
        refine lv_iload_n hx hb d_8_8_92 rfl (lv_at hl 4 rfl) ?_
        refine lv_icmp_le (tgt := 98) hx hb d_8_8_93 (by decide) (fun c63 => ?_) (fun c63 => absurd (by decide) c63)
        refine lv_iinc (v := lx11 + (-1)) (lv' := [(4, .int (lx11 + (-1))), (0, .ref qO0), (1, .ref qO1), (2, .int x1), (3, .int 2048)]) hx hb d_8_8_98 hl (k := 0) rfl (rfl) (by decide) rfl (fun ls hl => ?_)
        refine lv_goto (tgt := 16) hx hb d_8_8_101 (by decide) ?_
        replace hO1 := (hg58 _ (q_nc n_O1_O4 (q_nc n_O1_A15 List.not_mem_nil))).trans ((hg49 _ (q_nc n_O1_O6 (q_nc n_O1_A17 List.not_mem_nil))).trans (hO1))
        replace hO6 := (hg58 _ (q_nc n_O6_O4 (q_nc n_O6_A15 List.not_mem_nil))).trans (hO6)
        replace hA17 := (hg58 _ (q_nc n_A17_O4 (q_nc n_A17_A15 List.not_mem_nil))).trans (hA17)
        exact ih19 ((lx11 + (-1) : Int32), (1 : Int32), (lx13 : Nat → Int32), (1 : Int32), (upd (upd lx15 0 1) 1 0 : Nat → Int32)) _ _ _ _ (show ((lx11 + (-1) : Int32).toInt + 1).toNat < (lx11.toInt + 1).toNat from by have t1 : 0 ≤ lx11.toInt := q_nltI c46; have t2 : 0 ≤ y9.toInt := q_leI f7; have t3 : y9.toInt ≤ 63 := q_leI f8; have e0 : (lx11 + (-1) : Int32).toInt = (lx11.toInt + (-1)) := (q_addI (x := lx11.toInt) (y := (-1)) rfl (by decide) (by have t1 : 0 ≤ lx11.toInt := q_nltI c46; omega) (by have t1 : 0 ≤ lx11.toInt := q_nltI c46; omega)); have e1 : (1 : Int32).toInt = 1 := (by decide); have e3 : (1 : Int32).toInt = 1 := (by decide); omega) ⟨(show (-1) ≤ (lx11 + (-1) : Int32).toInt ∧ (lx11 + (-1) : Int32).toInt ≤ 62 from by have t1 : 0 ≤ lx11.toInt := q_nltI c46; have t2 : 0 ≤ y9.toInt := q_leI f7; have t3 : y9.toInt ≤ 63 := q_leI f8; have e0 : (lx11 + (-1) : Int32).toInt = (lx11.toInt + (-1)) := (q_addI (x := lx11.toInt) (y := (-1)) rfl (by decide) (by have t1 : 0 ≤ lx11.toInt := q_nltI c46; omega) (by have t1 : 0 ≤ lx11.toInt := q_nltI c46; omega)); have e1 : (1 : Int32).toInt = 1 := (by decide); have e3 : (1 : Int32).toInt = 1 := (by decide); omega), (Or.inr rfl), V, q_lw hl (q_lw1 0 rfl (q_lw1 1 rfl (q_lw1 2 rfl (q_lw1 3 rfl (q_lw1 4 rfl q_lw0))))), hF, hO0, hO1, hO4, hO6, hA15, hA17⟩
      ·
        refine lv_aload_n hx hb d_8_8_59 rfl (lv_at hl 1 rfl) ?_
        refine q_get (ci := 4) (j := 2) (v := .ref qO4) C0 V i_Mil rfl rfl hO0 (by decide) w_117 rfl d_8_8_60 ?_
        refine lv_aload_n hx hb d_8_8_63 rfl (lv_at hl 1 rfl) ?_
        refine q_get (ci := 4) (j := 4) (v := .ref qO6) C0 V i_Mil rfl rfl hO0 (by decide) w_123 rfl d_8_8_64 ?_
        refine lv_aload_n hx hb d_8_8_67 rfl (lv_at hl 2 rfl) ?_
        replace hO4 := (hg49 _ (q_nc n_O4_O6 (q_nc n_O4_A17 List.not_mem_nil))).trans (hO4)
        replace hO1 := (hg49 _ (q_nc n_O1_O6 (q_nc n_O1_A17 List.not_mem_nil))).trans (hO1)
        replace hA15 := (hg49 _ (q_nc n_A15_O6 (q_nc n_A15_A17 List.not_mem_nil))).trans (hA15)
        refine q_gov V (q_runV (As := [.ref qO6, .ref qO1]) (rest := []) (d := 3) (mc := 0) (ms := 0) (ci := 2) C0 V rfl LV_Mil_47 (c_Big_product_5 l D g u48 kO4 kO6 kO1 kA15 kA17 qO4 qO6 qO1 qA15 qA17 qA12 lx13 lx15 hO4 hO6 hO1 hA15 hA17 n_A17_A15 n_O6_O4 n_O1_O4 _) rfl rfl hO4 rfl hl.1 rfl (Nat.le_of_ble_eq_true rfl) ⟨by decide, by decide⟩ ⟨Nat.le_of_ble_eq_true rfl, Nat.le_of_ble_eq_true rfl⟩ d_8_8_68) (fun u65 H locs hp64 V => ?_)
        obtain ⟨hg66, hO4, hA15⟩ := hp64
        replace hF := q_uc hF hg66 (q_sc (.head _) (q_sc (.tail _ (.tail _ (.head _))) (fun _ h => absurd h List.not_mem_nil)))
        refine lv_goto (tgt := 85) hx hb d_8_8_71 (by decide) ?_
        refine lv_aload_n hx hb d_8_8_85 rfl (lv_at hl 1 rfl) ?_
        replace hO0 := (hg66 _ (q_nc n_O0_O4 (q_nc n_O0_A15 List.not_mem_nil))).trans (hO0)
        refine q_get (ci := 4) (j := 2) (v := .ref qO4) C0 V i_Mil rfl rfl hO0 (by decide) w_117 rfl d_8_8_86 ?_
        refine q_goi V (q_runV (As := []) (rest := []) (d := 1) (mc := 0) (ms := 0) (ci := 2) C0 V rfl LV_Mil_85 (c_Big_bitLength l D g u65 kO4 qO4 qA15 hO4 _) rfl rfl hO4 rfl hl.1 rfl (Nat.le_of_ble_eq_true rfl) ⟨by decide, by decide⟩ ⟨Nat.le_of_ble_eq_true rfl, Nat.le_of_ble_eq_true rfl⟩ d_8_8_89) (fun v69 u68 H locs hp67 V => ?_)
        obtain ⟨rfl, rfl⟩ := hp67
        refine lv_iload_n hx hb d_8_8_92 rfl (lv_at hl 4 rfl) ?_
        refine lv_icmp_le (tgt := 98) hx hb d_8_8_93 (by decide) (fun c71 => ?_) (fun c71 => absurd (by decide) c71)
        refine lv_iinc (v := lx11 + (-1)) (lv' := [(4, .int (lx11 + (-1))), (0, .ref qO0), (1, .ref qO1), (2, .int x1), (3, .int 2048)]) hx hb d_8_8_98 hl (k := 0) rfl (rfl) (by decide) rfl (fun ls hl => ?_)
        refine lv_goto (tgt := 16) hx hb d_8_8_101 (by decide) ?_
        replace hO1 := (hg66 _ (q_nc n_O1_O4 (q_nc n_O1_A15 List.not_mem_nil))).trans (hO1)
        replace hO6 := (hg66 _ (q_nc n_O6_O4 (q_nc n_O6_A15 List.not_mem_nil))).trans (hO6)
        replace hA17 := (hg66 _ (q_nc n_A17_O4 (q_nc n_A17_A15 List.not_mem_nil))).trans (hA17)
        exact ih19 ((lx11 + (-1) : Int32), (0 : Int32), (lx13 : Nat → Int32), (1 : Int32), (upd (upd lx15 0 1) 1 0 : Nat → Int32)) _ _ _ _ (show ((lx11 + (-1) : Int32).toInt + 1).toNat < (lx11.toInt + 1).toNat from by have t1 : 0 ≤ lx11.toInt := q_nltI c46; have t2 : 0 ≤ y9.toInt := q_leI f7; have t3 : y9.toInt ≤ 63 := q_leI f8; have e0 : (lx11 + (-1) : Int32).toInt = (lx11.toInt + (-1)) := (q_addI (x := lx11.toInt) (y := (-1)) rfl (by decide) (by have t1 : 0 ≤ lx11.toInt := q_nltI c46; omega) (by have t1 : 0 ≤ lx11.toInt := q_nltI c46; omega)); have e1 : (0 : Int32).toInt = 0 := (by decide); have e3 : (1 : Int32).toInt = 1 := (by decide); omega) ⟨(show (-1) ≤ (lx11 + (-1) : Int32).toInt ∧ (lx11 + (-1) : Int32).toInt ≤ 62 from by have t1 : 0 ≤ lx11.toInt := q_nltI c46; have t2 : 0 ≤ y9.toInt := q_leI f7; have t3 : y9.toInt ≤ 63 := q_leI f8; have e0 : (lx11 + (-1) : Int32).toInt = (lx11.toInt + (-1)) := (q_addI (x := lx11.toInt) (y := (-1)) rfl (by decide) (by have t1 : 0 ≤ lx11.toInt := q_nltI c46; omega) (by have t1 : 0 ≤ lx11.toInt := q_nltI c46; omega)); have e1 : (0 : Int32).toInt = 0 := (by decide); have e3 : (1 : Int32).toInt = 1 := (by decide); omega), (Or.inl rfl), V, q_lw hl (q_lw1 0 rfl (q_lw1 1 rfl (q_lw1 2 rfl (q_lw1 3 rfl (q_lw1 4 rfl q_lw0))))), hF, hO0, hO1, hO4, hO6, hA15, hA17⟩
set_option maxRecDepth 100000 in
set_option maxHeartbeats 4000000 in
theorem c_Big_copy_8 (l : Launch) (D : va_G) (g : Nat → ClassId) (ws : va_W) (kO0 kO1 kA2 kA3 qO0 qO1 qA2 qA3 : Nat) (f1 : Nat → Int32) (hO0 : ws[kO0]? = (some (qO0, .inr (2, [.ref qA2, .int 0, .int 0])) : Option (Nat × va_E))) (hO1 : ws[kO1]? = (some (qO1, .inr (2, [.ref qA3, .int 0, .int 0])) : Option (Nat × va_E))) (hA2 : ws[kA2]? = (some (qA2, .inl (g 0, 220, .inl (fun _ => 0))) : Option (Nat × va_E))) (hA3 : ws[kA3]? = (some (qA3, .inl (g 0, 220, .inl (upd f1 0 0))) : Option (Nat × va_E))) (n_A3_A2 : kA3 ≠ kA2) (n_O1_O0 : kO1 ≠ kO0) : q_mV l y_Big_copy prog_2_method_4_code 2 2 0 0 D g [.ref qO0, .ref qO1] ws (fun u => q_un ws u [kO0, kA2] ∧ u[kO0]? = (some (qO0, .inr (2, [.ref qA2, .int 0, .int 0])) : Option (Nat × va_E)) ∧ u[kA2]? = (some (qA2, .inl (g 0, 220, .inl (fun _ => 0))) : Option (Nat × va_E))) := by
  intro sz
  refine q_into (by decide) (Nat.le_of_ble_eq_true rfl) ?_
  intro p e s m below meth c ls hsz C0 V hl
  have hx := C0.1
  have hb := C0.2.1
  have hl : lv_has ls 2 [(0, .ref qO0), (1, .ref qO1)] := hl
  have n_A2_O0 := q_df hA2 hO0
  have n_A3_O0 := q_df hA3 hO0
  have n_O0_A2 := Ne.symm (q_df hA2 hO0)
  have n_O1_A2 := Ne.symm (q_df hA2 hO1)
  have hF : q_un ws ws [kO0, kA2] := q_u0
  refine lv_aload_n hx hb d_2_4_0 rfl (lv_at hl 0 rfl) ?_
  refine lv_aload_n hx hb d_2_4_1 rfl (lv_at hl 1 rfl) ?_
  refine q_get (ci := 2) (j := 1) (v := .int 0) C0 V i_Big rfl rfl hO1 (by decide) w_85 rfl d_2_4_2 ?_
  refine lv_aload_n hx hb d_2_4_5 rfl (lv_at hl 0 rfl) ?_
  refine q_get (ci := 2) (j := 0) (v := .ref qA2) C0 V i_Big rfl rfl hO0 (by decide) w_84 rfl d_2_4_6 ?_
  refine q_alen (t := 0) (v := 220) C0 V hA2 rfl (by first | rfl | decide) d_2_4_9 ?_
  refine q_min C0 hl.1 rfl w_773 w_774 w_7 w_775 ⟨Nat.le_of_ble_eq_true rfl, Nat.le_of_ble_eq_true rfl⟩ ⟨Nat.le_of_ble_eq_true rfl, Nat.le_of_ble_eq_true rfl⟩ d_2_4_10 ?_
  refine q_ti (v := 0) (by decide) ?_
  refine q_put (ci := 2) (j := 1) (v := .int 0) (ty := .int) C0 V i_Big o_Big n_Big rfl rfl hO0 (by decide) w_85 rfl rfl rfl rfl (Nat.le_of_ble_eq_true rfl) d_2_4_13 (fun H locs w1 hu2 hO0 V => ?_)
  replace hO0 : w1[kO0]? = (some (qO0, .inr (2, [.ref qA2, .int 0, .int 0])) : Option (Nat × va_E)) := hO0
  replace hF := q_us hF hu2 (.head _)
  refine lv_aload_n hx hb d_2_4_16 rfl (lv_at hl 1 rfl) ?_
  replace hO1 := (hu2 _ n_O1_O0).trans (hO1)
  refine q_get (ci := 2) (j := 0) (v := .ref qA3) C0 V i_Big rfl rfl hO1 (by decide) w_84 rfl d_2_4_17 ?_
  refine lv_iconst (v := 0) hx hb d_2_4_20 (by decide) ?_
  refine lv_aload_n hx hb d_2_4_21 rfl (lv_at hl 0 rfl) ?_
  refine q_get (ci := 2) (j := 0) (v := .ref qA2) C0 V i_Big rfl rfl hO0 (by decide) w_84 rfl d_2_4_22 ?_
  refine lv_iconst (v := 0) hx hb d_2_4_25 (by decide) ?_
  refine lv_aload_n hx hb d_2_4_26 rfl (lv_at hl 0 rfl) ?_
  refine q_get (ci := 2) (j := 1) (v := .int 0) C0 V i_Big rfl rfl hO0 (by decide) w_85 rfl d_2_4_27 ?_
  replace hA3 := (hu2 _ n_A3_O0).trans (hA3)
  replace hA2 := (hu2 _ n_A2_O0).trans (hA2)
  refine q_copy C0 V hl.1 rfl w_791 w_793 w_792 w_29 hA3 hA2 (by decide) (by decide) (by decide) (by decide) (by decide) ⟨Nat.le_of_ble_eq_true rfl, Nat.le_of_ble_eq_true rfl⟩ d_2_4_30 (fun H locs w3 hu4 hA2 V => ?_)
  replace hA2 := q_re (y := (qA2, .inl (g 0, 220, .inl (fun _ => 0)))) hA2 (q_eI q_cpy0)
  replace hA2 : w3[kA2]? = (some (qA2, .inl (g 0, 220, .inl (fun _ => 0))) : Option (Nat × va_E)) := hA2
  replace hF := q_us hF hu4 (.tail _ (.head _))
  refine lv_aload_n hx hb d_2_4_33 rfl (lv_at hl 0 rfl) ?_
  refine lv_aload_n hx hb d_2_4_34 rfl (lv_at hl 1 rfl) ?_
  replace hO1 := (hu4 _ n_O1_A2).trans (hO1)
  refine q_get (ci := 2) (j := 2) (v := .int 0) C0 V i_Big rfl rfl hO1 (by decide) w_94 rfl d_2_4_35 ?_
  replace hO0 := (hu4 _ n_O0_A2).trans (hO0)
  refine q_put (ci := 2) (j := 2) (v := .int 0) (ty := .boolean) C0 V i_Big o_Big n_Big rfl rfl hO0 (by decide) w_94 rfl rfl rfl rfl (Nat.le_of_ble_eq_true rfl) d_2_4_38 (fun H locs w5 hu6 hO0 V => ?_)
  replace hO0 : w5[kO0]? = (some (qO0, .inr (2, [.ref qA2, .int 0, .int 0])) : Option (Nat × va_E)) := hO0
  replace hF := q_us hF hu6 (.head _)
  replace hA2 := (hu6 _ n_A2_O0).trans (hA2)
  exact q_retv C0 V (⟨hF, hO0, hA2⟩) d_2_4_41
set_option maxRecDepth 100000 in
set_option maxHeartbeats 4000000 in
theorem c_Big_copy_9 (l : Launch) (D : va_G) (g : Nat → ClassId) (ws : va_W) (kO0 kO1 kA2 kA3 qO0 qO1 qA2 qA3 : Nat) (f1 : Nat → Int32) (hO0 : ws[kO0]? = (some (qO0, .inr (2, [.ref qA2, .int 0, .int 0])) : Option (Nat × va_E))) (hO1 : ws[kO1]? = (some (qO1, .inr (2, [.ref qA3, .int 1, .int 0])) : Option (Nat × va_E))) (hA2 : ws[kA2]? = (some (qA2, .inl (g 0, 220, .inl (fun _ => 0))) : Option (Nat × va_E))) (hA3 : ws[kA3]? = (some (qA3, .inl (g 0, 220, .inl (upd f1 0 1))) : Option (Nat × va_E))) (n_A3_A2 : kA3 ≠ kA2) (n_O1_O0 : kO1 ≠ kO0) : q_mV l y_Big_copy prog_2_method_4_code 2 2 0 0 D g [.ref qO0, .ref qO1] ws (fun u => q_un ws u [kO0, kA2] ∧ u[kO0]? = (some (qO0, .inr (2, [.ref qA2, .int 1, .int 0])) : Option (Nat × va_E)) ∧ u[kA2]? = (some (qA2, .inl (g 0, 220, .inl (upd (fun _ => 0) 0 1))) : Option (Nat × va_E))) := by
  intro sz
  refine q_into (by decide) (Nat.le_of_ble_eq_true rfl) ?_
  intro p e s m below meth c ls hsz C0 V hl
  have hx := C0.1
  have hb := C0.2.1
  have hl : lv_has ls 2 [(0, .ref qO0), (1, .ref qO1)] := hl
  have n_A2_O0 := q_df hA2 hO0
  have n_A3_O0 := q_df hA3 hO0
  have n_O0_A2 := Ne.symm (q_df hA2 hO0)
  have n_O1_A2 := Ne.symm (q_df hA2 hO1)
  have hF : q_un ws ws [kO0, kA2] := q_u0
  refine lv_aload_n hx hb d_2_4_0 rfl (lv_at hl 0 rfl) ?_
  refine lv_aload_n hx hb d_2_4_1 rfl (lv_at hl 1 rfl) ?_
  refine q_get (ci := 2) (j := 1) (v := .int 1) C0 V i_Big rfl rfl hO1 (by decide) w_85 rfl d_2_4_2 ?_
  refine lv_aload_n hx hb d_2_4_5 rfl (lv_at hl 0 rfl) ?_
  refine q_get (ci := 2) (j := 0) (v := .ref qA2) C0 V i_Big rfl rfl hO0 (by decide) w_84 rfl d_2_4_6 ?_
  refine q_alen (t := 0) (v := 220) C0 V hA2 rfl (by first | rfl | decide) d_2_4_9 ?_
  refine q_min C0 hl.1 rfl w_773 w_774 w_7 w_775 ⟨Nat.le_of_ble_eq_true rfl, Nat.le_of_ble_eq_true rfl⟩ ⟨Nat.le_of_ble_eq_true rfl, Nat.le_of_ble_eq_true rfl⟩ d_2_4_10 ?_
  refine q_ti (v := 1) (by decide) ?_
  refine q_put (ci := 2) (j := 1) (v := .int 1) (ty := .int) C0 V i_Big o_Big n_Big rfl rfl hO0 (by decide) w_85 rfl rfl rfl rfl (Nat.le_of_ble_eq_true rfl) d_2_4_13 (fun H locs w1 hu2 hO0 V => ?_)
  replace hO0 : w1[kO0]? = (some (qO0, .inr (2, [.ref qA2, .int 1, .int 0])) : Option (Nat × va_E)) := hO0
  replace hF := q_us hF hu2 (.head _)
  refine lv_aload_n hx hb d_2_4_16 rfl (lv_at hl 1 rfl) ?_
  replace hO1 := (hu2 _ n_O1_O0).trans (hO1)
  refine q_get (ci := 2) (j := 0) (v := .ref qA3) C0 V i_Big rfl rfl hO1 (by decide) w_84 rfl d_2_4_17 ?_
  refine lv_iconst (v := 0) hx hb d_2_4_20 (by decide) ?_
  refine lv_aload_n hx hb d_2_4_21 rfl (lv_at hl 0 rfl) ?_
  refine q_get (ci := 2) (j := 0) (v := .ref qA2) C0 V i_Big rfl rfl hO0 (by decide) w_84 rfl d_2_4_22 ?_
  refine lv_iconst (v := 0) hx hb d_2_4_25 (by decide) ?_
  refine lv_aload_n hx hb d_2_4_26 rfl (lv_at hl 0 rfl) ?_
  refine q_get (ci := 2) (j := 1) (v := .int 1) C0 V i_Big rfl rfl hO0 (by decide) w_85 rfl d_2_4_27 ?_
  replace hA3 := (hu2 _ n_A3_O0).trans (hA3)
  replace hA2 := (hu2 _ n_A2_O0).trans (hA2)
  refine q_copy C0 V hl.1 rfl w_791 w_793 w_792 w_29 hA3 hA2 (by decide) (by decide) (by decide) (by decide) (by decide) ⟨Nat.le_of_ble_eq_true rfl, Nat.le_of_ble_eq_true rfl⟩ d_2_4_30 (fun H locs w3 hu4 hA2 V => ?_)
  replace hA2 := q_re (y := (qA2, .inl (g 0, 220, .inl (upd (fun _ => 0) 0 1)))) hA2 (q_eI (q_cpy1.trans (by funext k; simp only [upd]; (repeat' split) <;> first | rfl | omega | simp_all)))
  replace hA2 : w3[kA2]? = (some (qA2, .inl (g 0, 220, .inl (upd (fun _ => 0) 0 1))) : Option (Nat × va_E)) := hA2
  replace hF := q_us hF hu4 (.tail _ (.head _))
  refine lv_aload_n hx hb d_2_4_33 rfl (lv_at hl 0 rfl) ?_
  refine lv_aload_n hx hb d_2_4_34 rfl (lv_at hl 1 rfl) ?_
  replace hO1 := (hu4 _ n_O1_A2).trans (hO1)
  refine q_get (ci := 2) (j := 2) (v := .int 0) C0 V i_Big rfl rfl hO1 (by decide) w_94 rfl d_2_4_35 ?_
  replace hO0 := (hu4 _ n_O0_A2).trans (hO0)
  refine q_put (ci := 2) (j := 2) (v := .int 0) (ty := .boolean) C0 V i_Big o_Big n_Big rfl rfl hO0 (by decide) w_94 rfl rfl rfl rfl (Nat.le_of_ble_eq_true rfl) d_2_4_38 (fun H locs w5 hu6 hO0 V => ?_)
  replace hO0 : w5[kO0]? = (some (qO0, .inr (2, [.ref qA2, .int 1, .int 0])) : Option (Nat × va_E)) := hO0
  replace hF := q_us hF hu6 (.head _)
  replace hA2 := (hu6 _ n_A2_O0).trans (hA2)
  exact q_retv C0 V (⟨hF, hO0, hA2⟩) d_2_4_41
set_option maxRecDepth 100000 in
set_option maxHeartbeats 4000000 in
theorem c_Big_copy_10 (l : Launch) (D : va_G) (g : Nat → ClassId) (ws : va_W) (kO0 kO1 kA2 kA3 qO0 qO1 qA2 qA3 : Nat) (hO0 : ws[kO0]? = (some (qO0, .inr (2, [.ref qA2, .int 0, .int 0])) : Option (Nat × va_E))) (hO1 : ws[kO1]? = (some (qO1, .inr (2, [.ref qA3, .int 1, .int 0])) : Option (Nat × va_E))) (hA2 : ws[kA2]? = (some (qA2, .inl (g 0, 68, .inl (fun _ => 0))) : Option (Nat × va_E))) (hA3 : ws[kA3]? = (some (qA3, .inl (g 0, 220, .inl (upd (fun _ => 0) 0 1))) : Option (Nat × va_E))) (n_A3_A2 : kA3 ≠ kA2) (n_O1_O0 : kO1 ≠ kO0) : q_mV l y_Big_copy prog_2_method_4_code 2 2 0 0 D g [.ref qO0, .ref qO1] ws (fun u => q_un ws u [kO0, kA2] ∧ u[kO0]? = (some (qO0, .inr (2, [.ref qA2, .int 1, .int 0])) : Option (Nat × va_E)) ∧ u[kA2]? = (some (qA2, .inl (g 0, 68, .inl (upd (fun _ => 0) 0 1))) : Option (Nat × va_E))) := by
  intro sz
  refine q_into (by decide) (Nat.le_of_ble_eq_true rfl) ?_
  intro p e s m below meth c ls hsz C0 V hl
  have hx := C0.1
  have hb := C0.2.1
  have hl : lv_has ls 2 [(0, .ref qO0), (1, .ref qO1)] := hl
  have n_A2_O0 := q_df hA2 hO0
  have n_A3_O0 := q_df hA3 hO0
  have n_O0_A2 := Ne.symm (q_df hA2 hO0)
  have n_O1_A2 := Ne.symm (q_df hA2 hO1)
  have hF : q_un ws ws [kO0, kA2] := q_u0
  refine lv_aload_n hx hb d_2_4_0 rfl (lv_at hl 0 rfl) ?_
  refine lv_aload_n hx hb d_2_4_1 rfl (lv_at hl 1 rfl) ?_
  refine q_get (ci := 2) (j := 1) (v := .int 1) C0 V i_Big rfl rfl hO1 (by decide) w_85 rfl d_2_4_2 ?_
  refine lv_aload_n hx hb d_2_4_5 rfl (lv_at hl 0 rfl) ?_
  refine q_get (ci := 2) (j := 0) (v := .ref qA2) C0 V i_Big rfl rfl hO0 (by decide) w_84 rfl d_2_4_6 ?_
  refine q_alen (t := 0) (v := 68) C0 V hA2 rfl (by first | rfl | decide) d_2_4_9 ?_
  refine q_min C0 hl.1 rfl w_773 w_774 w_7 w_775 ⟨Nat.le_of_ble_eq_true rfl, Nat.le_of_ble_eq_true rfl⟩ ⟨Nat.le_of_ble_eq_true rfl, Nat.le_of_ble_eq_true rfl⟩ d_2_4_10 ?_
  refine q_ti (v := 1) (by decide) ?_
  refine q_put (ci := 2) (j := 1) (v := .int 1) (ty := .int) C0 V i_Big o_Big n_Big rfl rfl hO0 (by decide) w_85 rfl rfl rfl rfl (Nat.le_of_ble_eq_true rfl) d_2_4_13 (fun H locs w1 hu2 hO0 V => ?_)
  replace hO0 : w1[kO0]? = (some (qO0, .inr (2, [.ref qA2, .int 1, .int 0])) : Option (Nat × va_E)) := hO0
  replace hF := q_us hF hu2 (.head _)
  refine lv_aload_n hx hb d_2_4_16 rfl (lv_at hl 1 rfl) ?_
  replace hO1 := (hu2 _ n_O1_O0).trans (hO1)
  refine q_get (ci := 2) (j := 0) (v := .ref qA3) C0 V i_Big rfl rfl hO1 (by decide) w_84 rfl d_2_4_17 ?_
  refine lv_iconst (v := 0) hx hb d_2_4_20 (by decide) ?_
  refine lv_aload_n hx hb d_2_4_21 rfl (lv_at hl 0 rfl) ?_
  refine q_get (ci := 2) (j := 0) (v := .ref qA2) C0 V i_Big rfl rfl hO0 (by decide) w_84 rfl d_2_4_22 ?_
  refine lv_iconst (v := 0) hx hb d_2_4_25 (by decide) ?_
  refine lv_aload_n hx hb d_2_4_26 rfl (lv_at hl 0 rfl) ?_
  refine q_get (ci := 2) (j := 1) (v := .int 1) C0 V i_Big rfl rfl hO0 (by decide) w_85 rfl d_2_4_27 ?_
  replace hA3 := (hu2 _ n_A3_O0).trans (hA3)
  replace hA2 := (hu2 _ n_A2_O0).trans (hA2)
  refine q_copy C0 V hl.1 rfl w_791 w_793 w_792 w_29 hA3 hA2 (by decide) (by decide) (by decide) (by decide) (by decide) ⟨Nat.le_of_ble_eq_true rfl, Nat.le_of_ble_eq_true rfl⟩ d_2_4_30 (fun H locs w3 hu4 hA2 V => ?_)
  replace hA2 := q_re (y := (qA2, .inl (g 0, 68, .inl (upd (fun _ => 0) 0 1)))) hA2 (q_eI (q_cpy1.trans (by funext k; simp only [upd]; (repeat' split) <;> first | rfl | omega | simp_all)))
  replace hA2 : w3[kA2]? = (some (qA2, .inl (g 0, 68, .inl (upd (fun _ => 0) 0 1))) : Option (Nat × va_E)) := hA2
  replace hF := q_us hF hu4 (.tail _ (.head _))
  refine lv_aload_n hx hb d_2_4_33 rfl (lv_at hl 0 rfl) ?_
  refine lv_aload_n hx hb d_2_4_34 rfl (lv_at hl 1 rfl) ?_
  replace hO1 := (hu4 _ n_O1_A2).trans (hO1)
  refine q_get (ci := 2) (j := 2) (v := .int 0) C0 V i_Big rfl rfl hO1 (by decide) w_94 rfl d_2_4_35 ?_
  replace hO0 := (hu4 _ n_O0_A2).trans (hO0)
  refine q_put (ci := 2) (j := 2) (v := .int 0) (ty := .boolean) C0 V i_Big o_Big n_Big rfl rfl hO0 (by decide) w_94 rfl rfl rfl rfl (Nat.le_of_ble_eq_true rfl) d_2_4_38 (fun H locs w5 hu6 hO0 V => ?_)
  replace hO0 : w5[kO0]? = (some (qO0, .inr (2, [.ref qA2, .int 1, .int 0])) : Option (Nat × va_E)) := hO0
  replace hF := q_us hF hu6 (.head _)
  replace hA2 := (hu6 _ n_A2_O0).trans (hA2)
  exact q_retv C0 V (⟨hF, hO0, hA2⟩) d_2_4_41
set_option maxRecDepth 100000 in
set_option maxHeartbeats 4000000 in
theorem c_NH_keepWhole_2 (l : Launch) (D : va_G) (g : Nat → ClassId) (ws : va_W) (hlt : l.stackTraces = false) ( qO0 qO1 qO2 qA3 qA4 qA5 qA6 qO7 qO8 qO9 qO10 qO11 qO12 qO13 qO14 qO17 qO18 qO19 qO20 qO21 qO22 qO23 qO24 qO25 qO26 qA35 : Nat) (x1 : Int32) (f2 : Nat → Option Nat) (hO0 : ws[0]? = (some (qO0, .inr (0, [.ref qO1, .ref qO2, .ref qA3, .ref qA4, .ref qA5, .ref qA6, .ref qO7, .ref qO8, .ref qO9, .ref qO10, .ref qO11, .ref qO12, .ref qO13, .ref qO14])) : Option (Nat × va_E))) (hA3 : ws[5]? = (some (qA3, .inl (g 4, 10, .inr (.inr (.inr (.inr f2))))) : Option (Nat × va_E))) (hO7 : ws[9]? = (some (qO7, .inr (4, [.ref qO17, .ref qO18, .ref qO19, .ref qO20, .ref qO21, .ref qO22, .ref qO23, .ref qO24, .ref qO25, .ref qO26])) : Option (Nat × va_E))) (hO17 : ws[10]? = (some (qO17, .inr (2, [.ref qA35, .int 1, .int 0])) : Option (Nat × va_E))) (hA35 : ws[11]? = (some (qA35, .inl (g 0, 220, .inl (upd (fun _ => 0) 0 1))) : Option (Nat × va_E))) (x1lo : 0 ≤ x1) (x1hi : x1 ≤ 9) (qW qWL qD qDN qDL : Nat → Nat) (hfW : ∀ i, i < 10 → f2 i = some (qW i)) (FW : ∀ i, i < 10 → ws[66 + 5 * i]? = (some (qW i, .inr (2, [.ref (qWL i), .int 0, .int 0])) : Option (Nat × va_E))) (FWL : ∀ i, i < 10 → ws[67 + 5 * i]? = (some (qWL i, .inl (g 0, 68, .inl (fun _ => 0))) : Option (Nat × va_E))) : q_mV l y_NH_keepWhole prog_1_method_28_code 2 8 1 6 D g [.ref qO0, .int x1] ws (fun u => q_ge 116 ws u) := by
  intro sz
  refine q_into (by decide) (Nat.le_of_ble_eq_true rfl) ?_
  intro p e s m below meth c ls hsz C0 V hl
  have hx := C0.1
  have hb := C0.2.1
  have hl : lv_has ls 2 [(0, .ref qO0), (1, .int x1)] := hl
  have hF : q_ge 116 ws ws := q_g0
  refine lv_aload_n hx hb d_1_28_0 rfl (lv_at hl 0 rfl) ?_
  refine q_get (ci := 0) (j := 6) (v := .ref qO7) C0 V i_NH rfl rfl hO0 (by decide) w_430 rfl d_1_28_1 ?_
  refine q_get (ci := 4) (j := 0) (v := .ref qO17) C0 V i_Mil rfl rfl hO7 (by decide) w_112 rfl d_1_28_4 ?_
  refine q_goi V (q_runV (As := []) (rest := []) (d := 3) (mc := 0) (ms := 0) (ci := 2) C0 V rfl LV_NH_424 (c_Big_bitLength_3 l D g ws 10 11 qO17 qA35 (fun _ => 0) hO17 hA35 _) rfl rfl hO17 rfl hl.1 rfl (Nat.le_of_ble_eq_true rfl) ⟨by decide, by decide⟩ ⟨Nat.le_of_ble_eq_true rfl, Nat.le_of_ble_eq_true rfl⟩ d_1_28_7) (fun v3 u2 H locs hp1 V => ?_)
  obtain ⟨rfl, rfl⟩ := hp1
  refine lv_sipush (v := 2048) hx hb d_1_28_10 (by decide) ?_
  refine lv_icmp_gt (tgt := 20) hx hb d_1_28_13 (by decide) (fun c5 => absurd c5 (by decide)) (fun c5 => ?_)
  refine lv_iconst (v := 1) hx hb d_1_28_16 (by decide) ?_
  refine lv_goto (tgt := 21) hx hb d_1_28_17 (by decide) ?_
  refine q_goxv V (q_runSX (As := [.int 1]) (rest := []) (d := 7) (mc := 1) (ms := 6) C0 V rfl LS_NH_138 (c_NH_canHave l D g ws hlt 1 _) rfl hl.1 rfl (Nat.le_of_ble_eq_true rfl) ⟨by decide, by decide⟩ ⟨Nat.le_of_ble_eq_true rfl, Nat.le_of_ble_eq_true rfl⟩ d_1_28_21) (fun qx Ex ce u7 H locs hp6 V hce hcv hcl => ?_) (fun u7 H locs hp6 V => ?_)
  ·
    obtain ⟨c8, rfl, rfl⟩ := hp6
    exact absurd c8 (by decide)
  ·
    obtain ⟨c10, rfl⟩ := hp6
    refine lv_aload_n hx hb d_1_28_24 rfl (lv_at hl 0 rfl) ?_
    refine q_get (ci := 0) (j := 2) (v := .ref qA3) C0 V i_NH rfl rfl hO0 (by decide) w_426 rfl d_1_28_25 ?_
    refine lv_iload_n hx hb d_1_28_28 rfl (lv_at hl 1 rfl) ?_
    have r12 : x1.toNatClampNeg < 10 := (q_r10 (x := x1.toInt) rfl (by have t1 : 0 ≤ x1.toInt := q_leI x1lo; have t2 : x1.toInt ≤ 9 := q_leI x1hi; omega) (by have t1 : 0 ≤ x1.toInt := q_leI x1lo; have t2 : x1.toInt ≤ 9 := q_leI x1hi; omega))
    have hr13 : ws[66 + 5 * x1.toNatClampNeg]? = (some (qW x1.toNatClampNeg, .inr (2, [.ref (qWL x1.toNatClampNeg), .int 0, .int 0])) : Option (Nat × va_E)) := FW _ r12
    have hr14 : ws[67 + 5 * x1.toNatClampNeg]? = (some (qWL x1.toNatClampNeg, .inl (g 0, 68, .inl (fun _ => 0))) : Option (Nat × va_E)) := FWL _ r12
    have hh : x1.toNatClampNeg < 10 := (q_r10 (x := x1.toInt) rfl (by have t1 : 0 ≤ x1.toInt := q_leI x1lo; have t2 : x1.toInt ≤ 9 := q_leI x1hi; omega) (by have t1 : 0 ≤ x1.toInt := q_leI x1lo; have t2 : x1.toInt ≤ 9 := q_leI x1hi; omega))
    refine q_aald (t := 4) (q := qW x1.toNatClampNeg) C0 V hA3 rfl (q_ix (x := x1.toInt) rfl (by have t1 : 0 ≤ x1.toInt := q_leI x1lo; have t2 : x1.toInt ≤ 9 := q_leI x1hi; omega) (by have t1 : 0 ≤ x1.toInt := q_leI x1lo; have t2 : x1.toInt ≤ 9 := q_leI x1hi; omega)) (hfW _ hh) d_1_28_29 ?_
    refine lv_aload_n hx hb d_1_28_30 rfl (lv_at hl 0 rfl) ?_
    refine q_get (ci := 0) (j := 6) (v := .ref qO7) C0 V i_NH rfl rfl hO0 (by decide) w_430 rfl d_1_28_31 ?_
    refine q_get (ci := 4) (j := 0) (v := .ref qO17) C0 V i_Mil rfl rfl hO7 (by decide) w_112 rfl d_1_28_34 ?_
    refine q_gov V (q_runV (As := [.ref qO17]) (rest := []) (d := 2) (mc := 0) (ms := 0) (ci := 2) C0 V rfl LV_NH_145 (c_Big_copy_10 l D g ws (66 + 5 * x1.toNatClampNeg) 10 (67 + 5 * x1.toNatClampNeg) 11 (qW x1.toNatClampNeg) qO17 (qWL x1.toNatClampNeg) qA35 hr13 hO17 hr14 hA35 (Ne.symm (q_f5 rfl)) (Ne.symm (q_f5 rfl)) _) rfl rfl hr13 rfl hl.1 rfl (Nat.le_of_ble_eq_true rfl) ⟨by decide, by decide⟩ ⟨Nat.le_of_ble_eq_true rfl, Nat.le_of_ble_eq_true rfl⟩ d_1_28_37) (fun u16 H locs hp15 V => ?_)
    obtain ⟨hg17, hr13, hr14⟩ := hp15
    replace hF := q_gc hF hg17 (q_al (by omega) (q_al (by omega) (fun _ h => absurd h List.not_mem_nil)))
    exact q_retv C0 V (hF) d_1_28_40
theorem d_1_9_0 : decode prog_1_method_9_code 0 = .ok (.iload_n 1, 1) := by decide +kernel
theorem d_1_9_1 : decode prog_1_method_9_code 1 = .ok (.ifCond .lt 27, 3) := by decide +kernel
theorem d_1_9_28 : decode prog_1_method_9_code 28 = .ok (.iconst 0, 1) := by decide +kernel
theorem d_1_9_29 : decode prog_1_method_9_code 29 = .ok (.invokestatic 104, 3) := by decide +kernel
theorem d_1_9_4 : decode prog_1_method_9_code 4 = .ok (.iload_n 1, 1) := by decide +kernel
theorem d_1_9_5 : decode prog_1_method_9_code 5 = .ok (.iconst 2, 1) := by decide +kernel
theorem d_1_9_6 : decode prog_1_method_9_code 6 = .ok (.if_icmp .gt 22, 3) := by decide +kernel
theorem d_1_9_9 : decode prog_1_method_9_code 9 = .ok (.iload_n 2, 1) := by decide +kernel
theorem d_1_9_10 : decode prog_1_method_9_code 10 = .ok (.invokestatic 212, 3) := by decide +kernel
theorem d_1_9_13 : decode prog_1_method_9_code 13 = .ok (.ifCond .eq 15, 3) := by decide +kernel
theorem d_1_9_16 : decode prog_1_method_9_code 16 = .ok (.iload 4, 2) := by decide +kernel
theorem d_1_9_18 : decode prog_1_method_9_code 18 = .ok (.invokestatic 212, 3) := by decide +kernel
theorem d_1_9_21 : decode prog_1_method_9_code 21 = .ok (.ifCond .eq 7, 3) := by decide +kernel
theorem d_1_9_24 : decode prog_1_method_9_code 24 = .ok (.iconst 1, 1) := by decide +kernel
theorem d_1_9_25 : decode prog_1_method_9_code 25 = .ok (.goto 4, 3) := by decide +kernel
theorem d_1_9_32 : decode prog_1_method_9_code 32 = .ok (.iload_n 1, 1) := by decide +kernel
theorem d_1_9_33 : decode prog_1_method_9_code 33 = .ok (.ifCond .ne 7, 3) := by decide +kernel
theorem d_1_9_40 : decode prog_1_method_9_code 40 = .ok (.iconst 1, 1) := by decide +kernel
theorem d_1_9_41 : decode prog_1_method_9_code 41 = .ok (.goto 4, 3) := by decide +kernel
theorem d_1_9_45 : decode prog_1_method_9_code 45 = .ok (.invokestatic 104, 3) := by decide +kernel
theorem d_1_9_48 : decode prog_1_method_9_code 48 = .ok (.iload_n 1, 1) := by decide +kernel
theorem d_1_9_49 : decode prog_1_method_9_code 49 = .ok (.iconst 1, 1) := by decide +kernel
theorem d_1_9_50 : decode prog_1_method_9_code 50 = .ok (.if_icmp .ne 14, 3) := by decide +kernel
theorem d_1_9_64 : decode prog_1_method_9_code 64 = .ok (.iconst 1, 1) := by decide +kernel
theorem d_1_9_65 : decode prog_1_method_9_code 65 = .ok (.goto 4, 3) := by decide +kernel
theorem d_1_9_69 : decode prog_1_method_9_code 69 = .ok (.invokestatic 104, 3) := by decide +kernel
theorem d_1_9_72 : decode prog_1_method_9_code 72 = .ok (.aload_n 0, 1) := by decide +kernel
theorem d_1_9_73 : decode prog_1_method_9_code 73 = .ok (.getfield 23, 3) := by decide +kernel
theorem d_1_9_76 : decode prog_1_method_9_code 76 = .ok (.iload_n 2, 1) := by decide +kernel
theorem d_1_9_77 : decode prog_1_method_9_code 77 = .ok (.aaload, 1) := by decide +kernel
theorem d_1_9_78 : decode prog_1_method_9_code 78 = .ok (.astore 5, 2) := by decide +kernel
theorem d_1_9_80 : decode prog_1_method_9_code 80 = .ok (.iload_n 1, 1) := by decide +kernel
theorem d_1_9_81 : decode prog_1_method_9_code 81 = .ok (.ifCond .ne 39, 3) := by decide +kernel
theorem d_1_9_120 : decode prog_1_method_9_code 120 = .ok (.iload_n 1, 1) := by decide +kernel
theorem d_1_9_121 : decode prog_1_method_9_code 121 = .ok (.iconst 1, 1) := by decide +kernel
theorem d_1_9_122 : decode prog_1_method_9_code 122 = .ok (.if_icmp .ne 49, 3) := by decide +kernel
theorem d_1_9_171 : decode prog_1_method_9_code 171 = .ok (.aload_n 0, 1) := by decide +kernel
theorem d_1_9_172 : decode prog_1_method_9_code 172 = .ok (.getfield 43, 3) := by decide +kernel
theorem d_1_9_175 : decode prog_1_method_9_code 175 = .ok (.aload 5, 2) := by decide +kernel
theorem d_1_9_177 : decode prog_1_method_9_code 177 = .ok (.iload_n 3, 1) := by decide +kernel
theorem d_1_9_178 : decode prog_1_method_9_code 178 = .ok (.invokevirtual 258, 3) := by decide +kernel
theorem w_1344 : (Cond.code ({ cls := "NumberHouse$Mill", name := "shifted", desc := "(LNumberHouse$Big;I)Z" } : MethodName) prog_8_method_10_code (4 : Nat) (some .boolean)) ∈ q_tbl := q_of 1344 (by decide +kernel) (by decide +kernel)
theorem w_1341 : (Cond.methodLink "NumberHouse" (258 : Nat) ({ cls := "NumberHouse$Mill", name := "shifted", desc := "(LNumberHouse$Big;I)Z" } : MethodName)) ∈ q_tbl := q_of 1341 (by decide +kernel) (by decide +kernel)
theorem w_1342 : (Cond.instanceMethod ({ cls := "NumberHouse$Mill", name := "shifted", desc := "(LNumberHouse$Big;I)Z" } : MethodName)) ∈ q_tbl := q_of 1342 (by decide +kernel) (by decide +kernel)
theorem w_1343 : (Cond.selects "NumberHouse$Mill" ({ cls := "NumberHouse$Mill", name := "shifted", desc := "(LNumberHouse$Big;I)Z" } : MethodName) ({ cls := "NumberHouse$Mill", name := "shifted", desc := "(LNumberHouse$Big;I)Z" } : MethodName)) ∈ q_tbl := q_of 1343 (by decide +kernel) (by decide +kernel)
theorem LV_NH_258 : q_LV "NumberHouse" 258 y_Mil_shifted prog_8_method_10_code 4 (some .boolean) 2 := ⟨w_1344, w_3, w_1341, w_1342, w_1343, ⟨by decide, by decide, by decide +kernel⟩⟩
theorem d_1_9_181 : decode prog_1_method_9_code 181 = .ok (.invokestatic 138, 3) := by decide +kernel
theorem d_1_9_184 : decode prog_1_method_9_code 184 = .ok (.aload_n 0, 1) := by decide +kernel
theorem d_1_9_185 : decode prog_1_method_9_code 185 = .ok (.iload 4, 2) := by decide +kernel
theorem d_1_9_187 : decode prog_1_method_9_code 187 = .ok (.invokevirtual 243, 3) := by decide +kernel
theorem d_1_9_190 : decode prog_1_method_9_code 190 = .ok (.return_, 1) := by decide +kernel
theorem d_1_9_53 : decode prog_1_method_9_code 53 = .ok (.iload_n 3, 1) := by decide +kernel
theorem d_1_9_54 : decode prog_1_method_9_code 54 = .ok (.iconst 1, 1) := by decide +kernel
theorem d_1_9_55 : decode prog_1_method_9_code 55 = .ok (.if_icmp .lt 13, 3) := by decide +kernel
theorem d_1_9_68 : decode prog_1_method_9_code 68 = .ok (.iconst 0, 1) := by decide +kernel
theorem d_1_9_58 : decode prog_1_method_9_code 58 = .ok (.iload_n 3, 1) := by decide +kernel
theorem d_1_9_59 : decode prog_1_method_9_code 59 = .ok (.bipush 64, 2) := by decide +kernel
theorem d_1_9_61 : decode prog_1_method_9_code 61 = .ok (.if_icmp .gt 7, 3) := by decide +kernel
theorem d_1_9_125 : decode prog_1_method_9_code 125 = .ok (.aload 5, 2) := by decide +kernel
theorem d_1_9_127 : decode prog_1_method_9_code 127 = .ok (.invokevirtual 225, 3) := by decide +kernel
theorem d_1_9_130 : decode prog_1_method_9_code 130 = .ok (.ifCond .lt 7, 3) := by decide +kernel
theorem d_1_9_133 : decode prog_1_method_9_code 133 = .ok (.iconst 1, 1) := by decide +kernel
theorem d_1_9_134 : decode prog_1_method_9_code 134 = .ok (.goto 4, 3) := by decide +kernel
theorem d_1_9_138 : decode prog_1_method_9_code 138 = .ok (.invokestatic 138, 3) := by decide +kernel
theorem d_1_9_141 : decode prog_1_method_9_code 141 = .ok (.aload_n 0, 1) := by decide +kernel
theorem d_1_9_142 : decode prog_1_method_9_code 142 = .ok (.getfield 43, 3) := by decide +kernel
theorem d_1_9_145 : decode prog_1_method_9_code 145 = .ok (.aload 5, 2) := by decide +kernel
theorem d_1_9_147 : decode prog_1_method_9_code 147 = .ok (.iload_n 3, 1) := by decide +kernel
theorem d_1_9_148 : decode prog_1_method_9_code 148 = .ok (.invokevirtual 252, 3) := by decide +kernel
theorem w_1336 : (Cond.code ({ cls := "NumberHouse$Mill", name := "root", desc := "(LNumberHouse$Big;I)V" } : MethodName) prog_8_method_9_code (4 : Nat) (none : Option ClassFile.FieldType)) ∈ q_tbl := q_of 1336 (by decide +kernel) (by decide +kernel)
theorem w_1333 : (Cond.methodLink "NumberHouse" (252 : Nat) ({ cls := "NumberHouse$Mill", name := "root", desc := "(LNumberHouse$Big;I)V" } : MethodName)) ∈ q_tbl := q_of 1333 (by decide +kernel) (by decide +kernel)
theorem w_1334 : (Cond.instanceMethod ({ cls := "NumberHouse$Mill", name := "root", desc := "(LNumberHouse$Big;I)V" } : MethodName)) ∈ q_tbl := q_of 1334 (by decide +kernel) (by decide +kernel)
theorem w_1335 : (Cond.selects "NumberHouse$Mill" ({ cls := "NumberHouse$Mill", name := "root", desc := "(LNumberHouse$Big;I)V" } : MethodName) ({ cls := "NumberHouse$Mill", name := "root", desc := "(LNumberHouse$Big;I)V" } : MethodName)) ∈ q_tbl := q_of 1335 (by decide +kernel) (by decide +kernel)
theorem LV_NH_252 : q_LV "NumberHouse" 252 y_Mil_root prog_8_method_9_code 4 none 2 := ⟨w_1336, w_3, w_1333, w_1334, w_1335, ⟨by decide, by decide, by decide +kernel⟩⟩
theorem d_1_9_151 : decode prog_1_method_9_code 151 = .ok (.aload_n 0, 1) := by decide +kernel
theorem d_1_9_152 : decode prog_1_method_9_code 152 = .ok (.getfield 43, 3) := by decide +kernel
theorem d_1_9_155 : decode prog_1_method_9_code 155 = .ok (.getfield 141, 3) := by decide +kernel
theorem d_1_9_158 : decode prog_1_method_9_code 158 = .ok (.aload_n 0, 1) := by decide +kernel
theorem d_1_9_159 : decode prog_1_method_9_code 159 = .ok (.getfield 43, 3) := by decide +kernel
theorem d_1_9_162 : decode prog_1_method_9_code 162 = .ok (.getfield 256, 3) := by decide +kernel
theorem w_121 : (Cond.fieldLink "NumberHouse" (256 : Nat) "NumberHouse$Mill" "root" "LNumberHouse$Big;") ∈ q_tbl := q_of 121 (by decide +kernel) (by decide +kernel)
theorem d_1_9_165 : decode prog_1_method_9_code 165 = .ok (.invokevirtual 145, 3) := by decide +kernel
theorem d_1_9_168 : decode prog_1_method_9_code 168 = .ok (.goto 16, 3) := by decide +kernel
theorem d_1_9_36 : decode prog_1_method_9_code 36 = .ok (.iload_n 3, 1) := by decide +kernel
theorem d_1_9_37 : decode prog_1_method_9_code 37 = .ok (.ifCond .lt 7, 3) := by decide +kernel
theorem d_1_9_44 : decode prog_1_method_9_code 44 = .ok (.iconst 0, 1) := by decide +kernel
theorem d_1_9_84 : decode prog_1_method_9_code 84 = .ok (.aload_n 0, 1) := by decide +kernel
theorem d_1_9_85 : decode prog_1_method_9_code 85 = .ok (.getfield 43, 3) := by decide +kernel
theorem d_1_9_88 : decode prog_1_method_9_code 88 = .ok (.aload 5, 2) := by decide +kernel
theorem d_1_9_90 : decode prog_1_method_9_code 90 = .ok (.iload_n 3, 1) := by decide +kernel
theorem d_1_9_91 : decode prog_1_method_9_code 91 = .ok (.sipush 2048, 3) := by decide +kernel
theorem d_1_9_94 : decode prog_1_method_9_code 94 = .ok (.invokevirtual 246, 3) := by decide +kernel
theorem w_1331 : (Cond.code ({ cls := "NumberHouse$Mill", name := "power", desc := "(LNumberHouse$Big;II)Z" } : MethodName) prog_8_method_8_code (5 : Nat) (some .boolean)) ∈ q_tbl := q_of 1331 (by decide +kernel) (by decide +kernel)
theorem w_1328 : (Cond.methodLink "NumberHouse" (246 : Nat) ({ cls := "NumberHouse$Mill", name := "power", desc := "(LNumberHouse$Big;II)Z" } : MethodName)) ∈ q_tbl := q_of 1328 (by decide +kernel) (by decide +kernel)
theorem w_1329 : (Cond.instanceMethod ({ cls := "NumberHouse$Mill", name := "power", desc := "(LNumberHouse$Big;II)Z" } : MethodName)) ∈ q_tbl := q_of 1329 (by decide +kernel) (by decide +kernel)
theorem w_1330 : (Cond.selects "NumberHouse$Mill" ({ cls := "NumberHouse$Mill", name := "power", desc := "(LNumberHouse$Big;II)Z" } : MethodName) ({ cls := "NumberHouse$Mill", name := "power", desc := "(LNumberHouse$Big;II)Z" } : MethodName)) ∈ q_tbl := q_of 1330 (by decide +kernel) (by decide +kernel)
theorem LV_NH_246 : q_LV "NumberHouse" 246 y_Mil_power prog_8_method_8_code 5 (some .boolean) 3 := ⟨w_1331, w_3, w_1328, w_1329, w_1330, ⟨by decide, by decide, by decide +kernel⟩⟩
theorem d_1_9_97 : decode prog_1_method_9_code 97 = .ok (.invokestatic 138, 3) := by decide +kernel
theorem d_1_9_100 : decode prog_1_method_9_code 100 = .ok (.aload_n 0, 1) := by decide +kernel
theorem d_1_9_101 : decode prog_1_method_9_code 101 = .ok (.getfield 43, 3) := by decide +kernel
theorem d_1_9_104 : decode prog_1_method_9_code 104 = .ok (.getfield 141, 3) := by decide +kernel
theorem d_1_9_107 : decode prog_1_method_9_code 107 = .ok (.aload_n 0, 1) := by decide +kernel
theorem d_1_9_108 : decode prog_1_method_9_code 108 = .ok (.getfield 43, 3) := by decide +kernel
theorem d_1_9_111 : decode prog_1_method_9_code 111 = .ok (.getfield 250, 3) := by decide +kernel
theorem w_119 : (Cond.fieldLink "NumberHouse" (250 : Nat) "NumberHouse$Mill" "power" "LNumberHouse$Big;") ∈ q_tbl := q_of 119 (by decide +kernel) (by decide +kernel)
theorem d_1_9_114 : decode prog_1_method_9_code 114 = .ok (.invokevirtual 145, 3) := by decide +kernel
theorem d_1_9_117 : decode prog_1_method_9_code 117 = .ok (.goto 67, 3) := by decide +kernel
def y_NH_wholeBy : MethodName := ⟨"NumberHouse", "wholeBy", "(IIII)V"⟩
set_option maxRecDepth 100000 in
set_option maxHeartbeats 4000000 in
/-- wholeBy on a fresh object -/
theorem c_NH_wholeBy (l : Launch) (D : va_G) (g : Nat → ClassId) (ws : va_W) (hlt : l.stackTraces = false) ( qO0 qO1 qO2 qA3 qA4 qA5 qA6 qO7 qO8 qO9 qO10 qO11 qO12 qO13 qO14 qO17 qO18 qO19 qO20 qO21 qO22 qO23 qO24 qO25 qO26 qA35 qA37 qA38 qA39 : Nat) (x1 : Int32) (x2 : Int32) (x3 : Int32) (x4 : Int32) (f5 : Nat → Option Nat) (hO0 : ws[0]? = (some (qO0, .inr (0, [.ref qO1, .ref qO2, .ref qA3, .ref qA4, .ref qA5, .ref qA6, .ref qO7, .ref qO8, .ref qO9, .ref qO10, .ref qO11, .ref qO12, .ref qO13, .ref qO14])) : Option (Nat × va_E))) (hA3 : ws[5]? = (some (qA3, .inl (g 4, 10, .inr (.inr (.inr (.inr f5))))) : Option (Nat × va_E))) (hO7 : ws[9]? = (some (qO7, .inr (4, [.ref qO17, .ref qO18, .ref qO19, .ref qO20, .ref qO21, .ref qO22, .ref qO23, .ref qO24, .ref qO25, .ref qO26])) : Option (Nat × va_E))) (hO17 : ws[10]? = (some (qO17, .inr (2, [.ref qA35, .int 0, .int 0])) : Option (Nat × va_E))) (hO19 : ws[14]? = (some (qO19, .inr (2, [.ref qA37, .int 0, .int 0])) : Option (Nat × va_E))) (hO20 : ws[16]? = (some (qO20, .inr (2, [.ref qA38, .int 0, .int 0])) : Option (Nat × va_E))) (hO21 : ws[18]? = (some (qO21, .inr (2, [.ref qA39, .int 0, .int 0])) : Option (Nat × va_E))) (hA35 : ws[11]? = (some (qA35, .inl (g 0, 220, .inl (fun _ => 0))) : Option (Nat × va_E))) (hA37 : ws[15]? = (some (qA37, .inl (g 0, 220, .inl (fun _ => 0))) : Option (Nat × va_E))) (hA38 : ws[17]? = (some (qA38, .inl (g 0, 220, .inl (fun _ => 0))) : Option (Nat × va_E))) (hA39 : ws[19]? = (some (qA39, .inl (g 0, 220, .inl (fun _ => 0))) : Option (Nat × va_E))) (qW qWL qD qDN qDL : Nat → Nat) (hfW : ∀ i, i < 10 → f5 i = some (qW i)) (FW : ∀ i, i < 10 → ws[66 + 5 * i]? = (some (qW i, .inr (2, [.ref (qWL i), .int 0, .int 0])) : Option (Nat × va_E))) (FWL : ∀ i, i < 10 → ws[67 + 5 * i]? = (some (qWL i, .inl (g 0, 68, .inl (fun _ => 0))) : Option (Nat × va_E))) : q_xV l y_NH_wholeBy prog_1_method_9_code 6 9 5 30 D g [.ref qO0, .int x1, .int x2, .int x3, .int x4] ws (fun u => (((0 ≤ x1.toInt ∧ x1.toInt ≤ 2) ∧ (0 ≤ x2.toInt ∧ x2.toInt ≤ 9) ∧ (0 ≤ x4.toInt ∧ x4.toInt ≤ 9) ∧ (x1.toInt = 0 → 0 ≤ x3.toInt) ∧ (x1.toInt = 1 → (1 ≤ x3.toInt ∧ x3.toInt ≤ 64)))) ∧ q_ge 116 ws u) (fun E u => (("java/lang/IllegalArgumentException" = E ∧ (¬ ((0 ≤ x1.toInt ∧ x1.toInt ≤ 2) ∧ (0 ≤ x2.toInt ∧ x2.toInt ≤ 9) ∧ (0 ≤ x4.toInt ∧ x4.toInt ≤ 9) ∧ (x1.toInt = 0 → 0 ≤ x3.toInt) ∧ (x1.toInt = 1 → (1 ≤ x3.toInt ∧ x3.toInt ≤ 64)))))) ∧ q_ge 116 ws u) := by
  intro sz
  refine q_intoX (by decide) (Nat.le_of_ble_eq_true rfl) ?_
  intro p e s m below meth c ls hsz C0 V hno hl
  have hx := C0.1
  have hb := C0.2.1
  have hl : lv_has ls 6 [(0, .ref qO0), (1, .int x1), (2, .int x2), (3, .int x3), (4, .int x4)] := hl
  have hF : q_ge 116 ws ws := q_g0
  refine lv_iload_n hx hb d_1_9_0 rfl (lv_at hl 1 rfl) ?_
  refine lv_if_lt (tgt := 28) hx hb d_1_9_1 (by decide) (fun c1 => ?_) (fun c1 => ?_)
  ·
    refine lv_iconst (v := 0) hx hb d_1_9_28 (by decide) ?_
    refine q_goxv V (q_runSX (As := [.int 0]) (rest := []) (d := 7) (mc := 1) (ms := 6) C0 V rfl LS_NH_104 (c_NH_need l D g ws hlt 0 _) rfl hl.1 rfl (Nat.le_of_ble_eq_true rfl) ⟨by decide, by decide⟩ ⟨Nat.le_of_ble_eq_true rfl, Nat.le_of_ble_eq_true rfl⟩ d_1_9_29) (fun qx Ex ce u3 H locs hp2 V hce hcv hcl => ?_) (fun u3 H locs hp2 V => ?_)
    ·
      obtain ⟨c4, rfl, rfl⟩ := hp2
      exact q_outT hno C0 V (⟨⟨rfl, (show ¬ ((0 ≤ x1.toInt ∧ x1.toInt ≤ 2) ∧ (0 ≤ x2.toInt ∧ x2.toInt ≤ 9) ∧ (0 ≤ x4.toInt ∧ x4.toInt ≤ 9) ∧ (x1.toInt = 0 → 0 ≤ x3.toInt) ∧ (x1.toInt = 1 → (1 ≤ x3.toInt ∧ x3.toInt ≤ 64))) from by have t1 : x1.toInt < 0 := q_ltI c1; omega)⟩, hF⟩) hce hcv hcl (Nat.le_of_ble_eq_true rfl) (Nat.le_of_ble_eq_true rfl)
    ·
      obtain ⟨c6, rfl⟩ := hp2
      exact absurd c6 (by decide)
  ·
    refine lv_iload_n hx hb d_1_9_4 rfl (lv_at hl 1 rfl) ?_
    refine lv_iconst (v := 2) hx hb d_1_9_5 (by decide) ?_
    refine lv_icmp_gt (tgt := 28) hx hb d_1_9_6 (by decide) (fun c8 => ?_) (fun c8 => ?_)
    ·
      refine lv_iconst (v := 0) hx hb d_1_9_28 (by decide) ?_
      refine q_goxv V (q_runSX (As := [.int 0]) (rest := []) (d := 7) (mc := 1) (ms := 6) C0 V rfl LS_NH_104 (c_NH_need l D g ws hlt 0 _) rfl hl.1 rfl (Nat.le_of_ble_eq_true rfl) ⟨by decide, by decide⟩ ⟨Nat.le_of_ble_eq_true rfl, Nat.le_of_ble_eq_true rfl⟩ d_1_9_29) (fun qx Ex ce u10 H locs hp9 V hce hcv hcl => ?_) (fun u10 H locs hp9 V => ?_)
      ·
        obtain ⟨c11, rfl, rfl⟩ := hp9
        exact q_outT hno C0 V (⟨⟨rfl, (show ¬ ((0 ≤ x1.toInt ∧ x1.toInt ≤ 2) ∧ (0 ≤ x2.toInt ∧ x2.toInt ≤ 9) ∧ (0 ≤ x4.toInt ∧ x4.toInt ≤ 9) ∧ (x1.toInt = 0 → 0 ≤ x3.toInt) ∧ (x1.toInt = 1 → (1 ≤ x3.toInt ∧ x3.toInt ≤ 64))) from by have t1 : 0 ≤ x1.toInt := q_nltI c1; have t2 : 2 < x1.toInt := q_ltI c8; omega)⟩, hF⟩) hce hcv hcl (Nat.le_of_ble_eq_true rfl) (Nat.le_of_ble_eq_true rfl)
      ·
        obtain ⟨c13, rfl⟩ := hp9
        exact absurd c13 (by decide)
    ·
      refine lv_iload_n hx hb d_1_9_9 rfl (lv_at hl 2 rfl) ?_
      refine q_goi V (q_runS (As := [.int x2]) (rest := []) (d := 1) (mc := 0) (ms := 0) C0 V rfl LS_NH_212 (c_NH_isRegister l D g ws x2 _) rfl hl.1 rfl (Nat.le_of_ble_eq_true rfl) ⟨by decide, by decide⟩ ⟨Nat.le_of_ble_eq_true rfl, Nat.le_of_ble_eq_true rfl⟩ d_1_9_10) (fun v17 u16 H locs hp15 V => ?_)
      rcases hp15 with ⟨c18, rfl, rfl⟩ | ⟨c20, c21, rfl, rfl⟩ | ⟨c23, c24, rfl, rfl⟩
      ·
        refine lv_if_eq (tgt := 28) hx hb d_1_9_13 (by decide) (fun c26 => ?_) (fun c26 => absurd (by decide) c26)
        refine lv_iconst (v := 0) hx hb d_1_9_28 (by decide) ?_
        refine q_goxv V (q_runSX (As := [.int 0]) (rest := []) (d := 7) (mc := 1) (ms := 6) C0 V rfl LS_NH_104 (c_NH_need l D g ws hlt 0 _) rfl hl.1 rfl (Nat.le_of_ble_eq_true rfl) ⟨by decide, by decide⟩ ⟨Nat.le_of_ble_eq_true rfl, Nat.le_of_ble_eq_true rfl⟩ d_1_9_29) (fun qx Ex ce u28 H locs hp27 V hce hcv hcl => ?_) (fun u28 H locs hp27 V => ?_)
        ·
          obtain ⟨c29, rfl, rfl⟩ := hp27
          exact q_outT hno C0 V (⟨⟨rfl, (show ¬ ((0 ≤ x1.toInt ∧ x1.toInt ≤ 2) ∧ (0 ≤ x2.toInt ∧ x2.toInt ≤ 9) ∧ (0 ≤ x4.toInt ∧ x4.toInt ≤ 9) ∧ (x1.toInt = 0 → 0 ≤ x3.toInt) ∧ (x1.toInt = 1 → (1 ≤ x3.toInt ∧ x3.toInt ≤ 64))) from by have t1 : 0 ≤ x1.toInt := q_nltI c1; have t2 : x1.toInt ≤ 2 := q_nltI c8; have t3 : x2.toInt < 0 := q_ltI c18; omega)⟩, hF⟩) hce hcv hcl (Nat.le_of_ble_eq_true rfl) (Nat.le_of_ble_eq_true rfl)
        ·
          obtain ⟨c31, rfl⟩ := hp27
          exact absurd c31 (by decide)
      ·
        refine lv_if_eq (tgt := 28) hx hb d_1_9_13 (by decide) (fun c33 => ?_) (fun c33 => absurd (by decide) c33)
        refine lv_iconst (v := 0) hx hb d_1_9_28 (by decide) ?_
        refine q_goxv V (q_runSX (As := [.int 0]) (rest := []) (d := 7) (mc := 1) (ms := 6) C0 V rfl LS_NH_104 (c_NH_need l D g ws hlt 0 _) rfl hl.1 rfl (Nat.le_of_ble_eq_true rfl) ⟨by decide, by decide⟩ ⟨Nat.le_of_ble_eq_true rfl, Nat.le_of_ble_eq_true rfl⟩ d_1_9_29) (fun qx Ex ce u35 H locs hp34 V hce hcv hcl => ?_) (fun u35 H locs hp34 V => ?_)
        ·
          obtain ⟨c36, rfl, rfl⟩ := hp34
          exact q_outT hno C0 V (⟨⟨rfl, (show ¬ ((0 ≤ x1.toInt ∧ x1.toInt ≤ 2) ∧ (0 ≤ x2.toInt ∧ x2.toInt ≤ 9) ∧ (0 ≤ x4.toInt ∧ x4.toInt ≤ 9) ∧ (x1.toInt = 0 → 0 ≤ x3.toInt) ∧ (x1.toInt = 1 → (1 ≤ x3.toInt ∧ x3.toInt ≤ 64))) from by have t1 : 0 ≤ x1.toInt := q_nltI c1; have t2 : x1.toInt ≤ 2 := q_nltI c8; have t3 : 0 ≤ x2.toInt := q_nltI c20; have t4 : 10 ≤ x2.toInt := q_leI c21; omega)⟩, hF⟩) hce hcv hcl (Nat.le_of_ble_eq_true rfl) (Nat.le_of_ble_eq_true rfl)
        ·
          obtain ⟨c38, rfl⟩ := hp34
          exact absurd c38 (by decide)
      ·
        refine lv_if_eq (tgt := 28) hx hb d_1_9_13 (by decide) (fun c40 => absurd c40 (by decide)) (fun c40 => ?_)
        refine lv_iload hx hb d_1_9_16 (lv_at hl 4 rfl) ?_
        refine q_goi V (q_runS (As := [.int x4]) (rest := []) (d := 1) (mc := 0) (ms := 0) C0 V rfl LS_NH_212 (c_NH_isRegister l D g ws x4 _) rfl hl.1 rfl (Nat.le_of_ble_eq_true rfl) ⟨by decide, by decide⟩ ⟨Nat.le_of_ble_eq_true rfl, Nat.le_of_ble_eq_true rfl⟩ d_1_9_18) (fun v43 u42 H locs hp41 V => ?_)
        rcases hp41 with ⟨c44, rfl, rfl⟩ | ⟨c46, c47, rfl, rfl⟩ | ⟨c49, c50, rfl, rfl⟩
        ·
          refine lv_if_eq (tgt := 28) hx hb d_1_9_21 (by decide) (fun c52 => ?_) (fun c52 => absurd (by decide) c52)
          refine lv_iconst (v := 0) hx hb d_1_9_28 (by decide) ?_
          refine q_goxv V (q_runSX (As := [.int 0]) (rest := []) (d := 7) (mc := 1) (ms := 6) C0 V rfl LS_NH_104 (c_NH_need l D g ws hlt 0 _) rfl hl.1 rfl (Nat.le_of_ble_eq_true rfl) ⟨by decide, by decide⟩ ⟨Nat.le_of_ble_eq_true rfl, Nat.le_of_ble_eq_true rfl⟩ d_1_9_29) (fun qx Ex ce u54 H locs hp53 V hce hcv hcl => ?_) (fun u54 H locs hp53 V => ?_)
          ·
            obtain ⟨c55, rfl, rfl⟩ := hp53
            exact q_outT hno C0 V (⟨⟨rfl, (show ¬ ((0 ≤ x1.toInt ∧ x1.toInt ≤ 2) ∧ (0 ≤ x2.toInt ∧ x2.toInt ≤ 9) ∧ (0 ≤ x4.toInt ∧ x4.toInt ≤ 9) ∧ (x1.toInt = 0 → 0 ≤ x3.toInt) ∧ (x1.toInt = 1 → (1 ≤ x3.toInt ∧ x3.toInt ≤ 64))) from by have t1 : 0 ≤ x1.toInt := q_nltI c1; have t2 : x1.toInt ≤ 2 := q_nltI c8; have t3 : 0 ≤ x2.toInt := q_nltI c23; have t4 : x2.toInt < 10 := q_nleI c24; have t5 : x4.toInt < 0 := q_ltI c44; omega)⟩, hF⟩) hce hcv hcl (Nat.le_of_ble_eq_true rfl) (Nat.le_of_ble_eq_true rfl)
          ·
            obtain ⟨c57, rfl⟩ := hp53
            exact absurd c57 (by decide)
        ·
          refine lv_if_eq (tgt := 28) hx hb d_1_9_21 (by decide) (fun c59 => ?_) (fun c59 => absurd (by decide) c59)
          refine lv_iconst (v := 0) hx hb d_1_9_28 (by decide) ?_
          refine q_goxv V (q_runSX (As := [.int 0]) (rest := []) (d := 7) (mc := 1) (ms := 6) C0 V rfl LS_NH_104 (c_NH_need l D g ws hlt 0 _) rfl hl.1 rfl (Nat.le_of_ble_eq_true rfl) ⟨by decide, by decide⟩ ⟨Nat.le_of_ble_eq_true rfl, Nat.le_of_ble_eq_true rfl⟩ d_1_9_29) (fun qx Ex ce u61 H locs hp60 V hce hcv hcl => ?_) (fun u61 H locs hp60 V => ?_)
          ·
            obtain ⟨c62, rfl, rfl⟩ := hp60
            exact q_outT hno C0 V (⟨⟨rfl, (show ¬ ((0 ≤ x1.toInt ∧ x1.toInt ≤ 2) ∧ (0 ≤ x2.toInt ∧ x2.toInt ≤ 9) ∧ (0 ≤ x4.toInt ∧ x4.toInt ≤ 9) ∧ (x1.toInt = 0 → 0 ≤ x3.toInt) ∧ (x1.toInt = 1 → (1 ≤ x3.toInt ∧ x3.toInt ≤ 64))) from by have t1 : 0 ≤ x1.toInt := q_nltI c1; have t2 : x1.toInt ≤ 2 := q_nltI c8; have t3 : 0 ≤ x2.toInt := q_nltI c23; have t4 : x2.toInt < 10 := q_nleI c24; have t5 : 0 ≤ x4.toInt := q_nltI c46; have t6 : 10 ≤ x4.toInt := q_leI c47; omega)⟩, hF⟩) hce hcv hcl (Nat.le_of_ble_eq_true rfl) (Nat.le_of_ble_eq_true rfl)
          ·
            obtain ⟨c64, rfl⟩ := hp60
            exact absurd c64 (by decide)
        ·
          refine lv_if_eq (tgt := 28) hx hb d_1_9_21 (by decide) (fun c66 => absurd c66 (by decide)) (fun c66 => ?_)
          refine lv_iconst (v := 1) hx hb d_1_9_24 (by decide) ?_
          refine lv_goto (tgt := 29) hx hb d_1_9_25 (by decide) ?_
          refine q_goxv V (q_runSX (As := [.int 1]) (rest := []) (d := 7) (mc := 1) (ms := 6) C0 V rfl LS_NH_104 (c_NH_need l D g ws hlt 1 _) rfl hl.1 rfl (Nat.le_of_ble_eq_true rfl) ⟨by decide, by decide⟩ ⟨Nat.le_of_ble_eq_true rfl, Nat.le_of_ble_eq_true rfl⟩ d_1_9_29) (fun qx Ex ce u68 H locs hp67 V hce hcv hcl => ?_) (fun u68 H locs hp67 V => ?_)
          ·
            obtain ⟨c69, rfl, rfl⟩ := hp67
            exact absurd c69 (by decide)
          ·
            obtain ⟨c71, rfl⟩ := hp67
            refine lv_iload_n hx hb d_1_9_32 rfl (lv_at hl 1 rfl) ?_
            refine lv_if_ne (tgt := 40) hx hb d_1_9_33 (by decide) (fun c73 => ?_) (fun c73 => ?_)
            ·
              refine lv_iconst (v := 1) hx hb d_1_9_40 (by decide) ?_
              refine lv_goto (tgt := 45) hx hb d_1_9_41 (by decide) ?_
              refine q_goxv V (q_runSX (As := [.int 1]) (rest := []) (d := 7) (mc := 1) (ms := 6) C0 V rfl LS_NH_104 (c_NH_need l D g ws hlt 1 _) rfl hl.1 rfl (Nat.le_of_ble_eq_true rfl) ⟨by decide, by decide⟩ ⟨Nat.le_of_ble_eq_true rfl, Nat.le_of_ble_eq_true rfl⟩ d_1_9_45) (fun qx Ex ce u75 H locs hp74 V hce hcv hcl => ?_) (fun u75 H locs hp74 V => ?_)
              ·
                obtain ⟨c76, rfl, rfl⟩ := hp74
                exact absurd c76 (by decide)
              ·
                obtain ⟨c78, rfl⟩ := hp74
                refine lv_iload_n hx hb d_1_9_48 rfl (lv_at hl 1 rfl) ?_
                refine lv_iconst (v := 1) hx hb d_1_9_49 (by decide) ?_
                refine lv_icmp_ne (tgt := 64) hx hb d_1_9_50 (by decide) (fun c80 => ?_) (fun c80 => ?_)
                ·
                  refine lv_iconst (v := 1) hx hb d_1_9_64 (by decide) ?_
                  refine lv_goto (tgt := 69) hx hb d_1_9_65 (by decide) ?_
                  refine q_goxv V (q_runSX (As := [.int 1]) (rest := []) (d := 7) (mc := 1) (ms := 6) C0 V rfl LS_NH_104 (c_NH_need l D g ws hlt 1 _) rfl hl.1 rfl (Nat.le_of_ble_eq_true rfl) ⟨by decide, by decide⟩ ⟨Nat.le_of_ble_eq_true rfl, Nat.le_of_ble_eq_true rfl⟩ d_1_9_69) (fun qx Ex ce u82 H locs hp81 V hce hcv hcl => ?_) (fun u82 H locs hp81 V => ?_)
                  ·
                    obtain ⟨c83, rfl, rfl⟩ := hp81
                    exact absurd c83 (by decide)
                  ·
                    obtain ⟨c85, rfl⟩ := hp81
                    refine lv_aload_n hx hb d_1_9_72 rfl (lv_at hl 0 rfl) ?_
                    refine q_get (ci := 0) (j := 2) (v := .ref qA3) C0 V i_NH rfl rfl hO0 (by decide) w_426 rfl d_1_9_73 ?_
                    refine lv_iload_n hx hb d_1_9_76 rfl (lv_at hl 2 rfl) ?_
                    have r87 : x2.toNatClampNeg < 10 := (q_r10 (x := x2.toInt) rfl (by have t1 : 0 ≤ x2.toInt := q_nltI c23; have t2 : x2.toInt < 10 := q_nleI c24; omega) (by have t1 : 0 ≤ x2.toInt := q_nltI c23; have t2 : x2.toInt < 10 := q_nleI c24; omega))
                    have hr88 : ws[66 + 5 * x2.toNatClampNeg]? = (some (qW x2.toNatClampNeg, .inr (2, [.ref (qWL x2.toNatClampNeg), .int 0, .int 0])) : Option (Nat × va_E)) := FW _ r87
                    have hr89 : ws[67 + 5 * x2.toNatClampNeg]? = (some (qWL x2.toNatClampNeg, .inl (g 0, 68, .inl (fun _ => 0))) : Option (Nat × va_E)) := FWL _ r87
                    have hh : x2.toNatClampNeg < 10 := (q_r10 (x := x2.toInt) rfl (by have t1 : 0 ≤ x2.toInt := q_nltI c23; have t2 : x2.toInt < 10 := q_nleI c24; omega) (by have t1 : 0 ≤ x2.toInt := q_nltI c23; have t2 : x2.toInt < 10 := q_nleI c24; omega))
                    refine q_aald (t := 4) (q := qW x2.toNatClampNeg) C0 V hA3 rfl (q_ix (x := x2.toInt) rfl (by have t1 : 0 ≤ x2.toInt := q_nltI c23; have t2 : x2.toInt < 10 := q_nleI c24; omega) (by have t1 : 0 ≤ x2.toInt := q_nltI c23; have t2 : x2.toInt < 10 := q_nleI c24; omega)) (hfW _ hh) d_1_9_77 ?_
                    refine lv_astore (lv' := [(5, .ref (qW x2.toNatClampNeg)), (0, .ref qO0), (1, .int x1), (2, .int x2), (3, .int x3), (4, .int x4)]) hx hb d_1_9_78 hl (by decide) rfl (fun ls hl => ?_)
                    refine lv_iload_n hx hb d_1_9_80 rfl (lv_at hl 2 rfl) ?_
                    refine q_ti (v := 2) (q_Ieq (x := x1.toInt) (y := 2) rfl (by decide) (by have t1 : 0 ≤ x1.toInt := q_nltI c1; have t2 : x1.toInt ≤ 2 := q_nltI c8; have t3 : x1.toInt ≠ 0 := q_neI c73; have t4 : x1.toInt ≠ 1 := q_neI c80; omega)) ?_
                    refine lv_if_ne (tgt := 120) hx hb d_1_9_81 (by decide) (fun c90 => ?_) (fun c90 => absurd c90 (by decide))
                    refine lv_iload_n hx hb d_1_9_120 rfl (lv_at hl 2 rfl) ?_
                    refine q_ti (v := 2) (q_Ieq (x := x1.toInt) (y := 2) rfl (by decide) (by have t1 : 0 ≤ x1.toInt := q_nltI c1; have t2 : x1.toInt ≤ 2 := q_nltI c8; have t3 : x1.toInt ≠ 0 := q_neI c73; have t4 : x1.toInt ≠ 1 := q_neI c80; omega)) ?_
                    refine lv_iconst (v := 1) hx hb d_1_9_121 (by decide) ?_
                    refine lv_icmp_ne (tgt := 171) hx hb d_1_9_122 (by decide) (fun c91 => ?_) (fun c91 => absurd c91 (by decide))
                    refine lv_aload_n hx hb d_1_9_171 rfl (lv_at hl 1 rfl) ?_
                    refine q_get (ci := 0) (j := 6) (v := .ref qO7) C0 V i_NH rfl rfl hO0 (by decide) w_430 rfl d_1_9_172 ?_
                    refine lv_aload hx hb d_1_9_175 (lv_at hl 0 rfl) ?_
                    refine lv_iload_n hx hb d_1_9_177 rfl (lv_at hl 4 rfl) ?_
                    refine q_goi V (q_runV (As := [.ref (qW x2.toNatClampNeg), .int x3]) (rest := []) (d := 3) (mc := 0) (ms := 0) (ci := 4) C0 V rfl LV_NH_258 (c_Mil_shifted l D g ws 9 (66 + 5 * x2.toNatClampNeg) 10 (67 + 5 * x2.toNatClampNeg) 11 qO7 (qW x2.toNatClampNeg) qO17 qO18 qO19 qO20 qO21 qO22 qO23 qO24 qO25 qO26 (qWL x2.toNatClampNeg) qA35 x3 hO7 hr88 hO17 hr89 hA35 (q_f5 rfl) (q_f5 rfl) _) rfl rfl hO7 rfl hl.1 rfl (Nat.le_of_ble_eq_true rfl) ⟨by decide, by decide⟩ ⟨Nat.le_of_ble_eq_true rfl, Nat.le_of_ble_eq_true rfl⟩ d_1_9_178) (fun v94 u93 H locs hp92 V => ?_)
                    obtain ⟨rfl, hg95, hO17, hA35⟩ := hp92
                    replace hF := q_gc hF hg95 (q_al (Nat.le_of_ble_eq_true rfl) (q_al (Nat.le_of_ble_eq_true rfl) (fun _ h => absurd h List.not_mem_nil)))
                    refine q_goxv V (q_runSX (As := [.int 1]) (rest := []) (d := 7) (mc := 1) (ms := 6) C0 V rfl LS_NH_138 (c_NH_canHave l D g u93 hlt 1 _) rfl hl.1 rfl (Nat.le_of_ble_eq_true rfl) ⟨by decide, by decide⟩ ⟨Nat.le_of_ble_eq_true rfl, Nat.le_of_ble_eq_true rfl⟩ d_1_9_181) (fun qx Ex ce u97 H locs hp96 V hce hcv hcl => ?_) (fun u97 H locs hp96 V => ?_)
                    ·
                      obtain ⟨c98, rfl, rfl⟩ := hp96
                      exact absurd c98 (by decide)
                    ·
                      obtain ⟨c100, rfl⟩ := hp96
                      refine lv_aload_n hx hb d_1_9_184 rfl (lv_at hl 1 rfl) ?_
                      refine lv_iload hx hb d_1_9_185 (lv_at hl 5 rfl) ?_
                      replace hO0 := (hg95 _ (q_nc (q_pd 0 10 rfl) (q_nc (q_pd 0 11 rfl) List.not_mem_nil))).trans (hO0)
                      replace hA3 := (hg95 _ (q_nc (q_pd 5 10 rfl) (q_nc (q_pd 5 11 rfl) List.not_mem_nil))).trans (hA3)
                      replace hO7 := (hg95 _ (q_nc (q_pd 9 10 rfl) (q_nc (q_pd 9 11 rfl) List.not_mem_nil))).trans (hO7)
                      replace FW := fun (i : Nat) (hi : i < 10) => (hg95 _ (q_nc (q_f5 rfl) (q_nc (q_f5 rfl) List.not_mem_nil))).trans (FW i hi)
                      replace FWL := fun (i : Nat) (hi : i < 10) => (hg95 _ (q_nc (q_f5 rfl) (q_nc (q_f5 rfl) List.not_mem_nil))).trans (FWL i hi)
                      refine q_gov V (q_runV (As := [.int x4]) (rest := []) (d := 8) (mc := 1) (ms := 6) (ci := 0) C0 V rfl LV_NH_243 (c_NH_keepWhole l D g u93 hlt qO0 qO1 qO2 qA3 qA4 qA5 qA6 qO7 qO8 qO9 qO10 qO11 qO12 qO13 qO14 qO17 qO18 qO19 qO20 qO21 qO22 qO23 qO24 qO25 qO26 qA35 x4 f5 hO0 hA3 hO7 hO17 hA35 (q_Ile (x := 0) (y := x4.toInt) (by decide) rfl (by have t1 : 0 ≤ x4.toInt := q_nltI c49; have t2 : x4.toInt < 10 := q_nleI c50; omega)) (q_Ile (x := x4.toInt) (y := 9) rfl (by decide) (by have t1 : 0 ≤ x4.toInt := q_nltI c49; have t2 : x4.toInt < 10 := q_nleI c50; omega)) qW qWL qD qDN qDL hfW FW FWL _) rfl rfl hO0 rfl hl.1 rfl (Nat.le_of_ble_eq_true rfl) ⟨by decide, by decide⟩ ⟨Nat.le_of_ble_eq_true rfl, Nat.le_of_ble_eq_true rfl⟩ d_1_9_187) (fun u103 H locs hp102 V => ?_)
                      have hg104 := hp102
                      replace hF := q_gt hF hg104
                      exact q_retX (q_retv C0 V (⟨(show ((0 ≤ x1.toInt ∧ x1.toInt ≤ 2) ∧ (0 ≤ x2.toInt ∧ x2.toInt ≤ 9) ∧ (0 ≤ x4.toInt ∧ x4.toInt ≤ 9) ∧ (x1.toInt = 0 → 0 ≤ x3.toInt) ∧ (x1.toInt = 1 → (1 ≤ x3.toInt ∧ x3.toInt ≤ 64))) from by have t1 : 0 ≤ x1.toInt := q_nltI c1; have t2 : x1.toInt ≤ 2 := q_nltI c8; have t3 : 0 ≤ x2.toInt := q_nltI c23; have t4 : x2.toInt < 10 := q_nleI c24; have t5 : 0 ≤ x4.toInt := q_nltI c49; have t6 : x4.toInt < 10 := q_nleI c50; have t7 : x1.toInt ≠ 0 := q_neI c73; have t8 : x1.toInt ≠ 1 := q_neI c80; omega), hF⟩) d_1_9_190)
                ·
                  refine lv_iload_n hx hb d_1_9_53 rfl (lv_at hl 3 rfl) ?_
                  refine lv_iconst (v := 1) hx hb d_1_9_54 (by decide) ?_
                  refine lv_icmp_lt (tgt := 68) hx hb d_1_9_55 (by decide) (fun c105 => ?_) (fun c105 => ?_)
                  ·
                    refine lv_iconst (v := 0) hx hb d_1_9_68 (by decide) ?_
                    refine q_goxv V (q_runSX (As := [.int 0]) (rest := []) (d := 7) (mc := 1) (ms := 6) C0 V rfl LS_NH_104 (c_NH_need l D g ws hlt 0 _) rfl hl.1 rfl (Nat.le_of_ble_eq_true rfl) ⟨by decide, by decide⟩ ⟨Nat.le_of_ble_eq_true rfl, Nat.le_of_ble_eq_true rfl⟩ d_1_9_69) (fun qx Ex ce u107 H locs hp106 V hce hcv hcl => ?_) (fun u107 H locs hp106 V => ?_)
                    ·
                      obtain ⟨c108, rfl, rfl⟩ := hp106
                      exact q_outT hno C0 V (⟨⟨rfl, (show ¬ ((0 ≤ x1.toInt ∧ x1.toInt ≤ 2) ∧ (0 ≤ x2.toInt ∧ x2.toInt ≤ 9) ∧ (0 ≤ x4.toInt ∧ x4.toInt ≤ 9) ∧ (x1.toInt = 0 → 0 ≤ x3.toInt) ∧ (x1.toInt = 1 → (1 ≤ x3.toInt ∧ x3.toInt ≤ 64))) from by have t1 : 0 ≤ x1.toInt := q_nltI c1; have t2 : x1.toInt ≤ 2 := q_nltI c8; have t3 : 0 ≤ x2.toInt := q_nltI c23; have t4 : x2.toInt < 10 := q_nleI c24; have t5 : 0 ≤ x4.toInt := q_nltI c49; have t6 : x4.toInt < 10 := q_nleI c50; have t7 : x1.toInt ≠ 0 := q_neI c73; have t8 : x1.toInt = 1 := q_eqI c80; have t9 : x3.toInt < 1 := q_ltI c105; omega)⟩, hF⟩) hce hcv hcl (Nat.le_of_ble_eq_true rfl) (Nat.le_of_ble_eq_true rfl)
                    ·
                      obtain ⟨c110, rfl⟩ := hp106
                      exact absurd c110 (by decide)
                  ·
                    refine lv_iload_n hx hb d_1_9_58 rfl (lv_at hl 3 rfl) ?_
                    refine lv_bipush (v := 64) hx hb d_1_9_59 (by decide) ?_
                    refine lv_icmp_gt (tgt := 68) hx hb d_1_9_61 (by decide) (fun c112 => ?_) (fun c112 => ?_)
                    ·
                      refine lv_iconst (v := 0) hx hb d_1_9_68 (by decide) ?_
                      refine q_goxv V (q_runSX (As := [.int 0]) (rest := []) (d := 7) (mc := 1) (ms := 6) C0 V rfl LS_NH_104 (c_NH_need l D g ws hlt 0 _) rfl hl.1 rfl (Nat.le_of_ble_eq_true rfl) ⟨by decide, by decide⟩ ⟨Nat.le_of_ble_eq_true rfl, Nat.le_of_ble_eq_true rfl⟩ d_1_9_69) (fun qx Ex ce u114 H locs hp113 V hce hcv hcl => ?_) (fun u114 H locs hp113 V => ?_)
                      ·
                        obtain ⟨c115, rfl, rfl⟩ := hp113
                        exact q_outT hno C0 V (⟨⟨rfl, (show ¬ ((0 ≤ x1.toInt ∧ x1.toInt ≤ 2) ∧ (0 ≤ x2.toInt ∧ x2.toInt ≤ 9) ∧ (0 ≤ x4.toInt ∧ x4.toInt ≤ 9) ∧ (x1.toInt = 0 → 0 ≤ x3.toInt) ∧ (x1.toInt = 1 → (1 ≤ x3.toInt ∧ x3.toInt ≤ 64))) from by have t1 : 0 ≤ x1.toInt := q_nltI c1; have t2 : x1.toInt ≤ 2 := q_nltI c8; have t3 : 0 ≤ x2.toInt := q_nltI c23; have t4 : x2.toInt < 10 := q_nleI c24; have t5 : 0 ≤ x4.toInt := q_nltI c49; have t6 : x4.toInt < 10 := q_nleI c50; have t7 : x1.toInt ≠ 0 := q_neI c73; have t8 : x1.toInt = 1 := q_eqI c80; have t9 : 1 ≤ x3.toInt := q_nltI c105; have t10 : 64 < x3.toInt := q_ltI c112; omega)⟩, hF⟩) hce hcv hcl (Nat.le_of_ble_eq_true rfl) (Nat.le_of_ble_eq_true rfl)
                      ·
                        obtain ⟨c117, rfl⟩ := hp113
                        exact absurd c117 (by decide)
                    ·
                      refine lv_iconst (v := 1) hx hb d_1_9_64 (by decide) ?_
                      refine lv_goto (tgt := 69) hx hb d_1_9_65 (by decide) ?_
                      refine q_goxv V (q_runSX (As := [.int 1]) (rest := []) (d := 7) (mc := 1) (ms := 6) C0 V rfl LS_NH_104 (c_NH_need l D g ws hlt 1 _) rfl hl.1 rfl (Nat.le_of_ble_eq_true rfl) ⟨by decide, by decide⟩ ⟨Nat.le_of_ble_eq_true rfl, Nat.le_of_ble_eq_true rfl⟩ d_1_9_69) (fun qx Ex ce u120 H locs hp119 V hce hcv hcl => ?_) (fun u120 H locs hp119 V => ?_)
                      ·
                        obtain ⟨c121, rfl, rfl⟩ := hp119
                        exact absurd c121 (by decide)
                      ·
                        obtain ⟨c123, rfl⟩ := hp119
                        refine lv_aload_n hx hb d_1_9_72 rfl (lv_at hl 0 rfl) ?_
                        refine q_get (ci := 0) (j := 2) (v := .ref qA3) C0 V i_NH rfl rfl hO0 (by decide) w_426 rfl d_1_9_73 ?_
                        refine lv_iload_n hx hb d_1_9_76 rfl (lv_at hl 2 rfl) ?_
                        have r125 : x2.toNatClampNeg < 10 := (q_r10 (x := x2.toInt) rfl (by have t1 : 0 ≤ x2.toInt := q_nltI c23; have t2 : x2.toInt < 10 := q_nleI c24; omega) (by have t1 : 0 ≤ x2.toInt := q_nltI c23; have t2 : x2.toInt < 10 := q_nleI c24; omega))
                        have hr126 : ws[66 + 5 * x2.toNatClampNeg]? = (some (qW x2.toNatClampNeg, .inr (2, [.ref (qWL x2.toNatClampNeg), .int 0, .int 0])) : Option (Nat × va_E)) := FW _ r125
                        have hr127 : ws[67 + 5 * x2.toNatClampNeg]? = (some (qWL x2.toNatClampNeg, .inl (g 0, 68, .inl (fun _ => 0))) : Option (Nat × va_E)) := FWL _ r125
                        have hh : x2.toNatClampNeg < 10 := (q_r10 (x := x2.toInt) rfl (by have t1 : 0 ≤ x2.toInt := q_nltI c23; have t2 : x2.toInt < 10 := q_nleI c24; omega) (by have t1 : 0 ≤ x2.toInt := q_nltI c23; have t2 : x2.toInt < 10 := q_nleI c24; omega))
                        refine q_aald (t := 4) (q := qW x2.toNatClampNeg) C0 V hA3 rfl (q_ix (x := x2.toInt) rfl (by have t1 : 0 ≤ x2.toInt := q_nltI c23; have t2 : x2.toInt < 10 := q_nleI c24; omega) (by have t1 : 0 ≤ x2.toInt := q_nltI c23; have t2 : x2.toInt < 10 := q_nleI c24; omega)) (hfW _ hh) d_1_9_77 ?_
                        refine lv_astore (lv' := [(5, .ref (qW x2.toNatClampNeg)), (0, .ref qO0), (1, .int x1), (2, .int x2), (3, .int x3), (4, .int x4)]) hx hb d_1_9_78 hl (by decide) rfl (fun ls hl => ?_)
                        refine lv_iload_n hx hb d_1_9_80 rfl (lv_at hl 2 rfl) ?_
                        refine q_ti (v := 1) c80 ?_
                        refine lv_if_ne (tgt := 120) hx hb d_1_9_81 (by decide) (fun c128 => ?_) (fun c128 => absurd c128 (by decide))
                        refine lv_iload_n hx hb d_1_9_120 rfl (lv_at hl 2 rfl) ?_
                        refine q_ti (v := 1) c80 ?_
                        refine lv_iconst (v := 1) hx hb d_1_9_121 (by decide) ?_
                        refine lv_icmp_ne (tgt := 171) hx hb d_1_9_122 (by decide) (fun c129 => absurd (by decide) c129) (fun c129 => ?_)
                        refine lv_aload hx hb d_1_9_125 (lv_at hl 0 rfl) ?_
                        refine q_goi V (q_runV (As := []) (rest := []) (d := 1) (mc := 0) (ms := 0) (ci := 2) C0 V rfl LV_NH_225 (c_Big_sign l D g ws (66 + 5 * x2.toNatClampNeg) (qW x2.toNatClampNeg) (qWL x2.toNatClampNeg) 0 0 hr126 _) rfl rfl hr126 rfl hl.1 rfl (Nat.le_of_ble_eq_true rfl) ⟨by decide, by decide⟩ ⟨Nat.le_of_ble_eq_true rfl, Nat.le_of_ble_eq_true rfl⟩ d_1_9_127) (fun v132 u131 H locs hp130 V => ?_)
                        rcases hp130 with ⟨c133, c134, rfl, rfl⟩ | ⟨c136, c137, rfl, rfl⟩ | ⟨c139, rfl, rfl⟩
                        ·
                          exact absurd c133 (by decide)
                        ·
                          exact absurd c136 (by decide)
                        ·
                          refine lv_if_lt (tgt := 137) hx hb d_1_9_130 (by decide) (fun c141 => absurd c141 (by decide)) (fun c141 => ?_)
                          refine lv_iconst (v := 1) hx hb d_1_9_133 (by decide) ?_
                          refine lv_goto (tgt := 138) hx hb d_1_9_134 (by decide) ?_
                          refine q_goxv V (q_runSX (As := [.int 1]) (rest := []) (d := 7) (mc := 1) (ms := 6) C0 V rfl LS_NH_138 (c_NH_canHave l D g ws hlt 1 _) rfl hl.1 rfl (Nat.le_of_ble_eq_true rfl) ⟨by decide, by decide⟩ ⟨Nat.le_of_ble_eq_true rfl, Nat.le_of_ble_eq_true rfl⟩ d_1_9_138) (fun qx Ex ce u143 H locs hp142 V hce hcv hcl => ?_) (fun u143 H locs hp142 V => ?_)
                          ·
                            obtain ⟨c144, rfl, rfl⟩ := hp142
                            exact absurd c144 (by decide)
                          ·
                            obtain ⟨c146, rfl⟩ := hp142
                            refine lv_aload_n hx hb d_1_9_141 rfl (lv_at hl 1 rfl) ?_
                            refine q_get (ci := 0) (j := 6) (v := .ref qO7) C0 V i_NH rfl rfl hO0 (by decide) w_430 rfl d_1_9_142 ?_
                            refine lv_aload hx hb d_1_9_145 (lv_at hl 0 rfl) ?_
                            refine lv_iload_n hx hb d_1_9_147 rfl (lv_at hl 4 rfl) ?_
                            refine q_gov V (q_runV (As := [.ref (qW x2.toNatClampNeg), .int x3]) (rest := []) (d := 3) (mc := 0) (ms := 0) (ci := 4) C0 V rfl LV_NH_252 (c_Mil_root l D g ws 9 (66 + 5 * x2.toNatClampNeg) 16 (67 + 5 * x2.toNatClampNeg) 17 qO7 (qW x2.toNatClampNeg) qO17 qO18 qO19 qO20 qO21 qO22 qO23 qO24 qO25 qO26 (qWL x2.toNatClampNeg) qA38 x3 hO7 hr126 hO20 hr127 hA38 (q_f5 rfl) (q_f5 rfl) (q_Ile (x := 1) (y := x3.toInt) (by decide) rfl (by have t1 : 1 ≤ x3.toInt := q_nltI c105; have t2 : x3.toInt ≤ 64 := q_nltI c112; omega)) (q_Ile (x := x3.toInt) (y := 64) rfl (by decide) (by have t1 : 1 ≤ x3.toInt := q_nltI c105; have t2 : x3.toInt ≤ 64 := q_nltI c112; omega)) _) rfl rfl hO7 rfl hl.1 rfl (Nat.le_of_ble_eq_true rfl) ⟨by decide, by decide⟩ ⟨Nat.le_of_ble_eq_true rfl, Nat.le_of_ble_eq_true rfl⟩ d_1_9_148) (fun u149 H locs hp148 V => ?_)
                            obtain ⟨hg150, hO20, hA38⟩ := hp148
                            replace hF := q_gc hF hg150 (q_al (Nat.le_of_ble_eq_true rfl) (q_al (Nat.le_of_ble_eq_true rfl) (fun _ h => absurd h List.not_mem_nil)))
                            refine lv_aload_n hx hb d_1_9_151 rfl (lv_at hl 1 rfl) ?_
                            replace hO0 := (hg150 _ (q_nc (q_pd 0 16 rfl) (q_nc (q_pd 0 17 rfl) List.not_mem_nil))).trans (hO0)
                            refine q_get (ci := 0) (j := 6) (v := .ref qO7) C0 V i_NH rfl rfl hO0 (by decide) w_430 rfl d_1_9_152 ?_
                            replace hO7 := (hg150 _ (q_nc (q_pd 9 16 rfl) (q_nc (q_pd 9 17 rfl) List.not_mem_nil))).trans (hO7)
                            refine q_get (ci := 4) (j := 0) (v := .ref qO17) C0 V i_Mil rfl rfl hO7 (by decide) w_112 rfl d_1_9_155 ?_
                            refine lv_aload_n hx hb d_1_9_158 rfl (lv_at hl 1 rfl) ?_
                            refine q_get (ci := 0) (j := 6) (v := .ref qO7) C0 V i_NH rfl rfl hO0 (by decide) w_430 rfl d_1_9_159 ?_
                            refine q_get (ci := 4) (j := 3) (v := .ref qO20) C0 V i_Mil rfl rfl hO7 (by decide) w_121 rfl d_1_9_162 ?_
                            replace hO17 := (hg150 _ (q_nc (q_pd 10 16 rfl) (q_nc (q_pd 10 17 rfl) List.not_mem_nil))).trans (hO17)
                            replace hA35 := (hg150 _ (q_nc (q_pd 11 16 rfl) (q_nc (q_pd 11 17 rfl) List.not_mem_nil))).trans (hA35)
                            refine q_gov V (q_runV (As := [.ref qO20]) (rest := []) (d := 2) (mc := 0) (ms := 0) (ci := 2) C0 V rfl LV_NH_145 (c_Big_copy_4 l D g u149 10 16 11 17 qO17 qO20 qA35 qA38 hO17 hO20 hA35 hA38 (q_pd 17 11 rfl) (q_pd 16 10 rfl) _) rfl rfl hO17 rfl hl.1 rfl (Nat.le_of_ble_eq_true rfl) ⟨by decide, by decide⟩ ⟨Nat.le_of_ble_eq_true rfl, Nat.le_of_ble_eq_true rfl⟩ d_1_9_165) (fun u152 H locs hp151 V => ?_)
                            obtain ⟨hg153, hO17, hA35⟩ := hp151
                            replace hF := q_gc hF hg153 (q_al (Nat.le_of_ble_eq_true rfl) (q_al (Nat.le_of_ble_eq_true rfl) (fun _ h => absurd h List.not_mem_nil)))
                            refine lv_goto (tgt := 184) hx hb d_1_9_168 (by decide) ?_
                            refine lv_aload_n hx hb d_1_9_184 rfl (lv_at hl 1 rfl) ?_
                            refine lv_iload hx hb d_1_9_185 (lv_at hl 5 rfl) ?_
                            replace hO0 := (hg153 _ (q_nc (q_pd 0 10 rfl) (q_nc (q_pd 0 11 rfl) List.not_mem_nil))).trans (hO0)
                            replace hA3 := (hg153 _ (q_nc (q_pd 5 10 rfl) (q_nc (q_pd 5 11 rfl) List.not_mem_nil))).trans ((hg150 _ (q_nc (q_pd 5 16 rfl) (q_nc (q_pd 5 17 rfl) List.not_mem_nil))).trans (hA3))
                            replace hO7 := (hg153 _ (q_nc (q_pd 9 10 rfl) (q_nc (q_pd 9 11 rfl) List.not_mem_nil))).trans (hO7)
                            replace FW := fun (i : Nat) (hi : i < 10) => (hg153 _ (q_nc (q_f5 rfl) (q_nc (q_f5 rfl) List.not_mem_nil))).trans ((hg150 _ (q_nc (q_f5 rfl) (q_nc (q_f5 rfl) List.not_mem_nil))).trans (FW i hi))
                            replace FWL := fun (i : Nat) (hi : i < 10) => (hg153 _ (q_nc (q_f5 rfl) (q_nc (q_f5 rfl) List.not_mem_nil))).trans ((hg150 _ (q_nc (q_f5 rfl) (q_nc (q_f5 rfl) List.not_mem_nil))).trans (FWL i hi))
                            refine q_gov V (q_runV (As := [.int x4]) (rest := []) (d := 8) (mc := 1) (ms := 6) (ci := 0) C0 V rfl LV_NH_243 (c_NH_keepWhole l D g u152 hlt qO0 qO1 qO2 qA3 qA4 qA5 qA6 qO7 qO8 qO9 qO10 qO11 qO12 qO13 qO14 qO17 qO18 qO19 qO20 qO21 qO22 qO23 qO24 qO25 qO26 qA35 x4 f5 hO0 hA3 hO7 hO17 hA35 (q_Ile (x := 0) (y := x4.toInt) (by decide) rfl (by have t1 : 0 ≤ x4.toInt := q_nltI c49; have t2 : x4.toInt < 10 := q_nleI c50; omega)) (q_Ile (x := x4.toInt) (y := 9) rfl (by decide) (by have t1 : 0 ≤ x4.toInt := q_nltI c49; have t2 : x4.toInt < 10 := q_nleI c50; omega)) qW qWL qD qDN qDL hfW FW FWL _) rfl rfl hO0 rfl hl.1 rfl (Nat.le_of_ble_eq_true rfl) ⟨by decide, by decide⟩ ⟨Nat.le_of_ble_eq_true rfl, Nat.le_of_ble_eq_true rfl⟩ d_1_9_187) (fun u155 H locs hp154 V => ?_)
                            have hg156 := hp154
                            replace hF := q_gt hF hg156
                            exact q_retX (q_retv C0 V (⟨(show ((0 ≤ x1.toInt ∧ x1.toInt ≤ 2) ∧ (0 ≤ x2.toInt ∧ x2.toInt ≤ 9) ∧ (0 ≤ x4.toInt ∧ x4.toInt ≤ 9) ∧ (x1.toInt = 0 → 0 ≤ x3.toInt) ∧ (x1.toInt = 1 → (1 ≤ x3.toInt ∧ x3.toInt ≤ 64))) from by have t1 : 0 ≤ x1.toInt := q_nltI c1; have t2 : x1.toInt ≤ 2 := q_nltI c8; have t3 : 0 ≤ x2.toInt := q_nltI c23; have t4 : x2.toInt < 10 := q_nleI c24; have t5 : 0 ≤ x4.toInt := q_nltI c49; have t6 : x4.toInt < 10 := q_nleI c50; have t7 : x1.toInt ≠ 0 := q_neI c73; have t8 : x1.toInt = 1 := q_eqI c80; have t9 : 1 ≤ x3.toInt := q_nltI c105; have t10 : x3.toInt ≤ 64 := q_nltI c112; omega), hF⟩) d_1_9_190)
            ·
              refine lv_iload_n hx hb d_1_9_36 rfl (lv_at hl 3 rfl) ?_
              refine lv_if_lt (tgt := 44) hx hb d_1_9_37 (by decide) (fun c157 => ?_) (fun c157 => ?_)
              ·
                refine lv_iconst (v := 0) hx hb d_1_9_44 (by decide) ?_
                refine q_goxv V (q_runSX (As := [.int 0]) (rest := []) (d := 7) (mc := 1) (ms := 6) C0 V rfl LS_NH_104 (c_NH_need l D g ws hlt 0 _) rfl hl.1 rfl (Nat.le_of_ble_eq_true rfl) ⟨by decide, by decide⟩ ⟨Nat.le_of_ble_eq_true rfl, Nat.le_of_ble_eq_true rfl⟩ d_1_9_45) (fun qx Ex ce u159 H locs hp158 V hce hcv hcl => ?_) (fun u159 H locs hp158 V => ?_)
                ·
                  obtain ⟨c160, rfl, rfl⟩ := hp158
                  exact q_outT hno C0 V (⟨⟨rfl, (show ¬ ((0 ≤ x1.toInt ∧ x1.toInt ≤ 2) ∧ (0 ≤ x2.toInt ∧ x2.toInt ≤ 9) ∧ (0 ≤ x4.toInt ∧ x4.toInt ≤ 9) ∧ (x1.toInt = 0 → 0 ≤ x3.toInt) ∧ (x1.toInt = 1 → (1 ≤ x3.toInt ∧ x3.toInt ≤ 64))) from by have t1 : 0 ≤ x1.toInt := q_nltI c1; have t2 : x1.toInt ≤ 2 := q_nltI c8; have t3 : 0 ≤ x2.toInt := q_nltI c23; have t4 : x2.toInt < 10 := q_nleI c24; have t5 : 0 ≤ x4.toInt := q_nltI c49; have t6 : x4.toInt < 10 := q_nleI c50; have t7 : x1.toInt = 0 := q_eqI c73; have t8 : x3.toInt < 0 := q_ltI c157; omega)⟩, hF⟩) hce hcv hcl (Nat.le_of_ble_eq_true rfl) (Nat.le_of_ble_eq_true rfl)
                ·
                  obtain ⟨c162, rfl⟩ := hp158
                  exact absurd c162 (by decide)
              ·
                refine lv_iconst (v := 1) hx hb d_1_9_40 (by decide) ?_
                refine lv_goto (tgt := 45) hx hb d_1_9_41 (by decide) ?_
                refine q_goxv V (q_runSX (As := [.int 1]) (rest := []) (d := 7) (mc := 1) (ms := 6) C0 V rfl LS_NH_104 (c_NH_need l D g ws hlt 1 _) rfl hl.1 rfl (Nat.le_of_ble_eq_true rfl) ⟨by decide, by decide⟩ ⟨Nat.le_of_ble_eq_true rfl, Nat.le_of_ble_eq_true rfl⟩ d_1_9_45) (fun qx Ex ce u165 H locs hp164 V hce hcv hcl => ?_) (fun u165 H locs hp164 V => ?_)
                ·
                  obtain ⟨c166, rfl, rfl⟩ := hp164
                  exact absurd c166 (by decide)
                ·
                  obtain ⟨c168, rfl⟩ := hp164
                  refine lv_iload_n hx hb d_1_9_48 rfl (lv_at hl 1 rfl) ?_
                  refine q_ti (v := 0) c73 ?_
                  refine lv_iconst (v := 1) hx hb d_1_9_49 (by decide) ?_
                  refine lv_icmp_ne (tgt := 64) hx hb d_1_9_50 (by decide) (fun c170 => ?_) (fun c170 => absurd c170 (by decide))
                  refine lv_iconst (v := 1) hx hb d_1_9_64 (by decide) ?_
                  refine lv_goto (tgt := 69) hx hb d_1_9_65 (by decide) ?_
                  refine q_goxv V (q_runSX (As := [.int 1]) (rest := []) (d := 7) (mc := 1) (ms := 6) C0 V rfl LS_NH_104 (c_NH_need l D g ws hlt 1 _) rfl hl.1 rfl (Nat.le_of_ble_eq_true rfl) ⟨by decide, by decide⟩ ⟨Nat.le_of_ble_eq_true rfl, Nat.le_of_ble_eq_true rfl⟩ d_1_9_69) (fun qx Ex ce u172 H locs hp171 V hce hcv hcl => ?_) (fun u172 H locs hp171 V => ?_)
                  ·
                    obtain ⟨c173, rfl, rfl⟩ := hp171
                    exact absurd c173 (by decide)
                  ·
                    obtain ⟨c175, rfl⟩ := hp171
                    refine lv_aload_n hx hb d_1_9_72 rfl (lv_at hl 0 rfl) ?_
                    refine q_get (ci := 0) (j := 2) (v := .ref qA3) C0 V i_NH rfl rfl hO0 (by decide) w_426 rfl d_1_9_73 ?_
                    refine lv_iload_n hx hb d_1_9_76 rfl (lv_at hl 2 rfl) ?_
                    have r177 : x2.toNatClampNeg < 10 := (q_r10 (x := x2.toInt) rfl (by have t1 : 0 ≤ x2.toInt := q_nltI c23; have t2 : x2.toInt < 10 := q_nleI c24; omega) (by have t1 : 0 ≤ x2.toInt := q_nltI c23; have t2 : x2.toInt < 10 := q_nleI c24; omega))
                    have hr178 : ws[66 + 5 * x2.toNatClampNeg]? = (some (qW x2.toNatClampNeg, .inr (2, [.ref (qWL x2.toNatClampNeg), .int 0, .int 0])) : Option (Nat × va_E)) := FW _ r177
                    have hr179 : ws[67 + 5 * x2.toNatClampNeg]? = (some (qWL x2.toNatClampNeg, .inl (g 0, 68, .inl (fun _ => 0))) : Option (Nat × va_E)) := FWL _ r177
                    have hh : x2.toNatClampNeg < 10 := (q_r10 (x := x2.toInt) rfl (by have t1 : 0 ≤ x2.toInt := q_nltI c23; have t2 : x2.toInt < 10 := q_nleI c24; omega) (by have t1 : 0 ≤ x2.toInt := q_nltI c23; have t2 : x2.toInt < 10 := q_nleI c24; omega))
                    refine q_aald (t := 4) (q := qW x2.toNatClampNeg) C0 V hA3 rfl (q_ix (x := x2.toInt) rfl (by have t1 : 0 ≤ x2.toInt := q_nltI c23; have t2 : x2.toInt < 10 := q_nleI c24; omega) (by have t1 : 0 ≤ x2.toInt := q_nltI c23; have t2 : x2.toInt < 10 := q_nleI c24; omega)) (hfW _ hh) d_1_9_77 ?_
                    refine lv_astore (lv' := [(5, .ref (qW x2.toNatClampNeg)), (0, .ref qO0), (1, .int x1), (2, .int x2), (3, .int x3), (4, .int x4)]) hx hb d_1_9_78 hl (by decide) rfl (fun ls hl => ?_)
                    refine lv_iload_n hx hb d_1_9_80 rfl (lv_at hl 2 rfl) ?_
                    refine q_ti (v := 0) c73 ?_
                    refine lv_if_ne (tgt := 120) hx hb d_1_9_81 (by decide) (fun c180 => absurd (by decide) c180) (fun c180 => ?_)
                    refine lv_aload_n hx hb d_1_9_84 rfl (lv_at hl 1 rfl) ?_
                    refine q_get (ci := 0) (j := 6) (v := .ref qO7) C0 V i_NH rfl rfl hO0 (by decide) w_430 rfl d_1_9_85 ?_
                    refine lv_aload hx hb d_1_9_88 (lv_at hl 0 rfl) ?_
                    refine lv_iload_n hx hb d_1_9_90 rfl (lv_at hl 4 rfl) ?_
                    refine lv_sipush (v := 2048) hx hb d_1_9_91 (by decide) ?_
                    refine q_goi V (q_runV (As := [.ref (qW x2.toNatClampNeg), .int x3, .int 2048]) (rest := []) (d := 4) (mc := 0) (ms := 0) (ci := 4) C0 V rfl LV_NH_246 (c_Mil_power l D g ws 9 (66 + 5 * x2.toNatClampNeg) 14 18 15 19 qO7 (qW x2.toNatClampNeg) qO17 qO18 qO19 qO20 qO21 qO22 qO23 qO24 qO25 qO26 (qWL x2.toNatClampNeg) qA37 qA39 x3 hO7 hr178 hO19 hO21 hA37 hA39 (q_pd 15 19 rfl) (q_f5 rfl) (q_f5 rfl) (q_pd 14 18 rfl) _) rfl rfl hO7 rfl hl.1 rfl (Nat.le_of_ble_eq_true rfl) ⟨by decide, by decide⟩ ⟨Nat.le_of_ble_eq_true rfl, Nat.le_of_ble_eq_true rfl⟩ d_1_9_94) (fun v183 u182 H locs hp181 V => ?_)
                    rcases hp181 with ⟨y184, y185, y186, rfl, hg187, hO19, hO21, hA37, hA39⟩ | ⟨y188, y189, y190, rfl, hg191, hO19, hO21, hA37, hA39⟩
                    ·
                      replace hF := q_gc hF hg187 (q_al (Nat.le_of_ble_eq_true rfl) (q_al (Nat.le_of_ble_eq_true rfl) (q_al (Nat.le_of_ble_eq_true rfl) (q_al (Nat.le_of_ble_eq_true rfl) (fun _ h => absurd h List.not_mem_nil)))))
                      refine q_goxv V (q_runSX (As := [.int 1]) (rest := []) (d := 7) (mc := 1) (ms := 6) C0 V rfl LS_NH_138 (c_NH_canHave l D g u182 hlt 1 _) rfl hl.1 rfl (Nat.le_of_ble_eq_true rfl) ⟨by decide, by decide⟩ ⟨Nat.le_of_ble_eq_true rfl, Nat.le_of_ble_eq_true rfl⟩ d_1_9_97) (fun qx Ex ce u193 H locs hp192 V hce hcv hcl => ?_) (fun u193 H locs hp192 V => ?_)
                      ·
                        obtain ⟨c194, rfl, rfl⟩ := hp192
                        exact absurd c194 (by decide)
                      ·
                        obtain ⟨c196, rfl⟩ := hp192
                        refine lv_aload_n hx hb d_1_9_100 rfl (lv_at hl 1 rfl) ?_
                        replace hO0 := (hg187 _ (q_nc (q_pd 0 14 rfl) (q_nc (q_pd 0 18 rfl) (q_nc (q_pd 0 15 rfl) (q_nc (q_pd 0 19 rfl) List.not_mem_nil))))).trans (hO0)
                        refine q_get (ci := 0) (j := 6) (v := .ref qO7) C0 V i_NH rfl rfl hO0 (by decide) w_430 rfl d_1_9_101 ?_
                        replace hO7 := (hg187 _ (q_nc (q_pd 9 14 rfl) (q_nc (q_pd 9 18 rfl) (q_nc (q_pd 9 15 rfl) (q_nc (q_pd 9 19 rfl) List.not_mem_nil))))).trans (hO7)
                        refine q_get (ci := 4) (j := 0) (v := .ref qO17) C0 V i_Mil rfl rfl hO7 (by decide) w_112 rfl d_1_9_104 ?_
                        refine lv_aload_n hx hb d_1_9_107 rfl (lv_at hl 1 rfl) ?_
                        refine q_get (ci := 0) (j := 6) (v := .ref qO7) C0 V i_NH rfl rfl hO0 (by decide) w_430 rfl d_1_9_108 ?_
                        refine q_get (ci := 4) (j := 2) (v := .ref qO19) C0 V i_Mil rfl rfl hO7 (by decide) w_119 rfl d_1_9_111 ?_
                        replace hO17 := (hg187 _ (q_nc (q_pd 10 14 rfl) (q_nc (q_pd 10 18 rfl) (q_nc (q_pd 10 15 rfl) (q_nc (q_pd 10 19 rfl) List.not_mem_nil))))).trans (hO17)
                        replace hA35 := (hg187 _ (q_nc (q_pd 11 14 rfl) (q_nc (q_pd 11 18 rfl) (q_nc (q_pd 11 15 rfl) (q_nc (q_pd 11 19 rfl) List.not_mem_nil))))).trans (hA35)
                        refine q_gov V (q_runV (As := [.ref qO19]) (rest := []) (d := 2) (mc := 0) (ms := 0) (ci := 2) C0 V rfl LV_NH_145 (c_Big_copy_8 l D g u182 10 14 11 15 qO17 qO19 qA35 qA37 y185 hO17 hO19 hA35 hA37 (q_pd 15 11 rfl) (q_pd 14 10 rfl) _) rfl rfl hO17 rfl hl.1 rfl (Nat.le_of_ble_eq_true rfl) ⟨by decide, by decide⟩ ⟨Nat.le_of_ble_eq_true rfl, Nat.le_of_ble_eq_true rfl⟩ d_1_9_114) (fun u199 H locs hp198 V => ?_)
                        obtain ⟨hg200, hO17, hA35⟩ := hp198
                        replace hF := q_gc hF hg200 (q_al (Nat.le_of_ble_eq_true rfl) (q_al (Nat.le_of_ble_eq_true rfl) (fun _ h => absurd h List.not_mem_nil)))
                        refine lv_goto (tgt := 184) hx hb d_1_9_117 (by decide) ?_
                        refine lv_aload_n hx hb d_1_9_184 rfl (lv_at hl 1 rfl) ?_
                        refine lv_iload hx hb d_1_9_185 (lv_at hl 5 rfl) ?_
                        replace hO0 := (hg200 _ (q_nc (q_pd 0 10 rfl) (q_nc (q_pd 0 11 rfl) List.not_mem_nil))).trans (hO0)
                        replace hA3 := (hg200 _ (q_nc (q_pd 5 10 rfl) (q_nc (q_pd 5 11 rfl) List.not_mem_nil))).trans ((hg187 _ (q_nc (q_pd 5 14 rfl) (q_nc (q_pd 5 18 rfl) (q_nc (q_pd 5 15 rfl) (q_nc (q_pd 5 19 rfl) List.not_mem_nil))))).trans (hA3))
                        replace hO7 := (hg200 _ (q_nc (q_pd 9 10 rfl) (q_nc (q_pd 9 11 rfl) List.not_mem_nil))).trans (hO7)
                        replace FW := fun (i : Nat) (hi : i < 10) => (hg200 _ (q_nc (q_f5 rfl) (q_nc (q_f5 rfl) List.not_mem_nil))).trans ((hg187 _ (q_nc (q_f5 rfl) (q_nc (q_f5 rfl) (q_nc (q_f5 rfl) (q_nc (q_f5 rfl) List.not_mem_nil))))).trans (FW i hi))
                        replace FWL := fun (i : Nat) (hi : i < 10) => (hg200 _ (q_nc (q_f5 rfl) (q_nc (q_f5 rfl) List.not_mem_nil))).trans ((hg187 _ (q_nc (q_f5 rfl) (q_nc (q_f5 rfl) (q_nc (q_f5 rfl) (q_nc (q_f5 rfl) List.not_mem_nil))))).trans (FWL i hi))
                        refine q_gov V (q_runV (As := [.int x4]) (rest := []) (d := 8) (mc := 1) (ms := 6) (ci := 0) C0 V rfl LV_NH_243 (c_NH_keepWhole l D g u199 hlt qO0 qO1 qO2 qA3 qA4 qA5 qA6 qO7 qO8 qO9 qO10 qO11 qO12 qO13 qO14 qO17 qO18 qO19 qO20 qO21 qO22 qO23 qO24 qO25 qO26 qA35 x4 f5 hO0 hA3 hO7 hO17 hA35 (q_Ile (x := 0) (y := x4.toInt) (by decide) rfl (by have t1 : 0 ≤ x4.toInt := q_nltI c49; have t2 : x4.toInt < 10 := q_nleI c50; omega)) (q_Ile (x := x4.toInt) (y := 9) rfl (by decide) (by have t1 : 0 ≤ x4.toInt := q_nltI c49; have t2 : x4.toInt < 10 := q_nleI c50; omega)) qW qWL qD qDN qDL hfW FW FWL _) rfl rfl hO0 rfl hl.1 rfl (Nat.le_of_ble_eq_true rfl) ⟨by decide, by decide⟩ ⟨Nat.le_of_ble_eq_true rfl, Nat.le_of_ble_eq_true rfl⟩ d_1_9_187) (fun u202 H locs hp201 V => ?_)
                        have hg203 := hp201
                        replace hF := q_gt hF hg203
                        exact q_retX (q_retv C0 V (⟨(show ((0 ≤ x1.toInt ∧ x1.toInt ≤ 2) ∧ (0 ≤ x2.toInt ∧ x2.toInt ≤ 9) ∧ (0 ≤ x4.toInt ∧ x4.toInt ≤ 9) ∧ (x1.toInt = 0 → 0 ≤ x3.toInt) ∧ (x1.toInt = 1 → (1 ≤ x3.toInt ∧ x3.toInt ≤ 64))) from by have t1 : 0 ≤ x1.toInt := q_nltI c1; have t2 : x1.toInt ≤ 2 := q_nltI c8; have t3 : 0 ≤ x2.toInt := q_nltI c23; have t4 : x2.toInt < 10 := q_nleI c24; have t5 : 0 ≤ x4.toInt := q_nltI c49; have t6 : x4.toInt < 10 := q_nleI c50; have t7 : x1.toInt = 0 := q_eqI c73; have t8 : 0 ≤ x3.toInt := q_nltI c157; omega), hF⟩) d_1_9_190)
                    ·
                      replace hF := q_gc hF hg191 (q_al (Nat.le_of_ble_eq_true rfl) (q_al (Nat.le_of_ble_eq_true rfl) (q_al (Nat.le_of_ble_eq_true rfl) (q_al (Nat.le_of_ble_eq_true rfl) (fun _ h => absurd h List.not_mem_nil)))))
                      refine q_goxv V (q_runSX (As := [.int 1]) (rest := []) (d := 7) (mc := 1) (ms := 6) C0 V rfl LS_NH_138 (c_NH_canHave l D g u182 hlt 1 _) rfl hl.1 rfl (Nat.le_of_ble_eq_true rfl) ⟨by decide, by decide⟩ ⟨Nat.le_of_ble_eq_true rfl, Nat.le_of_ble_eq_true rfl⟩ d_1_9_97) (fun qx Ex ce u205 H locs hp204 V hce hcv hcl => ?_) (fun u205 H locs hp204 V => ?_)
                      ·
                        obtain ⟨c206, rfl, rfl⟩ := hp204
                        exact absurd c206 (by decide)
                      ·
                        obtain ⟨c208, rfl⟩ := hp204
                        refine lv_aload_n hx hb d_1_9_100 rfl (lv_at hl 1 rfl) ?_
                        replace hO0 := (hg191 _ (q_nc (q_pd 0 14 rfl) (q_nc (q_pd 0 18 rfl) (q_nc (q_pd 0 15 rfl) (q_nc (q_pd 0 19 rfl) List.not_mem_nil))))).trans (hO0)
                        refine q_get (ci := 0) (j := 6) (v := .ref qO7) C0 V i_NH rfl rfl hO0 (by decide) w_430 rfl d_1_9_101 ?_
                        replace hO7 := (hg191 _ (q_nc (q_pd 9 14 rfl) (q_nc (q_pd 9 18 rfl) (q_nc (q_pd 9 15 rfl) (q_nc (q_pd 9 19 rfl) List.not_mem_nil))))).trans (hO7)
                        refine q_get (ci := 4) (j := 0) (v := .ref qO17) C0 V i_Mil rfl rfl hO7 (by decide) w_112 rfl d_1_9_104 ?_
                        refine lv_aload_n hx hb d_1_9_107 rfl (lv_at hl 1 rfl) ?_
                        refine q_get (ci := 0) (j := 6) (v := .ref qO7) C0 V i_NH rfl rfl hO0 (by decide) w_430 rfl d_1_9_108 ?_
                        refine q_get (ci := 4) (j := 2) (v := .ref qO19) C0 V i_Mil rfl rfl hO7 (by decide) w_119 rfl d_1_9_111 ?_
                        replace hO17 := (hg191 _ (q_nc (q_pd 10 14 rfl) (q_nc (q_pd 10 18 rfl) (q_nc (q_pd 10 15 rfl) (q_nc (q_pd 10 19 rfl) List.not_mem_nil))))).trans (hO17)
                        replace hA35 := (hg191 _ (q_nc (q_pd 11 14 rfl) (q_nc (q_pd 11 18 rfl) (q_nc (q_pd 11 15 rfl) (q_nc (q_pd 11 19 rfl) List.not_mem_nil))))).trans (hA35)
                        refine q_gov V (q_runV (As := [.ref qO19]) (rest := []) (d := 2) (mc := 0) (ms := 0) (ci := 2) C0 V rfl LV_NH_145 (c_Big_copy_9 l D g u182 10 14 11 15 qO17 qO19 qA35 qA37 y189 hO17 hO19 hA35 hA37 (q_pd 15 11 rfl) (q_pd 14 10 rfl) _) rfl rfl hO17 rfl hl.1 rfl (Nat.le_of_ble_eq_true rfl) ⟨by decide, by decide⟩ ⟨Nat.le_of_ble_eq_true rfl, Nat.le_of_ble_eq_true rfl⟩ d_1_9_114) (fun u211 H locs hp210 V => ?_)
                        obtain ⟨hg212, hO17, hA35⟩ := hp210
                        replace hF := q_gc hF hg212 (q_al (Nat.le_of_ble_eq_true rfl) (q_al (Nat.le_of_ble_eq_true rfl) (fun _ h => absurd h List.not_mem_nil)))
                        refine lv_goto (tgt := 184) hx hb d_1_9_117 (by decide) ?_
                        refine lv_aload_n hx hb d_1_9_184 rfl (lv_at hl 1 rfl) ?_
                        refine lv_iload hx hb d_1_9_185 (lv_at hl 5 rfl) ?_
                        replace hO0 := (hg212 _ (q_nc (q_pd 0 10 rfl) (q_nc (q_pd 0 11 rfl) List.not_mem_nil))).trans (hO0)
                        replace hA3 := (hg212 _ (q_nc (q_pd 5 10 rfl) (q_nc (q_pd 5 11 rfl) List.not_mem_nil))).trans ((hg191 _ (q_nc (q_pd 5 14 rfl) (q_nc (q_pd 5 18 rfl) (q_nc (q_pd 5 15 rfl) (q_nc (q_pd 5 19 rfl) List.not_mem_nil))))).trans (hA3))
                        replace hO7 := (hg212 _ (q_nc (q_pd 9 10 rfl) (q_nc (q_pd 9 11 rfl) List.not_mem_nil))).trans (hO7)
                        replace FW := fun (i : Nat) (hi : i < 10) => (hg212 _ (q_nc (q_f5 rfl) (q_nc (q_f5 rfl) List.not_mem_nil))).trans ((hg191 _ (q_nc (q_f5 rfl) (q_nc (q_f5 rfl) (q_nc (q_f5 rfl) (q_nc (q_f5 rfl) List.not_mem_nil))))).trans (FW i hi))
                        replace FWL := fun (i : Nat) (hi : i < 10) => (hg212 _ (q_nc (q_f5 rfl) (q_nc (q_f5 rfl) List.not_mem_nil))).trans ((hg191 _ (q_nc (q_f5 rfl) (q_nc (q_f5 rfl) (q_nc (q_f5 rfl) (q_nc (q_f5 rfl) List.not_mem_nil))))).trans (FWL i hi))
                        refine q_gov V (q_runV (As := [.int x4]) (rest := []) (d := 8) (mc := 1) (ms := 6) (ci := 0) C0 V rfl LV_NH_243 (c_NH_keepWhole_2 l D g u211 hlt qO0 qO1 qO2 qA3 qA4 qA5 qA6 qO7 qO8 qO9 qO10 qO11 qO12 qO13 qO14 qO17 qO18 qO19 qO20 qO21 qO22 qO23 qO24 qO25 qO26 qA35 x4 f5 hO0 hA3 hO7 hO17 hA35 (q_Ile (x := 0) (y := x4.toInt) (by decide) rfl (by have t1 : 0 ≤ x4.toInt := q_nltI c49; have t2 : x4.toInt < 10 := q_nleI c50; omega)) (q_Ile (x := x4.toInt) (y := 9) rfl (by decide) (by have t1 : 0 ≤ x4.toInt := q_nltI c49; have t2 : x4.toInt < 10 := q_nleI c50; omega)) qW qWL qD qDN qDL hfW FW FWL _) rfl rfl hO0 rfl hl.1 rfl (Nat.le_of_ble_eq_true rfl) ⟨by decide, by decide⟩ ⟨Nat.le_of_ble_eq_true rfl, Nat.le_of_ble_eq_true rfl⟩ d_1_9_187) (fun u214 H locs hp213 V => ?_)
                        have hg215 := hp213
                        replace hF := q_gt hF hg215
                        exact q_retX (q_retv C0 V (⟨(show ((0 ≤ x1.toInt ∧ x1.toInt ≤ 2) ∧ (0 ≤ x2.toInt ∧ x2.toInt ≤ 9) ∧ (0 ≤ x4.toInt ∧ x4.toInt ≤ 9) ∧ (x1.toInt = 0 → 0 ≤ x3.toInt) ∧ (x1.toInt = 1 → (1 ≤ x3.toInt ∧ x3.toInt ≤ 64))) from by have t1 : 0 ≤ x1.toInt := q_nltI c1; have t2 : x1.toInt ≤ 2 := q_nltI c8; have t3 : 0 ≤ x2.toInt := q_nltI c23; have t4 : x2.toInt < 10 := q_nleI c24; have t5 : 0 ≤ x4.toInt := q_nltI c49; have t6 : x4.toInt < 10 := q_nleI c50; have t7 : x1.toInt = 0 := q_eqI c73; have t8 : 0 ≤ x3.toInt := q_nltI c157; omega), hF⟩) d_1_9_190)
