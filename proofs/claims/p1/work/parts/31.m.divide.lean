/-! the reference on a fresh object: divide -/
theorem d_15_3_10 : decode prog_15_method_3_code 10 = .ok (.iconst 1, 1) := by decide +kernel
theorem d_15_3_11 : decode prog_15_method_3_code 11 = .ok (.goto 4, 3) := by decide +kernel
set_option maxRecDepth 100000 in
set_option maxHeartbeats 4000000 in
theorem c_DR_no_2 (l : Launch) (D : va_G) (g : Nat → ClassId) (ws : va_W) (x1 : Int32) : q_mI l y_DR_no prog_15_method_3_code 1 (.boolean) 1 0 0 D g [.int x1] ws (fun r u => (x1 < 0 ∧ 1 = r ∧ ws = u) ∨ (¬ x1 < 0 ∧ x1 < 10 ∧ 0 = r ∧ ws = u) ∨ (¬ x1 < 0 ∧ ¬ x1 < 10 ∧ 1 = r ∧ ws = u)) := by
  intro sz
  refine q_into (by decide) (Nat.le_of_ble_eq_true rfl) ?_
  intro p e s m below meth c ls hsz C0 V hl
  have hx := C0.1
  have hb := C0.2.1
  have hl : lv_has ls 1 [(0, .int x1)] := hl
  refine lv_iload_n hx hb d_15_3_0 rfl (lv_at hl 0 rfl) ?_
  refine lv_if_lt (tgt := 10) hx hb d_15_3_1 (by decide) (fun c1 => ?_) (fun c1 => ?_)
  ·
    refine lv_iconst (v := 1) hx hb d_15_3_10 (by decide) ?_
    refine lv_goto (tgt := 15) hx hb d_15_3_11 (by decide) ?_
    exact q_retz C0 V (rfl) (Or.inl ⟨c1, rfl, rfl⟩) d_15_3_15
  ·
    refine lv_iload_n hx hb d_15_3_4 rfl (lv_at hl 0 rfl) ?_
    refine lv_bipush (v := 10) hx hb d_15_3_5 (by decide) ?_
    refine lv_icmp_lt (tgt := 14) hx hb d_15_3_7 (by decide) (fun c2 => ?_) (fun c2 => ?_)
    ·
      refine lv_iconst (v := 0) hx hb d_15_3_14 (by decide) ?_
      exact q_retz C0 V (rfl) (Or.inr (Or.inl ⟨c1, c2, rfl, rfl⟩)) d_15_3_15
    ·
      refine lv_iconst (v := 1) hx hb d_15_3_10 (by decide) ?_
      refine lv_goto (tgt := 15) hx hb d_15_3_11 (by decide) ?_
      exact q_retz C0 V (rfl) (Or.inr (Or.inr (⟨c1, c2, rfl, rfl⟩))) d_15_3_15
theorem d_15_4_0 : decode prog_15_method_4_code 0 = .ok (.iload_n 0, 1) := by decide +kernel
theorem d_15_4_1 : decode prog_15_method_4_code 1 = .ok (.ifCond .lt 9, 3) := by decide +kernel
theorem d_15_4_10 : decode prog_15_method_4_code 10 = .ok (.iconst 1, 1) := by decide +kernel
theorem d_15_4_11 : decode prog_15_method_4_code 11 = .ok (.goto 4, 3) := by decide +kernel
theorem d_15_4_15 : decode prog_15_method_4_code 15 = .ok (.ireturn, 1) := by decide +kernel
theorem d_15_4_4 : decode prog_15_method_4_code 4 = .ok (.iload_n 0, 1) := by decide +kernel
theorem d_15_4_5 : decode prog_15_method_4_code 5 = .ok (.bipush 7, 2) := by decide +kernel
theorem d_15_4_7 : decode prog_15_method_4_code 7 = .ok (.if_icmp .le 7, 3) := by decide +kernel
theorem d_15_4_14 : decode prog_15_method_4_code 14 = .ok (.iconst 0, 1) := by decide +kernel
def y_DR_noMode : MethodName := ⟨"NumberHouseModel$DecimalRows", "noMode", "(I)Z"⟩
set_option maxRecDepth 100000 in
set_option maxHeartbeats 4000000 in
theorem c_DR_noMode (l : Launch) (D : va_G) (g : Nat → ClassId) (ws : va_W) (x1 : Int32) : q_mI l y_DR_noMode prog_15_method_4_code 1 (.boolean) 1 0 0 D g [.int x1] ws (fun r u => (x1 < 0 ∧ 1 = r ∧ ws = u) ∨ (¬ x1 < 0 ∧ x1 ≤ 7 ∧ 0 = r ∧ ws = u) ∨ (¬ x1 < 0 ∧ ¬ x1 ≤ 7 ∧ 1 = r ∧ ws = u)) := by
  intro sz
  refine q_into (by decide) (Nat.le_of_ble_eq_true rfl) ?_
  intro p e s m below meth c ls hsz C0 V hl
  have hx := C0.1
  have hb := C0.2.1
  have hl : lv_has ls 1 [(0, .int x1)] := hl
  refine lv_iload_n hx hb d_15_4_0 rfl (lv_at hl 0 rfl) ?_
  refine lv_if_lt (tgt := 10) hx hb d_15_4_1 (by decide) (fun c1 => ?_) (fun c1 => ?_)
  ·
    refine lv_iconst (v := 1) hx hb d_15_4_10 (by decide) ?_
    refine lv_goto (tgt := 15) hx hb d_15_4_11 (by decide) ?_
    exact q_retz C0 V (rfl) (Or.inl ⟨c1, rfl, rfl⟩) d_15_4_15
  ·
    refine lv_iload_n hx hb d_15_4_4 rfl (lv_at hl 0 rfl) ?_
    refine lv_bipush (v := 7) hx hb d_15_4_5 (by decide) ?_
    refine lv_icmp_le (tgt := 14) hx hb d_15_4_7 (by decide) (fun c2 => ?_) (fun c2 => ?_)
    ·
      refine lv_iconst (v := 0) hx hb d_15_4_14 (by decide) ?_
      exact q_retz C0 V (rfl) (Or.inr (Or.inl ⟨c1, c2, rfl, rfl⟩)) d_15_4_15
    ·
      refine lv_iconst (v := 1) hx hb d_15_4_10 (by decide) ?_
      refine lv_goto (tgt := 15) hx hb d_15_4_11 (by decide) ?_
      exact q_retz C0 V (rfl) (Or.inr (Or.inr (⟨c1, c2, rfl, rfl⟩))) d_15_4_15
theorem d_15_37_0 : decode prog_15_method_37_code 0 = .ok (.aload_n 0, 1) := by decide +kernel
theorem d_15_37_1 : decode prog_15_method_37_code 1 = .ok (.iload_n 1, 1) := by decide +kernel
theorem d_15_37_2 : decode prog_15_method_37_code 2 = .ok (.invokestatic 113, 3) := by decide +kernel
theorem d_15_37_5 : decode prog_15_method_37_code 5 = .ok (.ifCond .ne 41, 3) := by decide +kernel
theorem d_15_37_46 : decode prog_15_method_37_code 46 = .ok (.iconst 1, 1) := by decide +kernel
theorem d_15_37_47 : decode prog_15_method_37_code 47 = .ok (.goto 16, 3) := by decide +kernel
theorem d_15_37_63 : decode prog_15_method_37_code 63 = .ok (.putfield 41, 3) := by decide +kernel
theorem d_15_37_66 : decode prog_15_method_37_code 66 = .ok (.aload_n 0, 1) := by decide +kernel
theorem d_15_37_67 : decode prog_15_method_37_code 67 = .ok (.getfield 41, 3) := by decide +kernel
theorem d_15_37_70 : decode prog_15_method_37_code 70 = .ok (.ifCond .le 4, 3) := by decide +kernel
theorem d_15_37_73 : decode prog_15_method_37_code 73 = .ok (.return_, 1) := by decide +kernel
theorem d_15_37_8 : decode prog_15_method_37_code 8 = .ok (.iload_n 2, 1) := by decide +kernel
theorem d_15_37_9 : decode prog_15_method_37_code 9 = .ok (.invokestatic 113, 3) := by decide +kernel
theorem d_15_37_12 : decode prog_15_method_37_code 12 = .ok (.ifCond .ne 34, 3) := by decide +kernel
theorem d_15_37_15 : decode prog_15_method_37_code 15 = .ok (.iload_n 3, 1) := by decide +kernel
theorem d_15_37_16 : decode prog_15_method_37_code 16 = .ok (.invokestatic 113, 3) := by decide +kernel
theorem d_15_37_19 : decode prog_15_method_37_code 19 = .ok (.ifCond .ne 27, 3) := by decide +kernel
theorem d_15_37_22 : decode prog_15_method_37_code 22 = .ok (.iload 5, 2) := by decide +kernel
theorem d_15_37_24 : decode prog_15_method_37_code 24 = .ok (.invokestatic 147, 3) := by decide +kernel
theorem w_2874 : (Cond.code ({ cls := "NumberHouseModel$DecimalRows", name := "noMode", desc := "(I)Z" } : MethodName) prog_15_method_4_code (1 : Nat) (some .boolean)) ∈ q_tbl := q_of 2874 (by decide +kernel) (by decide +kernel)
theorem w_2872 : (Cond.methodLink "NumberHouseModel$DecimalRows" (147 : Nat) ({ cls := "NumberHouseModel$DecimalRows", name := "noMode", desc := "(I)Z" } : MethodName)) ∈ q_tbl := q_of 2872 (by decide +kernel) (by decide +kernel)
theorem w_2873 : (Cond.static ({ cls := "NumberHouseModel$DecimalRows", name := "noMode", desc := "(I)Z" } : MethodName)) ∈ q_tbl := q_of 2873 (by decide +kernel) (by decide +kernel)
theorem LS_DR_147 : q_LS "NumberHouseModel$DecimalRows" 147 y_DR_noMode prog_15_method_4_code 1 (some .boolean) 1 := ⟨w_2874, w_16, w_2872, w_2873, ⟨by decide, by decide, by decide +kernel⟩⟩
theorem d_15_37_27 : decode prog_15_method_37_code 27 = .ok (.ifCond .ne 19, 3) := by decide +kernel
theorem d_15_37_30 : decode prog_15_method_37_code 30 = .ok (.iload 4, 2) := by decide +kernel
theorem d_15_37_32 : decode prog_15_method_37_code 32 = .ok (.sipush (-10000), 3) := by decide +kernel
theorem d_15_37_35 : decode prog_15_method_37_code 35 = .ok (.if_icmp .lt 11, 3) := by decide +kernel
theorem d_15_37_38 : decode prog_15_method_37_code 38 = .ok (.iload 4, 2) := by decide +kernel
theorem d_15_37_40 : decode prog_15_method_37_code 40 = .ok (.sipush 10000, 3) := by decide +kernel
theorem d_15_37_43 : decode prog_15_method_37_code 43 = .ok (.if_icmp .le 7, 3) := by decide +kernel
theorem d_15_37_50 : decode prog_15_method_37_code 50 = .ok (.aload_n 0, 1) := by decide +kernel
theorem d_15_37_51 : decode prog_15_method_37_code 51 = .ok (.iload_n 2, 1) := by decide +kernel
theorem d_15_37_52 : decode prog_15_method_37_code 52 = .ok (.invokevirtual 120, 3) := by decide +kernel
theorem d_15_37_55 : decode prog_15_method_37_code 55 = .ok (.ifCond .eq 7, 3) := by decide +kernel
theorem d_15_37_58 : decode prog_15_method_37_code 58 = .ok (.iconst 2, 1) := by decide +kernel
theorem d_15_37_59 : decode prog_15_method_37_code 59 = .ok (.goto 4, 3) := by decide +kernel
def y_DR_divide : MethodName := ⟨"NumberHouseModel$DecimalRows", "divide", "(IIIII)V"⟩
set_option maxRecDepth 100000 in
set_option maxHeartbeats 4000000 in
theorem c_DR_divide (l : Launch) (D : va_G) (g : Nat → ClassId) (ws : va_W) (kO0 kA2 qO0 qA1 qA2 qA3 qA4 qA5 qA6 qA7 qA8 qA9 qA10 : Nat) (x1 : Int32) (x2 : Int32) (x3 : Int32) (x4 : Int32) (x5 : Int32) (hO0 : ws[kO0]? = (some (qO0, .inr (14, [.int 0, .ref qA1, .int 0, .ref qA2, .ref qA3, .ref qA4, .ref qA5, .ref qA6, .int 0, .long 0, .int 0, .int 0, .ref qA7, .int 0, .ref qA8, .int 0, .ref qA9, .int 0, .ref qA10, .int 0, .int 0])) : Option (Nat × va_E))) (hA2 : ws[kA2]? = (some (qA2, .inl (g 0, 10000, .inl (fun _ => 0))) : Option (Nat × va_E))) : q_mV l y_DR_divide prog_15_method_37_code 12 2 0 0 D g [.ref qO0, .int x1, .int x2, .int x3, .int x4, .int x5] ws (fun u => (x1 < 0 ∧ q_un ws u [kO0] ∧ u[kO0]? = (some (qO0, .inr (14, [.int 1, .ref qA1, .int 0, .ref qA2, .ref qA3, .ref qA4, .ref qA5, .ref qA6, .int 0, .long 0, .int 0, .int 0, .ref qA7, .int 0, .ref qA8, .int 0, .ref qA9, .int 0, .ref qA10, .int 0, .int 0])) : Option (Nat × va_E))) ∨ (¬ x1 < 0 ∧ x1 < 10 ∧ x2 < 0 ∧ q_un ws u [kO0] ∧ u[kO0]? = (some (qO0, .inr (14, [.int 1, .ref qA1, .int 0, .ref qA2, .ref qA3, .ref qA4, .ref qA5, .ref qA6, .int 0, .long 0, .int 0, .int 0, .ref qA7, .int 0, .ref qA8, .int 0, .ref qA9, .int 0, .ref qA10, .int 0, .int 0])) : Option (Nat × va_E))) ∨ (¬ x1 < 0 ∧ x1 < 10 ∧ ¬ x2 < 0 ∧ x2 < 10 ∧ x3 < 0 ∧ q_un ws u [kO0] ∧ u[kO0]? = (some (qO0, .inr (14, [.int 1, .ref qA1, .int 0, .ref qA2, .ref qA3, .ref qA4, .ref qA5, .ref qA6, .int 0, .long 0, .int 0, .int 0, .ref qA7, .int 0, .ref qA8, .int 0, .ref qA9, .int 0, .ref qA10, .int 0, .int 0])) : Option (Nat × va_E))) ∨ (¬ x1 < 0 ∧ x1 < 10 ∧ ¬ x2 < 0 ∧ x2 < 10 ∧ ¬ x3 < 0 ∧ x3 < 10 ∧ x5 < 0 ∧ q_un ws u [kO0] ∧ u[kO0]? = (some (qO0, .inr (14, [.int 1, .ref qA1, .int 0, .ref qA2, .ref qA3, .ref qA4, .ref qA5, .ref qA6, .int 0, .long 0, .int 0, .int 0, .ref qA7, .int 0, .ref qA8, .int 0, .ref qA9, .int 0, .ref qA10, .int 0, .int 0])) : Option (Nat × va_E))) ∨ (¬ x1 < 0 ∧ x1 < 10 ∧ ¬ x2 < 0 ∧ x2 < 10 ∧ ¬ x3 < 0 ∧ x3 < 10 ∧ ¬ x5 < 0 ∧ x5 ≤ 7 ∧ x4 < (-10000) ∧ q_un ws u [kO0] ∧ u[kO0]? = (some (qO0, .inr (14, [.int 1, .ref qA1, .int 0, .ref qA2, .ref qA3, .ref qA4, .ref qA5, .ref qA6, .int 0, .long 0, .int 0, .int 0, .ref qA7, .int 0, .ref qA8, .int 0, .ref qA9, .int 0, .ref qA10, .int 0, .int 0])) : Option (Nat × va_E))) ∨ (¬ x1 < 0 ∧ x1 < 10 ∧ ¬ x2 < 0 ∧ x2 < 10 ∧ ¬ x3 < 0 ∧ x3 < 10 ∧ ¬ x5 < 0 ∧ x5 ≤ 7 ∧ ¬ x4 < (-10000) ∧ x4 ≤ 10000 ∧ q_un ws u [kO0] ∧ u[kO0]? = (some (qO0, .inr (14, [.int 2, .ref qA1, .int 0, .ref qA2, .ref qA3, .ref qA4, .ref qA5, .ref qA6, .int 0, .long 0, .int 0, .int 0, .ref qA7, .int 0, .ref qA8, .int 0, .ref qA9, .int 0, .ref qA10, .int 0, .int 0])) : Option (Nat × va_E))) ∨ (¬ x1 < 0 ∧ x1 < 10 ∧ ¬ x2 < 0 ∧ x2 < 10 ∧ ¬ x3 < 0 ∧ x3 < 10 ∧ ¬ x5 < 0 ∧ x5 ≤ 7 ∧ ¬ x4 < (-10000) ∧ ¬ x4 ≤ 10000 ∧ q_un ws u [kO0] ∧ u[kO0]? = (some (qO0, .inr (14, [.int 1, .ref qA1, .int 0, .ref qA2, .ref qA3, .ref qA4, .ref qA5, .ref qA6, .int 0, .long 0, .int 0, .int 0, .ref qA7, .int 0, .ref qA8, .int 0, .ref qA9, .int 0, .ref qA10, .int 0, .int 0])) : Option (Nat × va_E))) ∨ (¬ x1 < 0 ∧ x1 < 10 ∧ ¬ x2 < 0 ∧ x2 < 10 ∧ ¬ x3 < 0 ∧ x3 < 10 ∧ ¬ x5 < 0 ∧ ¬ x5 ≤ 7 ∧ q_un ws u [kO0] ∧ u[kO0]? = (some (qO0, .inr (14, [.int 1, .ref qA1, .int 0, .ref qA2, .ref qA3, .ref qA4, .ref qA5, .ref qA6, .int 0, .long 0, .int 0, .int 0, .ref qA7, .int 0, .ref qA8, .int 0, .ref qA9, .int 0, .ref qA10, .int 0, .int 0])) : Option (Nat × va_E))) ∨ (¬ x1 < 0 ∧ x1 < 10 ∧ ¬ x2 < 0 ∧ x2 < 10 ∧ ¬ x3 < 0 ∧ ¬ x3 < 10 ∧ q_un ws u [kO0] ∧ u[kO0]? = (some (qO0, .inr (14, [.int 1, .ref qA1, .int 0, .ref qA2, .ref qA3, .ref qA4, .ref qA5, .ref qA6, .int 0, .long 0, .int 0, .int 0, .ref qA7, .int 0, .ref qA8, .int 0, .ref qA9, .int 0, .ref qA10, .int 0, .int 0])) : Option (Nat × va_E))) ∨ (¬ x1 < 0 ∧ x1 < 10 ∧ ¬ x2 < 0 ∧ ¬ x2 < 10 ∧ q_un ws u [kO0] ∧ u[kO0]? = (some (qO0, .inr (14, [.int 1, .ref qA1, .int 0, .ref qA2, .ref qA3, .ref qA4, .ref qA5, .ref qA6, .int 0, .long 0, .int 0, .int 0, .ref qA7, .int 0, .ref qA8, .int 0, .ref qA9, .int 0, .ref qA10, .int 0, .int 0])) : Option (Nat × va_E))) ∨ (¬ x1 < 0 ∧ ¬ x1 < 10 ∧ q_un ws u [kO0] ∧ u[kO0]? = (some (qO0, .inr (14, [.int 1, .ref qA1, .int 0, .ref qA2, .ref qA3, .ref qA4, .ref qA5, .ref qA6, .int 0, .long 0, .int 0, .int 0, .ref qA7, .int 0, .ref qA8, .int 0, .ref qA9, .int 0, .ref qA10, .int 0, .int 0])) : Option (Nat × va_E)))) := by
  intro sz
  refine q_into (by decide) (Nat.le_of_ble_eq_true rfl) ?_
  intro p e s m below meth c ls hsz C0 V hl
  have hx := C0.1
  have hb := C0.2.1
  have hl : lv_has ls 12 [(0, .ref qO0), (1, .int x1), (2, .int x2), (3, .int x3), (4, .int x4), (5, .int x5)] := hl
  have n_A2_O0 := q_df hA2 hO0
  have hF : q_un ws ws [kO0] := q_u0
  refine lv_aload_n hx hb d_15_37_0 rfl (lv_at hl 0 rfl) ?_
  refine lv_iload_n hx hb d_15_37_1 rfl (lv_at hl 1 rfl) ?_
  refine q_goi V (q_runS (As := [.int x1]) (rest := [.ref qO0]) (d := 1) (mc := 0) (ms := 0) C0 V rfl LS_DR_113 (c_DR_no_2 l D g ws x1 _) rfl hl.1 rfl (Nat.le_of_ble_eq_true rfl) ⟨by decide, by decide⟩ ⟨Nat.le_of_ble_eq_true rfl, Nat.le_of_ble_eq_true rfl⟩ d_15_37_2) (fun v3 u2 H locs hp1 V => ?_)
  rcases hp1 with ⟨c4, rfl, rfl⟩ | ⟨c6, c7, rfl, rfl⟩ | ⟨c9, c10, rfl, rfl⟩
  ·
    refine lv_if_ne (tgt := 46) hx hb d_15_37_5 (by decide) (fun c12 => ?_) (fun c12 => absurd c12 (by decide))
    refine lv_iconst (v := 1) hx hb d_15_37_46 (by decide) ?_
    refine lv_goto (tgt := 63) hx hb d_15_37_47 (by decide) ?_
    refine q_put (ci := 14) (j := 0) (v := .int 1) (ty := .int) C0 V i_DR o_DR n_DR rfl rfl hO0 (by decide) w_1996 rfl rfl rfl rfl (Nat.le_of_ble_eq_true rfl) d_15_37_63 (fun H locs w13 hu14 hO0 V => ?_)
    replace hO0 : w13[kO0]? = (some (qO0, .inr (14, [.int 1, .ref qA1, .int 0, .ref qA2, .ref qA3, .ref qA4, .ref qA5, .ref qA6, .int 0, .long 0, .int 0, .int 0, .ref qA7, .int 0, .ref qA8, .int 0, .ref qA9, .int 0, .ref qA10, .int 0, .int 0])) : Option (Nat × va_E)) := hO0
    replace hF := q_us hF hu14 (.head _)
    refine lv_aload_n hx hb d_15_37_66 rfl (lv_at hl 0 rfl) ?_
    refine q_get (ci := 14) (j := 0) (v := .int 1) C0 V i_DR rfl rfl hO0 (by decide) w_1996 rfl d_15_37_67 ?_
    refine lv_if_le (tgt := 74) hx hb d_15_37_70 (by decide) (fun c15 => absurd c15 (by decide)) (fun c15 => ?_)
    exact q_retv C0 V (Or.inl ⟨c4, hF, hO0⟩) d_15_37_73
  ·
    refine lv_if_ne (tgt := 46) hx hb d_15_37_5 (by decide) (fun c16 => absurd (by decide) c16) (fun c16 => ?_)
    refine lv_iload_n hx hb d_15_37_8 rfl (lv_at hl 2 rfl) ?_
    refine q_goi V (q_runS (As := [.int x2]) (rest := [.ref qO0]) (d := 1) (mc := 0) (ms := 0) C0 V rfl LS_DR_113 (c_DR_no_2 l D g ws x2 _) rfl hl.1 rfl (Nat.le_of_ble_eq_true rfl) ⟨by decide, by decide⟩ ⟨Nat.le_of_ble_eq_true rfl, Nat.le_of_ble_eq_true rfl⟩ d_15_37_9) (fun v19 u18 H locs hp17 V => ?_)
    rcases hp17 with ⟨c20, rfl, rfl⟩ | ⟨c22, c23, rfl, rfl⟩ | ⟨c25, c26, rfl, rfl⟩
    ·
      refine lv_if_ne (tgt := 46) hx hb d_15_37_12 (by decide) (fun c28 => ?_) (fun c28 => absurd c28 (by decide))
      refine lv_iconst (v := 1) hx hb d_15_37_46 (by decide) ?_
      refine lv_goto (tgt := 63) hx hb d_15_37_47 (by decide) ?_
      refine q_put (ci := 14) (j := 0) (v := .int 1) (ty := .int) C0 V i_DR o_DR n_DR rfl rfl hO0 (by decide) w_1996 rfl rfl rfl rfl (Nat.le_of_ble_eq_true rfl) d_15_37_63 (fun H locs w29 hu30 hO0 V => ?_)
      replace hO0 : w29[kO0]? = (some (qO0, .inr (14, [.int 1, .ref qA1, .int 0, .ref qA2, .ref qA3, .ref qA4, .ref qA5, .ref qA6, .int 0, .long 0, .int 0, .int 0, .ref qA7, .int 0, .ref qA8, .int 0, .ref qA9, .int 0, .ref qA10, .int 0, .int 0])) : Option (Nat × va_E)) := hO0
      replace hF := q_us hF hu30 (.head _)
      refine lv_aload_n hx hb d_15_37_66 rfl (lv_at hl 0 rfl) ?_
      refine q_get (ci := 14) (j := 0) (v := .int 1) C0 V i_DR rfl rfl hO0 (by decide) w_1996 rfl d_15_37_67 ?_
      refine lv_if_le (tgt := 74) hx hb d_15_37_70 (by decide) (fun c31 => absurd c31 (by decide)) (fun c31 => ?_)
      exact q_retv C0 V (Or.inr (Or.inl ⟨c6, c7, c20, hF, hO0⟩)) d_15_37_73
    ·
      refine lv_if_ne (tgt := 46) hx hb d_15_37_12 (by decide) (fun c32 => absurd (by decide) c32) (fun c32 => ?_)
      refine lv_iload_n hx hb d_15_37_15 rfl (lv_at hl 3 rfl) ?_
      refine q_goi V (q_runS (As := [.int x3]) (rest := [.ref qO0]) (d := 1) (mc := 0) (ms := 0) C0 V rfl LS_DR_113 (c_DR_no_2 l D g ws x3 _) rfl hl.1 rfl (Nat.le_of_ble_eq_true rfl) ⟨by decide, by decide⟩ ⟨Nat.le_of_ble_eq_true rfl, Nat.le_of_ble_eq_true rfl⟩ d_15_37_16) (fun v35 u34 H locs hp33 V => ?_)
      rcases hp33 with ⟨c36, rfl, rfl⟩ | ⟨c38, c39, rfl, rfl⟩ | ⟨c41, c42, rfl, rfl⟩
      ·
        refine lv_if_ne (tgt := 46) hx hb d_15_37_19 (by decide) (fun c44 => ?_) (fun c44 => absurd c44 (by decide))
        refine lv_iconst (v := 1) hx hb d_15_37_46 (by decide) ?_
        refine lv_goto (tgt := 63) hx hb d_15_37_47 (by decide) ?_
        refine q_put (ci := 14) (j := 0) (v := .int 1) (ty := .int) C0 V i_DR o_DR n_DR rfl rfl hO0 (by decide) w_1996 rfl rfl rfl rfl (Nat.le_of_ble_eq_true rfl) d_15_37_63 (fun H locs w45 hu46 hO0 V => ?_)
        replace hO0 : w45[kO0]? = (some (qO0, .inr (14, [.int 1, .ref qA1, .int 0, .ref qA2, .ref qA3, .ref qA4, .ref qA5, .ref qA6, .int 0, .long 0, .int 0, .int 0, .ref qA7, .int 0, .ref qA8, .int 0, .ref qA9, .int 0, .ref qA10, .int 0, .int 0])) : Option (Nat × va_E)) := hO0
        replace hF := q_us hF hu46 (.head _)
        refine lv_aload_n hx hb d_15_37_66 rfl (lv_at hl 0 rfl) ?_
        refine q_get (ci := 14) (j := 0) (v := .int 1) C0 V i_DR rfl rfl hO0 (by decide) w_1996 rfl d_15_37_67 ?_
        refine lv_if_le (tgt := 74) hx hb d_15_37_70 (by decide) (fun c47 => absurd c47 (by decide)) (fun c47 => ?_)
        exact q_retv C0 V (Or.inr (Or.inr (Or.inl ⟨c6, c7, c22, c23, c36, hF, hO0⟩))) d_15_37_73
      ·
        refine lv_if_ne (tgt := 46) hx hb d_15_37_19 (by decide) (fun c48 => absurd (by decide) c48) (fun c48 => ?_)
        refine lv_iload hx hb d_15_37_22 (lv_at hl 5 rfl) ?_
        refine q_goi V (q_runS (As := [.int x5]) (rest := [.ref qO0]) (d := 1) (mc := 0) (ms := 0) C0 V rfl LS_DR_147 (c_DR_noMode l D g ws x5 _) rfl hl.1 rfl (Nat.le_of_ble_eq_true rfl) ⟨by decide, by decide⟩ ⟨Nat.le_of_ble_eq_true rfl, Nat.le_of_ble_eq_true rfl⟩ d_15_37_24) (fun v51 u50 H locs hp49 V => ?_)
        rcases hp49 with ⟨c52, rfl, rfl⟩ | ⟨c54, c55, rfl, rfl⟩ | ⟨c57, c58, rfl, rfl⟩
        ·
          refine lv_if_ne (tgt := 46) hx hb d_15_37_27 (by decide) (fun c60 => ?_) (fun c60 => absurd c60 (by decide))
          refine lv_iconst (v := 1) hx hb d_15_37_46 (by decide) ?_
          refine lv_goto (tgt := 63) hx hb d_15_37_47 (by decide) ?_
          refine q_put (ci := 14) (j := 0) (v := .int 1) (ty := .int) C0 V i_DR o_DR n_DR rfl rfl hO0 (by decide) w_1996 rfl rfl rfl rfl (Nat.le_of_ble_eq_true rfl) d_15_37_63 (fun H locs w61 hu62 hO0 V => ?_)
          replace hO0 : w61[kO0]? = (some (qO0, .inr (14, [.int 1, .ref qA1, .int 0, .ref qA2, .ref qA3, .ref qA4, .ref qA5, .ref qA6, .int 0, .long 0, .int 0, .int 0, .ref qA7, .int 0, .ref qA8, .int 0, .ref qA9, .int 0, .ref qA10, .int 0, .int 0])) : Option (Nat × va_E)) := hO0
          replace hF := q_us hF hu62 (.head _)
          refine lv_aload_n hx hb d_15_37_66 rfl (lv_at hl 0 rfl) ?_
          refine q_get (ci := 14) (j := 0) (v := .int 1) C0 V i_DR rfl rfl hO0 (by decide) w_1996 rfl d_15_37_67 ?_
          refine lv_if_le (tgt := 74) hx hb d_15_37_70 (by decide) (fun c63 => absurd c63 (by decide)) (fun c63 => ?_)
          exact q_retv C0 V (Or.inr (Or.inr (Or.inr (Or.inl ⟨c6, c7, c22, c23, c38, c39, c52, hF, hO0⟩)))) d_15_37_73
        ·
          refine lv_if_ne (tgt := 46) hx hb d_15_37_27 (by decide) (fun c64 => absurd (by decide) c64) (fun c64 => ?_)
          refine lv_iload hx hb d_15_37_30 (lv_at hl 4 rfl) ?_
          refine lv_sipush (v := (-10000)) hx hb d_15_37_32 (by decide) ?_
          refine lv_icmp_lt (tgt := 46) hx hb d_15_37_35 (by decide) (fun c65 => ?_) (fun c65 => ?_)
          ·
            refine lv_iconst (v := 1) hx hb d_15_37_46 (by decide) ?_
            refine lv_goto (tgt := 63) hx hb d_15_37_47 (by decide) ?_
            refine q_put (ci := 14) (j := 0) (v := .int 1) (ty := .int) C0 V i_DR o_DR n_DR rfl rfl hO0 (by decide) w_1996 rfl rfl rfl rfl (Nat.le_of_ble_eq_true rfl) d_15_37_63 (fun H locs w66 hu67 hO0 V => ?_)
            replace hO0 : w66[kO0]? = (some (qO0, .inr (14, [.int 1, .ref qA1, .int 0, .ref qA2, .ref qA3, .ref qA4, .ref qA5, .ref qA6, .int 0, .long 0, .int 0, .int 0, .ref qA7, .int 0, .ref qA8, .int 0, .ref qA9, .int 0, .ref qA10, .int 0, .int 0])) : Option (Nat × va_E)) := hO0
            replace hF := q_us hF hu67 (.head _)
            refine lv_aload_n hx hb d_15_37_66 rfl (lv_at hl 0 rfl) ?_
            refine q_get (ci := 14) (j := 0) (v := .int 1) C0 V i_DR rfl rfl hO0 (by decide) w_1996 rfl d_15_37_67 ?_
            refine lv_if_le (tgt := 74) hx hb d_15_37_70 (by decide) (fun c68 => absurd c68 (by decide)) (fun c68 => ?_)
            exact q_retv C0 V (Or.inr (Or.inr (Or.inr (Or.inr (Or.inl ⟨c6, c7, c22, c23, c38, c39, c54, c55, c65, hF, hO0⟩))))) d_15_37_73
          ·
            refine lv_iload hx hb d_15_37_38 (lv_at hl 4 rfl) ?_
            refine lv_sipush (v := 10000) hx hb d_15_37_40 (by decide) ?_
            refine lv_icmp_le (tgt := 50) hx hb d_15_37_43 (by decide) (fun c69 => ?_) (fun c69 => ?_)
            ·
              refine lv_aload_n hx hb d_15_37_50 rfl (lv_at hl 0 rfl) ?_
              refine lv_iload_n hx hb d_15_37_51 rfl (lv_at hl 2 rfl) ?_
              refine q_goi V (q_runV (As := [.int x2]) (rest := [.ref qO0]) (d := 1) (mc := 0) (ms := 0) (ci := 14) C0 V rfl LV_DR_120 (c_DR_isZero l D g ws kO0 kA2 qO0 qA1 qA2 qA3 qA4 qA5 qA6 qA7 qA8 qA9 qA10 x2 hO0 hA2 (q_Ile (x := 0) (y := x2.toInt) (by decide) rfl (by have t1 : 0 ≤ x2.toInt := q_nltI c22; have t2 : x2.toInt < 10 := q_ltI c23; omega)) (q_Ile (x := x2.toInt) (y := 9) rfl (by decide) (by have t1 : 0 ≤ x2.toInt := q_nltI c22; have t2 : x2.toInt < 10 := q_ltI c23; omega)) _) rfl rfl hO0 rfl hl.1 rfl (Nat.le_of_ble_eq_true rfl) ⟨by decide, by decide⟩ ⟨Nat.le_of_ble_eq_true rfl, Nat.le_of_ble_eq_true rfl⟩ d_15_37_52) (fun v72 u71 H locs hp70 V => ?_)
              obtain ⟨rfl, rfl⟩ := hp70
              refine lv_if_eq (tgt := 62) hx hb d_15_37_55 (by decide) (fun c74 => absurd c74 (by decide)) (fun c74 => ?_)
              refine lv_iconst (v := 2) hx hb d_15_37_58 (by decide) ?_
              refine lv_goto (tgt := 63) hx hb d_15_37_59 (by decide) ?_
              refine q_put (ci := 14) (j := 0) (v := .int 2) (ty := .int) C0 V i_DR o_DR n_DR rfl rfl hO0 (by decide) w_1996 rfl rfl rfl rfl (Nat.le_of_ble_eq_true rfl) d_15_37_63 (fun H locs w75 hu76 hO0 V => ?_)
              replace hO0 : w75[kO0]? = (some (qO0, .inr (14, [.int 2, .ref qA1, .int 0, .ref qA2, .ref qA3, .ref qA4, .ref qA5, .ref qA6, .int 0, .long 0, .int 0, .int 0, .ref qA7, .int 0, .ref qA8, .int 0, .ref qA9, .int 0, .ref qA10, .int 0, .int 0])) : Option (Nat × va_E)) := hO0
              replace hF := q_us hF hu76 (.head _)
              refine lv_aload_n hx hb d_15_37_66 rfl (lv_at hl 0 rfl) ?_
              refine q_get (ci := 14) (j := 0) (v := .int 2) C0 V i_DR rfl rfl hO0 (by decide) w_1996 rfl d_15_37_67 ?_
              refine lv_if_le (tgt := 74) hx hb d_15_37_70 (by decide) (fun c77 => absurd c77 (by decide)) (fun c77 => ?_)
              exact q_retv C0 V (Or.inr (Or.inr (Or.inr (Or.inr (Or.inr (Or.inl ⟨c6, c7, c22, c23, c38, c39, c54, c55, c65, c69, hF, hO0⟩)))))) d_15_37_73
            ·
              refine lv_iconst (v := 1) hx hb d_15_37_46 (by decide) ?_
              refine lv_goto (tgt := 63) hx hb d_15_37_47 (by decide) ?_
              refine q_put (ci := 14) (j := 0) (v := .int 1) (ty := .int) C0 V i_DR o_DR n_DR rfl rfl hO0 (by decide) w_1996 rfl rfl rfl rfl (Nat.le_of_ble_eq_true rfl) d_15_37_63 (fun H locs w78 hu79 hO0 V => ?_)
              replace hO0 : w78[kO0]? = (some (qO0, .inr (14, [.int 1, .ref qA1, .int 0, .ref qA2, .ref qA3, .ref qA4, .ref qA5, .ref qA6, .int 0, .long 0, .int 0, .int 0, .ref qA7, .int 0, .ref qA8, .int 0, .ref qA9, .int 0, .ref qA10, .int 0, .int 0])) : Option (Nat × va_E)) := hO0
              replace hF := q_us hF hu79 (.head _)
              refine lv_aload_n hx hb d_15_37_66 rfl (lv_at hl 0 rfl) ?_
              refine q_get (ci := 14) (j := 0) (v := .int 1) C0 V i_DR rfl rfl hO0 (by decide) w_1996 rfl d_15_37_67 ?_
              refine lv_if_le (tgt := 74) hx hb d_15_37_70 (by decide) (fun c80 => absurd c80 (by decide)) (fun c80 => ?_)
              exact q_retv C0 V (Or.inr (Or.inr (Or.inr (Or.inr (Or.inr (Or.inr (Or.inl ⟨c6, c7, c22, c23, c38, c39, c54, c55, c65, c69, hF, hO0⟩))))))) d_15_37_73
        ·
          refine lv_if_ne (tgt := 46) hx hb d_15_37_27 (by decide) (fun c81 => ?_) (fun c81 => absurd c81 (by decide))
          refine lv_iconst (v := 1) hx hb d_15_37_46 (by decide) ?_
          refine lv_goto (tgt := 63) hx hb d_15_37_47 (by decide) ?_
          refine q_put (ci := 14) (j := 0) (v := .int 1) (ty := .int) C0 V i_DR o_DR n_DR rfl rfl hO0 (by decide) w_1996 rfl rfl rfl rfl (Nat.le_of_ble_eq_true rfl) d_15_37_63 (fun H locs w82 hu83 hO0 V => ?_)
          replace hO0 : w82[kO0]? = (some (qO0, .inr (14, [.int 1, .ref qA1, .int 0, .ref qA2, .ref qA3, .ref qA4, .ref qA5, .ref qA6, .int 0, .long 0, .int 0, .int 0, .ref qA7, .int 0, .ref qA8, .int 0, .ref qA9, .int 0, .ref qA10, .int 0, .int 0])) : Option (Nat × va_E)) := hO0
          replace hF := q_us hF hu83 (.head _)
          refine lv_aload_n hx hb d_15_37_66 rfl (lv_at hl 0 rfl) ?_
          refine q_get (ci := 14) (j := 0) (v := .int 1) C0 V i_DR rfl rfl hO0 (by decide) w_1996 rfl d_15_37_67 ?_
          refine lv_if_le (tgt := 74) hx hb d_15_37_70 (by decide) (fun c84 => absurd c84 (by decide)) (fun c84 => ?_)
          exact q_retv C0 V (Or.inr (Or.inr (Or.inr (Or.inr (Or.inr (Or.inr (Or.inr (Or.inl ⟨c6, c7, c22, c23, c38, c39, c57, c58, hF, hO0⟩)))))))) d_15_37_73
      ·
        refine lv_if_ne (tgt := 46) hx hb d_15_37_19 (by decide) (fun c85 => ?_) (fun c85 => absurd c85 (by decide))
        refine lv_iconst (v := 1) hx hb d_15_37_46 (by decide) ?_
        refine lv_goto (tgt := 63) hx hb d_15_37_47 (by decide) ?_
        refine q_put (ci := 14) (j := 0) (v := .int 1) (ty := .int) C0 V i_DR o_DR n_DR rfl rfl hO0 (by decide) w_1996 rfl rfl rfl rfl (Nat.le_of_ble_eq_true rfl) d_15_37_63 (fun H locs w86 hu87 hO0 V => ?_)
        replace hO0 : w86[kO0]? = (some (qO0, .inr (14, [.int 1, .ref qA1, .int 0, .ref qA2, .ref qA3, .ref qA4, .ref qA5, .ref qA6, .int 0, .long 0, .int 0, .int 0, .ref qA7, .int 0, .ref qA8, .int 0, .ref qA9, .int 0, .ref qA10, .int 0, .int 0])) : Option (Nat × va_E)) := hO0
        replace hF := q_us hF hu87 (.head _)
        refine lv_aload_n hx hb d_15_37_66 rfl (lv_at hl 0 rfl) ?_
        refine q_get (ci := 14) (j := 0) (v := .int 1) C0 V i_DR rfl rfl hO0 (by decide) w_1996 rfl d_15_37_67 ?_
        refine lv_if_le (tgt := 74) hx hb d_15_37_70 (by decide) (fun c88 => absurd c88 (by decide)) (fun c88 => ?_)
        exact q_retv C0 V (Or.inr (Or.inr (Or.inr (Or.inr (Or.inr (Or.inr (Or.inr (Or.inr (Or.inl ⟨c6, c7, c22, c23, c41, c42, hF, hO0⟩))))))))) d_15_37_73
    ·
      refine lv_if_ne (tgt := 46) hx hb d_15_37_12 (by decide) (fun c89 => ?_) (fun c89 => absurd c89 (by decide))
      refine lv_iconst (v := 1) hx hb d_15_37_46 (by decide) ?_
      refine lv_goto (tgt := 63) hx hb d_15_37_47 (by decide) ?_
      refine q_put (ci := 14) (j := 0) (v := .int 1) (ty := .int) C0 V i_DR o_DR n_DR rfl rfl hO0 (by decide) w_1996 rfl rfl rfl rfl (Nat.le_of_ble_eq_true rfl) d_15_37_63 (fun H locs w90 hu91 hO0 V => ?_)
      replace hO0 : w90[kO0]? = (some (qO0, .inr (14, [.int 1, .ref qA1, .int 0, .ref qA2, .ref qA3, .ref qA4, .ref qA5, .ref qA6, .int 0, .long 0, .int 0, .int 0, .ref qA7, .int 0, .ref qA8, .int 0, .ref qA9, .int 0, .ref qA10, .int 0, .int 0])) : Option (Nat × va_E)) := hO0
      replace hF := q_us hF hu91 (.head _)
      refine lv_aload_n hx hb d_15_37_66 rfl (lv_at hl 0 rfl) ?_
      refine q_get (ci := 14) (j := 0) (v := .int 1) C0 V i_DR rfl rfl hO0 (by decide) w_1996 rfl d_15_37_67 ?_
      refine lv_if_le (tgt := 74) hx hb d_15_37_70 (by decide) (fun c92 => absurd c92 (by decide)) (fun c92 => ?_)
      exact q_retv C0 V (Or.inr (Or.inr (Or.inr (Or.inr (Or.inr (Or.inr (Or.inr (Or.inr (Or.inr (Or.inl ⟨c6, c7, c25, c26, hF, hO0⟩)))))))))) d_15_37_73
  ·
    refine lv_if_ne (tgt := 46) hx hb d_15_37_5 (by decide) (fun c93 => ?_) (fun c93 => absurd c93 (by decide))
    refine lv_iconst (v := 1) hx hb d_15_37_46 (by decide) ?_
    refine lv_goto (tgt := 63) hx hb d_15_37_47 (by decide) ?_
    refine q_put (ci := 14) (j := 0) (v := .int 1) (ty := .int) C0 V i_DR o_DR n_DR rfl rfl hO0 (by decide) w_1996 rfl rfl rfl rfl (Nat.le_of_ble_eq_true rfl) d_15_37_63 (fun H locs w94 hu95 hO0 V => ?_)
    replace hO0 : w94[kO0]? = (some (qO0, .inr (14, [.int 1, .ref qA1, .int 0, .ref qA2, .ref qA3, .ref qA4, .ref qA5, .ref qA6, .int 0, .long 0, .int 0, .int 0, .ref qA7, .int 0, .ref qA8, .int 0, .ref qA9, .int 0, .ref qA10, .int 0, .int 0])) : Option (Nat × va_E)) := hO0
    replace hF := q_us hF hu95 (.head _)
    refine lv_aload_n hx hb d_15_37_66 rfl (lv_at hl 0 rfl) ?_
    refine q_get (ci := 14) (j := 0) (v := .int 1) C0 V i_DR rfl rfl hO0 (by decide) w_1996 rfl d_15_37_67 ?_
    refine lv_if_le (tgt := 74) hx hb d_15_37_70 (by decide) (fun c96 => absurd c96 (by decide)) (fun c96 => ?_)
    exact q_retv C0 V (Or.inr (Or.inr (Or.inr (Or.inr (Or.inr (Or.inr (Or.inr (Or.inr (Or.inr (Or.inr (⟨c9, c10, hF, hO0⟩))))))))))) d_15_37_73
theorem d_14_25_0 : decode prog_14_method_25_code 0 = .ok (.aload_n 0, 1) := by decide +kernel
theorem d_14_25_1 : decode prog_14_method_25_code 1 = .ok (.getfield 26, 3) := by decide +kernel
theorem d_14_25_4 : decode prog_14_method_25_code 4 = .ok (.iload_n 1, 1) := by decide +kernel
theorem d_14_25_5 : decode prog_14_method_25_code 5 = .ok (.iload_n 2, 1) := by decide +kernel
theorem d_14_25_6 : decode prog_14_method_25_code 6 = .ok (.iload_n 3, 1) := by decide +kernel
theorem d_14_25_7 : decode prog_14_method_25_code 7 = .ok (.iload 4, 2) := by decide +kernel
theorem d_14_25_9 : decode prog_14_method_25_code 9 = .ok (.iload 5, 2) := by decide +kernel
theorem d_14_25_11 : decode prog_14_method_25_code 11 = .ok (.invokevirtual 213, 3) := by decide +kernel
theorem w_2871 : (Cond.code ({ cls := "NumberHouseModel$DecimalRows", name := "divide", desc := "(IIIII)V" } : MethodName) prog_15_method_37_code (12 : Nat) (none : Option ClassFile.FieldType)) ∈ q_tbl := q_of 2871 (by decide +kernel) (by decide +kernel)
theorem w_2868 : (Cond.methodLink "NumberHouseModel" (213 : Nat) ({ cls := "NumberHouseModel$DecimalRows", name := "divide", desc := "(IIIII)V" } : MethodName)) ∈ q_tbl := q_of 2868 (by decide +kernel) (by decide +kernel)
theorem w_2869 : (Cond.instanceMethod ({ cls := "NumberHouseModel$DecimalRows", name := "divide", desc := "(IIIII)V" } : MethodName)) ∈ q_tbl := q_of 2869 (by decide +kernel) (by decide +kernel)
theorem w_2870 : (Cond.selects "NumberHouseModel$DecimalRows" ({ cls := "NumberHouseModel$DecimalRows", name := "divide", desc := "(IIIII)V" } : MethodName) ({ cls := "NumberHouseModel$DecimalRows", name := "divide", desc := "(IIIII)V" } : MethodName)) ∈ q_tbl := q_of 2870 (by decide +kernel) (by decide +kernel)
theorem LV_NM_213 : q_LV "NumberHouseModel" 213 y_DR_divide prog_15_method_37_code 12 none 5 := ⟨w_2871, w_16, w_2868, w_2869, w_2870, ⟨by decide, by decide, by decide +kernel⟩⟩
theorem d_14_25_14 : decode prog_14_method_25_code 14 = .ok (.aload_n 0, 1) := by decide +kernel
theorem d_14_25_15 : decode prog_14_method_25_code 15 = .ok (.aload_n 0, 1) := by decide +kernel
theorem d_14_25_16 : decode prog_14_method_25_code 16 = .ok (.getfield 26, 3) := by decide +kernel
theorem d_14_25_19 : decode prog_14_method_25_code 19 = .ok (.getfield 105, 3) := by decide +kernel
theorem d_14_25_22 : decode prog_14_method_25_code 22 = .ok (.putfield 58, 3) := by decide +kernel
theorem d_14_25_25 : decode prog_14_method_25_code 25 = .ok (.return_, 1) := by decide +kernel
def y_NM_divide : MethodName := ⟨"NumberHouseModel", "divide", "(IIIII)V"⟩
set_option maxRecDepth 100000 in
set_option maxHeartbeats 4000000 in
/-- divide on a fresh object -/
theorem c_NM_divide (l : Launch) (D : va_G) (g : Nat → ClassId) (ws : va_W) ( qO0 qA1 qA2 qO3 qO4 qO5 qO6 qO7 qA8 qA9 qA24 qA25 qA26 qA27 qA28 qA29 qA30 qA31 qA32 qA33 : Nat) (x1 : Int32) (x2 : Int32) (x3 : Int32) (x4 : Int32) (x5 : Int32) (hO0 : ws[116]? = (some (qO0, .inr (12, [.int 0, .ref qA1, .int 0, .ref qA2, .int 0, .ref qO3, .ref qO4, .ref qO5, .ref qO6, .ref qO7, .ref qA8, .ref qA9])) : Option (Nat × va_E))) (hO4 : ws[134]? = (some (qO4, .inr (14, [.int 0, .ref qA24, .int 0, .ref qA25, .ref qA26, .ref qA27, .ref qA28, .ref qA29, .int 0, .long 0, .int 0, .int 0, .ref qA30, .int 0, .ref qA31, .int 0, .ref qA32, .int 0, .ref qA33, .int 0, .int 0])) : Option (Nat × va_E))) (hA25 : ws[136]? = (some (qA25, .inl (g 0, 10000, .inl (fun _ => 0))) : Option (Nat × va_E))) : q_mV l y_NM_divide prog_14_method_25_code 6 3 0 0 D g [.ref qO0, .int x1, .int x2, .int x3, .int x4, .int x5] ws (fun u => ∃ (t0 z2 z4 : Int32), u[116]? = (some (qO0, .inr (12, [.int t0, .ref qA1, .int z2, .ref qA2, .int z4, .ref qO3, .ref qO4, .ref qO5, .ref qO6, .ref qO7, .ref qA8, .ref qA9])) : Option (Nat × va_E)) ∧ ((t0.toInt = 0 ∧ ((0 ≤ x1.toInt ∧ x1.toInt ≤ 9) ∧ (0 ≤ x2.toInt ∧ x2.toInt ≤ 9) ∧ (0 ≤ x3.toInt ∧ x3.toInt ≤ 9) ∧ ((-10000) ≤ x4.toInt ∧ x4.toInt ≤ 10000) ∧ (0 ≤ x5.toInt ∧ x5.toInt ≤ 7)) ∧ ¬ (0 ≤ x1.toInt)) ∨ (t0.toInt = 1 ∧ ¬ ((0 ≤ x1.toInt ∧ x1.toInt ≤ 9) ∧ (0 ≤ x2.toInt ∧ x2.toInt ≤ 9) ∧ (0 ≤ x3.toInt ∧ x3.toInt ≤ 9) ∧ ((-10000) ≤ x4.toInt ∧ x4.toInt ≤ 10000) ∧ (0 ≤ x5.toInt ∧ x5.toInt ≤ 7))) ∨ (t0.toInt = 2 ∧ ((0 ≤ x1.toInt ∧ x1.toInt ≤ 9) ∧ (0 ≤ x2.toInt ∧ x2.toInt ≤ 9) ∧ (0 ≤ x3.toInt ∧ x3.toInt ≤ 9) ∧ ((-10000) ≤ x4.toInt ∧ x4.toInt ≤ 10000) ∧ (0 ≤ x5.toInt ∧ x5.toInt ≤ 7)) ∧ 0 ≤ x1.toInt)) ∧ q_ge 169 ws u) := by
  intro sz
  refine q_into (by decide) (Nat.le_of_ble_eq_true rfl) ?_
  intro p e s m below meth c ls hsz C0 V hl
  have hx := C0.1
  have hb := C0.2.1
  have hl : lv_has ls 6 [(0, .ref qO0), (1, .int x1), (2, .int x2), (3, .int x3), (4, .int x4), (5, .int x5)] := hl
  have hF : q_ge 169 ws ws := q_g0
  refine lv_aload_n hx hb d_14_25_0 rfl (lv_at hl 0 rfl) ?_
  refine q_get (ci := 12) (j := 6) (v := .ref qO4) C0 V i_NM rfl rfl hO0 (by decide) w_2304 rfl d_14_25_1 ?_
  refine lv_iload_n hx hb d_14_25_4 rfl (lv_at hl 1 rfl) ?_
  refine lv_iload_n hx hb d_14_25_5 rfl (lv_at hl 2 rfl) ?_
  refine lv_iload_n hx hb d_14_25_6 rfl (lv_at hl 3 rfl) ?_
  refine lv_iload hx hb d_14_25_7 (lv_at hl 4 rfl) ?_
  refine lv_iload hx hb d_14_25_9 (lv_at hl 5 rfl) ?_
  refine q_gov V (q_runV (As := [.int x1, .int x2, .int x3, .int x4, .int x5]) (rest := []) (d := 2) (mc := 0) (ms := 0) (ci := 14) C0 V rfl LV_NM_213 (c_DR_divide l D g ws 134 136 qO4 qA24 qA25 qA26 qA27 qA28 qA29 qA30 qA31 qA32 qA33 x1 x2 x3 x4 x5 hO4 hA25 _) rfl rfl hO4 rfl hl.1 rfl (Nat.le_of_ble_eq_true rfl) ⟨by decide, by decide⟩ ⟨Nat.le_of_ble_eq_true rfl, Nat.le_of_ble_eq_true rfl⟩ d_14_25_11) (fun u2 H locs hp1 V => ?_)
  rcases hp1 with ⟨c3, hg4, hO4⟩ | ⟨c5, c6, c7, hg8, hO4⟩ | ⟨c9, c10, c11, c12, c13, hg14, hO4⟩ | ⟨c15, c16, c17, c18, c19, c20, c21, hg22, hO4⟩ | ⟨c23, c24, c25, c26, c27, c28, c29, c30, c31, hg32, hO4⟩ | ⟨c33, c34, c35, c36, c37, c38, c39, c40, c41, c42, hg43, hO4⟩ | ⟨c44, c45, c46, c47, c48, c49, c50, c51, c52, c53, hg54, hO4⟩ | ⟨c55, c56, c57, c58, c59, c60, c61, c62, hg63, hO4⟩ | ⟨c64, c65, c66, c67, c68, c69, hg70, hO4⟩ | ⟨c71, c72, c73, c74, hg75, hO4⟩ | ⟨c76, c77, hg78, hO4⟩
  ·
    replace hF := q_gc hF hg4 (q_al (Nat.le_of_ble_eq_true rfl) (fun _ h => absurd h List.not_mem_nil))
    refine lv_aload_n hx hb d_14_25_14 rfl (lv_at hl 0 rfl) ?_
    refine lv_aload_n hx hb d_14_25_15 rfl (lv_at hl 0 rfl) ?_
    replace hO0 := (hg4 _ (q_nc (q_pd 116 134 rfl) List.not_mem_nil)).trans (hO0)
    refine q_get (ci := 12) (j := 6) (v := .ref qO4) C0 V i_NM rfl rfl hO0 (by decide) w_2304 rfl d_14_25_16 ?_
    refine q_getN (ci := 14) (j := 0) (v := .int 1) C0 V i_DR rfl rfl hO4 (by decide) wo_1997 rfl d_14_25_19 ?_
    refine q_put (ci := 12) (j := 0) (v := .int 1) (ty := .int) C0 V i_NM o_NM n_NM rfl rfl hO0 (by decide) w_2298 rfl rfl rfl rfl (Nat.le_of_ble_eq_true rfl) d_14_25_22 (fun H locs w79 hu80 hO0 V => ?_)
    replace hO0 : w79[116]? = (some (qO0, .inr (12, [.int 1, .ref qA1, .int 0, .ref qA2, .int 0, .ref qO3, .ref qO4, .ref qO5, .ref qO6, .ref qO7, .ref qA8, .ref qA9])) : Option (Nat × va_E)) := hO0
    replace hF := q_gs hF hu80 (Nat.le_of_ble_eq_true rfl)
    exact q_retv C0 V (⟨1, 0, 0, hO0, (show ((1 : Int32).toInt = 0 ∧ ((0 ≤ x1.toInt ∧ x1.toInt ≤ 9) ∧ (0 ≤ x2.toInt ∧ x2.toInt ≤ 9) ∧ (0 ≤ x3.toInt ∧ x3.toInt ≤ 9) ∧ ((-10000) ≤ x4.toInt ∧ x4.toInt ≤ 10000) ∧ (0 ≤ x5.toInt ∧ x5.toInt ≤ 7)) ∧ ¬ (0 ≤ x1.toInt)) ∨ ((1 : Int32).toInt = 1 ∧ ¬ ((0 ≤ x1.toInt ∧ x1.toInt ≤ 9) ∧ (0 ≤ x2.toInt ∧ x2.toInt ≤ 9) ∧ (0 ≤ x3.toInt ∧ x3.toInt ≤ 9) ∧ ((-10000) ≤ x4.toInt ∧ x4.toInt ≤ 10000) ∧ (0 ≤ x5.toInt ∧ x5.toInt ≤ 7))) ∨ ((1 : Int32).toInt = 2 ∧ ((0 ≤ x1.toInt ∧ x1.toInt ≤ 9) ∧ (0 ≤ x2.toInt ∧ x2.toInt ≤ 9) ∧ (0 ≤ x3.toInt ∧ x3.toInt ≤ 9) ∧ ((-10000) ≤ x4.toInt ∧ x4.toInt ≤ 10000) ∧ (0 ≤ x5.toInt ∧ x5.toInt ≤ 7)) ∧ 0 ≤ x1.toInt) from by have t1 : x1.toInt < 0 := q_ltI c3; have e0 : (1 : Int32).toInt = 1 := (by decide); omega), hF⟩) d_14_25_25
  ·
    replace hF := q_gc hF hg8 (q_al (Nat.le_of_ble_eq_true rfl) (fun _ h => absurd h List.not_mem_nil))
    refine lv_aload_n hx hb d_14_25_14 rfl (lv_at hl 0 rfl) ?_
    refine lv_aload_n hx hb d_14_25_15 rfl (lv_at hl 0 rfl) ?_
    replace hO0 := (hg8 _ (q_nc (q_pd 116 134 rfl) List.not_mem_nil)).trans (hO0)
    refine q_get (ci := 12) (j := 6) (v := .ref qO4) C0 V i_NM rfl rfl hO0 (by decide) w_2304 rfl d_14_25_16 ?_
    refine q_getN (ci := 14) (j := 0) (v := .int 1) C0 V i_DR rfl rfl hO4 (by decide) wo_1997 rfl d_14_25_19 ?_
    refine q_put (ci := 12) (j := 0) (v := .int 1) (ty := .int) C0 V i_NM o_NM n_NM rfl rfl hO0 (by decide) w_2298 rfl rfl rfl rfl (Nat.le_of_ble_eq_true rfl) d_14_25_22 (fun H locs w81 hu82 hO0 V => ?_)
    replace hO0 : w81[116]? = (some (qO0, .inr (12, [.int 1, .ref qA1, .int 0, .ref qA2, .int 0, .ref qO3, .ref qO4, .ref qO5, .ref qO6, .ref qO7, .ref qA8, .ref qA9])) : Option (Nat × va_E)) := hO0
    replace hF := q_gs hF hu82 (Nat.le_of_ble_eq_true rfl)
    exact q_retv C0 V (⟨1, 0, 0, hO0, (show ((1 : Int32).toInt = 0 ∧ ((0 ≤ x1.toInt ∧ x1.toInt ≤ 9) ∧ (0 ≤ x2.toInt ∧ x2.toInt ≤ 9) ∧ (0 ≤ x3.toInt ∧ x3.toInt ≤ 9) ∧ ((-10000) ≤ x4.toInt ∧ x4.toInt ≤ 10000) ∧ (0 ≤ x5.toInt ∧ x5.toInt ≤ 7)) ∧ ¬ (0 ≤ x1.toInt)) ∨ ((1 : Int32).toInt = 1 ∧ ¬ ((0 ≤ x1.toInt ∧ x1.toInt ≤ 9) ∧ (0 ≤ x2.toInt ∧ x2.toInt ≤ 9) ∧ (0 ≤ x3.toInt ∧ x3.toInt ≤ 9) ∧ ((-10000) ≤ x4.toInt ∧ x4.toInt ≤ 10000) ∧ (0 ≤ x5.toInt ∧ x5.toInt ≤ 7))) ∨ ((1 : Int32).toInt = 2 ∧ ((0 ≤ x1.toInt ∧ x1.toInt ≤ 9) ∧ (0 ≤ x2.toInt ∧ x2.toInt ≤ 9) ∧ (0 ≤ x3.toInt ∧ x3.toInt ≤ 9) ∧ ((-10000) ≤ x4.toInt ∧ x4.toInt ≤ 10000) ∧ (0 ≤ x5.toInt ∧ x5.toInt ≤ 7)) ∧ 0 ≤ x1.toInt) from by have t1 : 0 ≤ x1.toInt := q_nltI c5; have t2 : x1.toInt < 10 := q_ltI c6; have t3 : x2.toInt < 0 := q_ltI c7; have e0 : (1 : Int32).toInt = 1 := (by decide); omega), hF⟩) d_14_25_25
  ·
    replace hF := q_gc hF hg14 (q_al (Nat.le_of_ble_eq_true rfl) (fun _ h => absurd h List.not_mem_nil))
    refine lv_aload_n hx hb d_14_25_14 rfl (lv_at hl 0 rfl) ?_
    refine lv_aload_n hx hb d_14_25_15 rfl (lv_at hl 0 rfl) ?_
    replace hO0 := (hg14 _ (q_nc (q_pd 116 134 rfl) List.not_mem_nil)).trans (hO0)
    refine q_get (ci := 12) (j := 6) (v := .ref qO4) C0 V i_NM rfl rfl hO0 (by decide) w_2304 rfl d_14_25_16 ?_
    refine q_getN (ci := 14) (j := 0) (v := .int 1) C0 V i_DR rfl rfl hO4 (by decide) wo_1997 rfl d_14_25_19 ?_
    refine q_put (ci := 12) (j := 0) (v := .int 1) (ty := .int) C0 V i_NM o_NM n_NM rfl rfl hO0 (by decide) w_2298 rfl rfl rfl rfl (Nat.le_of_ble_eq_true rfl) d_14_25_22 (fun H locs w83 hu84 hO0 V => ?_)
    replace hO0 : w83[116]? = (some (qO0, .inr (12, [.int 1, .ref qA1, .int 0, .ref qA2, .int 0, .ref qO3, .ref qO4, .ref qO5, .ref qO6, .ref qO7, .ref qA8, .ref qA9])) : Option (Nat × va_E)) := hO0
    replace hF := q_gs hF hu84 (Nat.le_of_ble_eq_true rfl)
    exact q_retv C0 V (⟨1, 0, 0, hO0, (show ((1 : Int32).toInt = 0 ∧ ((0 ≤ x1.toInt ∧ x1.toInt ≤ 9) ∧ (0 ≤ x2.toInt ∧ x2.toInt ≤ 9) ∧ (0 ≤ x3.toInt ∧ x3.toInt ≤ 9) ∧ ((-10000) ≤ x4.toInt ∧ x4.toInt ≤ 10000) ∧ (0 ≤ x5.toInt ∧ x5.toInt ≤ 7)) ∧ ¬ (0 ≤ x1.toInt)) ∨ ((1 : Int32).toInt = 1 ∧ ¬ ((0 ≤ x1.toInt ∧ x1.toInt ≤ 9) ∧ (0 ≤ x2.toInt ∧ x2.toInt ≤ 9) ∧ (0 ≤ x3.toInt ∧ x3.toInt ≤ 9) ∧ ((-10000) ≤ x4.toInt ∧ x4.toInt ≤ 10000) ∧ (0 ≤ x5.toInt ∧ x5.toInt ≤ 7))) ∨ ((1 : Int32).toInt = 2 ∧ ((0 ≤ x1.toInt ∧ x1.toInt ≤ 9) ∧ (0 ≤ x2.toInt ∧ x2.toInt ≤ 9) ∧ (0 ≤ x3.toInt ∧ x3.toInt ≤ 9) ∧ ((-10000) ≤ x4.toInt ∧ x4.toInt ≤ 10000) ∧ (0 ≤ x5.toInt ∧ x5.toInt ≤ 7)) ∧ 0 ≤ x1.toInt) from by have t1 : 0 ≤ x1.toInt := q_nltI c9; have t2 : x1.toInt < 10 := q_ltI c10; have t3 : 0 ≤ x2.toInt := q_nltI c11; have t4 : x2.toInt < 10 := q_ltI c12; have t5 : x3.toInt < 0 := q_ltI c13; have e0 : (1 : Int32).toInt = 1 := (by decide); omega), hF⟩) d_14_25_25
  ·
    replace hF := q_gc hF hg22 (q_al (Nat.le_of_ble_eq_true rfl) (fun _ h => absurd h List.not_mem_nil))
    refine lv_aload_n hx hb d_14_25_14 rfl (lv_at hl 0 rfl) ?_
    refine lv_aload_n hx hb d_14_25_15 rfl (lv_at hl 0 rfl) ?_
    replace hO0 := (hg22 _ (q_nc (q_pd 116 134 rfl) List.not_mem_nil)).trans (hO0)
    refine q_get (ci := 12) (j := 6) (v := .ref qO4) C0 V i_NM rfl rfl hO0 (by decide) w_2304 rfl d_14_25_16 ?_
    refine q_getN (ci := 14) (j := 0) (v := .int 1) C0 V i_DR rfl rfl hO4 (by decide) wo_1997 rfl d_14_25_19 ?_
    refine q_put (ci := 12) (j := 0) (v := .int 1) (ty := .int) C0 V i_NM o_NM n_NM rfl rfl hO0 (by decide) w_2298 rfl rfl rfl rfl (Nat.le_of_ble_eq_true rfl) d_14_25_22 (fun H locs w85 hu86 hO0 V => ?_)
    replace hO0 : w85[116]? = (some (qO0, .inr (12, [.int 1, .ref qA1, .int 0, .ref qA2, .int 0, .ref qO3, .ref qO4, .ref qO5, .ref qO6, .ref qO7, .ref qA8, .ref qA9])) : Option (Nat × va_E)) := hO0
    replace hF := q_gs hF hu86 (Nat.le_of_ble_eq_true rfl)
    exact q_retv C0 V (⟨1, 0, 0, hO0, (show ((1 : Int32).toInt = 0 ∧ ((0 ≤ x1.toInt ∧ x1.toInt ≤ 9) ∧ (0 ≤ x2.toInt ∧ x2.toInt ≤ 9) ∧ (0 ≤ x3.toInt ∧ x3.toInt ≤ 9) ∧ ((-10000) ≤ x4.toInt ∧ x4.toInt ≤ 10000) ∧ (0 ≤ x5.toInt ∧ x5.toInt ≤ 7)) ∧ ¬ (0 ≤ x1.toInt)) ∨ ((1 : Int32).toInt = 1 ∧ ¬ ((0 ≤ x1.toInt ∧ x1.toInt ≤ 9) ∧ (0 ≤ x2.toInt ∧ x2.toInt ≤ 9) ∧ (0 ≤ x3.toInt ∧ x3.toInt ≤ 9) ∧ ((-10000) ≤ x4.toInt ∧ x4.toInt ≤ 10000) ∧ (0 ≤ x5.toInt ∧ x5.toInt ≤ 7))) ∨ ((1 : Int32).toInt = 2 ∧ ((0 ≤ x1.toInt ∧ x1.toInt ≤ 9) ∧ (0 ≤ x2.toInt ∧ x2.toInt ≤ 9) ∧ (0 ≤ x3.toInt ∧ x3.toInt ≤ 9) ∧ ((-10000) ≤ x4.toInt ∧ x4.toInt ≤ 10000) ∧ (0 ≤ x5.toInt ∧ x5.toInt ≤ 7)) ∧ 0 ≤ x1.toInt) from by have t1 : 0 ≤ x1.toInt := q_nltI c15; have t2 : x1.toInt < 10 := q_ltI c16; have t3 : 0 ≤ x2.toInt := q_nltI c17; have t4 : x2.toInt < 10 := q_ltI c18; have t5 : 0 ≤ x3.toInt := q_nltI c19; have t6 : x3.toInt < 10 := q_ltI c20; have t7 : x5.toInt < 0 := q_ltI c21; have e0 : (1 : Int32).toInt = 1 := (by decide); omega), hF⟩) d_14_25_25
  ·
    replace hF := q_gc hF hg32 (q_al (Nat.le_of_ble_eq_true rfl) (fun _ h => absurd h List.not_mem_nil))
    refine lv_aload_n hx hb d_14_25_14 rfl (lv_at hl 0 rfl) ?_
    refine lv_aload_n hx hb d_14_25_15 rfl (lv_at hl 0 rfl) ?_
    replace hO0 := (hg32 _ (q_nc (q_pd 116 134 rfl) List.not_mem_nil)).trans (hO0)
    refine q_get (ci := 12) (j := 6) (v := .ref qO4) C0 V i_NM rfl rfl hO0 (by decide) w_2304 rfl d_14_25_16 ?_
    refine q_getN (ci := 14) (j := 0) (v := .int 1) C0 V i_DR rfl rfl hO4 (by decide) wo_1997 rfl d_14_25_19 ?_
    refine q_put (ci := 12) (j := 0) (v := .int 1) (ty := .int) C0 V i_NM o_NM n_NM rfl rfl hO0 (by decide) w_2298 rfl rfl rfl rfl (Nat.le_of_ble_eq_true rfl) d_14_25_22 (fun H locs w87 hu88 hO0 V => ?_)
    replace hO0 : w87[116]? = (some (qO0, .inr (12, [.int 1, .ref qA1, .int 0, .ref qA2, .int 0, .ref qO3, .ref qO4, .ref qO5, .ref qO6, .ref qO7, .ref qA8, .ref qA9])) : Option (Nat × va_E)) := hO0
    replace hF := q_gs hF hu88 (Nat.le_of_ble_eq_true rfl)
    exact q_retv C0 V (⟨1, 0, 0, hO0, (show ((1 : Int32).toInt = 0 ∧ ((0 ≤ x1.toInt ∧ x1.toInt ≤ 9) ∧ (0 ≤ x2.toInt ∧ x2.toInt ≤ 9) ∧ (0 ≤ x3.toInt ∧ x3.toInt ≤ 9) ∧ ((-10000) ≤ x4.toInt ∧ x4.toInt ≤ 10000) ∧ (0 ≤ x5.toInt ∧ x5.toInt ≤ 7)) ∧ ¬ (0 ≤ x1.toInt)) ∨ ((1 : Int32).toInt = 1 ∧ ¬ ((0 ≤ x1.toInt ∧ x1.toInt ≤ 9) ∧ (0 ≤ x2.toInt ∧ x2.toInt ≤ 9) ∧ (0 ≤ x3.toInt ∧ x3.toInt ≤ 9) ∧ ((-10000) ≤ x4.toInt ∧ x4.toInt ≤ 10000) ∧ (0 ≤ x5.toInt ∧ x5.toInt ≤ 7))) ∨ ((1 : Int32).toInt = 2 ∧ ((0 ≤ x1.toInt ∧ x1.toInt ≤ 9) ∧ (0 ≤ x2.toInt ∧ x2.toInt ≤ 9) ∧ (0 ≤ x3.toInt ∧ x3.toInt ≤ 9) ∧ ((-10000) ≤ x4.toInt ∧ x4.toInt ≤ 10000) ∧ (0 ≤ x5.toInt ∧ x5.toInt ≤ 7)) ∧ 0 ≤ x1.toInt) from by have t1 : 0 ≤ x1.toInt := q_nltI c23; have t2 : x1.toInt < 10 := q_ltI c24; have t3 : 0 ≤ x2.toInt := q_nltI c25; have t4 : x2.toInt < 10 := q_ltI c26; have t5 : 0 ≤ x3.toInt := q_nltI c27; have t6 : x3.toInt < 10 := q_ltI c28; have t7 : 0 ≤ x5.toInt := q_nltI c29; have t8 : x5.toInt ≤ 7 := q_leI c30; have t9 : x4.toInt < (-10000) := q_ltI c31; have e0 : (1 : Int32).toInt = 1 := (by decide); omega), hF⟩) d_14_25_25
  ·
    replace hF := q_gc hF hg43 (q_al (Nat.le_of_ble_eq_true rfl) (fun _ h => absurd h List.not_mem_nil))
    refine lv_aload_n hx hb d_14_25_14 rfl (lv_at hl 0 rfl) ?_
    refine lv_aload_n hx hb d_14_25_15 rfl (lv_at hl 0 rfl) ?_
    replace hO0 := (hg43 _ (q_nc (q_pd 116 134 rfl) List.not_mem_nil)).trans (hO0)
    refine q_get (ci := 12) (j := 6) (v := .ref qO4) C0 V i_NM rfl rfl hO0 (by decide) w_2304 rfl d_14_25_16 ?_
    refine q_getN (ci := 14) (j := 0) (v := .int 2) C0 V i_DR rfl rfl hO4 (by decide) wo_1997 rfl d_14_25_19 ?_
    refine q_put (ci := 12) (j := 0) (v := .int 2) (ty := .int) C0 V i_NM o_NM n_NM rfl rfl hO0 (by decide) w_2298 rfl rfl rfl rfl (Nat.le_of_ble_eq_true rfl) d_14_25_22 (fun H locs w89 hu90 hO0 V => ?_)
    replace hO0 : w89[116]? = (some (qO0, .inr (12, [.int 2, .ref qA1, .int 0, .ref qA2, .int 0, .ref qO3, .ref qO4, .ref qO5, .ref qO6, .ref qO7, .ref qA8, .ref qA9])) : Option (Nat × va_E)) := hO0
    replace hF := q_gs hF hu90 (Nat.le_of_ble_eq_true rfl)
    exact q_retv C0 V (⟨2, 0, 0, hO0, (show ((2 : Int32).toInt = 0 ∧ ((0 ≤ x1.toInt ∧ x1.toInt ≤ 9) ∧ (0 ≤ x2.toInt ∧ x2.toInt ≤ 9) ∧ (0 ≤ x3.toInt ∧ x3.toInt ≤ 9) ∧ ((-10000) ≤ x4.toInt ∧ x4.toInt ≤ 10000) ∧ (0 ≤ x5.toInt ∧ x5.toInt ≤ 7)) ∧ ¬ (0 ≤ x1.toInt)) ∨ ((2 : Int32).toInt = 1 ∧ ¬ ((0 ≤ x1.toInt ∧ x1.toInt ≤ 9) ∧ (0 ≤ x2.toInt ∧ x2.toInt ≤ 9) ∧ (0 ≤ x3.toInt ∧ x3.toInt ≤ 9) ∧ ((-10000) ≤ x4.toInt ∧ x4.toInt ≤ 10000) ∧ (0 ≤ x5.toInt ∧ x5.toInt ≤ 7))) ∨ ((2 : Int32).toInt = 2 ∧ ((0 ≤ x1.toInt ∧ x1.toInt ≤ 9) ∧ (0 ≤ x2.toInt ∧ x2.toInt ≤ 9) ∧ (0 ≤ x3.toInt ∧ x3.toInt ≤ 9) ∧ ((-10000) ≤ x4.toInt ∧ x4.toInt ≤ 10000) ∧ (0 ≤ x5.toInt ∧ x5.toInt ≤ 7)) ∧ 0 ≤ x1.toInt) from by have t1 : 0 ≤ x1.toInt := q_nltI c33; have t2 : x1.toInt < 10 := q_ltI c34; have t3 : 0 ≤ x2.toInt := q_nltI c35; have t4 : x2.toInt < 10 := q_ltI c36; have t5 : 0 ≤ x3.toInt := q_nltI c37; have t6 : x3.toInt < 10 := q_ltI c38; have t7 : 0 ≤ x5.toInt := q_nltI c39; have t8 : x5.toInt ≤ 7 := q_leI c40; have t9 : (-10000) ≤ x4.toInt := q_nltI c41; have t10 : x4.toInt ≤ 10000 := q_leI c42; have e0 : (2 : Int32).toInt = 2 := (by decide); omega), hF⟩) d_14_25_25
  ·
    replace hF := q_gc hF hg54 (q_al (Nat.le_of_ble_eq_true rfl) (fun _ h => absurd h List.not_mem_nil))
    refine lv_aload_n hx hb d_14_25_14 rfl (lv_at hl 0 rfl) ?_
    refine lv_aload_n hx hb d_14_25_15 rfl (lv_at hl 0 rfl) ?_
    replace hO0 := (hg54 _ (q_nc (q_pd 116 134 rfl) List.not_mem_nil)).trans (hO0)
    refine q_get (ci := 12) (j := 6) (v := .ref qO4) C0 V i_NM rfl rfl hO0 (by decide) w_2304 rfl d_14_25_16 ?_
    refine q_getN (ci := 14) (j := 0) (v := .int 1) C0 V i_DR rfl rfl hO4 (by decide) wo_1997 rfl d_14_25_19 ?_
    refine q_put (ci := 12) (j := 0) (v := .int 1) (ty := .int) C0 V i_NM o_NM n_NM rfl rfl hO0 (by decide) w_2298 rfl rfl rfl rfl (Nat.le_of_ble_eq_true rfl) d_14_25_22 (fun H locs w91 hu92 hO0 V => ?_)
    replace hO0 : w91[116]? = (some (qO0, .inr (12, [.int 1, .ref qA1, .int 0, .ref qA2, .int 0, .ref qO3, .ref qO4, .ref qO5, .ref qO6, .ref qO7, .ref qA8, .ref qA9])) : Option (Nat × va_E)) := hO0
    replace hF := q_gs hF hu92 (Nat.le_of_ble_eq_true rfl)
    exact q_retv C0 V (⟨1, 0, 0, hO0, (show ((1 : Int32).toInt = 0 ∧ ((0 ≤ x1.toInt ∧ x1.toInt ≤ 9) ∧ (0 ≤ x2.toInt ∧ x2.toInt ≤ 9) ∧ (0 ≤ x3.toInt ∧ x3.toInt ≤ 9) ∧ ((-10000) ≤ x4.toInt ∧ x4.toInt ≤ 10000) ∧ (0 ≤ x5.toInt ∧ x5.toInt ≤ 7)) ∧ ¬ (0 ≤ x1.toInt)) ∨ ((1 : Int32).toInt = 1 ∧ ¬ ((0 ≤ x1.toInt ∧ x1.toInt ≤ 9) ∧ (0 ≤ x2.toInt ∧ x2.toInt ≤ 9) ∧ (0 ≤ x3.toInt ∧ x3.toInt ≤ 9) ∧ ((-10000) ≤ x4.toInt ∧ x4.toInt ≤ 10000) ∧ (0 ≤ x5.toInt ∧ x5.toInt ≤ 7))) ∨ ((1 : Int32).toInt = 2 ∧ ((0 ≤ x1.toInt ∧ x1.toInt ≤ 9) ∧ (0 ≤ x2.toInt ∧ x2.toInt ≤ 9) ∧ (0 ≤ x3.toInt ∧ x3.toInt ≤ 9) ∧ ((-10000) ≤ x4.toInt ∧ x4.toInt ≤ 10000) ∧ (0 ≤ x5.toInt ∧ x5.toInt ≤ 7)) ∧ 0 ≤ x1.toInt) from by have t1 : 0 ≤ x1.toInt := q_nltI c44; have t2 : x1.toInt < 10 := q_ltI c45; have t3 : 0 ≤ x2.toInt := q_nltI c46; have t4 : x2.toInt < 10 := q_ltI c47; have t5 : 0 ≤ x3.toInt := q_nltI c48; have t6 : x3.toInt < 10 := q_ltI c49; have t7 : 0 ≤ x5.toInt := q_nltI c50; have t8 : x5.toInt ≤ 7 := q_leI c51; have t9 : (-10000) ≤ x4.toInt := q_nltI c52; have t10 : 10000 < x4.toInt := q_nleI c53; have e0 : (1 : Int32).toInt = 1 := (by decide); omega), hF⟩) d_14_25_25
  ·
    replace hF := q_gc hF hg63 (q_al (Nat.le_of_ble_eq_true rfl) (fun _ h => absurd h List.not_mem_nil))
    refine lv_aload_n hx hb d_14_25_14 rfl (lv_at hl 0 rfl) ?_
    refine lv_aload_n hx hb d_14_25_15 rfl (lv_at hl 0 rfl) ?_
    replace hO0 := (hg63 _ (q_nc (q_pd 116 134 rfl) List.not_mem_nil)).trans (hO0)
    refine q_get (ci := 12) (j := 6) (v := .ref qO4) C0 V i_NM rfl rfl hO0 (by decide) w_2304 rfl d_14_25_16 ?_
    refine q_getN (ci := 14) (j := 0) (v := .int 1) C0 V i_DR rfl rfl hO4 (by decide) wo_1997 rfl d_14_25_19 ?_
    refine q_put (ci := 12) (j := 0) (v := .int 1) (ty := .int) C0 V i_NM o_NM n_NM rfl rfl hO0 (by decide) w_2298 rfl rfl rfl rfl (Nat.le_of_ble_eq_true rfl) d_14_25_22 (fun H locs w93 hu94 hO0 V => ?_)
    replace hO0 : w93[116]? = (some (qO0, .inr (12, [.int 1, .ref qA1, .int 0, .ref qA2, .int 0, .ref qO3, .ref qO4, .ref qO5, .ref qO6, .ref qO7, .ref qA8, .ref qA9])) : Option (Nat × va_E)) := hO0
    replace hF := q_gs hF hu94 (Nat.le_of_ble_eq_true rfl)
    exact q_retv C0 V (⟨1, 0, 0, hO0, (show ((1 : Int32).toInt = 0 ∧ ((0 ≤ x1.toInt ∧ x1.toInt ≤ 9) ∧ (0 ≤ x2.toInt ∧ x2.toInt ≤ 9) ∧ (0 ≤ x3.toInt ∧ x3.toInt ≤ 9) ∧ ((-10000) ≤ x4.toInt ∧ x4.toInt ≤ 10000) ∧ (0 ≤ x5.toInt ∧ x5.toInt ≤ 7)) ∧ ¬ (0 ≤ x1.toInt)) ∨ ((1 : Int32).toInt = 1 ∧ ¬ ((0 ≤ x1.toInt ∧ x1.toInt ≤ 9) ∧ (0 ≤ x2.toInt ∧ x2.toInt ≤ 9) ∧ (0 ≤ x3.toInt ∧ x3.toInt ≤ 9) ∧ ((-10000) ≤ x4.toInt ∧ x4.toInt ≤ 10000) ∧ (0 ≤ x5.toInt ∧ x5.toInt ≤ 7))) ∨ ((1 : Int32).toInt = 2 ∧ ((0 ≤ x1.toInt ∧ x1.toInt ≤ 9) ∧ (0 ≤ x2.toInt ∧ x2.toInt ≤ 9) ∧ (0 ≤ x3.toInt ∧ x3.toInt ≤ 9) ∧ ((-10000) ≤ x4.toInt ∧ x4.toInt ≤ 10000) ∧ (0 ≤ x5.toInt ∧ x5.toInt ≤ 7)) ∧ 0 ≤ x1.toInt) from by have t1 : 0 ≤ x1.toInt := q_nltI c55; have t2 : x1.toInt < 10 := q_ltI c56; have t3 : 0 ≤ x2.toInt := q_nltI c57; have t4 : x2.toInt < 10 := q_ltI c58; have t5 : 0 ≤ x3.toInt := q_nltI c59; have t6 : x3.toInt < 10 := q_ltI c60; have t7 : 0 ≤ x5.toInt := q_nltI c61; have t8 : 7 < x5.toInt := q_nleI c62; have e0 : (1 : Int32).toInt = 1 := (by decide); omega), hF⟩) d_14_25_25
  ·
    replace hF := q_gc hF hg70 (q_al (Nat.le_of_ble_eq_true rfl) (fun _ h => absurd h List.not_mem_nil))
    refine lv_aload_n hx hb d_14_25_14 rfl (lv_at hl 0 rfl) ?_
    refine lv_aload_n hx hb d_14_25_15 rfl (lv_at hl 0 rfl) ?_
    replace hO0 := (hg70 _ (q_nc (q_pd 116 134 rfl) List.not_mem_nil)).trans (hO0)
    refine q_get (ci := 12) (j := 6) (v := .ref qO4) C0 V i_NM rfl rfl hO0 (by decide) w_2304 rfl d_14_25_16 ?_
    refine q_getN (ci := 14) (j := 0) (v := .int 1) C0 V i_DR rfl rfl hO4 (by decide) wo_1997 rfl d_14_25_19 ?_
    refine q_put (ci := 12) (j := 0) (v := .int 1) (ty := .int) C0 V i_NM o_NM n_NM rfl rfl hO0 (by decide) w_2298 rfl rfl rfl rfl (Nat.le_of_ble_eq_true rfl) d_14_25_22 (fun H locs w95 hu96 hO0 V => ?_)
    replace hO0 : w95[116]? = (some (qO0, .inr (12, [.int 1, .ref qA1, .int 0, .ref qA2, .int 0, .ref qO3, .ref qO4, .ref qO5, .ref qO6, .ref qO7, .ref qA8, .ref qA9])) : Option (Nat × va_E)) := hO0
    replace hF := q_gs hF hu96 (Nat.le_of_ble_eq_true rfl)
    exact q_retv C0 V (⟨1, 0, 0, hO0, (show ((1 : Int32).toInt = 0 ∧ ((0 ≤ x1.toInt ∧ x1.toInt ≤ 9) ∧ (0 ≤ x2.toInt ∧ x2.toInt ≤ 9) ∧ (0 ≤ x3.toInt ∧ x3.toInt ≤ 9) ∧ ((-10000) ≤ x4.toInt ∧ x4.toInt ≤ 10000) ∧ (0 ≤ x5.toInt ∧ x5.toInt ≤ 7)) ∧ ¬ (0 ≤ x1.toInt)) ∨ ((1 : Int32).toInt = 1 ∧ ¬ ((0 ≤ x1.toInt ∧ x1.toInt ≤ 9) ∧ (0 ≤ x2.toInt ∧ x2.toInt ≤ 9) ∧ (0 ≤ x3.toInt ∧ x3.toInt ≤ 9) ∧ ((-10000) ≤ x4.toInt ∧ x4.toInt ≤ 10000) ∧ (0 ≤ x5.toInt ∧ x5.toInt ≤ 7))) ∨ ((1 : Int32).toInt = 2 ∧ ((0 ≤ x1.toInt ∧ x1.toInt ≤ 9) ∧ (0 ≤ x2.toInt ∧ x2.toInt ≤ 9) ∧ (0 ≤ x3.toInt ∧ x3.toInt ≤ 9) ∧ ((-10000) ≤ x4.toInt ∧ x4.toInt ≤ 10000) ∧ (0 ≤ x5.toInt ∧ x5.toInt ≤ 7)) ∧ 0 ≤ x1.toInt) from by have t1 : 0 ≤ x1.toInt := q_nltI c64; have t2 : x1.toInt < 10 := q_ltI c65; have t3 : 0 ≤ x2.toInt := q_nltI c66; have t4 : x2.toInt < 10 := q_ltI c67; have t5 : 0 ≤ x3.toInt := q_nltI c68; have t6 : 10 ≤ x3.toInt := q_nltI c69; have e0 : (1 : Int32).toInt = 1 := (by decide); omega), hF⟩) d_14_25_25
  ·
    replace hF := q_gc hF hg75 (q_al (Nat.le_of_ble_eq_true rfl) (fun _ h => absurd h List.not_mem_nil))
    refine lv_aload_n hx hb d_14_25_14 rfl (lv_at hl 0 rfl) ?_
    refine lv_aload_n hx hb d_14_25_15 rfl (lv_at hl 0 rfl) ?_
    replace hO0 := (hg75 _ (q_nc (q_pd 116 134 rfl) List.not_mem_nil)).trans (hO0)
    refine q_get (ci := 12) (j := 6) (v := .ref qO4) C0 V i_NM rfl rfl hO0 (by decide) w_2304 rfl d_14_25_16 ?_
    refine q_getN (ci := 14) (j := 0) (v := .int 1) C0 V i_DR rfl rfl hO4 (by decide) wo_1997 rfl d_14_25_19 ?_
    refine q_put (ci := 12) (j := 0) (v := .int 1) (ty := .int) C0 V i_NM o_NM n_NM rfl rfl hO0 (by decide) w_2298 rfl rfl rfl rfl (Nat.le_of_ble_eq_true rfl) d_14_25_22 (fun H locs w97 hu98 hO0 V => ?_)
    replace hO0 : w97[116]? = (some (qO0, .inr (12, [.int 1, .ref qA1, .int 0, .ref qA2, .int 0, .ref qO3, .ref qO4, .ref qO5, .ref qO6, .ref qO7, .ref qA8, .ref qA9])) : Option (Nat × va_E)) := hO0
    replace hF := q_gs hF hu98 (Nat.le_of_ble_eq_true rfl)
    exact q_retv C0 V (⟨1, 0, 0, hO0, (show ((1 : Int32).toInt = 0 ∧ ((0 ≤ x1.toInt ∧ x1.toInt ≤ 9) ∧ (0 ≤ x2.toInt ∧ x2.toInt ≤ 9) ∧ (0 ≤ x3.toInt ∧ x3.toInt ≤ 9) ∧ ((-10000) ≤ x4.toInt ∧ x4.toInt ≤ 10000) ∧ (0 ≤ x5.toInt ∧ x5.toInt ≤ 7)) ∧ ¬ (0 ≤ x1.toInt)) ∨ ((1 : Int32).toInt = 1 ∧ ¬ ((0 ≤ x1.toInt ∧ x1.toInt ≤ 9) ∧ (0 ≤ x2.toInt ∧ x2.toInt ≤ 9) ∧ (0 ≤ x3.toInt ∧ x3.toInt ≤ 9) ∧ ((-10000) ≤ x4.toInt ∧ x4.toInt ≤ 10000) ∧ (0 ≤ x5.toInt ∧ x5.toInt ≤ 7))) ∨ ((1 : Int32).toInt = 2 ∧ ((0 ≤ x1.toInt ∧ x1.toInt ≤ 9) ∧ (0 ≤ x2.toInt ∧ x2.toInt ≤ 9) ∧ (0 ≤ x3.toInt ∧ x3.toInt ≤ 9) ∧ ((-10000) ≤ x4.toInt ∧ x4.toInt ≤ 10000) ∧ (0 ≤ x5.toInt ∧ x5.toInt ≤ 7)) ∧ 0 ≤ x1.toInt) from by have t1 : 0 ≤ x1.toInt := q_nltI c71; have t2 : x1.toInt < 10 := q_ltI c72; have t3 : 0 ≤ x2.toInt := q_nltI c73; have t4 : 10 ≤ x2.toInt := q_nltI c74; have e0 : (1 : Int32).toInt = 1 := (by decide); omega), hF⟩) d_14_25_25
  ·
    replace hF := q_gc hF hg78 (q_al (Nat.le_of_ble_eq_true rfl) (fun _ h => absurd h List.not_mem_nil))
    refine lv_aload_n hx hb d_14_25_14 rfl (lv_at hl 0 rfl) ?_
    refine lv_aload_n hx hb d_14_25_15 rfl (lv_at hl 0 rfl) ?_
    replace hO0 := (hg78 _ (q_nc (q_pd 116 134 rfl) List.not_mem_nil)).trans (hO0)
    refine q_get (ci := 12) (j := 6) (v := .ref qO4) C0 V i_NM rfl rfl hO0 (by decide) w_2304 rfl d_14_25_16 ?_
    refine q_getN (ci := 14) (j := 0) (v := .int 1) C0 V i_DR rfl rfl hO4 (by decide) wo_1997 rfl d_14_25_19 ?_
    refine q_put (ci := 12) (j := 0) (v := .int 1) (ty := .int) C0 V i_NM o_NM n_NM rfl rfl hO0 (by decide) w_2298 rfl rfl rfl rfl (Nat.le_of_ble_eq_true rfl) d_14_25_22 (fun H locs w99 hu100 hO0 V => ?_)
    replace hO0 : w99[116]? = (some (qO0, .inr (12, [.int 1, .ref qA1, .int 0, .ref qA2, .int 0, .ref qO3, .ref qO4, .ref qO5, .ref qO6, .ref qO7, .ref qA8, .ref qA9])) : Option (Nat × va_E)) := hO0
    replace hF := q_gs hF hu100 (Nat.le_of_ble_eq_true rfl)
    exact q_retv C0 V (⟨1, 0, 0, hO0, (show ((1 : Int32).toInt = 0 ∧ ((0 ≤ x1.toInt ∧ x1.toInt ≤ 9) ∧ (0 ≤ x2.toInt ∧ x2.toInt ≤ 9) ∧ (0 ≤ x3.toInt ∧ x3.toInt ≤ 9) ∧ ((-10000) ≤ x4.toInt ∧ x4.toInt ≤ 10000) ∧ (0 ≤ x5.toInt ∧ x5.toInt ≤ 7)) ∧ ¬ (0 ≤ x1.toInt)) ∨ ((1 : Int32).toInt = 1 ∧ ¬ ((0 ≤ x1.toInt ∧ x1.toInt ≤ 9) ∧ (0 ≤ x2.toInt ∧ x2.toInt ≤ 9) ∧ (0 ≤ x3.toInt ∧ x3.toInt ≤ 9) ∧ ((-10000) ≤ x4.toInt ∧ x4.toInt ≤ 10000) ∧ (0 ≤ x5.toInt ∧ x5.toInt ≤ 7))) ∨ ((1 : Int32).toInt = 2 ∧ ((0 ≤ x1.toInt ∧ x1.toInt ≤ 9) ∧ (0 ≤ x2.toInt ∧ x2.toInt ≤ 9) ∧ (0 ≤ x3.toInt ∧ x3.toInt ≤ 9) ∧ ((-10000) ≤ x4.toInt ∧ x4.toInt ≤ 10000) ∧ (0 ≤ x5.toInt ∧ x5.toInt ≤ 7)) ∧ 0 ≤ x1.toInt) from by have t1 : 0 ≤ x1.toInt := q_nltI c76; have t2 : 10 ≤ x1.toInt := q_nltI c77; have e0 : (1 : Int32).toInt = 1 := (by decide); omega), hF⟩) d_14_25_25
