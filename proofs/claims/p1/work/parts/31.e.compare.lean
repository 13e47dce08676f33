/-! the reference on a fresh object: compare -/
theorem d_14_8_0 : decode prog_14_method_8_code 0 = .ok (.iload_n 0, 1) := by decide +kernel
theorem d_14_8_1 : decode prog_14_method_8_code 1 = .ok (.ifCond .lt 9, 3) := by decide +kernel
theorem d_14_8_10 : decode prog_14_method_8_code 10 = .ok (.iconst 1, 1) := by decide +kernel
theorem d_14_8_11 : decode prog_14_method_8_code 11 = .ok (.goto 4, 3) := by decide +kernel
theorem d_14_8_15 : decode prog_14_method_8_code 15 = .ok (.ireturn, 1) := by decide +kernel
theorem d_14_8_4 : decode prog_14_method_8_code 4 = .ok (.iload_n 0, 1) := by decide +kernel
theorem d_14_8_5 : decode prog_14_method_8_code 5 = .ok (.bipush 9, 2) := by decide +kernel
theorem d_14_8_7 : decode prog_14_method_8_code 7 = .ok (.if_icmp .le 7, 3) := by decide +kernel
theorem d_14_8_14 : decode prog_14_method_8_code 14 = .ok (.iconst 0, 1) := by decide +kernel
def y_NM_no_IZ : MethodName := ⟨"NumberHouseModel", "no", "(I)Z"⟩
set_option maxRecDepth 100000 in
set_option maxHeartbeats 4000000 in
theorem c_NM_no_IZ (l : Launch) (D : va_G) (g : Nat → ClassId) (ws : va_W) (x1 : Int32) : q_mI l y_NM_no_IZ prog_14_method_8_code 1 (.boolean) 1 0 0 D g [.int x1] ws (fun r u => (x1 < 0 ∧ 1 = r ∧ ws = u) ∨ (¬ x1 < 0 ∧ x1 ≤ 9 ∧ 0 = r ∧ ws = u) ∨ (¬ x1 < 0 ∧ ¬ x1 ≤ 9 ∧ 1 = r ∧ ws = u)) := by
  intro sz
  refine q_into (by decide) (Nat.le_of_ble_eq_true rfl) ?_
  intro p e s m below meth c ls hsz C0 V hl
  have hx := C0.1
  have hb := C0.2.1
  have hl : lv_has ls 1 [(0, .int x1)] := hl
  refine lv_iload_n hx hb d_14_8_0 rfl (lv_at hl 0 rfl) ?_
  refine lv_if_lt (tgt := 10) hx hb d_14_8_1 (by decide) (fun c1 => ?_) (fun c1 => ?_)
  ·
    refine lv_iconst (v := 1) hx hb d_14_8_10 (by decide) ?_
    refine lv_goto (tgt := 15) hx hb d_14_8_11 (by decide) ?_
    exact q_retz C0 V (rfl) (Or.inl ⟨c1, rfl, rfl⟩) d_14_8_15
  ·
    refine lv_iload_n hx hb d_14_8_4 rfl (lv_at hl 0 rfl) ?_
    refine lv_bipush (v := 9) hx hb d_14_8_5 (by decide) ?_
    refine lv_icmp_le (tgt := 14) hx hb d_14_8_7 (by decide) (fun c2 => ?_) (fun c2 => ?_)
    ·
      refine lv_iconst (v := 0) hx hb d_14_8_14 (by decide) ?_
      exact q_retz C0 V (rfl) (Or.inr (Or.inl ⟨c1, c2, rfl, rfl⟩)) d_14_8_15
    ·
      refine lv_iconst (v := 1) hx hb d_14_8_10 (by decide) ?_
      refine lv_goto (tgt := 15) hx hb d_14_8_11 (by decide) ?_
      exact q_retz C0 V (rfl) (Or.inr (Or.inr (⟨c1, c2, rfl, rfl⟩))) d_14_8_15
theorem d_14_9_0 : decode prog_14_method_9_code 0 = .ok (.iload_n 0, 1) := by decide +kernel
theorem d_14_9_1 : decode prog_14_method_9_code 1 = .ok (.ifCond .lt 15, 3) := by decide +kernel
theorem d_14_9_16 : decode prog_14_method_9_code 16 = .ok (.iconst 1, 1) := by decide +kernel
theorem d_14_9_17 : decode prog_14_method_9_code 17 = .ok (.goto 4, 3) := by decide +kernel
theorem d_14_9_21 : decode prog_14_method_9_code 21 = .ok (.ireturn, 1) := by decide +kernel
theorem d_14_9_4 : decode prog_14_method_9_code 4 = .ok (.iload_n 0, 1) := by decide +kernel
theorem d_14_9_5 : decode prog_14_method_9_code 5 = .ok (.iconst 3, 1) := by decide +kernel
theorem d_14_9_6 : decode prog_14_method_9_code 6 = .ok (.if_icmp .gt 10, 3) := by decide +kernel
theorem d_14_9_9 : decode prog_14_method_9_code 9 = .ok (.iload_n 1, 1) := by decide +kernel
theorem d_14_9_10 : decode prog_14_method_9_code 10 = .ok (.invokestatic 70, 3) := by decide +kernel
theorem w_2361 : (Cond.code ({ cls := "NumberHouseModel", name := "no", desc := "(I)Z" } : MethodName) prog_14_method_8_code (1 : Nat) (some .boolean)) ∈ q_tbl := q_of 2361 (by decide +kernel) (by decide +kernel)
theorem w_2359 : (Cond.methodLink "NumberHouseModel" (70 : Nat) ({ cls := "NumberHouseModel", name := "no", desc := "(I)Z" } : MethodName)) ∈ q_tbl := q_of 2359 (by decide +kernel) (by decide +kernel)
theorem w_2360 : (Cond.static ({ cls := "NumberHouseModel", name := "no", desc := "(I)Z" } : MethodName)) ∈ q_tbl := q_of 2360 (by decide +kernel) (by decide +kernel)
theorem LS_NM_70 : q_LS "NumberHouseModel" 70 y_NM_no_IZ prog_14_method_8_code 1 (some .boolean) 1 := ⟨w_2361, w_14, w_2359, w_2360, ⟨by decide, by decide, by decide +kernel⟩⟩
theorem d_14_9_13 : decode prog_14_method_9_code 13 = .ok (.ifCond .eq 7, 3) := by decide +kernel
theorem d_14_9_20 : decode prog_14_method_9_code 20 = .ok (.iconst 0, 1) := by decide +kernel
def y_NM_no_IIZ : MethodName := ⟨"NumberHouseModel", "no", "(II)Z"⟩
set_option maxRecDepth 100000 in
set_option maxHeartbeats 4000000 in
theorem c_NM_no_IIZ (l : Launch) (D : va_G) (g : Nat → ClassId) (ws : va_W) (x1 : Int32) (x2 : Int32) : q_mI l y_NM_no_IIZ prog_14_method_9_code 2 (.boolean) 2 0 0 D g [.int x1, .int x2] ws (fun r u => (x1 < 0 ∧ 1 = r ∧ ws = u) ∨ (¬ x1 < 0 ∧ 3 < x1 ∧ 1 = r ∧ ws = u) ∨ (¬ x1 < 0 ∧ ¬ 3 < x1 ∧ x2 < 0 ∧ 1 = r ∧ ws = u) ∨ (¬ x1 < 0 ∧ ¬ 3 < x1 ∧ ¬ x2 < 0 ∧ x2 ≤ 9 ∧ 0 = r ∧ ws = u) ∨ (¬ x1 < 0 ∧ ¬ 3 < x1 ∧ ¬ x2 < 0 ∧ ¬ x2 ≤ 9 ∧ 1 = r ∧ ws = u)) := by
  intro sz
  refine q_into (by decide) (Nat.le_of_ble_eq_true rfl) ?_
  intro p e s m below meth c ls hsz C0 V hl
  have hx := C0.1
  have hb := C0.2.1
  have hl : lv_has ls 2 [(0, .int x1), (1, .int x2)] := hl
  refine lv_iload_n hx hb d_14_9_0 rfl (lv_at hl 0 rfl) ?_
  refine lv_if_lt (tgt := 16) hx hb d_14_9_1 (by decide) (fun c1 => ?_) (fun c1 => ?_)
  ·
    refine lv_iconst (v := 1) hx hb d_14_9_16 (by decide) ?_
    refine lv_goto (tgt := 21) hx hb d_14_9_17 (by decide) ?_
    exact q_retz C0 V (rfl) (Or.inl ⟨c1, rfl, rfl⟩) d_14_9_21
  ·
    refine lv_iload_n hx hb d_14_9_4 rfl (lv_at hl 0 rfl) ?_
    refine lv_iconst (v := 3) hx hb d_14_9_5 (by decide) ?_
    refine lv_icmp_gt (tgt := 16) hx hb d_14_9_6 (by decide) (fun c2 => ?_) (fun c2 => ?_)
    ·
      refine lv_iconst (v := 1) hx hb d_14_9_16 (by decide) ?_
      refine lv_goto (tgt := 21) hx hb d_14_9_17 (by decide) ?_
      exact q_retz C0 V (rfl) (Or.inr (Or.inl ⟨c1, c2, rfl, rfl⟩)) d_14_9_21
    ·
      refine lv_iload_n hx hb d_14_9_9 rfl (lv_at hl 1 rfl) ?_
      refine q_goi V (q_runS (As := [.int x2]) (rest := []) (d := 1) (mc := 0) (ms := 0) C0 V rfl LS_NM_70 (c_NM_no_IZ l D g ws x2 _) rfl hl.1 rfl (Nat.le_of_ble_eq_true rfl) ⟨by decide, by decide⟩ ⟨Nat.le_of_ble_eq_true rfl, Nat.le_of_ble_eq_true rfl⟩ d_14_9_10) (fun v5 u4 H locs hp3 V => ?_)
      rcases hp3 with ⟨c6, rfl, rfl⟩ | ⟨c8, c9, rfl, rfl⟩ | ⟨c11, c12, rfl, rfl⟩
      ·
        refine lv_if_eq (tgt := 20) hx hb d_14_9_13 (by decide) (fun c14 => absurd c14 (by decide)) (fun c14 => ?_)
        refine lv_iconst (v := 1) hx hb d_14_9_16 (by decide) ?_
        refine lv_goto (tgt := 21) hx hb d_14_9_17 (by decide) ?_
        exact q_retz C0 V (rfl) (Or.inr (Or.inr (Or.inl ⟨c1, c2, c6, rfl, rfl⟩))) d_14_9_21
      ·
        refine lv_if_eq (tgt := 20) hx hb d_14_9_13 (by decide) (fun c15 => ?_) (fun c15 => absurd (by decide) c15)
        refine lv_iconst (v := 0) hx hb d_14_9_20 (by decide) ?_
        exact q_retz C0 V (rfl) (Or.inr (Or.inr (Or.inr (Or.inl ⟨c1, c2, c8, c9, rfl, rfl⟩)))) d_14_9_21
      ·
        refine lv_if_eq (tgt := 20) hx hb d_14_9_13 (by decide) (fun c16 => absurd c16 (by decide)) (fun c16 => ?_)
        refine lv_iconst (v := 1) hx hb d_14_9_16 (by decide) ?_
        refine lv_goto (tgt := 21) hx hb d_14_9_17 (by decide) ?_
        exact q_retz C0 V (rfl) (Or.inr (Or.inr (Or.inr (Or.inr (⟨c1, c2, c11, c12, rfl, rfl⟩))))) d_14_9_21
theorem d_14_11_0 : decode prog_14_method_11_code 0 = .ok (.aload_n 0, 1) := by decide +kernel
theorem d_14_11_1 : decode prog_14_method_11_code 1 = .ok (.getfield 51, 3) := by decide +kernel
theorem d_14_11_4 : decode prog_14_method_11_code 4 = .ok (.iload_n 1, 1) := by decide +kernel
theorem d_14_11_5 : decode prog_14_method_11_code 5 = .ok (.iconst 3, 1) := by decide +kernel
theorem d_14_11_6 : decode prog_14_method_11_code 6 = .ok (.if_icmp .ne 10, 3) := by decide +kernel
theorem d_14_11_16 : decode prog_14_method_11_code 16 = .ok (.iload_n 2, 1) := by decide +kernel
theorem d_14_11_17 : decode prog_14_method_11_code 17 = .ok (.laload, 1) := by decide +kernel
theorem d_14_11_18 : decode prog_14_method_11_code 18 = .ok (.lreturn, 1) := by decide +kernel
theorem d_14_11_9 : decode prog_14_method_11_code 9 = .ok (.bipush 10, 2) := by decide +kernel
theorem d_14_11_11 : decode prog_14_method_11_code 11 = .ok (.iload_n 2, 1) := by decide +kernel
theorem d_14_11_12 : decode prog_14_method_11_code 12 = .ok (.iadd, 1) := by decide +kernel
theorem d_14_11_13 : decode prog_14_method_11_code 13 = .ok (.goto 4, 3) := by decide +kernel
def y_NM_bitsOf : MethodName := ⟨"NumberHouseModel", "bitsOf", "(II)J"⟩
set_option maxRecDepth 100000 in
set_option maxHeartbeats 4000000 in
theorem c_NM_bitsOf (l : Launch) (D : va_G) (g : Nat → ClassId) (ws : va_W) ( qO0 qA1 qA2 qO3 qO4 qO5 qO6 qO7 qA8 qA9 : Nat) (x1 : Int32) (x2 : Int32) (hO0 : ws[116]? = (some (qO0, .inr (12, [.int 0, .ref qA1, .int 0, .ref qA2, .int 0, .ref qO3, .ref qO4, .ref qO5, .ref qO6, .ref qO7, .ref qA8, .ref qA9])) : Option (Nat × va_E))) (hA8 : ws[167]? = (some (qA8, .inl (g 1, 20, .inr (.inl (fun _ => 0)))) : Option (Nat × va_E))) (x1lo : 2 ≤ x1) (x1hi : x1 ≤ 3) (x2lo : 0 ≤ x2) (x2hi : x2 ≤ 9) : q_mL l y_NM_bitsOf prog_14_method_11_code 3 1 0 0 D g [.ref qO0, .int x1, .int x2] ws (fun r u => 0 = r ∧ ws = u) := by
  intro sz
  refine q_into (by decide) (Nat.le_of_ble_eq_true rfl) ?_
  intro p e s m below meth c ls hsz C0 V hl
  have hx := C0.1
  have hb := C0.2.1
  have hl : lv_has ls 3 [(0, .ref qO0), (1, .int x1), (2, .int x2)] := hl
  refine lv_aload_n hx hb d_14_11_0 rfl (lv_at hl 0 rfl) ?_
  refine q_get (ci := 12) (j := 10) (v := .ref qA8) C0 V i_NM rfl rfl hO0 (by decide) w_2308 rfl d_14_11_1 ?_
  refine lv_iload_n hx hb d_14_11_4 rfl (lv_at hl 1 rfl) ?_
  refine lv_iconst (v := 3) hx hb d_14_11_5 (by decide) ?_
  refine lv_icmp_ne (tgt := 16) hx hb d_14_11_6 (by decide) (fun c1 => ?_) (fun c1 => ?_)
  ·
    refine lv_iload_n hx hb d_14_11_16 rfl (lv_at hl 2 rfl) ?_
    refine q_lald C0 V hA8 (q_ix (x := x2.toInt) rfl (by have t1 : 0 ≤ x2.toInt := q_leI x2lo; have t2 : x2.toInt ≤ 9 := q_leI x2hi; omega) (by have t1 : 0 ≤ x2.toInt := q_leI x2lo; have t2 : x2.toInt ≤ 9 := q_leI x2hi; omega)) d_14_11_17 ?_
    refine q_tl (v := 0) (by first | rfl | decide | simp [upd, vp_updL, sb_cl0]) ?_
    exact q_retl C0 V (⟨rfl, rfl⟩) d_14_11_18
  ·
    refine lv_bipush (v := 10) hx hb d_14_11_9 (by decide) ?_
    refine lv_iload_n hx hb d_14_11_11 rfl (lv_at hl 2 rfl) ?_
    refine lv_iadd hx hb d_14_11_12 ?_
    refine lv_goto (tgt := 17) hx hb d_14_11_13 (by decide) ?_
    refine q_lald C0 V hA8 (q_ix (x := (10 + x2.toInt)) (q_addI (x := 10) (y := x2.toInt) (by decide) rfl (by have t1 : 0 ≤ x2.toInt := q_leI x2lo; have t2 : x2.toInt ≤ 9 := q_leI x2hi; omega) (by have t1 : 0 ≤ x2.toInt := q_leI x2lo; have t2 : x2.toInt ≤ 9 := q_leI x2hi; omega)) (by have t1 : 0 ≤ x2.toInt := q_leI x2lo; have t2 : x2.toInt ≤ 9 := q_leI x2hi; omega) (by have t1 : 0 ≤ x2.toInt := q_leI x2lo; have t2 : x2.toInt ≤ 9 := q_leI x2hi; omega)) d_14_11_17 ?_
    refine q_tl (v := 0) (by first | rfl | decide | simp [upd, vp_updL, sb_cl0]) ?_
    exact q_retl C0 V (⟨rfl, rfl⟩) d_14_11_18
theorem d_14_13_0 : decode prog_14_method_13_code 0 = .ok (.iload_n 0, 1) := by decide +kernel
theorem d_14_13_1 : decode prog_14_method_13_code 1 = .ok (.iconst 3, 1) := by decide +kernel
theorem d_14_13_2 : decode prog_14_method_13_code 2 = .ok (.if_icmp .ne 26, 3) := by decide +kernel
theorem d_14_13_28 : decode prog_14_method_13_code 28 = .ok (.lload_n 1, 1) := by decide +kernel
theorem d_14_13_29 : decode prog_14_method_13_code 29 = .ok (.bipush 52, 2) := by decide +kernel
theorem d_14_13_31 : decode prog_14_method_13_code 31 = .ok (.lushr, 1) := by decide +kernel
theorem d_14_13_32 : decode prog_14_method_13_code 32 = .ok (.ldc2_w 74, 3) := by decide +kernel
theorem w_2580 : (Cond.constantLong "NumberHouseModel" (74 : Nat) (2047 : Int64)) ∈ q_tbl := q_of 2580 (by decide +kernel) (by decide +kernel)
theorem d_14_13_35 : decode prog_14_method_13_code 35 = .ok (.land, 1) := by decide +kernel
theorem d_14_13_36 : decode prog_14_method_13_code 36 = .ok (.ldc2_w 74, 3) := by decide +kernel
theorem d_14_13_39 : decode prog_14_method_13_code 39 = .ok (.lcmp, 1) := by decide +kernel
theorem d_14_13_40 : decode prog_14_method_13_code 40 = .ok (.ifCond .ge 7, 3) := by decide +kernel
theorem d_14_13_43 : decode prog_14_method_13_code 43 = .ok (.iconst 1, 1) := by decide +kernel
theorem d_14_13_44 : decode prog_14_method_13_code 44 = .ok (.goto 4, 3) := by decide +kernel
theorem d_14_13_48 : decode prog_14_method_13_code 48 = .ok (.ireturn, 1) := by decide +kernel
theorem d_14_13_5 : decode prog_14_method_13_code 5 = .ok (.lload_n 1, 1) := by decide +kernel
theorem d_14_13_6 : decode prog_14_method_13_code 6 = .ok (.bipush 23, 2) := by decide +kernel
theorem d_14_13_8 : decode prog_14_method_13_code 8 = .ok (.lushr, 1) := by decide +kernel
theorem d_14_13_9 : decode prog_14_method_13_code 9 = .ok (.ldc2_w 65, 3) := by decide +kernel
theorem d_14_13_12 : decode prog_14_method_13_code 12 = .ok (.land, 1) := by decide +kernel
theorem d_14_13_13 : decode prog_14_method_13_code 13 = .ok (.ldc2_w 65, 3) := by decide +kernel
theorem d_14_13_16 : decode prog_14_method_13_code 16 = .ok (.lcmp, 1) := by decide +kernel
theorem d_14_13_17 : decode prog_14_method_13_code 17 = .ok (.ifCond .ge 7, 3) := by decide +kernel
theorem d_14_13_20 : decode prog_14_method_13_code 20 = .ok (.iconst 1, 1) := by decide +kernel
theorem d_14_13_21 : decode prog_14_method_13_code 21 = .ok (.goto 27, 3) := by decide +kernel
def y_NM_isFinite : MethodName := ⟨"NumberHouseModel", "isFinite", "(IJ)Z"⟩
set_option maxRecDepth 100000 in
set_option maxHeartbeats 4000000 in
theorem c_NM_isFinite (l : Launch) (D : va_G) (g : Nat → ClassId) (ws : va_W) (x1 : Int32) (x1lo : 2 ≤ x1) (x1hi : x1 ≤ 3) : q_mI l y_NM_isFinite prog_14_method_13_code 3 (.boolean) 1 0 0 D g [.int x1, .long 0] ws (fun r u => 1 = r ∧ ws = u) := by
  intro sz
  refine q_into (by decide) (Nat.le_of_ble_eq_true rfl) ?_
  intro p e s m below meth c ls hsz C0 V hl
  have hx := C0.1
  have hb := C0.2.1
  have hl : lv_has ls 3 [(0, .int x1), (1, .long 0)] := hl
  refine lv_iload_n hx hb d_14_13_0 rfl (lv_at hl 0 rfl) ?_
  refine lv_iconst (v := 3) hx hb d_14_13_1 (by decide) ?_
  refine lv_icmp_ne (tgt := 28) hx hb d_14_13_2 (by decide) (fun c1 => ?_) (fun c1 => ?_)
  ·
    refine lv_lload_n hx hb d_14_13_28 rfl (lv_at hl 1 rfl) ?_
    refine lv_bipush (v := 52) hx hb d_14_13_29 (by decide) ?_
    refine lv_lushr hx hb d_14_13_31 rfl ?_
    refine q_tl (v := 0) (by decide) ?_
    refine q_ldc2 C0 rfl w_2580 d_14_13_32 ?_
    refine lv_land hx hb d_14_13_35 ?_
    refine q_tl (v := 0) (by decide) ?_
    refine q_ldc2 C0 rfl w_2580 d_14_13_36 ?_
    refine W.lcmp hx hb d_14_13_39 ?_
    refine q_ti (v := (-1)) (by decide) ?_
    refine lv_if_ge (tgt := 47) hx hb d_14_13_40 (by decide) (fun c2 => absurd c2 (by decide)) (fun c2 => ?_)
    refine lv_iconst (v := 1) hx hb d_14_13_43 (by decide) ?_
    refine lv_goto (tgt := 48) hx hb d_14_13_44 (by decide) ?_
    exact q_retz C0 V (rfl) (⟨rfl, rfl⟩) d_14_13_48
  ·
    refine lv_lload_n hx hb d_14_13_5 rfl (lv_at hl 1 rfl) ?_
    refine lv_bipush (v := 23) hx hb d_14_13_6 (by decide) ?_
    refine lv_lushr hx hb d_14_13_8 rfl ?_
    refine q_tl (v := 0) (by decide) ?_
    refine q_ldc2 C0 rfl w_2343 d_14_13_9 ?_
    refine lv_land hx hb d_14_13_12 ?_
    refine q_tl (v := 0) (by decide) ?_
    refine q_ldc2 C0 rfl w_2343 d_14_13_13 ?_
    refine W.lcmp hx hb d_14_13_16 ?_
    refine q_ti (v := (-1)) (by decide) ?_
    refine lv_if_ge (tgt := 24) hx hb d_14_13_17 (by decide) (fun c3 => absurd c3 (by decide)) (fun c3 => ?_)
    refine lv_iconst (v := 1) hx hb d_14_13_20 (by decide) ?_
    refine lv_goto (tgt := 48) hx hb d_14_13_21 (by decide) ?_
    exact q_retz C0 V (rfl) (⟨rfl, rfl⟩) d_14_13_48
theorem d_14_14_0 : decode prog_14_method_14_code 0 = .ok (.iload_n 0, 1) := by decide +kernel
theorem d_14_14_1 : decode prog_14_method_14_code 1 = .ok (.lload_n 1, 1) := by decide +kernel
theorem d_14_14_2 : decode prog_14_method_14_code 2 = .ok (.invokestatic 76, 3) := by decide +kernel
theorem w_2579 : (Cond.code ({ cls := "NumberHouseModel", name := "isFinite", desc := "(IJ)Z" } : MethodName) prog_14_method_13_code (3 : Nat) (some .boolean)) ∈ q_tbl := q_of 2579 (by decide +kernel) (by decide +kernel)
theorem w_2577 : (Cond.methodLink "NumberHouseModel" (76 : Nat) ({ cls := "NumberHouseModel", name := "isFinite", desc := "(IJ)Z" } : MethodName)) ∈ q_tbl := q_of 2577 (by decide +kernel) (by decide +kernel)
theorem w_2578 : (Cond.static ({ cls := "NumberHouseModel", name := "isFinite", desc := "(IJ)Z" } : MethodName)) ∈ q_tbl := q_of 2578 (by decide +kernel) (by decide +kernel)
theorem LS_NM_76 : q_LS "NumberHouseModel" 76 y_NM_isFinite prog_14_method_13_code 3 (some .boolean) 2 := ⟨w_2579, w_14, w_2577, w_2578, ⟨by decide, by decide, by decide +kernel⟩⟩
theorem d_14_14_5 : decode prog_14_method_14_code 5 = .ok (.ifCond .ne 31, 3) := by decide +kernel
theorem d_14_14_36 : decode prog_14_method_14_code 36 = .ok (.iconst 1, 1) := by decide +kernel
theorem d_14_14_37 : decode prog_14_method_14_code 37 = .ok (.goto 4, 3) := by decide +kernel
theorem d_14_14_41 : decode prog_14_method_14_code 41 = .ok (.ireturn, 1) := by decide +kernel
def y_NM_isNumber : MethodName := ⟨"NumberHouseModel", "isNumber", "(IJ)Z"⟩
set_option maxRecDepth 100000 in
set_option maxHeartbeats 4000000 in
theorem c_NM_isNumber (l : Launch) (D : va_G) (g : Nat → ClassId) (ws : va_W) (x1 : Int32) (x1lo : 2 ≤ x1) (x1hi : x1 ≤ 3) : q_mI l y_NM_isNumber prog_14_method_14_code 3 (.boolean) 2 0 0 D g [.int x1, .long 0] ws (fun r u => 1 = r ∧ ws = u) := by
  intro sz
  refine q_into (by decide) (Nat.le_of_ble_eq_true rfl) ?_
  intro p e s m below meth c ls hsz C0 V hl
  have hx := C0.1
  have hb := C0.2.1
  have hl : lv_has ls 3 [(0, .int x1), (1, .long 0)] := hl
  refine lv_iload_n hx hb d_14_14_0 rfl (lv_at hl 0 rfl) ?_
  refine lv_lload_n hx hb d_14_14_1 rfl (lv_at hl 1 rfl) ?_
  refine q_goi V (q_runS (As := [.int x1, .long 0]) (rest := []) (d := 1) (mc := 0) (ms := 0) C0 V rfl LS_NM_76 (c_NM_isFinite l D g ws x1 x1lo x1hi _) rfl hl.1 rfl (Nat.le_of_ble_eq_true rfl) ⟨by decide, by decide⟩ ⟨Nat.le_of_ble_eq_true rfl, Nat.le_of_ble_eq_true rfl⟩ d_14_14_2) (fun v3 u2 H locs hp1 V => ?_)
  obtain ⟨rfl, rfl⟩ := hp1
  refine lv_if_ne (tgt := 36) hx hb d_14_14_5 (by decide) (fun c5 => ?_) (fun c5 => absurd c5 (by decide))
  refine lv_iconst (v := 1) hx hb d_14_14_36 (by decide) ?_
  refine lv_goto (tgt := 41) hx hb d_14_14_37 (by decide) ?_
  exact q_retz C0 V (rfl) (⟨rfl, rfl⟩) d_14_14_41
theorem d_14_18_0 : decode prog_14_method_18_code 0 = .ok (.iload_n 0, 1) := by decide +kernel
theorem d_14_18_1 : decode prog_14_method_18_code 1 = .ok (.iconst 3, 1) := by decide +kernel
theorem d_14_18_2 : decode prog_14_method_18_code 2 = .ok (.if_icmp .ne 9, 3) := by decide +kernel
theorem d_14_18_11 : decode prog_14_method_18_code 11 = .ok (.ldc2_w 153, 3) := by decide +kernel
theorem w_2676 : (Cond.constantLong "NumberHouseModel" (153 : Nat) (-9223372036854775808 : Int64)) ∈ q_tbl := q_of 2676 (by decide +kernel) (by decide +kernel)
theorem d_14_18_14 : decode prog_14_method_18_code 14 = .ok (.lstore_n 3, 1) := by decide +kernel
theorem d_14_18_15 : decode prog_14_method_18_code 15 = .ok (.lload_n 1, 1) := by decide +kernel
theorem d_14_18_16 : decode prog_14_method_18_code 16 = .ok (.lload_n 3, 1) := by decide +kernel
theorem d_14_18_17 : decode prog_14_method_18_code 17 = .ok (.land, 1) := by decide +kernel
theorem d_14_18_18 : decode prog_14_method_18_code 18 = .ok (.lconst 0, 1) := by decide +kernel
theorem d_14_18_19 : decode prog_14_method_18_code 19 = .ok (.lcmp, 1) := by decide +kernel
theorem d_14_18_20 : decode prog_14_method_18_code 20 = .ok (.ifCond .ne 7, 3) := by decide +kernel
theorem d_14_18_23 : decode prog_14_method_18_code 23 = .ok (.lload_n 1, 1) := by decide +kernel
theorem d_14_18_24 : decode prog_14_method_18_code 24 = .ok (.goto 11, 3) := by decide +kernel
theorem d_14_18_35 : decode prog_14_method_18_code 35 = .ok (.lreturn, 1) := by decide +kernel
theorem d_14_18_5 : decode prog_14_method_18_code 5 = .ok (.ldc2_w 149, 3) := by decide +kernel
theorem w_2675 : (Cond.constantLong "NumberHouseModel" (149 : Nat) (2147483648 : Int64)) ∈ q_tbl := q_of 2675 (by decide +kernel) (by decide +kernel)
theorem d_14_18_8 : decode prog_14_method_18_code 8 = .ok (.goto 6, 3) := by decide +kernel
def y_NM_placeOf : MethodName := ⟨"NumberHouseModel", "placeOf", "(IJ)J"⟩
set_option maxRecDepth 100000 in
set_option maxHeartbeats 4000000 in
theorem c_NM_placeOf (l : Launch) (D : va_G) (g : Nat → ClassId) (ws : va_W) (x1 : Int32) (x1lo : 2 ≤ x1) (x1hi : x1 ≤ 3) : q_mL l y_NM_placeOf prog_14_method_18_code 5 1 0 0 D g [.int x1, .long 0] ws (fun r u => 0 = r ∧ ws = u) := by
  intro sz
  refine q_into (by decide) (Nat.le_of_ble_eq_true rfl) ?_
  intro p e s m below meth c ls hsz C0 V hl
  have hx := C0.1
  have hb := C0.2.1
  have hl : lv_has ls 5 [(0, .int x1), (1, .long 0)] := hl
  refine lv_iload_n hx hb d_14_18_0 rfl (lv_at hl 0 rfl) ?_
  refine lv_iconst (v := 3) hx hb d_14_18_1 (by decide) ?_
  refine lv_icmp_ne (tgt := 11) hx hb d_14_18_2 (by decide) (fun c1 => ?_) (fun c1 => ?_)
  ·
    refine q_ldc2 C0 rfl w_2676 d_14_18_11 ?_
    refine lv_lstore_n (lv' := [(3, .long (-9223372036854775808)), (0, .int x1), (1, .long 0)]) hx hb d_14_18_14 rfl hl (by decide) rfl (fun ls hl => ?_)
    refine lv_lload_n hx hb d_14_18_15 rfl (lv_at hl 2 rfl) ?_
    refine lv_lload_n hx hb d_14_18_16 rfl (lv_at hl 0 rfl) ?_
    refine lv_land hx hb d_14_18_17 ?_
    refine q_tl (v := 0) (by decide) ?_
    refine lv_lconst (v := 0) hx hb d_14_18_18 (by decide) ?_
    refine W.lcmp hx hb d_14_18_19 ?_
    refine q_ti (v := 0) (by decide) ?_
    refine lv_if_ne (tgt := 27) hx hb d_14_18_20 (by decide) (fun c2 => absurd (by decide) c2) (fun c2 => ?_)
    refine lv_lload_n hx hb d_14_18_23 rfl (lv_at hl 2 rfl) ?_
    refine lv_goto (tgt := 35) hx hb d_14_18_24 (by decide) ?_
    exact q_retl C0 V (⟨rfl, rfl⟩) d_14_18_35
  ·
    refine q_ldc2 C0 rfl w_2675 d_14_18_5 ?_
    refine lv_goto (tgt := 14) hx hb d_14_18_8 (by decide) ?_
    refine lv_lstore_n (lv' := [(3, .long 2147483648), (0, .int x1), (1, .long 0)]) hx hb d_14_18_14 rfl hl (by decide) rfl (fun ls hl => ?_)
    refine lv_lload_n hx hb d_14_18_15 rfl (lv_at hl 2 rfl) ?_
    refine lv_lload_n hx hb d_14_18_16 rfl (lv_at hl 0 rfl) ?_
    refine lv_land hx hb d_14_18_17 ?_
    refine q_tl (v := 0) (by decide) ?_
    refine lv_lconst (v := 0) hx hb d_14_18_18 (by decide) ?_
    refine W.lcmp hx hb d_14_18_19 ?_
    refine q_ti (v := 0) (by decide) ?_
    refine lv_if_ne (tgt := 27) hx hb d_14_18_20 (by decide) (fun c3 => absurd (by decide) c3) (fun c3 => ?_)
    refine lv_lload_n hx hb d_14_18_23 rfl (lv_at hl 2 rfl) ?_
    refine lv_goto (tgt := 35) hx hb d_14_18_24 (by decide) ?_
    exact q_retl C0 V (⟨rfl, rfl⟩) d_14_18_35
theorem d_15_3_0 : decode prog_15_method_3_code 0 = .ok (.iload_n 0, 1) := by decide +kernel
theorem d_15_3_1 : decode prog_15_method_3_code 1 = .ok (.ifCond .lt 9, 3) := by decide +kernel
theorem d_15_3_4 : decode prog_15_method_3_code 4 = .ok (.iload_n 0, 1) := by decide +kernel
theorem d_15_3_5 : decode prog_15_method_3_code 5 = .ok (.bipush 10, 2) := by decide +kernel
theorem d_15_3_7 : decode prog_15_method_3_code 7 = .ok (.if_icmp .lt 7, 3) := by decide +kernel
theorem d_15_3_14 : decode prog_15_method_3_code 14 = .ok (.iconst 0, 1) := by decide +kernel
theorem d_15_3_15 : decode prog_15_method_3_code 15 = .ok (.ireturn, 1) := by decide +kernel
def y_DR_no : MethodName := ⟨"NumberHouseModel$DecimalRows", "no", "(I)Z"⟩
set_option maxRecDepth 100000 in
set_option maxHeartbeats 4000000 in
theorem c_DR_no (l : Launch) (D : va_G) (g : Nat → ClassId) (ws : va_W) (x1 : Int32) (x1lo : 0 ≤ x1) (x1hi : x1 ≤ 9) : q_mI l y_DR_no prog_15_method_3_code 1 (.boolean) 1 0 0 D g [.int x1] ws (fun r u => 0 = r ∧ ws = u) := by
  intro sz
  refine q_into (by decide) (Nat.le_of_ble_eq_true rfl) ?_
  intro p e s m below meth c ls hsz C0 V hl
  have hx := C0.1
  have hb := C0.2.1
  have hl : lv_has ls 1 [(0, .int x1)] := hl
  refine lv_iload_n hx hb d_15_3_0 rfl (lv_at hl 0 rfl) ?_
  refine lv_if_lt (tgt := 10) hx hb d_15_3_1 (by decide) (fun c1 => absurd c1 (Int32.not_lt.mpr x1lo)) (fun c1 => ?_)
  refine lv_iload_n hx hb d_15_3_4 rfl (lv_at hl 0 rfl) ?_
  refine lv_bipush (v := 10) hx hb d_15_3_5 (by decide) ?_
  refine lv_icmp_lt (tgt := 14) hx hb d_15_3_7 (by decide) (fun c2 => ?_) (fun c2 => absurd (q_Ilt (x := x1.toInt) (y := 10) rfl (by decide) (by have t1 : 0 ≤ x1.toInt := q_leI x1lo; have t2 : x1.toInt ≤ 9 := q_leI x1hi; omega)) c2)
  refine lv_iconst (v := 0) hx hb d_15_3_14 (by decide) ?_
  exact q_retz C0 V (rfl) (⟨rfl, rfl⟩) d_15_3_15
theorem d_15_5_0 : decode prog_15_method_5_code 0 = .ok (.aload_n 0, 1) := by decide +kernel
theorem d_15_5_1 : decode prog_15_method_5_code 1 = .ok (.getfield 13, 3) := by decide +kernel
theorem d_15_5_4 : decode prog_15_method_5_code 4 = .ok (.sipush 1000, 3) := by decide +kernel
theorem d_15_5_7 : decode prog_15_method_5_code 7 = .ok (.iload_n 1, 1) := by decide +kernel
theorem d_15_5_8 : decode prog_15_method_5_code 8 = .ok (.imul, 1) := by decide +kernel
theorem d_15_5_9 : decode prog_15_method_5_code 9 = .ok (.iaload, 1) := by decide +kernel
theorem d_15_5_10 : decode prog_15_method_5_code 10 = .ok (.ifCond .ne 7, 3) := by decide +kernel
theorem d_15_5_13 : decode prog_15_method_5_code 13 = .ok (.iconst 1, 1) := by decide +kernel
theorem d_15_5_14 : decode prog_15_method_5_code 14 = .ok (.goto 4, 3) := by decide +kernel
theorem d_15_5_18 : decode prog_15_method_5_code 18 = .ok (.ireturn, 1) := by decide +kernel
def y_DR_isZero : MethodName := ⟨"NumberHouseModel$DecimalRows", "isZero", "(I)Z"⟩
set_option maxRecDepth 100000 in
set_option maxHeartbeats 4000000 in
theorem c_DR_isZero (l : Launch) (D : va_G) (g : Nat → ClassId) (ws : va_W) (kO0 kA2 qO0 qA1 qA2 qA3 qA4 qA5 qA6 qA7 qA8 qA9 qA10 : Nat) (x1 : Int32) (hO0 : ws[kO0]? = (some (qO0, .inr (14, [.int 0, .ref qA1, .int 0, .ref qA2, .ref qA3, .ref qA4, .ref qA5, .ref qA6, .int 0, .long 0, .int 0, .int 0, .ref qA7, .int 0, .ref qA8, .int 0, .ref qA9, .int 0, .ref qA10, .int 0, .int 0])) : Option (Nat × va_E))) (hA2 : ws[kA2]? = (some (qA2, .inl (g 0, 10000, .inl (fun _ => 0))) : Option (Nat × va_E))) (x1lo : 0 ≤ x1) (x1hi : x1 ≤ 9) : q_mI l y_DR_isZero prog_15_method_5_code 2 (.boolean) 1 0 0 D g [.ref qO0, .int x1] ws (fun r u => 1 = r ∧ ws = u) := by
  intro sz
  refine q_into (by decide) (Nat.le_of_ble_eq_true rfl) ?_
  intro p e s m below meth c ls hsz C0 V hl
  have hx := C0.1
  have hb := C0.2.1
  have hl : lv_has ls 2 [(0, .ref qO0), (1, .int x1)] := hl
  refine lv_aload_n hx hb d_15_5_0 rfl (lv_at hl 0 rfl) ?_
  refine q_get (ci := 14) (j := 3) (v := .ref qA2) C0 V i_DR rfl rfl hO0 (by decide) w_2002 rfl d_15_5_1 ?_
  refine lv_sipush (v := 1000) hx hb d_15_5_4 (by decide) ?_
  refine lv_iload_n hx hb d_15_5_7 rfl (lv_at hl 1 rfl) ?_
  refine lv_imul hx hb d_15_5_8 ?_
  refine q_iald C0 V hA2 (q_ix (x := (1000 * x1.toInt)) (q_mulI (x := 1000) (y := x1.toInt) (by decide) rfl (by have t1 : 0 ≤ x1.toInt := q_leI x1lo; have t2 : x1.toInt ≤ 9 := q_leI x1hi; omega) (by have t1 : 0 ≤ x1.toInt := q_leI x1lo; have t2 : x1.toInt ≤ 9 := q_leI x1hi; omega)) (by have t1 : 0 ≤ x1.toInt := q_leI x1lo; have t2 : x1.toInt ≤ 9 := q_leI x1hi; omega) (by have t1 : 0 ≤ x1.toInt := q_leI x1lo; have t2 : x1.toInt ≤ 9 := q_leI x1hi; omega)) d_15_5_9 ?_
  refine q_ti (v := 0) (by first | rfl | decide | simp [upd, vp_updL, sb_cl0]) ?_
  refine lv_if_ne (tgt := 17) hx hb d_15_5_10 (by decide) (fun c1 => absurd (by decide) c1) (fun c1 => ?_)
  refine lv_iconst (v := 1) hx hb d_15_5_13 (by decide) ?_
  refine lv_goto (tgt := 18) hx hb d_15_5_14 (by decide) ?_
  exact q_retz C0 V (rfl) (⟨rfl, rfl⟩) d_15_5_18
theorem d_15_24_0 : decode prog_15_method_24_code 0 = .ok (.aload_n 0, 1) := by decide +kernel
theorem d_15_24_1 : decode prog_15_method_24_code 1 = .ok (.iload_n 1, 1) := by decide +kernel
theorem d_15_24_2 : decode prog_15_method_24_code 2 = .ok (.invokestatic 113, 3) := by decide +kernel
theorem w_2395 : (Cond.code ({ cls := "NumberHouseModel$DecimalRows", name := "no", desc := "(I)Z" } : MethodName) prog_15_method_3_code (1 : Nat) (some .boolean)) ∈ q_tbl := q_of 2395 (by decide +kernel) (by decide +kernel)
theorem w_2393 : (Cond.methodLink "NumberHouseModel$DecimalRows" (113 : Nat) ({ cls := "NumberHouseModel$DecimalRows", name := "no", desc := "(I)Z" } : MethodName)) ∈ q_tbl := q_of 2393 (by decide +kernel) (by decide +kernel)
theorem w_2394 : (Cond.static ({ cls := "NumberHouseModel$DecimalRows", name := "no", desc := "(I)Z" } : MethodName)) ∈ q_tbl := q_of 2394 (by decide +kernel) (by decide +kernel)
theorem LS_DR_113 : q_LS "NumberHouseModel$DecimalRows" 113 y_DR_no prog_15_method_3_code 1 (some .boolean) 1 := ⟨w_2395, w_16, w_2393, w_2394, ⟨by decide, by decide, by decide +kernel⟩⟩
theorem d_15_24_5 : decode prog_15_method_24_code 5 = .ok (.ifCond .ne 10, 3) := by decide +kernel
theorem d_15_24_8 : decode prog_15_method_24_code 8 = .ok (.iload_n 2, 1) := by decide +kernel
theorem d_15_24_9 : decode prog_15_method_24_code 9 = .ok (.invokestatic 113, 3) := by decide +kernel
theorem d_15_24_12 : decode prog_15_method_24_code 12 = .ok (.ifCond .eq 7, 3) := by decide +kernel
theorem d_15_24_19 : decode prog_15_method_24_code 19 = .ok (.iconst 0, 1) := by decide +kernel
theorem d_15_24_20 : decode prog_15_method_24_code 20 = .ok (.putfield 41, 3) := by decide +kernel
theorem w_1996 : (Cond.fieldLink "NumberHouseModel$DecimalRows" (41 : Nat) "NumberHouseModel$DecimalRows" "thrown" "I") ∈ q_tbl := q_of 1996 (by decide +kernel) (by decide +kernel)
theorem d_15_24_23 : decode prog_15_method_24_code 23 = .ok (.aload_n 0, 1) := by decide +kernel
theorem d_15_24_24 : decode prog_15_method_24_code 24 = .ok (.getfield 41, 3) := by decide +kernel
theorem d_15_24_27 : decode prog_15_method_24_code 27 = .ok (.ifCond .le 5, 3) := by decide +kernel
theorem d_15_24_32 : decode prog_15_method_24_code 32 = .ok (.aload_n 0, 1) := by decide +kernel
theorem d_15_24_33 : decode prog_15_method_24_code 33 = .ok (.iload_n 1, 1) := by decide +kernel
theorem d_15_24_34 : decode prog_15_method_24_code 34 = .ok (.invokevirtual 120, 3) := by decide +kernel
theorem w_2572 : (Cond.code ({ cls := "NumberHouseModel$DecimalRows", name := "isZero", desc := "(I)Z" } : MethodName) prog_15_method_5_code (2 : Nat) (some .boolean)) ∈ q_tbl := q_of 2572 (by decide +kernel) (by decide +kernel)
theorem w_2569 : (Cond.methodLink "NumberHouseModel$DecimalRows" (120 : Nat) ({ cls := "NumberHouseModel$DecimalRows", name := "isZero", desc := "(I)Z" } : MethodName)) ∈ q_tbl := q_of 2569 (by decide +kernel) (by decide +kernel)
theorem w_2571 : (Cond.instanceMethod ({ cls := "NumberHouseModel$DecimalRows", name := "isZero", desc := "(I)Z" } : MethodName)) ∈ q_tbl := q_of 2571 (by decide +kernel) (by decide +kernel)
theorem ws_87 : Cond.selects "NumberHouseModel$DecimalRows" (⟨"NumberHouseModel$DecimalRows", "isZero", "(I)Z"⟩ : MethodName) (⟨"NumberHouseModel$DecimalRows", "isZero", "(I)Z"⟩ : MethodName) ∈ q_tbl := q_ofs 87 (by decide +kernel) (by decide +kernel)
theorem LV_DR_120 : q_LV "NumberHouseModel$DecimalRows" 120 y_DR_isZero prog_15_method_5_code 2 (some .boolean) 1 := ⟨w_2572, w_16, w_2569, w_2571, ws_87, ⟨by decide, by decide, by decide +kernel⟩⟩
theorem d_15_24_37 : decode prog_15_method_24_code 37 = .ok (.ifCond .eq 7, 3) := by decide +kernel
theorem d_15_24_40 : decode prog_15_method_24_code 40 = .ok (.iconst 0, 1) := by decide +kernel
theorem d_15_24_41 : decode prog_15_method_24_code 41 = .ok (.goto 17, 3) := by decide +kernel
theorem d_15_24_58 : decode prog_15_method_24_code 58 = .ok (.istore_n 3, 1) := by decide +kernel
theorem d_15_24_59 : decode prog_15_method_24_code 59 = .ok (.aload_n 0, 1) := by decide +kernel
theorem d_15_24_60 : decode prog_15_method_24_code 60 = .ok (.iload_n 2, 1) := by decide +kernel
theorem d_15_24_61 : decode prog_15_method_24_code 61 = .ok (.invokevirtual 120, 3) := by decide +kernel
theorem d_15_24_64 : decode prog_15_method_24_code 64 = .ok (.ifCond .eq 7, 3) := by decide +kernel
theorem d_15_24_67 : decode prog_15_method_24_code 67 = .ok (.iconst 0, 1) := by decide +kernel
theorem d_15_24_68 : decode prog_15_method_24_code 68 = .ok (.goto 17, 3) := by decide +kernel
theorem d_15_24_85 : decode prog_15_method_24_code 85 = .ok (.istore 4, 2) := by decide +kernel
theorem d_15_24_87 : decode prog_15_method_24_code 87 = .ok (.iload_n 3, 1) := by decide +kernel
theorem d_15_24_88 : decode prog_15_method_24_code 88 = .ok (.iload 4, 2) := by decide +kernel
theorem d_15_24_90 : decode prog_15_method_24_code 90 = .ok (.if_icmp .ne 7, 3) := by decide +kernel
theorem d_15_24_93 : decode prog_15_method_24_code 93 = .ok (.iload_n 3, 1) := by decide +kernel
theorem d_15_24_94 : decode prog_15_method_24_code 94 = .ok (.ifCond .ne 25, 3) := by decide +kernel
theorem d_15_24_97 : decode prog_15_method_24_code 97 = .ok (.iload_n 3, 1) := by decide +kernel
theorem d_15_24_98 : decode prog_15_method_24_code 98 = .ok (.iload 4, 2) := by decide +kernel
theorem d_15_24_100 : decode prog_15_method_24_code 100 = .ok (.if_icmp .ge 7, 3) := by decide +kernel
theorem d_15_24_107 : decode prog_15_method_24_code 107 = .ok (.iload_n 3, 1) := by decide +kernel
theorem d_15_24_108 : decode prog_15_method_24_code 108 = .ok (.iload 4, 2) := by decide +kernel
theorem d_15_24_110 : decode prog_15_method_24_code 110 = .ok (.if_icmp .le 7, 3) := by decide +kernel
theorem d_15_24_117 : decode prog_15_method_24_code 117 = .ok (.iconst 0, 1) := by decide +kernel
theorem d_15_24_118 : decode prog_15_method_24_code 118 = .ok (.ireturn, 1) := by decide +kernel
def y_DR_compare : MethodName := ⟨"NumberHouseModel$DecimalRows", "compare", "(II)I"⟩
set_option maxRecDepth 100000 in
set_option maxHeartbeats 4000000 in
theorem c_DR_compare (l : Launch) (D : va_G) (g : Nat → ClassId) (ws : va_W) (kO0 kA2 qO0 qA1 qA2 qA3 qA4 qA5 qA6 qA7 qA8 qA9 qA10 : Nat) (x1 : Int32) (x2 : Int32) (hO0 : ws[kO0]? = (some (qO0, .inr (14, [.int 0, .ref qA1, .int 0, .ref qA2, .ref qA3, .ref qA4, .ref qA5, .ref qA6, .int 0, .long 0, .int 0, .int 0, .ref qA7, .int 0, .ref qA8, .int 0, .ref qA9, .int 0, .ref qA10, .int 0, .int 0])) : Option (Nat × va_E))) (hA2 : ws[kA2]? = (some (qA2, .inl (g 0, 10000, .inl (fun _ => 0))) : Option (Nat × va_E))) (x1lo : 0 ≤ x1) (x1hi : x1 ≤ 9) (x2lo : 0 ≤ x2) (x2hi : x2 ≤ 9) : q_mI l y_DR_compare prog_15_method_24_code 5 (.int) 2 0 0 D g [.ref qO0, .int x1, .int x2] ws (fun r u => 0 = r ∧ q_un ws u [kO0] ∧ u[kO0]? = (some (qO0, .inr (14, [.int 0, .ref qA1, .int 0, .ref qA2, .ref qA3, .ref qA4, .ref qA5, .ref qA6, .int 0, .long 0, .int 0, .int 0, .ref qA7, .int 0, .ref qA8, .int 0, .ref qA9, .int 0, .ref qA10, .int 0, .int 0])) : Option (Nat × va_E))) := by
  intro sz
  refine q_into (by decide) (Nat.le_of_ble_eq_true rfl) ?_
  intro p e s m below meth c ls hsz C0 V hl
  have hx := C0.1
  have hb := C0.2.1
  have hl : lv_has ls 5 [(0, .ref qO0), (1, .int x1), (2, .int x2)] := hl
  have n_A2_O0 := q_df hA2 hO0
  have hF : q_un ws ws [kO0] := q_u0
  refine lv_aload_n hx hb d_15_24_0 rfl (lv_at hl 0 rfl) ?_
  refine lv_iload_n hx hb d_15_24_1 rfl (lv_at hl 1 rfl) ?_
  refine q_goi V (q_runS (As := [.int x1]) (rest := [.ref qO0]) (d := 1) (mc := 0) (ms := 0) C0 V rfl LS_DR_113 (c_DR_no l D g ws x1 x1lo x1hi _) rfl hl.1 rfl (Nat.le_of_ble_eq_true rfl) ⟨by decide, by decide⟩ ⟨Nat.le_of_ble_eq_true rfl, Nat.le_of_ble_eq_true rfl⟩ d_15_24_2) (fun v3 u2 H locs hp1 V => ?_)
  obtain ⟨rfl, rfl⟩ := hp1
  refine lv_if_ne (tgt := 15) hx hb d_15_24_5 (by decide) (fun c5 => absurd (by decide) c5) (fun c5 => ?_)
  refine lv_iload_n hx hb d_15_24_8 rfl (lv_at hl 2 rfl) ?_
  refine q_goi V (q_runS (As := [.int x2]) (rest := [.ref qO0]) (d := 1) (mc := 0) (ms := 0) C0 V rfl LS_DR_113 (c_DR_no l D g ws x2 x2lo x2hi _) rfl hl.1 rfl (Nat.le_of_ble_eq_true rfl) ⟨by decide, by decide⟩ ⟨Nat.le_of_ble_eq_true rfl, Nat.le_of_ble_eq_true rfl⟩ d_15_24_9) (fun v8 u7 H locs hp6 V => ?_)
  obtain ⟨rfl, rfl⟩ := hp6
  refine lv_if_eq (tgt := 19) hx hb d_15_24_12 (by decide) (fun c10 => ?_) (fun c10 => absurd (by decide) c10)
  refine lv_iconst (v := 0) hx hb d_15_24_19 (by decide) ?_
  refine q_put (ci := 14) (j := 0) (v := .int 0) (ty := .int) C0 V i_DR o_DR n_DR rfl rfl hO0 (by decide) w_1996 rfl rfl rfl rfl (Nat.le_of_ble_eq_true rfl) d_15_24_20 (fun H locs w11 hu12 hO0 V => ?_)
  replace hO0 : w11[kO0]? = (some (qO0, .inr (14, [.int 0, .ref qA1, .int 0, .ref qA2, .ref qA3, .ref qA4, .ref qA5, .ref qA6, .int 0, .long 0, .int 0, .int 0, .ref qA7, .int 0, .ref qA8, .int 0, .ref qA9, .int 0, .ref qA10, .int 0, .int 0])) : Option (Nat × va_E)) := hO0
  replace hF := q_us hF hu12 (.head _)
  refine lv_aload_n hx hb d_15_24_23 rfl (lv_at hl 0 rfl) ?_
  refine q_get (ci := 14) (j := 0) (v := .int 0) C0 V i_DR rfl rfl hO0 (by decide) w_1996 rfl d_15_24_24 ?_
  refine lv_if_le (tgt := 32) hx hb d_15_24_27 (by decide) (fun c13 => ?_) (fun c13 => absurd (by decide) c13)
  refine lv_aload_n hx hb d_15_24_32 rfl (lv_at hl 0 rfl) ?_
  refine lv_iload_n hx hb d_15_24_33 rfl (lv_at hl 1 rfl) ?_
  replace hA2 := (hu12 _ n_A2_O0).trans (hA2)
  refine q_goi V (q_runV (As := [.int x1]) (rest := []) (d := 1) (mc := 0) (ms := 0) (ci := 14) C0 V rfl LV_DR_120 (c_DR_isZero l D g w11 kO0 kA2 qO0 qA1 qA2 qA3 qA4 qA5 qA6 qA7 qA8 qA9 qA10 x1 hO0 hA2 x1lo x1hi _) rfl rfl hO0 rfl hl.1 rfl (Nat.le_of_ble_eq_true rfl) ⟨by decide, by decide⟩ ⟨Nat.le_of_ble_eq_true rfl, Nat.le_of_ble_eq_true rfl⟩ d_15_24_34) (fun v16 u15 H locs hp14 V => ?_)
  obtain ⟨rfl, rfl⟩ := hp14
  refine lv_if_eq (tgt := 44) hx hb d_15_24_37 (by decide) (fun c18 => absurd c18 (by decide)) (fun c18 => ?_)
  refine lv_iconst (v := 0) hx hb d_15_24_40 (by decide) ?_
  refine lv_goto (tgt := 58) hx hb d_15_24_41 (by decide) ?_
  refine lv_istore_n (lv' := [(3, .int 0), (0, .ref qO0), (1, .int x1), (2, .int x2)]) hx hb d_15_24_58 rfl hl (by decide) rfl (fun ls hl => ?_)
  refine lv_aload_n hx hb d_15_24_59 rfl (lv_at hl 1 rfl) ?_
  refine lv_iload_n hx hb d_15_24_60 rfl (lv_at hl 3 rfl) ?_
  refine q_goi V (q_runV (As := [.int x2]) (rest := []) (d := 1) (mc := 0) (ms := 0) (ci := 14) C0 V rfl LV_DR_120 (c_DR_isZero l D g w11 kO0 kA2 qO0 qA1 qA2 qA3 qA4 qA5 qA6 qA7 qA8 qA9 qA10 x2 hO0 hA2 x2lo x2hi _) rfl rfl hO0 rfl hl.1 rfl (Nat.le_of_ble_eq_true rfl) ⟨by decide, by decide⟩ ⟨Nat.le_of_ble_eq_true rfl, Nat.le_of_ble_eq_true rfl⟩ d_15_24_61) (fun v21 u20 H locs hp19 V => ?_)
  obtain ⟨rfl, rfl⟩ := hp19
  refine lv_if_eq (tgt := 71) hx hb d_15_24_64 (by decide) (fun c23 => absurd c23 (by decide)) (fun c23 => ?_)
  refine lv_iconst (v := 0) hx hb d_15_24_67 (by decide) ?_
  refine lv_goto (tgt := 85) hx hb d_15_24_68 (by decide) ?_
  refine lv_istore (lv' := [(4, .int 0), (3, .int 0), (0, .ref qO0), (1, .int x1), (2, .int x2)]) hx hb d_15_24_85 hl (by decide) rfl (fun ls hl => ?_)
  refine lv_iload_n hx hb d_15_24_87 rfl (lv_at hl 1 rfl) ?_
  refine lv_iload hx hb d_15_24_88 (lv_at hl 0 rfl) ?_
  refine lv_icmp_ne (tgt := 97) hx hb d_15_24_90 (by decide) (fun c24 => absurd (by decide) c24) (fun c24 => ?_)
  refine lv_iload_n hx hb d_15_24_93 rfl (lv_at hl 1 rfl) ?_
  refine lv_if_ne (tgt := 119) hx hb d_15_24_94 (by decide) (fun c25 => absurd (by decide) c25) (fun c25 => ?_)
  refine lv_iload_n hx hb d_15_24_97 rfl (lv_at hl 1 rfl) ?_
  refine lv_iload hx hb d_15_24_98 (lv_at hl 0 rfl) ?_
  refine lv_icmp_ge (tgt := 107) hx hb d_15_24_100 (by decide) (fun c26 => ?_) (fun c26 => absurd (by decide) c26)
  refine lv_iload_n hx hb d_15_24_107 rfl (lv_at hl 1 rfl) ?_
  refine lv_iload hx hb d_15_24_108 (lv_at hl 0 rfl) ?_
  refine lv_icmp_le (tgt := 117) hx hb d_15_24_110 (by decide) (fun c27 => ?_) (fun c27 => absurd (by decide) c27)
  refine lv_iconst (v := 0) hx hb d_15_24_117 (by decide) ?_
  exact q_reti C0 V (⟨rfl, hF, hO0⟩) d_15_24_118
theorem d_19_3_0 : decode prog_19_method_3_code 0 = .ok (.iload_n 0, 1) := by decide +kernel
theorem d_19_3_1 : decode prog_19_method_3_code 1 = .ok (.ifCond .lt 9, 3) := by decide +kernel
theorem d_19_3_4 : decode prog_19_method_3_code 4 = .ok (.iload_n 0, 1) := by decide +kernel
theorem d_19_3_5 : decode prog_19_method_3_code 5 = .ok (.bipush 11, 2) := by decide +kernel
theorem d_19_3_7 : decode prog_19_method_3_code 7 = .ok (.if_icmp .lt 7, 3) := by decide +kernel
theorem d_19_3_14 : decode prog_19_method_3_code 14 = .ok (.iconst 0, 1) := by decide +kernel
theorem d_19_3_15 : decode prog_19_method_3_code 15 = .ok (.ireturn, 1) := by decide +kernel
def y_WR_no : MethodName := ⟨"NumberHouseModel$WholeRows", "no", "(I)Z"⟩
set_option maxRecDepth 100000 in
set_option maxHeartbeats 4000000 in
theorem c_WR_no (l : Launch) (D : va_G) (g : Nat → ClassId) (ws : va_W) (x1 : Int32) (x1lo : 0 ≤ x1) (x1hi : x1 ≤ 9) : q_mI l y_WR_no prog_19_method_3_code 1 (.boolean) 1 0 0 D g [.int x1] ws (fun r u => 0 = r ∧ ws = u) := by
  intro sz
  refine q_into (by decide) (Nat.le_of_ble_eq_true rfl) ?_
  intro p e s m below meth c ls hsz C0 V hl
  have hx := C0.1
  have hb := C0.2.1
  have hl : lv_has ls 1 [(0, .int x1)] := hl
  refine lv_iload_n hx hb d_19_3_0 rfl (lv_at hl 0 rfl) ?_
  refine lv_if_lt (tgt := 10) hx hb d_19_3_1 (by decide) (fun c1 => absurd c1 (Int32.not_lt.mpr x1lo)) (fun c1 => ?_)
  refine lv_iload_n hx hb d_19_3_4 rfl (lv_at hl 0 rfl) ?_
  refine lv_bipush (v := 11) hx hb d_19_3_5 (by decide) ?_
  refine lv_icmp_lt (tgt := 14) hx hb d_19_3_7 (by decide) (fun c2 => ?_) (fun c2 => absurd (q_Ilt (x := x1.toInt) (y := 11) rfl (by decide) (by have t1 : 0 ≤ x1.toInt := q_leI x1lo; have t2 : x1.toInt ≤ 9 := q_leI x1hi; omega)) c2)
  refine lv_iconst (v := 0) hx hb d_19_3_14 (by decide) ?_
  exact q_retz C0 V (rfl) (⟨rfl, rfl⟩) d_19_3_15
theorem d_19_6_0 : decode prog_19_method_6_code 0 = .ok (.iconst 0, 1) := by decide +kernel
theorem d_19_6_1 : decode prog_19_method_6_code 1 = .ok (.istore_n 3, 1) := by decide +kernel
theorem d_19_6_2 : decode prog_19_method_6_code 2 = .ok (.iload_n 3, 1) := by decide +kernel
theorem d_19_6_3 : decode prog_19_method_6_code 3 = .ok (.aload_n 2, 1) := by decide +kernel
theorem d_19_6_4 : decode prog_19_method_6_code 4 = .ok (.arraylength, 1) := by decide +kernel
theorem d_19_6_5 : decode prog_19_method_6_code 5 = .ok (.if_icmp .ge 35, 3) := by decide +kernel
theorem d_19_6_40 : decode prog_19_method_6_code 40 = .ok (.return_, 1) := by decide +kernel
theorem d_19_6_8 : decode prog_19_method_6_code 8 = .ok (.aload_n 2, 1) := by decide +kernel
theorem d_19_6_9 : decode prog_19_method_6_code 9 = .ok (.iload_n 3, 1) := by decide +kernel
theorem d_19_6_10 : decode prog_19_method_6_code 10 = .ok (.iload_n 3, 1) := by decide +kernel
theorem d_19_6_11 : decode prog_19_method_6_code 11 = .ok (.sipush 128, 3) := by decide +kernel
theorem d_19_6_14 : decode prog_19_method_6_code 14 = .ok (.if_icmp .ge 18, 3) := by decide +kernel
theorem d_19_6_32 : decode prog_19_method_6_code 32 = .ok (.iconst 0, 1) := by decide +kernel
theorem d_19_6_33 : decode prog_19_method_6_code 33 = .ok (.iastore, 1) := by decide +kernel
theorem d_19_6_34 : decode prog_19_method_6_code 34 = .ok (.iinc 3 1, 3) := by decide +kernel
theorem d_19_6_37 : decode prog_19_method_6_code 37 = .ok (.goto (-35), 3) := by decide +kernel
theorem d_19_6_17 : decode prog_19_method_6_code 17 = .ok (.aload_n 0, 1) := by decide +kernel
theorem d_19_6_18 : decode prog_19_method_6_code 18 = .ok (.getfield 13, 3) := by decide +kernel
theorem d_19_6_21 : decode prog_19_method_6_code 21 = .ok (.sipush 128, 3) := by decide +kernel
theorem d_19_6_24 : decode prog_19_method_6_code 24 = .ok (.iload_n 1, 1) := by decide +kernel
theorem d_19_6_25 : decode prog_19_method_6_code 25 = .ok (.imul, 1) := by decide +kernel
theorem d_19_6_26 : decode prog_19_method_6_code 26 = .ok (.iload_n 3, 1) := by decide +kernel
theorem d_19_6_27 : decode prog_19_method_6_code 27 = .ok (.iadd, 1) := by decide +kernel
theorem d_19_6_28 : decode prog_19_method_6_code 28 = .ok (.iaload, 1) := by decide +kernel
theorem d_19_6_29 : decode prog_19_method_6_code 29 = .ok (.goto 4, 3) := by decide +kernel
def y_WR_take : MethodName := ⟨"NumberHouseModel$WholeRows", "take", "(I[I)V"⟩
set_option maxRecDepth 100000 in
set_option maxHeartbeats 4000000 in
theorem c_WR_take (l : Launch) (D : va_G) (g : Nat → ClassId) (ws : va_W) (kO0 kA1 kA3 qO0 qA1 qA2 qA3 qA4 qA5 qA6 qA7 qA8 qA9 qA10 qA11 qA12 qA13 qA14 : Nat) (x1 : Int32) (hO0 : ws[kO0]? = (some (qO0, .inr (13, [.int 0, .int 0, .ref qA2, .int 0, .ref qA3, .ref qA4, .ref qA5, .int 0, .ref qA6, .ref qA7, .ref qA8, .ref qA9, .ref qA1, .ref qA10, .ref qA11, .ref qA12, .int 0, .int 0, .ref qA13, .ref qA14, .int 0])) : Option (Nat × va_E))) (hA1 : ws[kA1]? = (some (qA1, .inl (g 0, 264, .inl (fun _ => 0))) : Option (Nat × va_E))) (hA3 : ws[kA3]? = (some (qA3, .inl (g 0, 1408, .inl (fun _ => 0))) : Option (Nat × va_E))) (n_A3_A1 : kA3 ≠ kA1) (x1lo : 0 ≤ x1) (x1hi : x1 ≤ 9) : q_mV l y_WR_take prog_19_method_6_code 4 1 0 0 D g [.ref qO0, .int x1, .ref qA1] ws (fun u => q_un ws u [kA1] ∧ u[kA1]? = (some (qA1, .inl (g 0, 264, .inl (fun _ => 0))) : Option (Nat × va_E))) := by
  intro sz
  refine q_into (by decide) (Nat.le_of_ble_eq_true rfl) ?_
  intro p e s m below meth c ls hsz C0 V hl
  have hx := C0.1
  have hb := C0.2.1
  have hl : lv_has ls 4 [(0, .ref qO0), (1, .int x1), (2, .ref qA1)] := hl
  have n_O0_A1 := Ne.symm (q_df hA1 hO0)
  have hF : q_un ws ws [kA1] := q_u0
  refine lv_iconst (v := 0) hx hb d_19_6_0 (by decide) ?_
  refine lv_istore_n (lv' := [(3, .int 0), (0, .ref qO0), (1, .int x1), (2, .ref qA1)]) hx hb d_19_6_1 rfl hl (by decide) rfl (fun ls hl => ?_)
  refine q_loop (X := Int32) (fun z H locs ls w2 => (0 ≤ z.toInt ∧ (z.toInt ≤ 264 ∨ z.toInt = 0)) ∧ q_Wd D g (va_A ws sz) s w2 H locs ∧ lv_has ls 4 [(3, .int z), (0, .ref qO0), (1, .int x1), (2, .ref qA1)] ∧ q_un ws w2 [kA1] ∧ w2[kO0]? = (some (qO0, .inr (13, [.int 0, .int 0, .ref qA2, .int 0, .ref qA3, .ref qA4, .ref qA5, .int 0, .ref qA6, .ref qA7, .ref qA8, .ref qA9, .ref qA1, .ref qA10, .ref qA11, .ref qA12, .int 0, .int 0, .ref qA13, .ref qA14, .int 0])) : Option (Nat × va_E)) ∧ w2[kA1]? = (some (qA1, .inl (g 0, 264, .inl (fun _ => 0))) : Option (Nat × va_E)) ∧ w2[kA3]? = (some (qA3, .inl (g 0, 1408, .inl (fun _ => 0))) : Option (Nat × va_E))) (fun z => (264 - z.toInt).toNat) ?_ ((0 : Int32)) _ _ _ ws ⟨⟨by decide, Or.inr (by decide)⟩, V, hl, hF, hO0, hA1, hA3⟩
  rintro lx1 H locs ls w2 ⟨i3, V, hl, hF, hO0, hA1, hA3⟩ ih4
  replace i3 : 0 ≤ lx1.toInt ∧ (lx1.toInt ≤ 264 ∨ lx1.toInt = 0) := i3
  replace hl : lv_has ls 4 [(3, .int lx1), (0, .ref qO0), (1, .int x1), (2, .ref qA1)] := hl
  replace hO0 : w2[kO0]? = (some (qO0, .inr (13, [.int 0, .int 0, .ref qA2, .int 0, .ref qA3, .ref qA4, .ref qA5, .int 0, .ref qA6, .ref qA7, .ref qA8, .ref qA9, .ref qA1, .ref qA10, .ref qA11, .ref qA12, .int 0, .int 0, .ref qA13, .ref qA14, .int 0])) : Option (Nat × va_E)) := hO0
  replace hA1 : w2[kA1]? = (some (qA1, .inl (g 0, 264, .inl (fun _ => 0))) : Option (Nat × va_E)) := hA1
  replace hA3 : w2[kA3]? = (some (qA3, .inl (g 0, 1408, .inl (fun _ => 0))) : Option (Nat × va_E)) := hA3
  refine lv_iload_n hx hb d_19_6_2 rfl (lv_at hl 0 rfl) ?_
  refine lv_aload_n hx hb d_19_6_3 rfl (lv_at hl 3 rfl) ?_
  refine q_alen (t := 0) (v := 264) C0 V hA1 rfl (by first | rfl | decide) d_19_6_4 ?_
  refine lv_icmp_ge (tgt := 40) hx hb d_19_6_5 (by decide) (fun c5 => ?_) (fun c5 => ?_)
  ·
    exact q_retv C0 V (⟨hF, hA1⟩) d_19_6_40
  ·
    refine lv_aload_n hx hb d_19_6_8 rfl (lv_at hl 3 rfl) ?_
    refine lv_iload_n hx hb d_19_6_9 rfl (lv_at hl 0 rfl) ?_
    refine lv_iload_n hx hb d_19_6_10 rfl (lv_at hl 0 rfl) ?_
    refine lv_sipush (v := 128) hx hb d_19_6_11 (by decide) ?_
    refine lv_icmp_ge (tgt := 32) hx hb d_19_6_14 (by decide) (fun c6 => ?_) (fun c6 => ?_)
    ·
      refine lv_iconst (v := 0) hx hb d_19_6_32 (by decide) ?_
      refine q_iast C0 V hA1 (q_ix (x := lx1.toInt) rfl (by have t1 : lx1.toInt < 264 := q_nleI c5; have t2 : 128 ≤ lx1.toInt := q_leI c6; omega) (by have t1 : lx1.toInt < 264 := q_nleI c5; have t2 : 128 ≤ lx1.toInt := q_leI c6; omega)) d_19_6_33 (fun H locs w7 hu8 hA1 V => ?_)
      replace hA1 := q_re (y := (qA1, .inl (g 0, 264, .inl (fun _ => 0)))) hA1 (q_eI q_upd0)
      replace hA1 : w7[kA1]? = (some (qA1, .inl (g 0, 264, .inl (fun _ => 0))) : Option (Nat × va_E)) := hA1
      replace hF := q_us hF hu8 (.head _)
      refine lv_iinc (v := lx1 + 1) (lv' := [(3, .int (lx1 + 1)), (0, .ref qO0), (1, .int x1), (2, .ref qA1)]) hx hb d_19_6_34 hl (k := 0) rfl (rfl) (by decide) rfl (fun ls hl => ?_)
      refine lv_goto (tgt := 2) hx hb d_19_6_37 (by decide) ?_
      replace hO0 := (hu8 _ n_O0_A1).trans (hO0)
      replace hA3 := (hu8 _ n_A3_A1).trans (hA3)
      exact ih4 ((lx1 + 1 : Int32)) _ _ _ _ (show (264 - (lx1 + 1).toInt).toNat < (264 - lx1.toInt).toNat from by have t1 : lx1.toInt < 264 := q_nleI c5; have t2 : 128 ≤ lx1.toInt := q_leI c6; have e : (lx1 + 1).toInt = (lx1.toInt + 1) := (q_addI (x := lx1.toInt) (y := 1) rfl (by decide) (by have t1 : lx1.toInt < 264 := q_nleI c5; have t2 : 128 ≤ lx1.toInt := q_leI c6; omega) (by have t1 : lx1.toInt < 264 := q_nleI c5; have t2 : 128 ≤ lx1.toInt := q_leI c6; omega)); omega) ⟨(show 0 ≤ (lx1 + 1).toInt ∧ ((lx1 + 1).toInt ≤ 264 ∨ (lx1 + 1).toInt = 0) from by have t1 : lx1.toInt < 264 := q_nleI c5; have t2 : 128 ≤ lx1.toInt := q_leI c6; have e : (lx1 + 1).toInt = (lx1.toInt + 1) := (q_addI (x := lx1.toInt) (y := 1) rfl (by decide) (by have t1 : lx1.toInt < 264 := q_nleI c5; have t2 : 128 ≤ lx1.toInt := q_leI c6; omega) (by have t1 : lx1.toInt < 264 := q_nleI c5; have t2 : 128 ≤ lx1.toInt := q_leI c6; omega)); omega), V, q_lw hl (q_lw1 0 rfl (q_lw1 1 rfl (q_lw1 2 rfl (q_lw1 3 rfl q_lw0)))), hF, hO0, hA1, hA3⟩
    ·
      refine lv_aload_n hx hb d_19_6_17 rfl (lv_at hl 1 rfl) ?_
      refine q_get (ci := 13) (j := 4) (v := .ref qA3) C0 V i_WR rfl rfl hO0 (by decide) w_1928 rfl d_19_6_18 ?_
      refine lv_sipush (v := 128) hx hb d_19_6_21 (by decide) ?_
      refine lv_iload_n hx hb d_19_6_24 rfl (lv_at hl 2 rfl) ?_
      refine lv_imul hx hb d_19_6_25 ?_
      refine lv_iload_n hx hb d_19_6_26 rfl (lv_at hl 0 rfl) ?_
      refine lv_iadd hx hb d_19_6_27 ?_
      refine q_iald C0 V hA3 (q_ix (x := ((128 * x1.toInt) + lx1.toInt)) (q_addI (x := (128 * x1.toInt)) (y := lx1.toInt) (q_mulI (x := 128) (y := x1.toInt) (by decide) rfl (by have t1 : 0 ≤ x1.toInt := q_leI x1lo; have t2 : x1.toInt ≤ 9 := q_leI x1hi; omega) (by have t1 : 0 ≤ x1.toInt := q_leI x1lo; have t2 : x1.toInt ≤ 9 := q_leI x1hi; omega)) rfl (by have t1 : 0 ≤ x1.toInt := q_leI x1lo; have t2 : x1.toInt ≤ 9 := q_leI x1hi; have t3 : lx1.toInt < 264 := q_nleI c5; have t4 : lx1.toInt < 128 := q_nleI c6; omega) (by have t1 : 0 ≤ x1.toInt := q_leI x1lo; have t2 : x1.toInt ≤ 9 := q_leI x1hi; have t3 : lx1.toInt < 264 := q_nleI c5; have t4 : lx1.toInt < 128 := q_nleI c6; omega)) (by have t1 : 0 ≤ x1.toInt := q_leI x1lo; have t2 : x1.toInt ≤ 9 := q_leI x1hi; have t3 : lx1.toInt < 264 := q_nleI c5; have t4 : lx1.toInt < 128 := q_nleI c6; omega) (by have t1 : 0 ≤ x1.toInt := q_leI x1lo; have t2 : x1.toInt ≤ 9 := q_leI x1hi; have t3 : lx1.toInt < 264 := q_nleI c5; have t4 : lx1.toInt < 128 := q_nleI c6; omega)) d_19_6_28 ?_
      refine q_ti (v := 0) (by first | rfl | decide | simp [upd, vp_updL, sb_cl0]) ?_
      refine lv_goto (tgt := 33) hx hb d_19_6_29 (by decide) ?_
      refine q_iast C0 V hA1 (q_ix (x := lx1.toInt) rfl (by have t1 : lx1.toInt < 264 := q_nleI c5; have t2 : lx1.toInt < 128 := q_nleI c6; omega) (by have t1 : lx1.toInt < 264 := q_nleI c5; have t2 : lx1.toInt < 128 := q_nleI c6; omega)) d_19_6_33 (fun H locs w9 hu10 hA1 V => ?_)
      replace hA1 := q_re (y := (qA1, .inl (g 0, 264, .inl (fun _ => 0)))) hA1 (q_eI q_upd0)
      replace hA1 : w9[kA1]? = (some (qA1, .inl (g 0, 264, .inl (fun _ => 0))) : Option (Nat × va_E)) := hA1
      replace hF := q_us hF hu10 (.head _)
      refine lv_iinc (v := lx1 + 1) (lv' := [(3, .int (lx1 + 1)), (0, .ref qO0), (1, .int x1), (2, .ref qA1)]) hx hb d_19_6_34 hl (k := 0) rfl (rfl) (by decide) rfl (fun ls hl => ?_)
      refine lv_goto (tgt := 2) hx hb d_19_6_37 (by decide) ?_
      replace hO0 := (hu10 _ n_O0_A1).trans (hO0)
      replace hA3 := (hu10 _ n_A3_A1).trans (hA3)
      exact ih4 ((lx1 + 1 : Int32)) _ _ _ _ (show (264 - (lx1 + 1).toInt).toNat < (264 - lx1.toInt).toNat from by have t1 : lx1.toInt < 264 := q_nleI c5; have t2 : lx1.toInt < 128 := q_nleI c6; have e : (lx1 + 1).toInt = (lx1.toInt + 1) := (q_addI (x := lx1.toInt) (y := 1) rfl (by decide) (by have t1 : lx1.toInt < 264 := q_nleI c5; have t2 : lx1.toInt < 128 := q_nleI c6; omega) (by have t1 : lx1.toInt < 264 := q_nleI c5; have t2 : lx1.toInt < 128 := q_nleI c6; omega)); omega) ⟨(show 0 ≤ (lx1 + 1).toInt ∧ ((lx1 + 1).toInt ≤ 264 ∨ (lx1 + 1).toInt = 0) from by have t1 : lx1.toInt < 264 := q_nleI c5; have t2 : lx1.toInt < 128 := q_nleI c6; have e : (lx1 + 1).toInt = (lx1.toInt + 1) := (q_addI (x := lx1.toInt) (y := 1) rfl (by decide) (by have t1 : lx1.toInt < 264 := q_nleI c5; have t2 : lx1.toInt < 128 := q_nleI c6; omega) (by have t1 : lx1.toInt < 264 := q_nleI c5; have t2 : lx1.toInt < 128 := q_nleI c6; omega)); omega), V, q_lw hl (q_lw1 0 rfl (q_lw1 1 rfl (q_lw1 2 rfl (q_lw1 3 rfl q_lw0)))), hF, hO0, hA1, hA3⟩
set_option maxRecDepth 100000 in
set_option maxHeartbeats 4000000 in
theorem c_WR_take_2 (l : Launch) (D : va_G) (g : Nat → ClassId) (ws : va_W) (kO0 kA1 kA3 qO0 qA1 qA2 qA3 qA4 qA5 qA6 qA7 qA8 qA9 qA10 qA11 qA12 qA13 qA14 : Nat) (x1 : Int32) (hO0 : ws[kO0]? = (some (qO0, .inr (13, [.int 0, .int 0, .ref qA2, .int 0, .ref qA3, .ref qA4, .ref qA5, .int 0, .ref qA6, .ref qA7, .ref qA8, .ref qA9, .ref qA10, .ref qA1, .ref qA11, .ref qA12, .int 0, .int 0, .ref qA13, .ref qA14, .int 0])) : Option (Nat × va_E))) (hA1 : ws[kA1]? = (some (qA1, .inl (g 0, 264, .inl (fun _ => 0))) : Option (Nat × va_E))) (hA3 : ws[kA3]? = (some (qA3, .inl (g 0, 1408, .inl (fun _ => 0))) : Option (Nat × va_E))) (n_A3_A1 : kA3 ≠ kA1) (x1lo : 0 ≤ x1) (x1hi : x1 ≤ 9) : q_mV l y_WR_take prog_19_method_6_code 4 1 0 0 D g [.ref qO0, .int x1, .ref qA1] ws (fun u => q_un ws u [kA1] ∧ u[kA1]? = (some (qA1, .inl (g 0, 264, .inl (fun _ => 0))) : Option (Nat × va_E))) := by
  intro sz
  refine q_into (by decide) (Nat.le_of_ble_eq_true rfl) ?_
  intro p e s m below meth c ls hsz C0 V hl
  have hx := C0.1
  have hb := C0.2.1
  have hl : lv_has ls 4 [(0, .ref qO0), (1, .int x1), (2, .ref qA1)] := hl
  have n_O0_A1 := Ne.symm (q_df hA1 hO0)
  have hF : q_un ws ws [kA1] := q_u0
  refine lv_iconst (v := 0) hx hb d_19_6_0 (by decide) ?_
  refine lv_istore_n (lv' := [(3, .int 0), (0, .ref qO0), (1, .int x1), (2, .ref qA1)]) hx hb d_19_6_1 rfl hl (by decide) rfl (fun ls hl => ?_)
  refine q_loop (X := Int32) (fun z H locs ls w2 => (0 ≤ z.toInt ∧ (z.toInt ≤ 264 ∨ z.toInt = 0)) ∧ q_Wd D g (va_A ws sz) s w2 H locs ∧ lv_has ls 4 [(3, .int z), (0, .ref qO0), (1, .int x1), (2, .ref qA1)] ∧ q_un ws w2 [kA1] ∧ w2[kO0]? = (some (qO0, .inr (13, [.int 0, .int 0, .ref qA2, .int 0, .ref qA3, .ref qA4, .ref qA5, .int 0, .ref qA6, .ref qA7, .ref qA8, .ref qA9, .ref qA10, .ref qA1, .ref qA11, .ref qA12, .int 0, .int 0, .ref qA13, .ref qA14, .int 0])) : Option (Nat × va_E)) ∧ w2[kA1]? = (some (qA1, .inl (g 0, 264, .inl (fun _ => 0))) : Option (Nat × va_E)) ∧ w2[kA3]? = (some (qA3, .inl (g 0, 1408, .inl (fun _ => 0))) : Option (Nat × va_E))) (fun z => (264 - z.toInt).toNat) ?_ ((0 : Int32)) _ _ _ ws ⟨⟨by decide, Or.inr (by decide)⟩, V, hl, hF, hO0, hA1, hA3⟩
  rintro lx1 H locs ls w2 ⟨i3, V, hl, hF, hO0, hA1, hA3⟩ ih4
  replace i3 : 0 ≤ lx1.toInt ∧ (lx1.toInt ≤ 264 ∨ lx1.toInt = 0) := i3
  replace hl : lv_has ls 4 [(3, .int lx1), (0, .ref qO0), (1, .int x1), (2, .ref qA1)] := hl
  replace hO0 : w2[kO0]? = (some (qO0, .inr (13, [.int 0, .int 0, .ref qA2, .int 0, .ref qA3, .ref qA4, .ref qA5, .int 0, .ref qA6, .ref qA7, .ref qA8, .ref qA9, .ref qA10, .ref qA1, .ref qA11, .ref qA12, .int 0, .int 0, .ref qA13, .ref qA14, .int 0])) : Option (Nat × va_E)) := hO0
  replace hA1 : w2[kA1]? = (some (qA1, .inl (g 0, 264, .inl (fun _ => 0))) : Option (Nat × va_E)) := hA1
  replace hA3 : w2[kA3]? = (some (qA3, .inl (g 0, 1408, .inl (fun _ => 0))) : Option (Nat × va_E)) := hA3
  refine lv_iload_n hx hb d_19_6_2 rfl (lv_at hl 0 rfl) ?_
  refine lv_aload_n hx hb d_19_6_3 rfl (lv_at hl 3 rfl) ?_
  refine q_alen (t := 0) (v := 264) C0 V hA1 rfl (by first | rfl | decide) d_19_6_4 ?_
  refine lv_icmp_ge (tgt := 40) hx hb d_19_6_5 (by decide) (fun c5 => ?_) (fun c5 => ?_)
  ·
    exact q_retv C0 V (⟨hF, hA1⟩) d_19_6_40
  ·
    refine lv_aload_n hx hb d_19_6_8 rfl (lv_at hl 3 rfl) ?_
    refine lv_iload_n hx hb d_19_6_9 rfl (lv_at hl 0 rfl) ?_
    refine lv_iload_n hx hb d_19_6_10 rfl (lv_at hl 0 rfl) ?_
    refine lv_sipush (v := 128) hx hb d_19_6_11 (by decide) ?_
    refine lv_icmp_ge (tgt := 32) hx hb d_19_6_14 (by decide) (fun c6 => ?_) (fun c6 => ?_)
    ·
      refine lv_iconst (v := 0) hx hb d_19_6_32 (by decide) ?_
      refine q_iast C0 V hA1 (q_ix (x := lx1.toInt) rfl (by have t1 : lx1.toInt < 264 := q_nleI c5; have t2 : 128 ≤ lx1.toInt := q_leI c6; omega) (by have t1 : lx1.toInt < 264 := q_nleI c5; have t2 : 128 ≤ lx1.toInt := q_leI c6; omega)) d_19_6_33 (fun H locs w7 hu8 hA1 V => ?_)
      replace hA1 := q_re (y := (qA1, .inl (g 0, 264, .inl (fun _ => 0)))) hA1 (q_eI q_upd0)
      replace hA1 : w7[kA1]? = (some (qA1, .inl (g 0, 264, .inl (fun _ => 0))) : Option (Nat × va_E)) := hA1
      replace hF := q_us hF hu8 (.head _)
      refine lv_iinc (v := lx1 + 1) (lv' := [(3, .int (lx1 + 1)), (0, .ref qO0), (1, .int x1), (2, .ref qA1)]) hx hb d_19_6_34 hl (k := 0) rfl (rfl) (by decide) rfl (fun ls hl => ?_)
      refine lv_goto (tgt := 2) hx hb d_19_6_37 (by decide) ?_
      replace hO0 := (hu8 _ n_O0_A1).trans (hO0)
      replace hA3 := (hu8 _ n_A3_A1).trans (hA3)
      exact ih4 ((lx1 + 1 : Int32)) _ _ _ _ (show (264 - (lx1 + 1).toInt).toNat < (264 - lx1.toInt).toNat from by have t1 : lx1.toInt < 264 := q_nleI c5; have t2 : 128 ≤ lx1.toInt := q_leI c6; have e : (lx1 + 1).toInt = (lx1.toInt + 1) := (q_addI (x := lx1.toInt) (y := 1) rfl (by decide) (by have t1 : lx1.toInt < 264 := q_nleI c5; have t2 : 128 ≤ lx1.toInt := q_leI c6; omega) (by have t1 : lx1.toInt < 264 := q_nleI c5; have t2 : 128 ≤ lx1.toInt := q_leI c6; omega)); omega) ⟨(show 0 ≤ (lx1 + 1).toInt ∧ ((lx1 + 1).toInt ≤ 264 ∨ (lx1 + 1).toInt = 0) from by have t1 : lx1.toInt < 264 := q_nleI c5; have t2 : 128 ≤ lx1.toInt := q_leI c6; have e : (lx1 + 1).toInt = (lx1.toInt + 1) := (q_addI (x := lx1.toInt) (y := 1) rfl (by decide) (by have t1 : lx1.toInt < 264 := q_nleI c5; have t2 : 128 ≤ lx1.toInt := q_leI c6; omega) (by have t1 : lx1.toInt < 264 := q_nleI c5; have t2 : 128 ≤ lx1.toInt := q_leI c6; omega)); omega), V, q_lw hl (q_lw1 0 rfl (q_lw1 1 rfl (q_lw1 2 rfl (q_lw1 3 rfl q_lw0)))), hF, hO0, hA1, hA3⟩
    ·
      refine lv_aload_n hx hb d_19_6_17 rfl (lv_at hl 1 rfl) ?_
      refine q_get (ci := 13) (j := 4) (v := .ref qA3) C0 V i_WR rfl rfl hO0 (by decide) w_1928 rfl d_19_6_18 ?_
      refine lv_sipush (v := 128) hx hb d_19_6_21 (by decide) ?_
      refine lv_iload_n hx hb d_19_6_24 rfl (lv_at hl 2 rfl) ?_
      refine lv_imul hx hb d_19_6_25 ?_
      refine lv_iload_n hx hb d_19_6_26 rfl (lv_at hl 0 rfl) ?_
      refine lv_iadd hx hb d_19_6_27 ?_
      refine q_iald C0 V hA3 (q_ix (x := ((128 * x1.toInt) + lx1.toInt)) (q_addI (x := (128 * x1.toInt)) (y := lx1.toInt) (q_mulI (x := 128) (y := x1.toInt) (by decide) rfl (by have t1 : 0 ≤ x1.toInt := q_leI x1lo; have t2 : x1.toInt ≤ 9 := q_leI x1hi; omega) (by have t1 : 0 ≤ x1.toInt := q_leI x1lo; have t2 : x1.toInt ≤ 9 := q_leI x1hi; omega)) rfl (by have t1 : 0 ≤ x1.toInt := q_leI x1lo; have t2 : x1.toInt ≤ 9 := q_leI x1hi; have t3 : lx1.toInt < 264 := q_nleI c5; have t4 : lx1.toInt < 128 := q_nleI c6; omega) (by have t1 : 0 ≤ x1.toInt := q_leI x1lo; have t2 : x1.toInt ≤ 9 := q_leI x1hi; have t3 : lx1.toInt < 264 := q_nleI c5; have t4 : lx1.toInt < 128 := q_nleI c6; omega)) (by have t1 : 0 ≤ x1.toInt := q_leI x1lo; have t2 : x1.toInt ≤ 9 := q_leI x1hi; have t3 : lx1.toInt < 264 := q_nleI c5; have t4 : lx1.toInt < 128 := q_nleI c6; omega) (by have t1 : 0 ≤ x1.toInt := q_leI x1lo; have t2 : x1.toInt ≤ 9 := q_leI x1hi; have t3 : lx1.toInt < 264 := q_nleI c5; have t4 : lx1.toInt < 128 := q_nleI c6; omega)) d_19_6_28 ?_
      refine q_ti (v := 0) (by first | rfl | decide | simp [upd, vp_updL, sb_cl0]) ?_
      refine lv_goto (tgt := 33) hx hb d_19_6_29 (by decide) ?_
      refine q_iast C0 V hA1 (q_ix (x := lx1.toInt) rfl (by have t1 : lx1.toInt < 264 := q_nleI c5; have t2 : lx1.toInt < 128 := q_nleI c6; omega) (by have t1 : lx1.toInt < 264 := q_nleI c5; have t2 : lx1.toInt < 128 := q_nleI c6; omega)) d_19_6_33 (fun H locs w9 hu10 hA1 V => ?_)
      replace hA1 := q_re (y := (qA1, .inl (g 0, 264, .inl (fun _ => 0)))) hA1 (q_eI q_upd0)
      replace hA1 : w9[kA1]? = (some (qA1, .inl (g 0, 264, .inl (fun _ => 0))) : Option (Nat × va_E)) := hA1
      replace hF := q_us hF hu10 (.head _)
      refine lv_iinc (v := lx1 + 1) (lv' := [(3, .int (lx1 + 1)), (0, .ref qO0), (1, .int x1), (2, .ref qA1)]) hx hb d_19_6_34 hl (k := 0) rfl (rfl) (by decide) rfl (fun ls hl => ?_)
      refine lv_goto (tgt := 2) hx hb d_19_6_37 (by decide) ?_
      replace hO0 := (hu10 _ n_O0_A1).trans (hO0)
      replace hA3 := (hu10 _ n_A3_A1).trans (hA3)
      exact ih4 ((lx1 + 1 : Int32)) _ _ _ _ (show (264 - (lx1 + 1).toInt).toNat < (264 - lx1.toInt).toNat from by have t1 : lx1.toInt < 264 := q_nleI c5; have t2 : lx1.toInt < 128 := q_nleI c6; have e : (lx1 + 1).toInt = (lx1.toInt + 1) := (q_addI (x := lx1.toInt) (y := 1) rfl (by decide) (by have t1 : lx1.toInt < 264 := q_nleI c5; have t2 : lx1.toInt < 128 := q_nleI c6; omega) (by have t1 : lx1.toInt < 264 := q_nleI c5; have t2 : lx1.toInt < 128 := q_nleI c6; omega)); omega) ⟨(show 0 ≤ (lx1 + 1).toInt ∧ ((lx1 + 1).toInt ≤ 264 ∨ (lx1 + 1).toInt = 0) from by have t1 : lx1.toInt < 264 := q_nleI c5; have t2 : lx1.toInt < 128 := q_nleI c6; have e : (lx1 + 1).toInt = (lx1.toInt + 1) := (q_addI (x := lx1.toInt) (y := 1) rfl (by decide) (by have t1 : lx1.toInt < 264 := q_nleI c5; have t2 : lx1.toInt < 128 := q_nleI c6; omega) (by have t1 : lx1.toInt < 264 := q_nleI c5; have t2 : lx1.toInt < 128 := q_nleI c6; omega)); omega), V, q_lw hl (q_lw1 0 rfl (q_lw1 1 rfl (q_lw1 2 rfl (q_lw1 3 rfl q_lw0)))), hF, hO0, hA1, hA3⟩
theorem d_19_9_0 : decode prog_19_method_9_code 0 = .ok (.aload_n 0, 1) := by decide +kernel
theorem d_19_9_1 : decode prog_19_method_9_code 1 = .ok (.arraylength, 1) := by decide +kernel
theorem d_19_9_2 : decode prog_19_method_9_code 2 = .ok (.iconst 1, 1) := by decide +kernel
theorem d_19_9_3 : decode prog_19_method_9_code 3 = .ok (.isub, 1) := by decide +kernel
theorem d_19_9_4 : decode prog_19_method_9_code 4 = .ok (.istore_n 2, 1) := by decide +kernel
theorem d_19_9_5 : decode prog_19_method_9_code 5 = .ok (.iload_n 2, 1) := by decide +kernel
theorem d_19_9_6 : decode prog_19_method_9_code 6 = .ok (.ifCond .lt 33, 3) := by decide +kernel
theorem d_19_9_39 : decode prog_19_method_9_code 39 = .ok (.iconst 0, 1) := by decide +kernel
theorem d_19_9_40 : decode prog_19_method_9_code 40 = .ok (.ireturn, 1) := by decide +kernel
theorem d_19_9_9 : decode prog_19_method_9_code 9 = .ok (.aload_n 0, 1) := by decide +kernel
theorem d_19_9_10 : decode prog_19_method_9_code 10 = .ok (.iload_n 2, 1) := by decide +kernel
theorem d_19_9_11 : decode prog_19_method_9_code 11 = .ok (.iaload, 1) := by decide +kernel
theorem d_19_9_12 : decode prog_19_method_9_code 12 = .ok (.aload_n 1, 1) := by decide +kernel
theorem d_19_9_13 : decode prog_19_method_9_code 13 = .ok (.iload_n 2, 1) := by decide +kernel
theorem d_19_9_14 : decode prog_19_method_9_code 14 = .ok (.iaload, 1) := by decide +kernel
theorem d_19_9_15 : decode prog_19_method_9_code 15 = .ok (.if_icmp .eq 18, 3) := by decide +kernel
theorem d_19_9_33 : decode prog_19_method_9_code 33 = .ok (.iinc 2 (-1), 3) := by decide +kernel
theorem d_19_9_36 : decode prog_19_method_9_code 36 = .ok (.goto (-31), 3) := by decide +kernel
def y_WR_compareRows : MethodName := ⟨"NumberHouseModel$WholeRows", "compareRows", "([I[I)I"⟩
set_option maxRecDepth 100000 in
set_option maxHeartbeats 4000000 in
theorem c_WR_compareRows (l : Launch) (D : va_G) (g : Nat → ClassId) (ws : va_W) (kA0 kA1 qA0 qA1 : Nat) (hA0 : ws[kA0]? = (some (qA0, .inl (g 0, 264, .inl (fun _ => 0))) : Option (Nat × va_E))) (hA1 : ws[kA1]? = (some (qA1, .inl (g 0, 264, .inl (fun _ => 0))) : Option (Nat × va_E))) : q_mI l y_WR_compareRows prog_19_method_9_code 3 (.int) 1 0 0 D g [.ref qA0, .ref qA1] ws (fun r u => 0 = r ∧ ws = u) := by
  intro sz
  refine q_into (by decide) (Nat.le_of_ble_eq_true rfl) ?_
  intro p e s m below meth c ls hsz C0 V hl
  have hx := C0.1
  have hb := C0.2.1
  have hl : lv_has ls 3 [(0, .ref qA0), (1, .ref qA1)] := hl
  refine lv_aload_n hx hb d_19_9_0 rfl (lv_at hl 0 rfl) ?_
  refine q_alen (t := 0) (v := 264) C0 V hA0 rfl (by first | rfl | decide) d_19_9_1 ?_
  refine lv_iconst (v := 1) hx hb d_19_9_2 (by decide) ?_
  refine lv_isub hx hb d_19_9_3 ?_
  refine q_ti (v := 263) (by decide) ?_
  refine lv_istore_n (lv' := [(2, .int 263), (0, .ref qA0), (1, .ref qA1)]) hx hb d_19_9_4 rfl hl (by decide) rfl (fun ls hl => ?_)
  refine q_loop (X := Int32) (fun z H locs ls _ => ((-1) ≤ z.toInt ∧ z.toInt ≤ 263) ∧ q_Wd D g (va_A ws sz) s ws H locs ∧ lv_has ls 3 [(2, .int z), (0, .ref qA0), (1, .ref qA1)]) (fun z => (z.toInt - (-1)).toNat) ?_ ((263 : Int32)) _ _ _ ws ⟨⟨by decide, by decide⟩, V, hl⟩
  rintro lx1 H locs ls _ ⟨i3, V, hl⟩ ih4
  replace i3 : (-1) ≤ lx1.toInt ∧ lx1.toInt ≤ 263 := i3
  replace hl : lv_has ls 3 [(2, .int lx1), (0, .ref qA0), (1, .ref qA1)] := hl
  refine lv_iload_n hx hb d_19_9_5 rfl (lv_at hl 0 rfl) ?_
  refine lv_if_lt (tgt := 39) hx hb d_19_9_6 (by decide) (fun c5 => ?_) (fun c5 => ?_)
  ·
    refine lv_iconst (v := 0) hx hb d_19_9_39 (by decide) ?_
    exact q_reti C0 V (⟨rfl, rfl⟩) d_19_9_40
  ·
    refine lv_aload_n hx hb d_19_9_9 rfl (lv_at hl 1 rfl) ?_
    refine lv_iload_n hx hb d_19_9_10 rfl (lv_at hl 0 rfl) ?_
    refine q_iald C0 V hA0 (q_ix (x := lx1.toInt) rfl (by have t1 : 0 ≤ lx1.toInt := q_nltI c5; omega) (by have t1 : 0 ≤ lx1.toInt := q_nltI c5; omega)) d_19_9_11 ?_
    refine q_ti (v := 0) (by first | rfl | decide | simp [upd, vp_updL, sb_cl0]) ?_
    refine lv_aload_n hx hb d_19_9_12 rfl (lv_at hl 2 rfl) ?_
    refine lv_iload_n hx hb d_19_9_13 rfl (lv_at hl 0 rfl) ?_
    refine q_iald C0 V hA1 (q_ix (x := lx1.toInt) rfl (by have t1 : 0 ≤ lx1.toInt := q_nltI c5; omega) (by have t1 : 0 ≤ lx1.toInt := q_nltI c5; omega)) d_19_9_14 ?_
    refine q_ti (v := 0) (by first | rfl | decide | simp [upd, vp_updL, sb_cl0]) ?_
    refine lv_icmp_eq (tgt := 33) hx hb d_19_9_15 (by decide) (fun c6 => ?_) (fun c6 => absurd (by decide) c6)
    refine lv_iinc (v := lx1 + (-1)) (lv' := [(2, .int (lx1 + (-1))), (0, .ref qA0), (1, .ref qA1)]) hx hb d_19_9_33 hl (k := 0) rfl (rfl) (by decide) rfl (fun ls hl => ?_)
    refine lv_goto (tgt := 5) hx hb d_19_9_36 (by decide) ?_
    exact ih4 ((lx1 + (-1) : Int32)) _ _ _ ws (show ((lx1 + (-1)).toInt - (-1)).toNat < (lx1.toInt - (-1)).toNat from by have t1 : 0 ≤ lx1.toInt := q_nltI c5; have e : (lx1 + (-1)).toInt = (lx1.toInt + (-1)) := (q_addI (x := lx1.toInt) (y := (-1)) rfl (by decide) (by have t1 : 0 ≤ lx1.toInt := q_nltI c5; omega) (by have t1 : 0 ≤ lx1.toInt := q_nltI c5; omega)); omega) ⟨(show (-1) ≤ (lx1 + (-1)).toInt ∧ (lx1 + (-1)).toInt ≤ 263 from by have t1 : 0 ≤ lx1.toInt := q_nltI c5; have e : (lx1 + (-1)).toInt = (lx1.toInt + (-1)) := (q_addI (x := lx1.toInt) (y := (-1)) rfl (by decide) (by have t1 : 0 ≤ lx1.toInt := q_nltI c5; omega) (by have t1 : 0 ≤ lx1.toInt := q_nltI c5; omega)); omega), V, q_lw hl (q_lw1 0 rfl (q_lw1 1 rfl (q_lw1 2 rfl q_lw0)))⟩
theorem d_19_40_0 : decode prog_19_method_40_code 0 = .ok (.aload_n 0, 1) := by decide +kernel
theorem d_19_40_1 : decode prog_19_method_40_code 1 = .ok (.iload_n 1, 1) := by decide +kernel
theorem d_19_40_2 : decode prog_19_method_40_code 2 = .ok (.invokestatic 91, 3) := by decide +kernel
theorem w_2371 : (Cond.code ({ cls := "NumberHouseModel$WholeRows", name := "no", desc := "(I)Z" } : MethodName) prog_19_method_3_code (1 : Nat) (some .boolean)) ∈ q_tbl := q_of 2371 (by decide +kernel) (by decide +kernel)
theorem w_2369 : (Cond.methodLink "NumberHouseModel$WholeRows" (91 : Nat) ({ cls := "NumberHouseModel$WholeRows", name := "no", desc := "(I)Z" } : MethodName)) ∈ q_tbl := q_of 2369 (by decide +kernel) (by decide +kernel)
theorem w_2370 : (Cond.static ({ cls := "NumberHouseModel$WholeRows", name := "no", desc := "(I)Z" } : MethodName)) ∈ q_tbl := q_of 2370 (by decide +kernel) (by decide +kernel)
theorem LS_WR_91 : q_LS "NumberHouseModel$WholeRows" 91 y_WR_no prog_19_method_3_code 1 (some .boolean) 1 := ⟨w_2371, w_15, w_2369, w_2370, ⟨by decide, by decide, by decide +kernel⟩⟩
theorem d_19_40_5 : decode prog_19_method_40_code 5 = .ok (.ifCond .ne 10, 3) := by decide +kernel
theorem d_19_40_8 : decode prog_19_method_40_code 8 = .ok (.iload_n 2, 1) := by decide +kernel
theorem d_19_40_9 : decode prog_19_method_40_code 9 = .ok (.invokestatic 91, 3) := by decide +kernel
theorem d_19_40_12 : decode prog_19_method_40_code 12 = .ok (.ifCond .eq 7, 3) := by decide +kernel
theorem d_19_40_19 : decode prog_19_method_40_code 19 = .ok (.iconst 0, 1) := by decide +kernel
theorem d_19_40_20 : decode prog_19_method_40_code 20 = .ok (.putfield 53, 3) := by decide +kernel
theorem w_1921 : (Cond.fieldLink "NumberHouseModel$WholeRows" (53 : Nat) "NumberHouseModel$WholeRows" "thrown" "I") ∈ q_tbl := q_of 1921 (by decide +kernel) (by decide +kernel)
theorem d_19_40_23 : decode prog_19_method_40_code 23 = .ok (.aload_n 0, 1) := by decide +kernel
theorem d_19_40_24 : decode prog_19_method_40_code 24 = .ok (.getfield 53, 3) := by decide +kernel
theorem d_19_40_27 : decode prog_19_method_40_code 27 = .ok (.ifCond .le 5, 3) := by decide +kernel
theorem d_19_40_32 : decode prog_19_method_40_code 32 = .ok (.aload_n 0, 1) := by decide +kernel
theorem d_19_40_33 : decode prog_19_method_40_code 33 = .ok (.getfield 16, 3) := by decide +kernel
theorem d_19_40_36 : decode prog_19_method_40_code 36 = .ok (.iload_n 1, 1) := by decide +kernel
theorem d_19_40_37 : decode prog_19_method_40_code 37 = .ok (.baload, 1) := by decide +kernel
theorem d_19_40_38 : decode prog_19_method_40_code 38 = .ok (.aload_n 0, 1) := by decide +kernel
theorem d_19_40_39 : decode prog_19_method_40_code 39 = .ok (.getfield 16, 3) := by decide +kernel
theorem d_19_40_42 : decode prog_19_method_40_code 42 = .ok (.iload_n 2, 1) := by decide +kernel
theorem d_19_40_43 : decode prog_19_method_40_code 43 = .ok (.baload, 1) := by decide +kernel
theorem d_19_40_44 : decode prog_19_method_40_code 44 = .ok (.if_icmp .eq 18, 3) := by decide +kernel
theorem d_19_40_62 : decode prog_19_method_40_code 62 = .ok (.aload_n 0, 1) := by decide +kernel
theorem d_19_40_63 : decode prog_19_method_40_code 63 = .ok (.iload_n 1, 1) := by decide +kernel
theorem d_19_40_64 : decode prog_19_method_40_code 64 = .ok (.aload_n 0, 1) := by decide +kernel
theorem d_19_40_65 : decode prog_19_method_40_code 65 = .ok (.getfield 35, 3) := by decide +kernel
theorem d_19_40_68 : decode prog_19_method_40_code 68 = .ok (.invokevirtual 107, 3) := by decide +kernel
theorem w_2655 : (Cond.code ({ cls := "NumberHouseModel$WholeRows", name := "take", desc := "(I[I)V" } : MethodName) prog_19_method_6_code (4 : Nat) (none : Option ClassFile.FieldType)) ∈ q_tbl := q_of 2655 (by decide +kernel) (by decide +kernel)
theorem w_2652 : (Cond.methodLink "NumberHouseModel$WholeRows" (107 : Nat) ({ cls := "NumberHouseModel$WholeRows", name := "take", desc := "(I[I)V" } : MethodName)) ∈ q_tbl := q_of 2652 (by decide +kernel) (by decide +kernel)
theorem w_2654 : (Cond.instanceMethod ({ cls := "NumberHouseModel$WholeRows", name := "take", desc := "(I[I)V" } : MethodName)) ∈ q_tbl := q_of 2654 (by decide +kernel) (by decide +kernel)
theorem ws_100 : Cond.selects "NumberHouseModel$WholeRows" (⟨"NumberHouseModel$WholeRows", "take", "(I[I)V"⟩ : MethodName) (⟨"NumberHouseModel$WholeRows", "take", "(I[I)V"⟩ : MethodName) ∈ q_tbl := q_ofs 100 (by decide +kernel) (by decide +kernel)
theorem LV_WR_107 : q_LV "NumberHouseModel$WholeRows" 107 y_WR_take prog_19_method_6_code 4 none 2 := ⟨w_2655, w_15, w_2652, w_2654, ws_100, ⟨by decide, by decide, by decide +kernel⟩⟩
theorem d_19_40_71 : decode prog_19_method_40_code 71 = .ok (.aload_n 0, 1) := by decide +kernel
theorem d_19_40_72 : decode prog_19_method_40_code 72 = .ok (.iload_n 2, 1) := by decide +kernel
theorem d_19_40_73 : decode prog_19_method_40_code 73 = .ok (.aload_n 0, 1) := by decide +kernel
theorem d_19_40_74 : decode prog_19_method_40_code 74 = .ok (.getfield 38, 3) := by decide +kernel
theorem d_19_40_77 : decode prog_19_method_40_code 77 = .ok (.invokevirtual 107, 3) := by decide +kernel
theorem d_19_40_80 : decode prog_19_method_40_code 80 = .ok (.aload_n 0, 1) := by decide +kernel
theorem d_19_40_81 : decode prog_19_method_40_code 81 = .ok (.getfield 35, 3) := by decide +kernel
theorem d_19_40_84 : decode prog_19_method_40_code 84 = .ok (.aload_n 0, 1) := by decide +kernel
theorem d_19_40_85 : decode prog_19_method_40_code 85 = .ok (.getfield 38, 3) := by decide +kernel
theorem d_19_40_88 : decode prog_19_method_40_code 88 = .ok (.invokestatic 71, 3) := by decide +kernel
theorem w_2658 : (Cond.code ({ cls := "NumberHouseModel$WholeRows", name := "compareRows", desc := "([I[I)I" } : MethodName) prog_19_method_9_code (3 : Nat) (some .int)) ∈ q_tbl := q_of 2658 (by decide +kernel) (by decide +kernel)
theorem w_2656 : (Cond.methodLink "NumberHouseModel$WholeRows" (71 : Nat) ({ cls := "NumberHouseModel$WholeRows", name := "compareRows", desc := "([I[I)I" } : MethodName)) ∈ q_tbl := q_of 2656 (by decide +kernel) (by decide +kernel)
theorem w_2657 : (Cond.static ({ cls := "NumberHouseModel$WholeRows", name := "compareRows", desc := "([I[I)I" } : MethodName)) ∈ q_tbl := q_of 2657 (by decide +kernel) (by decide +kernel)
theorem LS_WR_71 : q_LS "NumberHouseModel$WholeRows" 71 y_WR_compareRows prog_19_method_9_code 3 (some .int) 2 := ⟨w_2658, w_15, w_2656, w_2657, ⟨by decide, by decide, by decide +kernel⟩⟩
theorem d_19_40_91 : decode prog_19_method_40_code 91 = .ok (.istore_n 3, 1) := by decide +kernel
theorem d_19_40_92 : decode prog_19_method_40_code 92 = .ok (.aload_n 0, 1) := by decide +kernel
theorem d_19_40_93 : decode prog_19_method_40_code 93 = .ok (.getfield 16, 3) := by decide +kernel
theorem d_19_40_96 : decode prog_19_method_40_code 96 = .ok (.iload_n 1, 1) := by decide +kernel
theorem d_19_40_97 : decode prog_19_method_40_code 97 = .ok (.baload, 1) := by decide +kernel
theorem d_19_40_98 : decode prog_19_method_40_code 98 = .ok (.ifCond .eq 8, 3) := by decide +kernel
theorem d_19_40_106 : decode prog_19_method_40_code 106 = .ok (.iload_n 3, 1) := by decide +kernel
theorem d_19_40_107 : decode prog_19_method_40_code 107 = .ok (.ireturn, 1) := by decide +kernel
def y_WR_compare : MethodName := ⟨"NumberHouseModel$WholeRows", "compare", "(II)I"⟩
set_option maxRecDepth 100000 in
set_option maxHeartbeats 4000000 in
theorem c_WR_compare (l : Launch) (D : va_G) (g : Nat → ClassId) (ws : va_W) (kO0 kA2 kA3 kA9 kA10 qO0 qA1 qA2 qA3 qA4 qA5 qA6 qA7 qA8 qA9 qA10 qA11 qA12 qA13 qA14 : Nat) (x1 : Int32) (x2 : Int32) (hO0 : ws[kO0]? = (some (qO0, .inr (13, [.int 0, .int 0, .ref qA1, .int 0, .ref qA2, .ref qA3, .ref qA4, .int 0, .ref qA5, .ref qA6, .ref qA7, .ref qA8, .ref qA9, .ref qA10, .ref qA11, .ref qA12, .int 0, .int 0, .ref qA13, .ref qA14, .int 0])) : Option (Nat × va_E))) (hA2 : ws[kA2]? = (some (qA2, .inl (g 0, 1408, .inl (fun _ => 0))) : Option (Nat × va_E))) (hA3 : ws[kA3]? = (some (qA3, .inl (g 3, 11, .inl (fun _ => 0))) : Option (Nat × va_E))) (hA9 : ws[kA9]? = (some (qA9, .inl (g 0, 264, .inl (fun _ => 0))) : Option (Nat × va_E))) (hA10 : ws[kA10]? = (some (qA10, .inl (g 0, 264, .inl (fun _ => 0))) : Option (Nat × va_E))) (n_A10_A9 : kA10 ≠ kA9) (n_A2_A10 : kA2 ≠ kA10) (n_A2_A9 : kA2 ≠ kA9) (n_A3_A10 : kA3 ≠ kA10) (n_A3_A9 : kA3 ≠ kA9) (x1lo : 0 ≤ x1) (x1hi : x1 ≤ 9) (x2lo : 0 ≤ x2) (x2hi : x2 ≤ 9) : q_mI l y_WR_compare prog_19_method_40_code 4 (.int) 2 0 0 D g [.ref qO0, .int x1, .int x2] ws (fun r u => 0 = r ∧ q_un ws u [kO0, kA9, kA10] ∧ u[kO0]? = (some (qO0, .inr (13, [.int 0, .int 0, .ref qA1, .int 0, .ref qA2, .ref qA3, .ref qA4, .int 0, .ref qA5, .ref qA6, .ref qA7, .ref qA8, .ref qA9, .ref qA10, .ref qA11, .ref qA12, .int 0, .int 0, .ref qA13, .ref qA14, .int 0])) : Option (Nat × va_E)) ∧ u[kA9]? = (some (qA9, .inl (g 0, 264, .inl (fun _ => 0))) : Option (Nat × va_E)) ∧ u[kA10]? = (some (qA10, .inl (g 0, 264, .inl (fun _ => 0))) : Option (Nat × va_E))) := by
  intro sz
  refine q_into (by decide) (Nat.le_of_ble_eq_true rfl) ?_
  intro p e s m below meth c ls hsz C0 V hl
  have hx := C0.1
  have hb := C0.2.1
  have hl : lv_has ls 4 [(0, .ref qO0), (1, .int x1), (2, .int x2)] := hl
  have n_A10_O0 := q_df hA10 hO0
  have n_A2_O0 := q_df hA2 hO0
  have n_A3_O0 := q_df hA3 hO0
  have n_A9_A10 := Ne.symm n_A10_A9
  have n_A9_O0 := q_df hA9 hO0
  have n_O0_A10 := Ne.symm (q_df hA10 hO0)
  have n_O0_A9 := Ne.symm (q_df hA9 hO0)
  have hF : q_un ws ws [kO0, kA9, kA10] := q_u0
  refine lv_aload_n hx hb d_19_40_0 rfl (lv_at hl 0 rfl) ?_
  refine lv_iload_n hx hb d_19_40_1 rfl (lv_at hl 1 rfl) ?_
  refine q_goi V (q_runS (As := [.int x1]) (rest := [.ref qO0]) (d := 1) (mc := 0) (ms := 0) C0 V rfl LS_WR_91 (c_WR_no l D g ws x1 x1lo x1hi _) rfl hl.1 rfl (Nat.le_of_ble_eq_true rfl) ⟨by decide, by decide⟩ ⟨Nat.le_of_ble_eq_true rfl, Nat.le_of_ble_eq_true rfl⟩ d_19_40_2) (fun v3 u2 H locs hp1 V => ?_)
  obtain ⟨rfl, rfl⟩ := hp1
  refine lv_if_ne (tgt := 15) hx hb d_19_40_5 (by decide) (fun c5 => absurd (by decide) c5) (fun c5 => ?_)
  refine lv_iload_n hx hb d_19_40_8 rfl (lv_at hl 2 rfl) ?_
  refine q_goi V (q_runS (As := [.int x2]) (rest := [.ref qO0]) (d := 1) (mc := 0) (ms := 0) C0 V rfl LS_WR_91 (c_WR_no l D g ws x2 x2lo x2hi _) rfl hl.1 rfl (Nat.le_of_ble_eq_true rfl) ⟨by decide, by decide⟩ ⟨Nat.le_of_ble_eq_true rfl, Nat.le_of_ble_eq_true rfl⟩ d_19_40_9) (fun v8 u7 H locs hp6 V => ?_)
  obtain ⟨rfl, rfl⟩ := hp6
  refine lv_if_eq (tgt := 19) hx hb d_19_40_12 (by decide) (fun c10 => ?_) (fun c10 => absurd (by decide) c10)
  refine lv_iconst (v := 0) hx hb d_19_40_19 (by decide) ?_
  refine q_put (ci := 13) (j := 0) (v := .int 0) (ty := .int) C0 V i_WR o_WR n_WR rfl rfl hO0 (by decide) w_1921 rfl rfl rfl rfl (Nat.le_of_ble_eq_true rfl) d_19_40_20 (fun H locs w11 hu12 hO0 V => ?_)
  replace hO0 : w11[kO0]? = (some (qO0, .inr (13, [.int 0, .int 0, .ref qA1, .int 0, .ref qA2, .ref qA3, .ref qA4, .int 0, .ref qA5, .ref qA6, .ref qA7, .ref qA8, .ref qA9, .ref qA10, .ref qA11, .ref qA12, .int 0, .int 0, .ref qA13, .ref qA14, .int 0])) : Option (Nat × va_E)) := hO0
  replace hF := q_us hF hu12 (.head _)
  refine lv_aload_n hx hb d_19_40_23 rfl (lv_at hl 0 rfl) ?_
  refine q_get (ci := 13) (j := 0) (v := .int 0) C0 V i_WR rfl rfl hO0 (by decide) w_1921 rfl d_19_40_24 ?_
  refine lv_if_le (tgt := 32) hx hb d_19_40_27 (by decide) (fun c13 => ?_) (fun c13 => absurd (by decide) c13)
  refine lv_aload_n hx hb d_19_40_32 rfl (lv_at hl 0 rfl) ?_
  refine q_get (ci := 13) (j := 5) (v := .ref qA3) C0 V i_WR rfl rfl hO0 (by decide) w_1929 rfl d_19_40_33 ?_
  refine lv_iload_n hx hb d_19_40_36 rfl (lv_at hl 1 rfl) ?_
  replace hA3 := (hu12 _ n_A3_O0).trans (hA3)
  refine q_zald C0 V hA3 (q_ix (x := x1.toInt) rfl (by have t1 : 0 ≤ x1.toInt := q_leI x1lo; have t2 : x1.toInt ≤ 9 := q_leI x1hi; omega) (by have t1 : 0 ≤ x1.toInt := q_leI x1lo; have t2 : x1.toInt ≤ 9 := q_leI x1hi; omega)) d_19_40_37 ?_
  refine q_ti (v := 0) (by first | rfl | decide | simp [upd, vp_updL, sb_cl0]) ?_
  refine lv_aload_n hx hb d_19_40_38 rfl (lv_at hl 0 rfl) ?_
  refine q_get (ci := 13) (j := 5) (v := .ref qA3) C0 V i_WR rfl rfl hO0 (by decide) w_1929 rfl d_19_40_39 ?_
  refine lv_iload_n hx hb d_19_40_42 rfl (lv_at hl 2 rfl) ?_
  refine q_zald C0 V hA3 (q_ix (x := x2.toInt) rfl (by have t1 : 0 ≤ x2.toInt := q_leI x2lo; have t2 : x2.toInt ≤ 9 := q_leI x2hi; omega) (by have t1 : 0 ≤ x2.toInt := q_leI x2lo; have t2 : x2.toInt ≤ 9 := q_leI x2hi; omega)) d_19_40_43 ?_
  refine q_ti (v := 0) (by first | rfl | decide | simp [upd, vp_updL, sb_cl0]) ?_
  refine lv_icmp_eq (tgt := 62) hx hb d_19_40_44 (by decide) (fun c14 => ?_) (fun c14 => absurd (by decide) c14)
  refine lv_aload_n hx hb d_19_40_62 rfl (lv_at hl 0 rfl) ?_
  refine lv_iload_n hx hb d_19_40_63 rfl (lv_at hl 1 rfl) ?_
  refine lv_aload_n hx hb d_19_40_64 rfl (lv_at hl 0 rfl) ?_
  refine q_get (ci := 13) (j := 12) (v := .ref qA9) C0 V i_WR rfl rfl hO0 (by decide) w_1936 rfl d_19_40_65 ?_
  replace hA9 := (hu12 _ n_A9_O0).trans (hA9)
  replace hA2 := (hu12 _ n_A2_O0).trans (hA2)
  refine q_gov V (q_runV (As := [.int x1, .ref qA9]) (rest := []) (d := 1) (mc := 0) (ms := 0) (ci := 13) C0 V rfl LV_WR_107 (c_WR_take l D g w11 kO0 kA9 kA2 qO0 qA9 qA1 qA2 qA3 qA4 qA5 qA6 qA7 qA8 qA10 qA11 qA12 qA13 qA14 x1 hO0 hA9 hA2 n_A2_A9 x1lo x1hi _) rfl rfl hO0 rfl hl.1 rfl (Nat.le_of_ble_eq_true rfl) ⟨by decide, by decide⟩ ⟨Nat.le_of_ble_eq_true rfl, Nat.le_of_ble_eq_true rfl⟩ d_19_40_68) (fun u16 H locs hp15 V => ?_)
  obtain ⟨hg17, hA9⟩ := hp15
  replace hF := q_uc hF hg17 (q_sc (.tail _ (.head _)) (fun _ h => absurd h List.not_mem_nil))
  refine lv_aload_n hx hb d_19_40_71 rfl (lv_at hl 0 rfl) ?_
  refine lv_iload_n hx hb d_19_40_72 rfl (lv_at hl 2 rfl) ?_
  refine lv_aload_n hx hb d_19_40_73 rfl (lv_at hl 0 rfl) ?_
  replace hO0 := (hg17 _ (q_nc n_O0_A9 List.not_mem_nil)).trans (hO0)
  refine q_get (ci := 13) (j := 13) (v := .ref qA10) C0 V i_WR rfl rfl hO0 (by decide) w_1937 rfl d_19_40_74 ?_
  replace hA10 := (hg17 _ (q_nc n_A10_A9 List.not_mem_nil)).trans ((hu12 _ n_A10_O0).trans (hA10))
  replace hA2 := (hg17 _ (q_nc n_A2_A9 List.not_mem_nil)).trans (hA2)
  refine q_gov V (q_runV (As := [.int x2, .ref qA10]) (rest := []) (d := 1) (mc := 0) (ms := 0) (ci := 13) C0 V rfl LV_WR_107 (c_WR_take_2 l D g u16 kO0 kA10 kA2 qO0 qA10 qA1 qA2 qA3 qA4 qA5 qA6 qA7 qA8 qA9 qA11 qA12 qA13 qA14 x2 hO0 hA10 hA2 n_A2_A10 x2lo x2hi _) rfl rfl hO0 rfl hl.1 rfl (Nat.le_of_ble_eq_true rfl) ⟨by decide, by decide⟩ ⟨Nat.le_of_ble_eq_true rfl, Nat.le_of_ble_eq_true rfl⟩ d_19_40_77) (fun u19 H locs hp18 V => ?_)
  obtain ⟨hg20, hA10⟩ := hp18
  replace hF := q_uc hF hg20 (q_sc (.tail _ (.tail _ (.head _))) (fun _ h => absurd h List.not_mem_nil))
  refine lv_aload_n hx hb d_19_40_80 rfl (lv_at hl 0 rfl) ?_
  replace hO0 := (hg20 _ (q_nc n_O0_A10 List.not_mem_nil)).trans (hO0)
  refine q_get (ci := 13) (j := 12) (v := .ref qA9) C0 V i_WR rfl rfl hO0 (by decide) w_1936 rfl d_19_40_81 ?_
  refine lv_aload_n hx hb d_19_40_84 rfl (lv_at hl 0 rfl) ?_
  refine q_get (ci := 13) (j := 13) (v := .ref qA10) C0 V i_WR rfl rfl hO0 (by decide) w_1937 rfl d_19_40_85 ?_
  replace hA9 := (hg20 _ (q_nc n_A9_A10 List.not_mem_nil)).trans (hA9)
  refine q_goi V (q_runS (As := [.ref qA9, .ref qA10]) (rest := []) (d := 1) (mc := 0) (ms := 0) C0 V rfl LS_WR_71 (c_WR_compareRows l D g u19 kA9 kA10 qA9 qA10 hA9 hA10 _) rfl hl.1 rfl (Nat.le_of_ble_eq_true rfl) ⟨by decide, by decide⟩ ⟨Nat.le_of_ble_eq_true rfl, Nat.le_of_ble_eq_true rfl⟩ d_19_40_88) (fun v23 u22 H locs hp21 V => ?_)
  obtain ⟨rfl, rfl⟩ := hp21
  refine lv_istore_n (lv' := [(3, .int 0), (0, .ref qO0), (1, .int x1), (2, .int x2)]) hx hb d_19_40_91 rfl hl (by decide) rfl (fun ls hl => ?_)
  refine lv_aload_n hx hb d_19_40_92 rfl (lv_at hl 1 rfl) ?_
  refine q_get (ci := 13) (j := 5) (v := .ref qA3) C0 V i_WR rfl rfl hO0 (by decide) w_1929 rfl d_19_40_93 ?_
  refine lv_iload_n hx hb d_19_40_96 rfl (lv_at hl 2 rfl) ?_
  replace hA3 := (hg20 _ (q_nc n_A3_A10 List.not_mem_nil)).trans ((hg17 _ (q_nc n_A3_A9 List.not_mem_nil)).trans (hA3))
  refine q_zald C0 V hA3 (q_ix (x := x1.toInt) rfl (by have t1 : 0 ≤ x1.toInt := q_leI x1lo; have t2 : x1.toInt ≤ 9 := q_leI x1hi; omega) (by have t1 : 0 ≤ x1.toInt := q_leI x1lo; have t2 : x1.toInt ≤ 9 := q_leI x1hi; omega)) d_19_40_97 ?_
  refine q_ti (v := 0) (by first | rfl | decide | simp [upd, vp_updL, sb_cl0]) ?_
  refine lv_if_eq (tgt := 106) hx hb d_19_40_98 (by decide) (fun c25 => ?_) (fun c25 => absurd (by decide) c25)
  refine lv_iload_n hx hb d_19_40_106 rfl (lv_at hl 0 rfl) ?_
  exact q_reti C0 V (⟨rfl, hF, hO0, hA9, hA10⟩) d_19_40_107
theorem d_14_19_0 : decode prog_14_method_19_code 0 = .ok (.aload_n 0, 1) := by decide +kernel
theorem d_14_19_1 : decode prog_14_method_19_code 1 = .ok (.iload_n 1, 1) := by decide +kernel
theorem d_14_19_2 : decode prog_14_method_19_code 2 = .ok (.iload_n 2, 1) := by decide +kernel
theorem d_14_19_3 : decode prog_14_method_19_code 3 = .ok (.invokestatic 84, 3) := by decide +kernel
theorem w_2358 : (Cond.code ({ cls := "NumberHouseModel", name := "no", desc := "(II)Z" } : MethodName) prog_14_method_9_code (2 : Nat) (some .boolean)) ∈ q_tbl := q_of 2358 (by decide +kernel) (by decide +kernel)
theorem w_2356 : (Cond.methodLink "NumberHouseModel" (84 : Nat) ({ cls := "NumberHouseModel", name := "no", desc := "(II)Z" } : MethodName)) ∈ q_tbl := q_of 2356 (by decide +kernel) (by decide +kernel)
theorem w_2357 : (Cond.static ({ cls := "NumberHouseModel", name := "no", desc := "(II)Z" } : MethodName)) ∈ q_tbl := q_of 2357 (by decide +kernel) (by decide +kernel)
theorem LS_NM_84 : q_LS "NumberHouseModel" 84 y_NM_no_IIZ prog_14_method_9_code 2 (some .boolean) 2 := ⟨w_2358, w_14, w_2356, w_2357, ⟨by decide, by decide, by decide +kernel⟩⟩
theorem d_14_19_6 : decode prog_14_method_19_code 6 = .ok (.ifCond .ne 10, 3) := by decide +kernel
theorem d_14_19_16 : decode prog_14_method_19_code 16 = .ok (.iconst 1, 1) := by decide +kernel
theorem d_14_19_17 : decode prog_14_method_19_code 17 = .ok (.goto 4, 3) := by decide +kernel
theorem d_14_19_21 : decode prog_14_method_19_code 21 = .ok (.putfield 58, 3) := by decide +kernel
theorem d_14_19_24 : decode prog_14_method_19_code 24 = .ok (.aload_n 0, 1) := by decide +kernel
theorem d_14_19_25 : decode prog_14_method_19_code 25 = .ok (.getfield 58, 3) := by decide +kernel
theorem d_14_19_28 : decode prog_14_method_19_code 28 = .ok (.ifCond .le 5, 3) := by decide +kernel
theorem d_14_19_31 : decode prog_14_method_19_code 31 = .ok (.iconst 0, 1) := by decide +kernel
theorem d_14_19_32 : decode prog_14_method_19_code 32 = .ok (.ireturn, 1) := by decide +kernel
theorem d_14_19_9 : decode prog_14_method_19_code 9 = .ok (.iload_n 3, 1) := by decide +kernel
theorem d_14_19_10 : decode prog_14_method_19_code 10 = .ok (.invokestatic 70, 3) := by decide +kernel
theorem d_14_19_13 : decode prog_14_method_19_code 13 = .ok (.ifCond .eq 7, 3) := by decide +kernel
theorem d_14_19_20 : decode prog_14_method_19_code 20 = .ok (.iconst 0, 1) := by decide +kernel
theorem d_14_19_33 : decode prog_14_method_19_code 33 = .ok (.iload_n 1, 1) := by decide +kernel
theorem d_14_19_34 : decode prog_14_method_19_code 34 = .ok (.iconst 2, 1) := by decide +kernel
theorem d_14_19_35 : decode prog_14_method_19_code 35 = .ok (.if_icmp .ge 29, 3) := by decide +kernel
theorem d_14_19_64 : decode prog_14_method_19_code 64 = .ok (.aload_n 0, 1) := by decide +kernel
theorem d_14_19_65 : decode prog_14_method_19_code 65 = .ok (.iload_n 1, 1) := by decide +kernel
theorem d_14_19_66 : decode prog_14_method_19_code 66 = .ok (.iload_n 2, 1) := by decide +kernel
theorem d_14_19_67 : decode prog_14_method_19_code 67 = .ok (.invokevirtual 138, 3) := by decide +kernel
theorem w_2576 : (Cond.code ({ cls := "NumberHouseModel", name := "bitsOf", desc := "(II)J" } : MethodName) prog_14_method_11_code (3 : Nat) (some .long)) ∈ q_tbl := q_of 2576 (by decide +kernel) (by decide +kernel)
theorem w_2573 : (Cond.methodLink "NumberHouseModel" (138 : Nat) ({ cls := "NumberHouseModel", name := "bitsOf", desc := "(II)J" } : MethodName)) ∈ q_tbl := q_of 2573 (by decide +kernel) (by decide +kernel)
theorem w_2575 : (Cond.instanceMethod ({ cls := "NumberHouseModel", name := "bitsOf", desc := "(II)J" } : MethodName)) ∈ q_tbl := q_of 2575 (by decide +kernel) (by decide +kernel)
theorem ws_88 : Cond.selects "NumberHouseModel" (⟨"NumberHouseModel", "bitsOf", "(II)J"⟩ : MethodName) (⟨"NumberHouseModel", "bitsOf", "(II)J"⟩ : MethodName) ∈ q_tbl := q_ofs 88 (by decide +kernel) (by decide +kernel)
theorem LV_NM_138 : q_LV "NumberHouseModel" 138 y_NM_bitsOf prog_14_method_11_code 3 (some .long) 2 := ⟨w_2576, w_14, w_2573, w_2575, ws_88, ⟨by decide, by decide, by decide +kernel⟩⟩
theorem d_14_19_70 : decode prog_14_method_19_code 70 = .ok (.lstore 4, 2) := by decide +kernel
theorem d_14_19_72 : decode prog_14_method_19_code 72 = .ok (.aload_n 0, 1) := by decide +kernel
theorem d_14_19_73 : decode prog_14_method_19_code 73 = .ok (.iload_n 1, 1) := by decide +kernel
theorem d_14_19_74 : decode prog_14_method_19_code 74 = .ok (.iload_n 3, 1) := by decide +kernel
theorem d_14_19_75 : decode prog_14_method_19_code 75 = .ok (.invokevirtual 138, 3) := by decide +kernel
theorem d_14_19_78 : decode prog_14_method_19_code 78 = .ok (.lstore 6, 2) := by decide +kernel
theorem d_14_19_80 : decode prog_14_method_19_code 80 = .ok (.aload_n 0, 1) := by decide +kernel
theorem d_14_19_81 : decode prog_14_method_19_code 81 = .ok (.iload_n 1, 1) := by decide +kernel
theorem d_14_19_82 : decode prog_14_method_19_code 82 = .ok (.lload 4, 2) := by decide +kernel
theorem d_14_19_84 : decode prog_14_method_19_code 84 = .ok (.invokestatic 161, 3) := by decide +kernel
theorem w_2669 : (Cond.code ({ cls := "NumberHouseModel", name := "isNumber", desc := "(IJ)Z" } : MethodName) prog_14_method_14_code (3 : Nat) (some .boolean)) ∈ q_tbl := q_of 2669 (by decide +kernel) (by decide +kernel)
theorem w_2667 : (Cond.methodLink "NumberHouseModel" (161 : Nat) ({ cls := "NumberHouseModel", name := "isNumber", desc := "(IJ)Z" } : MethodName)) ∈ q_tbl := q_of 2667 (by decide +kernel) (by decide +kernel)
theorem w_2668 : (Cond.static ({ cls := "NumberHouseModel", name := "isNumber", desc := "(IJ)Z" } : MethodName)) ∈ q_tbl := q_of 2668 (by decide +kernel) (by decide +kernel)
theorem LS_NM_161 : q_LS "NumberHouseModel" 161 y_NM_isNumber prog_14_method_14_code 3 (some .boolean) 2 := ⟨w_2669, w_14, w_2667, w_2668, ⟨by decide, by decide, by decide +kernel⟩⟩
theorem d_14_19_87 : decode prog_14_method_19_code 87 = .ok (.ifCond .eq 12, 3) := by decide +kernel
theorem d_14_19_90 : decode prog_14_method_19_code 90 = .ok (.iload_n 1, 1) := by decide +kernel
theorem d_14_19_91 : decode prog_14_method_19_code 91 = .ok (.lload 6, 2) := by decide +kernel
theorem d_14_19_93 : decode prog_14_method_19_code 93 = .ok (.invokestatic 161, 3) := by decide +kernel
theorem d_14_19_96 : decode prog_14_method_19_code 96 = .ok (.ifCond .ne 7, 3) := by decide +kernel
theorem d_14_19_103 : decode prog_14_method_19_code 103 = .ok (.iconst 0, 1) := by decide +kernel
theorem d_14_19_104 : decode prog_14_method_19_code 104 = .ok (.putfield 58, 3) := by decide +kernel
theorem d_14_19_107 : decode prog_14_method_19_code 107 = .ok (.iload_n 1, 1) := by decide +kernel
theorem d_14_19_108 : decode prog_14_method_19_code 108 = .ok (.lload 4, 2) := by decide +kernel
theorem d_14_19_110 : decode prog_14_method_19_code 110 = .ok (.invokestatic 164, 3) := by decide +kernel
theorem w_2674 : (Cond.code ({ cls := "NumberHouseModel", name := "placeOf", desc := "(IJ)J" } : MethodName) prog_14_method_18_code (5 : Nat) (some .long)) ∈ q_tbl := q_of 2674 (by decide +kernel) (by decide +kernel)
theorem w_2672 : (Cond.methodLink "NumberHouseModel" (164 : Nat) ({ cls := "NumberHouseModel", name := "placeOf", desc := "(IJ)J" } : MethodName)) ∈ q_tbl := q_of 2672 (by decide +kernel) (by decide +kernel)
theorem w_2673 : (Cond.static ({ cls := "NumberHouseModel", name := "placeOf", desc := "(IJ)J" } : MethodName)) ∈ q_tbl := q_of 2673 (by decide +kernel) (by decide +kernel)
theorem LS_NM_164 : q_LS "NumberHouseModel" 164 y_NM_placeOf prog_14_method_18_code 5 (some .long) 2 := ⟨w_2674, w_14, w_2672, w_2673, ⟨by decide, by decide, by decide +kernel⟩⟩
theorem d_14_19_113 : decode prog_14_method_19_code 113 = .ok (.lstore 8, 2) := by decide +kernel
theorem d_14_19_115 : decode prog_14_method_19_code 115 = .ok (.iload_n 1, 1) := by decide +kernel
theorem d_14_19_116 : decode prog_14_method_19_code 116 = .ok (.lload 6, 2) := by decide +kernel
theorem d_14_19_118 : decode prog_14_method_19_code 118 = .ok (.invokestatic 164, 3) := by decide +kernel
theorem d_14_19_121 : decode prog_14_method_19_code 121 = .ok (.lstore 10, 2) := by decide +kernel
theorem d_14_19_123 : decode prog_14_method_19_code 123 = .ok (.aload_n 0, 1) := by decide +kernel
theorem d_14_19_124 : decode prog_14_method_19_code 124 = .ok (.getfield 58, 3) := by decide +kernel
theorem d_14_19_127 : decode prog_14_method_19_code 127 = .ok (.ifCond .le 7, 3) := by decide +kernel
theorem d_14_19_134 : decode prog_14_method_19_code 134 = .ok (.lload 8, 2) := by decide +kernel
theorem d_14_19_136 : decode prog_14_method_19_code 136 = .ok (.lload 10, 2) := by decide +kernel
theorem d_14_19_138 : decode prog_14_method_19_code 138 = .ok (.lcmp, 1) := by decide +kernel
theorem d_14_19_139 : decode prog_14_method_19_code 139 = .ok (.ifCond .ge 7, 3) := by decide +kernel
theorem d_14_19_146 : decode prog_14_method_19_code 146 = .ok (.lload 8, 2) := by decide +kernel
theorem d_14_19_148 : decode prog_14_method_19_code 148 = .ok (.lload 10, 2) := by decide +kernel
theorem d_14_19_150 : decode prog_14_method_19_code 150 = .ok (.lcmp, 1) := by decide +kernel
theorem d_14_19_151 : decode prog_14_method_19_code 151 = .ok (.ifCond .le 7, 3) := by decide +kernel
theorem d_14_19_158 : decode prog_14_method_19_code 158 = .ok (.iconst 0, 1) := by decide +kernel
theorem d_14_19_159 : decode prog_14_method_19_code 159 = .ok (.ireturn, 1) := by decide +kernel
theorem d_14_19_38 : decode prog_14_method_19_code 38 = .ok (.iload_n 1, 1) := by decide +kernel
theorem d_14_19_39 : decode prog_14_method_19_code 39 = .ok (.ifCond .ne 15, 3) := by decide +kernel
theorem d_14_19_54 : decode prog_14_method_19_code 54 = .ok (.aload_n 0, 1) := by decide +kernel
theorem d_14_19_55 : decode prog_14_method_19_code 55 = .ok (.getfield 26, 3) := by decide +kernel
theorem d_14_19_58 : decode prog_14_method_19_code 58 = .ok (.iload_n 2, 1) := by decide +kernel
theorem d_14_19_59 : decode prog_14_method_19_code 59 = .ok (.iload_n 3, 1) := by decide +kernel
theorem d_14_19_60 : decode prog_14_method_19_code 60 = .ok (.invokevirtual 160, 3) := by decide +kernel
theorem w_2662 : (Cond.code ({ cls := "NumberHouseModel$DecimalRows", name := "compare", desc := "(II)I" } : MethodName) prog_15_method_24_code (5 : Nat) (some .int)) ∈ q_tbl := q_of 2662 (by decide +kernel) (by decide +kernel)
theorem w_2659 : (Cond.methodLink "NumberHouseModel" (160 : Nat) ({ cls := "NumberHouseModel$DecimalRows", name := "compare", desc := "(II)I" } : MethodName)) ∈ q_tbl := q_of 2659 (by decide +kernel) (by decide +kernel)
theorem w_2660 : (Cond.instanceMethod ({ cls := "NumberHouseModel$DecimalRows", name := "compare", desc := "(II)I" } : MethodName)) ∈ q_tbl := q_of 2660 (by decide +kernel) (by decide +kernel)
theorem w_2661 : (Cond.selects "NumberHouseModel$DecimalRows" ({ cls := "NumberHouseModel$DecimalRows", name := "compare", desc := "(II)I" } : MethodName) ({ cls := "NumberHouseModel$DecimalRows", name := "compare", desc := "(II)I" } : MethodName)) ∈ q_tbl := q_of 2661 (by decide +kernel) (by decide +kernel)
theorem LV_NM_160 : q_LV "NumberHouseModel" 160 y_DR_compare prog_15_method_24_code 5 (some .int) 2 := ⟨w_2662, w_16, w_2659, w_2660, w_2661, ⟨by decide, by decide, by decide +kernel⟩⟩
theorem d_14_19_63 : decode prog_14_method_19_code 63 = .ok (.ireturn, 1) := by decide +kernel
theorem d_14_19_42 : decode prog_14_method_19_code 42 = .ok (.aload_n 0, 1) := by decide +kernel
theorem d_14_19_43 : decode prog_14_method_19_code 43 = .ok (.getfield 19, 3) := by decide +kernel
theorem d_14_19_46 : decode prog_14_method_19_code 46 = .ok (.iload_n 2, 1) := by decide +kernel
theorem d_14_19_47 : decode prog_14_method_19_code 47 = .ok (.iload_n 3, 1) := by decide +kernel
theorem d_14_19_48 : decode prog_14_method_19_code 48 = .ok (.invokevirtual 157, 3) := by decide +kernel
theorem w_2651 : (Cond.code ({ cls := "NumberHouseModel$WholeRows", name := "compare", desc := "(II)I" } : MethodName) prog_19_method_40_code (4 : Nat) (some .int)) ∈ q_tbl := q_of 2651 (by decide +kernel) (by decide +kernel)
theorem w_2648 : (Cond.methodLink "NumberHouseModel" (157 : Nat) ({ cls := "NumberHouseModel$WholeRows", name := "compare", desc := "(II)I" } : MethodName)) ∈ q_tbl := q_of 2648 (by decide +kernel) (by decide +kernel)
theorem w_2649 : (Cond.instanceMethod ({ cls := "NumberHouseModel$WholeRows", name := "compare", desc := "(II)I" } : MethodName)) ∈ q_tbl := q_of 2649 (by decide +kernel) (by decide +kernel)
theorem w_2650 : (Cond.selects "NumberHouseModel$WholeRows" ({ cls := "NumberHouseModel$WholeRows", name := "compare", desc := "(II)I" } : MethodName) ({ cls := "NumberHouseModel$WholeRows", name := "compare", desc := "(II)I" } : MethodName)) ∈ q_tbl := q_of 2650 (by decide +kernel) (by decide +kernel)
theorem LV_NM_157 : q_LV "NumberHouseModel" 157 y_WR_compare prog_19_method_40_code 4 (some .int) 2 := ⟨w_2651, w_15, w_2648, w_2649, w_2650, ⟨by decide, by decide, by decide +kernel⟩⟩
theorem d_14_19_51 : decode prog_14_method_19_code 51 = .ok (.goto 12, 3) := by decide +kernel
def y_NM_compare : MethodName := ⟨"NumberHouseModel", "compare", "(III)I"⟩
set_option maxRecDepth 100000 in
set_option maxHeartbeats 4000000 in
/-- compare on a fresh object -/
theorem c_NM_compare (l : Launch) (D : va_G) (g : Nat → ClassId) (ws : va_W) ( qO0 qA1 qA2 qO3 qO4 qO5 qO6 qO7 qA8 qA9 qA10 qA11 qA12 qA13 qA14 qA15 qA16 qA17 qA18 qA19 qA20 qA21 qA22 qA23 qA24 qA25 qA26 qA27 qA28 qA29 qA30 qA31 qA32 qA33 : Nat) (x1 : Int32) (x2 : Int32) (x3 : Int32) (hO0 : ws[116]? = (some (qO0, .inr (12, [.int 0, .ref qA1, .int 0, .ref qA2, .int 0, .ref qO3, .ref qO4, .ref qO5, .ref qO6, .ref qO7, .ref qA8, .ref qA9])) : Option (Nat × va_E))) (hO3 : ws[119]? = (some (qO3, .inr (13, [.int 0, .int 0, .ref qA10, .int 0, .ref qA11, .ref qA12, .ref qA13, .int 0, .ref qA14, .ref qA15, .ref qA16, .ref qA17, .ref qA18, .ref qA19, .ref qA20, .ref qA21, .int 0, .int 0, .ref qA22, .ref qA23, .int 0])) : Option (Nat × va_E))) (hO4 : ws[134]? = (some (qO4, .inr (14, [.int 0, .ref qA24, .int 0, .ref qA25, .ref qA26, .ref qA27, .ref qA28, .ref qA29, .int 0, .long 0, .int 0, .int 0, .ref qA30, .int 0, .ref qA31, .int 0, .ref qA32, .int 0, .ref qA33, .int 0, .int 0])) : Option (Nat × va_E))) (hA8 : ws[167]? = (some (qA8, .inl (g 1, 20, .inr (.inl (fun _ => 0)))) : Option (Nat × va_E))) (hA11 : ws[121]? = (some (qA11, .inl (g 0, 1408, .inl (fun _ => 0))) : Option (Nat × va_E))) (hA12 : ws[122]? = (some (qA12, .inl (g 3, 11, .inl (fun _ => 0))) : Option (Nat × va_E))) (hA18 : ws[128]? = (some (qA18, .inl (g 0, 264, .inl (fun _ => 0))) : Option (Nat × va_E))) (hA19 : ws[129]? = (some (qA19, .inl (g 0, 264, .inl (fun _ => 0))) : Option (Nat × va_E))) (hA25 : ws[136]? = (some (qA25, .inl (g 0, 10000, .inl (fun _ => 0))) : Option (Nat × va_E))) : q_mI l y_NM_compare prog_14_method_19_code 12 (.int) 3 0 0 D g [.ref qO0, .int x1, .int x2, .int x3] ws (fun r u => ∃ (t0 z2 z4 : Int32), u[116]? = (some (qO0, .inr (12, [.int t0, .ref qA1, .int z2, .ref qA2, .int z4, .ref qO3, .ref qO4, .ref qO5, .ref qO6, .ref qO7, .ref qA8, .ref qA9])) : Option (Nat × va_E)) ∧ ((t0.toInt = 0 ∧ ((0 ≤ x1.toInt ∧ x1.toInt ≤ 3) ∧ (0 ≤ x2.toInt ∧ x2.toInt ≤ 9) ∧ (0 ≤ x3.toInt ∧ x3.toInt ≤ 9)) ∧ r.toInt = 0) ∨ (t0.toInt = 1 ∧ ¬ ((0 ≤ x1.toInt ∧ x1.toInt ≤ 3) ∧ (0 ≤ x2.toInt ∧ x2.toInt ≤ 9) ∧ (0 ≤ x3.toInt ∧ x3.toInt ≤ 9)))) ∧ q_ge 169 ws u) := by
  intro sz
  refine q_into (by decide) (Nat.le_of_ble_eq_true rfl) ?_
  intro p e s m below meth c ls hsz C0 V hl
  have hx := C0.1
  have hb := C0.2.1
  have hl : lv_has ls 12 [(0, .ref qO0), (1, .int x1), (2, .int x2), (3, .int x3)] := hl
  have hF : q_ge 169 ws ws := q_g0
  refine lv_aload_n hx hb d_14_19_0 rfl (lv_at hl 0 rfl) ?_
  refine lv_iload_n hx hb d_14_19_1 rfl (lv_at hl 1 rfl) ?_
  refine lv_iload_n hx hb d_14_19_2 rfl (lv_at hl 2 rfl) ?_
  refine q_goi V (q_runS (As := [.int x1, .int x2]) (rest := [.ref qO0]) (d := 2) (mc := 0) (ms := 0) C0 V rfl LS_NM_84 (c_NM_no_IIZ l D g ws x1 x2 _) rfl hl.1 rfl (Nat.le_of_ble_eq_true rfl) ⟨by decide, by decide⟩ ⟨Nat.le_of_ble_eq_true rfl, Nat.le_of_ble_eq_true rfl⟩ d_14_19_3) (fun v3 u2 H locs hp1 V => ?_)
  rcases hp1 with ⟨c4, rfl, rfl⟩ | ⟨c6, c7, rfl, rfl⟩ | ⟨c9, c10, c11, rfl, rfl⟩ | ⟨c13, c14, c15, c16, rfl, rfl⟩ | ⟨c18, c19, c20, c21, rfl, rfl⟩
  ·
    refine lv_if_ne (tgt := 16) hx hb d_14_19_6 (by decide) (fun c23 => ?_) (fun c23 => absurd c23 (by decide))
    refine lv_iconst (v := 1) hx hb d_14_19_16 (by decide) ?_
    refine lv_goto (tgt := 21) hx hb d_14_19_17 (by decide) ?_
    refine q_put (ci := 12) (j := 0) (v := .int 1) (ty := .int) C0 V i_NM o_NM n_NM rfl rfl hO0 (by decide) w_2298 rfl rfl rfl rfl (Nat.le_of_ble_eq_true rfl) d_14_19_21 (fun H locs w24 hu25 hO0 V => ?_)
    replace hO0 : w24[116]? = (some (qO0, .inr (12, [.int 1, .ref qA1, .int 0, .ref qA2, .int 0, .ref qO3, .ref qO4, .ref qO5, .ref qO6, .ref qO7, .ref qA8, .ref qA9])) : Option (Nat × va_E)) := hO0
    replace hF := q_gs hF hu25 (Nat.le_of_ble_eq_true rfl)
    refine lv_aload_n hx hb d_14_19_24 rfl (lv_at hl 0 rfl) ?_
    refine q_get (ci := 12) (j := 0) (v := .int 1) C0 V i_NM rfl rfl hO0 (by decide) w_2298 rfl d_14_19_25 ?_
    refine lv_if_le (tgt := 33) hx hb d_14_19_28 (by decide) (fun c26 => absurd c26 (by decide)) (fun c26 => ?_)
    refine lv_iconst (v := 0) hx hb d_14_19_31 (by decide) ?_
    exact q_reti C0 V (⟨1, 0, 0, hO0, (show ((1 : Int32).toInt = 0 ∧ ((0 ≤ x1.toInt ∧ x1.toInt ≤ 3) ∧ (0 ≤ x2.toInt ∧ x2.toInt ≤ 9) ∧ (0 ≤ x3.toInt ∧ x3.toInt ≤ 9)) ∧ (0 : Int32).toInt = 0) ∨ ((1 : Int32).toInt = 1 ∧ ¬ ((0 ≤ x1.toInt ∧ x1.toInt ≤ 3) ∧ (0 ≤ x2.toInt ∧ x2.toInt ≤ 9) ∧ (0 ≤ x3.toInt ∧ x3.toInt ≤ 9))) from by have t1 : x1.toInt < 0 := q_ltI c4; have e0 : (1 : Int32).toInt = 1 := (by decide); have e1 : (0 : Int32).toInt = 0 := (by decide); omega), hF⟩) d_14_19_32
  ·
    refine lv_if_ne (tgt := 16) hx hb d_14_19_6 (by decide) (fun c27 => ?_) (fun c27 => absurd c27 (by decide))
    refine lv_iconst (v := 1) hx hb d_14_19_16 (by decide) ?_
    refine lv_goto (tgt := 21) hx hb d_14_19_17 (by decide) ?_
    refine q_put (ci := 12) (j := 0) (v := .int 1) (ty := .int) C0 V i_NM o_NM n_NM rfl rfl hO0 (by decide) w_2298 rfl rfl rfl rfl (Nat.le_of_ble_eq_true rfl) d_14_19_21 (fun H locs w28 hu29 hO0 V => ?_)
    replace hO0 : w28[116]? = (some (qO0, .inr (12, [.int 1, .ref qA1, .int 0, .ref qA2, .int 0, .ref qO3, .ref qO4, .ref qO5, .ref qO6, .ref qO7, .ref qA8, .ref qA9])) : Option (Nat × va_E)) := hO0
    replace hF := q_gs hF hu29 (Nat.le_of_ble_eq_true rfl)
    refine lv_aload_n hx hb d_14_19_24 rfl (lv_at hl 0 rfl) ?_
    refine q_get (ci := 12) (j := 0) (v := .int 1) C0 V i_NM rfl rfl hO0 (by decide) w_2298 rfl d_14_19_25 ?_
    refine lv_if_le (tgt := 33) hx hb d_14_19_28 (by decide) (fun c30 => absurd c30 (by decide)) (fun c30 => ?_)
    refine lv_iconst (v := 0) hx hb d_14_19_31 (by decide) ?_
    exact q_reti C0 V (⟨1, 0, 0, hO0, (show ((1 : Int32).toInt = 0 ∧ ((0 ≤ x1.toInt ∧ x1.toInt ≤ 3) ∧ (0 ≤ x2.toInt ∧ x2.toInt ≤ 9) ∧ (0 ≤ x3.toInt ∧ x3.toInt ≤ 9)) ∧ (0 : Int32).toInt = 0) ∨ ((1 : Int32).toInt = 1 ∧ ¬ ((0 ≤ x1.toInt ∧ x1.toInt ≤ 3) ∧ (0 ≤ x2.toInt ∧ x2.toInt ≤ 9) ∧ (0 ≤ x3.toInt ∧ x3.toInt ≤ 9))) from by have t1 : 0 ≤ x1.toInt := q_nltI c6; have t2 : 3 < x1.toInt := q_ltI c7; have e0 : (1 : Int32).toInt = 1 := (by decide); have e1 : (0 : Int32).toInt = 0 := (by decide); omega), hF⟩) d_14_19_32
  ·
    refine lv_if_ne (tgt := 16) hx hb d_14_19_6 (by decide) (fun c31 => ?_) (fun c31 => absurd c31 (by decide))
    refine lv_iconst (v := 1) hx hb d_14_19_16 (by decide) ?_
    refine lv_goto (tgt := 21) hx hb d_14_19_17 (by decide) ?_
    refine q_put (ci := 12) (j := 0) (v := .int 1) (ty := .int) C0 V i_NM o_NM n_NM rfl rfl hO0 (by decide) w_2298 rfl rfl rfl rfl (Nat.le_of_ble_eq_true rfl) d_14_19_21 (fun H locs w32 hu33 hO0 V => ?_)
    replace hO0 : w32[116]? = (some (qO0, .inr (12, [.int 1, .ref qA1, .int 0, .ref qA2, .int 0, .ref qO3, .ref qO4, .ref qO5, .ref qO6, .ref qO7, .ref qA8, .ref qA9])) : Option (Nat × va_E)) := hO0
    replace hF := q_gs hF hu33 (Nat.le_of_ble_eq_true rfl)
    refine lv_aload_n hx hb d_14_19_24 rfl (lv_at hl 0 rfl) ?_
    refine q_get (ci := 12) (j := 0) (v := .int 1) C0 V i_NM rfl rfl hO0 (by decide) w_2298 rfl d_14_19_25 ?_
    refine lv_if_le (tgt := 33) hx hb d_14_19_28 (by decide) (fun c34 => absurd c34 (by decide)) (fun c34 => ?_)
    refine lv_iconst (v := 0) hx hb d_14_19_31 (by decide) ?_
    exact q_reti C0 V (⟨1, 0, 0, hO0, (show ((1 : Int32).toInt = 0 ∧ ((0 ≤ x1.toInt ∧ x1.toInt ≤ 3) ∧ (0 ≤ x2.toInt ∧ x2.toInt ≤ 9) ∧ (0 ≤ x3.toInt ∧ x3.toInt ≤ 9)) ∧ (0 : Int32).toInt = 0) ∨ ((1 : Int32).toInt = 1 ∧ ¬ ((0 ≤ x1.toInt ∧ x1.toInt ≤ 3) ∧ (0 ≤ x2.toInt ∧ x2.toInt ≤ 9) ∧ (0 ≤ x3.toInt ∧ x3.toInt ≤ 9))) from by have t1 : 0 ≤ x1.toInt := q_nltI c9; have t2 : x1.toInt ≤ 3 := q_nltI c10; have t3 : x2.toInt < 0 := q_ltI c11; have e0 : (1 : Int32).toInt = 1 := (by decide); have e1 : (0 : Int32).toInt = 0 := (by decide); omega), hF⟩) d_14_19_32
  ·
    refine lv_if_ne (tgt := 16) hx hb d_14_19_6 (by decide) (fun c35 => absurd (by decide) c35) (fun c35 => ?_)
    refine lv_iload_n hx hb d_14_19_9 rfl (lv_at hl 3 rfl) ?_
    refine q_goi V (q_runS (As := [.int x3]) (rest := [.ref qO0]) (d := 1) (mc := 0) (ms := 0) C0 V rfl LS_NM_70 (c_NM_no_IZ l D g ws x3 _) rfl hl.1 rfl (Nat.le_of_ble_eq_true rfl) ⟨by decide, by decide⟩ ⟨Nat.le_of_ble_eq_true rfl, Nat.le_of_ble_eq_true rfl⟩ d_14_19_10) (fun v38 u37 H locs hp36 V => ?_)
    rcases hp36 with ⟨c39, rfl, rfl⟩ | ⟨c41, c42, rfl, rfl⟩ | ⟨c44, c45, rfl, rfl⟩
    ·
      refine lv_if_eq (tgt := 20) hx hb d_14_19_13 (by decide) (fun c47 => absurd c47 (by decide)) (fun c47 => ?_)
      refine lv_iconst (v := 1) hx hb d_14_19_16 (by decide) ?_
      refine lv_goto (tgt := 21) hx hb d_14_19_17 (by decide) ?_
      refine q_put (ci := 12) (j := 0) (v := .int 1) (ty := .int) C0 V i_NM o_NM n_NM rfl rfl hO0 (by decide) w_2298 rfl rfl rfl rfl (Nat.le_of_ble_eq_true rfl) d_14_19_21 (fun H locs w48 hu49 hO0 V => ?_)
      replace hO0 : w48[116]? = (some (qO0, .inr (12, [.int 1, .ref qA1, .int 0, .ref qA2, .int 0, .ref qO3, .ref qO4, .ref qO5, .ref qO6, .ref qO7, .ref qA8, .ref qA9])) : Option (Nat × va_E)) := hO0
      replace hF := q_gs hF hu49 (Nat.le_of_ble_eq_true rfl)
      refine lv_aload_n hx hb d_14_19_24 rfl (lv_at hl 0 rfl) ?_
      refine q_get (ci := 12) (j := 0) (v := .int 1) C0 V i_NM rfl rfl hO0 (by decide) w_2298 rfl d_14_19_25 ?_
      refine lv_if_le (tgt := 33) hx hb d_14_19_28 (by decide) (fun c50 => absurd c50 (by decide)) (fun c50 => ?_)
      refine lv_iconst (v := 0) hx hb d_14_19_31 (by decide) ?_
      exact q_reti C0 V (⟨1, 0, 0, hO0, (show ((1 : Int32).toInt = 0 ∧ ((0 ≤ x1.toInt ∧ x1.toInt ≤ 3) ∧ (0 ≤ x2.toInt ∧ x2.toInt ≤ 9) ∧ (0 ≤ x3.toInt ∧ x3.toInt ≤ 9)) ∧ (0 : Int32).toInt = 0) ∨ ((1 : Int32).toInt = 1 ∧ ¬ ((0 ≤ x1.toInt ∧ x1.toInt ≤ 3) ∧ (0 ≤ x2.toInt ∧ x2.toInt ≤ 9) ∧ (0 ≤ x3.toInt ∧ x3.toInt ≤ 9))) from by have t1 : 0 ≤ x1.toInt := q_nltI c13; have t2 : x1.toInt ≤ 3 := q_nltI c14; have t3 : 0 ≤ x2.toInt := q_nltI c15; have t4 : x2.toInt ≤ 9 := q_leI c16; have t5 : x3.toInt < 0 := q_ltI c39; have e0 : (1 : Int32).toInt = 1 := (by decide); have e1 : (0 : Int32).toInt = 0 := (by decide); omega), hF⟩) d_14_19_32
    ·
      refine lv_if_eq (tgt := 20) hx hb d_14_19_13 (by decide) (fun c51 => ?_) (fun c51 => absurd (by decide) c51)
      refine lv_iconst (v := 0) hx hb d_14_19_20 (by decide) ?_
      refine q_put (ci := 12) (j := 0) (v := .int 0) (ty := .int) C0 V i_NM o_NM n_NM rfl rfl hO0 (by decide) w_2298 rfl rfl rfl rfl (Nat.le_of_ble_eq_true rfl) d_14_19_21 (fun H locs w52 hu53 hO0 V => ?_)
      replace hO0 : w52[116]? = (some (qO0, .inr (12, [.int 0, .ref qA1, .int 0, .ref qA2, .int 0, .ref qO3, .ref qO4, .ref qO5, .ref qO6, .ref qO7, .ref qA8, .ref qA9])) : Option (Nat × va_E)) := hO0
      replace hF := q_gs hF hu53 (Nat.le_of_ble_eq_true rfl)
      refine lv_aload_n hx hb d_14_19_24 rfl (lv_at hl 0 rfl) ?_
      refine q_get (ci := 12) (j := 0) (v := .int 0) C0 V i_NM rfl rfl hO0 (by decide) w_2298 rfl d_14_19_25 ?_
      refine lv_if_le (tgt := 33) hx hb d_14_19_28 (by decide) (fun c54 => ?_) (fun c54 => absurd (by decide) c54)
      refine lv_iload_n hx hb d_14_19_33 rfl (lv_at hl 1 rfl) ?_
      refine lv_iconst (v := 2) hx hb d_14_19_34 (by decide) ?_
      refine lv_icmp_ge (tgt := 64) hx hb d_14_19_35 (by decide) (fun c55 => ?_) (fun c55 => ?_)
      ·
        refine lv_aload_n hx hb d_14_19_64 rfl (lv_at hl 0 rfl) ?_
        refine lv_iload_n hx hb d_14_19_65 rfl (lv_at hl 1 rfl) ?_
        refine lv_iload_n hx hb d_14_19_66 rfl (lv_at hl 2 rfl) ?_
        replace hA8 := (hu53 _ (q_pd 167 116 rfl)).trans (hA8)
        refine q_gol V (q_runV (As := [.int x1, .int x2]) (rest := []) (d := 1) (mc := 0) (ms := 0) (ci := 12) C0 V rfl LV_NM_138 (c_NM_bitsOf l D g w52 qO0 qA1 qA2 qO3 qO4 qO5 qO6 qO7 qA8 qA9 x1 x2 hO0 hA8 c55 (q_Ile (x := x1.toInt) (y := 3) rfl (by decide) (by have t1 : 0 ≤ x1.toInt := q_nltI c13; have t2 : x1.toInt ≤ 3 := q_nltI c14; have t3 : 2 ≤ x1.toInt := q_leI c55; omega)) (q_Ile (x := 0) (y := x2.toInt) (by decide) rfl (by have t1 : 0 ≤ x2.toInt := q_nltI c15; have t2 : x2.toInt ≤ 9 := q_leI c16; omega)) c16 _) rfl rfl hO0 rfl hl.1 rfl (Nat.le_of_ble_eq_true rfl) ⟨by decide, by decide⟩ ⟨Nat.le_of_ble_eq_true rfl, Nat.le_of_ble_eq_true rfl⟩ d_14_19_67) (fun v58 u57 H locs hp56 V => ?_)
        obtain ⟨rfl, rfl⟩ := hp56
        refine lv_lstore (lv' := [(4, .long 0), (0, .ref qO0), (1, .int x1), (2, .int x2), (3, .int x3)]) hx hb d_14_19_70 hl (by decide) rfl (fun ls hl => ?_)
        refine lv_aload_n hx hb d_14_19_72 rfl (lv_at hl 1 rfl) ?_
        refine lv_iload_n hx hb d_14_19_73 rfl (lv_at hl 2 rfl) ?_
        refine lv_iload_n hx hb d_14_19_74 rfl (lv_at hl 4 rfl) ?_
        refine q_gol V (q_runV (As := [.int x1, .int x3]) (rest := []) (d := 1) (mc := 0) (ms := 0) (ci := 12) C0 V rfl LV_NM_138 (c_NM_bitsOf l D g w52 qO0 qA1 qA2 qO3 qO4 qO5 qO6 qO7 qA8 qA9 x1 x3 hO0 hA8 c55 (q_Ile (x := x1.toInt) (y := 3) rfl (by decide) (by have t1 : 0 ≤ x1.toInt := q_nltI c13; have t2 : x1.toInt ≤ 3 := q_nltI c14; have t3 : 2 ≤ x1.toInt := q_leI c55; omega)) (q_Ile (x := 0) (y := x3.toInt) (by decide) rfl (by have t1 : 0 ≤ x3.toInt := q_nltI c41; have t2 : x3.toInt ≤ 9 := q_leI c42; omega)) c42 _) rfl rfl hO0 rfl hl.1 rfl (Nat.le_of_ble_eq_true rfl) ⟨by decide, by decide⟩ ⟨Nat.le_of_ble_eq_true rfl, Nat.le_of_ble_eq_true rfl⟩ d_14_19_75) (fun v62 u61 H locs hp60 V => ?_)
        obtain ⟨rfl, rfl⟩ := hp60
        refine lv_lstore (lv' := [(6, .long 0), (4, .long 0), (0, .ref qO0), (1, .int x1), (2, .int x2), (3, .int x3)]) hx hb d_14_19_78 hl (by decide) rfl (fun ls hl => ?_)
        refine lv_aload_n hx hb d_14_19_80 rfl (lv_at hl 2 rfl) ?_
        refine lv_iload_n hx hb d_14_19_81 rfl (lv_at hl 3 rfl) ?_
        refine lv_lload hx hb d_14_19_82 (lv_at hl 1 rfl) ?_
        refine q_goi V (q_runS (As := [.int x1, .long 0]) (rest := [.ref qO0]) (d := 2) (mc := 0) (ms := 0) C0 V rfl LS_NM_161 (c_NM_isNumber l D g w52 x1 c55 (q_Ile (x := x1.toInt) (y := 3) rfl (by decide) (by have t1 : 0 ≤ x1.toInt := q_nltI c13; have t2 : x1.toInt ≤ 3 := q_nltI c14; have t3 : 2 ≤ x1.toInt := q_leI c55; omega)) _) rfl hl.1 rfl (Nat.le_of_ble_eq_true rfl) ⟨by decide, by decide⟩ ⟨Nat.le_of_ble_eq_true rfl, Nat.le_of_ble_eq_true rfl⟩ d_14_19_84) (fun v66 u65 H locs hp64 V => ?_)
        obtain ⟨rfl, rfl⟩ := hp64
        refine lv_if_eq (tgt := 99) hx hb d_14_19_87 (by decide) (fun c68 => absurd c68 (by decide)) (fun c68 => ?_)
        refine lv_iload_n hx hb d_14_19_90 rfl (lv_at hl 3 rfl) ?_
        refine lv_lload hx hb d_14_19_91 (lv_at hl 0 rfl) ?_
        refine q_goi V (q_runS (As := [.int x1, .long 0]) (rest := [.ref qO0]) (d := 2) (mc := 0) (ms := 0) C0 V rfl LS_NM_161 (c_NM_isNumber l D g w52 x1 c55 (q_Ile (x := x1.toInt) (y := 3) rfl (by decide) (by have t1 : 0 ≤ x1.toInt := q_nltI c13; have t2 : x1.toInt ≤ 3 := q_nltI c14; have t3 : 2 ≤ x1.toInt := q_leI c55; omega)) _) rfl hl.1 rfl (Nat.le_of_ble_eq_true rfl) ⟨by decide, by decide⟩ ⟨Nat.le_of_ble_eq_true rfl, Nat.le_of_ble_eq_true rfl⟩ d_14_19_93) (fun v71 u70 H locs hp69 V => ?_)
        obtain ⟨rfl, rfl⟩ := hp69
        refine lv_if_ne (tgt := 103) hx hb d_14_19_96 (by decide) (fun c73 => ?_) (fun c73 => absurd c73 (by decide))
        refine lv_iconst (v := 0) hx hb d_14_19_103 (by decide) ?_
        refine q_put (ci := 12) (j := 0) (v := .int 0) (ty := .int) C0 V i_NM o_NM n_NM rfl rfl hO0 (by decide) w_2298 rfl rfl rfl rfl (Nat.le_of_ble_eq_true rfl) d_14_19_104 (fun H locs w74 hu75 hO0 V => ?_)
        replace hO0 : w74[116]? = (some (qO0, .inr (12, [.int 0, .ref qA1, .int 0, .ref qA2, .int 0, .ref qO3, .ref qO4, .ref qO5, .ref qO6, .ref qO7, .ref qA8, .ref qA9])) : Option (Nat × va_E)) := hO0
        replace hF := q_gs hF hu75 (Nat.le_of_ble_eq_true rfl)
        refine lv_iload_n hx hb d_14_19_107 rfl (lv_at hl 3 rfl) ?_
        refine lv_lload hx hb d_14_19_108 (lv_at hl 1 rfl) ?_
        refine q_gol V (q_runS (As := [.int x1, .long 0]) (rest := []) (d := 1) (mc := 0) (ms := 0) C0 V rfl LS_NM_164 (c_NM_placeOf l D g w74 x1 c55 (q_Ile (x := x1.toInt) (y := 3) rfl (by decide) (by have t1 : 0 ≤ x1.toInt := q_nltI c13; have t2 : x1.toInt ≤ 3 := q_nltI c14; have t3 : 2 ≤ x1.toInt := q_leI c55; omega)) _) rfl hl.1 rfl (Nat.le_of_ble_eq_true rfl) ⟨by decide, by decide⟩ ⟨Nat.le_of_ble_eq_true rfl, Nat.le_of_ble_eq_true rfl⟩ d_14_19_110) (fun v78 u77 H locs hp76 V => ?_)
        obtain ⟨rfl, rfl⟩ := hp76
        refine lv_lstore (lv' := [(8, .long 0), (6, .long 0), (4, .long 0), (0, .ref qO0), (1, .int x1), (2, .int x2), (3, .int x3)]) hx hb d_14_19_113 hl (by decide) rfl (fun ls hl => ?_)
        refine lv_iload_n hx hb d_14_19_115 rfl (lv_at hl 4 rfl) ?_
        refine lv_lload hx hb d_14_19_116 (lv_at hl 1 rfl) ?_
        refine q_gol V (q_runS (As := [.int x1, .long 0]) (rest := []) (d := 1) (mc := 0) (ms := 0) C0 V rfl LS_NM_164 (c_NM_placeOf l D g w74 x1 c55 (q_Ile (x := x1.toInt) (y := 3) rfl (by decide) (by have t1 : 0 ≤ x1.toInt := q_nltI c13; have t2 : x1.toInt ≤ 3 := q_nltI c14; have t3 : 2 ≤ x1.toInt := q_leI c55; omega)) _) rfl hl.1 rfl (Nat.le_of_ble_eq_true rfl) ⟨by decide, by decide⟩ ⟨Nat.le_of_ble_eq_true rfl, Nat.le_of_ble_eq_true rfl⟩ d_14_19_118) (fun v82 u81 H locs hp80 V => ?_)
        obtain ⟨rfl, rfl⟩ := hp80
        refine lv_lstore (lv' := [(10, .long 0), (8, .long 0), (6, .long 0), (4, .long 0), (0, .ref qO0), (1, .int x1), (2, .int x2), (3, .int x3)]) hx hb d_14_19_121 hl (by decide) rfl (fun ls hl => ?_)
        refine lv_aload_n hx hb d_14_19_123 rfl (lv_at hl 4 rfl) ?_
        refine q_get (ci := 12) (j := 0) (v := .int 0) C0 V i_NM rfl rfl hO0 (by decide) w_2298 rfl d_14_19_124 ?_
        refine lv_if_le (tgt := 134) hx hb d_14_19_127 (by decide) (fun c84 => ?_) (fun c84 => absurd (by decide) c84)
        refine lv_lload hx hb d_14_19_134 (lv_at hl 1 rfl) ?_
        refine lv_lload hx hb d_14_19_136 (lv_at hl 0 rfl) ?_
        refine W.lcmp hx hb d_14_19_138 ?_
        refine q_ti (v := 0) (by decide) ?_
        refine lv_if_ge (tgt := 146) hx hb d_14_19_139 (by decide) (fun c85 => ?_) (fun c85 => absurd (by decide) c85)
        refine lv_lload hx hb d_14_19_146 (lv_at hl 1 rfl) ?_
        refine lv_lload hx hb d_14_19_148 (lv_at hl 0 rfl) ?_
        refine W.lcmp hx hb d_14_19_150 ?_
        refine q_ti (v := 0) (by decide) ?_
        refine lv_if_le (tgt := 158) hx hb d_14_19_151 (by decide) (fun c86 => ?_) (fun c86 => absurd (by decide) c86)
        refine lv_iconst (v := 0) hx hb d_14_19_158 (by decide) ?_
        exact q_reti C0 V (⟨0, 0, 0, hO0, (show ((0 : Int32).toInt = 0 ∧ ((0 ≤ x1.toInt ∧ x1.toInt ≤ 3) ∧ (0 ≤ x2.toInt ∧ x2.toInt ≤ 9) ∧ (0 ≤ x3.toInt ∧ x3.toInt ≤ 9)) ∧ (0 : Int32).toInt = 0) ∨ ((0 : Int32).toInt = 1 ∧ ¬ ((0 ≤ x1.toInt ∧ x1.toInt ≤ 3) ∧ (0 ≤ x2.toInt ∧ x2.toInt ≤ 9) ∧ (0 ≤ x3.toInt ∧ x3.toInt ≤ 9))) from by have t1 : 0 ≤ x1.toInt := q_nltI c13; have t2 : x1.toInt ≤ 3 := q_nltI c14; have t3 : 0 ≤ x2.toInt := q_nltI c15; have t4 : x2.toInt ≤ 9 := q_leI c16; have t5 : 0 ≤ x3.toInt := q_nltI c41; have t6 : x3.toInt ≤ 9 := q_leI c42; have t7 : 2 ≤ x1.toInt := q_leI c55; have e0 : (0 : Int32).toInt = 0 := (by decide); have e1 : (0 : Int32).toInt = 0 := (by decide); omega), hF⟩) d_14_19_159
      ·
        refine lv_iload_n hx hb d_14_19_38 rfl (lv_at hl 1 rfl) ?_
        refine lv_if_ne (tgt := 54) hx hb d_14_19_39 (by decide) (fun c87 => ?_) (fun c87 => ?_)
        ·
          refine lv_aload_n hx hb d_14_19_54 rfl (lv_at hl 0 rfl) ?_
          refine q_get (ci := 12) (j := 6) (v := .ref qO4) C0 V i_NM rfl rfl hO0 (by decide) w_2304 rfl d_14_19_55 ?_
          refine lv_iload_n hx hb d_14_19_58 rfl (lv_at hl 2 rfl) ?_
          refine lv_iload_n hx hb d_14_19_59 rfl (lv_at hl 3 rfl) ?_
          replace hO4 := (hu53 _ (q_pd 134 116 rfl)).trans (hO4)
          replace hA25 := (hu53 _ (q_pd 136 116 rfl)).trans (hA25)
          refine q_goi V (q_runV (As := [.int x2, .int x3]) (rest := []) (d := 2) (mc := 0) (ms := 0) (ci := 14) C0 V rfl LV_NM_160 (c_DR_compare l D g w52 134 136 qO4 qA24 qA25 qA26 qA27 qA28 qA29 qA30 qA31 qA32 qA33 x2 x3 hO4 hA25 (q_Ile (x := 0) (y := x2.toInt) (by decide) rfl (by have t1 : 0 ≤ x2.toInt := q_nltI c15; have t2 : x2.toInt ≤ 9 := q_leI c16; omega)) c16 (q_Ile (x := 0) (y := x3.toInt) (by decide) rfl (by have t1 : 0 ≤ x3.toInt := q_nltI c41; have t2 : x3.toInt ≤ 9 := q_leI c42; omega)) c42 _) rfl rfl hO4 rfl hl.1 rfl (Nat.le_of_ble_eq_true rfl) ⟨by decide, by decide⟩ ⟨Nat.le_of_ble_eq_true rfl, Nat.le_of_ble_eq_true rfl⟩ d_14_19_60) (fun v90 u89 H locs hp88 V => ?_)
          obtain ⟨rfl, hg91, hO4⟩ := hp88
          replace hF := q_gc hF hg91 (q_al (Nat.le_of_ble_eq_true rfl) (fun _ h => absurd h List.not_mem_nil))
          replace hO0 := (hg91 _ (q_nc (q_pd 116 134 rfl) List.not_mem_nil)).trans (hO0)
          exact q_reti C0 V (⟨0, 0, 0, hO0, (show ((0 : Int32).toInt = 0 ∧ ((0 ≤ x1.toInt ∧ x1.toInt ≤ 3) ∧ (0 ≤ x2.toInt ∧ x2.toInt ≤ 9) ∧ (0 ≤ x3.toInt ∧ x3.toInt ≤ 9)) ∧ (0 : Int32).toInt = 0) ∨ ((0 : Int32).toInt = 1 ∧ ¬ ((0 ≤ x1.toInt ∧ x1.toInt ≤ 3) ∧ (0 ≤ x2.toInt ∧ x2.toInt ≤ 9) ∧ (0 ≤ x3.toInt ∧ x3.toInt ≤ 9))) from by have t1 : 0 ≤ x1.toInt := q_nltI c13; have t2 : x1.toInt ≤ 3 := q_nltI c14; have t3 : 0 ≤ x2.toInt := q_nltI c15; have t4 : x2.toInt ≤ 9 := q_leI c16; have t5 : 0 ≤ x3.toInt := q_nltI c41; have t6 : x3.toInt ≤ 9 := q_leI c42; have t7 : x1.toInt < 2 := q_nleI c55; have t8 : x1.toInt ≠ 0 := q_neI c87; have e0 : (0 : Int32).toInt = 0 := (by decide); have e1 : (0 : Int32).toInt = 0 := (by decide); omega), hF⟩) d_14_19_63
        ·
          refine lv_aload_n hx hb d_14_19_42 rfl (lv_at hl 0 rfl) ?_
          refine q_get (ci := 12) (j := 5) (v := .ref qO3) C0 V i_NM rfl rfl hO0 (by decide) w_2303 rfl d_14_19_43 ?_
          refine lv_iload_n hx hb d_14_19_46 rfl (lv_at hl 2 rfl) ?_
          refine lv_iload_n hx hb d_14_19_47 rfl (lv_at hl 3 rfl) ?_
          replace hO3 := (hu53 _ (q_pd 119 116 rfl)).trans (hO3)
          replace hA11 := (hu53 _ (q_pd 121 116 rfl)).trans (hA11)
          replace hA12 := (hu53 _ (q_pd 122 116 rfl)).trans (hA12)
          replace hA18 := (hu53 _ (q_pd 128 116 rfl)).trans (hA18)
          replace hA19 := (hu53 _ (q_pd 129 116 rfl)).trans (hA19)
          refine q_goi V (q_runV (As := [.int x2, .int x3]) (rest := []) (d := 2) (mc := 0) (ms := 0) (ci := 13) C0 V rfl LV_NM_157 (c_WR_compare l D g w52 119 121 122 128 129 qO3 qA10 qA11 qA12 qA13 qA14 qA15 qA16 qA17 qA18 qA19 qA20 qA21 qA22 qA23 x2 x3 hO3 hA11 hA12 hA18 hA19 (q_pd 129 128 rfl) (q_pd 121 129 rfl) (q_pd 121 128 rfl) (q_pd 122 129 rfl) (q_pd 122 128 rfl) (q_Ile (x := 0) (y := x2.toInt) (by decide) rfl (by have t1 : 0 ≤ x2.toInt := q_nltI c15; have t2 : x2.toInt ≤ 9 := q_leI c16; omega)) c16 (q_Ile (x := 0) (y := x3.toInt) (by decide) rfl (by have t1 : 0 ≤ x3.toInt := q_nltI c41; have t2 : x3.toInt ≤ 9 := q_leI c42; omega)) c42 _) rfl rfl hO3 rfl hl.1 rfl (Nat.le_of_ble_eq_true rfl) ⟨by decide, by decide⟩ ⟨Nat.le_of_ble_eq_true rfl, Nat.le_of_ble_eq_true rfl⟩ d_14_19_48) (fun v94 u93 H locs hp92 V => ?_)
          obtain ⟨rfl, hg95, hO3, hA18, hA19⟩ := hp92
          replace hF := q_gc hF hg95 (q_al (Nat.le_of_ble_eq_true rfl) (q_al (Nat.le_of_ble_eq_true rfl) (q_al (Nat.le_of_ble_eq_true rfl) (fun _ h => absurd h List.not_mem_nil))))
          refine lv_goto (tgt := 63) hx hb d_14_19_51 (by decide) ?_
          replace hO0 := (hg95 _ (q_nc (q_pd 116 119 rfl) (q_nc (q_pd 116 128 rfl) (q_nc (q_pd 116 129 rfl) List.not_mem_nil)))).trans (hO0)
          exact q_reti C0 V (⟨0, 0, 0, hO0, (show ((0 : Int32).toInt = 0 ∧ ((0 ≤ x1.toInt ∧ x1.toInt ≤ 3) ∧ (0 ≤ x2.toInt ∧ x2.toInt ≤ 9) ∧ (0 ≤ x3.toInt ∧ x3.toInt ≤ 9)) ∧ (0 : Int32).toInt = 0) ∨ ((0 : Int32).toInt = 1 ∧ ¬ ((0 ≤ x1.toInt ∧ x1.toInt ≤ 3) ∧ (0 ≤ x2.toInt ∧ x2.toInt ≤ 9) ∧ (0 ≤ x3.toInt ∧ x3.toInt ≤ 9))) from by have t1 : 0 ≤ x1.toInt := q_nltI c13; have t2 : x1.toInt ≤ 3 := q_nltI c14; have t3 : 0 ≤ x2.toInt := q_nltI c15; have t4 : x2.toInt ≤ 9 := q_leI c16; have t5 : 0 ≤ x3.toInt := q_nltI c41; have t6 : x3.toInt ≤ 9 := q_leI c42; have t7 : x1.toInt < 2 := q_nleI c55; have t8 : x1.toInt = 0 := q_eqI c87; have e0 : (0 : Int32).toInt = 0 := (by decide); have e1 : (0 : Int32).toInt = 0 := (by decide); omega), hF⟩) d_14_19_63
    ·
      refine lv_if_eq (tgt := 20) hx hb d_14_19_13 (by decide) (fun c96 => absurd c96 (by decide)) (fun c96 => ?_)
      refine lv_iconst (v := 1) hx hb d_14_19_16 (by decide) ?_
      refine lv_goto (tgt := 21) hx hb d_14_19_17 (by decide) ?_
      refine q_put (ci := 12) (j := 0) (v := .int 1) (ty := .int) C0 V i_NM o_NM n_NM rfl rfl hO0 (by decide) w_2298 rfl rfl rfl rfl (Nat.le_of_ble_eq_true rfl) d_14_19_21 (fun H locs w97 hu98 hO0 V => ?_)
      replace hO0 : w97[116]? = (some (qO0, .inr (12, [.int 1, .ref qA1, .int 0, .ref qA2, .int 0, .ref qO3, .ref qO4, .ref qO5, .ref qO6, .ref qO7, .ref qA8, .ref qA9])) : Option (Nat × va_E)) := hO0
      replace hF := q_gs hF hu98 (Nat.le_of_ble_eq_true rfl)
      refine lv_aload_n hx hb d_14_19_24 rfl (lv_at hl 0 rfl) ?_
      refine q_get (ci := 12) (j := 0) (v := .int 1) C0 V i_NM rfl rfl hO0 (by decide) w_2298 rfl d_14_19_25 ?_
      refine lv_if_le (tgt := 33) hx hb d_14_19_28 (by decide) (fun c99 => absurd c99 (by decide)) (fun c99 => ?_)
      refine lv_iconst (v := 0) hx hb d_14_19_31 (by decide) ?_
      exact q_reti C0 V (⟨1, 0, 0, hO0, (show ((1 : Int32).toInt = 0 ∧ ((0 ≤ x1.toInt ∧ x1.toInt ≤ 3) ∧ (0 ≤ x2.toInt ∧ x2.toInt ≤ 9) ∧ (0 ≤ x3.toInt ∧ x3.toInt ≤ 9)) ∧ (0 : Int32).toInt = 0) ∨ ((1 : Int32).toInt = 1 ∧ ¬ ((0 ≤ x1.toInt ∧ x1.toInt ≤ 3) ∧ (0 ≤ x2.toInt ∧ x2.toInt ≤ 9) ∧ (0 ≤ x3.toInt ∧ x3.toInt ≤ 9))) from by have t1 : 0 ≤ x1.toInt := q_nltI c13; have t2 : x1.toInt ≤ 3 := q_nltI c14; have t3 : 0 ≤ x2.toInt := q_nltI c15; have t4 : x2.toInt ≤ 9 := q_leI c16; have t5 : 0 ≤ x3.toInt := q_nltI c44; have t6 : 9 < x3.toInt := q_nleI c45; have e0 : (1 : Int32).toInt = 1 := (by decide); have e1 : (0 : Int32).toInt = 0 := (by decide); omega), hF⟩) d_14_19_32
  ·
    refine lv_if_ne (tgt := 16) hx hb d_14_19_6 (by decide) (fun c100 => ?_) (fun c100 => absurd c100 (by decide))
    refine lv_iconst (v := 1) hx hb d_14_19_16 (by decide) ?_
    refine lv_goto (tgt := 21) hx hb d_14_19_17 (by decide) ?_
    refine q_put (ci := 12) (j := 0) (v := .int 1) (ty := .int) C0 V i_NM o_NM n_NM rfl rfl hO0 (by decide) w_2298 rfl rfl rfl rfl (Nat.le_of_ble_eq_true rfl) d_14_19_21 (fun H locs w101 hu102 hO0 V => ?_)
    replace hO0 : w101[116]? = (some (qO0, .inr (12, [.int 1, .ref qA1, .int 0, .ref qA2, .int 0, .ref qO3, .ref qO4, .ref qO5, .ref qO6, .ref qO7, .ref qA8, .ref qA9])) : Option (Nat × va_E)) := hO0
    replace hF := q_gs hF hu102 (Nat.le_of_ble_eq_true rfl)
    refine lv_aload_n hx hb d_14_19_24 rfl (lv_at hl 0 rfl) ?_
    refine q_get (ci := 12) (j := 0) (v := .int 1) C0 V i_NM rfl rfl hO0 (by decide) w_2298 rfl d_14_19_25 ?_
    refine lv_if_le (tgt := 33) hx hb d_14_19_28 (by decide) (fun c103 => absurd c103 (by decide)) (fun c103 => ?_)
    refine lv_iconst (v := 0) hx hb d_14_19_31 (by decide) ?_
    exact q_reti C0 V (⟨1, 0, 0, hO0, (show ((1 : Int32).toInt = 0 ∧ ((0 ≤ x1.toInt ∧ x1.toInt ≤ 3) ∧ (0 ≤ x2.toInt ∧ x2.toInt ≤ 9) ∧ (0 ≤ x3.toInt ∧ x3.toInt ≤ 9)) ∧ (0 : Int32).toInt = 0) ∨ ((1 : Int32).toInt = 1 ∧ ¬ ((0 ≤ x1.toInt ∧ x1.toInt ≤ 3) ∧ (0 ≤ x2.toInt ∧ x2.toInt ≤ 9) ∧ (0 ≤ x3.toInt ∧ x3.toInt ≤ 9))) from by have t1 : 0 ≤ x1.toInt := q_nltI c18; have t2 : x1.toInt ≤ 3 := q_nltI c19; have t3 : 0 ≤ x2.toInt := q_nltI c20; have t4 : 9 < x2.toInt := q_nleI c21; have e0 : (1 : Int32).toInt = 1 := (by decide); have e1 : (0 : Int32).toInt = 0 := (by decide); omega), hF⟩) d_14_19_32
