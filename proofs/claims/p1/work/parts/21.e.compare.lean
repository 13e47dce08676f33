/-! the class on a fresh object: compare -/
theorem d_1_32_0 : decode prog_1_method_32_code 0 = .ok (.iload_n 0, 1) := by decide +kernel
theorem d_1_32_1 : decode prog_1_method_32_code 1 = .ok (.ifCond .lt 13, 3) := by decide +kernel
theorem d_1_32_14 : decode prog_1_method_32_code 14 = .ok (.iconst 0, 1) := by decide +kernel
theorem d_1_32_15 : decode prog_1_method_32_code 15 = .ok (.ireturn, 1) := by decide +kernel
theorem d_1_32_4 : decode prog_1_method_32_code 4 = .ok (.iload_n 0, 1) := by decide +kernel
theorem d_1_32_5 : decode prog_1_method_32_code 5 = .ok (.bipush 10, 2) := by decide +kernel
theorem d_1_32_7 : decode prog_1_method_32_code 7 = .ok (.if_icmp .ge 7, 3) := by decide +kernel
theorem d_1_32_10 : decode prog_1_method_32_code 10 = .ok (.iconst 1, 1) := by decide +kernel
theorem d_1_32_11 : decode prog_1_method_32_code 11 = .ok (.goto 4, 3) := by decide +kernel
def y_NH_isRegister : MethodName := ⟨"NumberHouse", "isRegister", "(I)Z"⟩
set_option maxRecDepth 100000 in
set_option maxHeartbeats 4000000 in
theorem c_NH_isRegister (l : Launch) (D : va_G) (g : Nat → ClassId) (ws : va_W) (x1 : Int32) : q_mI l y_NH_isRegister prog_1_method_32_code 1 (.boolean) 1 0 0 D g [.int x1] ws (fun r u => (x1 < 0 ∧ 0 = r ∧ ws = u) ∨ (¬ x1 < 0 ∧ 10 ≤ x1 ∧ 0 = r ∧ ws = u) ∨ (¬ x1 < 0 ∧ ¬ 10 ≤ x1 ∧ 1 = r ∧ ws = u)) := by
  intro sz
  refine q_into (by decide) (Nat.le_of_ble_eq_true rfl) ?_
  intro p e s m below meth c ls hsz C0 V hl
  have hx := C0.1
  have hb := C0.2.1
  have hl : lv_has ls 1 [(0, .int x1)] := hl
  refine lv_iload_n hx hb d_1_32_0 rfl (lv_at hl 0 rfl) ?_
  refine lv_if_lt (tgt := 14) hx hb d_1_32_1 (by decide) (fun c1 => ?_) (fun c1 => ?_)
  ·
    refine lv_iconst (v := 0) hx hb d_1_32_14 (by decide) ?_
    exact q_retz C0 V (rfl) (Or.inl ⟨c1, rfl, rfl⟩) d_1_32_15
  ·
    refine lv_iload_n hx hb d_1_32_4 rfl (lv_at hl 0 rfl) ?_
    refine lv_bipush (v := 10) hx hb d_1_32_5 (by decide) ?_
    refine lv_icmp_ge (tgt := 14) hx hb d_1_32_7 (by decide) (fun c2 => ?_) (fun c2 => ?_)
    ·
      refine lv_iconst (v := 0) hx hb d_1_32_14 (by decide) ?_
      exact q_retz C0 V (rfl) (Or.inr (Or.inl ⟨c1, c2, rfl, rfl⟩)) d_1_32_15
    ·
      refine lv_iconst (v := 1) hx hb d_1_32_10 (by decide) ?_
      refine lv_goto (tgt := 15) hx hb d_1_32_11 (by decide) ?_
      exact q_retz C0 V (rfl) (Or.inr (Or.inr (⟨c1, c2, rfl, rfl⟩))) d_1_32_15
theorem d_1_35_0 : decode prog_1_method_35_code 0 = .ok (.iload_n 0, 1) := by decide +kernel
theorem d_1_35_1 : decode prog_1_method_35_code 1 = .ok (.ifCond .lt 19, 3) := by decide +kernel
theorem d_1_35_20 : decode prog_1_method_35_code 20 = .ok (.iconst 0, 1) := by decide +kernel
theorem d_1_35_21 : decode prog_1_method_35_code 21 = .ok (.invokestatic 104, 3) := by decide +kernel
theorem d_1_35_4 : decode prog_1_method_35_code 4 = .ok (.iload_n 0, 1) := by decide +kernel
theorem d_1_35_5 : decode prog_1_method_35_code 5 = .ok (.iconst 3, 1) := by decide +kernel
theorem d_1_35_6 : decode prog_1_method_35_code 6 = .ok (.if_icmp .gt 14, 3) := by decide +kernel
theorem d_1_35_9 : decode prog_1_method_35_code 9 = .ok (.iload_n 1, 1) := by decide +kernel
theorem d_1_35_10 : decode prog_1_method_35_code 10 = .ok (.invokestatic 212, 3) := by decide +kernel
theorem w_580 : (Cond.code ({ cls := "NumberHouse", name := "isRegister", desc := "(I)Z" } : MethodName) prog_1_method_32_code (1 : Nat) (some .boolean)) ∈ q_tbl := q_of 580 (by decide +kernel) (by decide +kernel)
theorem w_578 : (Cond.methodLink "NumberHouse" (212 : Nat) ({ cls := "NumberHouse", name := "isRegister", desc := "(I)Z" } : MethodName)) ∈ q_tbl := q_of 578 (by decide +kernel) (by decide +kernel)
theorem w_579 : (Cond.static ({ cls := "NumberHouse", name := "isRegister", desc := "(I)Z" } : MethodName)) ∈ q_tbl := q_of 579 (by decide +kernel) (by decide +kernel)
theorem LS_NH_212 : q_LS "NumberHouse" 212 y_NH_isRegister prog_1_method_32_code 1 (some .boolean) 1 := ⟨w_580, w_1, w_578, w_579, ⟨by decide, by decide, by decide +kernel⟩⟩
theorem d_1_35_13 : decode prog_1_method_35_code 13 = .ok (.ifCond .eq 7, 3) := by decide +kernel
theorem d_1_35_16 : decode prog_1_method_35_code 16 = .ok (.iconst 1, 1) := by decide +kernel
theorem d_1_35_17 : decode prog_1_method_35_code 17 = .ok (.goto 4, 3) := by decide +kernel
theorem d_1_35_24 : decode prog_1_method_35_code 24 = .ok (.return_, 1) := by decide +kernel
def y_NH_needRegister : MethodName := ⟨"NumberHouse", "needRegister", "(II)V"⟩
set_option maxRecDepth 100000 in
set_option maxHeartbeats 4000000 in
theorem c_NH_needRegister (l : Launch) (D : va_G) (g : Nat → ClassId) (ws : va_W) (hlt : l.stackTraces = false) (x1 : Int32) (x2 : Int32) : q_xV l y_NH_needRegister prog_1_method_35_code 2 8 1 6 D g [.int x1, .int x2] ws (fun u => ¬ x1 < 0 ∧ ¬ 3 < x1 ∧ ¬ x2 < 0 ∧ ¬ 10 ≤ x2 ∧ ws = u) (fun E u => (x1 < 0 ∧ "java/lang/IllegalArgumentException" = E ∧ ws = u) ∨ (¬ x1 < 0 ∧ 3 < x1 ∧ "java/lang/IllegalArgumentException" = E ∧ ws = u) ∨ (¬ x1 < 0 ∧ ¬ 3 < x1 ∧ x2 < 0 ∧ "java/lang/IllegalArgumentException" = E ∧ ws = u) ∨ (¬ x1 < 0 ∧ ¬ 3 < x1 ∧ ¬ x2 < 0 ∧ 10 ≤ x2 ∧ "java/lang/IllegalArgumentException" = E ∧ ws = u)) := by
  intro sz
  refine q_intoX (by decide) (Nat.le_of_ble_eq_true rfl) ?_
  intro p e s m below meth c ls hsz C0 V hno hl
  have hx := C0.1
  have hb := C0.2.1
  have hl : lv_has ls 2 [(0, .int x1), (1, .int x2)] := hl
  refine lv_iload_n hx hb d_1_35_0 rfl (lv_at hl 0 rfl) ?_
  refine lv_if_lt (tgt := 20) hx hb d_1_35_1 (by decide) (fun c1 => ?_) (fun c1 => ?_)
  ·
    refine lv_iconst (v := 0) hx hb d_1_35_20 (by decide) ?_
    refine q_goxv V (q_runSX (As := [.int 0]) (rest := []) (d := 7) (mc := 1) (ms := 6) C0 V rfl LS_NH_104 (c_NH_need l D g ws hlt 0 _) rfl hl.1 rfl (Nat.le_of_ble_eq_true rfl) ⟨by decide, by decide⟩ ⟨Nat.le_of_ble_eq_true rfl, Nat.le_of_ble_eq_true rfl⟩ d_1_35_21) (fun qx Ex ce u3 H locs hp2 V hce hcv hcl => ?_) (fun u3 H locs hp2 V => ?_)
    ·
      obtain ⟨c4, rfl, rfl⟩ := hp2
      exact q_outT hno C0 V (Or.inl ⟨c1, rfl, rfl⟩) hce hcv hcl (Nat.le_of_ble_eq_true rfl) (Nat.le_of_ble_eq_true rfl)
    ·
      obtain ⟨c6, rfl⟩ := hp2
      exact absurd c6 (by decide)
  ·
    refine lv_iload_n hx hb d_1_35_4 rfl (lv_at hl 0 rfl) ?_
    refine lv_iconst (v := 3) hx hb d_1_35_5 (by decide) ?_
    refine lv_icmp_gt (tgt := 20) hx hb d_1_35_6 (by decide) (fun c8 => ?_) (fun c8 => ?_)
    ·
      refine lv_iconst (v := 0) hx hb d_1_35_20 (by decide) ?_
      refine q_goxv V (q_runSX (As := [.int 0]) (rest := []) (d := 7) (mc := 1) (ms := 6) C0 V rfl LS_NH_104 (c_NH_need l D g ws hlt 0 _) rfl hl.1 rfl (Nat.le_of_ble_eq_true rfl) ⟨by decide, by decide⟩ ⟨Nat.le_of_ble_eq_true rfl, Nat.le_of_ble_eq_true rfl⟩ d_1_35_21) (fun qx Ex ce u10 H locs hp9 V hce hcv hcl => ?_) (fun u10 H locs hp9 V => ?_)
      ·
        obtain ⟨c11, rfl, rfl⟩ := hp9
        exact q_outT hno C0 V (Or.inr (Or.inl ⟨c1, c8, rfl, rfl⟩)) hce hcv hcl (Nat.le_of_ble_eq_true rfl) (Nat.le_of_ble_eq_true rfl)
      ·
        obtain ⟨c13, rfl⟩ := hp9
        exact absurd c13 (by decide)
    ·
      refine lv_iload_n hx hb d_1_35_9 rfl (lv_at hl 1 rfl) ?_
      refine q_goi V (q_runS (As := [.int x2]) (rest := []) (d := 1) (mc := 0) (ms := 0) C0 V rfl LS_NH_212 (c_NH_isRegister l D g ws x2 _) rfl hl.1 rfl (Nat.le_of_ble_eq_true rfl) ⟨by decide, by decide⟩ ⟨Nat.le_of_ble_eq_true rfl, Nat.le_of_ble_eq_true rfl⟩ d_1_35_10) (fun v17 u16 H locs hp15 V => ?_)
      rcases hp15 with ⟨c18, rfl, rfl⟩ | ⟨c20, c21, rfl, rfl⟩ | ⟨c23, c24, rfl, rfl⟩
      ·
        refine lv_if_eq (tgt := 20) hx hb d_1_35_13 (by decide) (fun c26 => ?_) (fun c26 => absurd (by decide) c26)
        refine lv_iconst (v := 0) hx hb d_1_35_20 (by decide) ?_
        refine q_goxv V (q_runSX (As := [.int 0]) (rest := []) (d := 7) (mc := 1) (ms := 6) C0 V rfl LS_NH_104 (c_NH_need l D g ws hlt 0 _) rfl hl.1 rfl (Nat.le_of_ble_eq_true rfl) ⟨by decide, by decide⟩ ⟨Nat.le_of_ble_eq_true rfl, Nat.le_of_ble_eq_true rfl⟩ d_1_35_21) (fun qx Ex ce u28 H locs hp27 V hce hcv hcl => ?_) (fun u28 H locs hp27 V => ?_)
        ·
          obtain ⟨c29, rfl, rfl⟩ := hp27
          exact q_outT hno C0 V (Or.inr (Or.inr (Or.inl ⟨c1, c8, c18, rfl, rfl⟩))) hce hcv hcl (Nat.le_of_ble_eq_true rfl) (Nat.le_of_ble_eq_true rfl)
        ·
          obtain ⟨c31, rfl⟩ := hp27
          exact absurd c31 (by decide)
      ·
        refine lv_if_eq (tgt := 20) hx hb d_1_35_13 (by decide) (fun c33 => ?_) (fun c33 => absurd (by decide) c33)
        refine lv_iconst (v := 0) hx hb d_1_35_20 (by decide) ?_
        refine q_goxv V (q_runSX (As := [.int 0]) (rest := []) (d := 7) (mc := 1) (ms := 6) C0 V rfl LS_NH_104 (c_NH_need l D g ws hlt 0 _) rfl hl.1 rfl (Nat.le_of_ble_eq_true rfl) ⟨by decide, by decide⟩ ⟨Nat.le_of_ble_eq_true rfl, Nat.le_of_ble_eq_true rfl⟩ d_1_35_21) (fun qx Ex ce u35 H locs hp34 V hce hcv hcl => ?_) (fun u35 H locs hp34 V => ?_)
        ·
          obtain ⟨c36, rfl, rfl⟩ := hp34
          exact q_outT hno C0 V (Or.inr (Or.inr (Or.inr (⟨c1, c8, c20, c21, rfl, rfl⟩)))) hce hcv hcl (Nat.le_of_ble_eq_true rfl) (Nat.le_of_ble_eq_true rfl)
        ·
          obtain ⟨c38, rfl⟩ := hp34
          exact absurd c38 (by decide)
      ·
        refine lv_if_eq (tgt := 20) hx hb d_1_35_13 (by decide) (fun c40 => absurd c40 (by decide)) (fun c40 => ?_)
        refine lv_iconst (v := 1) hx hb d_1_35_16 (by decide) ?_
        refine lv_goto (tgt := 21) hx hb d_1_35_17 (by decide) ?_
        refine q_goxv V (q_runSX (As := [.int 1]) (rest := []) (d := 7) (mc := 1) (ms := 6) C0 V rfl LS_NH_104 (c_NH_need l D g ws hlt 1 _) rfl hl.1 rfl (Nat.le_of_ble_eq_true rfl) ⟨by decide, by decide⟩ ⟨Nat.le_of_ble_eq_true rfl, Nat.le_of_ble_eq_true rfl⟩ d_1_35_21) (fun qx Ex ce u42 H locs hp41 V hce hcv hcl => ?_) (fun u42 H locs hp41 V => ?_)
        ·
          obtain ⟨c43, rfl, rfl⟩ := hp41
          exact absurd c43 (by decide)
        ·
          obtain ⟨c45, rfl⟩ := hp41
          exact q_retX (q_retv C0 V (⟨c1, c8, c23, c24, rfl⟩) d_1_35_24)
theorem d_1_30_0 : decode prog_1_method_30_code 0 = .ok (.iload_n 1, 1) := by decide +kernel
theorem d_1_30_1 : decode prog_1_method_30_code 1 = .ok (.iconst 2, 1) := by decide +kernel
theorem d_1_30_2 : decode prog_1_method_30_code 2 = .ok (.if_icmp .ne 10, 3) := by decide +kernel
theorem d_1_30_12 : decode prog_1_method_30_code 12 = .ok (.aload_n 0, 1) := by decide +kernel
theorem d_1_30_13 : decode prog_1_method_30_code 13 = .ok (.getfield 65, 3) := by decide +kernel
theorem d_1_30_16 : decode prog_1_method_30_code 16 = .ok (.areturn, 1) := by decide +kernel
theorem d_1_30_5 : decode prog_1_method_30_code 5 = .ok (.aload_n 0, 1) := by decide +kernel
theorem d_1_30_6 : decode prog_1_method_30_code 6 = .ok (.getfield 61, 3) := by decide +kernel
theorem d_1_30_9 : decode prog_1_method_30_code 9 = .ok (.goto 7, 3) := by decide +kernel
def y_NH_floatsOf : MethodName := ⟨"NumberHouse", "floatsOf", "(I)LNumberHouse$Floats;"⟩
set_option maxRecDepth 100000 in
set_option maxHeartbeats 4000000 in
theorem c_NH_floatsOf (l : Launch) (D : va_G) (g : Nat → ClassId) (ws : va_W) ( qO0 qO1 qO2 qA3 qA4 qA5 qA6 qO7 qO8 qO9 qO10 qO11 qO12 qO13 qO14 : Nat) (x1 : Int32) (hO0 : ws[0]? = (some (qO0, .inr (0, [.ref qO1, .ref qO2, .ref qA3, .ref qA4, .ref qA5, .ref qA6, .ref qO7, .ref qO8, .ref qO9, .ref qO10, .ref qO11, .ref qO12, .ref qO13, .ref qO14])) : Option (Nat × va_E))) (x1lo : 2 ≤ x1) (x1hi : x1 ≤ 3) : q_mR l y_NH_floatsOf prog_1_method_30_code 2 (.object "NumberHouse$Floats") 1 0 0 D g [.ref qO0, .int x1] ws (fun r u => (¬ x1 = 2 ∧ qO10 = r ∧ ws = u) ∨ (x1 = 2 ∧ qO9 = r ∧ ws = u)) := by
  intro sz
  refine q_into (by decide) (Nat.le_of_ble_eq_true rfl) ?_
  intro p e s m below meth c ls hsz C0 V hl
  have hx := C0.1
  have hb := C0.2.1
  have hl : lv_has ls 2 [(0, .ref qO0), (1, .int x1)] := hl
  refine lv_iload_n hx hb d_1_30_0 rfl (lv_at hl 1 rfl) ?_
  refine lv_iconst (v := 2) hx hb d_1_30_1 (by decide) ?_
  refine lv_icmp_ne (tgt := 12) hx hb d_1_30_2 (by decide) (fun c1 => ?_) (fun c1 => ?_)
  ·
    refine lv_aload_n hx hb d_1_30_12 rfl (lv_at hl 0 rfl) ?_
    refine q_get (ci := 0) (j := 9) (v := .ref qO10) C0 V i_NH rfl rfl hO0 (by decide) w_433 rfl d_1_30_13 ?_
    exact q_retr (post := fun r u => (¬ x1 = 2 ∧ qO10 = r ∧ ws = u) ∨ (x1 = 2 ∧ qO9 = r ∧ ws = u)) C0 V (Or.inl ⟨_, rfl⟩) (Or.inl ⟨c1, rfl, rfl⟩) d_1_30_16
  ·
    refine lv_aload_n hx hb d_1_30_5 rfl (lv_at hl 0 rfl) ?_
    refine q_get (ci := 0) (j := 8) (v := .ref qO9) C0 V i_NH rfl rfl hO0 (by decide) w_432 rfl d_1_30_6 ?_
    refine lv_goto (tgt := 16) hx hb d_1_30_9 (by decide) ?_
    exact q_retr (post := fun r u => (¬ x1 = 2 ∧ qO10 = r ∧ ws = u) ∨ (x1 = 2 ∧ qO9 = r ∧ ws = u)) C0 V (Or.inl ⟨_, rfl⟩) (Or.inr (⟨c1, rfl, rfl⟩)) d_1_30_16
theorem d_1_31_0 : decode prog_1_method_31_code 0 = .ok (.iload_n 1, 1) := by decide +kernel
theorem d_1_31_1 : decode prog_1_method_31_code 1 = .ok (.iconst 2, 1) := by decide +kernel
theorem d_1_31_2 : decode prog_1_method_31_code 2 = .ok (.if_icmp .ne 10, 3) := by decide +kernel
theorem d_1_31_12 : decode prog_1_method_31_code 12 = .ok (.aload_n 0, 1) := by decide +kernel
theorem d_1_31_13 : decode prog_1_method_31_code 13 = .ok (.getfield 37, 3) := by decide +kernel
theorem d_1_31_16 : decode prog_1_method_31_code 16 = .ok (.areturn, 1) := by decide +kernel
def y_NH_floatRow : MethodName := ⟨"NumberHouse", "floatRow", "(I)[J"⟩
set_option maxRecDepth 100000 in
set_option maxHeartbeats 4000000 in
theorem c_NH_floatRow (l : Launch) (D : va_G) (g : Nat → ClassId) (ws : va_W) ( qO0 qO1 qO2 qA3 qA4 qA5 qA6 qO7 qO8 qO9 qO10 qO11 qO12 qO13 qO14 : Nat) (hO0 : ws[0]? = (some (qO0, .inr (0, [.ref qO1, .ref qO2, .ref qA3, .ref qA4, .ref qA5, .ref qA6, .ref qO7, .ref qO8, .ref qO9, .ref qO10, .ref qO11, .ref qO12, .ref qO13, .ref qO14])) : Option (Nat × va_E))) : q_mR l y_NH_floatRow prog_1_method_31_code 2 (.array .long) 1 0 0 D g [.ref qO0, .int 3] ws (fun r u => qA6 = r ∧ ws = u) := by
  intro sz
  refine q_into (by decide) (Nat.le_of_ble_eq_true rfl) ?_
  intro p e s m below meth c ls hsz C0 V hl
  have hx := C0.1
  have hb := C0.2.1
  have hl : lv_has ls 2 [(0, .ref qO0), (1, .int 3)] := hl
  refine lv_iload_n hx hb d_1_31_0 rfl (lv_at hl 1 rfl) ?_
  refine lv_iconst (v := 2) hx hb d_1_31_1 (by decide) ?_
  refine lv_icmp_ne (tgt := 12) hx hb d_1_31_2 (by decide) (fun c1 => ?_) (fun c1 => absurd c1 (by decide))
  refine lv_aload_n hx hb d_1_31_12 rfl (lv_at hl 0 rfl) ?_
  refine q_get (ci := 0) (j := 5) (v := .ref qA6) C0 V i_NH rfl rfl hO0 (by decide) w_429 rfl d_1_31_13 ?_
  exact q_retr (post := fun r u => qA6 = r ∧ ws = u) C0 V (Or.inr ⟨_, rfl⟩) (⟨rfl, rfl⟩) d_1_31_16
theorem d_7_2_0 : decode prog_7_method_2_code 0 = .ok (.lload_n 1, 1) := by decide +kernel
theorem d_7_2_1 : decode prog_7_method_2_code 1 = .ok (.aload_n 0, 1) := by decide +kernel
theorem d_7_2_2 : decode prog_7_method_2_code 2 = .ok (.getfield 7, 3) := by decide +kernel
theorem d_7_2_5 : decode prog_7_method_2_code 5 = .ok (.lushr, 1) := by decide +kernel
theorem d_7_2_6 : decode prog_7_method_2_code 6 = .ok (.l2i, 1) := by decide +kernel
theorem d_7_2_7 : decode prog_7_method_2_code 7 = .ok (.aload_n 0, 1) := by decide +kernel
theorem d_7_2_8 : decode prog_7_method_2_code 8 = .ok (.getfield 16, 3) := by decide +kernel
theorem d_7_2_11 : decode prog_7_method_2_code 11 = .ok (.iand, 1) := by decide +kernel
theorem d_7_2_12 : decode prog_7_method_2_code 12 = .ok (.ireturn, 1) := by decide +kernel
def y_Flo_exponent : MethodName := ⟨"NumberHouse$Floats", "exponent", "(J)I"⟩
set_option maxRecDepth 100000 in
set_option maxHeartbeats 4000000 in
theorem c_Flo_exponent (l : Launch) (D : va_G) (g : Nat → ClassId) (ws : va_W) (kO0 qO0 qO1 : Nat) (hO0 : ws[kO0]? = (some (qO0, .inr (6, [.int 23, .int 150, .int 255, .long 0, .int 0, .ref qO1, .int 0])) : Option (Nat × va_E))) : q_mI l y_Flo_exponent prog_7_method_2_code 3 (.int) 1 0 0 D g [.ref qO0, .long 0] ws (fun r u => 0 = r ∧ ws = u) := by
  intro sz
  refine q_into (by decide) (Nat.le_of_ble_eq_true rfl) ?_
  intro p e s m below meth c ls hsz C0 V hl
  have hx := C0.1
  have hb := C0.2.1
  have hl : lv_has ls 3 [(0, .ref qO0), (1, .long 0)] := hl
  refine lv_lload_n hx hb d_7_2_0 rfl (lv_at hl 1 rfl) ?_
  refine lv_aload_n hx hb d_7_2_1 rfl (lv_at hl 0 rfl) ?_
  refine q_get (ci := 6) (j := 0) (v := .int 23) C0 V i_Flo rfl rfl hO0 (by decide) w_231 rfl d_7_2_2 ?_
  refine lv_lushr hx hb d_7_2_5 rfl ?_
  refine q_tl (v := 0) (by decide) ?_
  refine lv_l2i hx hb d_7_2_6 rfl ?_
  refine q_ti (v := 0) (by decide) ?_
  refine lv_aload_n hx hb d_7_2_7 rfl (lv_at hl 0 rfl) ?_
  refine q_get (ci := 6) (j := 2) (v := .int 255) C0 V i_Flo rfl rfl hO0 (by decide) w_234 rfl d_7_2_8 ?_
  refine lv_iand hx hb d_7_2_11 ?_
  refine q_ti (v := 0) (by decide) ?_
  exact q_reti C0 V (⟨rfl, rfl⟩) d_7_2_12
theorem d_7_5_0 : decode prog_7_method_5_code 0 = .ok (.aload_n 0, 1) := by decide +kernel
theorem d_7_5_1 : decode prog_7_method_5_code 1 = .ok (.lload_n 1, 1) := by decide +kernel
theorem d_7_5_2 : decode prog_7_method_5_code 2 = .ok (.invokevirtual 27, 3) := by decide +kernel
theorem w_1159 : (Cond.code ({ cls := "NumberHouse$Floats", name := "exponent", desc := "(J)I" } : MethodName) prog_7_method_2_code (3 : Nat) (some .int)) ∈ q_tbl := q_of 1159 (by decide +kernel) (by decide +kernel)
theorem w_1156 : (Cond.methodLink "NumberHouse$Floats" (27 : Nat) ({ cls := "NumberHouse$Floats", name := "exponent", desc := "(J)I" } : MethodName)) ∈ q_tbl := q_of 1156 (by decide +kernel) (by decide +kernel)
theorem w_1157 : (Cond.instanceMethod ({ cls := "NumberHouse$Floats", name := "exponent", desc := "(J)I" } : MethodName)) ∈ q_tbl := q_of 1157 (by decide +kernel) (by decide +kernel)
theorem w_1158 : (Cond.selects "NumberHouse$Floats" ({ cls := "NumberHouse$Floats", name := "exponent", desc := "(J)I" } : MethodName) ({ cls := "NumberHouse$Floats", name := "exponent", desc := "(J)I" } : MethodName)) ∈ q_tbl := q_of 1158 (by decide +kernel) (by decide +kernel)
theorem LV_Flo_27 : q_LV "NumberHouse$Floats" 27 y_Flo_exponent prog_7_method_2_code 3 (some .int) 1 := ⟨w_1159, w_8, w_1156, w_1157, w_1158, ⟨by decide, by decide, by decide +kernel⟩⟩
theorem d_7_5_5 : decode prog_7_method_5_code 5 = .ok (.aload_n 0, 1) := by decide +kernel
theorem d_7_5_6 : decode prog_7_method_5_code 6 = .ok (.getfield 16, 3) := by decide +kernel
theorem d_7_5_9 : decode prog_7_method_5_code 9 = .ok (.if_icmp .eq 7, 3) := by decide +kernel
theorem d_7_5_12 : decode prog_7_method_5_code 12 = .ok (.iconst 1, 1) := by decide +kernel
theorem d_7_5_13 : decode prog_7_method_5_code 13 = .ok (.goto 4, 3) := by decide +kernel
theorem d_7_5_17 : decode prog_7_method_5_code 17 = .ok (.ireturn, 1) := by decide +kernel
def y_Flo_isFinite : MethodName := ⟨"NumberHouse$Floats", "isFinite", "(J)Z"⟩
set_option maxRecDepth 100000 in
set_option maxHeartbeats 4000000 in
theorem c_Flo_isFinite (l : Launch) (D : va_G) (g : Nat → ClassId) (ws : va_W) (kO0 qO0 qO1 : Nat) (hO0 : ws[kO0]? = (some (qO0, .inr (6, [.int 23, .int 150, .int 255, .long 0, .int 0, .ref qO1, .int 0])) : Option (Nat × va_E))) : q_mI l y_Flo_isFinite prog_7_method_5_code 3 (.boolean) 2 0 0 D g [.ref qO0, .long 0] ws (fun r u => 1 = r ∧ ws = u) := by
  intro sz
  refine q_into (by decide) (Nat.le_of_ble_eq_true rfl) ?_
  intro p e s m below meth c ls hsz C0 V hl
  have hx := C0.1
  have hb := C0.2.1
  have hl : lv_has ls 3 [(0, .ref qO0), (1, .long 0)] := hl
  refine lv_aload_n hx hb d_7_5_0 rfl (lv_at hl 0 rfl) ?_
  refine lv_lload_n hx hb d_7_5_1 rfl (lv_at hl 1 rfl) ?_
  refine q_goi V (q_runV (As := [.long 0]) (rest := []) (d := 1) (mc := 0) (ms := 0) (ci := 6) C0 V rfl LV_Flo_27 (c_Flo_exponent l D g ws kO0 qO0 qO1 hO0 _) rfl rfl hO0 rfl hl.1 rfl (Nat.le_of_ble_eq_true rfl) ⟨by decide, by decide⟩ ⟨Nat.le_of_ble_eq_true rfl, Nat.le_of_ble_eq_true rfl⟩ d_7_5_2) (fun v3 u2 H locs hp1 V => ?_)
  obtain ⟨rfl, rfl⟩ := hp1
  refine lv_aload_n hx hb d_7_5_5 rfl (lv_at hl 0 rfl) ?_
  refine q_get (ci := 6) (j := 2) (v := .int 255) C0 V i_Flo rfl rfl hO0 (by decide) w_234 rfl d_7_5_6 ?_
  refine lv_icmp_eq (tgt := 16) hx hb d_7_5_9 (by decide) (fun c5 => absurd c5 (by decide)) (fun c5 => ?_)
  refine lv_iconst (v := 1) hx hb d_7_5_12 (by decide) ?_
  refine lv_goto (tgt := 17) hx hb d_7_5_13 (by decide) ?_
  exact q_retz C0 V (rfl) (⟨rfl, rfl⟩) d_7_5_17
theorem d_7_6_0 : decode prog_7_method_6_code 0 = .ok (.aload_n 0, 1) := by decide +kernel
theorem d_7_6_1 : decode prog_7_method_6_code 1 = .ok (.lload_n 1, 1) := by decide +kernel
theorem d_7_6_2 : decode prog_7_method_6_code 2 = .ok (.invokevirtual 31, 3) := by decide +kernel
theorem w_1155 : (Cond.code ({ cls := "NumberHouse$Floats", name := "isFinite", desc := "(J)Z" } : MethodName) prog_7_method_5_code (3 : Nat) (some .boolean)) ∈ q_tbl := q_of 1155 (by decide +kernel) (by decide +kernel)
theorem w_1235 : (Cond.methodLink "NumberHouse$Floats" (31 : Nat) ({ cls := "NumberHouse$Floats", name := "isFinite", desc := "(J)Z" } : MethodName)) ∈ q_tbl := q_of 1235 (by decide +kernel) (by decide +kernel)
theorem w_1153 : (Cond.instanceMethod ({ cls := "NumberHouse$Floats", name := "isFinite", desc := "(J)Z" } : MethodName)) ∈ q_tbl := q_of 1153 (by decide +kernel) (by decide +kernel)
theorem w_1154 : (Cond.selects "NumberHouse$Floats" ({ cls := "NumberHouse$Floats", name := "isFinite", desc := "(J)Z" } : MethodName) ({ cls := "NumberHouse$Floats", name := "isFinite", desc := "(J)Z" } : MethodName)) ∈ q_tbl := q_of 1154 (by decide +kernel) (by decide +kernel)
theorem LV_Flo_31 : q_LV "NumberHouse$Floats" 31 y_Flo_isFinite prog_7_method_5_code 3 (some .boolean) 1 := ⟨w_1155, w_8, w_1235, w_1153, w_1154, ⟨by decide, by decide, by decide +kernel⟩⟩
theorem d_7_6_5 : decode prog_7_method_6_code 5 = .ok (.ifCond .ne 17, 3) := by decide +kernel
theorem d_7_6_22 : decode prog_7_method_6_code 22 = .ok (.iconst 0, 1) := by decide +kernel
theorem d_7_6_23 : decode prog_7_method_6_code 23 = .ok (.ireturn, 1) := by decide +kernel
def y_Flo_isNoNumber : MethodName := ⟨"NumberHouse$Floats", "isNoNumber", "(J)Z"⟩
set_option maxRecDepth 100000 in
set_option maxHeartbeats 4000000 in
theorem c_Flo_isNoNumber (l : Launch) (D : va_G) (g : Nat → ClassId) (ws : va_W) (kO0 qO0 qO1 : Nat) (hO0 : ws[kO0]? = (some (qO0, .inr (6, [.int 23, .int 150, .int 255, .long 0, .int 0, .ref qO1, .int 0])) : Option (Nat × va_E))) : q_mI l y_Flo_isNoNumber prog_7_method_6_code 3 (.boolean) 3 0 0 D g [.ref qO0, .long 0] ws (fun r u => 0 = r ∧ ws = u) := by
  intro sz
  refine q_into (by decide) (Nat.le_of_ble_eq_true rfl) ?_
  intro p e s m below meth c ls hsz C0 V hl
  have hx := C0.1
  have hb := C0.2.1
  have hl : lv_has ls 3 [(0, .ref qO0), (1, .long 0)] := hl
  refine lv_aload_n hx hb d_7_6_0 rfl (lv_at hl 0 rfl) ?_
  refine lv_lload_n hx hb d_7_6_1 rfl (lv_at hl 1 rfl) ?_
  refine q_goi V (q_runV (As := [.long 0]) (rest := []) (d := 2) (mc := 0) (ms := 0) (ci := 6) C0 V rfl LV_Flo_31 (c_Flo_isFinite l D g ws kO0 qO0 qO1 hO0 _) rfl rfl hO0 rfl hl.1 rfl (Nat.le_of_ble_eq_true rfl) ⟨by decide, by decide⟩ ⟨Nat.le_of_ble_eq_true rfl, Nat.le_of_ble_eq_true rfl⟩ d_7_6_2) (fun v3 u2 H locs hp1 V => ?_)
  obtain ⟨rfl, rfl⟩ := hp1
  refine lv_if_ne (tgt := 22) hx hb d_7_6_5 (by decide) (fun c5 => ?_) (fun c5 => absurd c5 (by decide))
  refine lv_iconst (v := 0) hx hb d_7_6_22 (by decide) ?_
  exact q_retz C0 V (rfl) (⟨rfl, rfl⟩) d_7_6_23
theorem d_7_8_0 : decode prog_7_method_8_code 0 = .ok (.iload_n 1, 1) := by decide +kernel
theorem d_7_8_1 : decode prog_7_method_8_code 1 = .ok (.ifCond .eq 18, 3) := by decide +kernel
theorem d_7_8_4 : decode prog_7_method_8_code 4 = .ok (.aload_n 0, 1) := by decide +kernel
theorem d_7_8_5 : decode prog_7_method_8_code 5 = .ok (.getfield 16, 3) := by decide +kernel
theorem d_7_8_8 : decode prog_7_method_8_code 8 = .ok (.i2l, 1) := by decide +kernel
theorem d_7_8_9 : decode prog_7_method_8_code 9 = .ok (.lconst 1, 1) := by decide +kernel
theorem d_7_8_10 : decode prog_7_method_8_code 10 = .ok (.ladd, 1) := by decide +kernel
theorem d_7_8_11 : decode prog_7_method_8_code 11 = .ok (.aload_n 0, 1) := by decide +kernel
theorem d_7_8_12 : decode prog_7_method_8_code 12 = .ok (.getfield 7, 3) := by decide +kernel
theorem d_7_8_15 : decode prog_7_method_8_code 15 = .ok (.lshl, 1) := by decide +kernel
theorem d_7_8_16 : decode prog_7_method_8_code 16 = .ok (.goto 4, 3) := by decide +kernel
theorem d_7_8_20 : decode prog_7_method_8_code 20 = .ok (.lreturn, 1) := by decide +kernel
def y_Flo_signBit : MethodName := ⟨"NumberHouse$Floats", "signBit", "(Z)J"⟩
set_option maxRecDepth 100000 in
set_option maxHeartbeats 4000000 in
theorem c_Flo_signBit (l : Launch) (D : va_G) (g : Nat → ClassId) (ws : va_W) (kO0 qO0 qO1 : Nat) (hO0 : ws[kO0]? = (some (qO0, .inr (6, [.int 23, .int 150, .int 255, .long 0, .int 0, .ref qO1, .int 0])) : Option (Nat × va_E))) : q_mL l y_Flo_signBit prog_7_method_8_code 2 1 0 0 D g [.ref qO0, .int 1] ws (fun r u => 2147483648 = r ∧ ws = u) := by
  intro sz
  refine q_into (by decide) (Nat.le_of_ble_eq_true rfl) ?_
  intro p e s m below meth c ls hsz C0 V hl
  have hx := C0.1
  have hb := C0.2.1
  have hl : lv_has ls 2 [(0, .ref qO0), (1, .int 1)] := hl
  refine lv_iload_n hx hb d_7_8_0 rfl (lv_at hl 1 rfl) ?_
  refine lv_if_eq (tgt := 19) hx hb d_7_8_1 (by decide) (fun c1 => absurd c1 (by decide)) (fun c1 => ?_)
  refine lv_aload_n hx hb d_7_8_4 rfl (lv_at hl 0 rfl) ?_
  refine q_get (ci := 6) (j := 2) (v := .int 255) C0 V i_Flo rfl rfl hO0 (by decide) w_234 rfl d_7_8_5 ?_
  refine lv_i2l hx hb d_7_8_8 rfl ?_
  refine q_tl (v := 255) (by decide) ?_
  refine lv_lconst (v := 1) hx hb d_7_8_9 (by decide) ?_
  refine lv_ladd hx hb d_7_8_10 ?_
  refine q_tl (v := 256) (by decide) ?_
  refine lv_aload_n hx hb d_7_8_11 rfl (lv_at hl 0 rfl) ?_
  refine q_get (ci := 6) (j := 0) (v := .int 23) C0 V i_Flo rfl rfl hO0 (by decide) w_231 rfl d_7_8_12 ?_
  refine lv_lshl hx hb d_7_8_15 rfl ?_
  refine q_tl (v := 2147483648) (by decide) ?_
  refine lv_goto (tgt := 20) hx hb d_7_8_16 (by decide) ?_
  exact q_retl C0 V (⟨rfl, rfl⟩) d_7_8_20
theorem d_7_4_0 : decode prog_7_method_4_code 0 = .ok (.lload_n 1, 1) := by decide +kernel
theorem d_7_4_1 : decode prog_7_method_4_code 1 = .ok (.aload_n 0, 1) := by decide +kernel
theorem d_7_4_2 : decode prog_7_method_4_code 2 = .ok (.iconst 1, 1) := by decide +kernel
theorem d_7_4_3 : decode prog_7_method_4_code 3 = .ok (.invokevirtual 23, 3) := by decide +kernel
theorem w_714 : (Cond.code ({ cls := "NumberHouse$Floats", name := "signBit", desc := "(Z)J" } : MethodName) prog_7_method_8_code (2 : Nat) (some .long)) ∈ q_tbl := q_of 714 (by decide +kernel) (by decide +kernel)
theorem w_1240 : (Cond.methodLink "NumberHouse$Floats" (23 : Nat) ({ cls := "NumberHouse$Floats", name := "signBit", desc := "(Z)J" } : MethodName)) ∈ q_tbl := q_of 1240 (by decide +kernel) (by decide +kernel)
theorem w_712 : (Cond.instanceMethod ({ cls := "NumberHouse$Floats", name := "signBit", desc := "(Z)J" } : MethodName)) ∈ q_tbl := q_of 712 (by decide +kernel) (by decide +kernel)
theorem w_713 : (Cond.selects "NumberHouse$Floats" ({ cls := "NumberHouse$Floats", name := "signBit", desc := "(Z)J" } : MethodName) ({ cls := "NumberHouse$Floats", name := "signBit", desc := "(Z)J" } : MethodName)) ∈ q_tbl := q_of 713 (by decide +kernel) (by decide +kernel)
theorem LV_Flo_23 : q_LV "NumberHouse$Floats" 23 y_Flo_signBit prog_7_method_8_code 2 (some .long) 1 := ⟨w_714, w_8, w_1240, w_712, w_713, ⟨by decide, by decide, by decide +kernel⟩⟩
theorem d_7_4_6 : decode prog_7_method_4_code 6 = .ok (.land, 1) := by decide +kernel
theorem d_7_4_7 : decode prog_7_method_4_code 7 = .ok (.lconst 0, 1) := by decide +kernel
theorem d_7_4_8 : decode prog_7_method_4_code 8 = .ok (.lcmp, 1) := by decide +kernel
theorem d_7_4_9 : decode prog_7_method_4_code 9 = .ok (.ifCond .eq 7, 3) := by decide +kernel
theorem d_7_4_16 : decode prog_7_method_4_code 16 = .ok (.iconst 0, 1) := by decide +kernel
theorem d_7_4_17 : decode prog_7_method_4_code 17 = .ok (.ireturn, 1) := by decide +kernel
def y_Flo_isNegative : MethodName := ⟨"NumberHouse$Floats", "isNegative", "(J)Z"⟩
set_option maxRecDepth 100000 in
set_option maxHeartbeats 4000000 in
theorem c_Flo_isNegative (l : Launch) (D : va_G) (g : Nat → ClassId) (ws : va_W) (kO0 qO0 qO1 : Nat) (hO0 : ws[kO0]? = (some (qO0, .inr (6, [.int 23, .int 150, .int 255, .long 0, .int 0, .ref qO1, .int 0])) : Option (Nat × va_E))) : q_mI l y_Flo_isNegative prog_7_method_4_code 3 (.boolean) 2 0 0 D g [.ref qO0, .long 0] ws (fun r u => 0 = r ∧ ws = u) := by
  intro sz
  refine q_into (by decide) (Nat.le_of_ble_eq_true rfl) ?_
  intro p e s m below meth c ls hsz C0 V hl
  have hx := C0.1
  have hb := C0.2.1
  have hl : lv_has ls 3 [(0, .ref qO0), (1, .long 0)] := hl
  refine lv_lload_n hx hb d_7_4_0 rfl (lv_at hl 1 rfl) ?_
  refine lv_aload_n hx hb d_7_4_1 rfl (lv_at hl 0 rfl) ?_
  refine lv_iconst (v := 1) hx hb d_7_4_2 (by decide) ?_
  refine q_gol V (q_runV (As := [.int 1]) (rest := [.long 0]) (d := 1) (mc := 0) (ms := 0) (ci := 6) C0 V rfl LV_Flo_23 (c_Flo_signBit l D g ws kO0 qO0 qO1 hO0 _) rfl rfl hO0 rfl hl.1 rfl (Nat.le_of_ble_eq_true rfl) ⟨by decide, by decide⟩ ⟨Nat.le_of_ble_eq_true rfl, Nat.le_of_ble_eq_true rfl⟩ d_7_4_3) (fun v3 u2 H locs hp1 V => ?_)
  obtain ⟨rfl, rfl⟩ := hp1
  refine lv_land hx hb d_7_4_6 ?_
  refine q_tl (v := 0) (by decide) ?_
  refine lv_lconst (v := 0) hx hb d_7_4_7 (by decide) ?_
  refine W.lcmp hx hb d_7_4_8 ?_
  refine q_ti (v := 0) (by decide) ?_
  refine lv_if_eq (tgt := 16) hx hb d_7_4_9 (by decide) (fun c5 => ?_) (fun c5 => absurd (by decide) c5)
  refine lv_iconst (v := 0) hx hb d_7_4_16 (by decide) ?_
  exact q_retz C0 V (rfl) (⟨rfl, rfl⟩) d_7_4_17
theorem d_7_11_0 : decode prog_7_method_11_code 0 = .ok (.lload_n 1, 1) := by decide +kernel
theorem d_7_11_1 : decode prog_7_method_11_code 1 = .ok (.aload_n 0, 1) := by decide +kernel
theorem d_7_11_2 : decode prog_7_method_11_code 2 = .ok (.iconst 1, 1) := by decide +kernel
theorem d_7_11_3 : decode prog_7_method_11_code 3 = .ok (.invokevirtual 23, 3) := by decide +kernel
theorem d_7_11_6 : decode prog_7_method_11_code 6 = .ok (.lconst 1, 1) := by decide +kernel
theorem d_7_11_7 : decode prog_7_method_11_code 7 = .ok (.lsub, 1) := by decide +kernel
theorem d_7_11_8 : decode prog_7_method_11_code 8 = .ok (.land, 1) := by decide +kernel
theorem d_7_11_9 : decode prog_7_method_11_code 9 = .ok (.lstore_n 3, 1) := by decide +kernel
theorem d_7_11_10 : decode prog_7_method_11_code 10 = .ok (.aload_n 0, 1) := by decide +kernel
theorem d_7_11_11 : decode prog_7_method_11_code 11 = .ok (.lload_n 1, 1) := by decide +kernel
theorem d_7_11_12 : decode prog_7_method_11_code 12 = .ok (.invokevirtual 43, 3) := by decide +kernel
theorem w_1244 : (Cond.code ({ cls := "NumberHouse$Floats", name := "isNegative", desc := "(J)Z" } : MethodName) prog_7_method_4_code (3 : Nat) (some .boolean)) ∈ q_tbl := q_of 1244 (by decide +kernel) (by decide +kernel)
theorem w_1241 : (Cond.methodLink "NumberHouse$Floats" (43 : Nat) ({ cls := "NumberHouse$Floats", name := "isNegative", desc := "(J)Z" } : MethodName)) ∈ q_tbl := q_of 1241 (by decide +kernel) (by decide +kernel)
theorem w_1242 : (Cond.instanceMethod ({ cls := "NumberHouse$Floats", name := "isNegative", desc := "(J)Z" } : MethodName)) ∈ q_tbl := q_of 1242 (by decide +kernel) (by decide +kernel)
theorem w_1243 : (Cond.selects "NumberHouse$Floats" ({ cls := "NumberHouse$Floats", name := "isNegative", desc := "(J)Z" } : MethodName) ({ cls := "NumberHouse$Floats", name := "isNegative", desc := "(J)Z" } : MethodName)) ∈ q_tbl := q_of 1243 (by decide +kernel) (by decide +kernel)
theorem LV_Flo_43 : q_LV "NumberHouse$Floats" 43 y_Flo_isNegative prog_7_method_4_code 3 (some .boolean) 1 := ⟨w_1244, w_8, w_1241, w_1242, w_1243, ⟨by decide, by decide, by decide +kernel⟩⟩
theorem d_7_11_15 : decode prog_7_method_11_code 15 = .ok (.ifCond .eq 8, 3) := by decide +kernel
theorem d_7_11_23 : decode prog_7_method_11_code 23 = .ok (.lload_n 3, 1) := by decide +kernel
theorem d_7_11_24 : decode prog_7_method_11_code 24 = .ok (.lreturn, 1) := by decide +kernel
def y_Flo_place : MethodName := ⟨"NumberHouse$Floats", "place", "(J)J"⟩
set_option maxRecDepth 100000 in
set_option maxHeartbeats 4000000 in
theorem c_Flo_place (l : Launch) (D : va_G) (g : Nat → ClassId) (ws : va_W) (kO0 qO0 qO1 : Nat) (hO0 : ws[kO0]? = (some (qO0, .inr (6, [.int 23, .int 150, .int 255, .long 0, .int 0, .ref qO1, .int 0])) : Option (Nat × va_E))) : q_mL l y_Flo_place prog_7_method_11_code 5 3 0 0 D g [.ref qO0, .long 0] ws (fun r u => 0 = r ∧ ws = u) := by
  intro sz
  refine q_into (by decide) (Nat.le_of_ble_eq_true rfl) ?_
  intro p e s m below meth c ls hsz C0 V hl
  have hx := C0.1
  have hb := C0.2.1
  have hl : lv_has ls 5 [(0, .ref qO0), (1, .long 0)] := hl
  refine lv_lload_n hx hb d_7_11_0 rfl (lv_at hl 1 rfl) ?_
  refine lv_aload_n hx hb d_7_11_1 rfl (lv_at hl 0 rfl) ?_
  refine lv_iconst (v := 1) hx hb d_7_11_2 (by decide) ?_
  refine q_gol V (q_runV (As := [.int 1]) (rest := [.long 0]) (d := 1) (mc := 0) (ms := 0) (ci := 6) C0 V rfl LV_Flo_23 (c_Flo_signBit l D g ws kO0 qO0 qO1 hO0 _) rfl rfl hO0 rfl hl.1 rfl (Nat.le_of_ble_eq_true rfl) ⟨by decide, by decide⟩ ⟨Nat.le_of_ble_eq_true rfl, Nat.le_of_ble_eq_true rfl⟩ d_7_11_3) (fun v3 u2 H locs hp1 V => ?_)
  obtain ⟨rfl, rfl⟩ := hp1
  refine lv_lconst (v := 1) hx hb d_7_11_6 (by decide) ?_
  refine lv_lsub hx hb d_7_11_7 ?_
  refine q_tl (v := 2147483647) (by decide) ?_
  refine lv_land hx hb d_7_11_8 ?_
  refine q_tl (v := 0) (by decide) ?_
  refine lv_lstore_n (lv' := [(3, .long 0), (0, .ref qO0), (1, .long 0)]) hx hb d_7_11_9 rfl hl (by decide) rfl (fun ls hl => ?_)
  refine lv_aload_n hx hb d_7_11_10 rfl (lv_at hl 1 rfl) ?_
  refine lv_lload_n hx hb d_7_11_11 rfl (lv_at hl 2 rfl) ?_
  refine q_goi V (q_runV (As := [.long 0]) (rest := []) (d := 2) (mc := 0) (ms := 0) (ci := 6) C0 V rfl LV_Flo_43 (c_Flo_isNegative l D g ws kO0 qO0 qO1 hO0 _) rfl rfl hO0 rfl hl.1 rfl (Nat.le_of_ble_eq_true rfl) ⟨by decide, by decide⟩ ⟨Nat.le_of_ble_eq_true rfl, Nat.le_of_ble_eq_true rfl⟩ d_7_11_12) (fun v7 u6 H locs hp5 V => ?_)
  obtain ⟨rfl, rfl⟩ := hp5
  refine lv_if_eq (tgt := 23) hx hb d_7_11_15 (by decide) (fun c9 => ?_) (fun c9 => absurd (by decide) c9)
  refine lv_lload_n hx hb d_7_11_23 rfl (lv_at hl 0 rfl) ?_
  exact q_retl C0 V (⟨rfl, rfl⟩) d_7_11_24
theorem d_28_42_0 : decode prog_28_method_42_code 0 = .ok (.lload_n 0, 1) := by decide +kernel
theorem d_28_42_1 : decode prog_28_method_42_code 1 = .ok (.lload_n 2, 1) := by decide +kernel
theorem d_28_42_2 : decode prog_28_method_42_code 2 = .ok (.lcmp, 1) := by decide +kernel
theorem d_28_42_3 : decode prog_28_method_42_code 3 = .ok (.ifCond .ge 7, 3) := by decide +kernel
theorem d_28_42_10 : decode prog_28_method_42_code 10 = .ok (.lload_n 0, 1) := by decide +kernel
theorem d_28_42_11 : decode prog_28_method_42_code 11 = .ok (.lload_n 2, 1) := by decide +kernel
theorem d_28_42_12 : decode prog_28_method_42_code 12 = .ok (.lcmp, 1) := by decide +kernel
theorem d_28_42_13 : decode prog_28_method_42_code 13 = .ok (.ifCond .ne 7, 3) := by decide +kernel
theorem d_28_42_16 : decode prog_28_method_42_code 16 = .ok (.iconst 0, 1) := by decide +kernel
theorem d_28_42_17 : decode prog_28_method_42_code 17 = .ok (.goto 4, 3) := by decide +kernel
theorem d_28_42_21 : decode prog_28_method_42_code 21 = .ok (.ireturn, 1) := by decide +kernel
def y_jLong_compare : MethodName := ⟨"java/lang/Long", "compare", "(JJ)I"⟩
set_option maxRecDepth 100000 in
set_option maxHeartbeats 4000000 in
theorem c_jLong_compare (l : Launch) (D : va_G) (g : Nat → ClassId) (ws : va_W) : q_mI l y_jLong_compare prog_28_method_42_code 4 (.int) 1 0 0 D g [.long 0, .long 0] ws (fun r u => 0 = r ∧ ws = u) := by
  intro sz
  refine q_into (by decide) (Nat.le_of_ble_eq_true rfl) ?_
  intro p e s m below meth c ls hsz C0 V hl
  have hx := C0.1
  have hb := C0.2.1
  have hl : lv_has ls 4 [(0, .long 0), (2, .long 0)] := hl
  refine lv_lload_n hx hb d_28_42_0 rfl (lv_at hl 0 rfl) ?_
  refine lv_lload_n hx hb d_28_42_1 rfl (lv_at hl 1 rfl) ?_
  refine W.lcmp hx hb d_28_42_2 ?_
  refine q_ti (v := 0) (by decide) ?_
  refine lv_if_ge (tgt := 10) hx hb d_28_42_3 (by decide) (fun c1 => ?_) (fun c1 => absurd (by decide) c1)
  refine lv_lload_n hx hb d_28_42_10 rfl (lv_at hl 0 rfl) ?_
  refine lv_lload_n hx hb d_28_42_11 rfl (lv_at hl 1 rfl) ?_
  refine W.lcmp hx hb d_28_42_12 ?_
  refine q_ti (v := 0) (by decide) ?_
  refine lv_if_ne (tgt := 20) hx hb d_28_42_13 (by decide) (fun c2 => absurd (by decide) c2) (fun c2 => ?_)
  refine lv_iconst (v := 0) hx hb d_28_42_16 (by decide) ?_
  refine lv_goto (tgt := 21) hx hb d_28_42_17 (by decide) ?_
  exact q_reti C0 V (⟨rfl, rfl⟩) d_28_42_21
theorem d_1_31_5 : decode prog_1_method_31_code 5 = .ok (.aload_n 0, 1) := by decide +kernel
theorem d_1_31_6 : decode prog_1_method_31_code 6 = .ok (.getfield 33, 3) := by decide +kernel
theorem d_1_31_9 : decode prog_1_method_31_code 9 = .ok (.goto 7, 3) := by decide +kernel
set_option maxRecDepth 100000 in
set_option maxHeartbeats 4000000 in
theorem c_NH_floatRow_2 (l : Launch) (D : va_G) (g : Nat → ClassId) (ws : va_W) ( qO0 qO1 qO2 qA3 qA4 qA5 qA6 qO7 qO8 qO9 qO10 qO11 qO12 qO13 qO14 : Nat) (hO0 : ws[0]? = (some (qO0, .inr (0, [.ref qO1, .ref qO2, .ref qA3, .ref qA4, .ref qA5, .ref qA6, .ref qO7, .ref qO8, .ref qO9, .ref qO10, .ref qO11, .ref qO12, .ref qO13, .ref qO14])) : Option (Nat × va_E))) : q_mR l y_NH_floatRow prog_1_method_31_code 2 (.array .long) 1 0 0 D g [.ref qO0, .int 2] ws (fun r u => qA5 = r ∧ ws = u) := by
  intro sz
  refine q_into (by decide) (Nat.le_of_ble_eq_true rfl) ?_
  intro p e s m below meth c ls hsz C0 V hl
  have hx := C0.1
  have hb := C0.2.1
  have hl : lv_has ls 2 [(0, .ref qO0), (1, .int 2)] := hl
  refine lv_iload_n hx hb d_1_31_0 rfl (lv_at hl 1 rfl) ?_
  refine lv_iconst (v := 2) hx hb d_1_31_1 (by decide) ?_
  refine lv_icmp_ne (tgt := 12) hx hb d_1_31_2 (by decide) (fun c1 => absurd (by decide) c1) (fun c1 => ?_)
  refine lv_aload_n hx hb d_1_31_5 rfl (lv_at hl 0 rfl) ?_
  refine q_get (ci := 0) (j := 4) (v := .ref qA5) C0 V i_NH rfl rfl hO0 (by decide) w_428 rfl d_1_31_6 ?_
  refine lv_goto (tgt := 16) hx hb d_1_31_9 (by decide) ?_
  exact q_retr (post := fun r u => qA5 = r ∧ ws = u) C0 V (Or.inr ⟨_, rfl⟩) (⟨rfl, rfl⟩) d_1_31_16
set_option maxRecDepth 100000 in
set_option maxHeartbeats 4000000 in
theorem c_Flo_exponent_2 (l : Launch) (D : va_G) (g : Nat → ClassId) (ws : va_W) (kO0 qO0 qO1 : Nat) (hO0 : ws[kO0]? = (some (qO0, .inr (6, [.int 52, .int 1075, .int 2047, .long 0, .int 0, .ref qO1, .int 0])) : Option (Nat × va_E))) : q_mI l y_Flo_exponent prog_7_method_2_code 3 (.int) 1 0 0 D g [.ref qO0, .long 0] ws (fun r u => 0 = r ∧ ws = u) := by
  intro sz
  refine q_into (by decide) (Nat.le_of_ble_eq_true rfl) ?_
  intro p e s m below meth c ls hsz C0 V hl
  have hx := C0.1
  have hb := C0.2.1
  have hl : lv_has ls 3 [(0, .ref qO0), (1, .long 0)] := hl
  refine lv_lload_n hx hb d_7_2_0 rfl (lv_at hl 1 rfl) ?_
  refine lv_aload_n hx hb d_7_2_1 rfl (lv_at hl 0 rfl) ?_
  refine q_get (ci := 6) (j := 0) (v := .int 52) C0 V i_Flo rfl rfl hO0 (by decide) w_231 rfl d_7_2_2 ?_
  refine lv_lushr hx hb d_7_2_5 rfl ?_
  refine q_tl (v := 0) (by decide) ?_
  refine lv_l2i hx hb d_7_2_6 rfl ?_
  refine q_ti (v := 0) (by decide) ?_
  refine lv_aload_n hx hb d_7_2_7 rfl (lv_at hl 0 rfl) ?_
  refine q_get (ci := 6) (j := 2) (v := .int 2047) C0 V i_Flo rfl rfl hO0 (by decide) w_234 rfl d_7_2_8 ?_
  refine lv_iand hx hb d_7_2_11 ?_
  refine q_ti (v := 0) (by decide) ?_
  exact q_reti C0 V (⟨rfl, rfl⟩) d_7_2_12
set_option maxRecDepth 100000 in
set_option maxHeartbeats 4000000 in
theorem c_Flo_isFinite_2 (l : Launch) (D : va_G) (g : Nat → ClassId) (ws : va_W) (kO0 qO0 qO1 : Nat) (hO0 : ws[kO0]? = (some (qO0, .inr (6, [.int 52, .int 1075, .int 2047, .long 0, .int 0, .ref qO1, .int 0])) : Option (Nat × va_E))) : q_mI l y_Flo_isFinite prog_7_method_5_code 3 (.boolean) 2 0 0 D g [.ref qO0, .long 0] ws (fun r u => 1 = r ∧ ws = u) := by
  intro sz
  refine q_into (by decide) (Nat.le_of_ble_eq_true rfl) ?_
  intro p e s m below meth c ls hsz C0 V hl
  have hx := C0.1
  have hb := C0.2.1
  have hl : lv_has ls 3 [(0, .ref qO0), (1, .long 0)] := hl
  refine lv_aload_n hx hb d_7_5_0 rfl (lv_at hl 0 rfl) ?_
  refine lv_lload_n hx hb d_7_5_1 rfl (lv_at hl 1 rfl) ?_
  refine q_goi V (q_runV (As := [.long 0]) (rest := []) (d := 1) (mc := 0) (ms := 0) (ci := 6) C0 V rfl LV_Flo_27 (c_Flo_exponent_2 l D g ws kO0 qO0 qO1 hO0 _) rfl rfl hO0 rfl hl.1 rfl (Nat.le_of_ble_eq_true rfl) ⟨by decide, by decide⟩ ⟨Nat.le_of_ble_eq_true rfl, Nat.le_of_ble_eq_true rfl⟩ d_7_5_2) (fun v3 u2 H locs hp1 V => ?_)
  obtain ⟨rfl, rfl⟩ := hp1
  refine lv_aload_n hx hb d_7_5_5 rfl (lv_at hl 0 rfl) ?_
  refine q_get (ci := 6) (j := 2) (v := .int 2047) C0 V i_Flo rfl rfl hO0 (by decide) w_234 rfl d_7_5_6 ?_
  refine lv_icmp_eq (tgt := 16) hx hb d_7_5_9 (by decide) (fun c5 => absurd c5 (by decide)) (fun c5 => ?_)
  refine lv_iconst (v := 1) hx hb d_7_5_12 (by decide) ?_
  refine lv_goto (tgt := 17) hx hb d_7_5_13 (by decide) ?_
  exact q_retz C0 V (rfl) (⟨rfl, rfl⟩) d_7_5_17
set_option maxRecDepth 100000 in
set_option maxHeartbeats 4000000 in
theorem c_Flo_isNoNumber_2 (l : Launch) (D : va_G) (g : Nat → ClassId) (ws : va_W) (kO0 qO0 qO1 : Nat) (hO0 : ws[kO0]? = (some (qO0, .inr (6, [.int 52, .int 1075, .int 2047, .long 0, .int 0, .ref qO1, .int 0])) : Option (Nat × va_E))) : q_mI l y_Flo_isNoNumber prog_7_method_6_code 3 (.boolean) 3 0 0 D g [.ref qO0, .long 0] ws (fun r u => 0 = r ∧ ws = u) := by
  intro sz
  refine q_into (by decide) (Nat.le_of_ble_eq_true rfl) ?_
  intro p e s m below meth c ls hsz C0 V hl
  have hx := C0.1
  have hb := C0.2.1
  have hl : lv_has ls 3 [(0, .ref qO0), (1, .long 0)] := hl
  refine lv_aload_n hx hb d_7_6_0 rfl (lv_at hl 0 rfl) ?_
  refine lv_lload_n hx hb d_7_6_1 rfl (lv_at hl 1 rfl) ?_
  refine q_goi V (q_runV (As := [.long 0]) (rest := []) (d := 2) (mc := 0) (ms := 0) (ci := 6) C0 V rfl LV_Flo_31 (c_Flo_isFinite_2 l D g ws kO0 qO0 qO1 hO0 _) rfl rfl hO0 rfl hl.1 rfl (Nat.le_of_ble_eq_true rfl) ⟨by decide, by decide⟩ ⟨Nat.le_of_ble_eq_true rfl, Nat.le_of_ble_eq_true rfl⟩ d_7_6_2) (fun v3 u2 H locs hp1 V => ?_)
  obtain ⟨rfl, rfl⟩ := hp1
  refine lv_if_ne (tgt := 22) hx hb d_7_6_5 (by decide) (fun c5 => ?_) (fun c5 => absurd c5 (by decide))
  refine lv_iconst (v := 0) hx hb d_7_6_22 (by decide) ?_
  exact q_retz C0 V (rfl) (⟨rfl, rfl⟩) d_7_6_23
set_option maxRecDepth 100000 in
set_option maxHeartbeats 4000000 in
theorem c_Flo_signBit_2 (l : Launch) (D : va_G) (g : Nat → ClassId) (ws : va_W) (kO0 qO0 qO1 : Nat) (hO0 : ws[kO0]? = (some (qO0, .inr (6, [.int 52, .int 1075, .int 2047, .long 0, .int 0, .ref qO1, .int 0])) : Option (Nat × va_E))) : q_mL l y_Flo_signBit prog_7_method_8_code 2 1 0 0 D g [.ref qO0, .int 1] ws (fun r u => (-9223372036854775808) = r ∧ ws = u) := by
  intro sz
  refine q_into (by decide) (Nat.le_of_ble_eq_true rfl) ?_
  intro p e s m below meth c ls hsz C0 V hl
  have hx := C0.1
  have hb := C0.2.1
  have hl : lv_has ls 2 [(0, .ref qO0), (1, .int 1)] := hl
  refine lv_iload_n hx hb d_7_8_0 rfl (lv_at hl 1 rfl) ?_
  refine lv_if_eq (tgt := 19) hx hb d_7_8_1 (by decide) (fun c1 => absurd c1 (by decide)) (fun c1 => ?_)
  refine lv_aload_n hx hb d_7_8_4 rfl (lv_at hl 0 rfl) ?_
  refine q_get (ci := 6) (j := 2) (v := .int 2047) C0 V i_Flo rfl rfl hO0 (by decide) w_234 rfl d_7_8_5 ?_
  refine lv_i2l hx hb d_7_8_8 rfl ?_
  refine q_tl (v := 2047) (by decide) ?_
  refine lv_lconst (v := 1) hx hb d_7_8_9 (by decide) ?_
  refine lv_ladd hx hb d_7_8_10 ?_
  refine q_tl (v := 2048) (by decide) ?_
  refine lv_aload_n hx hb d_7_8_11 rfl (lv_at hl 0 rfl) ?_
  refine q_get (ci := 6) (j := 0) (v := .int 52) C0 V i_Flo rfl rfl hO0 (by decide) w_231 rfl d_7_8_12 ?_
  refine lv_lshl hx hb d_7_8_15 rfl ?_
  refine q_tl (v := (-9223372036854775808)) (by decide) ?_
  refine lv_goto (tgt := 20) hx hb d_7_8_16 (by decide) ?_
  exact q_retl C0 V (⟨rfl, rfl⟩) d_7_8_20
set_option maxRecDepth 100000 in
set_option maxHeartbeats 4000000 in
theorem c_Flo_isNegative_2 (l : Launch) (D : va_G) (g : Nat → ClassId) (ws : va_W) (kO0 qO0 qO1 : Nat) (hO0 : ws[kO0]? = (some (qO0, .inr (6, [.int 52, .int 1075, .int 2047, .long 0, .int 0, .ref qO1, .int 0])) : Option (Nat × va_E))) : q_mI l y_Flo_isNegative prog_7_method_4_code 3 (.boolean) 2 0 0 D g [.ref qO0, .long 0] ws (fun r u => 0 = r ∧ ws = u) := by
  intro sz
  refine q_into (by decide) (Nat.le_of_ble_eq_true rfl) ?_
  intro p e s m below meth c ls hsz C0 V hl
  have hx := C0.1
  have hb := C0.2.1
  have hl : lv_has ls 3 [(0, .ref qO0), (1, .long 0)] := hl
  refine lv_lload_n hx hb d_7_4_0 rfl (lv_at hl 1 rfl) ?_
  refine lv_aload_n hx hb d_7_4_1 rfl (lv_at hl 0 rfl) ?_
  refine lv_iconst (v := 1) hx hb d_7_4_2 (by decide) ?_
  refine q_gol V (q_runV (As := [.int 1]) (rest := [.long 0]) (d := 1) (mc := 0) (ms := 0) (ci := 6) C0 V rfl LV_Flo_23 (c_Flo_signBit_2 l D g ws kO0 qO0 qO1 hO0 _) rfl rfl hO0 rfl hl.1 rfl (Nat.le_of_ble_eq_true rfl) ⟨by decide, by decide⟩ ⟨Nat.le_of_ble_eq_true rfl, Nat.le_of_ble_eq_true rfl⟩ d_7_4_3) (fun v3 u2 H locs hp1 V => ?_)
  obtain ⟨rfl, rfl⟩ := hp1
  refine lv_land hx hb d_7_4_6 ?_
  refine q_tl (v := 0) (by decide) ?_
  refine lv_lconst (v := 0) hx hb d_7_4_7 (by decide) ?_
  refine W.lcmp hx hb d_7_4_8 ?_
  refine q_ti (v := 0) (by decide) ?_
  refine lv_if_eq (tgt := 16) hx hb d_7_4_9 (by decide) (fun c5 => ?_) (fun c5 => absurd (by decide) c5)
  refine lv_iconst (v := 0) hx hb d_7_4_16 (by decide) ?_
  exact q_retz C0 V (rfl) (⟨rfl, rfl⟩) d_7_4_17
set_option maxRecDepth 100000 in
set_option maxHeartbeats 4000000 in
theorem c_Flo_place_2 (l : Launch) (D : va_G) (g : Nat → ClassId) (ws : va_W) (kO0 qO0 qO1 : Nat) (hO0 : ws[kO0]? = (some (qO0, .inr (6, [.int 52, .int 1075, .int 2047, .long 0, .int 0, .ref qO1, .int 0])) : Option (Nat × va_E))) : q_mL l y_Flo_place prog_7_method_11_code 5 3 0 0 D g [.ref qO0, .long 0] ws (fun r u => 0 = r ∧ ws = u) := by
  intro sz
  refine q_into (by decide) (Nat.le_of_ble_eq_true rfl) ?_
  intro p e s m below meth c ls hsz C0 V hl
  have hx := C0.1
  have hb := C0.2.1
  have hl : lv_has ls 5 [(0, .ref qO0), (1, .long 0)] := hl
  refine lv_lload_n hx hb d_7_11_0 rfl (lv_at hl 1 rfl) ?_
  refine lv_aload_n hx hb d_7_11_1 rfl (lv_at hl 0 rfl) ?_
  refine lv_iconst (v := 1) hx hb d_7_11_2 (by decide) ?_
  refine q_gol V (q_runV (As := [.int 1]) (rest := [.long 0]) (d := 1) (mc := 0) (ms := 0) (ci := 6) C0 V rfl LV_Flo_23 (c_Flo_signBit_2 l D g ws kO0 qO0 qO1 hO0 _) rfl rfl hO0 rfl hl.1 rfl (Nat.le_of_ble_eq_true rfl) ⟨by decide, by decide⟩ ⟨Nat.le_of_ble_eq_true rfl, Nat.le_of_ble_eq_true rfl⟩ d_7_11_3) (fun v3 u2 H locs hp1 V => ?_)
  obtain ⟨rfl, rfl⟩ := hp1
  refine lv_lconst (v := 1) hx hb d_7_11_6 (by decide) ?_
  refine lv_lsub hx hb d_7_11_7 ?_
  refine q_tl (v := 9223372036854775807) (by decide) ?_
  refine lv_land hx hb d_7_11_8 ?_
  refine q_tl (v := 0) (by decide) ?_
  refine lv_lstore_n (lv' := [(3, .long 0), (0, .ref qO0), (1, .long 0)]) hx hb d_7_11_9 rfl hl (by decide) rfl (fun ls hl => ?_)
  refine lv_aload_n hx hb d_7_11_10 rfl (lv_at hl 1 rfl) ?_
  refine lv_lload_n hx hb d_7_11_11 rfl (lv_at hl 2 rfl) ?_
  refine q_goi V (q_runV (As := [.long 0]) (rest := []) (d := 2) (mc := 0) (ms := 0) (ci := 6) C0 V rfl LV_Flo_43 (c_Flo_isNegative_2 l D g ws kO0 qO0 qO1 hO0 _) rfl rfl hO0 rfl hl.1 rfl (Nat.le_of_ble_eq_true rfl) ⟨by decide, by decide⟩ ⟨Nat.le_of_ble_eq_true rfl, Nat.le_of_ble_eq_true rfl⟩ d_7_11_12) (fun v7 u6 H locs hp5 V => ?_)
  obtain ⟨rfl, rfl⟩ := hp5
  refine lv_if_eq (tgt := 23) hx hb d_7_11_15 (by decide) (fun c9 => ?_) (fun c9 => absurd (by decide) c9)
  refine lv_lload_n hx hb d_7_11_23 rfl (lv_at hl 0 rfl) ?_
  exact q_retl C0 V (⟨rfl, rfl⟩) d_7_11_24
theorem d_27_40_0 : decode prog_27_method_40_code 0 = .ok (.iload_n 0, 1) := by decide +kernel
theorem d_27_40_1 : decode prog_27_method_40_code 1 = .ok (.iload_n 1, 1) := by decide +kernel
theorem d_27_40_2 : decode prog_27_method_40_code 2 = .ok (.if_icmp .ge 7, 3) := by decide +kernel
theorem d_27_40_9 : decode prog_27_method_40_code 9 = .ok (.iload_n 0, 1) := by decide +kernel
theorem d_27_40_10 : decode prog_27_method_40_code 10 = .ok (.iload_n 1, 1) := by decide +kernel
theorem d_27_40_11 : decode prog_27_method_40_code 11 = .ok (.if_icmp .ne 7, 3) := by decide +kernel
theorem d_27_40_14 : decode prog_27_method_40_code 14 = .ok (.iconst 0, 1) := by decide +kernel
theorem d_27_40_15 : decode prog_27_method_40_code 15 = .ok (.goto 4, 3) := by decide +kernel
theorem d_27_40_19 : decode prog_27_method_40_code 19 = .ok (.ireturn, 1) := by decide +kernel
def y_jInt_compare : MethodName := ⟨"java/lang/Integer", "compare", "(II)I"⟩
set_option maxRecDepth 100000 in
set_option maxHeartbeats 4000000 in
theorem c_jInt_compare (l : Launch) (D : va_G) (g : Nat → ClassId) (ws : va_W) : q_mI l y_jInt_compare prog_27_method_40_code 2 (.int) 1 0 0 D g [.int 0, .int 0] ws (fun r u => 0 = r ∧ ws = u) := by
  intro sz
  refine q_into (by decide) (Nat.le_of_ble_eq_true rfl) ?_
  intro p e s m below meth c ls hsz C0 V hl
  have hx := C0.1
  have hb := C0.2.1
  have hl : lv_has ls 2 [(0, .int 0), (1, .int 0)] := hl
  refine lv_iload_n hx hb d_27_40_0 rfl (lv_at hl 0 rfl) ?_
  refine lv_iload_n hx hb d_27_40_1 rfl (lv_at hl 1 rfl) ?_
  refine lv_icmp_ge (tgt := 9) hx hb d_27_40_2 (by decide) (fun c1 => ?_) (fun c1 => absurd (by decide) c1)
  refine lv_iload_n hx hb d_27_40_9 rfl (lv_at hl 0 rfl) ?_
  refine lv_iload_n hx hb d_27_40_10 rfl (lv_at hl 1 rfl) ?_
  refine lv_icmp_ne (tgt := 18) hx hb d_27_40_11 (by decide) (fun c2 => absurd (by decide) c2) (fun c2 => ?_)
  refine lv_iconst (v := 0) hx hb d_27_40_14 (by decide) ?_
  refine lv_goto (tgt := 19) hx hb d_27_40_15 (by decide) ?_
  exact q_reti C0 V (⟨rfl, rfl⟩) d_27_40_19
theorem d_4_4_0 : decode prog_4_method_4_code 0 = .ok (.aload_n 1, 1) := by decide +kernel
theorem d_4_4_1 : decode prog_4_method_4_code 1 = .ok (.getfield 24, 3) := by decide +kernel
theorem d_4_4_4 : decode prog_4_method_4_code 4 = .ok (.invokevirtual 59, 3) := by decide +kernel
theorem w_1122 : (Cond.code ({ cls := "NumberHouse$Big", name := "sign", desc := "()I" } : MethodName) prog_2_method_8_code (1 : Nat) (some .int)) ∈ q_tbl := q_of 1122 (by decide +kernel) (by decide +kernel)
theorem w_1227 : (Cond.methodLink "NumberHouse$DecimalWork" (59 : Nat) ({ cls := "NumberHouse$Big", name := "sign", desc := "()I" } : MethodName)) ∈ q_tbl := q_of 1227 (by decide +kernel) (by decide +kernel)
theorem w_1120 : (Cond.instanceMethod ({ cls := "NumberHouse$Big", name := "sign", desc := "()I" } : MethodName)) ∈ q_tbl := q_of 1120 (by decide +kernel) (by decide +kernel)
theorem w_1121 : (Cond.selects "NumberHouse$Big" ({ cls := "NumberHouse$Big", name := "sign", desc := "()I" } : MethodName) ({ cls := "NumberHouse$Big", name := "sign", desc := "()I" } : MethodName)) ∈ q_tbl := q_of 1121 (by decide +kernel) (by decide +kernel)
theorem LV_DW_59 : q_LV "NumberHouse$DecimalWork" 59 y_Big_sign prog_2_method_8_code 1 (some .int) 0 := ⟨w_1122, w_4, w_1227, w_1120, w_1121, ⟨by decide, by decide, by decide +kernel⟩⟩
theorem d_4_4_7 : decode prog_4_method_4_code 7 = .ok (.aload_n 2, 1) := by decide +kernel
theorem d_4_4_8 : decode prog_4_method_4_code 8 = .ok (.getfield 24, 3) := by decide +kernel
theorem d_4_4_11 : decode prog_4_method_4_code 11 = .ok (.invokevirtual 59, 3) := by decide +kernel
theorem d_4_4_14 : decode prog_4_method_4_code 14 = .ok (.if_icmp .ne 13, 3) := by decide +kernel
theorem d_4_4_17 : decode prog_4_method_4_code 17 = .ok (.aload_n 1, 1) := by decide +kernel
theorem d_4_4_18 : decode prog_4_method_4_code 18 = .ok (.getfield 24, 3) := by decide +kernel
theorem d_4_4_21 : decode prog_4_method_4_code 21 = .ok (.getfield 63, 3) := by decide +kernel
theorem w_90 : (Cond.fieldLink "NumberHouse$DecimalWork" (63 : Nat) "NumberHouse$Big" "size" "I") ∈ q_tbl := q_of 90 (by decide +kernel) (by decide +kernel)
theorem d_4_4_24 : decode prog_4_method_4_code 24 = .ok (.ifCond .ne 21, 3) := by decide +kernel
theorem d_4_4_27 : decode prog_4_method_4_code 27 = .ok (.aload_n 1, 1) := by decide +kernel
theorem d_4_4_28 : decode prog_4_method_4_code 28 = .ok (.getfield 24, 3) := by decide +kernel
theorem d_4_4_31 : decode prog_4_method_4_code 31 = .ok (.invokevirtual 59, 3) := by decide +kernel
theorem d_4_4_34 : decode prog_4_method_4_code 34 = .ok (.aload_n 2, 1) := by decide +kernel
theorem d_4_4_35 : decode prog_4_method_4_code 35 = .ok (.getfield 24, 3) := by decide +kernel
theorem d_4_4_38 : decode prog_4_method_4_code 38 = .ok (.invokevirtual 59, 3) := by decide +kernel
theorem d_4_4_41 : decode prog_4_method_4_code 41 = .ok (.invokestatic 66, 3) := by decide +kernel
theorem w_783 : (Cond.code ({ cls := "java/lang/Integer", name := "compare", desc := "(II)I" } : MethodName) prog_27_method_40_code (2 : Nat) (some .int)) ∈ q_tbl := q_of 783 (by decide +kernel) (by decide +kernel)
theorem w_24 : (Cond.initialized "java/lang/Integer") ∈ q_tbl := q_of 24 (by decide +kernel) (by decide +kernel)
theorem w_1228 : (Cond.methodLink "NumberHouse$DecimalWork" (66 : Nat) ({ cls := "java/lang/Integer", name := "compare", desc := "(II)I" } : MethodName)) ∈ q_tbl := q_of 1228 (by decide +kernel) (by decide +kernel)
theorem w_782 : (Cond.static ({ cls := "java/lang/Integer", name := "compare", desc := "(II)I" } : MethodName)) ∈ q_tbl := q_of 782 (by decide +kernel) (by decide +kernel)
theorem LS_DW_66 : q_LS "NumberHouse$DecimalWork" 66 y_jInt_compare prog_27_method_40_code 2 (some .int) 2 := ⟨w_783, w_24, w_1228, w_782, ⟨by decide, by decide, by decide +kernel⟩⟩
theorem d_4_4_44 : decode prog_4_method_4_code 44 = .ok (.ireturn, 1) := by decide +kernel
def y_DW_order : MethodName := ⟨"NumberHouse$DecimalWork", "order", "(LNumberHouse$Dec;LNumberHouse$Dec;)I"⟩
set_option maxRecDepth 100000 in
set_option maxHeartbeats 4000000 in
theorem c_DW_order (l : Launch) (D : va_G) (g : Nat → ClassId) (ws : va_W) (kO1 kO2 kO5 kO6 qO0 qO1 qO2 qO5 qO6 qA18 qA19 : Nat) (hO1 : ws[kO1]? = (some (qO1, .inr (3, [.ref qO5, .int 0, .int 1])) : Option (Nat × va_E))) (hO2 : ws[kO2]? = (some (qO2, .inr (3, [.ref qO6, .int 0, .int 1])) : Option (Nat × va_E))) (hO5 : ws[kO5]? = (some (qO5, .inr (2, [.ref qA18, .int 0, .int 0])) : Option (Nat × va_E))) (hO6 : ws[kO6]? = (some (qO6, .inr (2, [.ref qA19, .int 0, .int 0])) : Option (Nat × va_E))) : q_mI l y_DW_order prog_4_method_4_code 6 (.int) 2 0 0 D g [.ref qO0, .ref qO1, .ref qO2] ws (fun r u => 0 = r ∧ ws = u) := by
  intro sz
  refine q_into (by decide) (Nat.le_of_ble_eq_true rfl) ?_
  intro p e s m below meth c ls hsz C0 V hl
  have hx := C0.1
  have hb := C0.2.1
  have hl : lv_has ls 6 [(0, .ref qO0), (1, .ref qO1), (2, .ref qO2)] := hl
  refine lv_aload_n hx hb d_4_4_0 rfl (lv_at hl 1 rfl) ?_
  refine q_get (ci := 3) (j := 0) (v := .ref qO5) C0 V i_Dec rfl rfl hO1 (by decide) w_171 rfl d_4_4_1 ?_
  refine q_goi V (q_runV (As := []) (rest := []) (d := 1) (mc := 0) (ms := 0) (ci := 2) C0 V rfl LV_DW_59 (c_Big_sign l D g ws kO5 qO5 qA18 0 0 hO5 _) rfl rfl hO5 rfl hl.1 rfl (Nat.le_of_ble_eq_true rfl) ⟨by decide, by decide⟩ ⟨Nat.le_of_ble_eq_true rfl, Nat.le_of_ble_eq_true rfl⟩ d_4_4_4) (fun v3 u2 H locs hp1 V => ?_)
  rcases hp1 with ⟨c4, c5, rfl, rfl⟩ | ⟨c7, c8, rfl, rfl⟩ | ⟨c10, rfl, rfl⟩
  ·
    exact absurd c4 (by decide)
  ·
    exact absurd c7 (by decide)
  ·
    refine lv_aload_n hx hb d_4_4_7 rfl (lv_at hl 2 rfl) ?_
    refine q_get (ci := 3) (j := 0) (v := .ref qO6) C0 V i_Dec rfl rfl hO2 (by decide) w_171 rfl d_4_4_8 ?_
    refine q_goi V (q_runV (As := []) (rest := [.int 0]) (d := 1) (mc := 0) (ms := 0) (ci := 2) C0 V rfl LV_DW_59 (c_Big_sign l D g ws kO6 qO6 qA19 0 0 hO6 _) rfl rfl hO6 rfl hl.1 rfl (Nat.le_of_ble_eq_true rfl) ⟨by decide, by decide⟩ ⟨Nat.le_of_ble_eq_true rfl, Nat.le_of_ble_eq_true rfl⟩ d_4_4_11) (fun v14 u13 H locs hp12 V => ?_)
    rcases hp12 with ⟨c15, c16, rfl, rfl⟩ | ⟨c18, c19, rfl, rfl⟩ | ⟨c21, rfl, rfl⟩
    ·
      exact absurd c15 (by decide)
    ·
      exact absurd c18 (by decide)
    ·
      refine lv_icmp_ne (tgt := 27) hx hb d_4_4_14 (by decide) (fun c23 => absurd (by decide) c23) (fun c23 => ?_)
      refine lv_aload_n hx hb d_4_4_17 rfl (lv_at hl 1 rfl) ?_
      refine q_get (ci := 3) (j := 0) (v := .ref qO5) C0 V i_Dec rfl rfl hO1 (by decide) w_171 rfl d_4_4_18 ?_
      refine q_get (ci := 2) (j := 1) (v := .int 0) C0 V i_Big rfl rfl hO5 (by decide) w_90 rfl d_4_4_21 ?_
      refine lv_if_ne (tgt := 45) hx hb d_4_4_24 (by decide) (fun c24 => absurd (by decide) c24) (fun c24 => ?_)
      refine lv_aload_n hx hb d_4_4_27 rfl (lv_at hl 1 rfl) ?_
      refine q_get (ci := 3) (j := 0) (v := .ref qO5) C0 V i_Dec rfl rfl hO1 (by decide) w_171 rfl d_4_4_28 ?_
      refine q_goi V (q_runV (As := []) (rest := []) (d := 1) (mc := 0) (ms := 0) (ci := 2) C0 V rfl LV_DW_59 (c_Big_sign l D g ws kO5 qO5 qA18 0 0 hO5 _) rfl rfl hO5 rfl hl.1 rfl (Nat.le_of_ble_eq_true rfl) ⟨by decide, by decide⟩ ⟨Nat.le_of_ble_eq_true rfl, Nat.le_of_ble_eq_true rfl⟩ d_4_4_31) (fun v27 u26 H locs hp25 V => ?_)
      rcases hp25 with ⟨c28, c29, rfl, rfl⟩ | ⟨c31, c32, rfl, rfl⟩ | ⟨c34, rfl, rfl⟩
      ·
        exact absurd c28 (by decide)
      ·
        exact absurd c31 (by decide)
      ·
        refine lv_aload_n hx hb d_4_4_34 rfl (lv_at hl 2 rfl) ?_
        refine q_get (ci := 3) (j := 0) (v := .ref qO6) C0 V i_Dec rfl rfl hO2 (by decide) w_171 rfl d_4_4_35 ?_
        refine q_goi V (q_runV (As := []) (rest := [.int 0]) (d := 1) (mc := 0) (ms := 0) (ci := 2) C0 V rfl LV_DW_59 (c_Big_sign l D g ws kO6 qO6 qA19 0 0 hO6 _) rfl rfl hO6 rfl hl.1 rfl (Nat.le_of_ble_eq_true rfl) ⟨by decide, by decide⟩ ⟨Nat.le_of_ble_eq_true rfl, Nat.le_of_ble_eq_true rfl⟩ d_4_4_38) (fun v38 u37 H locs hp36 V => ?_)
        rcases hp36 with ⟨c39, c40, rfl, rfl⟩ | ⟨c42, c43, rfl, rfl⟩ | ⟨c45, rfl, rfl⟩
        ·
          exact absurd c39 (by decide)
        ·
          exact absurd c42 (by decide)
        ·
          refine q_goi V (q_runS (As := [.int 0, .int 0]) (rest := []) (d := 1) (mc := 0) (ms := 0) C0 V rfl LS_DW_66 (c_jInt_compare l D g ws _) rfl hl.1 rfl (Nat.le_of_ble_eq_true rfl) ⟨by decide, by decide⟩ ⟨Nat.le_of_ble_eq_true rfl, Nat.le_of_ble_eq_true rfl⟩ d_4_4_41) (fun v49 u48 H locs hp47 V => ?_)
          obtain ⟨rfl, rfl⟩ := hp47
          exact q_reti C0 V (⟨rfl, rfl⟩) d_4_4_44
theorem d_2_21_0 : decode prog_2_method_21_code 0 = .ok (.aload_n 0, 1) := by decide +kernel
theorem d_2_21_1 : decode prog_2_method_21_code 1 = .ok (.getfield 13, 3) := by decide +kernel
theorem d_2_21_4 : decode prog_2_method_21_code 4 = .ok (.aload_n 1, 1) := by decide +kernel
theorem d_2_21_5 : decode prog_2_method_21_code 5 = .ok (.getfield 13, 3) := by decide +kernel
theorem d_2_21_8 : decode prog_2_method_21_code 8 = .ok (.if_icmp .eq 15, 3) := by decide +kernel
theorem d_2_21_23 : decode prog_2_method_21_code 23 = .ok (.aload_n 0, 1) := by decide +kernel
theorem d_2_21_24 : decode prog_2_method_21_code 24 = .ok (.getfield 13, 3) := by decide +kernel
theorem d_2_21_27 : decode prog_2_method_21_code 27 = .ok (.iconst 1, 1) := by decide +kernel
theorem d_2_21_28 : decode prog_2_method_21_code 28 = .ok (.isub, 1) := by decide +kernel
theorem d_2_21_29 : decode prog_2_method_21_code 29 = .ok (.istore_n 2, 1) := by decide +kernel
theorem d_2_21_30 : decode prog_2_method_21_code 30 = .ok (.iload_n 2, 1) := by decide +kernel
theorem d_2_21_31 : decode prog_2_method_21_code 31 = .ok (.ifCond .lt 40, 3) := by decide +kernel
theorem d_2_21_71 : decode prog_2_method_21_code 71 = .ok (.iconst 0, 1) := by decide +kernel
theorem d_2_21_72 : decode prog_2_method_21_code 72 = .ok (.ireturn, 1) := by decide +kernel
def y_Big_compareSize : MethodName := ⟨"NumberHouse$Big", "compareSize", "(LNumberHouse$Big;)I"⟩
set_option maxRecDepth 100000 in
set_option maxHeartbeats 4000000 in
theorem c_Big_compareSize (l : Launch) (D : va_G) (g : Nat → ClassId) (ws : va_W) (kO0 kO1 qO0 qO1 qA2 qA3 : Nat) (hO0 : ws[kO0]? = (some (qO0, .inr (2, [.ref qA2, .int 0, .int 0])) : Option (Nat × va_E))) (hO1 : ws[kO1]? = (some (qO1, .inr (2, [.ref qA3, .int 0, .int 0])) : Option (Nat × va_E))) : q_mI l y_Big_compareSize prog_2_method_21_code 3 (.int) 1 0 0 D g [.ref qO0, .ref qO1] ws (fun r u => 0 = r ∧ ws = u) := by
  intro sz
  refine q_into (by decide) (Nat.le_of_ble_eq_true rfl) ?_
  intro p e s m below meth c ls hsz C0 V hl
  have hx := C0.1
  have hb := C0.2.1
  have hl : lv_has ls 3 [(0, .ref qO0), (1, .ref qO1)] := hl
  refine lv_aload_n hx hb d_2_21_0 rfl (lv_at hl 0 rfl) ?_
  refine q_get (ci := 2) (j := 1) (v := .int 0) C0 V i_Big rfl rfl hO0 (by decide) w_85 rfl d_2_21_1 ?_
  refine lv_aload_n hx hb d_2_21_4 rfl (lv_at hl 1 rfl) ?_
  refine q_get (ci := 2) (j := 1) (v := .int 0) C0 V i_Big rfl rfl hO1 (by decide) w_85 rfl d_2_21_5 ?_
  refine lv_icmp_eq (tgt := 23) hx hb d_2_21_8 (by decide) (fun c1 => ?_) (fun c1 => absurd (by decide) c1)
  refine lv_aload_n hx hb d_2_21_23 rfl (lv_at hl 0 rfl) ?_
  refine q_get (ci := 2) (j := 1) (v := .int 0) C0 V i_Big rfl rfl hO0 (by decide) w_85 rfl d_2_21_24 ?_
  refine lv_iconst (v := 1) hx hb d_2_21_27 (by decide) ?_
  refine lv_isub hx hb d_2_21_28 ?_
  refine q_ti (v := (-1)) (by decide) ?_
  refine lv_istore_n (lv' := [(2, .int (-1)), (0, .ref qO0), (1, .ref qO1)]) hx hb d_2_21_29 rfl hl (by decide) rfl (fun ls hl => ?_)
  refine lv_iload_n hx hb d_2_21_30 rfl (lv_at hl 0 rfl) ?_
  refine lv_if_lt (tgt := 71) hx hb d_2_21_31 (by decide) (fun c2 => ?_) (fun c2 => absurd (by decide) c2)
  refine lv_iconst (v := 0) hx hb d_2_21_71 (by decide) ?_
  exact q_reti C0 V (⟨rfl, rfl⟩) d_2_21_72
theorem d_2_20_0 : decode prog_2_method_20_code 0 = .ok (.aload_n 0, 1) := by decide +kernel
theorem d_2_20_1 : decode prog_2_method_20_code 1 = .ok (.invokevirtual 72, 3) := by decide +kernel
theorem w_1222 : (Cond.methodLink "NumberHouse$Big" (72 : Nat) ({ cls := "NumberHouse$Big", name := "sign", desc := "()I" } : MethodName)) ∈ q_tbl := q_of 1222 (by decide +kernel) (by decide +kernel)
theorem LV_Big_72 : q_LV "NumberHouse$Big" 72 y_Big_sign prog_2_method_8_code 1 (some .int) 0 := ⟨w_1122, w_4, w_1222, w_1120, w_1121, ⟨by decide, by decide, by decide +kernel⟩⟩
theorem d_2_20_4 : decode prog_2_method_20_code 4 = .ok (.aload_n 1, 1) := by decide +kernel
theorem d_2_20_5 : decode prog_2_method_20_code 5 = .ok (.invokevirtual 72, 3) := by decide +kernel
theorem d_2_20_8 : decode prog_2_method_20_code 8 = .ok (.if_icmp .eq 15, 3) := by decide +kernel
theorem d_2_20_23 : decode prog_2_method_20_code 23 = .ok (.aload_n 0, 1) := by decide +kernel
theorem d_2_20_24 : decode prog_2_method_20_code 24 = .ok (.aload_n 1, 1) := by decide +kernel
theorem d_2_20_25 : decode prog_2_method_20_code 25 = .ok (.invokevirtual 78, 3) := by decide +kernel
theorem w_780 : (Cond.code ({ cls := "NumberHouse$Big", name := "compareSize", desc := "(LNumberHouse$Big;)I" } : MethodName) prog_2_method_21_code (3 : Nat) (some .int)) ∈ q_tbl := q_of 780 (by decide +kernel) (by decide +kernel)
theorem w_1033 : (Cond.methodLink "NumberHouse$Big" (78 : Nat) ({ cls := "NumberHouse$Big", name := "compareSize", desc := "(LNumberHouse$Big;)I" } : MethodName)) ∈ q_tbl := q_of 1033 (by decide +kernel) (by decide +kernel)
theorem w_778 : (Cond.instanceMethod ({ cls := "NumberHouse$Big", name := "compareSize", desc := "(LNumberHouse$Big;)I" } : MethodName)) ∈ q_tbl := q_of 778 (by decide +kernel) (by decide +kernel)
theorem w_779 : (Cond.selects "NumberHouse$Big" ({ cls := "NumberHouse$Big", name := "compareSize", desc := "(LNumberHouse$Big;)I" } : MethodName) ({ cls := "NumberHouse$Big", name := "compareSize", desc := "(LNumberHouse$Big;)I" } : MethodName)) ∈ q_tbl := q_of 779 (by decide +kernel) (by decide +kernel)
theorem LV_Big_78 : q_LV "NumberHouse$Big" 78 y_Big_compareSize prog_2_method_21_code 3 (some .int) 1 := ⟨w_780, w_4, w_1033, w_778, w_779, ⟨by decide, by decide, by decide +kernel⟩⟩
theorem d_2_20_28 : decode prog_2_method_20_code 28 = .ok (.istore_n 2, 1) := by decide +kernel
theorem d_2_20_29 : decode prog_2_method_20_code 29 = .ok (.aload_n 0, 1) := by decide +kernel
theorem d_2_20_30 : decode prog_2_method_20_code 30 = .ok (.getfield 17, 3) := by decide +kernel
theorem d_2_20_33 : decode prog_2_method_20_code 33 = .ok (.ifCond .eq 8, 3) := by decide +kernel
theorem d_2_20_41 : decode prog_2_method_20_code 41 = .ok (.iload_n 2, 1) := by decide +kernel
theorem d_2_20_42 : decode prog_2_method_20_code 42 = .ok (.ireturn, 1) := by decide +kernel
def y_Big_order : MethodName := ⟨"NumberHouse$Big", "order", "(LNumberHouse$Big;)I"⟩
set_option maxRecDepth 100000 in
set_option maxHeartbeats 4000000 in
theorem c_Big_order (l : Launch) (D : va_G) (g : Nat → ClassId) (ws : va_W) (kO0 kO1 qO0 qO1 qA2 qA3 : Nat) (hO0 : ws[kO0]? = (some (qO0, .inr (2, [.ref qA2, .int 0, .int 0])) : Option (Nat × va_E))) (hO1 : ws[kO1]? = (some (qO1, .inr (2, [.ref qA3, .int 0, .int 0])) : Option (Nat × va_E))) : q_mI l y_Big_order prog_2_method_20_code 3 (.int) 2 0 0 D g [.ref qO0, .ref qO1] ws (fun r u => 0 = r ∧ ws = u) := by
  intro sz
  refine q_into (by decide) (Nat.le_of_ble_eq_true rfl) ?_
  intro p e s m below meth c ls hsz C0 V hl
  have hx := C0.1
  have hb := C0.2.1
  have hl : lv_has ls 3 [(0, .ref qO0), (1, .ref qO1)] := hl
  refine lv_aload_n hx hb d_2_20_0 rfl (lv_at hl 0 rfl) ?_
  refine q_goi V (q_runV (As := []) (rest := []) (d := 1) (mc := 0) (ms := 0) (ci := 2) C0 V rfl LV_Big_72 (c_Big_sign l D g ws kO0 qO0 qA2 0 0 hO0 _) rfl rfl hO0 rfl hl.1 rfl (Nat.le_of_ble_eq_true rfl) ⟨by decide, by decide⟩ ⟨Nat.le_of_ble_eq_true rfl, Nat.le_of_ble_eq_true rfl⟩ d_2_20_1) (fun v3 u2 H locs hp1 V => ?_)
  rcases hp1 with ⟨c4, c5, rfl, rfl⟩ | ⟨c7, c8, rfl, rfl⟩ | ⟨c10, rfl, rfl⟩
  ·
    exact absurd c4 (by decide)
  ·
    exact absurd c7 (by decide)
  ·
    refine lv_aload_n hx hb d_2_20_4 rfl (lv_at hl 1 rfl) ?_
    refine q_goi V (q_runV (As := []) (rest := [.int 0]) (d := 1) (mc := 0) (ms := 0) (ci := 2) C0 V rfl LV_Big_72 (c_Big_sign l D g ws kO1 qO1 qA3 0 0 hO1 _) rfl rfl hO1 rfl hl.1 rfl (Nat.le_of_ble_eq_true rfl) ⟨by decide, by decide⟩ ⟨Nat.le_of_ble_eq_true rfl, Nat.le_of_ble_eq_true rfl⟩ d_2_20_5) (fun v14 u13 H locs hp12 V => ?_)
    rcases hp12 with ⟨c15, c16, rfl, rfl⟩ | ⟨c18, c19, rfl, rfl⟩ | ⟨c21, rfl, rfl⟩
    ·
      exact absurd c15 (by decide)
    ·
      exact absurd c18 (by decide)
    ·
      refine lv_icmp_eq (tgt := 23) hx hb d_2_20_8 (by decide) (fun c23 => ?_) (fun c23 => absurd (by decide) c23)
      refine lv_aload_n hx hb d_2_20_23 rfl (lv_at hl 0 rfl) ?_
      refine lv_aload_n hx hb d_2_20_24 rfl (lv_at hl 1 rfl) ?_
      refine q_goi V (q_runV (As := [.ref qO1]) (rest := []) (d := 1) (mc := 0) (ms := 0) (ci := 2) C0 V rfl LV_Big_78 (c_Big_compareSize l D g ws kO0 kO1 qO0 qO1 qA2 qA3 hO0 hO1 _) rfl rfl hO0 rfl hl.1 rfl (Nat.le_of_ble_eq_true rfl) ⟨by decide, by decide⟩ ⟨Nat.le_of_ble_eq_true rfl, Nat.le_of_ble_eq_true rfl⟩ d_2_20_25) (fun v26 u25 H locs hp24 V => ?_)
      obtain ⟨rfl, rfl⟩ := hp24
      refine lv_istore_n (lv' := [(2, .int 0), (0, .ref qO0), (1, .ref qO1)]) hx hb d_2_20_28 rfl hl (by decide) rfl (fun ls hl => ?_)
      refine lv_aload_n hx hb d_2_20_29 rfl (lv_at hl 1 rfl) ?_
      refine q_get (ci := 2) (j := 2) (v := .int 0) C0 V i_Big rfl rfl hO0 (by decide) w_94 rfl d_2_20_30 ?_
      refine lv_if_eq (tgt := 41) hx hb d_2_20_33 (by decide) (fun c28 => ?_) (fun c28 => absurd (by decide) c28)
      refine lv_iload_n hx hb d_2_20_41 rfl (lv_at hl 0 rfl) ?_
      exact q_reti C0 V (⟨rfl, rfl⟩) d_2_20_42
theorem d_1_7_0 : decode prog_1_method_7_code 0 = .ok (.iload_n 1, 1) := by decide +kernel
theorem d_1_7_1 : decode prog_1_method_7_code 1 = .ok (.iload_n 2, 1) := by decide +kernel
theorem d_1_7_2 : decode prog_1_method_7_code 2 = .ok (.invokestatic 118, 3) := by decide +kernel
theorem w_577 : (Cond.code ({ cls := "NumberHouse", name := "needRegister", desc := "(II)V" } : MethodName) prog_1_method_35_code (2 : Nat) (none : Option ClassFile.FieldType)) ∈ q_tbl := q_of 577 (by decide +kernel) (by decide +kernel)
theorem w_575 : (Cond.methodLink "NumberHouse" (118 : Nat) ({ cls := "NumberHouse", name := "needRegister", desc := "(II)V" } : MethodName)) ∈ q_tbl := q_of 575 (by decide +kernel) (by decide +kernel)
theorem w_576 : (Cond.static ({ cls := "NumberHouse", name := "needRegister", desc := "(II)V" } : MethodName)) ∈ q_tbl := q_of 576 (by decide +kernel) (by decide +kernel)
theorem LS_NH_118 : q_LS "NumberHouse" 118 y_NH_needRegister prog_1_method_35_code 2 none 2 := ⟨w_577, w_1, w_575, w_576, ⟨by decide, by decide, by decide +kernel⟩⟩
theorem d_1_7_5 : decode prog_1_method_7_code 5 = .ok (.iload_n 1, 1) := by decide +kernel
theorem d_1_7_6 : decode prog_1_method_7_code 6 = .ok (.iload_n 3, 1) := by decide +kernel
theorem d_1_7_7 : decode prog_1_method_7_code 7 = .ok (.invokestatic 118, 3) := by decide +kernel
theorem d_1_7_10 : decode prog_1_method_7_code 10 = .ok (.iload_n 1, 1) := by decide +kernel
theorem d_1_7_11 : decode prog_1_method_7_code 11 = .ok (.ifCond .ne 19, 3) := by decide +kernel
theorem d_1_7_30 : decode prog_1_method_7_code 30 = .ok (.iload_n 1, 1) := by decide +kernel
theorem d_1_7_31 : decode prog_1_method_7_code 31 = .ok (.iconst 1, 1) := by decide +kernel
theorem d_1_7_32 : decode prog_1_method_7_code 32 = .ok (.if_icmp .ne 23, 3) := by decide +kernel
theorem d_1_7_55 : decode prog_1_method_7_code 55 = .ok (.aload_n 0, 1) := by decide +kernel
theorem d_1_7_56 : decode prog_1_method_7_code 56 = .ok (.iload_n 1, 1) := by decide +kernel
theorem d_1_7_57 : decode prog_1_method_7_code 57 = .ok (.invokevirtual 130, 3) := by decide +kernel
theorem w_641 : (Cond.code ({ cls := "NumberHouse", name := "floatsOf", desc := "(I)LNumberHouse$Floats;" } : MethodName) prog_1_method_30_code (2 : Nat) (some (.object "NumberHouse$Floats"))) ∈ q_tbl := q_of 641 (by decide +kernel) (by decide +kernel)
theorem w_638 : (Cond.methodLink "NumberHouse" (130 : Nat) ({ cls := "NumberHouse", name := "floatsOf", desc := "(I)LNumberHouse$Floats;" } : MethodName)) ∈ q_tbl := q_of 638 (by decide +kernel) (by decide +kernel)
theorem w_640 : (Cond.instanceMethod ({ cls := "NumberHouse", name := "floatsOf", desc := "(I)LNumberHouse$Floats;" } : MethodName)) ∈ q_tbl := q_of 640 (by decide +kernel) (by decide +kernel)
theorem ws_8 : Cond.selects "NumberHouse" (⟨"NumberHouse", "floatsOf", "(I)LNumberHouse$Floats;"⟩ : MethodName) (⟨"NumberHouse", "floatsOf", "(I)LNumberHouse$Floats;"⟩ : MethodName) ∈ q_tbl := q_ofs 8 (by decide +kernel) (by decide +kernel)
theorem LV_NH_130 : q_LV "NumberHouse" 130 y_NH_floatsOf prog_1_method_30_code 2 (some (.object "NumberHouse$Floats")) 1 := ⟨w_641, w_1, w_638, w_640, ws_8, ⟨by decide, by decide, by decide +kernel⟩⟩
theorem d_1_7_60 : decode prog_1_method_7_code 60 = .ok (.astore 4, 2) := by decide +kernel
theorem d_1_7_62 : decode prog_1_method_7_code 62 = .ok (.aload_n 0, 1) := by decide +kernel
theorem d_1_7_63 : decode prog_1_method_7_code 63 = .ok (.iload_n 1, 1) := by decide +kernel
theorem d_1_7_64 : decode prog_1_method_7_code 64 = .ok (.invokevirtual 157, 3) := by decide +kernel
theorem w_1095 : (Cond.code ({ cls := "NumberHouse", name := "floatRow", desc := "(I)[J" } : MethodName) prog_1_method_31_code (2 : Nat) (some (.array .long))) ∈ q_tbl := q_of 1095 (by decide +kernel) (by decide +kernel)
theorem w_1092 : (Cond.methodLink "NumberHouse" (157 : Nat) ({ cls := "NumberHouse", name := "floatRow", desc := "(I)[J" } : MethodName)) ∈ q_tbl := q_of 1092 (by decide +kernel) (by decide +kernel)
theorem w_1094 : (Cond.instanceMethod ({ cls := "NumberHouse", name := "floatRow", desc := "(I)[J" } : MethodName)) ∈ q_tbl := q_of 1094 (by decide +kernel) (by decide +kernel)
theorem ws_19 : Cond.selects "NumberHouse" (⟨"NumberHouse", "floatRow", "(I)[J"⟩ : MethodName) (⟨"NumberHouse", "floatRow", "(I)[J"⟩ : MethodName) ∈ q_tbl := q_ofs 19 (by decide +kernel) (by decide +kernel)
theorem LV_NH_157 : q_LV "NumberHouse" 157 y_NH_floatRow prog_1_method_31_code 2 (some (.array .long)) 1 := ⟨w_1095, w_1, w_1092, w_1094, ws_19, ⟨by decide, by decide, by decide +kernel⟩⟩
theorem d_1_7_67 : decode prog_1_method_7_code 67 = .ok (.iload_n 2, 1) := by decide +kernel
theorem d_1_7_68 : decode prog_1_method_7_code 68 = .ok (.laload, 1) := by decide +kernel
theorem d_1_7_69 : decode prog_1_method_7_code 69 = .ok (.lstore 5, 2) := by decide +kernel
theorem d_1_7_71 : decode prog_1_method_7_code 71 = .ok (.aload_n 0, 1) := by decide +kernel
theorem d_1_7_72 : decode prog_1_method_7_code 72 = .ok (.iload_n 1, 1) := by decide +kernel
theorem d_1_7_73 : decode prog_1_method_7_code 73 = .ok (.invokevirtual 157, 3) := by decide +kernel
theorem d_1_7_76 : decode prog_1_method_7_code 76 = .ok (.iload_n 3, 1) := by decide +kernel
theorem d_1_7_77 : decode prog_1_method_7_code 77 = .ok (.laload, 1) := by decide +kernel
theorem d_1_7_78 : decode prog_1_method_7_code 78 = .ok (.lstore 7, 2) := by decide +kernel
theorem d_1_7_80 : decode prog_1_method_7_code 80 = .ok (.aload 4, 2) := by decide +kernel
theorem d_1_7_82 : decode prog_1_method_7_code 82 = .ok (.lload 5, 2) := by decide +kernel
theorem d_1_7_84 : decode prog_1_method_7_code 84 = .ok (.invokevirtual 199, 3) := by decide +kernel
theorem w_1234 : (Cond.code ({ cls := "NumberHouse$Floats", name := "isNoNumber", desc := "(J)Z" } : MethodName) prog_7_method_6_code (3 : Nat) (some .boolean)) ∈ q_tbl := q_of 1234 (by decide +kernel) (by decide +kernel)
theorem w_1231 : (Cond.methodLink "NumberHouse" (199 : Nat) ({ cls := "NumberHouse$Floats", name := "isNoNumber", desc := "(J)Z" } : MethodName)) ∈ q_tbl := q_of 1231 (by decide +kernel) (by decide +kernel)
theorem w_1232 : (Cond.instanceMethod ({ cls := "NumberHouse$Floats", name := "isNoNumber", desc := "(J)Z" } : MethodName)) ∈ q_tbl := q_of 1232 (by decide +kernel) (by decide +kernel)
theorem w_1233 : (Cond.selects "NumberHouse$Floats" ({ cls := "NumberHouse$Floats", name := "isNoNumber", desc := "(J)Z" } : MethodName) ({ cls := "NumberHouse$Floats", name := "isNoNumber", desc := "(J)Z" } : MethodName)) ∈ q_tbl := q_of 1233 (by decide +kernel) (by decide +kernel)
theorem LV_NH_199 : q_LV "NumberHouse" 199 y_Flo_isNoNumber prog_7_method_6_code 3 (some .boolean) 1 := ⟨w_1234, w_8, w_1231, w_1232, w_1233, ⟨by decide, by decide, by decide +kernel⟩⟩
theorem d_1_7_87 : decode prog_1_method_7_code 87 = .ok (.ifCond .ne 17, 3) := by decide +kernel
theorem d_1_7_90 : decode prog_1_method_7_code 90 = .ok (.aload 4, 2) := by decide +kernel
theorem d_1_7_92 : decode prog_1_method_7_code 92 = .ok (.lload 7, 2) := by decide +kernel
theorem d_1_7_94 : decode prog_1_method_7_code 94 = .ok (.invokevirtual 199, 3) := by decide +kernel
theorem d_1_7_97 : decode prog_1_method_7_code 97 = .ok (.ifCond .ne 7, 3) := by decide +kernel
theorem d_1_7_100 : decode prog_1_method_7_code 100 = .ok (.iconst 1, 1) := by decide +kernel
theorem d_1_7_101 : decode prog_1_method_7_code 101 = .ok (.goto 4, 3) := by decide +kernel
theorem d_1_7_105 : decode prog_1_method_7_code 105 = .ok (.invokestatic 138, 3) := by decide +kernel
theorem w_1066 : (Cond.code ({ cls := "NumberHouse", name := "canHave", desc := "(Z)V" } : MethodName) prog_1_method_37_code (1 : Nat) (none : Option ClassFile.FieldType)) ∈ q_tbl := q_of 1066 (by decide +kernel) (by decide +kernel)
theorem w_1064 : (Cond.methodLink "NumberHouse" (138 : Nat) ({ cls := "NumberHouse", name := "canHave", desc := "(Z)V" } : MethodName)) ∈ q_tbl := q_of 1064 (by decide +kernel) (by decide +kernel)
theorem w_1065 : (Cond.static ({ cls := "NumberHouse", name := "canHave", desc := "(Z)V" } : MethodName)) ∈ q_tbl := q_of 1065 (by decide +kernel) (by decide +kernel)
theorem LS_NH_138 : q_LS "NumberHouse" 138 y_NH_canHave prog_1_method_37_code 1 none 1 := ⟨w_1066, w_1, w_1064, w_1065, ⟨by decide, by decide, by decide +kernel⟩⟩
theorem d_1_7_108 : decode prog_1_method_7_code 108 = .ok (.aload 4, 2) := by decide +kernel
theorem d_1_7_110 : decode prog_1_method_7_code 110 = .ok (.lload 5, 2) := by decide +kernel
theorem d_1_7_112 : decode prog_1_method_7_code 112 = .ok (.invokevirtual 202, 3) := by decide +kernel
theorem w_1239 : (Cond.code ({ cls := "NumberHouse$Floats", name := "place", desc := "(J)J" } : MethodName) prog_7_method_11_code (5 : Nat) (some .long)) ∈ q_tbl := q_of 1239 (by decide +kernel) (by decide +kernel)
theorem w_1236 : (Cond.methodLink "NumberHouse" (202 : Nat) ({ cls := "NumberHouse$Floats", name := "place", desc := "(J)J" } : MethodName)) ∈ q_tbl := q_of 1236 (by decide +kernel) (by decide +kernel)
theorem w_1237 : (Cond.instanceMethod ({ cls := "NumberHouse$Floats", name := "place", desc := "(J)J" } : MethodName)) ∈ q_tbl := q_of 1237 (by decide +kernel) (by decide +kernel)
theorem w_1238 : (Cond.selects "NumberHouse$Floats" ({ cls := "NumberHouse$Floats", name := "place", desc := "(J)J" } : MethodName) ({ cls := "NumberHouse$Floats", name := "place", desc := "(J)J" } : MethodName)) ∈ q_tbl := q_of 1238 (by decide +kernel) (by decide +kernel)
theorem LV_NH_202 : q_LV "NumberHouse" 202 y_Flo_place prog_7_method_11_code 5 (some .long) 1 := ⟨w_1239, w_8, w_1236, w_1237, w_1238, ⟨by decide, by decide, by decide +kernel⟩⟩
theorem d_1_7_115 : decode prog_1_method_7_code 115 = .ok (.aload 4, 2) := by decide +kernel
theorem d_1_7_117 : decode prog_1_method_7_code 117 = .ok (.lload 7, 2) := by decide +kernel
theorem d_1_7_119 : decode prog_1_method_7_code 119 = .ok (.invokevirtual 202, 3) := by decide +kernel
theorem d_1_7_122 : decode prog_1_method_7_code 122 = .ok (.invokestatic 206, 3) := by decide +kernel
theorem w_1247 : (Cond.code ({ cls := "java/lang/Long", name := "compare", desc := "(JJ)I" } : MethodName) prog_28_method_42_code (4 : Nat) (some .int)) ∈ q_tbl := q_of 1247 (by decide +kernel) (by decide +kernel)
theorem w_35 : (Cond.initialized "java/lang/Long") ∈ q_tbl := q_of 35 (by decide +kernel) (by decide +kernel)
theorem w_1245 : (Cond.methodLink "NumberHouse" (206 : Nat) ({ cls := "java/lang/Long", name := "compare", desc := "(JJ)I" } : MethodName)) ∈ q_tbl := q_of 1245 (by decide +kernel) (by decide +kernel)
theorem w_1246 : (Cond.static ({ cls := "java/lang/Long", name := "compare", desc := "(JJ)I" } : MethodName)) ∈ q_tbl := q_of 1246 (by decide +kernel) (by decide +kernel)
theorem LS_NH_206 : q_LS "NumberHouse" 206 y_jLong_compare prog_28_method_42_code 4 (some .int) 2 := ⟨w_1247, w_35, w_1245, w_1246, ⟨by decide, by decide, by decide +kernel⟩⟩
theorem d_1_7_125 : decode prog_1_method_7_code 125 = .ok (.ireturn, 1) := by decide +kernel
theorem d_1_7_35 : decode prog_1_method_7_code 35 = .ok (.aload_n 0, 1) := by decide +kernel
theorem d_1_7_36 : decode prog_1_method_7_code 36 = .ok (.getfield 52, 3) := by decide +kernel
theorem d_1_7_39 : decode prog_1_method_7_code 39 = .ok (.aload_n 0, 1) := by decide +kernel
theorem d_1_7_40 : decode prog_1_method_7_code 40 = .ok (.getfield 29, 3) := by decide +kernel
theorem d_1_7_43 : decode prog_1_method_7_code 43 = .ok (.iload_n 2, 1) := by decide +kernel
theorem d_1_7_44 : decode prog_1_method_7_code 44 = .ok (.aaload, 1) := by decide +kernel
theorem d_1_7_45 : decode prog_1_method_7_code 45 = .ok (.aload_n 0, 1) := by decide +kernel
theorem d_1_7_46 : decode prog_1_method_7_code 46 = .ok (.getfield 29, 3) := by decide +kernel
theorem d_1_7_49 : decode prog_1_method_7_code 49 = .ok (.iload_n 3, 1) := by decide +kernel
theorem d_1_7_50 : decode prog_1_method_7_code 50 = .ok (.aaload, 1) := by decide +kernel
theorem d_1_7_51 : decode prog_1_method_7_code 51 = .ok (.invokevirtual 196, 3) := by decide +kernel
theorem w_1226 : (Cond.code ({ cls := "NumberHouse$DecimalWork", name := "order", desc := "(LNumberHouse$Dec;LNumberHouse$Dec;)I" } : MethodName) prog_4_method_4_code (6 : Nat) (some .int)) ∈ q_tbl := q_of 1226 (by decide +kernel) (by decide +kernel)
theorem w_1223 : (Cond.methodLink "NumberHouse" (196 : Nat) ({ cls := "NumberHouse$DecimalWork", name := "order", desc := "(LNumberHouse$Dec;LNumberHouse$Dec;)I" } : MethodName)) ∈ q_tbl := q_of 1223 (by decide +kernel) (by decide +kernel)
theorem w_1224 : (Cond.instanceMethod ({ cls := "NumberHouse$DecimalWork", name := "order", desc := "(LNumberHouse$Dec;LNumberHouse$Dec;)I" } : MethodName)) ∈ q_tbl := q_of 1224 (by decide +kernel) (by decide +kernel)
theorem w_1225 : (Cond.selects "NumberHouse$DecimalWork" ({ cls := "NumberHouse$DecimalWork", name := "order", desc := "(LNumberHouse$Dec;LNumberHouse$Dec;)I" } : MethodName) ({ cls := "NumberHouse$DecimalWork", name := "order", desc := "(LNumberHouse$Dec;LNumberHouse$Dec;)I" } : MethodName)) ∈ q_tbl := q_of 1225 (by decide +kernel) (by decide +kernel)
theorem LV_NH_196 : q_LV "NumberHouse" 196 y_DW_order prog_4_method_4_code 6 (some .int) 2 := ⟨w_1226, w_5, w_1223, w_1224, w_1225, ⟨by decide, by decide, by decide +kernel⟩⟩
theorem d_1_7_54 : decode prog_1_method_7_code 54 = .ok (.ireturn, 1) := by decide +kernel
theorem d_1_7_14 : decode prog_1_method_7_code 14 = .ok (.aload_n 0, 1) := by decide +kernel
theorem d_1_7_15 : decode prog_1_method_7_code 15 = .ok (.getfield 23, 3) := by decide +kernel
theorem d_1_7_18 : decode prog_1_method_7_code 18 = .ok (.iload_n 2, 1) := by decide +kernel
theorem d_1_7_19 : decode prog_1_method_7_code 19 = .ok (.aaload, 1) := by decide +kernel
theorem d_1_7_20 : decode prog_1_method_7_code 20 = .ok (.aload_n 0, 1) := by decide +kernel
theorem d_1_7_21 : decode prog_1_method_7_code 21 = .ok (.getfield 23, 3) := by decide +kernel
theorem d_1_7_24 : decode prog_1_method_7_code 24 = .ok (.iload_n 3, 1) := by decide +kernel
theorem d_1_7_25 : decode prog_1_method_7_code 25 = .ok (.aaload, 1) := by decide +kernel
theorem d_1_7_26 : decode prog_1_method_7_code 26 = .ok (.invokevirtual 192, 3) := by decide +kernel
theorem w_1221 : (Cond.code ({ cls := "NumberHouse$Big", name := "order", desc := "(LNumberHouse$Big;)I" } : MethodName) prog_2_method_20_code (3 : Nat) (some .int)) ∈ q_tbl := q_of 1221 (by decide +kernel) (by decide +kernel)
theorem w_1218 : (Cond.methodLink "NumberHouse" (192 : Nat) ({ cls := "NumberHouse$Big", name := "order", desc := "(LNumberHouse$Big;)I" } : MethodName)) ∈ q_tbl := q_of 1218 (by decide +kernel) (by decide +kernel)
theorem w_1219 : (Cond.instanceMethod ({ cls := "NumberHouse$Big", name := "order", desc := "(LNumberHouse$Big;)I" } : MethodName)) ∈ q_tbl := q_of 1219 (by decide +kernel) (by decide +kernel)
theorem w_1220 : (Cond.selects "NumberHouse$Big" ({ cls := "NumberHouse$Big", name := "order", desc := "(LNumberHouse$Big;)I" } : MethodName) ({ cls := "NumberHouse$Big", name := "order", desc := "(LNumberHouse$Big;)I" } : MethodName)) ∈ q_tbl := q_of 1220 (by decide +kernel) (by decide +kernel)
theorem LV_NH_192 : q_LV "NumberHouse" 192 y_Big_order prog_2_method_20_code 3 (some .int) 1 := ⟨w_1221, w_4, w_1218, w_1219, w_1220, ⟨by decide, by decide, by decide +kernel⟩⟩
theorem d_1_7_29 : decode prog_1_method_7_code 29 = .ok (.ireturn, 1) := by decide +kernel
def y_NH_compare : MethodName := ⟨"NumberHouse", "compare", "(III)I"⟩
set_option maxRecDepth 100000 in
set_option maxHeartbeats 4000000 in
/-- compare on a fresh object -/
theorem c_NH_compare (l : Launch) (D : va_G) (g : Nat → ClassId) (ws : va_W) (hlt : l.stackTraces = false) ( qO0 qO1 qO2 qA3 qA4 qA5 qA6 qO7 qO8 qO9 qO10 qO11 qO12 qO13 qO14 qO27 : Nat) (x1 : Int32) (x2 : Int32) (x3 : Int32) (f4 : Nat → Option Nat) (f5 : Nat → Option Nat) (hO0 : ws[0]? = (some (qO0, .inr (0, [.ref qO1, .ref qO2, .ref qA3, .ref qA4, .ref qA5, .ref qA6, .ref qO7, .ref qO8, .ref qO9, .ref qO10, .ref qO11, .ref qO12, .ref qO13, .ref qO14])) : Option (Nat × va_E))) (hA3 : ws[5]? = (some (qA3, .inl (g 4, 10, .inr (.inr (.inr (.inr f4))))) : Option (Nat × va_E))) (hA4 : ws[6]? = (some (qA4, .inl (g 5, 10, .inr (.inr (.inr (.inr f5))))) : Option (Nat × va_E))) (hA5 : ws[7]? = (some (qA5, .inl (g 1, 10, .inr (.inl (fun _ => 0)))) : Option (Nat × va_E))) (hA6 : ws[8]? = (some (qA6, .inl (g 1, 10, .inr (.inl (fun _ => 0)))) : Option (Nat × va_E))) (hO8 : ws[30]? = (some (qO8, .inr (5, [.ref qO27, .long 0, .ref qO7, .int 0])) : Option (Nat × va_E))) (hO9 : ws[34]? = (some (qO9, .inr (6, [.int 52, .int 1075, .int 2047, .long 0, .int 0, .ref qO7, .int 0])) : Option (Nat × va_E))) (hO10 : ws[35]? = (some (qO10, .inr (6, [.int 23, .int 150, .int 255, .long 0, .int 0, .ref qO7, .int 0])) : Option (Nat × va_E))) (qW qWL qD qDN qDL : Nat → Nat) (hfW : ∀ i, i < 10 → f4 i = some (qW i)) (FW : ∀ i, i < 10 → ws[66 + 5 * i]? = (some (qW i, .inr (2, [.ref (qWL i), .int 0, .int 0])) : Option (Nat × va_E))) (FWL : ∀ i, i < 10 → ws[67 + 5 * i]? = (some (qWL i, .inl (g 0, 68, .inl (fun _ => 0))) : Option (Nat × va_E))) (hfD : ∀ i, i < 10 → f5 i = some (qD i)) (FD : ∀ i, i < 10 → ws[68 + 5 * i]? = (some (qD i, .inr (3, [.ref (qDN i), .int 0, .int 1])) : Option (Nat × va_E))) (FDN : ∀ i, i < 10 → ws[69 + 5 * i]? = (some (qDN i, .inr (2, [.ref (qDL i), .int 0, .int 0])) : Option (Nat × va_E))) (FDL : ∀ i, i < 10 → ws[70 + 5 * i]? = (some (qDL i, .inl (g 0, 108, .inl (fun _ => 0))) : Option (Nat × va_E))) : q_xI l y_NH_compare prog_1_method_7_code 9 (.int) 9 3 18 D g [.ref qO0, .int x1, .int x2, .int x3] ws (fun r u => (((0 ≤ x1.toInt ∧ x1.toInt ≤ 3) ∧ (0 ≤ x2.toInt ∧ x2.toInt ≤ 9) ∧ (0 ≤ x3.toInt ∧ x3.toInt ≤ 9)) ∧ r.toInt = 0) ∧ q_ge 116 ws u) (fun E u => (("java/lang/IllegalArgumentException" = E ∧ (¬ ((0 ≤ x1.toInt ∧ x1.toInt ≤ 3) ∧ (0 ≤ x2.toInt ∧ x2.toInt ≤ 9) ∧ (0 ≤ x3.toInt ∧ x3.toInt ≤ 9))))) ∧ q_ge 116 ws u) := by
  intro sz
  refine q_intoX (by decide) (Nat.le_of_ble_eq_true rfl) ?_
  intro p e s m below meth c ls hsz C0 V hno hl
  have hx := C0.1
  have hb := C0.2.1
  have hl : lv_has ls 9 [(0, .ref qO0), (1, .int x1), (2, .int x2), (3, .int x3)] := hl
  have hF : q_ge 116 ws ws := q_g0
  refine lv_iload_n hx hb d_1_7_0 rfl (lv_at hl 1 rfl) ?_
  refine lv_iload_n hx hb d_1_7_1 rfl (lv_at hl 2 rfl) ?_
  refine q_goxv V (q_runSX (As := [.int x1, .int x2]) (rest := []) (d := 8) (mc := 1) (ms := 6) C0 V rfl LS_NH_118 (c_NH_needRegister l D g ws hlt x1 x2 _) rfl hl.1 rfl (Nat.le_of_ble_eq_true rfl) ⟨by decide, by decide⟩ ⟨Nat.le_of_ble_eq_true rfl, Nat.le_of_ble_eq_true rfl⟩ d_1_7_2) (fun qx Ex ce u2 H locs hp1 V hce hcv hcl => ?_) (fun u2 H locs hp1 V => ?_)
  ·
    rcases hp1 with ⟨c3, rfl, rfl⟩ | ⟨c5, c6, rfl, rfl⟩ | ⟨c8, c9, c10, rfl, rfl⟩ | ⟨c12, c13, c14, c15, rfl, rfl⟩
    ·
      exact q_outT hno C0 V (⟨⟨rfl, (show ¬ ((0 ≤ x1.toInt ∧ x1.toInt ≤ 3) ∧ (0 ≤ x2.toInt ∧ x2.toInt ≤ 9) ∧ (0 ≤ x3.toInt ∧ x3.toInt ≤ 9)) from by have t1 : x1.toInt < 0 := q_ltI c3; omega)⟩, hF⟩) hce hcv hcl (Nat.le_of_ble_eq_true rfl) (Nat.le_of_ble_eq_true rfl)
    ·
      exact q_outT hno C0 V (⟨⟨rfl, (show ¬ ((0 ≤ x1.toInt ∧ x1.toInt ≤ 3) ∧ (0 ≤ x2.toInt ∧ x2.toInt ≤ 9) ∧ (0 ≤ x3.toInt ∧ x3.toInt ≤ 9)) from by have t1 : 0 ≤ x1.toInt := q_nltI c5; have t2 : 3 < x1.toInt := q_ltI c6; omega)⟩, hF⟩) hce hcv hcl (Nat.le_of_ble_eq_true rfl) (Nat.le_of_ble_eq_true rfl)
    ·
      exact q_outT hno C0 V (⟨⟨rfl, (show ¬ ((0 ≤ x1.toInt ∧ x1.toInt ≤ 3) ∧ (0 ≤ x2.toInt ∧ x2.toInt ≤ 9) ∧ (0 ≤ x3.toInt ∧ x3.toInt ≤ 9)) from by have t1 : 0 ≤ x1.toInt := q_nltI c8; have t2 : x1.toInt ≤ 3 := q_nltI c9; have t3 : x2.toInt < 0 := q_ltI c10; omega)⟩, hF⟩) hce hcv hcl (Nat.le_of_ble_eq_true rfl) (Nat.le_of_ble_eq_true rfl)
    ·
      exact q_outT hno C0 V (⟨⟨rfl, (show ¬ ((0 ≤ x1.toInt ∧ x1.toInt ≤ 3) ∧ (0 ≤ x2.toInt ∧ x2.toInt ≤ 9) ∧ (0 ≤ x3.toInt ∧ x3.toInt ≤ 9)) from by have t1 : 0 ≤ x1.toInt := q_nltI c12; have t2 : x1.toInt ≤ 3 := q_nltI c13; have t3 : 0 ≤ x2.toInt := q_nltI c14; have t4 : 10 ≤ x2.toInt := q_leI c15; omega)⟩, hF⟩) hce hcv hcl (Nat.le_of_ble_eq_true rfl) (Nat.le_of_ble_eq_true rfl)
  ·
    obtain ⟨c17, c18, c19, c20, rfl⟩ := hp1
    refine lv_iload_n hx hb d_1_7_5 rfl (lv_at hl 1 rfl) ?_
    refine lv_iload_n hx hb d_1_7_6 rfl (lv_at hl 3 rfl) ?_
    refine q_goxv V (q_runSX (As := [.int x1, .int x3]) (rest := []) (d := 8) (mc := 1) (ms := 6) C0 V rfl LS_NH_118 (c_NH_needRegister l D g ws hlt x1 x3 _) rfl hl.1 rfl (Nat.le_of_ble_eq_true rfl) ⟨by decide, by decide⟩ ⟨Nat.le_of_ble_eq_true rfl, Nat.le_of_ble_eq_true rfl⟩ d_1_7_7) (fun qx Ex ce u23 H locs hp22 V hce hcv hcl => ?_) (fun u23 H locs hp22 V => ?_)
    ·
      rcases hp22 with ⟨c24, rfl, rfl⟩ | ⟨c26, c27, rfl, rfl⟩ | ⟨c29, c30, c31, rfl, rfl⟩ | ⟨c33, c34, c35, c36, rfl, rfl⟩
      ·
        exact absurd c24 (Int32.not_lt.mpr (q_Ile (x := 0) (y := x1.toInt) (by decide) rfl (by have t1 : 0 ≤ x1.toInt := q_nltI c17; have t2 : x1.toInt ≤ 3 := q_nltI c18; omega)))
      ·
        exact absurd c27 (Int32.not_lt.mpr (q_Ile (x := x1.toInt) (y := 3) rfl (by decide) (by have t1 : 0 ≤ x1.toInt := q_nltI c17; have t2 : x1.toInt ≤ 3 := q_nltI c18; omega)))
      ·
        exact q_outT hno C0 V (⟨⟨rfl, (show ¬ ((0 ≤ x1.toInt ∧ x1.toInt ≤ 3) ∧ (0 ≤ x2.toInt ∧ x2.toInt ≤ 9) ∧ (0 ≤ x3.toInt ∧ x3.toInt ≤ 9)) from by have t1 : 0 ≤ x1.toInt := q_nltI c17; have t2 : x1.toInt ≤ 3 := q_nltI c18; have t3 : 0 ≤ x2.toInt := q_nltI c19; have t4 : x2.toInt < 10 := q_nleI c20; have t5 : 0 ≤ x1.toInt := q_nltI c29; have t6 : x1.toInt ≤ 3 := q_nltI c30; have t7 : x3.toInt < 0 := q_ltI c31; omega)⟩, hF⟩) hce hcv hcl (Nat.le_of_ble_eq_true rfl) (Nat.le_of_ble_eq_true rfl)
      ·
        exact q_outT hno C0 V (⟨⟨rfl, (show ¬ ((0 ≤ x1.toInt ∧ x1.toInt ≤ 3) ∧ (0 ≤ x2.toInt ∧ x2.toInt ≤ 9) ∧ (0 ≤ x3.toInt ∧ x3.toInt ≤ 9)) from by have t1 : 0 ≤ x1.toInt := q_nltI c17; have t2 : x1.toInt ≤ 3 := q_nltI c18; have t3 : 0 ≤ x2.toInt := q_nltI c19; have t4 : x2.toInt < 10 := q_nleI c20; have t5 : 0 ≤ x1.toInt := q_nltI c33; have t6 : x1.toInt ≤ 3 := q_nltI c34; have t7 : 0 ≤ x3.toInt := q_nltI c35; have t8 : 10 ≤ x3.toInt := q_leI c36; omega)⟩, hF⟩) hce hcv hcl (Nat.le_of_ble_eq_true rfl) (Nat.le_of_ble_eq_true rfl)
    ·
      obtain ⟨c38, c39, c40, c41, rfl⟩ := hp22
      refine lv_iload_n hx hb d_1_7_10 rfl (lv_at hl 1 rfl) ?_
      refine lv_if_ne (tgt := 30) hx hb d_1_7_11 (by decide) (fun c43 => ?_) (fun c43 => ?_)
      ·
        refine lv_iload_n hx hb d_1_7_30 rfl (lv_at hl 1 rfl) ?_
        refine lv_iconst (v := 1) hx hb d_1_7_31 (by decide) ?_
        refine lv_icmp_ne (tgt := 55) hx hb d_1_7_32 (by decide) (fun c44 => ?_) (fun c44 => ?_)
        ·
          refine lv_aload_n hx hb d_1_7_55 rfl (lv_at hl 0 rfl) ?_
          refine lv_iload_n hx hb d_1_7_56 rfl (lv_at hl 1 rfl) ?_
          refine q_gor (post := fun r u => (¬ x1 = 2 ∧ qO10 = r ∧ ws = u) ∨ (x1 = 2 ∧ qO9 = r ∧ ws = u)) V (q_runV (As := [.int x1]) (rest := []) (d := 1) (mc := 0) (ms := 0) (ci := 0) C0 V rfl LV_NH_130 (c_NH_floatsOf l D g ws qO0 qO1 qO2 qA3 qA4 qA5 qA6 qO7 qO8 qO9 qO10 qO11 qO12 qO13 qO14 x1 hO0 (q_Ile (x := 2) (y := x1.toInt) (by decide) rfl (by have t1 : 0 ≤ x1.toInt := q_nltI c17; have t2 : x1.toInt ≤ 3 := q_nltI c18; have t3 : 0 ≤ x1.toInt := q_nltI c38; have t4 : x1.toInt ≤ 3 := q_nltI c39; have t5 : x1.toInt ≠ 0 := q_neI c43; have t6 : x1.toInt ≠ 1 := q_neI c44; omega)) (q_Ile (x := x1.toInt) (y := 3) rfl (by decide) (by have t1 : 0 ≤ x1.toInt := q_nltI c17; have t2 : x1.toInt ≤ 3 := q_nltI c18; have t3 : 0 ≤ x1.toInt := q_nltI c38; have t4 : x1.toInt ≤ 3 := q_nltI c39; have t5 : x1.toInt ≠ 0 := q_neI c43; have t6 : x1.toInt ≠ 1 := q_neI c44; omega)) _) rfl rfl hO0 rfl hl.1 rfl (Nat.le_of_ble_eq_true rfl) ⟨by decide, by decide⟩ ⟨Nat.le_of_ble_eq_true rfl, Nat.le_of_ble_eq_true rfl⟩ d_1_7_57) (fun v47 u46 H locs hp45 V => ?_)
          rcases hp45 with ⟨c48, rfl, rfl⟩ | ⟨c50, rfl, rfl⟩
          ·
            refine lv_astore (lv' := [(4, .ref qO10), (0, .ref qO0), (1, .int x1), (2, .int x2), (3, .int x3)]) hx hb d_1_7_60 hl (by decide) rfl (fun ls hl => ?_)
            refine lv_aload_n hx hb d_1_7_62 rfl (lv_at hl 1 rfl) ?_
            refine lv_iload_n hx hb d_1_7_63 rfl (lv_at hl 2 rfl) ?_
            refine q_ti (v := 3) (q_Ieq (x := x1.toInt) (y := 3) rfl (by decide) (by have t1 : 0 ≤ x1.toInt := q_nltI c17; have t2 : x1.toInt ≤ 3 := q_nltI c18; have t3 : 0 ≤ x1.toInt := q_nltI c38; have t4 : x1.toInt ≤ 3 := q_nltI c39; have t5 : x1.toInt ≠ 0 := q_neI c43; have t6 : x1.toInt ≠ 1 := q_neI c44; have t7 : x1.toInt ≠ 2 := q_neI c48; omega)) ?_
            refine q_gor (post := fun r u => qA6 = r ∧ ws = u) V (q_runV (As := [.int 3]) (rest := []) (d := 1) (mc := 0) (ms := 0) (ci := 0) C0 V rfl LV_NH_157 (c_NH_floatRow l D g ws qO0 qO1 qO2 qA3 qA4 qA5 qA6 qO7 qO8 qO9 qO10 qO11 qO12 qO13 qO14 hO0 _) rfl rfl hO0 rfl hl.1 rfl (Nat.le_of_ble_eq_true rfl) ⟨by decide, by decide⟩ ⟨Nat.le_of_ble_eq_true rfl, Nat.le_of_ble_eq_true rfl⟩ d_1_7_64) (fun v54 u53 H locs hp52 V => ?_)
            obtain ⟨rfl, rfl⟩ := hp52
            refine lv_iload_n hx hb d_1_7_67 rfl (lv_at hl 3 rfl) ?_
            refine q_lald C0 V hA6 (q_ix (x := x2.toInt) rfl (by have t1 : 0 ≤ x2.toInt := q_nltI c19; have t2 : x2.toInt < 10 := q_nleI c20; omega) (by have t1 : 0 ≤ x2.toInt := q_nltI c19; have t2 : x2.toInt < 10 := q_nleI c20; omega)) d_1_7_68 ?_
            refine q_tl (v := 0) (by first | rfl | decide | simp [upd, vp_updL, sb_cl0]) ?_
            refine lv_lstore (lv' := [(5, .long 0), (4, .ref qO10), (0, .ref qO0), (1, .int x1), (2, .int x2), (3, .int x3)]) hx hb d_1_7_69 hl (by decide) rfl (fun ls hl => ?_)
            refine lv_aload_n hx hb d_1_7_71 rfl (lv_at hl 2 rfl) ?_
            refine lv_iload_n hx hb d_1_7_72 rfl (lv_at hl 3 rfl) ?_
            refine q_ti (v := 3) (q_Ieq (x := x1.toInt) (y := 3) rfl (by decide) (by have t1 : 0 ≤ x1.toInt := q_nltI c17; have t2 : x1.toInt ≤ 3 := q_nltI c18; have t3 : 0 ≤ x1.toInt := q_nltI c38; have t4 : x1.toInt ≤ 3 := q_nltI c39; have t5 : x1.toInt ≠ 0 := q_neI c43; have t6 : x1.toInt ≠ 1 := q_neI c44; have t7 : x1.toInt ≠ 2 := q_neI c48; omega)) ?_
            refine q_gor (post := fun r u => qA6 = r ∧ ws = u) V (q_runV (As := [.int 3]) (rest := []) (d := 1) (mc := 0) (ms := 0) (ci := 0) C0 V rfl LV_NH_157 (c_NH_floatRow l D g ws qO0 qO1 qO2 qA3 qA4 qA5 qA6 qO7 qO8 qO9 qO10 qO11 qO12 qO13 qO14 hO0 _) rfl rfl hO0 rfl hl.1 rfl (Nat.le_of_ble_eq_true rfl) ⟨by decide, by decide⟩ ⟨Nat.le_of_ble_eq_true rfl, Nat.le_of_ble_eq_true rfl⟩ d_1_7_73) (fun v58 u57 H locs hp56 V => ?_)
            obtain ⟨rfl, rfl⟩ := hp56
            refine lv_iload_n hx hb d_1_7_76 rfl (lv_at hl 5 rfl) ?_
            refine q_lald C0 V hA6 (q_ix (x := x3.toInt) rfl (by have t1 : 0 ≤ x3.toInt := q_nltI c40; have t2 : x3.toInt < 10 := q_nleI c41; omega) (by have t1 : 0 ≤ x3.toInt := q_nltI c40; have t2 : x3.toInt < 10 := q_nleI c41; omega)) d_1_7_77 ?_
            refine q_tl (v := 0) (by first | rfl | decide | simp [upd, vp_updL, sb_cl0]) ?_
            refine lv_lstore (lv' := [(7, .long 0), (5, .long 0), (4, .ref qO10), (0, .ref qO0), (1, .int x1), (2, .int x2), (3, .int x3)]) hx hb d_1_7_78 hl (by decide) rfl (fun ls hl => ?_)
            refine lv_aload hx hb d_1_7_80 (lv_at hl 2 rfl) ?_
            refine lv_lload hx hb d_1_7_82 (lv_at hl 1 rfl) ?_
            refine q_goi V (q_runV (As := [.long 0]) (rest := []) (d := 3) (mc := 0) (ms := 0) (ci := 6) C0 V rfl LV_NH_199 (c_Flo_isNoNumber l D g ws 35 qO10 qO7 hO10 _) rfl rfl hO10 rfl hl.1 rfl (Nat.le_of_ble_eq_true rfl) ⟨by decide, by decide⟩ ⟨Nat.le_of_ble_eq_true rfl, Nat.le_of_ble_eq_true rfl⟩ d_1_7_84) (fun v62 u61 H locs hp60 V => ?_)
            obtain ⟨rfl, rfl⟩ := hp60
            refine lv_if_ne (tgt := 104) hx hb d_1_7_87 (by decide) (fun c64 => absurd (by decide) c64) (fun c64 => ?_)
            refine lv_aload hx hb d_1_7_90 (lv_at hl 2 rfl) ?_
            refine lv_lload hx hb d_1_7_92 (lv_at hl 0 rfl) ?_
            refine q_goi V (q_runV (As := [.long 0]) (rest := []) (d := 3) (mc := 0) (ms := 0) (ci := 6) C0 V rfl LV_NH_199 (c_Flo_isNoNumber l D g ws 35 qO10 qO7 hO10 _) rfl rfl hO10 rfl hl.1 rfl (Nat.le_of_ble_eq_true rfl) ⟨by decide, by decide⟩ ⟨Nat.le_of_ble_eq_true rfl, Nat.le_of_ble_eq_true rfl⟩ d_1_7_94) (fun v67 u66 H locs hp65 V => ?_)
            obtain ⟨rfl, rfl⟩ := hp65
            refine lv_if_ne (tgt := 104) hx hb d_1_7_97 (by decide) (fun c69 => absurd (by decide) c69) (fun c69 => ?_)
            refine lv_iconst (v := 1) hx hb d_1_7_100 (by decide) ?_
            refine lv_goto (tgt := 105) hx hb d_1_7_101 (by decide) ?_
            refine q_goxv V (q_runSX (As := [.int 1]) (rest := []) (d := 7) (mc := 1) (ms := 6) C0 V rfl LS_NH_138 (c_NH_canHave l D g ws hlt 1 _) rfl hl.1 rfl (Nat.le_of_ble_eq_true rfl) ⟨by decide, by decide⟩ ⟨Nat.le_of_ble_eq_true rfl, Nat.le_of_ble_eq_true rfl⟩ d_1_7_105) (fun qx Ex ce u71 H locs hp70 V hce hcv hcl => ?_) (fun u71 H locs hp70 V => ?_)
            ·
              obtain ⟨c72, rfl, rfl⟩ := hp70
              exact absurd c72 (by decide)
            ·
              obtain ⟨c74, rfl⟩ := hp70
              refine lv_aload hx hb d_1_7_108 (lv_at hl 2 rfl) ?_
              refine lv_lload hx hb d_1_7_110 (lv_at hl 1 rfl) ?_
              refine q_gol V (q_runV (As := [.long 0]) (rest := []) (d := 3) (mc := 0) (ms := 0) (ci := 6) C0 V rfl LV_NH_202 (c_Flo_place l D g ws 35 qO10 qO7 hO10 _) rfl rfl hO10 rfl hl.1 rfl (Nat.le_of_ble_eq_true rfl) ⟨by decide, by decide⟩ ⟨Nat.le_of_ble_eq_true rfl, Nat.le_of_ble_eq_true rfl⟩ d_1_7_112) (fun v78 u77 H locs hp76 V => ?_)
              obtain ⟨rfl, rfl⟩ := hp76
              refine lv_aload hx hb d_1_7_115 (lv_at hl 2 rfl) ?_
              refine lv_lload hx hb d_1_7_117 (lv_at hl 0 rfl) ?_
              refine q_gol V (q_runV (As := [.long 0]) (rest := [.long 0]) (d := 3) (mc := 0) (ms := 0) (ci := 6) C0 V rfl LV_NH_202 (c_Flo_place l D g ws 35 qO10 qO7 hO10 _) rfl rfl hO10 rfl hl.1 rfl (Nat.le_of_ble_eq_true rfl) ⟨by decide, by decide⟩ ⟨Nat.le_of_ble_eq_true rfl, Nat.le_of_ble_eq_true rfl⟩ d_1_7_119) (fun v82 u81 H locs hp80 V => ?_)
              obtain ⟨rfl, rfl⟩ := hp80
              refine q_goi V (q_runS (As := [.long 0, .long 0]) (rest := []) (d := 1) (mc := 0) (ms := 0) C0 V rfl LS_NH_206 (c_jLong_compare l D g ws _) rfl hl.1 rfl (Nat.le_of_ble_eq_true rfl) ⟨by decide, by decide⟩ ⟨Nat.le_of_ble_eq_true rfl, Nat.le_of_ble_eq_true rfl⟩ d_1_7_122) (fun v86 u85 H locs hp84 V => ?_)
              obtain ⟨rfl, rfl⟩ := hp84
              exact q_retX (q_reti C0 V (⟨(show ((0 ≤ x1.toInt ∧ x1.toInt ≤ 3) ∧ (0 ≤ x2.toInt ∧ x2.toInt ≤ 9) ∧ (0 ≤ x3.toInt ∧ x3.toInt ≤ 9)) ∧ (0 : Int32).toInt = 0 from by have t1 : 0 ≤ x1.toInt := q_nltI c17; have t2 : x1.toInt ≤ 3 := q_nltI c18; have t3 : 0 ≤ x2.toInt := q_nltI c19; have t4 : x2.toInt < 10 := q_nleI c20; have t5 : 0 ≤ x1.toInt := q_nltI c38; have t6 : x1.toInt ≤ 3 := q_nltI c39; have t7 : 0 ≤ x3.toInt := q_nltI c40; have t8 : x3.toInt < 10 := q_nleI c41; have t9 : x1.toInt ≠ 0 := q_neI c43; have t10 : x1.toInt ≠ 1 := q_neI c44; have t11 : x1.toInt ≠ 2 := q_neI c48; have e0 : (0 : Int32).toInt = 0 := (by decide); omega), hF⟩) d_1_7_125)
          ·
            refine lv_astore (lv' := [(4, .ref qO9), (0, .ref qO0), (1, .int x1), (2, .int x2), (3, .int x3)]) hx hb d_1_7_60 hl (by decide) rfl (fun ls hl => ?_)
            refine lv_aload_n hx hb d_1_7_62 rfl (lv_at hl 1 rfl) ?_
            refine lv_iload_n hx hb d_1_7_63 rfl (lv_at hl 2 rfl) ?_
            refine q_ti (v := 2) c50 ?_
            refine q_gor (post := fun r u => qA5 = r ∧ ws = u) V (q_runV (As := [.int 2]) (rest := []) (d := 1) (mc := 0) (ms := 0) (ci := 0) C0 V rfl LV_NH_157 (c_NH_floatRow_2 l D g ws qO0 qO1 qO2 qA3 qA4 qA5 qA6 qO7 qO8 qO9 qO10 qO11 qO12 qO13 qO14 hO0 _) rfl rfl hO0 rfl hl.1 rfl (Nat.le_of_ble_eq_true rfl) ⟨by decide, by decide⟩ ⟨Nat.le_of_ble_eq_true rfl, Nat.le_of_ble_eq_true rfl⟩ d_1_7_64) (fun v90 u89 H locs hp88 V => ?_)
            obtain ⟨rfl, rfl⟩ := hp88
            refine lv_iload_n hx hb d_1_7_67 rfl (lv_at hl 3 rfl) ?_
            refine q_lald C0 V hA5 (q_ix (x := x2.toInt) rfl (by have t1 : 0 ≤ x2.toInt := q_nltI c19; have t2 : x2.toInt < 10 := q_nleI c20; omega) (by have t1 : 0 ≤ x2.toInt := q_nltI c19; have t2 : x2.toInt < 10 := q_nleI c20; omega)) d_1_7_68 ?_
            refine q_tl (v := 0) (by first | rfl | decide | simp [upd, vp_updL, sb_cl0]) ?_
            refine lv_lstore (lv' := [(5, .long 0), (4, .ref qO9), (0, .ref qO0), (1, .int x1), (2, .int x2), (3, .int x3)]) hx hb d_1_7_69 hl (by decide) rfl (fun ls hl => ?_)
            refine lv_aload_n hx hb d_1_7_71 rfl (lv_at hl 2 rfl) ?_
            refine lv_iload_n hx hb d_1_7_72 rfl (lv_at hl 3 rfl) ?_
            refine q_ti (v := 2) c50 ?_
            refine q_gor (post := fun r u => qA5 = r ∧ ws = u) V (q_runV (As := [.int 2]) (rest := []) (d := 1) (mc := 0) (ms := 0) (ci := 0) C0 V rfl LV_NH_157 (c_NH_floatRow_2 l D g ws qO0 qO1 qO2 qA3 qA4 qA5 qA6 qO7 qO8 qO9 qO10 qO11 qO12 qO13 qO14 hO0 _) rfl rfl hO0 rfl hl.1 rfl (Nat.le_of_ble_eq_true rfl) ⟨by decide, by decide⟩ ⟨Nat.le_of_ble_eq_true rfl, Nat.le_of_ble_eq_true rfl⟩ d_1_7_73) (fun v94 u93 H locs hp92 V => ?_)
            obtain ⟨rfl, rfl⟩ := hp92
            refine lv_iload_n hx hb d_1_7_76 rfl (lv_at hl 5 rfl) ?_
            refine q_lald C0 V hA5 (q_ix (x := x3.toInt) rfl (by have t1 : 0 ≤ x3.toInt := q_nltI c40; have t2 : x3.toInt < 10 := q_nleI c41; omega) (by have t1 : 0 ≤ x3.toInt := q_nltI c40; have t2 : x3.toInt < 10 := q_nleI c41; omega)) d_1_7_77 ?_
            refine q_tl (v := 0) (by first | rfl | decide | simp [upd, vp_updL, sb_cl0]) ?_
            refine lv_lstore (lv' := [(7, .long 0), (5, .long 0), (4, .ref qO9), (0, .ref qO0), (1, .int x1), (2, .int x2), (3, .int x3)]) hx hb d_1_7_78 hl (by decide) rfl (fun ls hl => ?_)
            refine lv_aload hx hb d_1_7_80 (lv_at hl 2 rfl) ?_
            refine lv_lload hx hb d_1_7_82 (lv_at hl 1 rfl) ?_
            refine q_goi V (q_runV (As := [.long 0]) (rest := []) (d := 3) (mc := 0) (ms := 0) (ci := 6) C0 V rfl LV_NH_199 (c_Flo_isNoNumber_2 l D g ws 34 qO9 qO7 hO9 _) rfl rfl hO9 rfl hl.1 rfl (Nat.le_of_ble_eq_true rfl) ⟨by decide, by decide⟩ ⟨Nat.le_of_ble_eq_true rfl, Nat.le_of_ble_eq_true rfl⟩ d_1_7_84) (fun v98 u97 H locs hp96 V => ?_)
            obtain ⟨rfl, rfl⟩ := hp96
            refine lv_if_ne (tgt := 104) hx hb d_1_7_87 (by decide) (fun c100 => absurd (by decide) c100) (fun c100 => ?_)
            refine lv_aload hx hb d_1_7_90 (lv_at hl 2 rfl) ?_
            refine lv_lload hx hb d_1_7_92 (lv_at hl 0 rfl) ?_
            refine q_goi V (q_runV (As := [.long 0]) (rest := []) (d := 3) (mc := 0) (ms := 0) (ci := 6) C0 V rfl LV_NH_199 (c_Flo_isNoNumber_2 l D g ws 34 qO9 qO7 hO9 _) rfl rfl hO9 rfl hl.1 rfl (Nat.le_of_ble_eq_true rfl) ⟨by decide, by decide⟩ ⟨Nat.le_of_ble_eq_true rfl, Nat.le_of_ble_eq_true rfl⟩ d_1_7_94) (fun v103 u102 H locs hp101 V => ?_)
            obtain ⟨rfl, rfl⟩ := hp101
            refine lv_if_ne (tgt := 104) hx hb d_1_7_97 (by decide) (fun c105 => absurd (by decide) c105) (fun c105 => ?_)
            refine lv_iconst (v := 1) hx hb d_1_7_100 (by decide) ?_
            refine lv_goto (tgt := 105) hx hb d_1_7_101 (by decide) ?_
            refine q_goxv V (q_runSX (As := [.int 1]) (rest := []) (d := 7) (mc := 1) (ms := 6) C0 V rfl LS_NH_138 (c_NH_canHave l D g ws hlt 1 _) rfl hl.1 rfl (Nat.le_of_ble_eq_true rfl) ⟨by decide, by decide⟩ ⟨Nat.le_of_ble_eq_true rfl, Nat.le_of_ble_eq_true rfl⟩ d_1_7_105) (fun qx Ex ce u107 H locs hp106 V hce hcv hcl => ?_) (fun u107 H locs hp106 V => ?_)
            ·
              obtain ⟨c108, rfl, rfl⟩ := hp106
              exact absurd c108 (by decide)
            ·
              obtain ⟨c110, rfl⟩ := hp106
              refine lv_aload hx hb d_1_7_108 (lv_at hl 2 rfl) ?_
              refine lv_lload hx hb d_1_7_110 (lv_at hl 1 rfl) ?_
              refine q_gol V (q_runV (As := [.long 0]) (rest := []) (d := 3) (mc := 0) (ms := 0) (ci := 6) C0 V rfl LV_NH_202 (c_Flo_place_2 l D g ws 34 qO9 qO7 hO9 _) rfl rfl hO9 rfl hl.1 rfl (Nat.le_of_ble_eq_true rfl) ⟨by decide, by decide⟩ ⟨Nat.le_of_ble_eq_true rfl, Nat.le_of_ble_eq_true rfl⟩ d_1_7_112) (fun v114 u113 H locs hp112 V => ?_)
              obtain ⟨rfl, rfl⟩ := hp112
              refine lv_aload hx hb d_1_7_115 (lv_at hl 2 rfl) ?_
              refine lv_lload hx hb d_1_7_117 (lv_at hl 0 rfl) ?_
              refine q_gol V (q_runV (As := [.long 0]) (rest := [.long 0]) (d := 3) (mc := 0) (ms := 0) (ci := 6) C0 V rfl LV_NH_202 (c_Flo_place_2 l D g ws 34 qO9 qO7 hO9 _) rfl rfl hO9 rfl hl.1 rfl (Nat.le_of_ble_eq_true rfl) ⟨by decide, by decide⟩ ⟨Nat.le_of_ble_eq_true rfl, Nat.le_of_ble_eq_true rfl⟩ d_1_7_119) (fun v118 u117 H locs hp116 V => ?_)
              obtain ⟨rfl, rfl⟩ := hp116
              refine q_goi V (q_runS (As := [.long 0, .long 0]) (rest := []) (d := 1) (mc := 0) (ms := 0) C0 V rfl LS_NH_206 (c_jLong_compare l D g ws _) rfl hl.1 rfl (Nat.le_of_ble_eq_true rfl) ⟨by decide, by decide⟩ ⟨Nat.le_of_ble_eq_true rfl, Nat.le_of_ble_eq_true rfl⟩ d_1_7_122) (fun v122 u121 H locs hp120 V => ?_)
              obtain ⟨rfl, rfl⟩ := hp120
              exact q_retX (q_reti C0 V (⟨(show ((0 ≤ x1.toInt ∧ x1.toInt ≤ 3) ∧ (0 ≤ x2.toInt ∧ x2.toInt ≤ 9) ∧ (0 ≤ x3.toInt ∧ x3.toInt ≤ 9)) ∧ (0 : Int32).toInt = 0 from by have t1 : 0 ≤ x1.toInt := q_nltI c17; have t2 : x1.toInt ≤ 3 := q_nltI c18; have t3 : 0 ≤ x2.toInt := q_nltI c19; have t4 : x2.toInt < 10 := q_nleI c20; have t5 : 0 ≤ x1.toInt := q_nltI c38; have t6 : x1.toInt ≤ 3 := q_nltI c39; have t7 : 0 ≤ x3.toInt := q_nltI c40; have t8 : x3.toInt < 10 := q_nleI c41; have t9 : x1.toInt ≠ 0 := q_neI c43; have t10 : x1.toInt ≠ 1 := q_neI c44; have t11 : x1.toInt = 2 := q_eqI c50; have e0 : (0 : Int32).toInt = 0 := (by decide); omega), hF⟩) d_1_7_125)
        ·
          refine lv_aload_n hx hb d_1_7_35 rfl (lv_at hl 0 rfl) ?_
          refine q_get (ci := 0) (j := 7) (v := .ref qO8) C0 V i_NH rfl rfl hO0 (by decide) w_431 rfl d_1_7_36 ?_
          refine lv_aload_n hx hb d_1_7_39 rfl (lv_at hl 0 rfl) ?_
          refine q_get (ci := 0) (j := 3) (v := .ref qA4) C0 V i_NH rfl rfl hO0 (by decide) w_427 rfl d_1_7_40 ?_
          refine lv_iload_n hx hb d_1_7_43 rfl (lv_at hl 2 rfl) ?_
          have r124 : x2.toNatClampNeg < 10 := (q_r10 (x := x2.toInt) rfl (by have t1 : 0 ≤ x2.toInt := q_nltI c19; have t2 : x2.toInt < 10 := q_nleI c20; omega) (by have t1 : 0 ≤ x2.toInt := q_nltI c19; have t2 : x2.toInt < 10 := q_nleI c20; omega))
          have hr125 : ws[68 + 5 * x2.toNatClampNeg]? = (some (qD x2.toNatClampNeg, .inr (3, [.ref (qDN x2.toNatClampNeg), .int 0, .int 1])) : Option (Nat × va_E)) := FD _ r124
          have hr126 : ws[69 + 5 * x2.toNatClampNeg]? = (some (qDN x2.toNatClampNeg, .inr (2, [.ref (qDL x2.toNatClampNeg), .int 0, .int 0])) : Option (Nat × va_E)) := FDN _ r124
          have hr127 : ws[70 + 5 * x2.toNatClampNeg]? = (some (qDL x2.toNatClampNeg, .inl (g 0, 108, .inl (fun _ => 0))) : Option (Nat × va_E)) := FDL _ r124
          have hh : x2.toNatClampNeg < 10 := (q_r10 (x := x2.toInt) rfl (by have t1 : 0 ≤ x2.toInt := q_nltI c19; have t2 : x2.toInt < 10 := q_nleI c20; omega) (by have t1 : 0 ≤ x2.toInt := q_nltI c19; have t2 : x2.toInt < 10 := q_nleI c20; omega))
          refine q_aald (t := 5) (q := qD x2.toNatClampNeg) C0 V hA4 rfl (q_ix (x := x2.toInt) rfl (by have t1 : 0 ≤ x2.toInt := q_nltI c19; have t2 : x2.toInt < 10 := q_nleI c20; omega) (by have t1 : 0 ≤ x2.toInt := q_nltI c19; have t2 : x2.toInt < 10 := q_nleI c20; omega)) (hfD _ hh) d_1_7_44 ?_
          refine lv_aload_n hx hb d_1_7_45 rfl (lv_at hl 0 rfl) ?_
          refine q_get (ci := 0) (j := 3) (v := .ref qA4) C0 V i_NH rfl rfl hO0 (by decide) w_427 rfl d_1_7_46 ?_
          refine lv_iload_n hx hb d_1_7_49 rfl (lv_at hl 3 rfl) ?_
          have r128 : x3.toNatClampNeg < 10 := (q_r10 (x := x3.toInt) rfl (by have t1 : 0 ≤ x3.toInt := q_nltI c40; have t2 : x3.toInt < 10 := q_nleI c41; omega) (by have t1 : 0 ≤ x3.toInt := q_nltI c40; have t2 : x3.toInt < 10 := q_nleI c41; omega))
          have hr129 : ws[68 + 5 * x3.toNatClampNeg]? = (some (qD x3.toNatClampNeg, .inr (3, [.ref (qDN x3.toNatClampNeg), .int 0, .int 1])) : Option (Nat × va_E)) := FD _ r128
          have hr130 : ws[69 + 5 * x3.toNatClampNeg]? = (some (qDN x3.toNatClampNeg, .inr (2, [.ref (qDL x3.toNatClampNeg), .int 0, .int 0])) : Option (Nat × va_E)) := FDN _ r128
          have hr131 : ws[70 + 5 * x3.toNatClampNeg]? = (some (qDL x3.toNatClampNeg, .inl (g 0, 108, .inl (fun _ => 0))) : Option (Nat × va_E)) := FDL _ r128
          have hh : x3.toNatClampNeg < 10 := (q_r10 (x := x3.toInt) rfl (by have t1 : 0 ≤ x3.toInt := q_nltI c40; have t2 : x3.toInt < 10 := q_nleI c41; omega) (by have t1 : 0 ≤ x3.toInt := q_nltI c40; have t2 : x3.toInt < 10 := q_nleI c41; omega))
          refine q_aald (t := 5) (q := qD x3.toNatClampNeg) C0 V hA4 rfl (q_ix (x := x3.toInt) rfl (by have t1 : 0 ≤ x3.toInt := q_nltI c40; have t2 : x3.toInt < 10 := q_nleI c41; omega) (by have t1 : 0 ≤ x3.toInt := q_nltI c40; have t2 : x3.toInt < 10 := q_nleI c41; omega)) (hfD _ hh) d_1_7_50 ?_
          refine q_goi V (q_runV (As := [.ref (qD x2.toNatClampNeg), .ref (qD x3.toNatClampNeg)]) (rest := []) (d := 2) (mc := 0) (ms := 0) (ci := 5) C0 V rfl LV_NH_196 (c_DW_order l D g ws (68 + 5 * x2.toNatClampNeg) (68 + 5 * x3.toNatClampNeg) (69 + 5 * x2.toNatClampNeg) (69 + 5 * x3.toNatClampNeg) qO8 (qD x2.toNatClampNeg) (qD x3.toNatClampNeg) (qDN x2.toNatClampNeg) (qDN x3.toNatClampNeg) (qDL x2.toNatClampNeg) (qDL x3.toNatClampNeg) hr125 hr129 hr126 hr130 _) rfl rfl hO8 rfl hl.1 rfl (Nat.le_of_ble_eq_true rfl) ⟨by decide, by decide⟩ ⟨Nat.le_of_ble_eq_true rfl, Nat.le_of_ble_eq_true rfl⟩ d_1_7_51) (fun v134 u133 H locs hp132 V => ?_)
          obtain ⟨rfl, rfl⟩ := hp132
          refine W.widen (k := 3) (n := 18) (Nat.le_of_ble_eq_true rfl) (Nat.le_of_ble_eq_true rfl) ?_
          exact q_retX (q_reti C0 V (⟨(show ((0 ≤ x1.toInt ∧ x1.toInt ≤ 3) ∧ (0 ≤ x2.toInt ∧ x2.toInt ≤ 9) ∧ (0 ≤ x3.toInt ∧ x3.toInt ≤ 9)) ∧ (0 : Int32).toInt = 0 from by have t1 : 0 ≤ x1.toInt := q_nltI c17; have t2 : x1.toInt ≤ 3 := q_nltI c18; have t3 : 0 ≤ x2.toInt := q_nltI c19; have t4 : x2.toInt < 10 := q_nleI c20; have t5 : 0 ≤ x1.toInt := q_nltI c38; have t6 : x1.toInt ≤ 3 := q_nltI c39; have t7 : 0 ≤ x3.toInt := q_nltI c40; have t8 : x3.toInt < 10 := q_nleI c41; have t9 : x1.toInt ≠ 0 := q_neI c43; have t10 : x1.toInt = 1 := q_eqI c44; have e0 : (0 : Int32).toInt = 0 := (by decide); omega), hF⟩) d_1_7_54)
      ·
        refine lv_aload_n hx hb d_1_7_14 rfl (lv_at hl 0 rfl) ?_
        refine q_get (ci := 0) (j := 2) (v := .ref qA3) C0 V i_NH rfl rfl hO0 (by decide) w_426 rfl d_1_7_15 ?_
        refine lv_iload_n hx hb d_1_7_18 rfl (lv_at hl 2 rfl) ?_
        have r136 : x2.toNatClampNeg < 10 := (q_r10 (x := x2.toInt) rfl (by have t1 : 0 ≤ x2.toInt := q_nltI c19; have t2 : x2.toInt < 10 := q_nleI c20; omega) (by have t1 : 0 ≤ x2.toInt := q_nltI c19; have t2 : x2.toInt < 10 := q_nleI c20; omega))
        have hr137 : ws[66 + 5 * x2.toNatClampNeg]? = (some (qW x2.toNatClampNeg, .inr (2, [.ref (qWL x2.toNatClampNeg), .int 0, .int 0])) : Option (Nat × va_E)) := FW _ r136
        have hr138 : ws[67 + 5 * x2.toNatClampNeg]? = (some (qWL x2.toNatClampNeg, .inl (g 0, 68, .inl (fun _ => 0))) : Option (Nat × va_E)) := FWL _ r136
        have hh : x2.toNatClampNeg < 10 := (q_r10 (x := x2.toInt) rfl (by have t1 : 0 ≤ x2.toInt := q_nltI c19; have t2 : x2.toInt < 10 := q_nleI c20; omega) (by have t1 : 0 ≤ x2.toInt := q_nltI c19; have t2 : x2.toInt < 10 := q_nleI c20; omega))
        refine q_aald (t := 4) (q := qW x2.toNatClampNeg) C0 V hA3 rfl (q_ix (x := x2.toInt) rfl (by have t1 : 0 ≤ x2.toInt := q_nltI c19; have t2 : x2.toInt < 10 := q_nleI c20; omega) (by have t1 : 0 ≤ x2.toInt := q_nltI c19; have t2 : x2.toInt < 10 := q_nleI c20; omega)) (hfW _ hh) d_1_7_19 ?_
        refine lv_aload_n hx hb d_1_7_20 rfl (lv_at hl 0 rfl) ?_
        refine q_get (ci := 0) (j := 2) (v := .ref qA3) C0 V i_NH rfl rfl hO0 (by decide) w_426 rfl d_1_7_21 ?_
        refine lv_iload_n hx hb d_1_7_24 rfl (lv_at hl 3 rfl) ?_
        have r139 : x3.toNatClampNeg < 10 := (q_r10 (x := x3.toInt) rfl (by have t1 : 0 ≤ x3.toInt := q_nltI c40; have t2 : x3.toInt < 10 := q_nleI c41; omega) (by have t1 : 0 ≤ x3.toInt := q_nltI c40; have t2 : x3.toInt < 10 := q_nleI c41; omega))
        have hr140 : ws[66 + 5 * x3.toNatClampNeg]? = (some (qW x3.toNatClampNeg, .inr (2, [.ref (qWL x3.toNatClampNeg), .int 0, .int 0])) : Option (Nat × va_E)) := FW _ r139
        have hr141 : ws[67 + 5 * x3.toNatClampNeg]? = (some (qWL x3.toNatClampNeg, .inl (g 0, 68, .inl (fun _ => 0))) : Option (Nat × va_E)) := FWL _ r139
        have hh : x3.toNatClampNeg < 10 := (q_r10 (x := x3.toInt) rfl (by have t1 : 0 ≤ x3.toInt := q_nltI c40; have t2 : x3.toInt < 10 := q_nleI c41; omega) (by have t1 : 0 ≤ x3.toInt := q_nltI c40; have t2 : x3.toInt < 10 := q_nleI c41; omega))
        refine q_aald (t := 4) (q := qW x3.toNatClampNeg) C0 V hA3 rfl (q_ix (x := x3.toInt) rfl (by have t1 : 0 ≤ x3.toInt := q_nltI c40; have t2 : x3.toInt < 10 := q_nleI c41; omega) (by have t1 : 0 ≤ x3.toInt := q_nltI c40; have t2 : x3.toInt < 10 := q_nleI c41; omega)) (hfW _ hh) d_1_7_25 ?_
        refine q_goi V (q_runV (As := [.ref (qW x3.toNatClampNeg)]) (rest := []) (d := 2) (mc := 0) (ms := 0) (ci := 2) C0 V rfl LV_NH_192 (c_Big_order l D g ws (66 + 5 * x2.toNatClampNeg) (66 + 5 * x3.toNatClampNeg) (qW x2.toNatClampNeg) (qW x3.toNatClampNeg) (qWL x2.toNatClampNeg) (qWL x3.toNatClampNeg) hr137 hr140 _) rfl rfl hr137 rfl hl.1 rfl (Nat.le_of_ble_eq_true rfl) ⟨by decide, by decide⟩ ⟨Nat.le_of_ble_eq_true rfl, Nat.le_of_ble_eq_true rfl⟩ d_1_7_26) (fun v144 u143 H locs hp142 V => ?_)
        obtain ⟨rfl, rfl⟩ := hp142
        refine W.widen (k := 3) (n := 18) (Nat.le_of_ble_eq_true rfl) (Nat.le_of_ble_eq_true rfl) ?_
        exact q_retX (q_reti C0 V (⟨(show ((0 ≤ x1.toInt ∧ x1.toInt ≤ 3) ∧ (0 ≤ x2.toInt ∧ x2.toInt ≤ 9) ∧ (0 ≤ x3.toInt ∧ x3.toInt ≤ 9)) ∧ (0 : Int32).toInt = 0 from by have t1 : 0 ≤ x1.toInt := q_nltI c17; have t2 : x1.toInt ≤ 3 := q_nltI c18; have t3 : 0 ≤ x2.toInt := q_nltI c19; have t4 : x2.toInt < 10 := q_nleI c20; have t5 : 0 ≤ x1.toInt := q_nltI c38; have t6 : x1.toInt ≤ 3 := q_nltI c39; have t7 : 0 ≤ x3.toInt := q_nltI c40; have t8 : x3.toInt < 10 := q_nleI c41; have t9 : x1.toInt = 0 := q_eqI c43; have e0 : (0 : Int32).toInt = 0 := (by decide); omega), hF⟩) d_1_7_29)
