/-! the class on a fresh object: powerModulo -/
theorem d_1_10_0 : decode prog_1_method_10_code 0 = .ok (.iload_n 1, 1) := by decide +kernel
theorem d_1_10_1 : decode prog_1_method_10_code 1 = .ok (.invokestatic 212, 3) := by decide +kernel
theorem d_1_10_4 : decode prog_1_method_10_code 4 = .ok (.ifCond .eq 29, 3) := by decide +kernel
theorem d_1_10_33 : decode prog_1_method_10_code 33 = .ok (.iconst 0, 1) := by decide +kernel
theorem d_1_10_34 : decode prog_1_method_10_code 34 = .ok (.invokestatic 104, 3) := by decide +kernel
theorem d_1_10_7 : decode prog_1_method_10_code 7 = .ok (.iload_n 2, 1) := by decide +kernel
theorem d_1_10_8 : decode prog_1_method_10_code 8 = .ok (.invokestatic 212, 3) := by decide +kernel
theorem d_1_10_11 : decode prog_1_method_10_code 11 = .ok (.ifCond .eq 22, 3) := by decide +kernel
theorem d_1_10_14 : decode prog_1_method_10_code 14 = .ok (.iload_n 3, 1) := by decide +kernel
theorem d_1_10_15 : decode prog_1_method_10_code 15 = .ok (.invokestatic 212, 3) := by decide +kernel
theorem d_1_10_18 : decode prog_1_method_10_code 18 = .ok (.ifCond .eq 15, 3) := by decide +kernel
theorem d_1_10_21 : decode prog_1_method_10_code 21 = .ok (.iload 4, 2) := by decide +kernel
theorem d_1_10_23 : decode prog_1_method_10_code 23 = .ok (.invokestatic 212, 3) := by decide +kernel
theorem d_1_10_26 : decode prog_1_method_10_code 26 = .ok (.ifCond .eq 7, 3) := by decide +kernel
theorem d_1_10_29 : decode prog_1_method_10_code 29 = .ok (.iconst 1, 1) := by decide +kernel
theorem d_1_10_30 : decode prog_1_method_10_code 30 = .ok (.goto 4, 3) := by decide +kernel
theorem d_1_10_37 : decode prog_1_method_10_code 37 = .ok (.aload_n 0, 1) := by decide +kernel
theorem d_1_10_38 : decode prog_1_method_10_code 38 = .ok (.getfield 23, 3) := by decide +kernel
theorem d_1_10_41 : decode prog_1_method_10_code 41 = .ok (.iload_n 3, 1) := by decide +kernel
theorem d_1_10_42 : decode prog_1_method_10_code 42 = .ok (.aaload, 1) := by decide +kernel
theorem d_1_10_43 : decode prog_1_method_10_code 43 = .ok (.invokevirtual 225, 3) := by decide +kernel
theorem d_1_10_46 : decode prog_1_method_10_code 46 = .ok (.ifCond .le 7, 3) := by decide +kernel
theorem d_1_10_53 : decode prog_1_method_10_code 53 = .ok (.iconst 0, 1) := by decide +kernel
theorem d_1_10_54 : decode prog_1_method_10_code 54 = .ok (.invokestatic 138, 3) := by decide +kernel
def y_NH_powerModulo : MethodName := ⟨"NumberHouse", "powerModulo", "(IIII)V"⟩
set_option maxRecDepth 100000 in
set_option maxHeartbeats 4000000 in
/-- powerModulo on a fresh object -/
theorem c_NH_powerModulo (l : Launch) (D : va_G) (g : Nat → ClassId) (ws : va_W) (hlt : l.stackTraces = false) ( qO0 qO1 qO2 qA3 qA4 qA5 qA6 qO7 qO8 qO9 qO10 qO11 qO12 qO13 qO14 : Nat) (x1 : Int32) (x2 : Int32) (x3 : Int32) (x4 : Int32) (f5 : Nat → Option Nat) (hO0 : ws[0]? = (some (qO0, .inr (0, [.ref qO1, .ref qO2, .ref qA3, .ref qA4, .ref qA5, .ref qA6, .ref qO7, .ref qO8, .ref qO9, .ref qO10, .ref qO11, .ref qO12, .ref qO13, .ref qO14])) : Option (Nat × va_E))) (hA3 : ws[5]? = (some (qA3, .inl (g 4, 10, .inr (.inr (.inr (.inr f5))))) : Option (Nat × va_E))) (qW qWL qD qDN qDL : Nat → Nat) (hfW : ∀ i, i < 10 → f5 i = some (qW i)) (FW : ∀ i, i < 10 → ws[66 + 5 * i]? = (some (qW i, .inr (2, [.ref (qWL i), .int 0, .int 0])) : Option (Nat × va_E))) (FWL : ∀ i, i < 10 → ws[67 + 5 * i]? = (some (qWL i, .inl (g 0, 68, .inl (fun _ => 0))) : Option (Nat × va_E))) : q_xV l y_NH_powerModulo prog_1_method_10_code 5 8 2 12 D g [.ref qO0, .int x1, .int x2, .int x3, .int x4] ws (fun u => (((0 ≤ x1.toInt ∧ x1.toInt ≤ 9) ∧ (0 ≤ x2.toInt ∧ x2.toInt ≤ 9) ∧ (0 ≤ x3.toInt ∧ x3.toInt ≤ 9) ∧ (0 ≤ x4.toInt ∧ x4.toInt ≤ 9)) ∧ ¬ (0 ≤ x1.toInt)) ∧ q_ge 116 ws u) (fun E u => (("java/lang/IllegalArgumentException" = E ∧ (¬ ((0 ≤ x1.toInt ∧ x1.toInt ≤ 9) ∧ (0 ≤ x2.toInt ∧ x2.toInt ≤ 9) ∧ (0 ≤ x3.toInt ∧ x3.toInt ≤ 9) ∧ (0 ≤ x4.toInt ∧ x4.toInt ≤ 9)))) ∨ ("java/lang/ArithmeticException" = E ∧ (((0 ≤ x1.toInt ∧ x1.toInt ≤ 9) ∧ (0 ≤ x2.toInt ∧ x2.toInt ≤ 9) ∧ (0 ≤ x3.toInt ∧ x3.toInt ≤ 9) ∧ (0 ≤ x4.toInt ∧ x4.toInt ≤ 9)) ∧ 0 ≤ x1.toInt))) ∧ q_ge 116 ws u) := by
  intro sz
  refine q_intoX (by decide) (Nat.le_of_ble_eq_true rfl) ?_
  intro p e s m below meth c ls hsz C0 V hno hl
  have hx := C0.1
  have hb := C0.2.1
  have hl : lv_has ls 5 [(0, .ref qO0), (1, .int x1), (2, .int x2), (3, .int x3), (4, .int x4)] := hl
  have hF : q_ge 116 ws ws := q_g0
  refine lv_iload_n hx hb d_1_10_0 rfl (lv_at hl 1 rfl) ?_
  refine q_goi V (q_runS (As := [.int x1]) (rest := []) (d := 1) (mc := 0) (ms := 0) C0 V rfl LS_NH_212 (c_NH_isRegister l D g ws x1 _) rfl hl.1 rfl (Nat.le_of_ble_eq_true rfl) ⟨by decide, by decide⟩ ⟨Nat.le_of_ble_eq_true rfl, Nat.le_of_ble_eq_true rfl⟩ d_1_10_1) (fun v3 u2 H locs hp1 V => ?_)
  rcases hp1 with ⟨c4, rfl, rfl⟩ | ⟨c6, c7, rfl, rfl⟩ | ⟨c9, c10, rfl, rfl⟩
  ·
    refine lv_if_eq (tgt := 33) hx hb d_1_10_4 (by decide) (fun c12 => ?_) (fun c12 => absurd (by decide) c12)
    refine lv_iconst (v := 0) hx hb d_1_10_33 (by decide) ?_
    refine q_goxv V (q_runSX (As := [.int 0]) (rest := []) (d := 7) (mc := 1) (ms := 6) C0 V rfl LS_NH_104 (c_NH_need l D g ws hlt 0 _) rfl hl.1 rfl (Nat.le_of_ble_eq_true rfl) ⟨by decide, by decide⟩ ⟨Nat.le_of_ble_eq_true rfl, Nat.le_of_ble_eq_true rfl⟩ d_1_10_34) (fun qx Ex ce u14 H locs hp13 V hce hcv hcl => ?_) (fun u14 H locs hp13 V => ?_)
    ·
      obtain ⟨c15, rfl, rfl⟩ := hp13
      exact q_outT hno C0 V (⟨Or.inl ⟨rfl, (show ¬ ((0 ≤ x1.toInt ∧ x1.toInt ≤ 9) ∧ (0 ≤ x2.toInt ∧ x2.toInt ≤ 9) ∧ (0 ≤ x3.toInt ∧ x3.toInt ≤ 9) ∧ (0 ≤ x4.toInt ∧ x4.toInt ≤ 9)) from by have t1 : x1.toInt < 0 := q_ltI c4; omega)⟩, hF⟩) hce hcv hcl (Nat.le_of_ble_eq_true rfl) (Nat.le_of_ble_eq_true rfl)
    ·
      obtain ⟨c17, rfl⟩ := hp13
      exact absurd c17 (by decide)
  ·
    refine lv_if_eq (tgt := 33) hx hb d_1_10_4 (by decide) (fun c19 => ?_) (fun c19 => absurd (by decide) c19)
    refine lv_iconst (v := 0) hx hb d_1_10_33 (by decide) ?_
    refine q_goxv V (q_runSX (As := [.int 0]) (rest := []) (d := 7) (mc := 1) (ms := 6) C0 V rfl LS_NH_104 (c_NH_need l D g ws hlt 0 _) rfl hl.1 rfl (Nat.le_of_ble_eq_true rfl) ⟨by decide, by decide⟩ ⟨Nat.le_of_ble_eq_true rfl, Nat.le_of_ble_eq_true rfl⟩ d_1_10_34) (fun qx Ex ce u21 H locs hp20 V hce hcv hcl => ?_) (fun u21 H locs hp20 V => ?_)
    ·
      obtain ⟨c22, rfl, rfl⟩ := hp20
      exact q_outT hno C0 V (⟨Or.inl ⟨rfl, (show ¬ ((0 ≤ x1.toInt ∧ x1.toInt ≤ 9) ∧ (0 ≤ x2.toInt ∧ x2.toInt ≤ 9) ∧ (0 ≤ x3.toInt ∧ x3.toInt ≤ 9) ∧ (0 ≤ x4.toInt ∧ x4.toInt ≤ 9)) from by have t1 : 0 ≤ x1.toInt := q_nltI c6; have t2 : 10 ≤ x1.toInt := q_leI c7; omega)⟩, hF⟩) hce hcv hcl (Nat.le_of_ble_eq_true rfl) (Nat.le_of_ble_eq_true rfl)
    ·
      obtain ⟨c24, rfl⟩ := hp20
      exact absurd c24 (by decide)
  ·
    refine lv_if_eq (tgt := 33) hx hb d_1_10_4 (by decide) (fun c26 => absurd c26 (by decide)) (fun c26 => ?_)
    refine lv_iload_n hx hb d_1_10_7 rfl (lv_at hl 2 rfl) ?_
    refine q_goi V (q_runS (As := [.int x2]) (rest := []) (d := 1) (mc := 0) (ms := 0) C0 V rfl LS_NH_212 (c_NH_isRegister l D g ws x2 _) rfl hl.1 rfl (Nat.le_of_ble_eq_true rfl) ⟨by decide, by decide⟩ ⟨Nat.le_of_ble_eq_true rfl, Nat.le_of_ble_eq_true rfl⟩ d_1_10_8) (fun v29 u28 H locs hp27 V => ?_)
    rcases hp27 with ⟨c30, rfl, rfl⟩ | ⟨c32, c33, rfl, rfl⟩ | ⟨c35, c36, rfl, rfl⟩
    ·
      refine lv_if_eq (tgt := 33) hx hb d_1_10_11 (by decide) (fun c38 => ?_) (fun c38 => absurd (by decide) c38)
      refine lv_iconst (v := 0) hx hb d_1_10_33 (by decide) ?_
      refine q_goxv V (q_runSX (As := [.int 0]) (rest := []) (d := 7) (mc := 1) (ms := 6) C0 V rfl LS_NH_104 (c_NH_need l D g ws hlt 0 _) rfl hl.1 rfl (Nat.le_of_ble_eq_true rfl) ⟨by decide, by decide⟩ ⟨Nat.le_of_ble_eq_true rfl, Nat.le_of_ble_eq_true rfl⟩ d_1_10_34) (fun qx Ex ce u40 H locs hp39 V hce hcv hcl => ?_) (fun u40 H locs hp39 V => ?_)
      ·
        obtain ⟨c41, rfl, rfl⟩ := hp39
        exact q_outT hno C0 V (⟨Or.inl ⟨rfl, (show ¬ ((0 ≤ x1.toInt ∧ x1.toInt ≤ 9) ∧ (0 ≤ x2.toInt ∧ x2.toInt ≤ 9) ∧ (0 ≤ x3.toInt ∧ x3.toInt ≤ 9) ∧ (0 ≤ x4.toInt ∧ x4.toInt ≤ 9)) from by have t1 : 0 ≤ x1.toInt := q_nltI c9; have t2 : x1.toInt < 10 := q_nleI c10; have t3 : x2.toInt < 0 := q_ltI c30; omega)⟩, hF⟩) hce hcv hcl (Nat.le_of_ble_eq_true rfl) (Nat.le_of_ble_eq_true rfl)
      ·
        obtain ⟨c43, rfl⟩ := hp39
        exact absurd c43 (by decide)
    ·
      refine lv_if_eq (tgt := 33) hx hb d_1_10_11 (by decide) (fun c45 => ?_) (fun c45 => absurd (by decide) c45)
      refine lv_iconst (v := 0) hx hb d_1_10_33 (by decide) ?_
      refine q_goxv V (q_runSX (As := [.int 0]) (rest := []) (d := 7) (mc := 1) (ms := 6) C0 V rfl LS_NH_104 (c_NH_need l D g ws hlt 0 _) rfl hl.1 rfl (Nat.le_of_ble_eq_true rfl) ⟨by decide, by decide⟩ ⟨Nat.le_of_ble_eq_true rfl, Nat.le_of_ble_eq_true rfl⟩ d_1_10_34) (fun qx Ex ce u47 H locs hp46 V hce hcv hcl => ?_) (fun u47 H locs hp46 V => ?_)
      ·
        obtain ⟨c48, rfl, rfl⟩ := hp46
        exact q_outT hno C0 V (⟨Or.inl ⟨rfl, (show ¬ ((0 ≤ x1.toInt ∧ x1.toInt ≤ 9) ∧ (0 ≤ x2.toInt ∧ x2.toInt ≤ 9) ∧ (0 ≤ x3.toInt ∧ x3.toInt ≤ 9) ∧ (0 ≤ x4.toInt ∧ x4.toInt ≤ 9)) from by have t1 : 0 ≤ x1.toInt := q_nltI c9; have t2 : x1.toInt < 10 := q_nleI c10; have t3 : 0 ≤ x2.toInt := q_nltI c32; have t4 : 10 ≤ x2.toInt := q_leI c33; omega)⟩, hF⟩) hce hcv hcl (Nat.le_of_ble_eq_true rfl) (Nat.le_of_ble_eq_true rfl)
      ·
        obtain ⟨c50, rfl⟩ := hp46
        exact absurd c50 (by decide)
    ·
      refine lv_if_eq (tgt := 33) hx hb d_1_10_11 (by decide) (fun c52 => absurd c52 (by decide)) (fun c52 => ?_)
      refine lv_iload_n hx hb d_1_10_14 rfl (lv_at hl 3 rfl) ?_
      refine q_goi V (q_runS (As := [.int x3]) (rest := []) (d := 1) (mc := 0) (ms := 0) C0 V rfl LS_NH_212 (c_NH_isRegister l D g ws x3 _) rfl hl.1 rfl (Nat.le_of_ble_eq_true rfl) ⟨by decide, by decide⟩ ⟨Nat.le_of_ble_eq_true rfl, Nat.le_of_ble_eq_true rfl⟩ d_1_10_15) (fun v55 u54 H locs hp53 V => ?_)
      rcases hp53 with ⟨c56, rfl, rfl⟩ | ⟨c58, c59, rfl, rfl⟩ | ⟨c61, c62, rfl, rfl⟩
      ·
        refine lv_if_eq (tgt := 33) hx hb d_1_10_18 (by decide) (fun c64 => ?_) (fun c64 => absurd (by decide) c64)
        refine lv_iconst (v := 0) hx hb d_1_10_33 (by decide) ?_
        refine q_goxv V (q_runSX (As := [.int 0]) (rest := []) (d := 7) (mc := 1) (ms := 6) C0 V rfl LS_NH_104 (c_NH_need l D g ws hlt 0 _) rfl hl.1 rfl (Nat.le_of_ble_eq_true rfl) ⟨by decide, by decide⟩ ⟨Nat.le_of_ble_eq_true rfl, Nat.le_of_ble_eq_true rfl⟩ d_1_10_34) (fun qx Ex ce u66 H locs hp65 V hce hcv hcl => ?_) (fun u66 H locs hp65 V => ?_)
        ·
          obtain ⟨c67, rfl, rfl⟩ := hp65
          exact q_outT hno C0 V (⟨Or.inl ⟨rfl, (show ¬ ((0 ≤ x1.toInt ∧ x1.toInt ≤ 9) ∧ (0 ≤ x2.toInt ∧ x2.toInt ≤ 9) ∧ (0 ≤ x3.toInt ∧ x3.toInt ≤ 9) ∧ (0 ≤ x4.toInt ∧ x4.toInt ≤ 9)) from by have t1 : 0 ≤ x1.toInt := q_nltI c9; have t2 : x1.toInt < 10 := q_nleI c10; have t3 : 0 ≤ x2.toInt := q_nltI c35; have t4 : x2.toInt < 10 := q_nleI c36; have t5 : x3.toInt < 0 := q_ltI c56; omega)⟩, hF⟩) hce hcv hcl (Nat.le_of_ble_eq_true rfl) (Nat.le_of_ble_eq_true rfl)
        ·
          obtain ⟨c69, rfl⟩ := hp65
          exact absurd c69 (by decide)
      ·
        refine lv_if_eq (tgt := 33) hx hb d_1_10_18 (by decide) (fun c71 => ?_) (fun c71 => absurd (by decide) c71)
        refine lv_iconst (v := 0) hx hb d_1_10_33 (by decide) ?_
        refine q_goxv V (q_runSX (As := [.int 0]) (rest := []) (d := 7) (mc := 1) (ms := 6) C0 V rfl LS_NH_104 (c_NH_need l D g ws hlt 0 _) rfl hl.1 rfl (Nat.le_of_ble_eq_true rfl) ⟨by decide, by decide⟩ ⟨Nat.le_of_ble_eq_true rfl, Nat.le_of_ble_eq_true rfl⟩ d_1_10_34) (fun qx Ex ce u73 H locs hp72 V hce hcv hcl => ?_) (fun u73 H locs hp72 V => ?_)
        ·
          obtain ⟨c74, rfl, rfl⟩ := hp72
          exact q_outT hno C0 V (⟨Or.inl ⟨rfl, (show ¬ ((0 ≤ x1.toInt ∧ x1.toInt ≤ 9) ∧ (0 ≤ x2.toInt ∧ x2.toInt ≤ 9) ∧ (0 ≤ x3.toInt ∧ x3.toInt ≤ 9) ∧ (0 ≤ x4.toInt ∧ x4.toInt ≤ 9)) from by have t1 : 0 ≤ x1.toInt := q_nltI c9; have t2 : x1.toInt < 10 := q_nleI c10; have t3 : 0 ≤ x2.toInt := q_nltI c35; have t4 : x2.toInt < 10 := q_nleI c36; have t5 : 0 ≤ x3.toInt := q_nltI c58; have t6 : 10 ≤ x3.toInt := q_leI c59; omega)⟩, hF⟩) hce hcv hcl (Nat.le_of_ble_eq_true rfl) (Nat.le_of_ble_eq_true rfl)
        ·
          obtain ⟨c76, rfl⟩ := hp72
          exact absurd c76 (by decide)
      ·
        refine lv_if_eq (tgt := 33) hx hb d_1_10_18 (by decide) (fun c78 => absurd c78 (by decide)) (fun c78 => ?_)
        refine lv_iload hx hb d_1_10_21 (lv_at hl 4 rfl) ?_
        refine q_goi V (q_runS (As := [.int x4]) (rest := []) (d := 1) (mc := 0) (ms := 0) C0 V rfl LS_NH_212 (c_NH_isRegister l D g ws x4 _) rfl hl.1 rfl (Nat.le_of_ble_eq_true rfl) ⟨by decide, by decide⟩ ⟨Nat.le_of_ble_eq_true rfl, Nat.le_of_ble_eq_true rfl⟩ d_1_10_23) (fun v81 u80 H locs hp79 V => ?_)
        rcases hp79 with ⟨c82, rfl, rfl⟩ | ⟨c84, c85, rfl, rfl⟩ | ⟨c87, c88, rfl, rfl⟩
        ·
          refine lv_if_eq (tgt := 33) hx hb d_1_10_26 (by decide) (fun c90 => ?_) (fun c90 => absurd (by decide) c90)
          refine lv_iconst (v := 0) hx hb d_1_10_33 (by decide) ?_
          refine q_goxv V (q_runSX (As := [.int 0]) (rest := []) (d := 7) (mc := 1) (ms := 6) C0 V rfl LS_NH_104 (c_NH_need l D g ws hlt 0 _) rfl hl.1 rfl (Nat.le_of_ble_eq_true rfl) ⟨by decide, by decide⟩ ⟨Nat.le_of_ble_eq_true rfl, Nat.le_of_ble_eq_true rfl⟩ d_1_10_34) (fun qx Ex ce u92 H locs hp91 V hce hcv hcl => ?_) (fun u92 H locs hp91 V => ?_)
          ·
            obtain ⟨c93, rfl, rfl⟩ := hp91
            exact q_outT hno C0 V (⟨Or.inl ⟨rfl, (show ¬ ((0 ≤ x1.toInt ∧ x1.toInt ≤ 9) ∧ (0 ≤ x2.toInt ∧ x2.toInt ≤ 9) ∧ (0 ≤ x3.toInt ∧ x3.toInt ≤ 9) ∧ (0 ≤ x4.toInt ∧ x4.toInt ≤ 9)) from by have t1 : 0 ≤ x1.toInt := q_nltI c9; have t2 : x1.toInt < 10 := q_nleI c10; have t3 : 0 ≤ x2.toInt := q_nltI c35; have t4 : x2.toInt < 10 := q_nleI c36; have t5 : 0 ≤ x3.toInt := q_nltI c61; have t6 : x3.toInt < 10 := q_nleI c62; have t7 : x4.toInt < 0 := q_ltI c82; omega)⟩, hF⟩) hce hcv hcl (Nat.le_of_ble_eq_true rfl) (Nat.le_of_ble_eq_true rfl)
          ·
            obtain ⟨c95, rfl⟩ := hp91
            exact absurd c95 (by decide)
        ·
          refine lv_if_eq (tgt := 33) hx hb d_1_10_26 (by decide) (fun c97 => ?_) (fun c97 => absurd (by decide) c97)
          refine lv_iconst (v := 0) hx hb d_1_10_33 (by decide) ?_
          refine q_goxv V (q_runSX (As := [.int 0]) (rest := []) (d := 7) (mc := 1) (ms := 6) C0 V rfl LS_NH_104 (c_NH_need l D g ws hlt 0 _) rfl hl.1 rfl (Nat.le_of_ble_eq_true rfl) ⟨by decide, by decide⟩ ⟨Nat.le_of_ble_eq_true rfl, Nat.le_of_ble_eq_true rfl⟩ d_1_10_34) (fun qx Ex ce u99 H locs hp98 V hce hcv hcl => ?_) (fun u99 H locs hp98 V => ?_)
          ·
            obtain ⟨c100, rfl, rfl⟩ := hp98
            exact q_outT hno C0 V (⟨Or.inl ⟨rfl, (show ¬ ((0 ≤ x1.toInt ∧ x1.toInt ≤ 9) ∧ (0 ≤ x2.toInt ∧ x2.toInt ≤ 9) ∧ (0 ≤ x3.toInt ∧ x3.toInt ≤ 9) ∧ (0 ≤ x4.toInt ∧ x4.toInt ≤ 9)) from by have t1 : 0 ≤ x1.toInt := q_nltI c9; have t2 : x1.toInt < 10 := q_nleI c10; have t3 : 0 ≤ x2.toInt := q_nltI c35; have t4 : x2.toInt < 10 := q_nleI c36; have t5 : 0 ≤ x3.toInt := q_nltI c61; have t6 : x3.toInt < 10 := q_nleI c62; have t7 : 0 ≤ x4.toInt := q_nltI c84; have t8 : 10 ≤ x4.toInt := q_leI c85; omega)⟩, hF⟩) hce hcv hcl (Nat.le_of_ble_eq_true rfl) (Nat.le_of_ble_eq_true rfl)
          ·
            obtain ⟨c102, rfl⟩ := hp98
            exact absurd c102 (by decide)
        ·
          refine lv_if_eq (tgt := 33) hx hb d_1_10_26 (by decide) (fun c104 => absurd c104 (by decide)) (fun c104 => ?_)
          refine lv_iconst (v := 1) hx hb d_1_10_29 (by decide) ?_
          refine lv_goto (tgt := 34) hx hb d_1_10_30 (by decide) ?_
          refine q_goxv V (q_runSX (As := [.int 1]) (rest := []) (d := 7) (mc := 1) (ms := 6) C0 V rfl LS_NH_104 (c_NH_need l D g ws hlt 1 _) rfl hl.1 rfl (Nat.le_of_ble_eq_true rfl) ⟨by decide, by decide⟩ ⟨Nat.le_of_ble_eq_true rfl, Nat.le_of_ble_eq_true rfl⟩ d_1_10_34) (fun qx Ex ce u106 H locs hp105 V hce hcv hcl => ?_) (fun u106 H locs hp105 V => ?_)
          ·
            obtain ⟨c107, rfl, rfl⟩ := hp105
            exact absurd c107 (by decide)
          ·
            obtain ⟨c109, rfl⟩ := hp105
            refine lv_aload_n hx hb d_1_10_37 rfl (lv_at hl 0 rfl) ?_
            refine q_get (ci := 0) (j := 2) (v := .ref qA3) C0 V i_NH rfl rfl hO0 (by decide) w_426 rfl d_1_10_38 ?_
            refine lv_iload_n hx hb d_1_10_41 rfl (lv_at hl 3 rfl) ?_
            have r111 : x3.toNatClampNeg < 10 := (q_r10 (x := x3.toInt) rfl (by have t1 : 0 ≤ x3.toInt := q_nltI c61; have t2 : x3.toInt < 10 := q_nleI c62; omega) (by have t1 : 0 ≤ x3.toInt := q_nltI c61; have t2 : x3.toInt < 10 := q_nleI c62; omega))
            have hr112 : ws[66 + 5 * x3.toNatClampNeg]? = (some (qW x3.toNatClampNeg, .inr (2, [.ref (qWL x3.toNatClampNeg), .int 0, .int 0])) : Option (Nat × va_E)) := FW _ r111
            have hr113 : ws[67 + 5 * x3.toNatClampNeg]? = (some (qWL x3.toNatClampNeg, .inl (g 0, 68, .inl (fun _ => 0))) : Option (Nat × va_E)) := FWL _ r111
            have hh : x3.toNatClampNeg < 10 := (q_r10 (x := x3.toInt) rfl (by have t1 : 0 ≤ x3.toInt := q_nltI c61; have t2 : x3.toInt < 10 := q_nleI c62; omega) (by have t1 : 0 ≤ x3.toInt := q_nltI c61; have t2 : x3.toInt < 10 := q_nleI c62; omega))
            refine q_aald (t := 4) (q := qW x3.toNatClampNeg) C0 V hA3 rfl (q_ix (x := x3.toInt) rfl (by have t1 : 0 ≤ x3.toInt := q_nltI c61; have t2 : x3.toInt < 10 := q_nleI c62; omega) (by have t1 : 0 ≤ x3.toInt := q_nltI c61; have t2 : x3.toInt < 10 := q_nleI c62; omega)) (hfW _ hh) d_1_10_42 ?_
            refine q_goi V (q_runV (As := []) (rest := []) (d := 1) (mc := 0) (ms := 0) (ci := 2) C0 V rfl LV_NH_225 (c_Big_sign l D g ws (66 + 5 * x3.toNatClampNeg) (qW x3.toNatClampNeg) (qWL x3.toNatClampNeg) 0 0 hr112 _) rfl rfl hr112 rfl hl.1 rfl (Nat.le_of_ble_eq_true rfl) ⟨by decide, by decide⟩ ⟨Nat.le_of_ble_eq_true rfl, Nat.le_of_ble_eq_true rfl⟩ d_1_10_43) (fun v116 u115 H locs hp114 V => ?_)
            rcases hp114 with ⟨c117, c118, rfl, rfl⟩ | ⟨c120, c121, rfl, rfl⟩ | ⟨c123, rfl, rfl⟩
            ·
              exact absurd c117 (by decide)
            ·
              exact absurd c120 (by decide)
            ·
              refine lv_if_le (tgt := 53) hx hb d_1_10_46 (by decide) (fun c125 => ?_) (fun c125 => absurd (by decide) c125)
              refine lv_iconst (v := 0) hx hb d_1_10_53 (by decide) ?_
              refine q_goxv V (q_runSX (As := [.int 0]) (rest := []) (d := 7) (mc := 1) (ms := 6) C0 V rfl LS_NH_138 (c_NH_canHave l D g ws hlt 0 _) rfl hl.1 rfl (Nat.le_of_ble_eq_true rfl) ⟨by decide, by decide⟩ ⟨Nat.le_of_ble_eq_true rfl, Nat.le_of_ble_eq_true rfl⟩ d_1_10_54) (fun qx Ex ce u127 H locs hp126 V hce hcv hcl => ?_) (fun u127 H locs hp126 V => ?_)
              ·
                obtain ⟨c128, rfl, rfl⟩ := hp126
                exact q_outT hno C0 V (⟨Or.inr (⟨rfl, (show ((0 ≤ x1.toInt ∧ x1.toInt ≤ 9) ∧ (0 ≤ x2.toInt ∧ x2.toInt ≤ 9) ∧ (0 ≤ x3.toInt ∧ x3.toInt ≤ 9) ∧ (0 ≤ x4.toInt ∧ x4.toInt ≤ 9)) ∧ 0 ≤ x1.toInt from by have t1 : 0 ≤ x1.toInt := q_nltI c9; have t2 : x1.toInt < 10 := q_nleI c10; have t3 : 0 ≤ x2.toInt := q_nltI c35; have t4 : x2.toInt < 10 := q_nleI c36; have t5 : 0 ≤ x3.toInt := q_nltI c61; have t6 : x3.toInt < 10 := q_nleI c62; have t7 : 0 ≤ x4.toInt := q_nltI c87; have t8 : x4.toInt < 10 := q_nleI c88; omega)⟩), hF⟩) hce hcv hcl (Nat.le_of_ble_eq_true rfl) (Nat.le_of_ble_eq_true rfl)
              ·
                obtain ⟨c130, rfl⟩ := hp126
                exact absurd c130 (by decide)
