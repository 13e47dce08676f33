/-! the class on a fresh object: quotient -/
theorem d_1_14_0 : decode prog_1_method_14_code 0 = .ok (.iload_n 1, 1) := by decide +kernel
theorem d_1_14_1 : decode prog_1_method_14_code 1 = .ok (.invokestatic 212, 3) := by decide +kernel
theorem d_1_14_4 : decode prog_1_method_14_code 4 = .ok (.ifCond .eq 29, 3) := by decide +kernel
theorem d_1_14_33 : decode prog_1_method_14_code 33 = .ok (.iconst 0, 1) := by decide +kernel
theorem d_1_14_34 : decode prog_1_method_14_code 34 = .ok (.invokestatic 104, 3) := by decide +kernel
theorem d_1_14_7 : decode prog_1_method_14_code 7 = .ok (.iload_n 2, 1) := by decide +kernel
theorem d_1_14_8 : decode prog_1_method_14_code 8 = .ok (.invokestatic 212, 3) := by decide +kernel
theorem d_1_14_11 : decode prog_1_method_14_code 11 = .ok (.ifCond .eq 22, 3) := by decide +kernel
theorem d_1_14_14 : decode prog_1_method_14_code 14 = .ok (.iload_n 3, 1) := by decide +kernel
theorem d_1_14_15 : decode prog_1_method_14_code 15 = .ok (.invokestatic 212, 3) := by decide +kernel
theorem d_1_14_18 : decode prog_1_method_14_code 18 = .ok (.ifCond .eq 15, 3) := by decide +kernel
theorem d_1_14_21 : decode prog_1_method_14_code 21 = .ok (.iload 5, 2) := by decide +kernel
theorem d_1_14_23 : decode prog_1_method_14_code 23 = .ok (.invokestatic 296, 3) := by decide +kernel
theorem d_1_14_26 : decode prog_1_method_14_code 26 = .ok (.ifCond .eq 7, 3) := by decide +kernel
theorem d_1_14_29 : decode prog_1_method_14_code 29 = .ok (.iconst 1, 1) := by decide +kernel
theorem d_1_14_30 : decode prog_1_method_14_code 30 = .ok (.goto 4, 3) := by decide +kernel
theorem d_1_14_37 : decode prog_1_method_14_code 37 = .ok (.iload 4, 2) := by decide +kernel
theorem d_1_14_39 : decode prog_1_method_14_code 39 = .ok (.ifCond .lt 15, 3) := by decide +kernel
theorem d_1_14_54 : decode prog_1_method_14_code 54 = .ok (.iconst 0, 1) := by decide +kernel
theorem d_1_14_55 : decode prog_1_method_14_code 55 = .ok (.invokestatic 104, 3) := by decide +kernel
theorem d_1_14_42 : decode prog_1_method_14_code 42 = .ok (.iload 4, 2) := by decide +kernel
theorem d_1_14_44 : decode prog_1_method_14_code 44 = .ok (.sipush 1000, 3) := by decide +kernel
theorem d_1_14_47 : decode prog_1_method_14_code 47 = .ok (.if_icmp .gt 7, 3) := by decide +kernel
theorem d_1_14_50 : decode prog_1_method_14_code 50 = .ok (.iconst 1, 1) := by decide +kernel
theorem d_1_14_51 : decode prog_1_method_14_code 51 = .ok (.goto 4, 3) := by decide +kernel
theorem d_1_14_58 : decode prog_1_method_14_code 58 = .ok (.aload_n 0, 1) := by decide +kernel
theorem d_1_14_59 : decode prog_1_method_14_code 59 = .ok (.getfield 29, 3) := by decide +kernel
theorem d_1_14_62 : decode prog_1_method_14_code 62 = .ok (.iload_n 2, 1) := by decide +kernel
theorem d_1_14_63 : decode prog_1_method_14_code 63 = .ok (.aaload, 1) := by decide +kernel
theorem d_1_14_64 : decode prog_1_method_14_code 64 = .ok (.getfield 277, 3) := by decide +kernel
theorem d_1_14_67 : decode prog_1_method_14_code 67 = .ok (.getfield 220, 3) := by decide +kernel
theorem d_1_14_70 : decode prog_1_method_14_code 70 = .ok (.ifCond .le 7, 3) := by decide +kernel
theorem d_1_14_77 : decode prog_1_method_14_code 77 = .ok (.iconst 0, 1) := by decide +kernel
theorem d_1_14_78 : decode prog_1_method_14_code 78 = .ok (.invokestatic 138, 3) := by decide +kernel
def y_NH_quotient : MethodName := ⟨"NumberHouse", "quotient", "(IIIII)V"⟩
set_option maxRecDepth 100000 in
set_option maxHeartbeats 4000000 in
/-- quotient on a fresh object -/
theorem c_NH_quotient (l : Launch) (D : va_G) (g : Nat → ClassId) (ws : va_W) (hlt : l.stackTraces = false) ( qO0 qO1 qO2 qA3 qA4 qA5 qA6 qO7 qO8 qO9 qO10 qO11 qO12 qO13 qO14 : Nat) (x1 : Int32) (x2 : Int32) (x3 : Int32) (x4 : Int32) (x5 : Int32) (f7 : Nat → Option Nat) (hO0 : ws[0]? = (some (qO0, .inr (0, [.ref qO1, .ref qO2, .ref qA3, .ref qA4, .ref qA5, .ref qA6, .ref qO7, .ref qO8, .ref qO9, .ref qO10, .ref qO11, .ref qO12, .ref qO13, .ref qO14])) : Option (Nat × va_E))) (hA4 : ws[6]? = (some (qA4, .inl (g 5, 10, .inr (.inr (.inr (.inr f7))))) : Option (Nat × va_E))) (qW qWL qD qDN qDL : Nat → Nat) (hfD : ∀ i, i < 10 → f7 i = some (qD i)) (FD : ∀ i, i < 10 → ws[68 + 5 * i]? = (some (qD i, .inr (3, [.ref (qDN i), .int 0, .int 1])) : Option (Nat × va_E))) (FDN : ∀ i, i < 10 → ws[69 + 5 * i]? = (some (qDN i, .inr (2, [.ref (qDL i), .int 0, .int 0])) : Option (Nat × va_E))) (FDL : ∀ i, i < 10 → ws[70 + 5 * i]? = (some (qDL i, .inl (g 0, 108, .inl (fun _ => 0))) : Option (Nat × va_E))) : q_xV l y_NH_quotient prog_1_method_14_code 6 8 3 18 D g [.ref qO0, .int x1, .int x2, .int x3, .int x4, .int x5] ws (fun u => (((0 ≤ x1.toInt ∧ x1.toInt ≤ 9) ∧ (0 ≤ x2.toInt ∧ x2.toInt ≤ 9) ∧ (0 ≤ x3.toInt ∧ x3.toInt ≤ 9) ∧ (0 ≤ x4.toInt ∧ x4.toInt ≤ 1000) ∧ (0 ≤ x5.toInt ∧ x5.toInt ≤ 7)) ∧ ¬ (0 ≤ x1.toInt)) ∧ q_ge 116 ws u) (fun E u => (("java/lang/IllegalArgumentException" = E ∧ (¬ ((0 ≤ x1.toInt ∧ x1.toInt ≤ 9) ∧ (0 ≤ x2.toInt ∧ x2.toInt ≤ 9) ∧ (0 ≤ x3.toInt ∧ x3.toInt ≤ 9) ∧ (0 ≤ x4.toInt ∧ x4.toInt ≤ 1000) ∧ (0 ≤ x5.toInt ∧ x5.toInt ≤ 7)))) ∨ ("java/lang/ArithmeticException" = E ∧ (((0 ≤ x1.toInt ∧ x1.toInt ≤ 9) ∧ (0 ≤ x2.toInt ∧ x2.toInt ≤ 9) ∧ (0 ≤ x3.toInt ∧ x3.toInt ≤ 9) ∧ (0 ≤ x4.toInt ∧ x4.toInt ≤ 1000) ∧ (0 ≤ x5.toInt ∧ x5.toInt ≤ 7)) ∧ 0 ≤ x1.toInt))) ∧ q_ge 116 ws u) := by
  intro sz
  refine q_intoX (by decide) (Nat.le_of_ble_eq_true rfl) ?_
  intro p e s m below meth c ls hsz C0 V hno hl
  have hx := C0.1
  have hb := C0.2.1
  have hl : lv_has ls 6 [(0, .ref qO0), (1, .int x1), (2, .int x2), (3, .int x3), (4, .int x4), (5, .int x5)] := hl
  have hF : q_ge 116 ws ws := q_g0
  refine lv_iload_n hx hb d_1_14_0 rfl (lv_at hl 1 rfl) ?_
  refine q_goi V (q_runS (As := [.int x1]) (rest := []) (d := 1) (mc := 0) (ms := 0) C0 V rfl LS_NH_212 (c_NH_isRegister l D g ws x1 _) rfl hl.1 rfl (Nat.le_of_ble_eq_true rfl) ⟨by decide, by decide⟩ ⟨Nat.le_of_ble_eq_true rfl, Nat.le_of_ble_eq_true rfl⟩ d_1_14_1) (fun v3 u2 H locs hp1 V => ?_)
  rcases hp1 with ⟨c4, rfl, rfl⟩ | ⟨c6, c7, rfl, rfl⟩ | ⟨c9, c10, rfl, rfl⟩
  ·
    refine lv_if_eq (tgt := 33) hx hb d_1_14_4 (by decide) (fun c12 => ?_) (fun c12 => absurd (by decide) c12)
    refine lv_iconst (v := 0) hx hb d_1_14_33 (by decide) ?_
    refine q_goxv V (q_runSX (As := [.int 0]) (rest := []) (d := 7) (mc := 1) (ms := 6) C0 V rfl LS_NH_104 (c_NH_need l D g ws hlt 0 _) rfl hl.1 rfl (Nat.le_of_ble_eq_true rfl) ⟨by decide, by decide⟩ ⟨Nat.le_of_ble_eq_true rfl, Nat.le_of_ble_eq_true rfl⟩ d_1_14_34) (fun qx Ex ce u14 H locs hp13 V hce hcv hcl => ?_) (fun u14 H locs hp13 V => ?_)
    ·
      obtain ⟨c15, rfl, rfl⟩ := hp13
      exact q_outT hno C0 V (⟨Or.inl ⟨rfl, (show ¬ ((0 ≤ x1.toInt ∧ x1.toInt ≤ 9) ∧ (0 ≤ x2.toInt ∧ x2.toInt ≤ 9) ∧ (0 ≤ x3.toInt ∧ x3.toInt ≤ 9) ∧ (0 ≤ x4.toInt ∧ x4.toInt ≤ 1000) ∧ (0 ≤ x5.toInt ∧ x5.toInt ≤ 7)) from by have t1 : x1.toInt < 0 := q_ltI c4; omega)⟩, hF⟩) hce hcv hcl (Nat.le_of_ble_eq_true rfl) (Nat.le_of_ble_eq_true rfl)
    ·
      obtain ⟨c17, rfl⟩ := hp13
      exact absurd c17 (by decide)
  ·
    refine lv_if_eq (tgt := 33) hx hb d_1_14_4 (by decide) (fun c19 => ?_) (fun c19 => absurd (by decide) c19)
    refine lv_iconst (v := 0) hx hb d_1_14_33 (by decide) ?_
    refine q_goxv V (q_runSX (As := [.int 0]) (rest := []) (d := 7) (mc := 1) (ms := 6) C0 V rfl LS_NH_104 (c_NH_need l D g ws hlt 0 _) rfl hl.1 rfl (Nat.le_of_ble_eq_true rfl) ⟨by decide, by decide⟩ ⟨Nat.le_of_ble_eq_true rfl, Nat.le_of_ble_eq_true rfl⟩ d_1_14_34) (fun qx Ex ce u21 H locs hp20 V hce hcv hcl => ?_) (fun u21 H locs hp20 V => ?_)
    ·
      obtain ⟨c22, rfl, rfl⟩ := hp20
      exact q_outT hno C0 V (⟨Or.inl ⟨rfl, (show ¬ ((0 ≤ x1.toInt ∧ x1.toInt ≤ 9) ∧ (0 ≤ x2.toInt ∧ x2.toInt ≤ 9) ∧ (0 ≤ x3.toInt ∧ x3.toInt ≤ 9) ∧ (0 ≤ x4.toInt ∧ x4.toInt ≤ 1000) ∧ (0 ≤ x5.toInt ∧ x5.toInt ≤ 7)) from by have t1 : 0 ≤ x1.toInt := q_nltI c6; have t2 : 10 ≤ x1.toInt := q_leI c7; omega)⟩, hF⟩) hce hcv hcl (Nat.le_of_ble_eq_true rfl) (Nat.le_of_ble_eq_true rfl)
    ·
      obtain ⟨c24, rfl⟩ := hp20
      exact absurd c24 (by decide)
  ·
    refine lv_if_eq (tgt := 33) hx hb d_1_14_4 (by decide) (fun c26 => absurd c26 (by decide)) (fun c26 => ?_)
    refine lv_iload_n hx hb d_1_14_7 rfl (lv_at hl 2 rfl) ?_
    refine q_goi V (q_runS (As := [.int x2]) (rest := []) (d := 1) (mc := 0) (ms := 0) C0 V rfl LS_NH_212 (c_NH_isRegister l D g ws x2 _) rfl hl.1 rfl (Nat.le_of_ble_eq_true rfl) ⟨by decide, by decide⟩ ⟨Nat.le_of_ble_eq_true rfl, Nat.le_of_ble_eq_true rfl⟩ d_1_14_8) (fun v29 u28 H locs hp27 V => ?_)
    rcases hp27 with ⟨c30, rfl, rfl⟩ | ⟨c32, c33, rfl, rfl⟩ | ⟨c35, c36, rfl, rfl⟩
    ·
      refine lv_if_eq (tgt := 33) hx hb d_1_14_11 (by decide) (fun c38 => ?_) (fun c38 => absurd (by decide) c38)
      refine lv_iconst (v := 0) hx hb d_1_14_33 (by decide) ?_
      refine q_goxv V (q_runSX (As := [.int 0]) (rest := []) (d := 7) (mc := 1) (ms := 6) C0 V rfl LS_NH_104 (c_NH_need l D g ws hlt 0 _) rfl hl.1 rfl (Nat.le_of_ble_eq_true rfl) ⟨by decide, by decide⟩ ⟨Nat.le_of_ble_eq_true rfl, Nat.le_of_ble_eq_true rfl⟩ d_1_14_34) (fun qx Ex ce u40 H locs hp39 V hce hcv hcl => ?_) (fun u40 H locs hp39 V => ?_)
      ·
        obtain ⟨c41, rfl, rfl⟩ := hp39
        exact q_outT hno C0 V (⟨Or.inl ⟨rfl, (show ¬ ((0 ≤ x1.toInt ∧ x1.toInt ≤ 9) ∧ (0 ≤ x2.toInt ∧ x2.toInt ≤ 9) ∧ (0 ≤ x3.toInt ∧ x3.toInt ≤ 9) ∧ (0 ≤ x4.toInt ∧ x4.toInt ≤ 1000) ∧ (0 ≤ x5.toInt ∧ x5.toInt ≤ 7)) from by have t1 : 0 ≤ x1.toInt := q_nltI c9; have t2 : x1.toInt < 10 := q_nleI c10; have t3 : x2.toInt < 0 := q_ltI c30; omega)⟩, hF⟩) hce hcv hcl (Nat.le_of_ble_eq_true rfl) (Nat.le_of_ble_eq_true rfl)
      ·
        obtain ⟨c43, rfl⟩ := hp39
        exact absurd c43 (by decide)
    ·
      refine lv_if_eq (tgt := 33) hx hb d_1_14_11 (by decide) (fun c45 => ?_) (fun c45 => absurd (by decide) c45)
      refine lv_iconst (v := 0) hx hb d_1_14_33 (by decide) ?_
      refine q_goxv V (q_runSX (As := [.int 0]) (rest := []) (d := 7) (mc := 1) (ms := 6) C0 V rfl LS_NH_104 (c_NH_need l D g ws hlt 0 _) rfl hl.1 rfl (Nat.le_of_ble_eq_true rfl) ⟨by decide, by decide⟩ ⟨Nat.le_of_ble_eq_true rfl, Nat.le_of_ble_eq_true rfl⟩ d_1_14_34) (fun qx Ex ce u47 H locs hp46 V hce hcv hcl => ?_) (fun u47 H locs hp46 V => ?_)
      ·
        obtain ⟨c48, rfl, rfl⟩ := hp46
        exact q_outT hno C0 V (⟨Or.inl ⟨rfl, (show ¬ ((0 ≤ x1.toInt ∧ x1.toInt ≤ 9) ∧ (0 ≤ x2.toInt ∧ x2.toInt ≤ 9) ∧ (0 ≤ x3.toInt ∧ x3.toInt ≤ 9) ∧ (0 ≤ x4.toInt ∧ x4.toInt ≤ 1000) ∧ (0 ≤ x5.toInt ∧ x5.toInt ≤ 7)) from by have t1 : 0 ≤ x1.toInt := q_nltI c9; have t2 : x1.toInt < 10 := q_nleI c10; have t3 : 0 ≤ x2.toInt := q_nltI c32; have t4 : 10 ≤ x2.toInt := q_leI c33; omega)⟩, hF⟩) hce hcv hcl (Nat.le_of_ble_eq_true rfl) (Nat.le_of_ble_eq_true rfl)
      ·
        obtain ⟨c50, rfl⟩ := hp46
        exact absurd c50 (by decide)
    ·
      refine lv_if_eq (tgt := 33) hx hb d_1_14_11 (by decide) (fun c52 => absurd c52 (by decide)) (fun c52 => ?_)
      refine lv_iload_n hx hb d_1_14_14 rfl (lv_at hl 3 rfl) ?_
      refine q_goi V (q_runS (As := [.int x3]) (rest := []) (d := 1) (mc := 0) (ms := 0) C0 V rfl LS_NH_212 (c_NH_isRegister l D g ws x3 _) rfl hl.1 rfl (Nat.le_of_ble_eq_true rfl) ⟨by decide, by decide⟩ ⟨Nat.le_of_ble_eq_true rfl, Nat.le_of_ble_eq_true rfl⟩ d_1_14_15) (fun v55 u54 H locs hp53 V => ?_)
      rcases hp53 with ⟨c56, rfl, rfl⟩ | ⟨c58, c59, rfl, rfl⟩ | ⟨c61, c62, rfl, rfl⟩
      ·
        refine lv_if_eq (tgt := 33) hx hb d_1_14_18 (by decide) (fun c64 => ?_) (fun c64 => absurd (by decide) c64)
        refine lv_iconst (v := 0) hx hb d_1_14_33 (by decide) ?_
        refine q_goxv V (q_runSX (As := [.int 0]) (rest := []) (d := 7) (mc := 1) (ms := 6) C0 V rfl LS_NH_104 (c_NH_need l D g ws hlt 0 _) rfl hl.1 rfl (Nat.le_of_ble_eq_true rfl) ⟨by decide, by decide⟩ ⟨Nat.le_of_ble_eq_true rfl, Nat.le_of_ble_eq_true rfl⟩ d_1_14_34) (fun qx Ex ce u66 H locs hp65 V hce hcv hcl => ?_) (fun u66 H locs hp65 V => ?_)
        ·
          obtain ⟨c67, rfl, rfl⟩ := hp65
          exact q_outT hno C0 V (⟨Or.inl ⟨rfl, (show ¬ ((0 ≤ x1.toInt ∧ x1.toInt ≤ 9) ∧ (0 ≤ x2.toInt ∧ x2.toInt ≤ 9) ∧ (0 ≤ x3.toInt ∧ x3.toInt ≤ 9) ∧ (0 ≤ x4.toInt ∧ x4.toInt ≤ 1000) ∧ (0 ≤ x5.toInt ∧ x5.toInt ≤ 7)) from by have t1 : 0 ≤ x1.toInt := q_nltI c9; have t2 : x1.toInt < 10 := q_nleI c10; have t3 : 0 ≤ x2.toInt := q_nltI c35; have t4 : x2.toInt < 10 := q_nleI c36; have t5 : x3.toInt < 0 := q_ltI c56; omega)⟩, hF⟩) hce hcv hcl (Nat.le_of_ble_eq_true rfl) (Nat.le_of_ble_eq_true rfl)
        ·
          obtain ⟨c69, rfl⟩ := hp65
          exact absurd c69 (by decide)
      ·
        refine lv_if_eq (tgt := 33) hx hb d_1_14_18 (by decide) (fun c71 => ?_) (fun c71 => absurd (by decide) c71)
        refine lv_iconst (v := 0) hx hb d_1_14_33 (by decide) ?_
        refine q_goxv V (q_runSX (As := [.int 0]) (rest := []) (d := 7) (mc := 1) (ms := 6) C0 V rfl LS_NH_104 (c_NH_need l D g ws hlt 0 _) rfl hl.1 rfl (Nat.le_of_ble_eq_true rfl) ⟨by decide, by decide⟩ ⟨Nat.le_of_ble_eq_true rfl, Nat.le_of_ble_eq_true rfl⟩ d_1_14_34) (fun qx Ex ce u73 H locs hp72 V hce hcv hcl => ?_) (fun u73 H locs hp72 V => ?_)
        ·
          obtain ⟨c74, rfl, rfl⟩ := hp72
          exact q_outT hno C0 V (⟨Or.inl ⟨rfl, (show ¬ ((0 ≤ x1.toInt ∧ x1.toInt ≤ 9) ∧ (0 ≤ x2.toInt ∧ x2.toInt ≤ 9) ∧ (0 ≤ x3.toInt ∧ x3.toInt ≤ 9) ∧ (0 ≤ x4.toInt ∧ x4.toInt ≤ 1000) ∧ (0 ≤ x5.toInt ∧ x5.toInt ≤ 7)) from by have t1 : 0 ≤ x1.toInt := q_nltI c9; have t2 : x1.toInt < 10 := q_nleI c10; have t3 : 0 ≤ x2.toInt := q_nltI c35; have t4 : x2.toInt < 10 := q_nleI c36; have t5 : 0 ≤ x3.toInt := q_nltI c58; have t6 : 10 ≤ x3.toInt := q_leI c59; omega)⟩, hF⟩) hce hcv hcl (Nat.le_of_ble_eq_true rfl) (Nat.le_of_ble_eq_true rfl)
        ·
          obtain ⟨c76, rfl⟩ := hp72
          exact absurd c76 (by decide)
      ·
        refine lv_if_eq (tgt := 33) hx hb d_1_14_18 (by decide) (fun c78 => absurd c78 (by decide)) (fun c78 => ?_)
        refine lv_iload hx hb d_1_14_21 (lv_at hl 5 rfl) ?_
        refine q_goi V (q_runS (As := [.int x5]) (rest := []) (d := 1) (mc := 0) (ms := 0) C0 V rfl LS_NH_296 (c_NH_isMode l D g ws x5 _) rfl hl.1 rfl (Nat.le_of_ble_eq_true rfl) ⟨by decide, by decide⟩ ⟨Nat.le_of_ble_eq_true rfl, Nat.le_of_ble_eq_true rfl⟩ d_1_14_23) (fun v81 u80 H locs hp79 V => ?_)
        rcases hp79 with ⟨c82, rfl, rfl⟩ | ⟨c84, c85, rfl, rfl⟩ | ⟨c87, c88, rfl, rfl⟩
        ·
          refine lv_if_eq (tgt := 33) hx hb d_1_14_26 (by decide) (fun c90 => ?_) (fun c90 => absurd (by decide) c90)
          refine lv_iconst (v := 0) hx hb d_1_14_33 (by decide) ?_
          refine q_goxv V (q_runSX (As := [.int 0]) (rest := []) (d := 7) (mc := 1) (ms := 6) C0 V rfl LS_NH_104 (c_NH_need l D g ws hlt 0 _) rfl hl.1 rfl (Nat.le_of_ble_eq_true rfl) ⟨by decide, by decide⟩ ⟨Nat.le_of_ble_eq_true rfl, Nat.le_of_ble_eq_true rfl⟩ d_1_14_34) (fun qx Ex ce u92 H locs hp91 V hce hcv hcl => ?_) (fun u92 H locs hp91 V => ?_)
          ·
            obtain ⟨c93, rfl, rfl⟩ := hp91
            exact q_outT hno C0 V (⟨Or.inl ⟨rfl, (show ¬ ((0 ≤ x1.toInt ∧ x1.toInt ≤ 9) ∧ (0 ≤ x2.toInt ∧ x2.toInt ≤ 9) ∧ (0 ≤ x3.toInt ∧ x3.toInt ≤ 9) ∧ (0 ≤ x4.toInt ∧ x4.toInt ≤ 1000) ∧ (0 ≤ x5.toInt ∧ x5.toInt ≤ 7)) from by have t1 : 0 ≤ x1.toInt := q_nltI c9; have t2 : x1.toInt < 10 := q_nleI c10; have t3 : 0 ≤ x2.toInt := q_nltI c35; have t4 : x2.toInt < 10 := q_nleI c36; have t5 : 0 ≤ x3.toInt := q_nltI c61; have t6 : x3.toInt < 10 := q_nleI c62; have t7 : x5.toInt < 0 := q_ltI c82; omega)⟩, hF⟩) hce hcv hcl (Nat.le_of_ble_eq_true rfl) (Nat.le_of_ble_eq_true rfl)
          ·
            obtain ⟨c95, rfl⟩ := hp91
            exact absurd c95 (by decide)
        ·
          refine lv_if_eq (tgt := 33) hx hb d_1_14_26 (by decide) (fun c97 => ?_) (fun c97 => absurd (by decide) c97)
          refine lv_iconst (v := 0) hx hb d_1_14_33 (by decide) ?_
          refine q_goxv V (q_runSX (As := [.int 0]) (rest := []) (d := 7) (mc := 1) (ms := 6) C0 V rfl LS_NH_104 (c_NH_need l D g ws hlt 0 _) rfl hl.1 rfl (Nat.le_of_ble_eq_true rfl) ⟨by decide, by decide⟩ ⟨Nat.le_of_ble_eq_true rfl, Nat.le_of_ble_eq_true rfl⟩ d_1_14_34) (fun qx Ex ce u99 H locs hp98 V hce hcv hcl => ?_) (fun u99 H locs hp98 V => ?_)
          ·
            obtain ⟨c100, rfl, rfl⟩ := hp98
            exact q_outT hno C0 V (⟨Or.inl ⟨rfl, (show ¬ ((0 ≤ x1.toInt ∧ x1.toInt ≤ 9) ∧ (0 ≤ x2.toInt ∧ x2.toInt ≤ 9) ∧ (0 ≤ x3.toInt ∧ x3.toInt ≤ 9) ∧ (0 ≤ x4.toInt ∧ x4.toInt ≤ 1000) ∧ (0 ≤ x5.toInt ∧ x5.toInt ≤ 7)) from by have t1 : 0 ≤ x1.toInt := q_nltI c9; have t2 : x1.toInt < 10 := q_nleI c10; have t3 : 0 ≤ x2.toInt := q_nltI c35; have t4 : x2.toInt < 10 := q_nleI c36; have t5 : 0 ≤ x3.toInt := q_nltI c61; have t6 : x3.toInt < 10 := q_nleI c62; have t7 : 0 ≤ x5.toInt := q_nltI c84; have t8 : 7 < x5.toInt := q_ltI c85; omega)⟩, hF⟩) hce hcv hcl (Nat.le_of_ble_eq_true rfl) (Nat.le_of_ble_eq_true rfl)
          ·
            obtain ⟨c102, rfl⟩ := hp98
            exact absurd c102 (by decide)
        ·
          refine lv_if_eq (tgt := 33) hx hb d_1_14_26 (by decide) (fun c104 => absurd c104 (by decide)) (fun c104 => ?_)
          refine lv_iconst (v := 1) hx hb d_1_14_29 (by decide) ?_
          refine lv_goto (tgt := 34) hx hb d_1_14_30 (by decide) ?_
          refine q_goxv V (q_runSX (As := [.int 1]) (rest := []) (d := 7) (mc := 1) (ms := 6) C0 V rfl LS_NH_104 (c_NH_need l D g ws hlt 1 _) rfl hl.1 rfl (Nat.le_of_ble_eq_true rfl) ⟨by decide, by decide⟩ ⟨Nat.le_of_ble_eq_true rfl, Nat.le_of_ble_eq_true rfl⟩ d_1_14_34) (fun qx Ex ce u106 H locs hp105 V hce hcv hcl => ?_) (fun u106 H locs hp105 V => ?_)
          ·
            obtain ⟨c107, rfl, rfl⟩ := hp105
            exact absurd c107 (by decide)
          ·
            obtain ⟨c109, rfl⟩ := hp105
            refine lv_iload hx hb d_1_14_37 (lv_at hl 4 rfl) ?_
            refine lv_if_lt (tgt := 54) hx hb d_1_14_39 (by decide) (fun c111 => ?_) (fun c111 => ?_)
            ·
              refine lv_iconst (v := 0) hx hb d_1_14_54 (by decide) ?_
              refine q_goxv V (q_runSX (As := [.int 0]) (rest := []) (d := 7) (mc := 1) (ms := 6) C0 V rfl LS_NH_104 (c_NH_need l D g ws hlt 0 _) rfl hl.1 rfl (Nat.le_of_ble_eq_true rfl) ⟨by decide, by decide⟩ ⟨Nat.le_of_ble_eq_true rfl, Nat.le_of_ble_eq_true rfl⟩ d_1_14_55) (fun qx Ex ce u113 H locs hp112 V hce hcv hcl => ?_) (fun u113 H locs hp112 V => ?_)
              ·
                obtain ⟨c114, rfl, rfl⟩ := hp112
                exact q_outT hno C0 V (⟨Or.inl ⟨rfl, (show ¬ ((0 ≤ x1.toInt ∧ x1.toInt ≤ 9) ∧ (0 ≤ x2.toInt ∧ x2.toInt ≤ 9) ∧ (0 ≤ x3.toInt ∧ x3.toInt ≤ 9) ∧ (0 ≤ x4.toInt ∧ x4.toInt ≤ 1000) ∧ (0 ≤ x5.toInt ∧ x5.toInt ≤ 7)) from by have t1 : 0 ≤ x1.toInt := q_nltI c9; have t2 : x1.toInt < 10 := q_nleI c10; have t3 : 0 ≤ x2.toInt := q_nltI c35; have t4 : x2.toInt < 10 := q_nleI c36; have t5 : 0 ≤ x3.toInt := q_nltI c61; have t6 : x3.toInt < 10 := q_nleI c62; have t7 : 0 ≤ x5.toInt := q_nltI c87; have t8 : x5.toInt ≤ 7 := q_nltI c88; have t9 : x4.toInt < 0 := q_ltI c111; omega)⟩, hF⟩) hce hcv hcl (Nat.le_of_ble_eq_true rfl) (Nat.le_of_ble_eq_true rfl)
              ·
                obtain ⟨c116, rfl⟩ := hp112
                exact absurd c116 (by decide)
            ·
              refine lv_iload hx hb d_1_14_42 (lv_at hl 4 rfl) ?_
              refine lv_sipush (v := 1000) hx hb d_1_14_44 (by decide) ?_
              refine lv_icmp_gt (tgt := 54) hx hb d_1_14_47 (by decide) (fun c118 => ?_) (fun c118 => ?_)
              ·
                refine lv_iconst (v := 0) hx hb d_1_14_54 (by decide) ?_
                refine q_goxv V (q_runSX (As := [.int 0]) (rest := []) (d := 7) (mc := 1) (ms := 6) C0 V rfl LS_NH_104 (c_NH_need l D g ws hlt 0 _) rfl hl.1 rfl (Nat.le_of_ble_eq_true rfl) ⟨by decide, by decide⟩ ⟨Nat.le_of_ble_eq_true rfl, Nat.le_of_ble_eq_true rfl⟩ d_1_14_55) (fun qx Ex ce u120 H locs hp119 V hce hcv hcl => ?_) (fun u120 H locs hp119 V => ?_)
                ·
                  obtain ⟨c121, rfl, rfl⟩ := hp119
                  exact q_outT hno C0 V (⟨Or.inl ⟨rfl, (show ¬ ((0 ≤ x1.toInt ∧ x1.toInt ≤ 9) ∧ (0 ≤ x2.toInt ∧ x2.toInt ≤ 9) ∧ (0 ≤ x3.toInt ∧ x3.toInt ≤ 9) ∧ (0 ≤ x4.toInt ∧ x4.toInt ≤ 1000) ∧ (0 ≤ x5.toInt ∧ x5.toInt ≤ 7)) from by have t1 : 0 ≤ x1.toInt := q_nltI c9; have t2 : x1.toInt < 10 := q_nleI c10; have t3 : 0 ≤ x2.toInt := q_nltI c35; have t4 : x2.toInt < 10 := q_nleI c36; have t5 : 0 ≤ x3.toInt := q_nltI c61; have t6 : x3.toInt < 10 := q_nleI c62; have t7 : 0 ≤ x5.toInt := q_nltI c87; have t8 : x5.toInt ≤ 7 := q_nltI c88; have t9 : 0 ≤ x4.toInt := q_nltI c111; have t10 : 1000 < x4.toInt := q_ltI c118; omega)⟩, hF⟩) hce hcv hcl (Nat.le_of_ble_eq_true rfl) (Nat.le_of_ble_eq_true rfl)
                ·
                  obtain ⟨c123, rfl⟩ := hp119
                  exact absurd c123 (by decide)
              ·
                refine lv_iconst (v := 1) hx hb d_1_14_50 (by decide) ?_
                refine lv_goto (tgt := 55) hx hb d_1_14_51 (by decide) ?_
                refine q_goxv V (q_runSX (As := [.int 1]) (rest := []) (d := 7) (mc := 1) (ms := 6) C0 V rfl LS_NH_104 (c_NH_need l D g ws hlt 1 _) rfl hl.1 rfl (Nat.le_of_ble_eq_true rfl) ⟨by decide, by decide⟩ ⟨Nat.le_of_ble_eq_true rfl, Nat.le_of_ble_eq_true rfl⟩ d_1_14_55) (fun qx Ex ce u126 H locs hp125 V hce hcv hcl => ?_) (fun u126 H locs hp125 V => ?_)
                ·
                  obtain ⟨c127, rfl, rfl⟩ := hp125
                  exact absurd c127 (by decide)
                ·
                  obtain ⟨c129, rfl⟩ := hp125
                  refine lv_aload_n hx hb d_1_14_58 rfl (lv_at hl 0 rfl) ?_
                  refine q_get (ci := 0) (j := 3) (v := .ref qA4) C0 V i_NH rfl rfl hO0 (by decide) w_427 rfl d_1_14_59 ?_
                  refine lv_iload_n hx hb d_1_14_62 rfl (lv_at hl 2 rfl) ?_
                  have r131 : x2.toNatClampNeg < 10 := (q_r10 (x := x2.toInt) rfl (by have t1 : 0 ≤ x2.toInt := q_nltI c35; have t2 : x2.toInt < 10 := q_nleI c36; omega) (by have t1 : 0 ≤ x2.toInt := q_nltI c35; have t2 : x2.toInt < 10 := q_nleI c36; omega))
                  have hr132 : ws[68 + 5 * x2.toNatClampNeg]? = (some (qD x2.toNatClampNeg, .inr (3, [.ref (qDN x2.toNatClampNeg), .int 0, .int 1])) : Option (Nat × va_E)) := FD _ r131
                  have hr133 : ws[69 + 5 * x2.toNatClampNeg]? = (some (qDN x2.toNatClampNeg, .inr (2, [.ref (qDL x2.toNatClampNeg), .int 0, .int 0])) : Option (Nat × va_E)) := FDN _ r131
                  have hr134 : ws[70 + 5 * x2.toNatClampNeg]? = (some (qDL x2.toNatClampNeg, .inl (g 0, 108, .inl (fun _ => 0))) : Option (Nat × va_E)) := FDL _ r131
                  have hh : x2.toNatClampNeg < 10 := (q_r10 (x := x2.toInt) rfl (by have t1 : 0 ≤ x2.toInt := q_nltI c35; have t2 : x2.toInt < 10 := q_nleI c36; omega) (by have t1 : 0 ≤ x2.toInt := q_nltI c35; have t2 : x2.toInt < 10 := q_nleI c36; omega))
                  refine q_aald (t := 5) (q := qD x2.toNatClampNeg) C0 V hA4 rfl (q_ix (x := x2.toInt) rfl (by have t1 : 0 ≤ x2.toInt := q_nltI c35; have t2 : x2.toInt < 10 := q_nleI c36; omega) (by have t1 : 0 ≤ x2.toInt := q_nltI c35; have t2 : x2.toInt < 10 := q_nleI c36; omega)) (hfD _ hh) d_1_14_63 ?_
                  refine q_get (ci := 3) (j := 0) (v := .ref (qDN x2.toNatClampNeg)) C0 V i_Dec rfl rfl hr132 (by decide) w_174 rfl d_1_14_64 ?_
                  refine q_get (ci := 2) (j := 1) (v := .int 0) C0 V i_Big rfl rfl hr133 (by decide) w_91 rfl d_1_14_67 ?_
                  refine lv_if_le (tgt := 77) hx hb d_1_14_70 (by decide) (fun c135 => ?_) (fun c135 => absurd (by decide) c135)
                  refine lv_iconst (v := 0) hx hb d_1_14_77 (by decide) ?_
                  refine q_goxv V (q_runSX (As := [.int 0]) (rest := []) (d := 7) (mc := 1) (ms := 6) C0 V rfl LS_NH_138 (c_NH_canHave l D g ws hlt 0 _) rfl hl.1 rfl (Nat.le_of_ble_eq_true rfl) ⟨by decide, by decide⟩ ⟨Nat.le_of_ble_eq_true rfl, Nat.le_of_ble_eq_true rfl⟩ d_1_14_78) (fun qx Ex ce u137 H locs hp136 V hce hcv hcl => ?_) (fun u137 H locs hp136 V => ?_)
                  ·
                    obtain ⟨c138, rfl, rfl⟩ := hp136
                    exact q_outT hno C0 V (⟨Or.inr (⟨rfl, (show ((0 ≤ x1.toInt ∧ x1.toInt ≤ 9) ∧ (0 ≤ x2.toInt ∧ x2.toInt ≤ 9) ∧ (0 ≤ x3.toInt ∧ x3.toInt ≤ 9) ∧ (0 ≤ x4.toInt ∧ x4.toInt ≤ 1000) ∧ (0 ≤ x5.toInt ∧ x5.toInt ≤ 7)) ∧ 0 ≤ x1.toInt from by have t1 : 0 ≤ x1.toInt := q_nltI c9; have t2 : x1.toInt < 10 := q_nleI c10; have t3 : 0 ≤ x2.toInt := q_nltI c35; have t4 : x2.toInt < 10 := q_nleI c36; have t5 : 0 ≤ x3.toInt := q_nltI c61; have t6 : x3.toInt < 10 := q_nleI c62; have t7 : 0 ≤ x5.toInt := q_nltI c87; have t8 : x5.toInt ≤ 7 := q_nltI c88; have t9 : 0 ≤ x4.toInt := q_nltI c111; have t10 : x4.toInt ≤ 1000 := q_nltI c118; omega)⟩), hF⟩) hce hcv hcl (Nat.le_of_ble_eq_true rfl) (Nat.le_of_ble_eq_true rfl)
                  ·
                    obtain ⟨c140, rfl⟩ := hp136
                    exact absurd c140 (by decide)
