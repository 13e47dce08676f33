/-! the law's own methods on a fresh object -/
theorem nh_FW {g : Nat → ClassId} {q : Nat → Nat} {ws : va_W} (hfl : q_fl ws 0 (nh_w g q)) : ∀ i, i < 10 → ws[66 + 5 * i]? = (some (q (66 + 5 * i), .inr (2, [.ref (q (67 + 5 * i)), .int 0, .int 0])) : Option (Nat × va_E)) := by
  intro i hi
  rcases (show i = 0 ∨ i = 1 ∨ i = 2 ∨ i = 3 ∨ i = 4 ∨ i = 5 ∨ i = 6 ∨ i = 7 ∨ i = 8 ∨ i = 9 by omega) with rfl | rfl | rfl | rfl | rfl | rfl | rfl | rfl | rfl | rfl
  · exact q_fa (i := 66) hfl rfl
  · exact q_fa (i := 71) hfl rfl
  · exact q_fa (i := 76) hfl rfl
  · exact q_fa (i := 81) hfl rfl
  · exact q_fa (i := 86) hfl rfl
  · exact q_fa (i := 91) hfl rfl
  · exact q_fa (i := 96) hfl rfl
  · exact q_fa (i := 101) hfl rfl
  · exact q_fa (i := 106) hfl rfl
  · exact q_fa (i := 111) hfl rfl
theorem nh_FWL {g : Nat → ClassId} {q : Nat → Nat} {ws : va_W} (hfl : q_fl ws 0 (nh_w g q)) : ∀ i, i < 10 → ws[67 + 5 * i]? = (some (q (67 + 5 * i), .inl (g 0, 68, .inl (fun _ => 0))) : Option (Nat × va_E)) := by
  intro i hi
  rcases (show i = 0 ∨ i = 1 ∨ i = 2 ∨ i = 3 ∨ i = 4 ∨ i = 5 ∨ i = 6 ∨ i = 7 ∨ i = 8 ∨ i = 9 by omega) with rfl | rfl | rfl | rfl | rfl | rfl | rfl | rfl | rfl | rfl
  · exact q_fa (i := 67) hfl rfl
  · exact q_fa (i := 72) hfl rfl
  · exact q_fa (i := 77) hfl rfl
  · exact q_fa (i := 82) hfl rfl
  · exact q_fa (i := 87) hfl rfl
  · exact q_fa (i := 92) hfl rfl
  · exact q_fa (i := 97) hfl rfl
  · exact q_fa (i := 102) hfl rfl
  · exact q_fa (i := 107) hfl rfl
  · exact q_fa (i := 112) hfl rfl
theorem nh_FD {g : Nat → ClassId} {q : Nat → Nat} {ws : va_W} (hfl : q_fl ws 0 (nh_w g q)) : ∀ i, i < 10 → ws[68 + 5 * i]? = (some (q (68 + 5 * i), .inr (3, [.ref (q (69 + 5 * i)), .int 0, .int 1])) : Option (Nat × va_E)) := by
  intro i hi
  rcases (show i = 0 ∨ i = 1 ∨ i = 2 ∨ i = 3 ∨ i = 4 ∨ i = 5 ∨ i = 6 ∨ i = 7 ∨ i = 8 ∨ i = 9 by omega) with rfl | rfl | rfl | rfl | rfl | rfl | rfl | rfl | rfl | rfl
  · exact q_fa (i := 68) hfl rfl
  · exact q_fa (i := 73) hfl rfl
  · exact q_fa (i := 78) hfl rfl
  · exact q_fa (i := 83) hfl rfl
  · exact q_fa (i := 88) hfl rfl
  · exact q_fa (i := 93) hfl rfl
  · exact q_fa (i := 98) hfl rfl
  · exact q_fa (i := 103) hfl rfl
  · exact q_fa (i := 108) hfl rfl
  · exact q_fa (i := 113) hfl rfl
theorem nh_FDN {g : Nat → ClassId} {q : Nat → Nat} {ws : va_W} (hfl : q_fl ws 0 (nh_w g q)) : ∀ i, i < 10 → ws[69 + 5 * i]? = (some (q (69 + 5 * i), .inr (2, [.ref (q (70 + 5 * i)), .int 0, .int 0])) : Option (Nat × va_E)) := by
  intro i hi
  rcases (show i = 0 ∨ i = 1 ∨ i = 2 ∨ i = 3 ∨ i = 4 ∨ i = 5 ∨ i = 6 ∨ i = 7 ∨ i = 8 ∨ i = 9 by omega) with rfl | rfl | rfl | rfl | rfl | rfl | rfl | rfl | rfl | rfl
  · exact q_fa (i := 69) hfl rfl
  · exact q_fa (i := 74) hfl rfl
  · exact q_fa (i := 79) hfl rfl
  · exact q_fa (i := 84) hfl rfl
  · exact q_fa (i := 89) hfl rfl
  · exact q_fa (i := 94) hfl rfl
  · exact q_fa (i := 99) hfl rfl
  · exact q_fa (i := 104) hfl rfl
  · exact q_fa (i := 109) hfl rfl
  · exact q_fa (i := 114) hfl rfl
theorem nh_FDL {g : Nat → ClassId} {q : Nat → Nat} {ws : va_W} (hfl : q_fl ws 0 (nh_w g q)) : ∀ i, i < 10 → ws[70 + 5 * i]? = (some (q (70 + 5 * i), .inl (g 0, 108, .inl (fun _ => 0))) : Option (Nat × va_E)) := by
  intro i hi
  rcases (show i = 0 ∨ i = 1 ∨ i = 2 ∨ i = 3 ∨ i = 4 ∨ i = 5 ∨ i = 6 ∨ i = 7 ∨ i = 8 ∨ i = 9 by omega) with rfl | rfl | rfl | rfl | rfl | rfl | rfl | rfl | rfl | rfl
  · exact q_fa (i := 70) hfl rfl
  · exact q_fa (i := 75) hfl rfl
  · exact q_fa (i := 80) hfl rfl
  · exact q_fa (i := 85) hfl rfl
  · exact q_fa (i := 90) hfl rfl
  · exact q_fa (i := 95) hfl rfl
  · exact q_fa (i := 100) hfl rfl
  · exact q_fa (i := 105) hfl rfl
  · exact q_fa (i := 110) hfl rfl
  · exact q_fa (i := 115) hfl rfl
theorem nh_hfW {q : Nat → Nat} : ∀ i, i < 10 → (va_up (va_up (va_up (va_up (va_up (va_up (va_up (va_up (va_up (va_up (fun _ => none) 0 (some (q 66))) 1 (some (q 71))) 2 (some (q 76))) 3 (some (q 81))) 4 (some (q 86))) 5 (some (q 91))) 6 (some (q 96))) 7 (some (q 101))) 8 (some (q 106))) 9 (some (q 111))) i = some ((fun i => q (66 + 5 * i)) i) := by
  intro i hi
  rcases (show i = 0 ∨ i = 1 ∨ i = 2 ∨ i = 3 ∨ i = 4 ∨ i = 5 ∨ i = 6 ∨ i = 7 ∨ i = 8 ∨ i = 9 by omega) with rfl | rfl | rfl | rfl | rfl | rfl | rfl | rfl | rfl | rfl <;> rfl
theorem nh_hfD {q : Nat → Nat} : ∀ i, i < 10 → (va_up (va_up (va_up (va_up (va_up (va_up (va_up (va_up (va_up (va_up (fun _ => none) 0 (some (q 68))) 1 (some (q 73))) 2 (some (q 78))) 3 (some (q 83))) 4 (some (q 88))) 5 (some (q 93))) 6 (some (q 98))) 7 (some (q 103))) 8 (some (q 108))) 9 (some (q 113))) i = some ((fun i => q (68 + 5 * i)) i) := by
  intro i hi
  rcases (show i = 0 ∨ i = 1 ∨ i = 2 ∨ i = 3 ∨ i = 4 ∨ i = 5 ∨ i = 6 ∨ i = 7 ∨ i = 8 ∨ i = 9 by omega) with rfl | rfl | rfl | rfl | rfl | rfl | rfl | rfl | rfl | rfl <;> rfl
theorem d_3_0 : decode method_3_code 0 = .ok (.aload 4, 2) := by decide +kernel
theorem d_3_2 : decode method_3_code 2 = .ok (.iconst 0, 1) := by decide +kernel
theorem d_3_3 : decode method_3_code 3 = .ok (.aload_n 0, 1) := by decide +kernel
theorem d_3_4 : decode method_3_code 4 = .ok (.iload_n 1, 1) := by decide +kernel
theorem d_3_5 : decode method_3_code 5 = .ok (.lload_n 2, 1) := by decide +kernel
theorem d_3_6 : decode method_3_code 6 = .ok (.invokevirtual 7, 3) := by decide +kernel
theorem w_490 : (Cond.code ({ cls := "NumberHouse", name := "feed", desc := "(IJ)I" } : MethodName) prog_1_method_2_code (5 : Nat) (some .int)) ∈ q_tbl := q_of 490 (by decide +kernel) (by decide +kernel)
theorem w_487 : (Cond.methodLink "NumberHouseLaw" (7 : Nat) ({ cls := "NumberHouse", name := "feed", desc := "(IJ)I" } : MethodName)) ∈ q_tbl := q_of 487 (by decide +kernel) (by decide +kernel)
theorem w_488 : (Cond.instanceMethod ({ cls := "NumberHouse", name := "feed", desc := "(IJ)I" } : MethodName)) ∈ q_tbl := q_of 488 (by decide +kernel) (by decide +kernel)
theorem w_489 : (Cond.selects "NumberHouse" ({ cls := "NumberHouse", name := "feed", desc := "(IJ)I" } : MethodName) ({ cls := "NumberHouse", name := "feed", desc := "(IJ)I" } : MethodName)) ∈ q_tbl := q_of 489 (by decide +kernel) (by decide +kernel)
theorem LV_NL_7 : q_LV "NumberHouseLaw" 7 y_NH_feed prog_1_method_2_code 5 (some .int) 2 := ⟨w_490, w_1, w_487, w_488, w_489, ⟨by decide, by decide, by decide +kernel⟩⟩
theorem w_486 : (Cond.classLink "NumberHouseLaw" (13 : Nat) "java/lang/IllegalArgumentException") ∈ q_tbl := q_of 486 (by decide +kernel) (by decide +kernel)
theorem wo_496 : (Cond.castable "java/lang/IllegalArgumentException" "java/lang/IllegalArgumentException") ∈ q_odd := q_oo 496 (by decide +kernel) (by decide +kernel)
theorem d_3_14 : decode method_3_code 14 = .ok (.astore 5, 2) := by decide +kernel
theorem d_3_16 : decode method_3_code 16 = .ok (.iconst 1, 1) := by decide +kernel
theorem d_3_17 : decode method_3_code 17 = .ok (.ireturn, 1) := by decide +kernel
theorem d_3_9 : decode method_3_code 9 = .ok (.i2l, 1) := by decide +kernel
theorem d_3_10 : decode method_3_code 10 = .ok (.lastore, 1) := by decide +kernel
theorem d_3_11 : decode method_3_code 11 = .ok (.goto 7, 3) := by decide +kernel
theorem d_3_18 : decode method_3_code 18 = .ok (.iconst 0, 1) := by decide +kernel
theorem d_3_19 : decode method_3_code 19 = .ok (.ireturn, 1) := by decide +kernel
def y_NL_feed : MethodName := ⟨"NumberHouseLaw", "feed", "(LNumberHouse;IJ[J)I"⟩
set_option maxRecDepth 100000 in
set_option maxHeartbeats 4000000 in
theorem c_NL_feed (l : Launch) (D : va_G) (g : Nat → ClassId) (ws : va_W) (hlt : l.stackTraces = false) (q : Nat → Nat) (qo : Nat) (x1 : Int32) (x2 : Int64) (hfl : q_fl ws 0 (nh_w g q)) (hO : ws[169]? = (some (qo, .inl (g 1, 1, .inr (.inl (fun _ => 0)))) : Option (Nat × va_E))) : ∀ sz, Met l y_NL_feed (q_wW y_NL_feed method_3_code 6 (some .int) [(0, 11, 14, 13)]) (q_rm 9 1 6) (q_P D g [.ref (q 0), .int x1, .long x2, .ref qo] ws sz) (va_Qi (fun k u => ∃ o : Int64, u[169]? = (some (qo, .inl (g 1, 1, .inr (.inl (vp_updL (fun _ => 0) 0 o)))) : Option (Nat × va_E)) ∧ ((k.toInt = 0 ∧ (((1 ≤ x1.toInt ∧ x1.toInt ≤ 8)) ∧ (o : Int64).toInt = x1.toInt)) ∨ (k.toInt = 1 ∧ (¬ ((1 ≤ x1.toInt ∧ x1.toInt ≤ 8))))) ∧ ∀ i, 116 ≤ i → i ≠ 169 → u[i]? = ws[i]?) (q_B D g (va_A ws sz)) (va_A ws sz)) 1 6 (va_A ws sz) := by
  intro sz
  refine q_intoW (by decide) (Nat.le_of_ble_eq_true rfl) ?_
  intro p e s m below meth c ls hsz C0 V ht hl
  have hx := C0.1
  have hb := C0.2.1
  have hl : lv_has ls 6 [(0, .ref (q 0)), (1, .int x1), (2, .long x2), (4, .ref qo)] := hl
  have hP0 : ws[0]? = (some (q 0, .inr (0, [.ref (q 1), .ref (q 3), .ref (q 5), .ref (q 6), .ref (q 7), .ref (q 8), .ref (q 9), .ref (q 30), .ref (q 34), .ref (q 35), .ref (q 36), .ref (q 38), .ref (q 39), .ref (q 40)])) : Option (Nat × va_E)) := q_fa (i := 0) hfl rfl
  have hP1 : ws[1]? = (some (q 1, .inr (1, [.ref (q 2), .int 4100, .int 0])) : Option (Nat × va_E)) := q_fa (i := 1) hfl rfl
  have hP2 : ws[2]? = (some (q 2, .inl (g 1, 513, .inr (.inl (fun _ => 0)))) : Option (Nat × va_E)) := q_fa (i := 2) hfl rfl
  refine lv_aload hx hb d_3_0 (lv_at hl 3 rfl) ?_
  refine lv_iconst (v := 0) hx hb d_3_2 (by decide) ?_
  refine lv_aload_n hx hb d_3_3 rfl (lv_at hl 0 rfl) ?_
  refine lv_iload_n hx hb d_3_4 rfl (lv_at hl 1 rfl) ?_
  refine lv_lload_n hx hb d_3_5 rfl (lv_at hl 2 rfl) ?_
  refine q_goxi V (q_runVX (As := [.int x1, .long x2]) (rest := [.int 0, .ref qo]) (d := 8) (mc := 1) (ms := 6) (ci := 0) C0 V rfl LV_NL_7 (c_NH_feed l D g ws hlt (q 0) (q 1) (q 3) (q 5) (q 6) (q 7) (q 8) (q 9) (q 30) (q 34) (q 35) (q 36) (q 38) (q 39) (q 40) (q 2) x1 x2 hP0 hP1 hP2 _) rfl rfl hP0 rfl hl.1 rfl (Nat.le_of_ble_eq_true rfl) ⟨by decide, by decide⟩ ⟨Nat.le_of_ble_eq_true rfl, Nat.le_of_ble_eq_true rfl⟩ d_3_6) (fun qx Ex ce u1 H locs hp V hce hcv hcl => ?_) (fun rv u1 H locs hp V => ?_)
  ·
    obtain ⟨hp, hF⟩ := hp
    obtain ⟨rfl, hr⟩ := hp
    have hO : u1[169]? = _ := (hF 169 (Nat.le_of_ble_eq_true rfl)).trans hO
    refine q_catch hce hcv hcl (fun pl hpl => q_hY C0 V rfl ht ⟨by decide, by decide⟩ (by decide) w_486 wo_496 hcl pl hpl) ?_
    refine lv_astore (lv' := [(5, .ref qx), (0, .ref (q 0)), (1, .int x1), (2, .long x2), (4, .ref qo)]) hx hb d_3_14 hl (by decide) rfl (fun ls hl => ?_)
    refine lv_iconst (v := 1) hx hb d_3_16 (by decide) ?_
    exact q_reti C0 V (⟨0, q_re hO (q_eL q_updL0.symm), Or.inr (⟨(by decide), hr⟩), fun i h1 _ => hF i h1⟩) d_3_17
  ·
    obtain ⟨hr, hF⟩ := hp
    have hO : u1[169]? = _ := (hF 169 (Nat.le_of_ble_eq_true rfl)).trans hO
    refine lv_i2l hx hb d_3_9 rfl ?_
    refine q_last C0 V hO (by unfold vp_in; decide) d_3_10 (fun H locs w1 hu2 hO V => ?_)
    replace hO : w1[169]? = (some (qo, .inl (g 1, 1, .inr (.inl (vp_updL (fun _ => 0) 0 rv.toInt64)))) : Option (Nat × va_E)) := hO
    refine lv_goto (tgt := 18) hx hb d_3_11 (by decide) ?_
    refine lv_iconst (v := 0) hx hb d_3_18 (by decide) ?_
    exact q_reti C0 V (⟨rv.toInt64, hO, Or.inl ⟨(by decide), (show ((1 ≤ x1.toInt ∧ x1.toInt ≤ 8)) ∧ (rv.toInt64 : Int64).toInt = x1.toInt from (by have e9 : (rv.toInt64 : Int64).toInt = rv.toInt := q_i2l rfl; omega))⟩, fun i h1 h2 => (hu2 i h2).trans (hF i h1)⟩) d_3_19
theorem d_4_0 : decode method_4_code 0 = .ok (.aload 4, 2) := by decide +kernel
theorem d_4_2 : decode method_4_code 2 = .ok (.iconst 0, 1) := by decide +kernel
theorem d_4_3 : decode method_4_code 3 = .ok (.aload_n 0, 1) := by decide +kernel
theorem d_4_4 : decode method_4_code 4 = .ok (.iload_n 1, 1) := by decide +kernel
theorem d_4_5 : decode method_4_code 5 = .ok (.iload_n 2, 1) := by decide +kernel
theorem d_4_6 : decode method_4_code 6 = .ok (.iload_n 3, 1) := by decide +kernel
theorem d_4_7 : decode method_4_code 7 = .ok (.invokevirtual 15, 3) := by decide +kernel
theorem w_574 : (Cond.code ({ cls := "NumberHouse", name := "read", desc := "(III)Z" } : MethodName) prog_1_method_4_code (5 : Nat) (some .boolean)) ∈ q_tbl := q_of 574 (by decide +kernel) (by decide +kernel)
theorem w_571 : (Cond.methodLink "NumberHouseLaw" (15 : Nat) ({ cls := "NumberHouse", name := "read", desc := "(III)Z" } : MethodName)) ∈ q_tbl := q_of 571 (by decide +kernel) (by decide +kernel)
theorem w_572 : (Cond.instanceMethod ({ cls := "NumberHouse", name := "read", desc := "(III)Z" } : MethodName)) ∈ q_tbl := q_of 572 (by decide +kernel) (by decide +kernel)
theorem w_573 : (Cond.selects "NumberHouse" ({ cls := "NumberHouse", name := "read", desc := "(III)Z" } : MethodName) ({ cls := "NumberHouse", name := "read", desc := "(III)Z" } : MethodName)) ∈ q_tbl := q_of 573 (by decide +kernel) (by decide +kernel)
theorem LV_NL_15 : q_LV "NumberHouseLaw" 15 y_NH_read prog_1_method_4_code 5 (some .boolean) 3 := ⟨w_574, w_1, w_571, w_572, w_573, ⟨by decide, by decide, by decide +kernel⟩⟩
theorem d_4_22 : decode method_4_code 22 = .ok (.astore 5, 2) := by decide +kernel
theorem d_4_24 : decode method_4_code 24 = .ok (.iconst 1, 1) := by decide +kernel
theorem d_4_25 : decode method_4_code 25 = .ok (.ireturn, 1) := by decide +kernel
theorem d_4_10 : decode method_4_code 10 = .ok (.ifCond .eq 7, 3) := by decide +kernel
theorem d_4_17 : decode method_4_code 17 = .ok (.lconst 0, 1) := by decide +kernel
theorem d_4_18 : decode method_4_code 18 = .ok (.lastore, 1) := by decide +kernel
theorem d_4_19 : decode method_4_code 19 = .ok (.goto 11, 3) := by decide +kernel
theorem d_4_30 : decode method_4_code 30 = .ok (.iconst 0, 1) := by decide +kernel
theorem d_4_31 : decode method_4_code 31 = .ok (.ireturn, 1) := by decide +kernel
theorem d_4_13 : decode method_4_code 13 = .ok (.lconst 1, 1) := by decide +kernel
theorem d_4_14 : decode method_4_code 14 = .ok (.goto 4, 3) := by decide +kernel
def y_NL_read : MethodName := ⟨"NumberHouseLaw", "read", "(LNumberHouse;III[J)I"⟩
set_option maxRecDepth 100000 in
set_option maxHeartbeats 4000000 in
theorem c_NL_read (l : Launch) (D : va_G) (g : Nat → ClassId) (ws : va_W) (hlt : l.stackTraces = false) (q : Nat → Nat) (qo : Nat) (x1 : Int32) (x2 : Int32) (x3 : Int32) (hfl : q_fl ws 0 (nh_w g q)) (hO : ws[169]? = (some (qo, .inl (g 1, 1, .inr (.inl (fun _ => 0)))) : Option (Nat × va_E))) : ∀ sz, Met l y_NL_read (q_wW y_NL_read method_4_code 6 (some .int) [(0, 19, 22, 13), (0, 19, 26, 19)]) (q_rm 10 2 12) (q_P D g [.ref (q 0), .int x1, .int x2, .int x3, .ref qo] ws sz) (va_Qi (fun k u => ∃ o : Int64, u[169]? = (some (qo, .inl (g 1, 1, .inr (.inl (vp_updL (fun _ => 0) 0 o)))) : Option (Nat × va_E)) ∧ ((k.toInt = 0 ∧ (((0 ≤ x1.toInt ∧ x1.toInt ≤ 3) ∧ (0 ≤ x2.toInt ∧ x2.toInt ≤ 9) ∧ (x1.toInt = 0 → (2 ≤ x3.toInt ∧ x3.toInt ≤ 36)) ∧ (x1.toInt ≠ 0 → x3.toInt = 10)) ∧ (o : Int64).toInt = 0)) ∨ (k.toInt = 1 ∧ (¬ ((0 ≤ x1.toInt ∧ x1.toInt ≤ 3) ∧ (0 ≤ x2.toInt ∧ x2.toInt ≤ 9) ∧ (x1.toInt = 0 → (2 ≤ x3.toInt ∧ x3.toInt ≤ 36)) ∧ (x1.toInt ≠ 0 → x3.toInt = 10))))) ∧ ∀ i, 116 ≤ i → i ≠ 169 → u[i]? = ws[i]?) (q_B D g (va_A ws sz)) (va_A ws sz)) 2 12 (va_A ws sz) := by
  intro sz
  refine q_intoW (by decide) (Nat.le_of_ble_eq_true rfl) ?_
  intro p e s m below meth c ls hsz C0 V ht hl
  have hx := C0.1
  have hb := C0.2.1
  have hl : lv_has ls 6 [(0, .ref (q 0)), (1, .int x1), (2, .int x2), (3, .int x3), (4, .ref qo)] := hl
  have hP0 : ws[0]? = (some (q 0, .inr (0, [.ref (q 1), .ref (q 3), .ref (q 5), .ref (q 6), .ref (q 7), .ref (q 8), .ref (q 9), .ref (q 30), .ref (q 34), .ref (q 35), .ref (q 36), .ref (q 38), .ref (q 39), .ref (q 40)])) : Option (Nat × va_E)) := q_fa (i := 0) hfl rfl
  have hP1 : ws[1]? = (some (q 1, .inr (1, [.ref (q 2), .int 4100, .int 0])) : Option (Nat × va_E)) := q_fa (i := 1) hfl rfl
  have hP9 : ws[9]? = (some (q 9, .inr (4, [.ref (q 10), .ref (q 12), .ref (q 14), .ref (q 16), .ref (q 18), .ref (q 20), .ref (q 22), .ref (q 24), .ref (q 26), .ref (q 28)])) : Option (Nat × va_E)) := q_fa (i := 9) hfl rfl
  have hP10 : ws[10]? = (some (q 10, .inr (2, [.ref (q 11), .int 0, .int 0])) : Option (Nat × va_E)) := q_fa (i := 10) hfl rfl
  have hP34 : ws[34]? = (some (q 34, .inr (6, [.int 52, .int 1075, .int 2047, .long 0, .int 0, .ref (q 9), .int 0])) : Option (Nat × va_E)) := q_fa (i := 34) hfl rfl
  have hP35 : ws[35]? = (some (q 35, .inr (6, [.int 23, .int 150, .int 255, .long 0, .int 0, .ref (q 9), .int 0])) : Option (Nat × va_E)) := q_fa (i := 35) hfl rfl
  have hP38 : ws[38]? = (some (q 38, .inr (8, [.long 0, .long 0, .ref (q 1), .ref (q 9), .int 0, .int 0, .int 0, .int 0, .int 0, .int 0, .int 0, .long 0])) : Option (Nat × va_E)) := q_fa (i := 38) hfl rfl
  refine lv_aload hx hb d_4_0 (lv_at hl 4 rfl) ?_
  refine lv_iconst (v := 0) hx hb d_4_2 (by decide) ?_
  refine lv_aload_n hx hb d_4_3 rfl (lv_at hl 0 rfl) ?_
  refine lv_iload_n hx hb d_4_4 rfl (lv_at hl 1 rfl) ?_
  refine lv_iload_n hx hb d_4_5 rfl (lv_at hl 2 rfl) ?_
  refine lv_iload_n hx hb d_4_6 rfl (lv_at hl 3 rfl) ?_
  refine q_goxi V (q_runVX (As := [.int x1, .int x2, .int x3]) (rest := [.int 0, .ref qo]) (d := 9) (mc := 2) (ms := 12) (ci := 0) C0 V rfl LV_NL_15 (c_NH_read l D g ws hlt (q 0) (q 1) (q 3) (q 5) (q 6) (q 7) (q 8) (q 9) (q 30) (q 34) (q 35) (q 36) (q 38) (q 39) (q 40) (q 2) (q 10) (q 12) (q 14) (q 16) (q 18) (q 20) (q 22) (q 24) (q 26) (q 28) (q 11) x1 x2 x3 hP0 hP1 hP9 hP34 hP35 hP38 hP10 _) rfl rfl hP0 rfl hl.1 rfl (Nat.le_of_ble_eq_true rfl) ⟨by decide, by decide⟩ ⟨Nat.le_of_ble_eq_true rfl, Nat.le_of_ble_eq_true rfl⟩ d_4_7) (fun qx Ex ce u1 H locs hp V hce hcv hcl => ?_) (fun rv u1 H locs hp V => ?_)
  ·
    obtain ⟨hp, hF⟩ := hp
    obtain ⟨rfl, hr⟩ := hp
    have hO : u1[169]? = _ := (hF 169 (Nat.le_of_ble_eq_true rfl)).trans hO
    refine q_catch hce hcv hcl (fun pl hpl => q_hY C0 V rfl ht ⟨by decide, by decide⟩ (by decide) w_486 wo_496 hcl pl hpl) ?_
    refine lv_astore (lv' := [(5, .ref qx), (0, .ref (q 0)), (1, .int x1), (2, .int x2), (3, .int x3), (4, .ref qo)]) hx hb d_4_22 hl (by decide) rfl (fun ls hl => ?_)
    refine lv_iconst (v := 1) hx hb d_4_24 (by decide) ?_
    exact q_reti C0 V (⟨0, q_re hO (q_eL q_updL0.symm), Or.inr (⟨(by decide), hr⟩), fun i h1 _ => hF i h1⟩) d_4_25
  ·
    obtain ⟨hr, hF⟩ := hp
    have hO : u1[169]? = _ := (hF 169 (Nat.le_of_ble_eq_true rfl)).trans hO
    refine lv_if_eq (tgt := 17) hx hb d_4_10 (by decide) (fun c1 => ?_) (fun c1 => ?_)
    ·
      refine lv_lconst (v := 0) hx hb d_4_17 (by decide) ?_
      refine q_last C0 V hO (by unfold vp_in; decide) d_4_18 (fun H locs w2 hu3 hO V => ?_)
      replace hO := q_re (y := (qo, .inl (g 1, 1, .inr (.inl (fun _ => 0))))) hO (q_eL q_updL0)
      replace hO : w2[169]? = (some (qo, .inl (g 1, 1, .inr (.inl (fun _ => 0)))) : Option (Nat × va_E)) := hO
      refine lv_goto (tgt := 30) hx hb d_4_19 (by decide) ?_
      refine lv_iconst (v := 0) hx hb d_4_30 (by decide) ?_
      exact q_reti C0 V (⟨0, q_re hO (q_eL q_updL0.symm), Or.inl ⟨(by decide), (show ((0 ≤ x1.toInt ∧ x1.toInt ≤ 3) ∧ (0 ≤ x2.toInt ∧ x2.toInt ≤ 9) ∧ (x1.toInt = 0 → (2 ≤ x3.toInt ∧ x3.toInt ≤ 36)) ∧ (x1.toInt ≠ 0 → x3.toInt = 10)) ∧ (0 : Int64).toInt = 0 from (by have t1 : rv.toInt = 0 := q_eqI c1; have e9 : (0 : Int64).toInt = 0 := (by decide); omega))⟩, fun i h1 h2 => (hu3 i h2).trans (hF i h1)⟩) d_4_31
    ·
      refine lv_lconst (v := 1) hx hb d_4_13 (by decide) ?_
      refine lv_goto (tgt := 18) hx hb d_4_14 (by decide) ?_
      refine q_last C0 V hO (by unfold vp_in; decide) d_4_18 (fun H locs w4 hu5 hO V => ?_)
      replace hO : w4[169]? = (some (qo, .inl (g 1, 1, .inr (.inl (vp_updL (fun _ => 0) 0 1)))) : Option (Nat × va_E)) := hO
      refine lv_goto (tgt := 30) hx hb d_4_19 (by decide) ?_
      refine lv_iconst (v := 0) hx hb d_4_30 (by decide) ?_
      exact q_reti C0 V (⟨1, hO, Or.inl ⟨(by decide), (show ((0 ≤ x1.toInt ∧ x1.toInt ≤ 3) ∧ (0 ≤ x2.toInt ∧ x2.toInt ≤ 9) ∧ (x1.toInt = 0 → (2 ≤ x3.toInt ∧ x3.toInt ≤ 36)) ∧ (x1.toInt ≠ 0 → x3.toInt = 10)) ∧ (1 : Int64).toInt = 0 from (by have t1 : rv.toInt ≠ 0 := q_neI c1; have e9 : (1 : Int64).toInt = 1 := (by decide); omega))⟩, fun i h1 h2 => (hu5 i h2).trans (hF i h1)⟩) d_4_31
theorem d_5_0 : decode method_5_code 0 = .ok (.aload_n 0, 1) := by decide +kernel
theorem d_5_1 : decode method_5_code 1 = .ok (.iload_n 1, 1) := by decide +kernel
theorem d_5_2 : decode method_5_code 2 = .ok (.iload_n 2, 1) := by decide +kernel
theorem d_5_3 : decode method_5_code 3 = .ok (.lload_n 3, 1) := by decide +kernel
theorem d_5_4 : decode method_5_code 4 = .ok (.invokevirtual 21, 3) := by decide +kernel
theorem w_1102 : (Cond.code ({ cls := "NumberHouse", name := "put", desc := "(IIJ)V" } : MethodName) prog_1_method_5_code (5 : Nat) (none : Option ClassFile.FieldType)) ∈ q_tbl := q_of 1102 (by decide +kernel) (by decide +kernel)
theorem w_1099 : (Cond.methodLink "NumberHouseLaw" (21 : Nat) ({ cls := "NumberHouse", name := "put", desc := "(IIJ)V" } : MethodName)) ∈ q_tbl := q_of 1099 (by decide +kernel) (by decide +kernel)
theorem w_1100 : (Cond.instanceMethod ({ cls := "NumberHouse", name := "put", desc := "(IIJ)V" } : MethodName)) ∈ q_tbl := q_of 1100 (by decide +kernel) (by decide +kernel)
theorem w_1101 : (Cond.selects "NumberHouse" ({ cls := "NumberHouse", name := "put", desc := "(IIJ)V" } : MethodName) ({ cls := "NumberHouse", name := "put", desc := "(IIJ)V" } : MethodName)) ∈ q_tbl := q_of 1101 (by decide +kernel) (by decide +kernel)
theorem LV_NL_21 : q_LV "NumberHouseLaw" 21 y_NH_put prog_1_method_5_code 5 none 3 := ⟨w_1102, w_1, w_1099, w_1100, w_1101, ⟨by decide, by decide, by decide +kernel⟩⟩
theorem d_5_10 : decode method_5_code 10 = .ok (.astore 5, 2) := by decide +kernel
theorem d_5_12 : decode method_5_code 12 = .ok (.iconst 1, 1) := by decide +kernel
theorem d_5_13 : decode method_5_code 13 = .ok (.ireturn, 1) := by decide +kernel
theorem d_5_7 : decode method_5_code 7 = .ok (.goto 7, 3) := by decide +kernel
theorem d_5_14 : decode method_5_code 14 = .ok (.iconst 0, 1) := by decide +kernel
theorem d_5_15 : decode method_5_code 15 = .ok (.ireturn, 1) := by decide +kernel
def y_NL_put : MethodName := ⟨"NumberHouseLaw", "put", "(LNumberHouse;IIJ)I"⟩
set_option maxRecDepth 100000 in
set_option maxHeartbeats 4000000 in
theorem c_NL_put (l : Launch) (D : va_G) (g : Nat → ClassId) (ws : va_W) (hlt : l.stackTraces = false) (q : Nat → Nat) (x1 : Int32) (x2 : Int32) (x3 : Int64) (hfl : q_fl ws 0 (nh_w g q)) : ∀ sz, Met l y_NL_put (q_wW y_NL_put method_5_code 6 (some .int) [(0, 7, 10, 13)]) (q_rm 10 2 12) (q_P D g [.ref (q 0), .int x1, .int x2, .long x3] ws sz) (va_Qi (fun k u => ((k.toInt = 0 ∧ (((0 ≤ x1.toInt ∧ x1.toInt ≤ 3) ∧ (0 ≤ x2.toInt ∧ x2.toInt ≤ 9)) ∧ (x1.toInt = 3 → lg_cmp ((x3.toUInt64 >>> ((32 : Int32).toInt64.toUInt64 &&& Int64.toUInt64 63)).toInt64) 0 = 0))) ∨ (k.toInt = 1 ∧ (¬ ((0 ≤ x1.toInt ∧ x1.toInt ≤ 3) ∧ (0 ≤ x2.toInt ∧ x2.toInt ≤ 9)) ∨ (x1.toInt = 3 ∧ ¬ lg_cmp ((x3.toUInt64 >>> ((32 : Int32).toInt64.toUInt64 &&& Int64.toUInt64 63)).toInt64) 0 = 0)))) ∧ q_ge 116 ws u) (q_B D g (va_A ws sz)) (va_A ws sz)) 2 12 (va_A ws sz) := by
  intro sz
  refine q_intoW (by decide) (Nat.le_of_ble_eq_true rfl) ?_
  intro p e s m below meth c ls hsz C0 V ht hl
  have hx := C0.1
  have hb := C0.2.1
  have hl : lv_has ls 6 [(0, .ref (q 0)), (1, .int x1), (2, .int x2), (3, .long x3)] := hl
  have hP0 : ws[0]? = (some (q 0, .inr (0, [.ref (q 1), .ref (q 3), .ref (q 5), .ref (q 6), .ref (q 7), .ref (q 8), .ref (q 9), .ref (q 30), .ref (q 34), .ref (q 35), .ref (q 36), .ref (q 38), .ref (q 39), .ref (q 40)])) : Option (Nat × va_E)) := q_fa (i := 0) hfl rfl
  have hP5 : ws[5]? = (some (q 5, .inl (g 4, 10, .inr (.inr (.inr (.inr (va_up (va_up (va_up (va_up (va_up (va_up (va_up (va_up (va_up (va_up (fun _ => none) 0 (some (q 66))) 1 (some (q 71))) 2 (some (q 76))) 3 (some (q 81))) 4 (some (q 86))) 5 (some (q 91))) 6 (some (q 96))) 7 (some (q 101))) 8 (some (q 106))) 9 (some (q 111)))))))) : Option (Nat × va_E)) := q_fa (i := 5) hfl rfl
  have hP6 : ws[6]? = (some (q 6, .inl (g 5, 10, .inr (.inr (.inr (.inr (va_up (va_up (va_up (va_up (va_up (va_up (va_up (va_up (va_up (va_up (fun _ => none) 0 (some (q 68))) 1 (some (q 73))) 2 (some (q 78))) 3 (some (q 83))) 4 (some (q 88))) 5 (some (q 93))) 6 (some (q 98))) 7 (some (q 103))) 8 (some (q 108))) 9 (some (q 113)))))))) : Option (Nat × va_E)) := q_fa (i := 6) hfl rfl
  have hP7 : ws[7]? = (some (q 7, .inl (g 1, 10, .inr (.inl (fun _ => 0)))) : Option (Nat × va_E)) := q_fa (i := 7) hfl rfl
  have hP8 : ws[8]? = (some (q 8, .inl (g 1, 10, .inr (.inl (fun _ => 0)))) : Option (Nat × va_E)) := q_fa (i := 8) hfl rfl
  have hP9 : ws[9]? = (some (q 9, .inr (4, [.ref (q 10), .ref (q 12), .ref (q 14), .ref (q 16), .ref (q 18), .ref (q 20), .ref (q 22), .ref (q 24), .ref (q 26), .ref (q 28)])) : Option (Nat × va_E)) := q_fa (i := 9) hfl rfl
  have hP10 : ws[10]? = (some (q 10, .inr (2, [.ref (q 11), .int 0, .int 0])) : Option (Nat × va_E)) := q_fa (i := 10) hfl rfl
  have hP11 : ws[11]? = (some (q 11, .inl (g 0, 220, .inl (fun _ => 0))) : Option (Nat × va_E)) := q_fa (i := 11) hfl rfl
  have hP20 : ws[20]? = (some (q 20, .inr (2, [.ref (q 21), .int 0, .int 0])) : Option (Nat × va_E)) := q_fa (i := 20) hfl rfl
  have hP21 : ws[21]? = (some (q 21, .inl (g 0, 220, .inl (fun _ => 0))) : Option (Nat × va_E)) := q_fa (i := 21) hfl rfl
  have hP30 : ws[30]? = (some (q 30, .inr (5, [.ref (q 31), .long 0, .ref (q 9), .int 0])) : Option (Nat × va_E)) := q_fa (i := 30) hfl rfl
  refine lv_aload_n hx hb d_5_0 rfl (lv_at hl 0 rfl) ?_
  refine lv_iload_n hx hb d_5_1 rfl (lv_at hl 1 rfl) ?_
  refine lv_iload_n hx hb d_5_2 rfl (lv_at hl 2 rfl) ?_
  refine lv_lload_n hx hb d_5_3 rfl (lv_at hl 3 rfl) ?_
  refine q_goxv V (q_runVX (As := [.int x1, .int x2, .long x3]) (rest := []) (d := 9) (mc := 2) (ms := 12) (ci := 0) C0 V rfl LV_NL_21 (c_NH_put l D g ws hlt (q 0) (q 1) (q 3) (q 5) (q 6) (q 7) (q 8) (q 9) (q 30) (q 34) (q 35) (q 36) (q 38) (q 39) (q 40) (q 10) (q 12) (q 14) (q 16) (q 18) (q 20) (q 22) (q 24) (q 26) (q 28) (q 31) (q 11) (q 21) x1 x2 x3 (va_up (va_up (va_up (va_up (va_up (va_up (va_up (va_up (va_up (va_up (fun _ => none) 0 (some (q 66))) 1 (some (q 71))) 2 (some (q 76))) 3 (some (q 81))) 4 (some (q 86))) 5 (some (q 91))) 6 (some (q 96))) 7 (some (q 101))) 8 (some (q 106))) 9 (some (q 111))) (va_up (va_up (va_up (va_up (va_up (va_up (va_up (va_up (va_up (va_up (fun _ => none) 0 (some (q 68))) 1 (some (q 73))) 2 (some (q 78))) 3 (some (q 83))) 4 (some (q 88))) 5 (some (q 93))) 6 (some (q 98))) 7 (some (q 103))) 8 (some (q 108))) 9 (some (q 113))) hP0 hP5 hP6 hP7 hP8 hP9 hP30 hP10 hP20 hP11 hP21 (fun i => q (66 + 5 * i)) (fun i => q (67 + 5 * i)) (fun i => q (68 + 5 * i)) (fun i => q (69 + 5 * i)) (fun i => q (70 + 5 * i)) nh_hfW (nh_FW hfl) (nh_FWL hfl) nh_hfD (nh_FD hfl) (nh_FDN hfl) (nh_FDL hfl) _) rfl rfl hP0 rfl hl.1 rfl (Nat.le_of_ble_eq_true rfl) ⟨by decide, by decide⟩ ⟨Nat.le_of_ble_eq_true rfl, Nat.le_of_ble_eq_true rfl⟩ d_5_4) (fun qx Ex ce u1 H locs hp V hce hcv hcl => ?_) (fun u1 H locs hp V => ?_)
  ·
    obtain ⟨hp, hF⟩ := hp
    obtain ⟨rfl, hr⟩ := hp
    refine q_catch hce hcv hcl (fun pl hpl => q_hY C0 V rfl ht ⟨by decide, by decide⟩ (by decide) w_486 wo_496 hcl pl hpl) ?_
    refine lv_astore (lv' := [(5, .ref qx), (0, .ref (q 0)), (1, .int x1), (2, .int x2), (3, .long x3)]) hx hb d_5_10 hl (by decide) rfl (fun ls hl => ?_)
    refine lv_iconst (v := 1) hx hb d_5_12 (by decide) ?_
    exact q_reti C0 V (⟨Or.inr (⟨(by decide), hr⟩), hF⟩) d_5_13
  ·
    obtain ⟨hr, hF⟩ := hp
    refine lv_goto (tgt := 14) hx hb d_5_7 (by decide) ?_
    refine lv_iconst (v := 0) hx hb d_5_14 (by decide) ?_
    exact q_reti C0 V (⟨Or.inl ⟨(by decide), hr⟩, hF⟩) d_5_15
theorem d_6_0 : decode method_6_code 0 = .ok (.aload 4, 2) := by decide +kernel
theorem d_6_2 : decode method_6_code 2 = .ok (.iconst 0, 1) := by decide +kernel
theorem d_6_3 : decode method_6_code 3 = .ok (.aload_n 0, 1) := by decide +kernel
theorem d_6_4 : decode method_6_code 4 = .ok (.iload_n 1, 1) := by decide +kernel
theorem d_6_5 : decode method_6_code 5 = .ok (.iload_n 2, 1) := by decide +kernel
theorem d_6_6 : decode method_6_code 6 = .ok (.iload_n 3, 1) := by decide +kernel
theorem d_6_7 : decode method_6_code 7 = .ok (.invokevirtual 25, 3) := by decide +kernel
theorem w_1110 : (Cond.code ({ cls := "NumberHouse", name := "told", desc := "(III)J" } : MethodName) prog_1_method_6_code (7 : Nat) (some .long)) ∈ q_tbl := q_of 1110 (by decide +kernel) (by decide +kernel)
theorem w_1107 : (Cond.methodLink "NumberHouseLaw" (25 : Nat) ({ cls := "NumberHouse", name := "told", desc := "(III)J" } : MethodName)) ∈ q_tbl := q_of 1107 (by decide +kernel) (by decide +kernel)
theorem w_1108 : (Cond.instanceMethod ({ cls := "NumberHouse", name := "told", desc := "(III)J" } : MethodName)) ∈ q_tbl := q_of 1108 (by decide +kernel) (by decide +kernel)
theorem w_1109 : (Cond.selects "NumberHouse" ({ cls := "NumberHouse", name := "told", desc := "(III)J" } : MethodName) ({ cls := "NumberHouse", name := "told", desc := "(III)J" } : MethodName)) ∈ q_tbl := q_of 1109 (by decide +kernel) (by decide +kernel)
theorem LV_NL_25 : q_LV "NumberHouseLaw" 25 y_NH_told prog_1_method_6_code 7 (some .long) 3 := ⟨w_1110, w_1, w_1107, w_1108, w_1109, ⟨by decide, by decide, by decide +kernel⟩⟩
theorem d_6_14 : decode method_6_code 14 = .ok (.astore 5, 2) := by decide +kernel
theorem d_6_16 : decode method_6_code 16 = .ok (.iconst 1, 1) := by decide +kernel
theorem d_6_17 : decode method_6_code 17 = .ok (.ireturn, 1) := by decide +kernel
theorem d_6_10 : decode method_6_code 10 = .ok (.lastore, 1) := by decide +kernel
theorem d_6_11 : decode method_6_code 11 = .ok (.goto 11, 3) := by decide +kernel
theorem d_6_22 : decode method_6_code 22 = .ok (.iconst 0, 1) := by decide +kernel
theorem d_6_23 : decode method_6_code 23 = .ok (.ireturn, 1) := by decide +kernel
def y_NL_told : MethodName := ⟨"NumberHouseLaw", "told", "(LNumberHouse;III[J)I"⟩
set_option maxRecDepth 100000 in
set_option maxHeartbeats 4000000 in
theorem c_NL_told (l : Launch) (D : va_G) (g : Nat → ClassId) (ws : va_W) (hlt : l.stackTraces = false) (q : Nat → Nat) (qo : Nat) (x1 : Int32) (x2 : Int32) (x3 : Int32) (hfl : q_fl ws 0 (nh_w g q)) (hO : ws[169]? = (some (qo, .inl (g 1, 1, .inr (.inl (fun _ => 0)))) : Option (Nat × va_E))) : ∀ sz, Met l y_NL_told (q_wW y_NL_told method_6_code 6 (some .int) [(0, 11, 14, 13), (0, 11, 18, 19)]) (q_rm 10 4 24) (q_P D g [.ref (q 0), .int x1, .int x2, .int x3, .ref qo] ws sz) (va_Qi (fun k u => ∃ o : Int64, u[169]? = (some (qo, .inl (g 1, 1, .inr (.inl (vp_updL (fun _ => 0) 0 o)))) : Option (Nat × va_E)) ∧ ((k.toInt = 0 ∧ (((0 ≤ x1.toInt ∧ x1.toInt ≤ 3) ∧ (0 ≤ x2.toInt ∧ x2.toInt ≤ 9) ∧ 0 ≤ x3.toInt ∧ (x1.toInt = 0 → x3.toInt ≤ 4) ∧ (x1.toInt = 1 → x3.toInt ≤ 3) ∧ (2 ≤ x1.toInt → x3.toInt ≤ 2)) ∧ ((x1.toInt = 0 ∧ x3.toInt = 4 ∧ (o : Int64).toInt = -1) ∨ (x1.toInt = 1 ∧ x3.toInt = 2 ∧ (o : Int64).toInt = 1) ∨ (¬ (x1.toInt = 0 ∧ x3.toInt = 4) ∧ ¬ (x1.toInt = 1 ∧ x3.toInt = 2) ∧ (o : Int64).toInt = 0)))) ∨ (k.toInt = 1 ∧ (¬ ((0 ≤ x1.toInt ∧ x1.toInt ≤ 3) ∧ (0 ≤ x2.toInt ∧ x2.toInt ≤ 9) ∧ 0 ≤ x3.toInt ∧ (x1.toInt = 0 → x3.toInt ≤ 4) ∧ (x1.toInt = 1 → x3.toInt ≤ 3) ∧ (2 ≤ x1.toInt → x3.toInt ≤ 2))))) ∧ ∀ i, 116 ≤ i → i ≠ 169 → u[i]? = ws[i]?) (q_B D g (va_A ws sz)) (va_A ws sz)) 4 24 (va_A ws sz) := by
  intro sz
  refine q_intoW (by decide) (Nat.le_of_ble_eq_true rfl) ?_
  intro p e s m below meth c ls hsz C0 V ht hl
  have hx := C0.1
  have hb := C0.2.1
  have hl : lv_has ls 6 [(0, .ref (q 0)), (1, .int x1), (2, .int x2), (3, .int x3), (4, .ref qo)] := hl
  have hP0 : ws[0]? = (some (q 0, .inr (0, [.ref (q 1), .ref (q 3), .ref (q 5), .ref (q 6), .ref (q 7), .ref (q 8), .ref (q 9), .ref (q 30), .ref (q 34), .ref (q 35), .ref (q 36), .ref (q 38), .ref (q 39), .ref (q 40)])) : Option (Nat × va_E)) := q_fa (i := 0) hfl rfl
  have hP5 : ws[5]? = (some (q 5, .inl (g 4, 10, .inr (.inr (.inr (.inr (va_up (va_up (va_up (va_up (va_up (va_up (va_up (va_up (va_up (va_up (fun _ => none) 0 (some (q 66))) 1 (some (q 71))) 2 (some (q 76))) 3 (some (q 81))) 4 (some (q 86))) 5 (some (q 91))) 6 (some (q 96))) 7 (some (q 101))) 8 (some (q 106))) 9 (some (q 111)))))))) : Option (Nat × va_E)) := q_fa (i := 5) hfl rfl
  have hP6 : ws[6]? = (some (q 6, .inl (g 5, 10, .inr (.inr (.inr (.inr (va_up (va_up (va_up (va_up (va_up (va_up (va_up (va_up (va_up (va_up (fun _ => none) 0 (some (q 68))) 1 (some (q 73))) 2 (some (q 78))) 3 (some (q 83))) 4 (some (q 88))) 5 (some (q 93))) 6 (some (q 98))) 7 (some (q 103))) 8 (some (q 108))) 9 (some (q 113)))))))) : Option (Nat × va_E)) := q_fa (i := 6) hfl rfl
  have hP7 : ws[7]? = (some (q 7, .inl (g 1, 10, .inr (.inl (fun _ => 0)))) : Option (Nat × va_E)) := q_fa (i := 7) hfl rfl
  have hP8 : ws[8]? = (some (q 8, .inl (g 1, 10, .inr (.inl (fun _ => 0)))) : Option (Nat × va_E)) := q_fa (i := 8) hfl rfl
  have hP9 : ws[9]? = (some (q 9, .inr (4, [.ref (q 10), .ref (q 12), .ref (q 14), .ref (q 16), .ref (q 18), .ref (q 20), .ref (q 22), .ref (q 24), .ref (q 26), .ref (q 28)])) : Option (Nat × va_E)) := q_fa (i := 9) hfl rfl
  have hP10 : ws[10]? = (some (q 10, .inr (2, [.ref (q 11), .int 0, .int 0])) : Option (Nat × va_E)) := q_fa (i := 10) hfl rfl
  have hP11 : ws[11]? = (some (q 11, .inl (g 0, 220, .inl (fun _ => 0))) : Option (Nat × va_E)) := q_fa (i := 11) hfl rfl
  have hP34 : ws[34]? = (some (q 34, .inr (6, [.int 52, .int 1075, .int 2047, .long 0, .int 0, .ref (q 9), .int 0])) : Option (Nat × va_E)) := q_fa (i := 34) hfl rfl
  have hP35 : ws[35]? = (some (q 35, .inr (6, [.int 23, .int 150, .int 255, .long 0, .int 0, .ref (q 9), .int 0])) : Option (Nat × va_E)) := q_fa (i := 35) hfl rfl
  have hP36 : ws[36]? = (some (q 36, .inr (7, [.int 0, .int 0, .ref (q 37)])) : Option (Nat × va_E)) := q_fa (i := 36) hfl rfl
  refine lv_aload hx hb d_6_0 (lv_at hl 4 rfl) ?_
  refine lv_iconst (v := 0) hx hb d_6_2 (by decide) ?_
  refine lv_aload_n hx hb d_6_3 rfl (lv_at hl 0 rfl) ?_
  refine lv_iload_n hx hb d_6_4 rfl (lv_at hl 1 rfl) ?_
  refine lv_iload_n hx hb d_6_5 rfl (lv_at hl 2 rfl) ?_
  refine lv_iload_n hx hb d_6_6 rfl (lv_at hl 3 rfl) ?_
  refine q_goxl V (q_runVX (As := [.int x1, .int x2, .int x3]) (rest := [.int 0, .ref qo]) (d := 9) (mc := 4) (ms := 24) (ci := 0) C0 V rfl LV_NL_25 (c_NH_told l D g ws hlt (q 0) (q 1) (q 3) (q 5) (q 6) (q 7) (q 8) (q 9) (q 30) (q 34) (q 35) (q 36) (q 38) (q 39) (q 40) (q 10) (q 12) (q 14) (q 16) (q 18) (q 20) (q 22) (q 24) (q 26) (q 28) (q 37) (q 11) x1 x2 x3 (va_up (va_up (va_up (va_up (va_up (va_up (va_up (va_up (va_up (va_up (fun _ => none) 0 (some (q 66))) 1 (some (q 71))) 2 (some (q 76))) 3 (some (q 81))) 4 (some (q 86))) 5 (some (q 91))) 6 (some (q 96))) 7 (some (q 101))) 8 (some (q 106))) 9 (some (q 111))) (va_up (va_up (va_up (va_up (va_up (va_up (va_up (va_up (va_up (va_up (fun _ => none) 0 (some (q 68))) 1 (some (q 73))) 2 (some (q 78))) 3 (some (q 83))) 4 (some (q 88))) 5 (some (q 93))) 6 (some (q 98))) 7 (some (q 103))) 8 (some (q 108))) 9 (some (q 113))) hP0 hP5 hP6 hP7 hP8 hP9 hP34 hP35 hP36 hP10 hP11 (fun i => q (66 + 5 * i)) (fun i => q (67 + 5 * i)) (fun i => q (68 + 5 * i)) (fun i => q (69 + 5 * i)) (fun i => q (70 + 5 * i)) nh_hfW (nh_FW hfl) (nh_FWL hfl) nh_hfD (nh_FD hfl) (nh_FDN hfl) (nh_FDL hfl) _) rfl rfl hP0 rfl hl.1 rfl (Nat.le_of_ble_eq_true rfl) ⟨by decide, by decide⟩ ⟨Nat.le_of_ble_eq_true rfl, Nat.le_of_ble_eq_true rfl⟩ d_6_7) (fun qx Ex ce u1 H locs hp V hce hcv hcl => ?_) (fun rv u1 H locs hp V => ?_)
  ·
    obtain ⟨hp, hF⟩ := hp
    obtain ⟨rfl, hr⟩ := hp
    have hO : u1[169]? = _ := (hF 169 (Nat.le_of_ble_eq_true rfl)).trans hO
    refine q_catch hce hcv hcl (fun pl hpl => q_hY C0 V rfl ht ⟨by decide, by decide⟩ (by decide) w_486 wo_496 hcl pl hpl) ?_
    refine lv_astore (lv' := [(5, .ref qx), (0, .ref (q 0)), (1, .int x1), (2, .int x2), (3, .int x3), (4, .ref qo)]) hx hb d_6_14 hl (by decide) rfl (fun ls hl => ?_)
    refine lv_iconst (v := 1) hx hb d_6_16 (by decide) ?_
    exact q_reti C0 V (⟨0, q_re hO (q_eL q_updL0.symm), Or.inr (⟨(by decide), hr⟩), fun i h1 _ => hF i h1⟩) d_6_17
  ·
    obtain ⟨hr, hF⟩ := hp
    have hO : u1[169]? = _ := (hF 169 (Nat.le_of_ble_eq_true rfl)).trans hO
    refine q_last C0 V hO (by unfold vp_in; decide) d_6_10 (fun H locs w1 hu2 hO V => ?_)
    replace hO : w1[169]? = (some (qo, .inl (g 1, 1, .inr (.inl (vp_updL (fun _ => 0) 0 rv)))) : Option (Nat × va_E)) := hO
    refine lv_goto (tgt := 22) hx hb d_6_11 (by decide) ?_
    refine lv_iconst (v := 0) hx hb d_6_22 (by decide) ?_
    exact q_reti C0 V (⟨rv, hO, Or.inl ⟨(by decide), (show ((0 ≤ x1.toInt ∧ x1.toInt ≤ 3) ∧ (0 ≤ x2.toInt ∧ x2.toInt ≤ 9) ∧ 0 ≤ x3.toInt ∧ (x1.toInt = 0 → x3.toInt ≤ 4) ∧ (x1.toInt = 1 → x3.toInt ≤ 3) ∧ (2 ≤ x1.toInt → x3.toInt ≤ 2)) ∧ ((x1.toInt = 0 ∧ x3.toInt = 4 ∧ (rv : Int64).toInt = -1) ∨ (x1.toInt = 1 ∧ x3.toInt = 2 ∧ (rv : Int64).toInt = 1) ∨ (¬ (x1.toInt = 0 ∧ x3.toInt = 4) ∧ ¬ (x1.toInt = 1 ∧ x3.toInt = 2) ∧ (rv : Int64).toInt = 0)) from hr)⟩, fun i h1 h2 => (hu2 i h2).trans (hF i h1)⟩) d_6_23
theorem d_7_0 : decode method_7_code 0 = .ok (.aload 4, 2) := by decide +kernel
theorem d_7_2 : decode method_7_code 2 = .ok (.iconst 0, 1) := by decide +kernel
theorem d_7_3 : decode method_7_code 3 = .ok (.aload_n 0, 1) := by decide +kernel
theorem d_7_4 : decode method_7_code 4 = .ok (.iload_n 1, 1) := by decide +kernel
theorem d_7_5 : decode method_7_code 5 = .ok (.iload_n 2, 1) := by decide +kernel
theorem d_7_6 : decode method_7_code 6 = .ok (.iload_n 3, 1) := by decide +kernel
theorem d_7_7 : decode method_7_code 7 = .ok (.invokevirtual 29, 3) := by decide +kernel
theorem w_1217 : (Cond.code ({ cls := "NumberHouse", name := "compare", desc := "(III)I" } : MethodName) prog_1_method_7_code (9 : Nat) (some .int)) ∈ q_tbl := q_of 1217 (by decide +kernel) (by decide +kernel)
theorem w_1214 : (Cond.methodLink "NumberHouseLaw" (29 : Nat) ({ cls := "NumberHouse", name := "compare", desc := "(III)I" } : MethodName)) ∈ q_tbl := q_of 1214 (by decide +kernel) (by decide +kernel)
theorem w_1215 : (Cond.instanceMethod ({ cls := "NumberHouse", name := "compare", desc := "(III)I" } : MethodName)) ∈ q_tbl := q_of 1215 (by decide +kernel) (by decide +kernel)
theorem w_1216 : (Cond.selects "NumberHouse" ({ cls := "NumberHouse", name := "compare", desc := "(III)I" } : MethodName) ({ cls := "NumberHouse", name := "compare", desc := "(III)I" } : MethodName)) ∈ q_tbl := q_of 1216 (by decide +kernel) (by decide +kernel)
theorem LV_NL_29 : q_LV "NumberHouseLaw" 29 y_NH_compare prog_1_method_7_code 9 (some .int) 3 := ⟨w_1217, w_1, w_1214, w_1215, w_1216, ⟨by decide, by decide, by decide +kernel⟩⟩
theorem d_7_15 : decode method_7_code 15 = .ok (.astore 5, 2) := by decide +kernel
theorem d_7_17 : decode method_7_code 17 = .ok (.iconst 1, 1) := by decide +kernel
theorem d_7_18 : decode method_7_code 18 = .ok (.ireturn, 1) := by decide +kernel
theorem d_7_10 : decode method_7_code 10 = .ok (.i2l, 1) := by decide +kernel
theorem d_7_11 : decode method_7_code 11 = .ok (.lastore, 1) := by decide +kernel
theorem d_7_12 : decode method_7_code 12 = .ok (.goto 11, 3) := by decide +kernel
theorem d_7_23 : decode method_7_code 23 = .ok (.iconst 0, 1) := by decide +kernel
theorem d_7_24 : decode method_7_code 24 = .ok (.ireturn, 1) := by decide +kernel
def y_NL_compare : MethodName := ⟨"NumberHouseLaw", "compare", "(LNumberHouse;III[J)I"⟩
set_option maxRecDepth 100000 in
set_option maxHeartbeats 4000000 in
theorem c_NL_compare (l : Launch) (D : va_G) (g : Nat → ClassId) (ws : va_W) (hlt : l.stackTraces = false) (q : Nat → Nat) (qo : Nat) (x1 : Int32) (x2 : Int32) (x3 : Int32) (hfl : q_fl ws 0 (nh_w g q)) (hO : ws[169]? = (some (qo, .inl (g 1, 1, .inr (.inl (fun _ => 0)))) : Option (Nat × va_E))) : ∀ sz, Met l y_NL_compare (q_wW y_NL_compare method_7_code 6 (some .int) [(0, 12, 15, 13), (0, 12, 19, 19)]) (q_rm 10 3 18) (q_P D g [.ref (q 0), .int x1, .int x2, .int x3, .ref qo] ws sz) (va_Qi (fun k u => ∃ o : Int64, u[169]? = (some (qo, .inl (g 1, 1, .inr (.inl (vp_updL (fun _ => 0) 0 o)))) : Option (Nat × va_E)) ∧ ((k.toInt = 0 ∧ (((0 ≤ x1.toInt ∧ x1.toInt ≤ 3) ∧ (0 ≤ x2.toInt ∧ x2.toInt ≤ 9) ∧ (0 ≤ x3.toInt ∧ x3.toInt ≤ 9)) ∧ (o : Int64).toInt = 0)) ∨ (k.toInt = 1 ∧ (¬ ((0 ≤ x1.toInt ∧ x1.toInt ≤ 3) ∧ (0 ≤ x2.toInt ∧ x2.toInt ≤ 9) ∧ (0 ≤ x3.toInt ∧ x3.toInt ≤ 9))))) ∧ ∀ i, 116 ≤ i → i ≠ 169 → u[i]? = ws[i]?) (q_B D g (va_A ws sz)) (va_A ws sz)) 3 18 (va_A ws sz) := by
  intro sz
  refine q_intoW (by decide) (Nat.le_of_ble_eq_true rfl) ?_
  intro p e s m below meth c ls hsz C0 V ht hl
  have hx := C0.1
  have hb := C0.2.1
  have hl : lv_has ls 6 [(0, .ref (q 0)), (1, .int x1), (2, .int x2), (3, .int x3), (4, .ref qo)] := hl
  have hP0 : ws[0]? = (some (q 0, .inr (0, [.ref (q 1), .ref (q 3), .ref (q 5), .ref (q 6), .ref (q 7), .ref (q 8), .ref (q 9), .ref (q 30), .ref (q 34), .ref (q 35), .ref (q 36), .ref (q 38), .ref (q 39), .ref (q 40)])) : Option (Nat × va_E)) := q_fa (i := 0) hfl rfl
  have hP5 : ws[5]? = (some (q 5, .inl (g 4, 10, .inr (.inr (.inr (.inr (va_up (va_up (va_up (va_up (va_up (va_up (va_up (va_up (va_up (va_up (fun _ => none) 0 (some (q 66))) 1 (some (q 71))) 2 (some (q 76))) 3 (some (q 81))) 4 (some (q 86))) 5 (some (q 91))) 6 (some (q 96))) 7 (some (q 101))) 8 (some (q 106))) 9 (some (q 111)))))))) : Option (Nat × va_E)) := q_fa (i := 5) hfl rfl
  have hP6 : ws[6]? = (some (q 6, .inl (g 5, 10, .inr (.inr (.inr (.inr (va_up (va_up (va_up (va_up (va_up (va_up (va_up (va_up (va_up (va_up (fun _ => none) 0 (some (q 68))) 1 (some (q 73))) 2 (some (q 78))) 3 (some (q 83))) 4 (some (q 88))) 5 (some (q 93))) 6 (some (q 98))) 7 (some (q 103))) 8 (some (q 108))) 9 (some (q 113)))))))) : Option (Nat × va_E)) := q_fa (i := 6) hfl rfl
  have hP7 : ws[7]? = (some (q 7, .inl (g 1, 10, .inr (.inl (fun _ => 0)))) : Option (Nat × va_E)) := q_fa (i := 7) hfl rfl
  have hP8 : ws[8]? = (some (q 8, .inl (g 1, 10, .inr (.inl (fun _ => 0)))) : Option (Nat × va_E)) := q_fa (i := 8) hfl rfl
  have hP30 : ws[30]? = (some (q 30, .inr (5, [.ref (q 31), .long 0, .ref (q 9), .int 0])) : Option (Nat × va_E)) := q_fa (i := 30) hfl rfl
  have hP34 : ws[34]? = (some (q 34, .inr (6, [.int 52, .int 1075, .int 2047, .long 0, .int 0, .ref (q 9), .int 0])) : Option (Nat × va_E)) := q_fa (i := 34) hfl rfl
  have hP35 : ws[35]? = (some (q 35, .inr (6, [.int 23, .int 150, .int 255, .long 0, .int 0, .ref (q 9), .int 0])) : Option (Nat × va_E)) := q_fa (i := 35) hfl rfl
  refine lv_aload hx hb d_7_0 (lv_at hl 4 rfl) ?_
  refine lv_iconst (v := 0) hx hb d_7_2 (by decide) ?_
  refine lv_aload_n hx hb d_7_3 rfl (lv_at hl 0 rfl) ?_
  refine lv_iload_n hx hb d_7_4 rfl (lv_at hl 1 rfl) ?_
  refine lv_iload_n hx hb d_7_5 rfl (lv_at hl 2 rfl) ?_
  refine lv_iload_n hx hb d_7_6 rfl (lv_at hl 3 rfl) ?_
  refine q_goxi V (q_runVX (As := [.int x1, .int x2, .int x3]) (rest := [.int 0, .ref qo]) (d := 9) (mc := 3) (ms := 18) (ci := 0) C0 V rfl LV_NL_29 (c_NH_compare l D g ws hlt (q 0) (q 1) (q 3) (q 5) (q 6) (q 7) (q 8) (q 9) (q 30) (q 34) (q 35) (q 36) (q 38) (q 39) (q 40) (q 31) x1 x2 x3 (va_up (va_up (va_up (va_up (va_up (va_up (va_up (va_up (va_up (va_up (fun _ => none) 0 (some (q 66))) 1 (some (q 71))) 2 (some (q 76))) 3 (some (q 81))) 4 (some (q 86))) 5 (some (q 91))) 6 (some (q 96))) 7 (some (q 101))) 8 (some (q 106))) 9 (some (q 111))) (va_up (va_up (va_up (va_up (va_up (va_up (va_up (va_up (va_up (va_up (fun _ => none) 0 (some (q 68))) 1 (some (q 73))) 2 (some (q 78))) 3 (some (q 83))) 4 (some (q 88))) 5 (some (q 93))) 6 (some (q 98))) 7 (some (q 103))) 8 (some (q 108))) 9 (some (q 113))) hP0 hP5 hP6 hP7 hP8 hP30 hP34 hP35 (fun i => q (66 + 5 * i)) (fun i => q (67 + 5 * i)) (fun i => q (68 + 5 * i)) (fun i => q (69 + 5 * i)) (fun i => q (70 + 5 * i)) nh_hfW (nh_FW hfl) (nh_FWL hfl) nh_hfD (nh_FD hfl) (nh_FDN hfl) (nh_FDL hfl) _) rfl rfl hP0 rfl hl.1 rfl (Nat.le_of_ble_eq_true rfl) ⟨by decide, by decide⟩ ⟨Nat.le_of_ble_eq_true rfl, Nat.le_of_ble_eq_true rfl⟩ d_7_7) (fun qx Ex ce u1 H locs hp V hce hcv hcl => ?_) (fun rv u1 H locs hp V => ?_)
  ·
    obtain ⟨hp, hF⟩ := hp
    obtain ⟨rfl, hr⟩ := hp
    have hO : u1[169]? = _ := (hF 169 (Nat.le_of_ble_eq_true rfl)).trans hO
    refine q_catch hce hcv hcl (fun pl hpl => q_hY C0 V rfl ht ⟨by decide, by decide⟩ (by decide) w_486 wo_496 hcl pl hpl) ?_
    refine lv_astore (lv' := [(5, .ref qx), (0, .ref (q 0)), (1, .int x1), (2, .int x2), (3, .int x3), (4, .ref qo)]) hx hb d_7_15 hl (by decide) rfl (fun ls hl => ?_)
    refine lv_iconst (v := 1) hx hb d_7_17 (by decide) ?_
    exact q_reti C0 V (⟨0, q_re hO (q_eL q_updL0.symm), Or.inr (⟨(by decide), hr⟩), fun i h1 _ => hF i h1⟩) d_7_18
  ·
    obtain ⟨hr, hF⟩ := hp
    have hO : u1[169]? = _ := (hF 169 (Nat.le_of_ble_eq_true rfl)).trans hO
    refine lv_i2l hx hb d_7_10 rfl ?_
    refine q_last C0 V hO (by unfold vp_in; decide) d_7_11 (fun H locs w1 hu2 hO V => ?_)
    replace hO : w1[169]? = (some (qo, .inl (g 1, 1, .inr (.inl (vp_updL (fun _ => 0) 0 rv.toInt64)))) : Option (Nat × va_E)) := hO
    refine lv_goto (tgt := 23) hx hb d_7_12 (by decide) ?_
    refine lv_iconst (v := 0) hx hb d_7_23 (by decide) ?_
    exact q_reti C0 V (⟨rv.toInt64, hO, Or.inl ⟨(by decide), (show ((0 ≤ x1.toInt ∧ x1.toInt ≤ 3) ∧ (0 ≤ x2.toInt ∧ x2.toInt ≤ 9) ∧ (0 ≤ x3.toInt ∧ x3.toInt ≤ 9)) ∧ (rv.toInt64 : Int64).toInt = 0 from (by have e9 : (rv.toInt64 : Int64).toInt = rv.toInt := q_i2l rfl; omega))⟩, fun i h1 h2 => (hu2 i h2).trans (hF i h1)⟩) d_7_24
theorem d_8_0 : decode method_8_code 0 = .ok (.aload_n 0, 1) := by decide +kernel
theorem d_8_1 : decode method_8_code 1 = .ok (.iload_n 1, 1) := by decide +kernel
theorem d_8_2 : decode method_8_code 2 = .ok (.iload_n 2, 1) := by decide +kernel
theorem d_8_3 : decode method_8_code 3 = .ok (.iload_n 3, 1) := by decide +kernel
theorem d_8_4 : decode method_8_code 4 = .ok (.iload 4, 2) := by decide +kernel
theorem d_8_6 : decode method_8_code 6 = .ok (.invokevirtual 33, 3) := by decide +kernel
theorem w_1254 : (Cond.code ({ cls := "NumberHouse", name := "whole", desc := "(IIII)V" } : MethodName) prog_1_method_8_code (7 : Nat) (none : Option ClassFile.FieldType)) ∈ q_tbl := q_of 1254 (by decide +kernel) (by decide +kernel)
theorem w_1251 : (Cond.methodLink "NumberHouseLaw" (33 : Nat) ({ cls := "NumberHouse", name := "whole", desc := "(IIII)V" } : MethodName)) ∈ q_tbl := q_of 1251 (by decide +kernel) (by decide +kernel)
theorem w_1252 : (Cond.instanceMethod ({ cls := "NumberHouse", name := "whole", desc := "(IIII)V" } : MethodName)) ∈ q_tbl := q_of 1252 (by decide +kernel) (by decide +kernel)
theorem w_1253 : (Cond.selects "NumberHouse" ({ cls := "NumberHouse", name := "whole", desc := "(IIII)V" } : MethodName) ({ cls := "NumberHouse", name := "whole", desc := "(IIII)V" } : MethodName)) ∈ q_tbl := q_of 1253 (by decide +kernel) (by decide +kernel)
theorem LV_NL_33 : q_LV "NumberHouseLaw" 33 y_NH_whole prog_1_method_8_code 7 none 4 := ⟨w_1254, w_1, w_1251, w_1252, w_1253, ⟨by decide, by decide, by decide +kernel⟩⟩
theorem d_8_12 : decode method_8_code 12 = .ok (.astore 5, 2) := by decide +kernel
theorem d_8_14 : decode method_8_code 14 = .ok (.iconst 1, 1) := by decide +kernel
theorem d_8_15 : decode method_8_code 15 = .ok (.ireturn, 1) := by decide +kernel
theorem w_570 : (Cond.classLink "NumberHouseLaw" (19 : Nat) "java/lang/ArithmeticException") ∈ q_tbl := q_of 570 (by decide +kernel) (by decide +kernel)
theorem wo_1069 : (Cond.castable "java/lang/ArithmeticException" "java/lang/ArithmeticException") ∈ q_odd := q_oo 1069 (by decide +kernel) (by decide +kernel)
theorem d_8_16 : decode method_8_code 16 = .ok (.astore 5, 2) := by decide +kernel
theorem d_8_18 : decode method_8_code 18 = .ok (.iconst 2, 1) := by decide +kernel
theorem d_8_19 : decode method_8_code 19 = .ok (.ireturn, 1) := by decide +kernel
theorem d_8_9 : decode method_8_code 9 = .ok (.goto 11, 3) := by decide +kernel
theorem d_8_20 : decode method_8_code 20 = .ok (.iconst 0, 1) := by decide +kernel
theorem d_8_21 : decode method_8_code 21 = .ok (.ireturn, 1) := by decide +kernel
def y_NL_whole : MethodName := ⟨"NumberHouseLaw", "whole", "(LNumberHouse;IIII)I"⟩
set_option maxRecDepth 100000 in
set_option maxHeartbeats 4000000 in
theorem c_NL_whole (l : Launch) (D : va_G) (g : Nat → ClassId) (ws : va_W) (hlt : l.stackTraces = false) (q : Nat → Nat) (x1 : Int32) (x2 : Int32) (x3 : Int32) (x4 : Int32) (hfl : q_fl ws 0 (nh_w g q)) : ∀ sz, Met l y_NL_whole (q_wW y_NL_whole method_8_code 6 (some .int) [(0, 9, 12, 13), (0, 9, 16, 19)]) (q_rm 10 2 12) (q_P D g [.ref (q 0), .int x1, .int x2, .int x3, .int x4] ws sz) (va_Qi (fun k u => ((k.toInt = 0 ∧ (((0 ≤ x1.toInt ∧ x1.toInt ≤ 11) ∧ (0 ≤ x2.toInt ∧ x2.toInt ≤ 9) ∧ (0 ≤ x3.toInt ∧ x3.toInt ≤ 9) ∧ (0 ≤ x4.toInt ∧ x4.toInt ≤ 9)) ∧ ¬ ((x1.toInt = 3 ∨ x1.toInt = 4 ∨ x1.toInt = 5 ∨ x1.toInt = 7)))) ∨ (k.toInt = 1 ∧ (¬ ((0 ≤ x1.toInt ∧ x1.toInt ≤ 11) ∧ (0 ≤ x2.toInt ∧ x2.toInt ≤ 9) ∧ (0 ≤ x3.toInt ∧ x3.toInt ≤ 9) ∧ (0 ≤ x4.toInt ∧ x4.toInt ≤ 9)))) ∨ (k.toInt = 2 ∧ (((0 ≤ x1.toInt ∧ x1.toInt ≤ 11) ∧ (0 ≤ x2.toInt ∧ x2.toInt ≤ 9) ∧ (0 ≤ x3.toInt ∧ x3.toInt ≤ 9) ∧ (0 ≤ x4.toInt ∧ x4.toInt ≤ 9)) ∧ (x1.toInt = 3 ∨ x1.toInt = 4 ∨ x1.toInt = 5 ∨ x1.toInt = 7)))) ∧ q_ge 116 ws u) (q_B D g (va_A ws sz)) (va_A ws sz)) 2 12 (va_A ws sz) := by
  intro sz
  refine q_intoW (by decide) (Nat.le_of_ble_eq_true rfl) ?_
  intro p e s m below meth c ls hsz C0 V ht hl
  have hx := C0.1
  have hb := C0.2.1
  have hl : lv_has ls 6 [(0, .ref (q 0)), (1, .int x1), (2, .int x2), (3, .int x3), (4, .int x4)] := hl
  have hP0 : ws[0]? = (some (q 0, .inr (0, [.ref (q 1), .ref (q 3), .ref (q 5), .ref (q 6), .ref (q 7), .ref (q 8), .ref (q 9), .ref (q 30), .ref (q 34), .ref (q 35), .ref (q 36), .ref (q 38), .ref (q 39), .ref (q 40)])) : Option (Nat × va_E)) := q_fa (i := 0) hfl rfl
  have hP5 : ws[5]? = (some (q 5, .inl (g 4, 10, .inr (.inr (.inr (.inr (va_up (va_up (va_up (va_up (va_up (va_up (va_up (va_up (va_up (va_up (fun _ => none) 0 (some (q 66))) 1 (some (q 71))) 2 (some (q 76))) 3 (some (q 81))) 4 (some (q 86))) 5 (some (q 91))) 6 (some (q 96))) 7 (some (q 101))) 8 (some (q 106))) 9 (some (q 111)))))))) : Option (Nat × va_E)) := q_fa (i := 5) hfl rfl
  have hP9 : ws[9]? = (some (q 9, .inr (4, [.ref (q 10), .ref (q 12), .ref (q 14), .ref (q 16), .ref (q 18), .ref (q 20), .ref (q 22), .ref (q 24), .ref (q 26), .ref (q 28)])) : Option (Nat × va_E)) := q_fa (i := 9) hfl rfl
  have hP10 : ws[10]? = (some (q 10, .inr (2, [.ref (q 11), .int 0, .int 0])) : Option (Nat × va_E)) := q_fa (i := 10) hfl rfl
  have hP11 : ws[11]? = (some (q 11, .inl (g 0, 220, .inl (fun _ => 0))) : Option (Nat × va_E)) := q_fa (i := 11) hfl rfl
  have hP22 : ws[22]? = (some (q 22, .inr (2, [.ref (q 23), .int 0, .int 0])) : Option (Nat × va_E)) := q_fa (i := 22) hfl rfl
  have hP23 : ws[23]? = (some (q 23, .inl (g 0, 220, .inl (fun _ => 0))) : Option (Nat × va_E)) := q_fa (i := 23) hfl rfl
  have hP24 : ws[24]? = (some (q 24, .inr (2, [.ref (q 25), .int 0, .int 0])) : Option (Nat × va_E)) := q_fa (i := 24) hfl rfl
  have hP25 : ws[25]? = (some (q 25, .inl (g 0, 220, .inl (fun _ => 0))) : Option (Nat × va_E)) := q_fa (i := 25) hfl rfl
  refine lv_aload_n hx hb d_8_0 rfl (lv_at hl 0 rfl) ?_
  refine lv_iload_n hx hb d_8_1 rfl (lv_at hl 1 rfl) ?_
  refine lv_iload_n hx hb d_8_2 rfl (lv_at hl 2 rfl) ?_
  refine lv_iload_n hx hb d_8_3 rfl (lv_at hl 3 rfl) ?_
  refine lv_iload hx hb d_8_4 (lv_at hl 4 rfl) ?_
  refine q_goxv V (q_runVX (As := [.int x1, .int x2, .int x3, .int x4]) (rest := []) (d := 9) (mc := 2) (ms := 12) (ci := 0) C0 V rfl LV_NL_33 (c_NH_whole l D g ws hlt (q 0) (q 1) (q 3) (q 5) (q 6) (q 7) (q 8) (q 9) (q 30) (q 34) (q 35) (q 36) (q 38) (q 39) (q 40) (q 10) (q 12) (q 14) (q 16) (q 18) (q 20) (q 22) (q 24) (q 26) (q 28) (q 11) (q 23) (q 25) x1 x2 x3 x4 (va_up (va_up (va_up (va_up (va_up (va_up (va_up (va_up (va_up (va_up (fun _ => none) 0 (some (q 66))) 1 (some (q 71))) 2 (some (q 76))) 3 (some (q 81))) 4 (some (q 86))) 5 (some (q 91))) 6 (some (q 96))) 7 (some (q 101))) 8 (some (q 106))) 9 (some (q 111))) hP0 hP5 hP9 hP10 hP22 hP24 hP11 hP23 hP25 (fun i => q (66 + 5 * i)) (fun i => q (67 + 5 * i)) (fun i => q (68 + 5 * i)) (fun i => q (69 + 5 * i)) (fun i => q (70 + 5 * i)) nh_hfW (nh_FW hfl) (nh_FWL hfl) _) rfl rfl hP0 rfl hl.1 rfl (Nat.le_of_ble_eq_true rfl) ⟨by decide, by decide⟩ ⟨Nat.le_of_ble_eq_true rfl, Nat.le_of_ble_eq_true rfl⟩ d_8_6) (fun qx Ex ce u1 H locs hp V hce hcv hcl => ?_) (fun u1 H locs hp V => ?_)
  ·
    obtain ⟨hp, hF⟩ := hp
    rcases hp with ⟨rfl, hr⟩ | ⟨rfl, hr⟩
    ·
      refine q_catch hce hcv hcl (fun pl hpl => q_hY C0 V rfl ht ⟨by decide, by decide⟩ (by decide) w_486 wo_496 hcl pl hpl) ?_
      refine lv_astore (lv' := [(5, .ref qx), (0, .ref (q 0)), (1, .int x1), (2, .int x2), (3, .int x3), (4, .int x4)]) hx hb d_8_12 hl (by decide) rfl (fun ls hl => ?_)
      refine lv_iconst (v := 1) hx hb d_8_14 (by decide) ?_
      exact q_reti C0 V (⟨Or.inr (Or.inl ⟨(by decide), hr⟩), hF⟩) d_8_15
    ·
      refine q_catch hce hcv hcl (fun pl hpl => q_hN C0 rfl ht ⟨by decide, by decide⟩ (by decide) w_486 (V.2.2.2.2.1.2.1.2.2.1) hcl pl hpl (fun t ht2 => q_hY C0 V rfl ht2 ⟨by decide, by decide⟩ (by decide) w_570 wo_1069 hcl pl hpl)) ?_
      refine lv_astore (lv' := [(5, .ref qx), (0, .ref (q 0)), (1, .int x1), (2, .int x2), (3, .int x3), (4, .int x4)]) hx hb d_8_16 hl (by decide) rfl (fun ls hl => ?_)
      refine lv_iconst (v := 2) hx hb d_8_18 (by decide) ?_
      exact q_reti C0 V (⟨Or.inr (Or.inr (⟨(by decide), hr⟩)), hF⟩) d_8_19
  ·
    obtain ⟨hr, hF⟩ := hp
    refine lv_goto (tgt := 20) hx hb d_8_9 (by decide) ?_
    refine lv_iconst (v := 0) hx hb d_8_20 (by decide) ?_
    exact q_reti C0 V (⟨Or.inl ⟨(by decide), hr⟩, hF⟩) d_8_21
theorem d_9_0 : decode method_9_code 0 = .ok (.aload_n 0, 1) := by decide +kernel
theorem d_9_1 : decode method_9_code 1 = .ok (.iload_n 1, 1) := by decide +kernel
theorem d_9_2 : decode method_9_code 2 = .ok (.iload_n 2, 1) := by decide +kernel
theorem d_9_3 : decode method_9_code 3 = .ok (.iload_n 3, 1) := by decide +kernel
theorem d_9_4 : decode method_9_code 4 = .ok (.iload 4, 2) := by decide +kernel
theorem d_9_6 : decode method_9_code 6 = .ok (.invokevirtual 37, 3) := by decide +kernel
theorem w_1327 : (Cond.code ({ cls := "NumberHouse", name := "wholeBy", desc := "(IIII)V" } : MethodName) prog_1_method_9_code (6 : Nat) (none : Option ClassFile.FieldType)) ∈ q_tbl := q_of 1327 (by decide +kernel) (by decide +kernel)
theorem w_1324 : (Cond.methodLink "NumberHouseLaw" (37 : Nat) ({ cls := "NumberHouse", name := "wholeBy", desc := "(IIII)V" } : MethodName)) ∈ q_tbl := q_of 1324 (by decide +kernel) (by decide +kernel)
theorem w_1325 : (Cond.instanceMethod ({ cls := "NumberHouse", name := "wholeBy", desc := "(IIII)V" } : MethodName)) ∈ q_tbl := q_of 1325 (by decide +kernel) (by decide +kernel)
theorem w_1326 : (Cond.selects "NumberHouse" ({ cls := "NumberHouse", name := "wholeBy", desc := "(IIII)V" } : MethodName) ({ cls := "NumberHouse", name := "wholeBy", desc := "(IIII)V" } : MethodName)) ∈ q_tbl := q_of 1326 (by decide +kernel) (by decide +kernel)
theorem LV_NL_37 : q_LV "NumberHouseLaw" 37 y_NH_wholeBy prog_1_method_9_code 6 none 4 := ⟨w_1327, w_1, w_1324, w_1325, w_1326, ⟨by decide, by decide, by decide +kernel⟩⟩
theorem d_9_12 : decode method_9_code 12 = .ok (.astore 5, 2) := by decide +kernel
theorem d_9_14 : decode method_9_code 14 = .ok (.iconst 1, 1) := by decide +kernel
theorem d_9_15 : decode method_9_code 15 = .ok (.ireturn, 1) := by decide +kernel
theorem d_9_9 : decode method_9_code 9 = .ok (.goto 11, 3) := by decide +kernel
theorem d_9_20 : decode method_9_code 20 = .ok (.iconst 0, 1) := by decide +kernel
theorem d_9_21 : decode method_9_code 21 = .ok (.ireturn, 1) := by decide +kernel
def y_NL_wholeBy : MethodName := ⟨"NumberHouseLaw", "wholeBy", "(LNumberHouse;IIII)I"⟩
set_option maxRecDepth 100000 in
set_option maxHeartbeats 4000000 in
theorem c_NL_wholeBy (l : Launch) (D : va_G) (g : Nat → ClassId) (ws : va_W) (hlt : l.stackTraces = false) (q : Nat → Nat) (x1 : Int32) (x2 : Int32) (x3 : Int32) (x4 : Int32) (hfl : q_fl ws 0 (nh_w g q)) : ∀ sz, Met l y_NL_wholeBy (q_wW y_NL_wholeBy method_9_code 6 (some .int) [(0, 9, 12, 13), (0, 9, 16, 19)]) (q_rm 10 5 30) (q_P D g [.ref (q 0), .int x1, .int x2, .int x3, .int x4] ws sz) (va_Qi (fun k u => ((k.toInt = 0 ∧ (((0 ≤ x1.toInt ∧ x1.toInt ≤ 2) ∧ (0 ≤ x2.toInt ∧ x2.toInt ≤ 9) ∧ (0 ≤ x4.toInt ∧ x4.toInt ≤ 9) ∧ (x1.toInt = 0 → 0 ≤ x3.toInt) ∧ (x1.toInt = 1 → (1 ≤ x3.toInt ∧ x3.toInt ≤ 64))))) ∨ (k.toInt = 1 ∧ (¬ ((0 ≤ x1.toInt ∧ x1.toInt ≤ 2) ∧ (0 ≤ x2.toInt ∧ x2.toInt ≤ 9) ∧ (0 ≤ x4.toInt ∧ x4.toInt ≤ 9) ∧ (x1.toInt = 0 → 0 ≤ x3.toInt) ∧ (x1.toInt = 1 → (1 ≤ x3.toInt ∧ x3.toInt ≤ 64)))))) ∧ q_ge 116 ws u) (q_B D g (va_A ws sz)) (va_A ws sz)) 5 30 (va_A ws sz) := by
  intro sz
  refine q_intoW (by decide) (Nat.le_of_ble_eq_true rfl) ?_
  intro p e s m below meth c ls hsz C0 V ht hl
  have hx := C0.1
  have hb := C0.2.1
  have hl : lv_has ls 6 [(0, .ref (q 0)), (1, .int x1), (2, .int x2), (3, .int x3), (4, .int x4)] := hl
  have hP0 : ws[0]? = (some (q 0, .inr (0, [.ref (q 1), .ref (q 3), .ref (q 5), .ref (q 6), .ref (q 7), .ref (q 8), .ref (q 9), .ref (q 30), .ref (q 34), .ref (q 35), .ref (q 36), .ref (q 38), .ref (q 39), .ref (q 40)])) : Option (Nat × va_E)) := q_fa (i := 0) hfl rfl
  have hP5 : ws[5]? = (some (q 5, .inl (g 4, 10, .inr (.inr (.inr (.inr (va_up (va_up (va_up (va_up (va_up (va_up (va_up (va_up (va_up (va_up (fun _ => none) 0 (some (q 66))) 1 (some (q 71))) 2 (some (q 76))) 3 (some (q 81))) 4 (some (q 86))) 5 (some (q 91))) 6 (some (q 96))) 7 (some (q 101))) 8 (some (q 106))) 9 (some (q 111)))))))) : Option (Nat × va_E)) := q_fa (i := 5) hfl rfl
  have hP9 : ws[9]? = (some (q 9, .inr (4, [.ref (q 10), .ref (q 12), .ref (q 14), .ref (q 16), .ref (q 18), .ref (q 20), .ref (q 22), .ref (q 24), .ref (q 26), .ref (q 28)])) : Option (Nat × va_E)) := q_fa (i := 9) hfl rfl
  have hP10 : ws[10]? = (some (q 10, .inr (2, [.ref (q 11), .int 0, .int 0])) : Option (Nat × va_E)) := q_fa (i := 10) hfl rfl
  have hP11 : ws[11]? = (some (q 11, .inl (g 0, 220, .inl (fun _ => 0))) : Option (Nat × va_E)) := q_fa (i := 11) hfl rfl
  have hP14 : ws[14]? = (some (q 14, .inr (2, [.ref (q 15), .int 0, .int 0])) : Option (Nat × va_E)) := q_fa (i := 14) hfl rfl
  have hP15 : ws[15]? = (some (q 15, .inl (g 0, 220, .inl (fun _ => 0))) : Option (Nat × va_E)) := q_fa (i := 15) hfl rfl
  have hP16 : ws[16]? = (some (q 16, .inr (2, [.ref (q 17), .int 0, .int 0])) : Option (Nat × va_E)) := q_fa (i := 16) hfl rfl
  have hP17 : ws[17]? = (some (q 17, .inl (g 0, 220, .inl (fun _ => 0))) : Option (Nat × va_E)) := q_fa (i := 17) hfl rfl
  have hP18 : ws[18]? = (some (q 18, .inr (2, [.ref (q 19), .int 0, .int 0])) : Option (Nat × va_E)) := q_fa (i := 18) hfl rfl
  have hP19 : ws[19]? = (some (q 19, .inl (g 0, 220, .inl (fun _ => 0))) : Option (Nat × va_E)) := q_fa (i := 19) hfl rfl
  refine lv_aload_n hx hb d_9_0 rfl (lv_at hl 0 rfl) ?_
  refine lv_iload_n hx hb d_9_1 rfl (lv_at hl 1 rfl) ?_
  refine lv_iload_n hx hb d_9_2 rfl (lv_at hl 2 rfl) ?_
  refine lv_iload_n hx hb d_9_3 rfl (lv_at hl 3 rfl) ?_
  refine lv_iload hx hb d_9_4 (lv_at hl 4 rfl) ?_
  refine q_goxv V (q_runVX (As := [.int x1, .int x2, .int x3, .int x4]) (rest := []) (d := 9) (mc := 5) (ms := 30) (ci := 0) C0 V rfl LV_NL_37 (c_NH_wholeBy l D g ws hlt (q 0) (q 1) (q 3) (q 5) (q 6) (q 7) (q 8) (q 9) (q 30) (q 34) (q 35) (q 36) (q 38) (q 39) (q 40) (q 10) (q 12) (q 14) (q 16) (q 18) (q 20) (q 22) (q 24) (q 26) (q 28) (q 11) (q 15) (q 17) (q 19) x1 x2 x3 x4 (va_up (va_up (va_up (va_up (va_up (va_up (va_up (va_up (va_up (va_up (fun _ => none) 0 (some (q 66))) 1 (some (q 71))) 2 (some (q 76))) 3 (some (q 81))) 4 (some (q 86))) 5 (some (q 91))) 6 (some (q 96))) 7 (some (q 101))) 8 (some (q 106))) 9 (some (q 111))) hP0 hP5 hP9 hP10 hP14 hP16 hP18 hP11 hP15 hP17 hP19 (fun i => q (66 + 5 * i)) (fun i => q (67 + 5 * i)) (fun i => q (68 + 5 * i)) (fun i => q (69 + 5 * i)) (fun i => q (70 + 5 * i)) nh_hfW (nh_FW hfl) (nh_FWL hfl) _) rfl rfl hP0 rfl hl.1 rfl (Nat.le_of_ble_eq_true rfl) ⟨by decide, by decide⟩ ⟨Nat.le_of_ble_eq_true rfl, Nat.le_of_ble_eq_true rfl⟩ d_9_6) (fun qx Ex ce u1 H locs hp V hce hcv hcl => ?_) (fun u1 H locs hp V => ?_)
  ·
    obtain ⟨hp, hF⟩ := hp
    obtain ⟨rfl, hr⟩ := hp
    refine q_catch hce hcv hcl (fun pl hpl => q_hY C0 V rfl ht ⟨by decide, by decide⟩ (by decide) w_486 wo_496 hcl pl hpl) ?_
    refine lv_astore (lv' := [(5, .ref qx), (0, .ref (q 0)), (1, .int x1), (2, .int x2), (3, .int x3), (4, .int x4)]) hx hb d_9_12 hl (by decide) rfl (fun ls hl => ?_)
    refine lv_iconst (v := 1) hx hb d_9_14 (by decide) ?_
    exact q_reti C0 V (⟨Or.inr (⟨(by decide), hr⟩), hF⟩) d_9_15
  ·
    obtain ⟨hr, hF⟩ := hp
    refine lv_goto (tgt := 20) hx hb d_9_9 (by decide) ?_
    refine lv_iconst (v := 0) hx hb d_9_20 (by decide) ?_
    exact q_reti C0 V (⟨Or.inl ⟨(by decide), hr⟩, hF⟩) d_9_21
theorem d_10_0 : decode method_10_code 0 = .ok (.aload_n 0, 1) := by decide +kernel
theorem d_10_1 : decode method_10_code 1 = .ok (.iload_n 1, 1) := by decide +kernel
theorem d_10_2 : decode method_10_code 2 = .ok (.iload_n 2, 1) := by decide +kernel
theorem d_10_3 : decode method_10_code 3 = .ok (.iload_n 3, 1) := by decide +kernel
theorem d_10_4 : decode method_10_code 4 = .ok (.iload 4, 2) := by decide +kernel
theorem d_10_6 : decode method_10_code 6 = .ok (.invokevirtual 40, 3) := by decide +kernel
theorem w_1353 : (Cond.code ({ cls := "NumberHouse", name := "powerModulo", desc := "(IIII)V" } : MethodName) prog_1_method_10_code (5 : Nat) (none : Option ClassFile.FieldType)) ∈ q_tbl := q_of 1353 (by decide +kernel) (by decide +kernel)
theorem w_1350 : (Cond.methodLink "NumberHouseLaw" (40 : Nat) ({ cls := "NumberHouse", name := "powerModulo", desc := "(IIII)V" } : MethodName)) ∈ q_tbl := q_of 1350 (by decide +kernel) (by decide +kernel)
theorem w_1351 : (Cond.instanceMethod ({ cls := "NumberHouse", name := "powerModulo", desc := "(IIII)V" } : MethodName)) ∈ q_tbl := q_of 1351 (by decide +kernel) (by decide +kernel)
theorem w_1352 : (Cond.selects "NumberHouse" ({ cls := "NumberHouse", name := "powerModulo", desc := "(IIII)V" } : MethodName) ({ cls := "NumberHouse", name := "powerModulo", desc := "(IIII)V" } : MethodName)) ∈ q_tbl := q_of 1352 (by decide +kernel) (by decide +kernel)
theorem LV_NL_40 : q_LV "NumberHouseLaw" 40 y_NH_powerModulo prog_1_method_10_code 5 none 4 := ⟨w_1353, w_1, w_1350, w_1351, w_1352, ⟨by decide, by decide, by decide +kernel⟩⟩
theorem d_10_12 : decode method_10_code 12 = .ok (.astore 5, 2) := by decide +kernel
theorem d_10_14 : decode method_10_code 14 = .ok (.iconst 1, 1) := by decide +kernel
theorem d_10_15 : decode method_10_code 15 = .ok (.ireturn, 1) := by decide +kernel
theorem d_10_16 : decode method_10_code 16 = .ok (.astore 5, 2) := by decide +kernel
theorem d_10_18 : decode method_10_code 18 = .ok (.iconst 2, 1) := by decide +kernel
theorem d_10_19 : decode method_10_code 19 = .ok (.ireturn, 1) := by decide +kernel
theorem d_10_9 : decode method_10_code 9 = .ok (.goto 11, 3) := by decide +kernel
theorem d_10_20 : decode method_10_code 20 = .ok (.iconst 0, 1) := by decide +kernel
theorem d_10_21 : decode method_10_code 21 = .ok (.ireturn, 1) := by decide +kernel
def y_NL_powerModulo : MethodName := ⟨"NumberHouseLaw", "powerModulo", "(LNumberHouse;IIII)I"⟩
set_option maxRecDepth 100000 in
set_option maxHeartbeats 4000000 in
theorem c_NL_powerModulo (l : Launch) (D : va_G) (g : Nat → ClassId) (ws : va_W) (hlt : l.stackTraces = false) (q : Nat → Nat) (x1 : Int32) (x2 : Int32) (x3 : Int32) (x4 : Int32) (hfl : q_fl ws 0 (nh_w g q)) : ∀ sz, Met l y_NL_powerModulo (q_wW y_NL_powerModulo method_10_code 6 (some .int) [(0, 9, 12, 13), (0, 9, 16, 19)]) (q_rm 9 2 12) (q_P D g [.ref (q 0), .int x1, .int x2, .int x3, .int x4] ws sz) (va_Qi (fun k u => ((k.toInt = 0 ∧ (((0 ≤ x1.toInt ∧ x1.toInt ≤ 9) ∧ (0 ≤ x2.toInt ∧ x2.toInt ≤ 9) ∧ (0 ≤ x3.toInt ∧ x3.toInt ≤ 9) ∧ (0 ≤ x4.toInt ∧ x4.toInt ≤ 9)) ∧ ¬ (0 ≤ x1.toInt))) ∨ (k.toInt = 1 ∧ (¬ ((0 ≤ x1.toInt ∧ x1.toInt ≤ 9) ∧ (0 ≤ x2.toInt ∧ x2.toInt ≤ 9) ∧ (0 ≤ x3.toInt ∧ x3.toInt ≤ 9) ∧ (0 ≤ x4.toInt ∧ x4.toInt ≤ 9)))) ∨ (k.toInt = 2 ∧ (((0 ≤ x1.toInt ∧ x1.toInt ≤ 9) ∧ (0 ≤ x2.toInt ∧ x2.toInt ≤ 9) ∧ (0 ≤ x3.toInt ∧ x3.toInt ≤ 9) ∧ (0 ≤ x4.toInt ∧ x4.toInt ≤ 9)) ∧ 0 ≤ x1.toInt))) ∧ q_ge 116 ws u) (q_B D g (va_A ws sz)) (va_A ws sz)) 2 12 (va_A ws sz) := by
  intro sz
  refine q_intoW (by decide) (Nat.le_of_ble_eq_true rfl) ?_
  intro p e s m below meth c ls hsz C0 V ht hl
  have hx := C0.1
  have hb := C0.2.1
  have hl : lv_has ls 6 [(0, .ref (q 0)), (1, .int x1), (2, .int x2), (3, .int x3), (4, .int x4)] := hl
  have hP0 : ws[0]? = (some (q 0, .inr (0, [.ref (q 1), .ref (q 3), .ref (q 5), .ref (q 6), .ref (q 7), .ref (q 8), .ref (q 9), .ref (q 30), .ref (q 34), .ref (q 35), .ref (q 36), .ref (q 38), .ref (q 39), .ref (q 40)])) : Option (Nat × va_E)) := q_fa (i := 0) hfl rfl
  have hP5 : ws[5]? = (some (q 5, .inl (g 4, 10, .inr (.inr (.inr (.inr (va_up (va_up (va_up (va_up (va_up (va_up (va_up (va_up (va_up (va_up (fun _ => none) 0 (some (q 66))) 1 (some (q 71))) 2 (some (q 76))) 3 (some (q 81))) 4 (some (q 86))) 5 (some (q 91))) 6 (some (q 96))) 7 (some (q 101))) 8 (some (q 106))) 9 (some (q 111)))))))) : Option (Nat × va_E)) := q_fa (i := 5) hfl rfl
  refine lv_aload_n hx hb d_10_0 rfl (lv_at hl 0 rfl) ?_
  refine lv_iload_n hx hb d_10_1 rfl (lv_at hl 1 rfl) ?_
  refine lv_iload_n hx hb d_10_2 rfl (lv_at hl 2 rfl) ?_
  refine lv_iload_n hx hb d_10_3 rfl (lv_at hl 3 rfl) ?_
  refine lv_iload hx hb d_10_4 (lv_at hl 4 rfl) ?_
  refine q_goxv V (q_runVX (As := [.int x1, .int x2, .int x3, .int x4]) (rest := []) (d := 8) (mc := 2) (ms := 12) (ci := 0) C0 V rfl LV_NL_40 (c_NH_powerModulo l D g ws hlt (q 0) (q 1) (q 3) (q 5) (q 6) (q 7) (q 8) (q 9) (q 30) (q 34) (q 35) (q 36) (q 38) (q 39) (q 40) x1 x2 x3 x4 (va_up (va_up (va_up (va_up (va_up (va_up (va_up (va_up (va_up (va_up (fun _ => none) 0 (some (q 66))) 1 (some (q 71))) 2 (some (q 76))) 3 (some (q 81))) 4 (some (q 86))) 5 (some (q 91))) 6 (some (q 96))) 7 (some (q 101))) 8 (some (q 106))) 9 (some (q 111))) hP0 hP5 (fun i => q (66 + 5 * i)) (fun i => q (67 + 5 * i)) (fun i => q (68 + 5 * i)) (fun i => q (69 + 5 * i)) (fun i => q (70 + 5 * i)) nh_hfW (nh_FW hfl) (nh_FWL hfl) _) rfl rfl hP0 rfl hl.1 rfl (Nat.le_of_ble_eq_true rfl) ⟨by decide, by decide⟩ ⟨Nat.le_of_ble_eq_true rfl, Nat.le_of_ble_eq_true rfl⟩ d_10_6) (fun qx Ex ce u1 H locs hp V hce hcv hcl => ?_) (fun u1 H locs hp V => ?_)
  ·
    obtain ⟨hp, hF⟩ := hp
    rcases hp with ⟨rfl, hr⟩ | ⟨rfl, hr⟩
    ·
      refine q_catch hce hcv hcl (fun pl hpl => q_hY C0 V rfl ht ⟨by decide, by decide⟩ (by decide) w_486 wo_496 hcl pl hpl) ?_
      refine lv_astore (lv' := [(5, .ref qx), (0, .ref (q 0)), (1, .int x1), (2, .int x2), (3, .int x3), (4, .int x4)]) hx hb d_10_12 hl (by decide) rfl (fun ls hl => ?_)
      refine lv_iconst (v := 1) hx hb d_10_14 (by decide) ?_
      exact q_reti C0 V (⟨Or.inr (Or.inl ⟨(by decide), hr⟩), hF⟩) d_10_15
    ·
      refine q_catch hce hcv hcl (fun pl hpl => q_hN C0 rfl ht ⟨by decide, by decide⟩ (by decide) w_486 (V.2.2.2.2.1.2.1.2.2.1) hcl pl hpl (fun t ht2 => q_hY C0 V rfl ht2 ⟨by decide, by decide⟩ (by decide) w_570 wo_1069 hcl pl hpl)) ?_
      refine lv_astore (lv' := [(5, .ref qx), (0, .ref (q 0)), (1, .int x1), (2, .int x2), (3, .int x3), (4, .int x4)]) hx hb d_10_16 hl (by decide) rfl (fun ls hl => ?_)
      refine lv_iconst (v := 2) hx hb d_10_18 (by decide) ?_
      exact q_reti C0 V (⟨Or.inr (Or.inr (⟨(by decide), hr⟩)), hF⟩) d_10_19
  ·
    obtain ⟨hr, hF⟩ := hp
    refine lv_goto (tgt := 20) hx hb d_10_9 (by decide) ?_
    refine lv_iconst (v := 0) hx hb d_10_20 (by decide) ?_
    exact q_reti C0 V (⟨Or.inl ⟨(by decide), hr⟩, hF⟩) d_10_21
theorem d_11_0 : decode method_11_code 0 = .ok (.aload_n 0, 1) := by decide +kernel
theorem d_11_1 : decode method_11_code 1 = .ok (.iload_n 1, 1) := by decide +kernel
theorem d_11_2 : decode method_11_code 2 = .ok (.iload_n 2, 1) := by decide +kernel
theorem d_11_3 : decode method_11_code 3 = .ok (.iload_n 3, 1) := by decide +kernel
theorem d_11_4 : decode method_11_code 4 = .ok (.iload 4, 2) := by decide +kernel
theorem d_11_6 : decode method_11_code 6 = .ok (.invokevirtual 43, 3) := by decide +kernel
theorem w_1365 : (Cond.code ({ cls := "NumberHouse", name := "decimal", desc := "(IIII)V" } : MethodName) prog_1_method_11_code (7 : Nat) (none : Option ClassFile.FieldType)) ∈ q_tbl := q_of 1365 (by decide +kernel) (by decide +kernel)
theorem w_1362 : (Cond.methodLink "NumberHouseLaw" (43 : Nat) ({ cls := "NumberHouse", name := "decimal", desc := "(IIII)V" } : MethodName)) ∈ q_tbl := q_of 1362 (by decide +kernel) (by decide +kernel)
theorem w_1363 : (Cond.instanceMethod ({ cls := "NumberHouse", name := "decimal", desc := "(IIII)V" } : MethodName)) ∈ q_tbl := q_of 1363 (by decide +kernel) (by decide +kernel)
theorem w_1364 : (Cond.selects "NumberHouse" ({ cls := "NumberHouse", name := "decimal", desc := "(IIII)V" } : MethodName) ({ cls := "NumberHouse", name := "decimal", desc := "(IIII)V" } : MethodName)) ∈ q_tbl := q_of 1364 (by decide +kernel) (by decide +kernel)
theorem LV_NL_43 : q_LV "NumberHouseLaw" 43 y_NH_decimal prog_1_method_11_code 7 none 4 := ⟨w_1365, w_1, w_1362, w_1363, w_1364, ⟨by decide, by decide, by decide +kernel⟩⟩
theorem d_11_12 : decode method_11_code 12 = .ok (.astore 5, 2) := by decide +kernel
theorem d_11_14 : decode method_11_code 14 = .ok (.iconst 1, 1) := by decide +kernel
theorem d_11_15 : decode method_11_code 15 = .ok (.ireturn, 1) := by decide +kernel
theorem d_11_16 : decode method_11_code 16 = .ok (.astore 5, 2) := by decide +kernel
theorem d_11_18 : decode method_11_code 18 = .ok (.iconst 2, 1) := by decide +kernel
theorem d_11_19 : decode method_11_code 19 = .ok (.ireturn, 1) := by decide +kernel
theorem d_11_9 : decode method_11_code 9 = .ok (.goto 11, 3) := by decide +kernel
theorem d_11_20 : decode method_11_code 20 = .ok (.iconst 0, 1) := by decide +kernel
theorem d_11_21 : decode method_11_code 21 = .ok (.ireturn, 1) := by decide +kernel
def y_NL_decimal : MethodName := ⟨"NumberHouseLaw", "decimal", "(LNumberHouse;IIII)I"⟩
set_option maxRecDepth 100000 in
set_option maxHeartbeats 4000000 in
theorem c_NL_decimal (l : Launch) (D : va_G) (g : Nat → ClassId) (ws : va_W) (hlt : l.stackTraces = false) (q : Nat → Nat) (x1 : Int32) (x2 : Int32) (x3 : Int32) (x4 : Int32) (hfl : q_fl ws 0 (nh_w g q)) : ∀ sz, Met l y_NL_decimal (q_wW y_NL_decimal method_11_code 6 (some .int) [(0, 9, 12, 13), (0, 9, 16, 19)]) (q_rm 10 3 18) (q_P D g [.ref (q 0), .int x1, .int x2, .int x3, .int x4] ws sz) (va_Qi (fun k u => ((k.toInt = 0 ∧ (((0 ≤ x1.toInt ∧ x1.toInt ≤ 3) ∧ (0 ≤ x2.toInt ∧ x2.toInt ≤ 9) ∧ (0 ≤ x3.toInt ∧ x3.toInt ≤ 9) ∧ (0 ≤ x4.toInt ∧ x4.toInt ≤ 9)) ∧ ¬ (x1.toInt = 3))) ∨ (k.toInt = 1 ∧ (¬ ((0 ≤ x1.toInt ∧ x1.toInt ≤ 3) ∧ (0 ≤ x2.toInt ∧ x2.toInt ≤ 9) ∧ (0 ≤ x3.toInt ∧ x3.toInt ≤ 9) ∧ (0 ≤ x4.toInt ∧ x4.toInt ≤ 9)))) ∨ (k.toInt = 2 ∧ (((0 ≤ x1.toInt ∧ x1.toInt ≤ 3) ∧ (0 ≤ x2.toInt ∧ x2.toInt ≤ 9) ∧ (0 ≤ x3.toInt ∧ x3.toInt ≤ 9) ∧ (0 ≤ x4.toInt ∧ x4.toInt ≤ 9)) ∧ x1.toInt = 3))) ∧ q_ge 116 ws u) (q_B D g (va_A ws sz)) (va_A ws sz)) 3 18 (va_A ws sz) := by
  intro sz
  refine q_intoW (by decide) (Nat.le_of_ble_eq_true rfl) ?_
  intro p e s m below meth c ls hsz C0 V ht hl
  have hx := C0.1
  have hb := C0.2.1
  have hl : lv_has ls 6 [(0, .ref (q 0)), (1, .int x1), (2, .int x2), (3, .int x3), (4, .int x4)] := hl
  have hP0 : ws[0]? = (some (q 0, .inr (0, [.ref (q 1), .ref (q 3), .ref (q 5), .ref (q 6), .ref (q 7), .ref (q 8), .ref (q 9), .ref (q 30), .ref (q 34), .ref (q 35), .ref (q 36), .ref (q 38), .ref (q 39), .ref (q 40)])) : Option (Nat × va_E)) := q_fa (i := 0) hfl rfl
  have hP6 : ws[6]? = (some (q 6, .inl (g 5, 10, .inr (.inr (.inr (.inr (va_up (va_up (va_up (va_up (va_up (va_up (va_up (va_up (va_up (va_up (fun _ => none) 0 (some (q 68))) 1 (some (q 73))) 2 (some (q 78))) 3 (some (q 83))) 4 (some (q 88))) 5 (some (q 93))) 6 (some (q 98))) 7 (some (q 103))) 8 (some (q 108))) 9 (some (q 113)))))))) : Option (Nat × va_E)) := q_fa (i := 6) hfl rfl
  have hP9 : ws[9]? = (some (q 9, .inr (4, [.ref (q 10), .ref (q 12), .ref (q 14), .ref (q 16), .ref (q 18), .ref (q 20), .ref (q 22), .ref (q 24), .ref (q 26), .ref (q 28)])) : Option (Nat × va_E)) := q_fa (i := 9) hfl rfl
  have hP10 : ws[10]? = (some (q 10, .inr (2, [.ref (q 11), .int 0, .int 0])) : Option (Nat × va_E)) := q_fa (i := 10) hfl rfl
  have hP11 : ws[11]? = (some (q 11, .inl (g 0, 220, .inl (fun _ => 0))) : Option (Nat × va_E)) := q_fa (i := 11) hfl rfl
  have hP22 : ws[22]? = (some (q 22, .inr (2, [.ref (q 23), .int 0, .int 0])) : Option (Nat × va_E)) := q_fa (i := 22) hfl rfl
  have hP23 : ws[23]? = (some (q 23, .inl (g 0, 220, .inl (fun _ => 0))) : Option (Nat × va_E)) := q_fa (i := 23) hfl rfl
  have hP30 : ws[30]? = (some (q 30, .inr (5, [.ref (q 31), .long 0, .ref (q 9), .int 0])) : Option (Nat × va_E)) := q_fa (i := 30) hfl rfl
  refine lv_aload_n hx hb d_11_0 rfl (lv_at hl 0 rfl) ?_
  refine lv_iload_n hx hb d_11_1 rfl (lv_at hl 1 rfl) ?_
  refine lv_iload_n hx hb d_11_2 rfl (lv_at hl 2 rfl) ?_
  refine lv_iload_n hx hb d_11_3 rfl (lv_at hl 3 rfl) ?_
  refine lv_iload hx hb d_11_4 (lv_at hl 4 rfl) ?_
  refine q_goxv V (q_runVX (As := [.int x1, .int x2, .int x3, .int x4]) (rest := []) (d := 9) (mc := 3) (ms := 18) (ci := 0) C0 V rfl LV_NL_43 (c_NH_decimal l D g ws hlt (q 0) (q 1) (q 3) (q 5) (q 6) (q 7) (q 8) (q 9) (q 30) (q 34) (q 35) (q 36) (q 38) (q 39) (q 40) (q 10) (q 12) (q 14) (q 16) (q 18) (q 20) (q 22) (q 24) (q 26) (q 28) (q 31) (q 11) (q 23) x1 x2 x3 x4 (va_up (va_up (va_up (va_up (va_up (va_up (va_up (va_up (va_up (va_up (fun _ => none) 0 (some (q 68))) 1 (some (q 73))) 2 (some (q 78))) 3 (some (q 83))) 4 (some (q 88))) 5 (some (q 93))) 6 (some (q 98))) 7 (some (q 103))) 8 (some (q 108))) 9 (some (q 113))) hP0 hP6 hP9 hP30 hP10 hP22 hP11 hP23 (fun i => q (66 + 5 * i)) (fun i => q (67 + 5 * i)) (fun i => q (68 + 5 * i)) (fun i => q (69 + 5 * i)) (fun i => q (70 + 5 * i)) nh_hfD (nh_FD hfl) (nh_FDN hfl) (nh_FDL hfl) _) rfl rfl hP0 rfl hl.1 rfl (Nat.le_of_ble_eq_true rfl) ⟨by decide, by decide⟩ ⟨Nat.le_of_ble_eq_true rfl, Nat.le_of_ble_eq_true rfl⟩ d_11_6) (fun qx Ex ce u1 H locs hp V hce hcv hcl => ?_) (fun u1 H locs hp V => ?_)
  ·
    obtain ⟨hp, hF⟩ := hp
    rcases hp with ⟨rfl, hr⟩ | ⟨rfl, hr⟩
    ·
      refine q_catch hce hcv hcl (fun pl hpl => q_hY C0 V rfl ht ⟨by decide, by decide⟩ (by decide) w_486 wo_496 hcl pl hpl) ?_
      refine lv_astore (lv' := [(5, .ref qx), (0, .ref (q 0)), (1, .int x1), (2, .int x2), (3, .int x3), (4, .int x4)]) hx hb d_11_12 hl (by decide) rfl (fun ls hl => ?_)
      refine lv_iconst (v := 1) hx hb d_11_14 (by decide) ?_
      exact q_reti C0 V (⟨Or.inr (Or.inl ⟨(by decide), hr⟩), hF⟩) d_11_15
    ·
      refine q_catch hce hcv hcl (fun pl hpl => q_hN C0 rfl ht ⟨by decide, by decide⟩ (by decide) w_486 (V.2.2.2.2.1.2.1.2.2.1) hcl pl hpl (fun t ht2 => q_hY C0 V rfl ht2 ⟨by decide, by decide⟩ (by decide) w_570 wo_1069 hcl pl hpl)) ?_
      refine lv_astore (lv' := [(5, .ref qx), (0, .ref (q 0)), (1, .int x1), (2, .int x2), (3, .int x3), (4, .int x4)]) hx hb d_11_16 hl (by decide) rfl (fun ls hl => ?_)
      refine lv_iconst (v := 2) hx hb d_11_18 (by decide) ?_
      exact q_reti C0 V (⟨Or.inr (Or.inr (⟨(by decide), hr⟩)), hF⟩) d_11_19
  ·
    obtain ⟨hr, hF⟩ := hp
    refine lv_goto (tgt := 20) hx hb d_11_9 (by decide) ?_
    refine lv_iconst (v := 0) hx hb d_11_20 (by decide) ?_
    exact q_reti C0 V (⟨Or.inl ⟨(by decide), hr⟩, hF⟩) d_11_21
theorem d_12_0 : decode method_12_code 0 = .ok (.aload_n 0, 1) := by decide +kernel
theorem d_12_1 : decode method_12_code 1 = .ok (.iload_n 1, 1) := by decide +kernel
theorem d_12_2 : decode method_12_code 2 = .ok (.iload_n 2, 1) := by decide +kernel
theorem d_12_3 : decode method_12_code 3 = .ok (.iload_n 3, 1) := by decide +kernel
theorem d_12_4 : decode method_12_code 4 = .ok (.iload 4, 2) := by decide +kernel
theorem d_12_6 : decode method_12_code 6 = .ok (.invokevirtual 46, 3) := by decide +kernel
theorem w_1401 : (Cond.code ({ cls := "NumberHouse", name := "decimalBy", desc := "(IIII)V" } : MethodName) prog_1_method_12_code (5 : Nat) (none : Option ClassFile.FieldType)) ∈ q_tbl := q_of 1401 (by decide +kernel) (by decide +kernel)
theorem w_1398 : (Cond.methodLink "NumberHouseLaw" (46 : Nat) ({ cls := "NumberHouse", name := "decimalBy", desc := "(IIII)V" } : MethodName)) ∈ q_tbl := q_of 1398 (by decide +kernel) (by decide +kernel)
theorem w_1399 : (Cond.instanceMethod ({ cls := "NumberHouse", name := "decimalBy", desc := "(IIII)V" } : MethodName)) ∈ q_tbl := q_of 1399 (by decide +kernel) (by decide +kernel)
theorem w_1400 : (Cond.selects "NumberHouse" ({ cls := "NumberHouse", name := "decimalBy", desc := "(IIII)V" } : MethodName) ({ cls := "NumberHouse", name := "decimalBy", desc := "(IIII)V" } : MethodName)) ∈ q_tbl := q_of 1400 (by decide +kernel) (by decide +kernel)
theorem LV_NL_46 : q_LV "NumberHouseLaw" 46 y_NH_decimalBy prog_1_method_12_code 5 none 4 := ⟨w_1401, w_1, w_1398, w_1399, w_1400, ⟨by decide, by decide, by decide +kernel⟩⟩
theorem d_12_12 : decode method_12_code 12 = .ok (.astore 5, 2) := by decide +kernel
theorem d_12_14 : decode method_12_code 14 = .ok (.iconst 1, 1) := by decide +kernel
theorem d_12_15 : decode method_12_code 15 = .ok (.ireturn, 1) := by decide +kernel
theorem d_12_16 : decode method_12_code 16 = .ok (.astore 5, 2) := by decide +kernel
theorem d_12_18 : decode method_12_code 18 = .ok (.iconst 2, 1) := by decide +kernel
theorem d_12_19 : decode method_12_code 19 = .ok (.ireturn, 1) := by decide +kernel
theorem d_12_9 : decode method_12_code 9 = .ok (.goto 11, 3) := by decide +kernel
theorem d_12_20 : decode method_12_code 20 = .ok (.iconst 0, 1) := by decide +kernel
theorem d_12_21 : decode method_12_code 21 = .ok (.ireturn, 1) := by decide +kernel
def y_NL_decimalBy : MethodName := ⟨"NumberHouseLaw", "decimalBy", "(LNumberHouse;IIII)I"⟩
set_option maxRecDepth 100000 in
set_option maxHeartbeats 4000000 in
theorem c_NL_decimalBy (l : Launch) (D : va_G) (g : Nat → ClassId) (ws : va_W) (hlt : l.stackTraces = false) (q : Nat → Nat) (x1 : Int32) (x2 : Int32) (x3 : Int32) (x4 : Int32) (hfl : q_fl ws 0 (nh_w g q)) : ∀ sz, Met l y_NL_decimalBy (q_wW y_NL_decimalBy method_12_code 6 (some .int) [(0, 9, 12, 13), (0, 9, 16, 19)]) (q_rm 10 4 24) (q_P D g [.ref (q 0), .int x1, .int x2, .int x3, .int x4] ws sz) (va_Qi (fun k u => ((k.toInt = 0 ∧ (((0 ≤ x1.toInt ∧ x1.toInt ≤ 2) ∧ (0 ≤ x2.toInt ∧ x2.toInt ≤ 9) ∧ (0 ≤ x4.toInt ∧ x4.toInt ≤ 9) ∧ (x1.toInt = 0 → (0 ≤ x3.toInt ∧ x3.toInt ≤ 999))) ∧ ¬ ((x1.toInt = 1 ∧ ¬ (-10000 ≤ x3.toInt ∧ x3.toInt ≤ 10000))))) ∨ (k.toInt = 1 ∧ (¬ ((0 ≤ x1.toInt ∧ x1.toInt ≤ 2) ∧ (0 ≤ x2.toInt ∧ x2.toInt ≤ 9) ∧ (0 ≤ x4.toInt ∧ x4.toInt ≤ 9) ∧ (x1.toInt = 0 → (0 ≤ x3.toInt ∧ x3.toInt ≤ 999))))) ∨ (k.toInt = 2 ∧ (((0 ≤ x1.toInt ∧ x1.toInt ≤ 2) ∧ (0 ≤ x2.toInt ∧ x2.toInt ≤ 9) ∧ (0 ≤ x4.toInt ∧ x4.toInt ≤ 9) ∧ (x1.toInt = 0 → (0 ≤ x3.toInt ∧ x3.toInt ≤ 999))) ∧ (x1.toInt = 1 ∧ ¬ (-10000 ≤ x3.toInt ∧ x3.toInt ≤ 10000))))) ∧ q_ge 116 ws u) (q_B D g (va_A ws sz)) (va_A ws sz)) 4 24 (va_A ws sz) := by
  intro sz
  refine q_intoW (by decide) (Nat.le_of_ble_eq_true rfl) ?_
  intro p e s m below meth c ls hsz C0 V ht hl
  have hx := C0.1
  have hb := C0.2.1
  have hl : lv_has ls 6 [(0, .ref (q 0)), (1, .int x1), (2, .int x2), (3, .int x3), (4, .int x4)] := hl
  have hP0 : ws[0]? = (some (q 0, .inr (0, [.ref (q 1), .ref (q 3), .ref (q 5), .ref (q 6), .ref (q 7), .ref (q 8), .ref (q 9), .ref (q 30), .ref (q 34), .ref (q 35), .ref (q 36), .ref (q 38), .ref (q 39), .ref (q 40)])) : Option (Nat × va_E)) := q_fa (i := 0) hfl rfl
  have hP6 : ws[6]? = (some (q 6, .inl (g 5, 10, .inr (.inr (.inr (.inr (va_up (va_up (va_up (va_up (va_up (va_up (va_up (va_up (va_up (va_up (fun _ => none) 0 (some (q 68))) 1 (some (q 73))) 2 (some (q 78))) 3 (some (q 83))) 4 (some (q 88))) 5 (some (q 93))) 6 (some (q 98))) 7 (some (q 103))) 8 (some (q 108))) 9 (some (q 113)))))))) : Option (Nat × va_E)) := q_fa (i := 6) hfl rfl
  have hP9 : ws[9]? = (some (q 9, .inr (4, [.ref (q 10), .ref (q 12), .ref (q 14), .ref (q 16), .ref (q 18), .ref (q 20), .ref (q 22), .ref (q 24), .ref (q 26), .ref (q 28)])) : Option (Nat × va_E)) := q_fa (i := 9) hfl rfl
  have hP10 : ws[10]? = (some (q 10, .inr (2, [.ref (q 11), .int 0, .int 0])) : Option (Nat × va_E)) := q_fa (i := 10) hfl rfl
  have hP11 : ws[11]? = (some (q 11, .inl (g 0, 220, .inl (fun _ => 0))) : Option (Nat × va_E)) := q_fa (i := 11) hfl rfl
  have hP14 : ws[14]? = (some (q 14, .inr (2, [.ref (q 15), .int 0, .int 0])) : Option (Nat × va_E)) := q_fa (i := 14) hfl rfl
  have hP15 : ws[15]? = (some (q 15, .inl (g 0, 220, .inl (fun _ => 0))) : Option (Nat × va_E)) := q_fa (i := 15) hfl rfl
  have hP18 : ws[18]? = (some (q 18, .inr (2, [.ref (q 19), .int 0, .int 0])) : Option (Nat × va_E)) := q_fa (i := 18) hfl rfl
  have hP19 : ws[19]? = (some (q 19, .inl (g 0, 220, .inl (fun _ => 0))) : Option (Nat × va_E)) := q_fa (i := 19) hfl rfl
  have hP20 : ws[20]? = (some (q 20, .inr (2, [.ref (q 21), .int 0, .int 0])) : Option (Nat × va_E)) := q_fa (i := 20) hfl rfl
  have hP21 : ws[21]? = (some (q 21, .inl (g 0, 220, .inl (fun _ => 0))) : Option (Nat × va_E)) := q_fa (i := 21) hfl rfl
  have hP30 : ws[30]? = (some (q 30, .inr (5, [.ref (q 31), .long 0, .ref (q 9), .int 0])) : Option (Nat × va_E)) := q_fa (i := 30) hfl rfl
  refine lv_aload_n hx hb d_12_0 rfl (lv_at hl 0 rfl) ?_
  refine lv_iload_n hx hb d_12_1 rfl (lv_at hl 1 rfl) ?_
  refine lv_iload_n hx hb d_12_2 rfl (lv_at hl 2 rfl) ?_
  refine lv_iload_n hx hb d_12_3 rfl (lv_at hl 3 rfl) ?_
  refine lv_iload hx hb d_12_4 (lv_at hl 4 rfl) ?_
  refine q_goxv V (q_runVX (As := [.int x1, .int x2, .int x3, .int x4]) (rest := []) (d := 9) (mc := 4) (ms := 24) (ci := 0) C0 V rfl LV_NL_46 (c_NH_decimalBy l D g ws hlt (q 0) (q 1) (q 3) (q 5) (q 6) (q 7) (q 8) (q 9) (q 30) (q 34) (q 35) (q 36) (q 38) (q 39) (q 40) (q 10) (q 12) (q 14) (q 16) (q 18) (q 20) (q 22) (q 24) (q 26) (q 28) (q 31) (q 11) (q 15) (q 19) (q 21) x1 x2 x3 x4 (va_up (va_up (va_up (va_up (va_up (va_up (va_up (va_up (va_up (va_up (fun _ => none) 0 (some (q 68))) 1 (some (q 73))) 2 (some (q 78))) 3 (some (q 83))) 4 (some (q 88))) 5 (some (q 93))) 6 (some (q 98))) 7 (some (q 103))) 8 (some (q 108))) 9 (some (q 113))) hP0 hP6 hP9 hP30 hP10 hP14 hP18 hP20 hP11 hP15 hP19 hP21 (fun i => q (66 + 5 * i)) (fun i => q (67 + 5 * i)) (fun i => q (68 + 5 * i)) (fun i => q (69 + 5 * i)) (fun i => q (70 + 5 * i)) nh_hfD (nh_FD hfl) (nh_FDN hfl) (nh_FDL hfl) _) rfl rfl hP0 rfl hl.1 rfl (Nat.le_of_ble_eq_true rfl) ⟨by decide, by decide⟩ ⟨Nat.le_of_ble_eq_true rfl, Nat.le_of_ble_eq_true rfl⟩ d_12_6) (fun qx Ex ce u1 H locs hp V hce hcv hcl => ?_) (fun u1 H locs hp V => ?_)
  ·
    obtain ⟨hp, hF⟩ := hp
    rcases hp with ⟨rfl, hr⟩ | ⟨rfl, hr⟩
    ·
      refine q_catch hce hcv hcl (fun pl hpl => q_hY C0 V rfl ht ⟨by decide, by decide⟩ (by decide) w_486 wo_496 hcl pl hpl) ?_
      refine lv_astore (lv' := [(5, .ref qx), (0, .ref (q 0)), (1, .int x1), (2, .int x2), (3, .int x3), (4, .int x4)]) hx hb d_12_12 hl (by decide) rfl (fun ls hl => ?_)
      refine lv_iconst (v := 1) hx hb d_12_14 (by decide) ?_
      exact q_reti C0 V (⟨Or.inr (Or.inl ⟨(by decide), hr⟩), hF⟩) d_12_15
    ·
      refine q_catch hce hcv hcl (fun pl hpl => q_hN C0 rfl ht ⟨by decide, by decide⟩ (by decide) w_486 (V.2.2.2.2.1.2.1.2.2.1) hcl pl hpl (fun t ht2 => q_hY C0 V rfl ht2 ⟨by decide, by decide⟩ (by decide) w_570 wo_1069 hcl pl hpl)) ?_
      refine lv_astore (lv' := [(5, .ref qx), (0, .ref (q 0)), (1, .int x1), (2, .int x2), (3, .int x3), (4, .int x4)]) hx hb d_12_16 hl (by decide) rfl (fun ls hl => ?_)
      refine lv_iconst (v := 2) hx hb d_12_18 (by decide) ?_
      exact q_reti C0 V (⟨Or.inr (Or.inr (⟨(by decide), hr⟩)), hF⟩) d_12_19
  ·
    obtain ⟨hr, hF⟩ := hp
    refine lv_goto (tgt := 20) hx hb d_12_9 (by decide) ?_
    refine lv_iconst (v := 0) hx hb d_12_20 (by decide) ?_
    exact q_reti C0 V (⟨Or.inl ⟨(by decide), hr⟩, hF⟩) d_12_21
theorem d_13_0 : decode method_13_code 0 = .ok (.aload_n 0, 1) := by decide +kernel
theorem d_13_1 : decode method_13_code 1 = .ok (.iload_n 1, 1) := by decide +kernel
theorem d_13_2 : decode method_13_code 2 = .ok (.iload_n 2, 1) := by decide +kernel
theorem d_13_3 : decode method_13_code 3 = .ok (.iload_n 3, 1) := by decide +kernel
theorem d_13_4 : decode method_13_code 4 = .ok (.iload 4, 2) := by decide +kernel
theorem d_13_6 : decode method_13_code 6 = .ok (.iload 5, 2) := by decide +kernel
theorem d_13_8 : decode method_13_code 8 = .ok (.invokevirtual 49, 3) := by decide +kernel
theorem w_1427 : (Cond.code ({ cls := "NumberHouse", name := "divide", desc := "(IIIII)V" } : MethodName) prog_1_method_13_code (6 : Nat) (none : Option ClassFile.FieldType)) ∈ q_tbl := q_of 1427 (by decide +kernel) (by decide +kernel)
theorem w_1424 : (Cond.methodLink "NumberHouseLaw" (49 : Nat) ({ cls := "NumberHouse", name := "divide", desc := "(IIIII)V" } : MethodName)) ∈ q_tbl := q_of 1424 (by decide +kernel) (by decide +kernel)
theorem w_1425 : (Cond.instanceMethod ({ cls := "NumberHouse", name := "divide", desc := "(IIIII)V" } : MethodName)) ∈ q_tbl := q_of 1425 (by decide +kernel) (by decide +kernel)
theorem w_1426 : (Cond.selects "NumberHouse" ({ cls := "NumberHouse", name := "divide", desc := "(IIIII)V" } : MethodName) ({ cls := "NumberHouse", name := "divide", desc := "(IIIII)V" } : MethodName)) ∈ q_tbl := q_of 1426 (by decide +kernel) (by decide +kernel)
theorem LV_NL_49 : q_LV "NumberHouseLaw" 49 y_NH_divide prog_1_method_13_code 6 none 5 := ⟨w_1427, w_1, w_1424, w_1425, w_1426, ⟨by decide, by decide, by decide +kernel⟩⟩
theorem d_13_14 : decode method_13_code 14 = .ok (.astore 6, 2) := by decide +kernel
theorem d_13_16 : decode method_13_code 16 = .ok (.iconst 1, 1) := by decide +kernel
theorem d_13_17 : decode method_13_code 17 = .ok (.ireturn, 1) := by decide +kernel
theorem d_13_18 : decode method_13_code 18 = .ok (.astore 6, 2) := by decide +kernel
theorem d_13_20 : decode method_13_code 20 = .ok (.iconst 2, 1) := by decide +kernel
theorem d_13_21 : decode method_13_code 21 = .ok (.ireturn, 1) := by decide +kernel
theorem d_13_11 : decode method_13_code 11 = .ok (.goto 11, 3) := by decide +kernel
theorem d_13_22 : decode method_13_code 22 = .ok (.iconst 0, 1) := by decide +kernel
theorem d_13_23 : decode method_13_code 23 = .ok (.ireturn, 1) := by decide +kernel
def y_NL_divide : MethodName := ⟨"NumberHouseLaw", "divide", "(LNumberHouse;IIIII)I"⟩
set_option maxRecDepth 100000 in
set_option maxHeartbeats 4000000 in
theorem c_NL_divide (l : Launch) (D : va_G) (g : Nat → ClassId) (ws : va_W) (hlt : l.stackTraces = false) (q : Nat → Nat) (x1 : Int32) (x2 : Int32) (x3 : Int32) (x4 : Int32) (x5 : Int32) (hfl : q_fl ws 0 (nh_w g q)) : ∀ sz, Met l y_NL_divide (q_wW y_NL_divide method_13_code 7 (some .int) [(0, 11, 14, 13), (0, 11, 18, 19)]) (q_rm 9 2 12) (q_P D g [.ref (q 0), .int x1, .int x2, .int x3, .int x4, .int x5] ws sz) (va_Qi (fun k u => ((k.toInt = 0 ∧ (((0 ≤ x1.toInt ∧ x1.toInt ≤ 9) ∧ (0 ≤ x2.toInt ∧ x2.toInt ≤ 9) ∧ (0 ≤ x3.toInt ∧ x3.toInt ≤ 9) ∧ ((-10000) ≤ x4.toInt ∧ x4.toInt ≤ 10000) ∧ (0 ≤ x5.toInt ∧ x5.toInt ≤ 7)) ∧ ¬ (0 ≤ x1.toInt))) ∨ (k.toInt = 1 ∧ (¬ ((0 ≤ x1.toInt ∧ x1.toInt ≤ 9) ∧ (0 ≤ x2.toInt ∧ x2.toInt ≤ 9) ∧ (0 ≤ x3.toInt ∧ x3.toInt ≤ 9) ∧ ((-10000) ≤ x4.toInt ∧ x4.toInt ≤ 10000) ∧ (0 ≤ x5.toInt ∧ x5.toInt ≤ 7)))) ∨ (k.toInt = 2 ∧ (((0 ≤ x1.toInt ∧ x1.toInt ≤ 9) ∧ (0 ≤ x2.toInt ∧ x2.toInt ≤ 9) ∧ (0 ≤ x3.toInt ∧ x3.toInt ≤ 9) ∧ ((-10000) ≤ x4.toInt ∧ x4.toInt ≤ 10000) ∧ (0 ≤ x5.toInt ∧ x5.toInt ≤ 7)) ∧ 0 ≤ x1.toInt))) ∧ q_ge 116 ws u) (q_B D g (va_A ws sz)) (va_A ws sz)) 2 12 (va_A ws sz) := by
  intro sz
  refine q_intoW (by decide) (Nat.le_of_ble_eq_true rfl) ?_
  intro p e s m below meth c ls hsz C0 V ht hl
  have hx := C0.1
  have hb := C0.2.1
  have hl : lv_has ls 7 [(0, .ref (q 0)), (1, .int x1), (2, .int x2), (3, .int x3), (4, .int x4), (5, .int x5)] := hl
  have hP0 : ws[0]? = (some (q 0, .inr (0, [.ref (q 1), .ref (q 3), .ref (q 5), .ref (q 6), .ref (q 7), .ref (q 8), .ref (q 9), .ref (q 30), .ref (q 34), .ref (q 35), .ref (q 36), .ref (q 38), .ref (q 39), .ref (q 40)])) : Option (Nat × va_E)) := q_fa (i := 0) hfl rfl
  have hP6 : ws[6]? = (some (q 6, .inl (g 5, 10, .inr (.inr (.inr (.inr (va_up (va_up (va_up (va_up (va_up (va_up (va_up (va_up (va_up (va_up (fun _ => none) 0 (some (q 68))) 1 (some (q 73))) 2 (some (q 78))) 3 (some (q 83))) 4 (some (q 88))) 5 (some (q 93))) 6 (some (q 98))) 7 (some (q 103))) 8 (some (q 108))) 9 (some (q 113)))))))) : Option (Nat × va_E)) := q_fa (i := 6) hfl rfl
  refine lv_aload_n hx hb d_13_0 rfl (lv_at hl 0 rfl) ?_
  refine lv_iload_n hx hb d_13_1 rfl (lv_at hl 1 rfl) ?_
  refine lv_iload_n hx hb d_13_2 rfl (lv_at hl 2 rfl) ?_
  refine lv_iload_n hx hb d_13_3 rfl (lv_at hl 3 rfl) ?_
  refine lv_iload hx hb d_13_4 (lv_at hl 4 rfl) ?_
  refine lv_iload hx hb d_13_6 (lv_at hl 5 rfl) ?_
  refine q_goxv V (q_runVX (As := [.int x1, .int x2, .int x3, .int x4, .int x5]) (rest := []) (d := 8) (mc := 2) (ms := 12) (ci := 0) C0 V rfl LV_NL_49 (c_NH_divide l D g ws hlt (q 0) (q 1) (q 3) (q 5) (q 6) (q 7) (q 8) (q 9) (q 30) (q 34) (q 35) (q 36) (q 38) (q 39) (q 40) x1 x2 x3 x4 x5 (va_up (va_up (va_up (va_up (va_up (va_up (va_up (va_up (va_up (va_up (fun _ => none) 0 (some (q 68))) 1 (some (q 73))) 2 (some (q 78))) 3 (some (q 83))) 4 (some (q 88))) 5 (some (q 93))) 6 (some (q 98))) 7 (some (q 103))) 8 (some (q 108))) 9 (some (q 113))) hP0 hP6 (fun i => q (66 + 5 * i)) (fun i => q (67 + 5 * i)) (fun i => q (68 + 5 * i)) (fun i => q (69 + 5 * i)) (fun i => q (70 + 5 * i)) nh_hfD (nh_FD hfl) (nh_FDN hfl) (nh_FDL hfl) _) rfl rfl hP0 rfl hl.1 rfl (Nat.le_of_ble_eq_true rfl) ⟨by decide, by decide⟩ ⟨Nat.le_of_ble_eq_true rfl, Nat.le_of_ble_eq_true rfl⟩ d_13_8) (fun qx Ex ce u1 H locs hp V hce hcv hcl => ?_) (fun u1 H locs hp V => ?_)
  ·
    obtain ⟨hp, hF⟩ := hp
    rcases hp with ⟨rfl, hr⟩ | ⟨rfl, hr⟩
    ·
      refine q_catch hce hcv hcl (fun pl hpl => q_hY C0 V rfl ht ⟨by decide, by decide⟩ (by decide) w_486 wo_496 hcl pl hpl) ?_
      refine lv_astore (lv' := [(6, .ref qx), (0, .ref (q 0)), (1, .int x1), (2, .int x2), (3, .int x3), (4, .int x4), (5, .int x5)]) hx hb d_13_14 hl (by decide) rfl (fun ls hl => ?_)
      refine lv_iconst (v := 1) hx hb d_13_16 (by decide) ?_
      exact q_reti C0 V (⟨Or.inr (Or.inl ⟨(by decide), hr⟩), hF⟩) d_13_17
    ·
      refine q_catch hce hcv hcl (fun pl hpl => q_hN C0 rfl ht ⟨by decide, by decide⟩ (by decide) w_486 (V.2.2.2.2.1.2.1.2.2.1) hcl pl hpl (fun t ht2 => q_hY C0 V rfl ht2 ⟨by decide, by decide⟩ (by decide) w_570 wo_1069 hcl pl hpl)) ?_
      refine lv_astore (lv' := [(6, .ref qx), (0, .ref (q 0)), (1, .int x1), (2, .int x2), (3, .int x3), (4, .int x4), (5, .int x5)]) hx hb d_13_18 hl (by decide) rfl (fun ls hl => ?_)
      refine lv_iconst (v := 2) hx hb d_13_20 (by decide) ?_
      exact q_reti C0 V (⟨Or.inr (Or.inr (⟨(by decide), hr⟩)), hF⟩) d_13_21
  ·
    obtain ⟨hr, hF⟩ := hp
    refine lv_goto (tgt := 22) hx hb d_13_11 (by decide) ?_
    refine lv_iconst (v := 0) hx hb d_13_22 (by decide) ?_
    exact q_reti C0 V (⟨Or.inl ⟨(by decide), hr⟩, hF⟩) d_13_23
theorem d_14_0 : decode method_14_code 0 = .ok (.aload_n 0, 1) := by decide +kernel
theorem d_14_1 : decode method_14_code 1 = .ok (.iload_n 1, 1) := by decide +kernel
theorem d_14_2 : decode method_14_code 2 = .ok (.iload_n 2, 1) := by decide +kernel
theorem d_14_3 : decode method_14_code 3 = .ok (.iload_n 3, 1) := by decide +kernel
theorem d_14_4 : decode method_14_code 4 = .ok (.iload 4, 2) := by decide +kernel
theorem d_14_6 : decode method_14_code 6 = .ok (.iload 5, 2) := by decide +kernel
theorem d_14_8 : decode method_14_code 8 = .ok (.invokevirtual 53, 3) := by decide +kernel
theorem w_1464 : (Cond.code ({ cls := "NumberHouse", name := "quotient", desc := "(IIIII)V" } : MethodName) prog_1_method_14_code (6 : Nat) (none : Option ClassFile.FieldType)) ∈ q_tbl := q_of 1464 (by decide +kernel) (by decide +kernel)
theorem w_1461 : (Cond.methodLink "NumberHouseLaw" (53 : Nat) ({ cls := "NumberHouse", name := "quotient", desc := "(IIIII)V" } : MethodName)) ∈ q_tbl := q_of 1461 (by decide +kernel) (by decide +kernel)
theorem w_1462 : (Cond.instanceMethod ({ cls := "NumberHouse", name := "quotient", desc := "(IIIII)V" } : MethodName)) ∈ q_tbl := q_of 1462 (by decide +kernel) (by decide +kernel)
theorem w_1463 : (Cond.selects "NumberHouse" ({ cls := "NumberHouse", name := "quotient", desc := "(IIIII)V" } : MethodName) ({ cls := "NumberHouse", name := "quotient", desc := "(IIIII)V" } : MethodName)) ∈ q_tbl := q_of 1463 (by decide +kernel) (by decide +kernel)
theorem LV_NL_53 : q_LV "NumberHouseLaw" 53 y_NH_quotient prog_1_method_14_code 6 none 5 := ⟨w_1464, w_1, w_1461, w_1462, w_1463, ⟨by decide, by decide, by decide +kernel⟩⟩
theorem d_14_14 : decode method_14_code 14 = .ok (.astore 6, 2) := by decide +kernel
theorem d_14_16 : decode method_14_code 16 = .ok (.iconst 1, 1) := by decide +kernel
theorem d_14_17 : decode method_14_code 17 = .ok (.ireturn, 1) := by decide +kernel
theorem d_14_18 : decode method_14_code 18 = .ok (.astore 6, 2) := by decide +kernel
theorem d_14_20 : decode method_14_code 20 = .ok (.iconst 2, 1) := by decide +kernel
theorem d_14_21 : decode method_14_code 21 = .ok (.ireturn, 1) := by decide +kernel
theorem d_14_11 : decode method_14_code 11 = .ok (.goto 11, 3) := by decide +kernel
theorem d_14_22 : decode method_14_code 22 = .ok (.iconst 0, 1) := by decide +kernel
theorem d_14_23 : decode method_14_code 23 = .ok (.ireturn, 1) := by decide +kernel
def y_NL_quotient : MethodName := ⟨"NumberHouseLaw", "quotient", "(LNumberHouse;IIIII)I"⟩
set_option maxRecDepth 100000 in
set_option maxHeartbeats 4000000 in
theorem c_NL_quotient (l : Launch) (D : va_G) (g : Nat → ClassId) (ws : va_W) (hlt : l.stackTraces = false) (q : Nat → Nat) (x1 : Int32) (x2 : Int32) (x3 : Int32) (x4 : Int32) (x5 : Int32) (hfl : q_fl ws 0 (nh_w g q)) : ∀ sz, Met l y_NL_quotient (q_wW y_NL_quotient method_14_code 7 (some .int) [(0, 11, 14, 13), (0, 11, 18, 19)]) (q_rm 9 3 18) (q_P D g [.ref (q 0), .int x1, .int x2, .int x3, .int x4, .int x5] ws sz) (va_Qi (fun k u => ((k.toInt = 0 ∧ (((0 ≤ x1.toInt ∧ x1.toInt ≤ 9) ∧ (0 ≤ x2.toInt ∧ x2.toInt ≤ 9) ∧ (0 ≤ x3.toInt ∧ x3.toInt ≤ 9) ∧ (0 ≤ x4.toInt ∧ x4.toInt ≤ 1000) ∧ (0 ≤ x5.toInt ∧ x5.toInt ≤ 7)) ∧ ¬ (0 ≤ x1.toInt))) ∨ (k.toInt = 1 ∧ (¬ ((0 ≤ x1.toInt ∧ x1.toInt ≤ 9) ∧ (0 ≤ x2.toInt ∧ x2.toInt ≤ 9) ∧ (0 ≤ x3.toInt ∧ x3.toInt ≤ 9) ∧ (0 ≤ x4.toInt ∧ x4.toInt ≤ 1000) ∧ (0 ≤ x5.toInt ∧ x5.toInt ≤ 7)))) ∨ (k.toInt = 2 ∧ (((0 ≤ x1.toInt ∧ x1.toInt ≤ 9) ∧ (0 ≤ x2.toInt ∧ x2.toInt ≤ 9) ∧ (0 ≤ x3.toInt ∧ x3.toInt ≤ 9) ∧ (0 ≤ x4.toInt ∧ x4.toInt ≤ 1000) ∧ (0 ≤ x5.toInt ∧ x5.toInt ≤ 7)) ∧ 0 ≤ x1.toInt))) ∧ q_ge 116 ws u) (q_B D g (va_A ws sz)) (va_A ws sz)) 3 18 (va_A ws sz) := by
  intro sz
  refine q_intoW (by decide) (Nat.le_of_ble_eq_true rfl) ?_
  intro p e s m below meth c ls hsz C0 V ht hl
  have hx := C0.1
  have hb := C0.2.1
  have hl : lv_has ls 7 [(0, .ref (q 0)), (1, .int x1), (2, .int x2), (3, .int x3), (4, .int x4), (5, .int x5)] := hl
  have hP0 : ws[0]? = (some (q 0, .inr (0, [.ref (q 1), .ref (q 3), .ref (q 5), .ref (q 6), .ref (q 7), .ref (q 8), .ref (q 9), .ref (q 30), .ref (q 34), .ref (q 35), .ref (q 36), .ref (q 38), .ref (q 39), .ref (q 40)])) : Option (Nat × va_E)) := q_fa (i := 0) hfl rfl
  have hP6 : ws[6]? = (some (q 6, .inl (g 5, 10, .inr (.inr (.inr (.inr (va_up (va_up (va_up (va_up (va_up (va_up (va_up (va_up (va_up (va_up (fun _ => none) 0 (some (q 68))) 1 (some (q 73))) 2 (some (q 78))) 3 (some (q 83))) 4 (some (q 88))) 5 (some (q 93))) 6 (some (q 98))) 7 (some (q 103))) 8 (some (q 108))) 9 (some (q 113)))))))) : Option (Nat × va_E)) := q_fa (i := 6) hfl rfl
  refine lv_aload_n hx hb d_14_0 rfl (lv_at hl 0 rfl) ?_
  refine lv_iload_n hx hb d_14_1 rfl (lv_at hl 1 rfl) ?_
  refine lv_iload_n hx hb d_14_2 rfl (lv_at hl 2 rfl) ?_
  refine lv_iload_n hx hb d_14_3 rfl (lv_at hl 3 rfl) ?_
  refine lv_iload hx hb d_14_4 (lv_at hl 4 rfl) ?_
  refine lv_iload hx hb d_14_6 (lv_at hl 5 rfl) ?_
  refine q_goxv V (q_runVX (As := [.int x1, .int x2, .int x3, .int x4, .int x5]) (rest := []) (d := 8) (mc := 3) (ms := 18) (ci := 0) C0 V rfl LV_NL_53 (c_NH_quotient l D g ws hlt (q 0) (q 1) (q 3) (q 5) (q 6) (q 7) (q 8) (q 9) (q 30) (q 34) (q 35) (q 36) (q 38) (q 39) (q 40) x1 x2 x3 x4 x5 (va_up (va_up (va_up (va_up (va_up (va_up (va_up (va_up (va_up (va_up (fun _ => none) 0 (some (q 68))) 1 (some (q 73))) 2 (some (q 78))) 3 (some (q 83))) 4 (some (q 88))) 5 (some (q 93))) 6 (some (q 98))) 7 (some (q 103))) 8 (some (q 108))) 9 (some (q 113))) hP0 hP6 (fun i => q (66 + 5 * i)) (fun i => q (67 + 5 * i)) (fun i => q (68 + 5 * i)) (fun i => q (69 + 5 * i)) (fun i => q (70 + 5 * i)) nh_hfD (nh_FD hfl) (nh_FDN hfl) (nh_FDL hfl) _) rfl rfl hP0 rfl hl.1 rfl (Nat.le_of_ble_eq_true rfl) ⟨by decide, by decide⟩ ⟨Nat.le_of_ble_eq_true rfl, Nat.le_of_ble_eq_true rfl⟩ d_14_8) (fun qx Ex ce u1 H locs hp V hce hcv hcl => ?_) (fun u1 H locs hp V => ?_)
  ·
    obtain ⟨hp, hF⟩ := hp
    rcases hp with ⟨rfl, hr⟩ | ⟨rfl, hr⟩
    ·
      refine q_catch hce hcv hcl (fun pl hpl => q_hY C0 V rfl ht ⟨by decide, by decide⟩ (by decide) w_486 wo_496 hcl pl hpl) ?_
      refine lv_astore (lv' := [(6, .ref qx), (0, .ref (q 0)), (1, .int x1), (2, .int x2), (3, .int x3), (4, .int x4), (5, .int x5)]) hx hb d_14_14 hl (by decide) rfl (fun ls hl => ?_)
      refine lv_iconst (v := 1) hx hb d_14_16 (by decide) ?_
      exact q_reti C0 V (⟨Or.inr (Or.inl ⟨(by decide), hr⟩), hF⟩) d_14_17
    ·
      refine q_catch hce hcv hcl (fun pl hpl => q_hN C0 rfl ht ⟨by decide, by decide⟩ (by decide) w_486 (V.2.2.2.2.1.2.1.2.2.1) hcl pl hpl (fun t ht2 => q_hY C0 V rfl ht2 ⟨by decide, by decide⟩ (by decide) w_570 wo_1069 hcl pl hpl)) ?_
      refine lv_astore (lv' := [(6, .ref qx), (0, .ref (q 0)), (1, .int x1), (2, .int x2), (3, .int x3), (4, .int x4), (5, .int x5)]) hx hb d_14_18 hl (by decide) rfl (fun ls hl => ?_)
      refine lv_iconst (v := 2) hx hb d_14_20 (by decide) ?_
      exact q_reti C0 V (⟨Or.inr (Or.inr (⟨(by decide), hr⟩)), hF⟩) d_14_21
  ·
    obtain ⟨hr, hF⟩ := hp
    refine lv_goto (tgt := 22) hx hb d_14_11 (by decide) ?_
    refine lv_iconst (v := 0) hx hb d_14_22 (by decide) ?_
    exact q_reti C0 V (⟨Or.inl ⟨(by decide), hr⟩, hF⟩) d_14_23
theorem d_15_0 : decode method_15_code 0 = .ok (.aload_n 0, 1) := by decide +kernel
theorem d_15_1 : decode method_15_code 1 = .ok (.iload_n 1, 1) := by decide +kernel
theorem d_15_2 : decode method_15_code 2 = .ok (.iload_n 2, 1) := by decide +kernel
theorem d_15_3 : decode method_15_code 3 = .ok (.iload_n 3, 1) := by decide +kernel
theorem d_15_4 : decode method_15_code 4 = .ok (.iload 4, 2) := by decide +kernel
theorem d_15_6 : decode method_15_code 6 = .ok (.iload 5, 2) := by decide +kernel
theorem d_15_8 : decode method_15_code 8 = .ok (.invokevirtual 56, 3) := by decide +kernel
theorem w_1479 : (Cond.code ({ cls := "NumberHouse", name := "shape", desc := "(IIIII)V" } : MethodName) prog_1_method_15_code (7 : Nat) (none : Option ClassFile.FieldType)) ∈ q_tbl := q_of 1479 (by decide +kernel) (by decide +kernel)
theorem w_1476 : (Cond.methodLink "NumberHouseLaw" (56 : Nat) ({ cls := "NumberHouse", name := "shape", desc := "(IIIII)V" } : MethodName)) ∈ q_tbl := q_of 1476 (by decide +kernel) (by decide +kernel)
theorem w_1477 : (Cond.instanceMethod ({ cls := "NumberHouse", name := "shape", desc := "(IIIII)V" } : MethodName)) ∈ q_tbl := q_of 1477 (by decide +kernel) (by decide +kernel)
theorem w_1478 : (Cond.selects "NumberHouse" ({ cls := "NumberHouse", name := "shape", desc := "(IIIII)V" } : MethodName) ({ cls := "NumberHouse", name := "shape", desc := "(IIIII)V" } : MethodName)) ∈ q_tbl := q_of 1478 (by decide +kernel) (by decide +kernel)
theorem LV_NL_56 : q_LV "NumberHouseLaw" 56 y_NH_shape prog_1_method_15_code 7 none 5 := ⟨w_1479, w_1, w_1476, w_1477, w_1478, ⟨by decide, by decide, by decide +kernel⟩⟩
theorem d_15_14 : decode method_15_code 14 = .ok (.astore 6, 2) := by decide +kernel
theorem d_15_16 : decode method_15_code 16 = .ok (.iconst 1, 1) := by decide +kernel
theorem d_15_17 : decode method_15_code 17 = .ok (.ireturn, 1) := by decide +kernel
theorem d_15_11 : decode method_15_code 11 = .ok (.goto 11, 3) := by decide +kernel
theorem d_15_22 : decode method_15_code 22 = .ok (.iconst 0, 1) := by decide +kernel
theorem d_15_23 : decode method_15_code 23 = .ok (.ireturn, 1) := by decide +kernel
def y_NL_shape : MethodName := ⟨"NumberHouseLaw", "shape", "(LNumberHouse;IIIII)I"⟩
set_option maxRecDepth 100000 in
set_option maxHeartbeats 4000000 in
theorem c_NL_shape (l : Launch) (D : va_G) (g : Nat → ClassId) (ws : va_W) (hlt : l.stackTraces = false) (q : Nat → Nat) (x1 : Int32) (x2 : Int32) (x3 : Int32) (x4 : Int32) (x5 : Int32) (hfl : q_fl ws 0 (nh_w g q)) : ∀ sz, Met l y_NL_shape (q_wW y_NL_shape method_15_code 7 (some .int) [(0, 11, 14, 13), (0, 11, 18, 19)]) (q_rm 10 5 30) (q_P D g [.ref (q 0), .int x1, .int x2, .int x3, .int x4, .int x5] ws sz) (va_Qi (fun k u => ((k.toInt = 0 ∧ (((0 ≤ x1.toInt ∧ x1.toInt ≤ 2) ∧ (0 ≤ x2.toInt ∧ x2.toInt ≤ 9) ∧ (0 ≤ x3.toInt ∧ x3.toInt ≤ 9) ∧ (0 ≤ x5.toInt ∧ x5.toInt ≤ 7) ∧ (x1.toInt = 0 → ((-10000) ≤ x4.toInt ∧ x4.toInt ≤ 10000)) ∧ (x1.toInt ≠ 0 → (1 ≤ x4.toInt ∧ x4.toInt ≤ 1000))))) ∨ (k.toInt = 1 ∧ (¬ ((0 ≤ x1.toInt ∧ x1.toInt ≤ 2) ∧ (0 ≤ x2.toInt ∧ x2.toInt ≤ 9) ∧ (0 ≤ x3.toInt ∧ x3.toInt ≤ 9) ∧ (0 ≤ x5.toInt ∧ x5.toInt ≤ 7) ∧ (x1.toInt = 0 → ((-10000) ≤ x4.toInt ∧ x4.toInt ≤ 10000)) ∧ (x1.toInt ≠ 0 → (1 ≤ x4.toInt ∧ x4.toInt ≤ 1000)))))) ∧ q_ge 116 ws u) (q_B D g (va_A ws sz)) (va_A ws sz)) 5 30 (va_A ws sz) := by
  intro sz
  refine q_intoW (by decide) (Nat.le_of_ble_eq_true rfl) ?_
  intro p e s m below meth c ls hsz C0 V ht hl
  have hx := C0.1
  have hb := C0.2.1
  have hl : lv_has ls 7 [(0, .ref (q 0)), (1, .int x1), (2, .int x2), (3, .int x3), (4, .int x4), (5, .int x5)] := hl
  have hP0 : ws[0]? = (some (q 0, .inr (0, [.ref (q 1), .ref (q 3), .ref (q 5), .ref (q 6), .ref (q 7), .ref (q 8), .ref (q 9), .ref (q 30), .ref (q 34), .ref (q 35), .ref (q 36), .ref (q 38), .ref (q 39), .ref (q 40)])) : Option (Nat × va_E)) := q_fa (i := 0) hfl rfl
  have hP6 : ws[6]? = (some (q 6, .inl (g 5, 10, .inr (.inr (.inr (.inr (va_up (va_up (va_up (va_up (va_up (va_up (va_up (va_up (va_up (va_up (fun _ => none) 0 (some (q 68))) 1 (some (q 73))) 2 (some (q 78))) 3 (some (q 83))) 4 (some (q 88))) 5 (some (q 93))) 6 (some (q 98))) 7 (some (q 103))) 8 (some (q 108))) 9 (some (q 113)))))))) : Option (Nat × va_E)) := q_fa (i := 6) hfl rfl
  have hP9 : ws[9]? = (some (q 9, .inr (4, [.ref (q 10), .ref (q 12), .ref (q 14), .ref (q 16), .ref (q 18), .ref (q 20), .ref (q 22), .ref (q 24), .ref (q 26), .ref (q 28)])) : Option (Nat × va_E)) := q_fa (i := 9) hfl rfl
  have hP10 : ws[10]? = (some (q 10, .inr (2, [.ref (q 11), .int 0, .int 0])) : Option (Nat × va_E)) := q_fa (i := 10) hfl rfl
  have hP11 : ws[11]? = (some (q 11, .inl (g 0, 220, .inl (fun _ => 0))) : Option (Nat × va_E)) := q_fa (i := 11) hfl rfl
  have hP30 : ws[30]? = (some (q 30, .inr (5, [.ref (q 31), .long 0, .ref (q 9), .int 0])) : Option (Nat × va_E)) := q_fa (i := 30) hfl rfl
  have hP31 : ws[31]? = (some (q 31, .inr (3, [.ref (q 32), .int 0, .int 1])) : Option (Nat × va_E)) := q_fa (i := 31) hfl rfl
  refine lv_aload_n hx hb d_15_0 rfl (lv_at hl 0 rfl) ?_
  refine lv_iload_n hx hb d_15_1 rfl (lv_at hl 1 rfl) ?_
  refine lv_iload_n hx hb d_15_2 rfl (lv_at hl 2 rfl) ?_
  refine lv_iload_n hx hb d_15_3 rfl (lv_at hl 3 rfl) ?_
  refine lv_iload hx hb d_15_4 (lv_at hl 4 rfl) ?_
  refine lv_iload hx hb d_15_6 (lv_at hl 5 rfl) ?_
  refine q_goxv V (q_runVX (As := [.int x1, .int x2, .int x3, .int x4, .int x5]) (rest := []) (d := 9) (mc := 5) (ms := 30) (ci := 0) C0 V rfl LV_NL_56 (c_NH_shape l D g ws hlt (q 0) (q 1) (q 3) (q 5) (q 6) (q 7) (q 8) (q 9) (q 30) (q 34) (q 35) (q 36) (q 38) (q 39) (q 40) (q 10) (q 12) (q 14) (q 16) (q 18) (q 20) (q 22) (q 24) (q 26) (q 28) (q 31) (q 11) (q 32) x1 x2 x3 x4 x5 (va_up (va_up (va_up (va_up (va_up (va_up (va_up (va_up (va_up (va_up (fun _ => none) 0 (some (q 68))) 1 (some (q 73))) 2 (some (q 78))) 3 (some (q 83))) 4 (some (q 88))) 5 (some (q 93))) 6 (some (q 98))) 7 (some (q 103))) 8 (some (q 108))) 9 (some (q 113))) hP0 hP6 hP9 hP30 hP10 hP31 hP11 (fun i => q (66 + 5 * i)) (fun i => q (67 + 5 * i)) (fun i => q (68 + 5 * i)) (fun i => q (69 + 5 * i)) (fun i => q (70 + 5 * i)) nh_hfD (nh_FD hfl) (nh_FDN hfl) (nh_FDL hfl) _) rfl rfl hP0 rfl hl.1 rfl (Nat.le_of_ble_eq_true rfl) ⟨by decide, by decide⟩ ⟨Nat.le_of_ble_eq_true rfl, Nat.le_of_ble_eq_true rfl⟩ d_15_8) (fun qx Ex ce u1 H locs hp V hce hcv hcl => ?_) (fun u1 H locs hp V => ?_)
  ·
    obtain ⟨hp, hF⟩ := hp
    obtain ⟨rfl, hr⟩ := hp
    refine q_catch hce hcv hcl (fun pl hpl => q_hY C0 V rfl ht ⟨by decide, by decide⟩ (by decide) w_486 wo_496 hcl pl hpl) ?_
    refine lv_astore (lv' := [(6, .ref qx), (0, .ref (q 0)), (1, .int x1), (2, .int x2), (3, .int x3), (4, .int x4), (5, .int x5)]) hx hb d_15_14 hl (by decide) rfl (fun ls hl => ?_)
    refine lv_iconst (v := 1) hx hb d_15_16 (by decide) ?_
    exact q_reti C0 V (⟨Or.inr (⟨(by decide), hr⟩), hF⟩) d_15_17
  ·
    obtain ⟨hr, hF⟩ := hp
    refine lv_goto (tgt := 22) hx hb d_15_11 (by decide) ?_
    refine lv_iconst (v := 0) hx hb d_15_22 (by decide) ?_
    exact q_reti C0 V (⟨Or.inl ⟨(by decide), hr⟩, hF⟩) d_15_23
theorem d_16_0 : decode method_16_code 0 = .ok (.aload_n 0, 1) := by decide +kernel
theorem d_16_1 : decode method_16_code 1 = .ok (.iload_n 1, 1) := by decide +kernel
theorem d_16_2 : decode method_16_code 2 = .ok (.iload_n 2, 1) := by decide +kernel
theorem d_16_3 : decode method_16_code 3 = .ok (.iload_n 3, 1) := by decide +kernel
theorem d_16_4 : decode method_16_code 4 = .ok (.iload 4, 2) := by decide +kernel
theorem d_16_6 : decode method_16_code 6 = .ok (.invokevirtual 59, 3) := by decide +kernel
theorem w_1495 : (Cond.code ({ cls := "NumberHouse", name := "convert", desc := "(IIII)V" } : MethodName) prog_1_method_16_code (5 : Nat) (none : Option ClassFile.FieldType)) ∈ q_tbl := q_of 1495 (by decide +kernel) (by decide +kernel)
theorem w_1492 : (Cond.methodLink "NumberHouseLaw" (59 : Nat) ({ cls := "NumberHouse", name := "convert", desc := "(IIII)V" } : MethodName)) ∈ q_tbl := q_of 1492 (by decide +kernel) (by decide +kernel)
theorem w_1493 : (Cond.instanceMethod ({ cls := "NumberHouse", name := "convert", desc := "(IIII)V" } : MethodName)) ∈ q_tbl := q_of 1493 (by decide +kernel) (by decide +kernel)
theorem w_1494 : (Cond.selects "NumberHouse" ({ cls := "NumberHouse", name := "convert", desc := "(IIII)V" } : MethodName) ({ cls := "NumberHouse", name := "convert", desc := "(IIII)V" } : MethodName)) ∈ q_tbl := q_of 1494 (by decide +kernel) (by decide +kernel)
theorem LV_NL_59 : q_LV "NumberHouseLaw" 59 y_NH_convert prog_1_method_16_code 5 none 4 := ⟨w_1495, w_1, w_1492, w_1493, w_1494, ⟨by decide, by decide, by decide +kernel⟩⟩
theorem d_16_12 : decode method_16_code 12 = .ok (.astore 5, 2) := by decide +kernel
theorem d_16_14 : decode method_16_code 14 = .ok (.iconst 1, 1) := by decide +kernel
theorem d_16_15 : decode method_16_code 15 = .ok (.ireturn, 1) := by decide +kernel
theorem d_16_9 : decode method_16_code 9 = .ok (.goto 11, 3) := by decide +kernel
theorem d_16_20 : decode method_16_code 20 = .ok (.iconst 0, 1) := by decide +kernel
theorem d_16_21 : decode method_16_code 21 = .ok (.ireturn, 1) := by decide +kernel
def y_NL_convert : MethodName := ⟨"NumberHouseLaw", "convert", "(LNumberHouse;IIII)I"⟩
set_option maxRecDepth 100000 in
set_option maxHeartbeats 4000000 in
theorem c_NL_convert (l : Launch) (D : va_G) (g : Nat → ClassId) (ws : va_W) (hlt : l.stackTraces = false) (q : Nat → Nat) (x1 : Int32) (x2 : Int32) (x3 : Int32) (x4 : Int32) (hfl : q_fl ws 0 (nh_w g q)) : ∀ sz, Met l y_NL_convert (q_wW y_NL_convert method_16_code 6 (some .int) [(0, 9, 12, 13), (0, 9, 16, 19)]) (q_rm 10 4 24) (q_P D g [.ref (q 0), .int x1, .int x2, .int x3, .int x4] ws sz) (va_Qi (fun k u => ((k.toInt = 0 ∧ (((0 ≤ x1.toInt ∧ x1.toInt ≤ 3) ∧ (0 ≤ x2.toInt ∧ x2.toInt ≤ 9) ∧ (0 ≤ x3.toInt ∧ x3.toInt ≤ 3) ∧ (0 ≤ x4.toInt ∧ x4.toInt ≤ 9)))) ∨ (k.toInt = 1 ∧ (¬ ((0 ≤ x1.toInt ∧ x1.toInt ≤ 3) ∧ (0 ≤ x2.toInt ∧ x2.toInt ≤ 9) ∧ (0 ≤ x3.toInt ∧ x3.toInt ≤ 3) ∧ (0 ≤ x4.toInt ∧ x4.toInt ≤ 9))))) ∧ q_ge 116 ws u) (q_B D g (va_A ws sz)) (va_A ws sz)) 4 24 (va_A ws sz) := by
  intro sz
  refine q_intoW (by decide) (Nat.le_of_ble_eq_true rfl) ?_
  intro p e s m below meth c ls hsz C0 V ht hl
  have hx := C0.1
  have hb := C0.2.1
  have hl : lv_has ls 6 [(0, .ref (q 0)), (1, .int x1), (2, .int x2), (3, .int x3), (4, .int x4)] := hl
  have hP0 : ws[0]? = (some (q 0, .inr (0, [.ref (q 1), .ref (q 3), .ref (q 5), .ref (q 6), .ref (q 7), .ref (q 8), .ref (q 9), .ref (q 30), .ref (q 34), .ref (q 35), .ref (q 36), .ref (q 38), .ref (q 39), .ref (q 40)])) : Option (Nat × va_E)) := q_fa (i := 0) hfl rfl
  have hP5 : ws[5]? = (some (q 5, .inl (g 4, 10, .inr (.inr (.inr (.inr (va_up (va_up (va_up (va_up (va_up (va_up (va_up (va_up (va_up (va_up (fun _ => none) 0 (some (q 66))) 1 (some (q 71))) 2 (some (q 76))) 3 (some (q 81))) 4 (some (q 86))) 5 (some (q 91))) 6 (some (q 96))) 7 (some (q 101))) 8 (some (q 106))) 9 (some (q 111)))))))) : Option (Nat × va_E)) := q_fa (i := 5) hfl rfl
  have hP6 : ws[6]? = (some (q 6, .inl (g 5, 10, .inr (.inr (.inr (.inr (va_up (va_up (va_up (va_up (va_up (va_up (va_up (va_up (va_up (va_up (fun _ => none) 0 (some (q 68))) 1 (some (q 73))) 2 (some (q 78))) 3 (some (q 83))) 4 (some (q 88))) 5 (some (q 93))) 6 (some (q 98))) 7 (some (q 103))) 8 (some (q 108))) 9 (some (q 113)))))))) : Option (Nat × va_E)) := q_fa (i := 6) hfl rfl
  have hP7 : ws[7]? = (some (q 7, .inl (g 1, 10, .inr (.inl (fun _ => 0)))) : Option (Nat × va_E)) := q_fa (i := 7) hfl rfl
  have hP8 : ws[8]? = (some (q 8, .inl (g 1, 10, .inr (.inl (fun _ => 0)))) : Option (Nat × va_E)) := q_fa (i := 8) hfl rfl
  have hP9 : ws[9]? = (some (q 9, .inr (4, [.ref (q 10), .ref (q 12), .ref (q 14), .ref (q 16), .ref (q 18), .ref (q 20), .ref (q 22), .ref (q 24), .ref (q 26), .ref (q 28)])) : Option (Nat × va_E)) := q_fa (i := 9) hfl rfl
  have hP10 : ws[10]? = (some (q 10, .inr (2, [.ref (q 11), .int 0, .int 0])) : Option (Nat × va_E)) := q_fa (i := 10) hfl rfl
  have hP11 : ws[11]? = (some (q 11, .inl (g 0, 220, .inl (fun _ => 0))) : Option (Nat × va_E)) := q_fa (i := 11) hfl rfl
  have hP30 : ws[30]? = (some (q 30, .inr (5, [.ref (q 31), .long 0, .ref (q 9), .int 0])) : Option (Nat × va_E)) := q_fa (i := 30) hfl rfl
  have hP34 : ws[34]? = (some (q 34, .inr (6, [.int 52, .int 1075, .int 2047, .long 0, .int 0, .ref (q 9), .int 0])) : Option (Nat × va_E)) := q_fa (i := 34) hfl rfl
  have hP35 : ws[35]? = (some (q 35, .inr (6, [.int 23, .int 150, .int 255, .long 0, .int 0, .ref (q 9), .int 0])) : Option (Nat × va_E)) := q_fa (i := 35) hfl rfl
  refine lv_aload_n hx hb d_16_0 rfl (lv_at hl 0 rfl) ?_
  refine lv_iload_n hx hb d_16_1 rfl (lv_at hl 1 rfl) ?_
  refine lv_iload_n hx hb d_16_2 rfl (lv_at hl 2 rfl) ?_
  refine lv_iload_n hx hb d_16_3 rfl (lv_at hl 3 rfl) ?_
  refine lv_iload hx hb d_16_4 (lv_at hl 4 rfl) ?_
  refine q_goxv V (q_runVX (As := [.int x1, .int x2, .int x3, .int x4]) (rest := []) (d := 9) (mc := 4) (ms := 24) (ci := 0) C0 V rfl LV_NL_59 (c_NH_convert l D g ws hlt (q 0) (q 1) (q 3) (q 5) (q 6) (q 7) (q 8) (q 9) (q 30) (q 34) (q 35) (q 36) (q 38) (q 39) (q 40) (q 10) (q 12) (q 14) (q 16) (q 18) (q 20) (q 22) (q 24) (q 26) (q 28) (q 31) (q 11) x1 x2 x3 x4 (va_up (va_up (va_up (va_up (va_up (va_up (va_up (va_up (va_up (va_up (fun _ => none) 0 (some (q 66))) 1 (some (q 71))) 2 (some (q 76))) 3 (some (q 81))) 4 (some (q 86))) 5 (some (q 91))) 6 (some (q 96))) 7 (some (q 101))) 8 (some (q 106))) 9 (some (q 111))) (va_up (va_up (va_up (va_up (va_up (va_up (va_up (va_up (va_up (va_up (fun _ => none) 0 (some (q 68))) 1 (some (q 73))) 2 (some (q 78))) 3 (some (q 83))) 4 (some (q 88))) 5 (some (q 93))) 6 (some (q 98))) 7 (some (q 103))) 8 (some (q 108))) 9 (some (q 113))) hP0 hP5 hP6 hP7 hP8 hP9 hP30 hP34 hP35 hP10 hP11 (fun i => q (66 + 5 * i)) (fun i => q (67 + 5 * i)) (fun i => q (68 + 5 * i)) (fun i => q (69 + 5 * i)) (fun i => q (70 + 5 * i)) nh_hfW (nh_FW hfl) (nh_FWL hfl) nh_hfD (nh_FD hfl) (nh_FDN hfl) (nh_FDL hfl) _) rfl rfl hP0 rfl hl.1 rfl (Nat.le_of_ble_eq_true rfl) ⟨by decide, by decide⟩ ⟨Nat.le_of_ble_eq_true rfl, Nat.le_of_ble_eq_true rfl⟩ d_16_6) (fun qx Ex ce u1 H locs hp V hce hcv hcl => ?_) (fun u1 H locs hp V => ?_)
  ·
    obtain ⟨hp, hF⟩ := hp
    obtain ⟨rfl, hr⟩ := hp
    refine q_catch hce hcv hcl (fun pl hpl => q_hY C0 V rfl ht ⟨by decide, by decide⟩ (by decide) w_486 wo_496 hcl pl hpl) ?_
    refine lv_astore (lv' := [(5, .ref qx), (0, .ref (q 0)), (1, .int x1), (2, .int x2), (3, .int x3), (4, .int x4)]) hx hb d_16_12 hl (by decide) rfl (fun ls hl => ?_)
    refine lv_iconst (v := 1) hx hb d_16_14 (by decide) ?_
    exact q_reti C0 V (⟨Or.inr (⟨(by decide), hr⟩), hF⟩) d_16_15
  ·
    obtain ⟨hr, hF⟩ := hp
    refine lv_goto (tgt := 20) hx hb d_16_9 (by decide) ?_
    refine lv_iconst (v := 0) hx hb d_16_20 (by decide) ?_
    exact q_reti C0 V (⟨Or.inl ⟨(by decide), hr⟩, hF⟩) d_16_21
theorem d_17_0 : decode method_17_code 0 = .ok (.aload 4, 2) := by decide +kernel
theorem d_17_2 : decode method_17_code 2 = .ok (.iconst 0, 1) := by decide +kernel
theorem d_17_3 : decode method_17_code 3 = .ok (.aload_n 0, 1) := by decide +kernel
theorem d_17_4 : decode method_17_code 4 = .ok (.iload_n 1, 1) := by decide +kernel
theorem d_17_5 : decode method_17_code 5 = .ok (.iload_n 2, 1) := by decide +kernel
theorem d_17_6 : decode method_17_code 6 = .ok (.iload_n 3, 1) := by decide +kernel
theorem d_17_7 : decode method_17_code 7 = .ok (.invokevirtual 62, 3) := by decide +kernel
theorem w_1536 : (Cond.code ({ cls := "NumberHouse", name := "print", desc := "(III)I" } : MethodName) prog_1_method_17_code (4 : Nat) (some .int)) ∈ q_tbl := q_of 1536 (by decide +kernel) (by decide +kernel)
theorem w_1533 : (Cond.methodLink "NumberHouseLaw" (62 : Nat) ({ cls := "NumberHouse", name := "print", desc := "(III)I" } : MethodName)) ∈ q_tbl := q_of 1533 (by decide +kernel) (by decide +kernel)
theorem w_1534 : (Cond.instanceMethod ({ cls := "NumberHouse", name := "print", desc := "(III)I" } : MethodName)) ∈ q_tbl := q_of 1534 (by decide +kernel) (by decide +kernel)
theorem w_1535 : (Cond.selects "NumberHouse" ({ cls := "NumberHouse", name := "print", desc := "(III)I" } : MethodName) ({ cls := "NumberHouse", name := "print", desc := "(III)I" } : MethodName)) ∈ q_tbl := q_of 1535 (by decide +kernel) (by decide +kernel)
theorem LV_NL_62 : q_LV "NumberHouseLaw" 62 y_NH_print prog_1_method_17_code 4 (some .int) 3 := ⟨w_1536, w_1, w_1533, w_1534, w_1535, ⟨by decide, by decide, by decide +kernel⟩⟩
theorem d_17_15 : decode method_17_code 15 = .ok (.astore 5, 2) := by decide +kernel
theorem d_17_17 : decode method_17_code 17 = .ok (.iconst 1, 1) := by decide +kernel
theorem d_17_18 : decode method_17_code 18 = .ok (.ireturn, 1) := by decide +kernel
theorem d_17_10 : decode method_17_code 10 = .ok (.i2l, 1) := by decide +kernel
theorem d_17_11 : decode method_17_code 11 = .ok (.lastore, 1) := by decide +kernel
theorem d_17_12 : decode method_17_code 12 = .ok (.goto 7, 3) := by decide +kernel
theorem d_17_19 : decode method_17_code 19 = .ok (.iconst 0, 1) := by decide +kernel
theorem d_17_20 : decode method_17_code 20 = .ok (.ireturn, 1) := by decide +kernel
def y_NL_print : MethodName := ⟨"NumberHouseLaw", "print", "(LNumberHouse;III[J)I"⟩
set_option maxRecDepth 100000 in
set_option maxHeartbeats 4000000 in
theorem c_NL_print (l : Launch) (D : va_G) (g : Nat → ClassId) (ws : va_W) (hlt : l.stackTraces = false) (q : Nat → Nat) (qo : Nat) (x1 : Int32) (x2 : Int32) (x3 : Int32) (hfl : q_fl ws 0 (nh_w g q)) (hO : ws[169]? = (some (qo, .inl (g 1, 1, .inr (.inl (fun _ => 0)))) : Option (Nat × va_E))) : ∀ sz, Met l y_NL_print (q_wW y_NL_print method_17_code 6 (some .int) [(0, 12, 15, 13)]) (q_rm 10 2 12) (q_P D g [.ref (q 0), .int x1, .int x2, .int x3, .ref qo] ws sz) (va_Qi (fun k u => ∃ o : Int64, u[169]? = (some (qo, .inl (g 1, 1, .inr (.inl (vp_updL (fun _ => 0) 0 o)))) : Option (Nat × va_E)) ∧ ((k.toInt = 0 ∧ (((0 ≤ x1.toInt ∧ x1.toInt ≤ 3) ∧ (0 ≤ x2.toInt ∧ x2.toInt ≤ 9) ∧ (x1.toInt = 0 → (2 ≤ x3.toInt ∧ x3.toInt ≤ 36)) ∧ (x1.toInt = 1 → (0 ≤ x3.toInt ∧ x3.toInt ≤ 2)) ∧ (2 ≤ x1.toInt → (0 ≤ x3.toInt ∧ x3.toInt ≤ 1))) ∧ ((x1.toInt ≤ 1 ∧ (o : Int64).toInt = 1) ∨ (2 ≤ x1.toInt ∧ x3.toInt = 0 ∧ (o : Int64).toInt = 3) ∨ (2 ≤ x1.toInt ∧ x3.toInt = 1 ∧ (o : Int64).toInt = 7)))) ∨ (k.toInt = 1 ∧ (¬ ((0 ≤ x1.toInt ∧ x1.toInt ≤ 3) ∧ (0 ≤ x2.toInt ∧ x2.toInt ≤ 9) ∧ (x1.toInt = 0 → (2 ≤ x3.toInt ∧ x3.toInt ≤ 36)) ∧ (x1.toInt = 1 → (0 ≤ x3.toInt ∧ x3.toInt ≤ 2)) ∧ (2 ≤ x1.toInt → (0 ≤ x3.toInt ∧ x3.toInt ≤ 1)))))) ∧ ∀ i, 116 ≤ i → i ≠ 169 → u[i]? = ws[i]?) (q_B D g (va_A ws sz)) (va_A ws sz)) 2 12 (va_A ws sz) := by
  intro sz
  refine q_intoW (by decide) (Nat.le_of_ble_eq_true rfl) ?_
  intro p e s m below meth c ls hsz C0 V ht hl
  have hx := C0.1
  have hb := C0.2.1
  have hl : lv_has ls 6 [(0, .ref (q 0)), (1, .int x1), (2, .int x2), (3, .int x3), (4, .ref qo)] := hl
  have hP0 : ws[0]? = (some (q 0, .inr (0, [.ref (q 1), .ref (q 3), .ref (q 5), .ref (q 6), .ref (q 7), .ref (q 8), .ref (q 9), .ref (q 30), .ref (q 34), .ref (q 35), .ref (q 36), .ref (q 38), .ref (q 39), .ref (q 40)])) : Option (Nat × va_E)) := q_fa (i := 0) hfl rfl
  have hP3 : ws[3]? = (some (q 3, .inr (1, [.ref (q 4), .int 11008, .int 0])) : Option (Nat × va_E)) := q_fa (i := 3) hfl rfl
  have hP4 : ws[4]? = (some (q 4, .inl (g 1, 1376, .inr (.inl (fun _ => 0)))) : Option (Nat × va_E)) := q_fa (i := 4) hfl rfl
  have hP5 : ws[5]? = (some (q 5, .inl (g 4, 10, .inr (.inr (.inr (.inr (va_up (va_up (va_up (va_up (va_up (va_up (va_up (va_up (va_up (va_up (fun _ => none) 0 (some (q 66))) 1 (some (q 71))) 2 (some (q 76))) 3 (some (q 81))) 4 (some (q 86))) 5 (some (q 91))) 6 (some (q 96))) 7 (some (q 101))) 8 (some (q 106))) 9 (some (q 111)))))))) : Option (Nat × va_E)) := q_fa (i := 5) hfl rfl
  have hP6 : ws[6]? = (some (q 6, .inl (g 5, 10, .inr (.inr (.inr (.inr (va_up (va_up (va_up (va_up (va_up (va_up (va_up (va_up (va_up (va_up (fun _ => none) 0 (some (q 68))) 1 (some (q 73))) 2 (some (q 78))) 3 (some (q 83))) 4 (some (q 88))) 5 (some (q 93))) 6 (some (q 98))) 7 (some (q 103))) 8 (some (q 108))) 9 (some (q 113)))))))) : Option (Nat × va_E)) := q_fa (i := 6) hfl rfl
  have hP7 : ws[7]? = (some (q 7, .inl (g 1, 10, .inr (.inl (fun _ => 0)))) : Option (Nat × va_E)) := q_fa (i := 7) hfl rfl
  have hP8 : ws[8]? = (some (q 8, .inl (g 1, 10, .inr (.inl (fun _ => 0)))) : Option (Nat × va_E)) := q_fa (i := 8) hfl rfl
  have hP9 : ws[9]? = (some (q 9, .inr (4, [.ref (q 10), .ref (q 12), .ref (q 14), .ref (q 16), .ref (q 18), .ref (q 20), .ref (q 22), .ref (q 24), .ref (q 26), .ref (q 28)])) : Option (Nat × va_E)) := q_fa (i := 9) hfl rfl
  have hP10 : ws[10]? = (some (q 10, .inr (2, [.ref (q 11), .int 0, .int 0])) : Option (Nat × va_E)) := q_fa (i := 10) hfl rfl
  have hP11 : ws[11]? = (some (q 11, .inl (g 0, 220, .inl (fun _ => 0))) : Option (Nat × va_E)) := q_fa (i := 11) hfl rfl
  have hP34 : ws[34]? = (some (q 34, .inr (6, [.int 52, .int 1075, .int 2047, .long 0, .int 0, .ref (q 9), .int 0])) : Option (Nat × va_E)) := q_fa (i := 34) hfl rfl
  have hP35 : ws[35]? = (some (q 35, .inr (6, [.int 23, .int 150, .int 255, .long 0, .int 0, .ref (q 9), .int 0])) : Option (Nat × va_E)) := q_fa (i := 35) hfl rfl
  have hP36 : ws[36]? = (some (q 36, .inr (7, [.int 0, .int 0, .ref (q 37)])) : Option (Nat × va_E)) := q_fa (i := 36) hfl rfl
  have hP39 : ws[39]? = (some (q 39, .inr (9, [.ref (q 3), .ref (q 9), .ref (q 36)])) : Option (Nat × va_E)) := q_fa (i := 39) hfl rfl
  refine lv_aload hx hb d_17_0 (lv_at hl 4 rfl) ?_
  refine lv_iconst (v := 0) hx hb d_17_2 (by decide) ?_
  refine lv_aload_n hx hb d_17_3 rfl (lv_at hl 0 rfl) ?_
  refine lv_iload_n hx hb d_17_4 rfl (lv_at hl 1 rfl) ?_
  refine lv_iload_n hx hb d_17_5 rfl (lv_at hl 2 rfl) ?_
  refine lv_iload_n hx hb d_17_6 rfl (lv_at hl 3 rfl) ?_
  refine q_goxi V (q_runVX (As := [.int x1, .int x2, .int x3]) (rest := [.int 0, .ref qo]) (d := 9) (mc := 2) (ms := 12) (ci := 0) C0 V rfl LV_NL_62 (c_NH_print l D g ws hlt (q 0) (q 1) (q 3) (q 5) (q 6) (q 7) (q 8) (q 9) (q 30) (q 34) (q 35) (q 36) (q 38) (q 39) (q 40) (q 4) (q 10) (q 12) (q 14) (q 16) (q 18) (q 20) (q 22) (q 24) (q 26) (q 28) (q 37) (q 11) x1 x2 x3 (va_up (va_up (va_up (va_up (va_up (va_up (va_up (va_up (va_up (va_up (fun _ => none) 0 (some (q 66))) 1 (some (q 71))) 2 (some (q 76))) 3 (some (q 81))) 4 (some (q 86))) 5 (some (q 91))) 6 (some (q 96))) 7 (some (q 101))) 8 (some (q 106))) 9 (some (q 111))) (va_up (va_up (va_up (va_up (va_up (va_up (va_up (va_up (va_up (va_up (fun _ => none) 0 (some (q 68))) 1 (some (q 73))) 2 (some (q 78))) 3 (some (q 83))) 4 (some (q 88))) 5 (some (q 93))) 6 (some (q 98))) 7 (some (q 103))) 8 (some (q 108))) 9 (some (q 113))) hP0 hP3 hP5 hP6 hP7 hP8 hP9 hP34 hP35 hP36 hP39 hP4 hP10 hP11 (fun i => q (66 + 5 * i)) (fun i => q (67 + 5 * i)) (fun i => q (68 + 5 * i)) (fun i => q (69 + 5 * i)) (fun i => q (70 + 5 * i)) nh_hfW (nh_FW hfl) (nh_FWL hfl) nh_hfD (nh_FD hfl) (nh_FDN hfl) (nh_FDL hfl) _) rfl rfl hP0 rfl hl.1 rfl (Nat.le_of_ble_eq_true rfl) ⟨by decide, by decide⟩ ⟨Nat.le_of_ble_eq_true rfl, Nat.le_of_ble_eq_true rfl⟩ d_17_7) (fun qx Ex ce u1 H locs hp V hce hcv hcl => ?_) (fun rv u1 H locs hp V => ?_)
  ·
    obtain ⟨hp, hF⟩ := hp
    obtain ⟨rfl, hr⟩ := hp
    have hO : u1[169]? = _ := (hF 169 (Nat.le_of_ble_eq_true rfl)).trans hO
    refine q_catch hce hcv hcl (fun pl hpl => q_hY C0 V rfl ht ⟨by decide, by decide⟩ (by decide) w_486 wo_496 hcl pl hpl) ?_
    refine lv_astore (lv' := [(5, .ref qx), (0, .ref (q 0)), (1, .int x1), (2, .int x2), (3, .int x3), (4, .ref qo)]) hx hb d_17_15 hl (by decide) rfl (fun ls hl => ?_)
    refine lv_iconst (v := 1) hx hb d_17_17 (by decide) ?_
    exact q_reti C0 V (⟨0, q_re hO (q_eL q_updL0.symm), Or.inr (⟨(by decide), hr⟩), fun i h1 _ => hF i h1⟩) d_17_18
  ·
    obtain ⟨hr, hF⟩ := hp
    have hO : u1[169]? = _ := (hF 169 (Nat.le_of_ble_eq_true rfl)).trans hO
    refine lv_i2l hx hb d_17_10 rfl ?_
    refine q_last C0 V hO (by unfold vp_in; decide) d_17_11 (fun H locs w1 hu2 hO V => ?_)
    replace hO : w1[169]? = (some (qo, .inl (g 1, 1, .inr (.inl (vp_updL (fun _ => 0) 0 rv.toInt64)))) : Option (Nat × va_E)) := hO
    refine lv_goto (tgt := 19) hx hb d_17_12 (by decide) ?_
    refine lv_iconst (v := 0) hx hb d_17_19 (by decide) ?_
    exact q_reti C0 V (⟨rv.toInt64, hO, Or.inl ⟨(by decide), (show ((0 ≤ x1.toInt ∧ x1.toInt ≤ 3) ∧ (0 ≤ x2.toInt ∧ x2.toInt ≤ 9) ∧ (x1.toInt = 0 → (2 ≤ x3.toInt ∧ x3.toInt ≤ 36)) ∧ (x1.toInt = 1 → (0 ≤ x3.toInt ∧ x3.toInt ≤ 2)) ∧ (2 ≤ x1.toInt → (0 ≤ x3.toInt ∧ x3.toInt ≤ 1))) ∧ ((x1.toInt ≤ 1 ∧ (rv.toInt64 : Int64).toInt = 1) ∨ (2 ≤ x1.toInt ∧ x3.toInt = 0 ∧ (rv.toInt64 : Int64).toInt = 3) ∨ (2 ≤ x1.toInt ∧ x3.toInt = 1 ∧ (rv.toInt64 : Int64).toInt = 7)) from (by have e9 : (rv.toInt64 : Int64).toInt = rv.toInt := q_i2l rfl; omega))⟩, fun i h1 h2 => (hu2 i h2).trans (hF i h1)⟩) d_17_20
theorem d_18_0 : decode method_18_code 0 = .ok (.aload 6, 2) := by decide +kernel
theorem d_18_2 : decode method_18_code 2 = .ok (.iconst 0, 1) := by decide +kernel
theorem d_18_3 : decode method_18_code 3 = .ok (.aload_n 0, 1) := by decide +kernel
theorem d_18_4 : decode method_18_code 4 = .ok (.iload_n 1, 1) := by decide +kernel
theorem d_18_5 : decode method_18_code 5 = .ok (.iload_n 2, 1) := by decide +kernel
theorem d_18_6 : decode method_18_code 6 = .ok (.iload_n 3, 1) := by decide +kernel
theorem d_18_7 : decode method_18_code 7 = .ok (.iload 4, 2) := by decide +kernel
theorem d_18_9 : decode method_18_code 9 = .ok (.iload 5, 2) := by decide +kernel
theorem d_18_11 : decode method_18_code 11 = .ok (.invokevirtual 65, 3) := by decide +kernel
theorem w_1646 : (Cond.code ({ cls := "NumberHouse", name := "figures", desc := "(IIZII)I" } : MethodName) prog_1_method_18_code (9 : Nat) (some .int)) ∈ q_tbl := q_of 1646 (by decide +kernel) (by decide +kernel)
theorem w_1643 : (Cond.methodLink "NumberHouseLaw" (65 : Nat) ({ cls := "NumberHouse", name := "figures", desc := "(IIZII)I" } : MethodName)) ∈ q_tbl := q_of 1643 (by decide +kernel) (by decide +kernel)
theorem w_1644 : (Cond.instanceMethod ({ cls := "NumberHouse", name := "figures", desc := "(IIZII)I" } : MethodName)) ∈ q_tbl := q_of 1644 (by decide +kernel) (by decide +kernel)
theorem w_1645 : (Cond.selects "NumberHouse" ({ cls := "NumberHouse", name := "figures", desc := "(IIZII)I" } : MethodName) ({ cls := "NumberHouse", name := "figures", desc := "(IIZII)I" } : MethodName)) ∈ q_tbl := q_of 1645 (by decide +kernel) (by decide +kernel)
theorem LV_NL_65 : q_LV "NumberHouseLaw" 65 y_NH_figures prog_1_method_18_code 9 (some .int) 5 := ⟨w_1646, w_1, w_1643, w_1644, w_1645, ⟨by decide, by decide, by decide +kernel⟩⟩
theorem d_18_19 : decode method_18_code 19 = .ok (.astore 7, 2) := by decide +kernel
theorem d_18_21 : decode method_18_code 21 = .ok (.iconst 1, 1) := by decide +kernel
theorem d_18_22 : decode method_18_code 22 = .ok (.ireturn, 1) := by decide +kernel
theorem d_18_14 : decode method_18_code 14 = .ok (.i2l, 1) := by decide +kernel
theorem d_18_15 : decode method_18_code 15 = .ok (.lastore, 1) := by decide +kernel
theorem d_18_16 : decode method_18_code 16 = .ok (.goto 11, 3) := by decide +kernel
theorem d_18_27 : decode method_18_code 27 = .ok (.iconst 0, 1) := by decide +kernel
theorem d_18_28 : decode method_18_code 28 = .ok (.ireturn, 1) := by decide +kernel
def y_NL_figures : MethodName := ⟨"NumberHouseLaw", "figures", "(LNumberHouse;IIZII[J)I"⟩
set_option maxRecDepth 100000 in
set_option maxHeartbeats 4000000 in
theorem c_NL_figures (l : Launch) (D : va_G) (g : Nat → ClassId) (ws : va_W) (hlt : l.stackTraces = false) (q : Nat → Nat) (qo : Nat) (x1 : Int32) (x2 : Int32) (x3 : Int32) (x4 : Int32) (x5 : Int32) (hfl : q_fl ws 0 (nh_w g q)) (hO : ws[169]? = (some (qo, .inl (g 1, 1, .inr (.inl (fun _ => 0)))) : Option (Nat × va_E))) : ∀ sz, Met l y_NL_figures (q_wW y_NL_figures method_18_code 8 (some .int) [(0, 16, 19, 13), (0, 16, 23, 19)]) (q_rm 9 3 18) (q_P D g [.ref (q 0), .int x1, .int x2, .int x3, .int x4, .int x5, .ref qo] ws sz) (va_Qi (fun k u => ∃ o : Int64, u[169]? = (some (qo, .inl (g 1, 1, .inr (.inl (vp_updL (fun _ => 0) 0 o)))) : Option (Nat × va_E)) ∧ ((k.toInt = 0 ∧ (((2 ≤ x1.toInt ∧ x1.toInt ≤ 3) ∧ (0 ≤ x2.toInt ∧ x2.toInt ≤ 9) ∧ (0 ≤ x5.toInt ∧ x5.toInt ≤ 3) ∧ (x3.toInt ≠ 0 → (1 ≤ x4.toInt ∧ x4.toInt ≤ 800)) ∧ (x3.toInt = 0 → (0 ≤ x4.toInt ∧ x4.toInt ≤ 1100))) ∧ ((x3.toInt ≠ 0 ∧ x4.toInt = 1 ∧ (o : Int64).toInt = 5) ∨ (x3.toInt ≠ 0 ∧ 1 < x4.toInt ∧ (o : Int64).toInt = x4.toInt + 5) ∨ (x3.toInt = 0 ∧ x4.toInt = 0 ∧ (o : Int64).toInt = 1) ∨ (x3.toInt = 0 ∧ 0 < x4.toInt ∧ (o : Int64).toInt = x4.toInt + 2)))) ∨ (k.toInt = 1 ∧ (¬ ((2 ≤ x1.toInt ∧ x1.toInt ≤ 3) ∧ (0 ≤ x2.toInt ∧ x2.toInt ≤ 9) ∧ (0 ≤ x5.toInt ∧ x5.toInt ≤ 3) ∧ (x3.toInt ≠ 0 → (1 ≤ x4.toInt ∧ x4.toInt ≤ 800)) ∧ (x3.toInt = 0 → (0 ≤ x4.toInt ∧ x4.toInt ≤ 1100)))))) ∧ ∀ i, 116 ≤ i → i ≠ 169 → u[i]? = ws[i]?) (q_B D g (va_A ws sz)) (va_A ws sz)) 3 18 (va_A ws sz) := by
  intro sz
  refine q_intoW (by decide) (Nat.le_of_ble_eq_true rfl) ?_
  intro p e s m below meth c ls hsz C0 V ht hl
  have hx := C0.1
  have hb := C0.2.1
  have hl : lv_has ls 8 [(0, .ref (q 0)), (1, .int x1), (2, .int x2), (3, .int x3), (4, .int x4), (5, .int x5), (6, .ref qo)] := hl
  have hP0 : ws[0]? = (some (q 0, .inr (0, [.ref (q 1), .ref (q 3), .ref (q 5), .ref (q 6), .ref (q 7), .ref (q 8), .ref (q 9), .ref (q 30), .ref (q 34), .ref (q 35), .ref (q 36), .ref (q 38), .ref (q 39), .ref (q 40)])) : Option (Nat × va_E)) := q_fa (i := 0) hfl rfl
  have hP3 : ws[3]? = (some (q 3, .inr (1, [.ref (q 4), .int 11008, .int 0])) : Option (Nat × va_E)) := q_fa (i := 3) hfl rfl
  have hP4 : ws[4]? = (some (q 4, .inl (g 1, 1376, .inr (.inl (fun _ => 0)))) : Option (Nat × va_E)) := q_fa (i := 4) hfl rfl
  have hP7 : ws[7]? = (some (q 7, .inl (g 1, 10, .inr (.inl (fun _ => 0)))) : Option (Nat × va_E)) := q_fa (i := 7) hfl rfl
  have hP8 : ws[8]? = (some (q 8, .inl (g 1, 10, .inr (.inl (fun _ => 0)))) : Option (Nat × va_E)) := q_fa (i := 8) hfl rfl
  have hP9 : ws[9]? = (some (q 9, .inr (4, [.ref (q 10), .ref (q 12), .ref (q 14), .ref (q 16), .ref (q 18), .ref (q 20), .ref (q 22), .ref (q 24), .ref (q 26), .ref (q 28)])) : Option (Nat × va_E)) := q_fa (i := 9) hfl rfl
  have hP10 : ws[10]? = (some (q 10, .inr (2, [.ref (q 11), .int 0, .int 0])) : Option (Nat × va_E)) := q_fa (i := 10) hfl rfl
  have hP11 : ws[11]? = (some (q 11, .inl (g 0, 220, .inl (fun _ => 0))) : Option (Nat × va_E)) := q_fa (i := 11) hfl rfl
  have hP34 : ws[34]? = (some (q 34, .inr (6, [.int 52, .int 1075, .int 2047, .long 0, .int 0, .ref (q 9), .int 0])) : Option (Nat × va_E)) := q_fa (i := 34) hfl rfl
  have hP35 : ws[35]? = (some (q 35, .inr (6, [.int 23, .int 150, .int 255, .long 0, .int 0, .ref (q 9), .int 0])) : Option (Nat × va_E)) := q_fa (i := 35) hfl rfl
  have hP36 : ws[36]? = (some (q 36, .inr (7, [.int 0, .int 0, .ref (q 37)])) : Option (Nat × va_E)) := q_fa (i := 36) hfl rfl
  have hP39 : ws[39]? = (some (q 39, .inr (9, [.ref (q 3), .ref (q 9), .ref (q 36)])) : Option (Nat × va_E)) := q_fa (i := 39) hfl rfl
  refine lv_aload hx hb d_18_0 (lv_at hl 6 rfl) ?_
  refine lv_iconst (v := 0) hx hb d_18_2 (by decide) ?_
  refine lv_aload_n hx hb d_18_3 rfl (lv_at hl 0 rfl) ?_
  refine lv_iload_n hx hb d_18_4 rfl (lv_at hl 1 rfl) ?_
  refine lv_iload_n hx hb d_18_5 rfl (lv_at hl 2 rfl) ?_
  refine lv_iload_n hx hb d_18_6 rfl (lv_at hl 3 rfl) ?_
  refine lv_iload hx hb d_18_7 (lv_at hl 4 rfl) ?_
  refine lv_iload hx hb d_18_9 (lv_at hl 5 rfl) ?_
  refine q_goxi V (q_runVX (As := [.int x1, .int x2, .int x3, .int x4, .int x5]) (rest := [.int 0, .ref qo]) (d := 8) (mc := 3) (ms := 18) (ci := 0) C0 V rfl LV_NL_65 (c_NH_figures l D g ws hlt (q 0) (q 1) (q 3) (q 5) (q 6) (q 7) (q 8) (q 9) (q 30) (q 34) (q 35) (q 36) (q 38) (q 39) (q 40) (q 4) (q 10) (q 12) (q 14) (q 16) (q 18) (q 20) (q 22) (q 24) (q 26) (q 28) (q 37) (q 11) x1 x2 x3 x4 x5 hP0 hP3 hP7 hP8 hP9 hP34 hP35 hP36 hP39 hP4 hP10 hP11 _) rfl rfl hP0 rfl hl.1 rfl (Nat.le_of_ble_eq_true rfl) ⟨by decide, by decide⟩ ⟨Nat.le_of_ble_eq_true rfl, Nat.le_of_ble_eq_true rfl⟩ d_18_11) (fun qx Ex ce u1 H locs hp V hce hcv hcl => ?_) (fun rv u1 H locs hp V => ?_)
  ·
    obtain ⟨hp, hF⟩ := hp
    obtain ⟨rfl, hr⟩ := hp
    have hO : u1[169]? = _ := (hF 169 (Nat.le_of_ble_eq_true rfl)).trans hO
    refine q_catch hce hcv hcl (fun pl hpl => q_hY C0 V rfl ht ⟨by decide, by decide⟩ (by decide) w_486 wo_496 hcl pl hpl) ?_
    refine lv_astore (lv' := [(7, .ref qx), (0, .ref (q 0)), (1, .int x1), (2, .int x2), (3, .int x3), (4, .int x4), (5, .int x5), (6, .ref qo)]) hx hb d_18_19 hl (by decide) rfl (fun ls hl => ?_)
    refine lv_iconst (v := 1) hx hb d_18_21 (by decide) ?_
    exact q_reti C0 V (⟨0, q_re hO (q_eL q_updL0.symm), Or.inr (⟨(by decide), hr⟩), fun i h1 _ => hF i h1⟩) d_18_22
  ·
    obtain ⟨hr, hF⟩ := hp
    have hO : u1[169]? = _ := (hF 169 (Nat.le_of_ble_eq_true rfl)).trans hO
    refine lv_i2l hx hb d_18_14 rfl ?_
    refine q_last C0 V hO (by unfold vp_in; decide) d_18_15 (fun H locs w1 hu2 hO V => ?_)
    replace hO : w1[169]? = (some (qo, .inl (g 1, 1, .inr (.inl (vp_updL (fun _ => 0) 0 rv.toInt64)))) : Option (Nat × va_E)) := hO
    refine lv_goto (tgt := 27) hx hb d_18_16 (by decide) ?_
    refine lv_iconst (v := 0) hx hb d_18_27 (by decide) ?_
    exact q_reti C0 V (⟨rv.toInt64, hO, Or.inl ⟨(by decide), (show ((2 ≤ x1.toInt ∧ x1.toInt ≤ 3) ∧ (0 ≤ x2.toInt ∧ x2.toInt ≤ 9) ∧ (0 ≤ x5.toInt ∧ x5.toInt ≤ 3) ∧ (x3.toInt ≠ 0 → (1 ≤ x4.toInt ∧ x4.toInt ≤ 800)) ∧ (x3.toInt = 0 → (0 ≤ x4.toInt ∧ x4.toInt ≤ 1100))) ∧ ((x3.toInt ≠ 0 ∧ x4.toInt = 1 ∧ (rv.toInt64 : Int64).toInt = 5) ∨ (x3.toInt ≠ 0 ∧ 1 < x4.toInt ∧ (rv.toInt64 : Int64).toInt = x4.toInt + 5) ∨ (x3.toInt = 0 ∧ x4.toInt = 0 ∧ (rv.toInt64 : Int64).toInt = 1) ∨ (x3.toInt = 0 ∧ 0 < x4.toInt ∧ (rv.toInt64 : Int64).toInt = x4.toInt + 2)) from (by have e9 : (rv.toInt64 : Int64).toInt = rv.toInt := q_i2l rfl; omega))⟩, fun i h1 h2 => (hu2 i h2).trans (hF i h1)⟩) d_18_28
theorem d_19_0 : decode method_19_code 0 = .ok (.aload_n 3, 1) := by decide +kernel
theorem d_19_1 : decode method_19_code 1 = .ok (.iconst 0, 1) := by decide +kernel
theorem d_19_2 : decode method_19_code 2 = .ok (.aload_n 0, 1) := by decide +kernel
theorem d_19_3 : decode method_19_code 3 = .ok (.iload_n 1, 1) := by decide +kernel
theorem d_19_4 : decode method_19_code 4 = .ok (.iload_n 2, 1) := by decide +kernel
theorem d_19_5 : decode method_19_code 5 = .ok (.invokevirtual 69, 3) := by decide +kernel
theorem w_1677 : (Cond.code ({ cls := "NumberHouse", name := "argument", desc := "(II)I" } : MethodName) prog_1_method_19_code (3 : Nat) (some .int)) ∈ q_tbl := q_of 1677 (by decide +kernel) (by decide +kernel)
theorem w_1674 : (Cond.methodLink "NumberHouseLaw" (69 : Nat) ({ cls := "NumberHouse", name := "argument", desc := "(II)I" } : MethodName)) ∈ q_tbl := q_of 1674 (by decide +kernel) (by decide +kernel)
theorem w_1675 : (Cond.instanceMethod ({ cls := "NumberHouse", name := "argument", desc := "(II)I" } : MethodName)) ∈ q_tbl := q_of 1675 (by decide +kernel) (by decide +kernel)
theorem w_1676 : (Cond.selects "NumberHouse" ({ cls := "NumberHouse", name := "argument", desc := "(II)I" } : MethodName) ({ cls := "NumberHouse", name := "argument", desc := "(II)I" } : MethodName)) ∈ q_tbl := q_of 1676 (by decide +kernel) (by decide +kernel)
theorem LV_NL_69 : q_LV "NumberHouseLaw" 69 y_NH_argument prog_1_method_19_code 3 (some .int) 2 := ⟨w_1677, w_1, w_1674, w_1675, w_1676, ⟨by decide, by decide, by decide +kernel⟩⟩
theorem d_19_13 : decode method_19_code 13 = .ok (.astore 4, 2) := by decide +kernel
theorem d_19_15 : decode method_19_code 15 = .ok (.iconst 1, 1) := by decide +kernel
theorem d_19_16 : decode method_19_code 16 = .ok (.ireturn, 1) := by decide +kernel
theorem d_19_8 : decode method_19_code 8 = .ok (.i2l, 1) := by decide +kernel
theorem d_19_9 : decode method_19_code 9 = .ok (.lastore, 1) := by decide +kernel
theorem d_19_10 : decode method_19_code 10 = .ok (.goto 15, 3) := by decide +kernel
theorem d_19_25 : decode method_19_code 25 = .ok (.iconst 0, 1) := by decide +kernel
theorem d_19_26 : decode method_19_code 26 = .ok (.ireturn, 1) := by decide +kernel
def y_NL_argument : MethodName := ⟨"NumberHouseLaw", "argument", "(LNumberHouse;II[J)I"⟩
set_option maxRecDepth 100000 in
set_option maxHeartbeats 4000000 in
theorem c_NL_argument (l : Launch) (D : va_G) (g : Nat → ClassId) (ws : va_W) (hlt : l.stackTraces = false) (q : Nat → Nat) (qo : Nat) (x1 : Int32) (x2 : Int32) (hfl : q_fl ws 0 (nh_w g q)) (hO : ws[169]? = (some (qo, .inl (g 1, 1, .inr (.inl (fun _ => 0)))) : Option (Nat × va_E))) : ∀ sz, Met l y_NL_argument (q_wW y_NL_argument method_19_code 5 (some .int) [(0, 10, 13, 13), (0, 10, 17, 19), (0, 10, 21, 73)]) (q_rm 9 5 30) (q_P D g [.ref (q 0), .int x1, .int x2, .ref qo] ws sz) (va_Qi (fun k u => ∃ o : Int64, u[169]? = (some (qo, .inl (g 1, 1, .inr (.inl (vp_updL (fun _ => 0) 0 o)))) : Option (Nat × va_E)) ∧ ((k.toInt = 0 ∧ (((0 ≤ x1.toInt ∧ x1.toInt ≤ 8) ∧ x1.toInt ≠ 2 ∧ x1.toInt ≠ 3 ∧ (x1.toInt ≤ 1 → (0 ≤ x2.toInt ∧ x2.toInt ≤ 9)) ∧ (x1.toInt = 6 → (0 ≤ x2.toInt ∧ x2.toInt ≤ 255))) ∧ ((x1.toInt = 8 ∧ (o : Int64).toInt = 0) ∨ (x1.toInt ≠ 8 ∧ (o : Int64).toInt = 1)))) ∨ (k.toInt = 1 ∧ (¬ ((0 ≤ x1.toInt ∧ x1.toInt ≤ 8) ∧ x1.toInt ≠ 2 ∧ x1.toInt ≠ 3 ∧ (x1.toInt ≤ 1 → (0 ≤ x2.toInt ∧ x2.toInt ≤ 9)) ∧ (x1.toInt = 6 → (0 ≤ x2.toInt ∧ x2.toInt ≤ 255)))))) ∧ ∀ i, 116 ≤ i → i ≠ 169 → u[i]? = ws[i]?) (q_B D g (va_A ws sz)) (va_A ws sz)) 5 30 (va_A ws sz) := by
  intro sz
  refine q_intoW (by decide) (Nat.le_of_ble_eq_true rfl) ?_
  intro p e s m below meth c ls hsz C0 V ht hl
  have hx := C0.1
  have hb := C0.2.1
  have hl : lv_has ls 5 [(0, .ref (q 0)), (1, .int x1), (2, .int x2), (3, .ref qo)] := hl
  have hP0 : ws[0]? = (some (q 0, .inr (0, [.ref (q 1), .ref (q 3), .ref (q 5), .ref (q 6), .ref (q 7), .ref (q 8), .ref (q 9), .ref (q 30), .ref (q 34), .ref (q 35), .ref (q 36), .ref (q 38), .ref (q 39), .ref (q 40)])) : Option (Nat × va_E)) := q_fa (i := 0) hfl rfl
  have hP1 : ws[1]? = (some (q 1, .inr (1, [.ref (q 2), .int 4100, .int 0])) : Option (Nat × va_E)) := q_fa (i := 1) hfl rfl
  have hP5 : ws[5]? = (some (q 5, .inl (g 4, 10, .inr (.inr (.inr (.inr (va_up (va_up (va_up (va_up (va_up (va_up (va_up (va_up (va_up (va_up (fun _ => none) 0 (some (q 66))) 1 (some (q 71))) 2 (some (q 76))) 3 (some (q 81))) 4 (some (q 86))) 5 (some (q 91))) 6 (some (q 96))) 7 (some (q 101))) 8 (some (q 106))) 9 (some (q 111)))))))) : Option (Nat × va_E)) := q_fa (i := 5) hfl rfl
  have hP6 : ws[6]? = (some (q 6, .inl (g 5, 10, .inr (.inr (.inr (.inr (va_up (va_up (va_up (va_up (va_up (va_up (va_up (va_up (va_up (va_up (fun _ => none) 0 (some (q 68))) 1 (some (q 73))) 2 (some (q 78))) 3 (some (q 83))) 4 (some (q 88))) 5 (some (q 93))) 6 (some (q 98))) 7 (some (q 103))) 8 (some (q 108))) 9 (some (q 113)))))))) : Option (Nat × va_E)) := q_fa (i := 6) hfl rfl
  have hP40 : ws[40]? = (some (q 40, .inr (11, [.int 0, .ref (q 41), .ref (q 42), .ref (q 43), .ref (q 44), .ref (q 1), .ref (q 47), .ref (q 36), .ref (q 45), .int 0, .int 0, .int 0])) : Option (Nat × va_E)) := q_fa (i := 40) hfl rfl
  have hP41 : ws[41]? = (some (q 41, .inl (g 0, 9, .inl (fun _ => 0))) : Option (Nat × va_E)) := q_fa (i := 41) hfl rfl
  have hP42 : ws[42]? = (some (q 42, .inl (g 1, 9, .inr (.inl (fun _ => 0)))) : Option (Nat × va_E)) := q_fa (i := 42) hfl rfl
  have hP43 : ws[43]? = (some (q 43, .inl (g 0, 9, .inl (fun _ => 0))) : Option (Nat × va_E)) := q_fa (i := 43) hfl rfl
  have hP44 : ws[44]? = (some (q 44, .inl (g 6, 9, .inr (.inr (.inr (.inr (va_up (va_up (va_up (va_up (va_up (va_up (va_up (va_up (va_up (fun _ => none) 0 (some (q 48))) 1 (some (q 50))) 2 (some (q 52))) 3 (some (q 54))) 4 (some (q 56))) 5 (some (q 58))) 6 (some (q 60))) 7 (some (q 62))) 8 (some (q 64)))))))) : Option (Nat × va_E)) := q_fa (i := 44) hfl rfl
  have hP48 : ws[48]? = (some (q 48, .inr (1, [.ref (q 49), .int 64, .int 0])) : Option (Nat × va_E)) := q_fa (i := 48) hfl rfl
  refine lv_aload_n hx hb d_19_0 rfl (lv_at hl 3 rfl) ?_
  refine lv_iconst (v := 0) hx hb d_19_1 (by decide) ?_
  refine lv_aload_n hx hb d_19_2 rfl (lv_at hl 0 rfl) ?_
  refine lv_iload_n hx hb d_19_3 rfl (lv_at hl 1 rfl) ?_
  refine lv_iload_n hx hb d_19_4 rfl (lv_at hl 2 rfl) ?_
  refine q_goxi V (q_runVX (As := [.int x1, .int x2]) (rest := [.int 0, .ref qo]) (d := 8) (mc := 5) (ms := 30) (ci := 0) C0 V rfl LV_NL_69 (c_NH_argument l D g ws hlt (q 0) (q 1) (q 3) (q 5) (q 6) (q 7) (q 8) (q 9) (q 30) (q 34) (q 35) (q 36) (q 38) (q 39) (q 40) (q 2) (q 41) (q 42) (q 43) (q 44) (q 47) (q 45) (q 48) (q 50) (q 52) (q 54) (q 56) (q 58) (q 60) (q 62) (q 64) (q 49) x1 x2 (va_up (va_up (va_up (va_up (va_up (va_up (va_up (va_up (va_up (va_up (fun _ => none) 0 (some (q 66))) 1 (some (q 71))) 2 (some (q 76))) 3 (some (q 81))) 4 (some (q 86))) 5 (some (q 91))) 6 (some (q 96))) 7 (some (q 101))) 8 (some (q 106))) 9 (some (q 111))) (va_up (va_up (va_up (va_up (va_up (va_up (va_up (va_up (va_up (va_up (fun _ => none) 0 (some (q 68))) 1 (some (q 73))) 2 (some (q 78))) 3 (some (q 83))) 4 (some (q 88))) 5 (some (q 93))) 6 (some (q 98))) 7 (some (q 103))) 8 (some (q 108))) 9 (some (q 113))) hP0 hP1 hP5 hP6 hP40 hP41 hP42 hP43 hP44 hP48 (fun i => q (66 + 5 * i)) (fun i => q (67 + 5 * i)) (fun i => q (68 + 5 * i)) (fun i => q (69 + 5 * i)) (fun i => q (70 + 5 * i)) nh_hfW (nh_FW hfl) (nh_FWL hfl) nh_hfD (nh_FD hfl) (nh_FDN hfl) (nh_FDL hfl) _) rfl rfl hP0 rfl hl.1 rfl (Nat.le_of_ble_eq_true rfl) ⟨by decide, by decide⟩ ⟨Nat.le_of_ble_eq_true rfl, Nat.le_of_ble_eq_true rfl⟩ d_19_5) (fun qx Ex ce u1 H locs hp V hce hcv hcl => ?_) (fun rv u1 H locs hp V => ?_)
  ·
    obtain ⟨hp, hF⟩ := hp
    obtain ⟨rfl, hr⟩ := hp
    have hO : u1[169]? = _ := (hF 169 (Nat.le_of_ble_eq_true rfl)).trans hO
    refine q_catch hce hcv hcl (fun pl hpl => q_hY C0 V rfl ht ⟨by decide, by decide⟩ (by decide) w_486 wo_496 hcl pl hpl) ?_
    refine lv_astore (lv' := [(4, .ref qx), (0, .ref (q 0)), (1, .int x1), (2, .int x2), (3, .ref qo)]) hx hb d_19_13 hl (by decide) rfl (fun ls hl => ?_)
    refine lv_iconst (v := 1) hx hb d_19_15 (by decide) ?_
    exact q_reti C0 V (⟨0, q_re hO (q_eL q_updL0.symm), Or.inr (⟨(by decide), hr⟩), fun i h1 _ => hF i h1⟩) d_19_16
  ·
    obtain ⟨hr, hF⟩ := hp
    have hO : u1[169]? = _ := (hF 169 (Nat.le_of_ble_eq_true rfl)).trans hO
    refine lv_i2l hx hb d_19_8 rfl ?_
    refine q_last C0 V hO (by unfold vp_in; decide) d_19_9 (fun H locs w1 hu2 hO V => ?_)
    replace hO : w1[169]? = (some (qo, .inl (g 1, 1, .inr (.inl (vp_updL (fun _ => 0) 0 rv.toInt64)))) : Option (Nat × va_E)) := hO
    refine lv_goto (tgt := 25) hx hb d_19_10 (by decide) ?_
    refine lv_iconst (v := 0) hx hb d_19_25 (by decide) ?_
    exact q_reti C0 V (⟨rv.toInt64, hO, Or.inl ⟨(by decide), (show ((0 ≤ x1.toInt ∧ x1.toInt ≤ 8) ∧ x1.toInt ≠ 2 ∧ x1.toInt ≠ 3 ∧ (x1.toInt ≤ 1 → (0 ≤ x2.toInt ∧ x2.toInt ≤ 9)) ∧ (x1.toInt = 6 → (0 ≤ x2.toInt ∧ x2.toInt ≤ 255))) ∧ ((x1.toInt = 8 ∧ (rv.toInt64 : Int64).toInt = 0) ∨ (x1.toInt ≠ 8 ∧ (rv.toInt64 : Int64).toInt = 1)) from (by have e9 : (rv.toInt64 : Int64).toInt = rv.toInt := q_i2l rfl; omega))⟩, fun i h1 h2 => (hu2 i h2).trans (hF i h1)⟩) d_19_26
theorem d_20_0 : decode method_20_code 0 = .ok (.aload_n 1, 1) := by decide +kernel
theorem d_20_1 : decode method_20_code 1 = .ok (.iconst 0, 1) := by decide +kernel
theorem d_20_2 : decode method_20_code 2 = .ok (.aload_n 0, 1) := by decide +kernel
theorem d_20_3 : decode method_20_code 3 = .ok (.invokevirtual 75, 3) := by decide +kernel
theorem w_1729 : (Cond.code ({ cls := "NumberHouse", name := "format", desc := "()I" } : MethodName) prog_1_method_20_code (2 : Nat) (some .int)) ∈ q_tbl := q_of 1729 (by decide +kernel) (by decide +kernel)
theorem w_1726 : (Cond.methodLink "NumberHouseLaw" (75 : Nat) ({ cls := "NumberHouse", name := "format", desc := "()I" } : MethodName)) ∈ q_tbl := q_of 1726 (by decide +kernel) (by decide +kernel)
theorem w_1727 : (Cond.instanceMethod ({ cls := "NumberHouse", name := "format", desc := "()I" } : MethodName)) ∈ q_tbl := q_of 1727 (by decide +kernel) (by decide +kernel)
theorem w_1728 : (Cond.selects "NumberHouse" ({ cls := "NumberHouse", name := "format", desc := "()I" } : MethodName) ({ cls := "NumberHouse", name := "format", desc := "()I" } : MethodName)) ∈ q_tbl := q_of 1728 (by decide +kernel) (by decide +kernel)
theorem LV_NL_75 : q_LV "NumberHouseLaw" 75 y_NH_format prog_1_method_20_code 2 (some .int) 0 := ⟨w_1729, w_1, w_1726, w_1727, w_1728, ⟨by decide, by decide, by decide +kernel⟩⟩
theorem d_20_6 : decode method_20_code 6 = .ok (.i2l, 1) := by decide +kernel
theorem d_20_7 : decode method_20_code 7 = .ok (.lastore, 1) := by decide +kernel
theorem d_20_8 : decode method_20_code 8 = .ok (.goto 6, 3) := by decide +kernel
theorem d_20_14 : decode method_20_code 14 = .ok (.iconst 0, 1) := by decide +kernel
theorem d_20_15 : decode method_20_code 15 = .ok (.ireturn, 1) := by decide +kernel
def y_NL_format : MethodName := ⟨"NumberHouseLaw", "format", "(LNumberHouse;[J)I"⟩
set_option maxRecDepth 100000 in
set_option maxHeartbeats 4000000 in
theorem c_NL_format (l : Launch) (D : va_G) (g : Nat → ClassId) (ws : va_W) (hlt : l.stackTraces = false) (q : Nat → Nat) (qo : Nat) (hfl : q_fl ws 0 (nh_w g q)) (hO : ws[169]? = (some (qo, .inl (g 1, 1, .inr (.inl (fun _ => 0)))) : Option (Nat × va_E))) : ∀ sz, Met l y_NL_format (q_wW y_NL_format method_20_code 3 (some .int) [(0, 8, 11, 73)]) (q_rm 4 0 0) (q_P D g [.ref (q 0), .ref qo] ws sz) (va_Qi (fun k u => ∃ o : Int64, u[169]? = (some (qo, .inl (g 1, 1, .inr (.inl (vp_updL (fun _ => 0) 0 o)))) : Option (Nat × va_E)) ∧ ((k.toInt = 0 ∧ ((o : Int64).toInt = 0))) ∧ ∀ i, 116 ≤ i → i ≠ 169 → u[i]? = ws[i]?) (q_B D g (va_A ws sz)) (va_A ws sz)) 0 0 (va_A ws sz) := by
  intro sz
  refine q_intoW (by decide) (Nat.le_of_ble_eq_true rfl) ?_
  intro p e s m below meth c ls hsz C0 V ht hl
  have hx := C0.1
  have hb := C0.2.1
  have hl : lv_has ls 3 [(0, .ref (q 0)), (1, .ref qo)] := hl
  have hP0 : ws[0]? = (some (q 0, .inr (0, [.ref (q 1), .ref (q 3), .ref (q 5), .ref (q 6), .ref (q 7), .ref (q 8), .ref (q 9), .ref (q 30), .ref (q 34), .ref (q 35), .ref (q 36), .ref (q 38), .ref (q 39), .ref (q 40)])) : Option (Nat × va_E)) := q_fa (i := 0) hfl rfl
  have hP1 : ws[1]? = (some (q 1, .inr (1, [.ref (q 2), .int 4100, .int 0])) : Option (Nat × va_E)) := q_fa (i := 1) hfl rfl
  have hP3 : ws[3]? = (some (q 3, .inr (1, [.ref (q 4), .int 11008, .int 0])) : Option (Nat × va_E)) := q_fa (i := 3) hfl rfl
  have hP40 : ws[40]? = (some (q 40, .inr (11, [.int 0, .ref (q 41), .ref (q 42), .ref (q 43), .ref (q 44), .ref (q 1), .ref (q 47), .ref (q 36), .ref (q 45), .int 0, .int 0, .int 0])) : Option (Nat × va_E)) := q_fa (i := 40) hfl rfl
  refine lv_aload_n hx hb d_20_0 rfl (lv_at hl 1 rfl) ?_
  refine lv_iconst (v := 0) hx hb d_20_1 (by decide) ?_
  refine lv_aload_n hx hb d_20_2 rfl (lv_at hl 0 rfl) ?_
  refine q_goi V (q_runV (As := []) (rest := [.int 0, .ref qo]) (d := 3) (mc := 0) (ms := 0) (ci := 0) C0 V rfl LV_NL_75 (c_NH_format l D g ws (q 0) (q 1) (q 3) (q 5) (q 6) (q 7) (q 8) (q 9) (q 30) (q 34) (q 35) (q 36) (q 38) (q 39) (q 40) (q 2) (q 4) (q 41) (q 42) (q 43) (q 44) (q 47) (q 45) hP0 hP1 hP3 hP40 _) rfl rfl hP0 rfl hl.1 rfl (Nat.le_of_ble_eq_true rfl) ⟨by decide, by decide⟩ ⟨Nat.le_of_ble_eq_true rfl, Nat.le_of_ble_eq_true rfl⟩ d_20_3) (fun rv u1 H locs hp V => ?_)
  obtain ⟨hr, hF⟩ := hp
  have hO : u1[169]? = _ := (hF 169 (Nat.le_of_ble_eq_true rfl)).trans hO
  refine lv_i2l hx hb d_20_6 rfl ?_
  refine q_last C0 V hO (by unfold vp_in; decide) d_20_7 (fun H locs w1 hu2 hO V => ?_)
  replace hO : w1[169]? = (some (qo, .inl (g 1, 1, .inr (.inl (vp_updL (fun _ => 0) 0 rv.toInt64)))) : Option (Nat × va_E)) := hO
  refine lv_goto (tgt := 14) hx hb d_20_8 (by decide) ?_
  refine lv_iconst (v := 0) hx hb d_20_14 (by decide) ?_
  exact q_reti C0 V (⟨rv.toInt64, hO, ⟨(by decide), (show (rv.toInt64 : Int64).toInt = 0 from (by have e9 : (rv.toInt64 : Int64).toInt = rv.toInt := q_i2l rfl; omega))⟩, fun i h1 h2 => (hu2 i h2).trans (hF i h1)⟩) d_20_15
