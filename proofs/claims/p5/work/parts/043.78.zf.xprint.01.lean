def F_Pri_chooseArgument (t0_0 : Int32) (t0_1 : Int32) (t0_2 : Int32) (t0_3 : Int32) (t1_0 : (Nat → Int32)) (t2_0 : (Nat → Int64)) (t3_0 : (Nat → Int32)) (t4_0 : Int32) (t4_1 : Int32) (t4_2 : Int32) (t4_3 : Int32) (t4_4 : Int32) (t4_5 : Int32) (t4_6 : Int32) : Int32 × Int32 × Int32 × Int32 × Int32 := if ((F_Dir_has (64 : Int32) t4_0 t4_1 t4_2 t4_3 t4_4 t4_5 t4_6) : Int32) = (0 : Int32) then (if t4_0 = (-1 : Int32) then ((((t0_2 + 1 : Int32) - 1 : Int32), t0_0, t0_1, (t0_2 + 1 : Int32), t0_3)) else (((t4_0 - 1 : Int32), t0_0, t0_1, t0_2, t0_3))) else ((t0_3, t0_0, t0_1, t0_2, t0_3))
set_option maxRecDepth 100000 in
set_option maxHeartbeats 4000000 in
theorem X_Pri_chooseArgument (l : Launch) (D : va_G) (g : Nat → ClassId) (q : Nat → Nat) (ws : va_W) (hI : q_I (nsh g q) q ws) (t0_0 : Int32) (t0_1 : Int32) (t0_2 : Int32) (t0_3 : Int32) (hT0 : ws[40]? = (some (q 40, .inr (11, [.int t0_0, .ref (q 41), .ref (q 42), .ref (q 43), .ref (q 44), .ref (q 1), .ref (q 47), .ref (q 36), .ref (q 45), .int t0_1, .int t0_2, .int t0_3])) : Option (Nat × va_E))) (t1_0 : (Nat → Int32)) (hT1 : ws[41]? = (some (q 41, .inl (g 0, 9, .inl t1_0)) : Option (Nat × va_E))) (t2_0 : (Nat → Int64)) (hT2 : ws[42]? = (some (q 42, .inl (g 1, 9, .inr (.inl t2_0))) : Option (Nat × va_E))) (t3_0 : (Nat → Int32)) (hT3 : ws[43]? = (some (q 43, .inl (g 0, 9, .inl t3_0)) : Option (Nat × va_E))) (t4_0 : Int32) (t4_1 : Int32) (t4_2 : Int32) (t4_3 : Int32) (t4_4 : Int32) (t4_5 : Int32) (t4_6 : Int32) (hT4 : ws[47]? = (some (q 47, .inr (10, [.int t4_0, .int t4_1, .int t4_2, .int t4_3, .int t4_4, .int t4_5, .ref (q 1), .int t4_6])) : Option (Nat × va_E))) : q_mI l y_Pri_chooseArgument prog_9_method_7_code 1 (.int) 2 0 0 D g [.ref (q 40)] ws (fun r u => q_I (nsh g q) q u ∧ q_un ws u [40] ∧ ∃ (u0_0 : Int32) (u0_1 : Int32) (u0_2 : Int32) (u0_3 : Int32), u[40]? = (some (q 40, .inr (11, [.int u0_0, .ref (q 41), .ref (q 42), .ref (q 43), .ref (q 44), .ref (q 1), .ref (q 47), .ref (q 36), .ref (q 45), .int u0_1, .int u0_2, .int u0_3])) : Option (Nat × va_E)) ∧ (t0_0.toInt ≤ u0_0.toInt) ∧ (u0_0.toInt ≤ t0_0.toInt) ∧ (t0_1.toInt ≤ u0_1.toInt) ∧ (u0_1.toInt ≤ t0_1.toInt) ∧ (t0_3.toInt ≤ u0_3.toInt) ∧ (u0_3.toInt ≤ t0_3.toInt) ∧ (r, u0_0, u0_1, u0_2, u0_3) = (F_Pri_chooseArgument t0_0 t0_1 t0_2 t0_3 t1_0 t2_0 t3_0 t4_0 t4_1 t4_2 t4_3 t4_4 t4_5 t4_6)) := by
  intro sz
  refine q_into (by decide) (Nat.le_of_ble_eq_true rfl) ?_
  intro p e s m below meth c ls hsz C0 V hl
  have hx := C0.1
  have hb := C0.2.1
  obtain ⟨btt0_0, hZ9⟩ := n_w40 hI hT0
  obtain ⟨btt0_1, btt0_3⟩ := hZ9
  replace btt0_0 : q_F (0 ≤ t0_0.toInt ∧ t0_0.toInt ≤ 9) := btt0_0
  replace btt0_1 : q_F (-1 ≤ t0_1.toInt ∧ t0_1.toInt ≤ 1000000) := btt0_1
  replace btt0_3 : q_F (-1 ≤ t0_3.toInt ∧ t0_3.toInt ≤ 8) := btt0_3
  have hZ9 := (n_w47 hI hT4).2
  obtain ⟨-, btt4_6⟩ := hZ9
  clear btt4_6
  have hF : q_un ws ws [40] := q_u0
  have hl : lv_has ls 1 [(0, .ref (q 40))] := hl
  refine lv_aload_n hx hb d_9_7_0 rfl (lv_at hl 0 rfl) ?_
  refine q_get (ci := 11) (j := 6) (v := .ref (q 47)) C0 V i_Pri rfl rfl hT0 (by decide) w_391 rfl d_9_7_1 ?_
  refine lv_bipush (v := 64) hx hb d_9_7_4 (by decide) ?_
  refine q_goi V (q_runV (As := [.int 64]) (rest := []) (d := 1) (mc := 0) (ms := 0) (ci := 10) C0 V rfl LV_Pri_144 (X_Dir_has l D g q ws  64 hI t4_0 t4_1 t4_2 t4_3 t4_4 t4_5 t4_6 hT4  _) rfl rfl hT4 rfl hl.1 rfl (Nat.le_of_ble_eq_true rfl) ⟨by decide, by decide⟩ ⟨Nat.le_of_ble_eq_true rfl, Nat.le_of_ble_eq_true rfl⟩ d_9_7_6) (fun a30 u28 H locs hp29 V => ?_)
  obtain ⟨rfl, b31, b32, hE33⟩ := hp29
  have e34 : a30 = (F_Dir_has (64 : Int32) t4_0 t4_1 t4_2 t4_3 t4_4 t4_5 t4_6) := hE33
  clear b31
  clear b32
  refine lv_if_eq (tgt := 17) hx hb d_9_7_9 (by decide) (fun c35 => ?_) (fun c35 => ?_)
  ·
    refine lv_aload_n hx hb d_9_7_17 rfl (lv_at hl 0 rfl) ?_
    refine q_get (ci := 11) (j := 6) (v := .ref (q 47)) C0 V i_Pri rfl rfl hT0 (by decide) w_391 rfl d_9_7_18 ?_
    refine q_get (ci := 10) (j := 0) (v := .int t4_0) C0 V i_Dir rfl rfl hT4 (by decide) w_355 rfl d_9_7_21 ?_
    refine lv_iconst (v := (-1)) hx hb d_9_7_24 (by decide) ?_
    refine lv_icmp_eq (tgt := 38) hx hb d_9_7_25 (by decide) (fun c37 => ?_) (fun c37 => ?_)
    ·
      refine lv_aload_n hx hb d_9_7_38 rfl (lv_at hl 0 rfl) ?_
      refine lv_dup hx hb d_9_7_39 rfl ?_
      refine q_get (ci := 11) (j := 10) (v := .int t0_2) C0 V i_Pri rfl rfl hT0 (by decide) w_395 rfl d_9_7_40 ?_
      refine lv_iconst (v := 1) hx hb d_9_7_43 (by decide) ?_
      refine lv_iadd hx hb d_9_7_44 ?_
      obtain ⟨a39, e40⟩ := q_nm (t0_2 + 1 : Int32)
      refine q_ti (v := a39) e40 ?_
      refine q_put (ci := 11) (j := 10) (v := .int a39) (ty := .int) C0 V i_Pri o_Pri n_Pri rfl rfl hT0 (by decide) w_395 rfl rfl rfl rfl (Nat.le_of_ble_eq_true rfl) d_9_7_45 (fun H locs w41 hu42 hT0 V => ?_)
      replace hT0 : w41[40]? = (some (q 40, .inr (11, [.int t0_0, .ref (q 41), .ref (q 42), .ref (q 43), .ref (q 44), .ref (q 1), .ref (q 47), .ref (q 36), .ref (q 45), .int t0_1, .int a39, .int t0_3])) : Option (Nat × va_E)) := hT0
      replace hI := n_p40 hI hu42 hT0 (by first | with_reducible exact q_fe btt0_0 | exact ⟨(by have t1 : 0 ≤ t0_0.toInt ∧ t0_0.toInt ≤ 9 := btt0_0; omega), (by have t1 : 0 ≤ t0_0.toInt ∧ t0_0.toInt ≤ 9 := btt0_0; omega)⟩) (by first | with_reducible exact q_fe btt0_1 | exact ⟨(by have t1 : -1 ≤ t0_1.toInt ∧ t0_1.toInt ≤ 1000000 := btt0_1; omega), (by have t1 : -1 ≤ t0_1.toInt ∧ t0_1.toInt ≤ 1000000 := btt0_1; omega)⟩) (by first | with_reducible exact q_fe btt0_3 | exact ⟨(by have t1 : -1 ≤ t0_3.toInt ∧ t0_3.toInt ≤ 8 := btt0_3; omega), (by have t1 : -1 ≤ t0_3.toInt ∧ t0_3.toInt ≤ 8 := btt0_3; omega)⟩)
      replace hF := q_us hF hu42 (by simp)
      refine lv_aload_n hx hb d_9_7_48 rfl (lv_at hl 0 rfl) ?_
      refine q_get (ci := 11) (j := 10) (v := .int a39) C0 V i_Pri rfl rfl hT0 (by decide) w_395 rfl d_9_7_49 ?_
      refine lv_iconst (v := 1) hx hb d_9_7_52 (by decide) ?_
      refine lv_isub hx hb d_9_7_53 ?_
      obtain ⟨a43, e44⟩ := q_nm (a39 - 1 : Int32)
      refine q_ti (v := a43) e44 ?_
      exact q_reti C0 V (⟨hI, hF, t0_0, t0_1, a39, t0_3, hT0, (show t0_0.toInt ≤ t0_0.toInt from (by omega)), (show t0_0.toInt ≤ t0_0.toInt from (by omega)), (show t0_1.toInt ≤ t0_1.toInt from (by omega)), (show t0_1.toInt ≤ t0_1.toInt from (by omega)), (show t0_3.toInt ≤ t0_3.toInt from (by omega)), (show t0_3.toInt ≤ t0_3.toInt from (by omega)), (show (a43, t0_0, t0_1, a39, t0_3) = (F_Pri_chooseArgument t0_0 t0_1 t0_2 t0_3 t1_0 t2_0 t3_0 t4_0 t4_1 t4_2 t4_3 t4_4 t4_5 t4_6) from (by have c35x := c35; rw [e34] at c35x; rw [← e44, ← e40, F_Pri_chooseArgument.eq_1, if_pos c35x, if_pos c37]))⟩) d_9_7_54
    ·
      refine lv_aload_n hx hb d_9_7_28 rfl (lv_at hl 0 rfl) ?_
      refine q_get (ci := 11) (j := 6) (v := .ref (q 47)) C0 V i_Pri rfl rfl hT0 (by decide) w_391 rfl d_9_7_29 ?_
      refine q_get (ci := 10) (j := 0) (v := .int t4_0) C0 V i_Dir rfl rfl hT4 (by decide) w_355 rfl d_9_7_32 ?_
      refine lv_iconst (v := 1) hx hb d_9_7_35 (by decide) ?_
      refine lv_isub hx hb d_9_7_36 ?_
      obtain ⟨a46, e47⟩ := q_nm (t4_0 - 1 : Int32)
      refine q_ti (v := a46) e47 ?_
      exact q_reti C0 V (⟨hI, hF, t0_0, t0_1, t0_2, t0_3, hT0, (show t0_0.toInt ≤ t0_0.toInt from (by omega)), (show t0_0.toInt ≤ t0_0.toInt from (by omega)), (show t0_1.toInt ≤ t0_1.toInt from (by omega)), (show t0_1.toInt ≤ t0_1.toInt from (by omega)), (show t0_3.toInt ≤ t0_3.toInt from (by omega)), (show t0_3.toInt ≤ t0_3.toInt from (by omega)), (show (a46, t0_0, t0_1, t0_2, t0_3) = (F_Pri_chooseArgument t0_0 t0_1 t0_2 t0_3 t1_0 t2_0 t3_0 t4_0 t4_1 t4_2 t4_3 t4_4 t4_5 t4_6) from (by have c35x := c35; rw [e34] at c35x; rw [← e47, F_Pri_chooseArgument.eq_1, if_pos c35x, if_neg c37]))⟩) d_9_7_37
  ·
    refine lv_aload_n hx hb d_9_7_12 rfl (lv_at hl 0 rfl) ?_
    refine q_get (ci := 11) (j := 11) (v := .int t0_3) C0 V i_Pri rfl rfl hT0 (by decide) w_396 rfl d_9_7_13 ?_
    exact q_reti C0 V (⟨hI, hF, t0_0, t0_1, t0_2, t0_3, hT0, (show t0_0.toInt ≤ t0_0.toInt from (by omega)), (show t0_0.toInt ≤ t0_0.toInt from (by omega)), (show t0_1.toInt ≤ t0_1.toInt from (by omega)), (show t0_1.toInt ≤ t0_1.toInt from (by omega)), (show t0_3.toInt ≤ t0_3.toInt from (by omega)), (show t0_3.toInt ≤ t0_3.toInt from (by omega)), (show (t0_3, t0_0, t0_1, t0_2, t0_3) = (F_Pri_chooseArgument t0_0 t0_1 t0_2 t0_3 t1_0 t2_0 t3_0 t4_0 t4_1 t4_2 t4_3 t4_4 t4_5 t4_6) from (by have c35x := c35; rw [e34] at c35x; rw [F_Pri_chooseArgument.eq_1, if_neg c35x]))⟩) d_9_7_16
def F_Pri_takesKind (x2 : Int32) (t0_0 : Int32) (t0_1 : Int32) (t0_2 : Int32) (t0_3 : Int32) (t0_4 : Int32) (t0_5 : Int32) (t0_6 : Int32) : Int32 := if x2 = (0 : Int32) then ((1 : Int32)) else (if ((F_Dir_isOneOf_8 t0_0 t0_1 t0_2 t0_3 t0_4 t0_5 t0_6) : Int32) = (0 : Int32) then (if ((F_Dir_isOneOf_9 t0_0 t0_1 t0_2 t0_3 t0_4 t0_5 t0_6) : Int32) = (0 : Int32) then (if ((F_Dir_isOneOf_10 t0_0 t0_1 t0_2 t0_3 t0_4 t0_5 t0_6) : Int32) = (0 : Int32) then (if x2 = (5 : Int32) then ((1 : Int32)) else ((0 : Int32))) else (if x2 = (3 : Int32) then ((1 : Int32)) else ((0 : Int32)))) else (if x2 = (2 : Int32) then ((1 : Int32)) else ((0 : Int32)))) else ((1 : Int32)))
set_option maxRecDepth 100000 in
set_option maxHeartbeats 4000000 in
theorem X_Pri_takesKind (l : Launch) (D : va_G) (g : Nat → ClassId) (q : Nat → Nat) (ws : va_W) (x2 : Int32) (hI : q_I (nsh g q) q ws) (t0_0 : Int32) (t0_1 : Int32) (t0_2 : Int32) (t0_3 : Int32) (t0_4 : Int32) (t0_5 : Int32) (t0_6 : Int32) (hT0 : ws[47]? = (some (q 47, .inr (10, [.int t0_0, .int t0_1, .int t0_2, .int t0_3, .int t0_4, .int t0_5, .ref (q 1), .int t0_6])) : Option (Nat × va_E))) : q_mI l y_Pri_takesKind prog_9_method_8_code 2 (.boolean) 6 0 0 D g [.ref (q 40), .int x2] ws (fun r u => ws = u ∧ (0 ≤ r.toInt) ∧ (r.toInt ≤ 1) ∧ r = (F_Pri_takesKind x2 t0_0 t0_1 t0_2 t0_3 t0_4 t0_5 t0_6)) := by
  intro sz
  refine q_into (by decide) (Nat.le_of_ble_eq_true rfl) ?_
  intro p e s m below meth c ls hsz C0 V hl
  have hx := C0.1
  have hb := C0.2.1
  have hZ9 := (n_w47 hI hT0).2
  obtain ⟨-, btt0_6⟩ := hZ9
  clear btt0_6
  have hl : lv_has ls 2 [(0, .ref (q 40)), (1, .int x2)] := hl
  refine lv_iload_n hx hb d_9_8_0 rfl (lv_at hl 1 rfl) ?_
  refine lv_if_eq (tgt := 16) hx hb d_9_8_1 (by decide) (fun c12 => ?_) (fun c12 => ?_)
  ·
    refine lv_iconst (v := 1) hx hb d_9_8_16 (by decide) ?_
    exact q_retz C0 V (by decide) (⟨rfl, (show 0 ≤ (1 : Int32).toInt from (by have z8 : (1 : Int32).toInt = 1 := rfl; omega)), (show (1 : Int32).toInt ≤ 1 from (by have z8 : (1 : Int32).toInt = 1 := rfl; omega)), (show (1 : Int32) = (F_Pri_takesKind x2 t0_0 t0_1 t0_2 t0_3 t0_4 t0_5 t0_6) from (by rw [F_Pri_takesKind.eq_1, if_pos c12]))⟩) d_9_8_17
  ·
    refine lv_aload_n hx hb d_9_8_4 rfl (lv_at hl 0 rfl) ?_
    obtain ⟨y16, hZ9⟩ := n_o40 hI
    obtain ⟨y18, hZ9⟩ := hZ9
    obtain ⟨y20, hZ9⟩ := hZ9
    obtain ⟨y21, hZ9⟩ := hZ9
    obtain ⟨hO15, hZ9⟩ := hZ9
    replace hZ9 := hZ9.2
    obtain ⟨-, b22⟩ := hZ9
    clear b22
    refine q_get (ci := 11) (j := 6) (v := .ref (q 47)) C0 V i_Pri rfl rfl hO15 (by decide) w_391 rfl d_9_8_5 ?_
    refine q_ldcs (i := 8) C0 V rfl rfl d_9_8_8 ?_
    refine q_goi V (q_runV (As := [.ref (g (8 + 2 * 8))]) (rest := []) (d := 5) (mc := 0) (ms := 0) (ci := 10) C0 V rfl LV_Pri_133 (X_Dir_isOneOf_8 l D g q ws   hI t0_0 t0_1 t0_2 t0_3 t0_4 t0_5 t0_6 hT0  _) rfl rfl hT0 rfl hl.1 rfl (Nat.le_of_ble_eq_true rfl) ⟨by decide, by decide⟩ ⟨Nat.le_of_ble_eq_true rfl, Nat.le_of_ble_eq_true rfl⟩ d_9_8_10) (fun a25 u23 H locs hp24 V => ?_)
    obtain ⟨rfl, b26, b27, hE28⟩ := hp24
    have e29 : a25 = (F_Dir_isOneOf_8 t0_0 t0_1 t0_2 t0_3 t0_4 t0_5 t0_6) := hE28
    clear b26
    clear b27
    refine lv_if_eq (tgt := 18) hx hb d_9_8_13 (by decide) (fun c30 => ?_) (fun c30 => ?_)
    ·
      refine lv_aload_n hx hb d_9_8_18 rfl (lv_at hl 0 rfl) ?_
      refine q_get (ci := 11) (j := 6) (v := .ref (q 47)) C0 V i_Pri rfl rfl hO15 (by decide) w_391 rfl d_9_8_19 ?_
      refine q_ldcs (i := 9) C0 V rfl rfl d_9_8_22 ?_
      refine q_goi V (q_runV (As := [.ref (g (8 + 2 * 9))]) (rest := []) (d := 5) (mc := 0) (ms := 0) (ci := 10) C0 V rfl LV_Pri_133 (X_Dir_isOneOf_9 l D g q ws   hI t0_0 t0_1 t0_2 t0_3 t0_4 t0_5 t0_6 hT0  _) rfl rfl hT0 rfl hl.1 rfl (Nat.le_of_ble_eq_true rfl) ⟨by decide, by decide⟩ ⟨Nat.le_of_ble_eq_true rfl, Nat.le_of_ble_eq_true rfl⟩ d_9_8_24) (fun a34 u32 H locs hp33 V => ?_)
      obtain ⟨rfl, b35, b36, hE37⟩ := hp33
      have e38 : a34 = (F_Dir_isOneOf_9 t0_0 t0_1 t0_2 t0_3 t0_4 t0_5 t0_6) := hE37
      clear b35
      clear b36
      refine lv_if_eq (tgt := 41) hx hb d_9_8_27 (by decide) (fun c39 => ?_) (fun c39 => ?_)
      ·
        refine lv_iload_n hx hb d_9_8_41 rfl (lv_at hl 1 rfl) ?_
        refine lv_aload_n hx hb d_9_8_42 rfl (lv_at hl 0 rfl) ?_
        refine q_get (ci := 11) (j := 6) (v := .ref (q 47)) C0 V i_Pri rfl rfl hO15 (by decide) w_391 rfl d_9_8_43 ?_
        refine q_ldcs (i := 10) C0 V rfl rfl d_9_8_46 ?_
        refine q_goi V (q_runV (As := [.ref (g (8 + 2 * 10))]) (rest := [.int x2]) (d := 5) (mc := 0) (ms := 0) (ci := 10) C0 V rfl LV_Pri_133 (X_Dir_isOneOf_10 l D g q ws   hI t0_0 t0_1 t0_2 t0_3 t0_4 t0_5 t0_6 hT0  _) rfl rfl hT0 rfl hl.1 rfl (Nat.le_of_ble_eq_true rfl) ⟨by decide, by decide⟩ ⟨Nat.le_of_ble_eq_true rfl, Nat.le_of_ble_eq_true rfl⟩ d_9_8_48) (fun a43 u41 H locs hp42 V => ?_)
        obtain ⟨rfl, b44, b45, hE46⟩ := hp42
        have e47 : a43 = (F_Dir_isOneOf_10 t0_0 t0_1 t0_2 t0_3 t0_4 t0_5 t0_6) := hE46
        clear b44
        clear b45
        refine lv_if_eq (tgt := 58) hx hb d_9_8_51 (by decide) (fun c48 => ?_) (fun c48 => ?_)
        ·
          refine lv_iconst (v := 5) hx hb d_9_8_58 (by decide) ?_
          refine lv_icmp_ne (tgt := 66) hx hb d_9_8_59 (by decide) (fun c50 => ?_) (fun c50 => ?_)
          ·
            refine lv_iconst (v := 0) hx hb d_9_8_66 (by decide) ?_
            exact q_retz C0 V (by decide) (⟨rfl, (show 0 ≤ (0 : Int32).toInt from (by have z8 : (0 : Int32).toInt = 0 := rfl; omega)), (show (0 : Int32).toInt ≤ 1 from (by have z8 : (0 : Int32).toInt = 0 := rfl; omega)), (show (0 : Int32) = (F_Pri_takesKind x2 t0_0 t0_1 t0_2 t0_3 t0_4 t0_5 t0_6) from (by have c30x := c30; rw [e29] at c30x; have c39x := c39; rw [e38] at c39x; have c48x := c48; rw [e47] at c48x; rw [F_Pri_takesKind.eq_1, if_neg c12, if_pos c30x, if_pos c39x, if_pos c48x, if_neg c50]))⟩) d_9_8_67
          ·
            refine lv_iconst (v := 1) hx hb d_9_8_62 (by decide) ?_
            refine lv_goto (tgt := 67) hx hb d_9_8_63 (by decide) ?_
            exact q_retz C0 V (by decide) (⟨rfl, (show 0 ≤ (1 : Int32).toInt from (by have z8 : (1 : Int32).toInt = 1 := rfl; omega)), (show (1 : Int32).toInt ≤ 1 from (by have z8 : (1 : Int32).toInt = 1 := rfl; omega)), (show (1 : Int32) = (F_Pri_takesKind x2 t0_0 t0_1 t0_2 t0_3 t0_4 t0_5 t0_6) from (by have c30x := c30; rw [e29] at c30x; have c39x := c39; rw [e38] at c39x; have c48x := c48; rw [e47] at c48x; rw [F_Pri_takesKind.eq_1, if_neg c12, if_pos c30x, if_pos c39x, if_pos c48x, if_pos c50]))⟩) d_9_8_67
        ·
          refine lv_iconst (v := 3) hx hb d_9_8_54 (by decide) ?_
          refine lv_goto (tgt := 59) hx hb d_9_8_55 (by decide) ?_
          refine lv_icmp_ne (tgt := 66) hx hb d_9_8_59 (by decide) (fun c54 => ?_) (fun c54 => ?_)
          ·
            refine lv_iconst (v := 0) hx hb d_9_8_66 (by decide) ?_
            exact q_retz C0 V (by decide) (⟨rfl, (show 0 ≤ (0 : Int32).toInt from (by have z8 : (0 : Int32).toInt = 0 := rfl; omega)), (show (0 : Int32).toInt ≤ 1 from (by have z8 : (0 : Int32).toInt = 0 := rfl; omega)), (show (0 : Int32) = (F_Pri_takesKind x2 t0_0 t0_1 t0_2 t0_3 t0_4 t0_5 t0_6) from (by have c30x := c30; rw [e29] at c30x; have c39x := c39; rw [e38] at c39x; have c48x := c48; rw [e47] at c48x; rw [F_Pri_takesKind.eq_1, if_neg c12, if_pos c30x, if_pos c39x, if_neg c48x, if_neg c54]))⟩) d_9_8_67
          ·
            refine lv_iconst (v := 1) hx hb d_9_8_62 (by decide) ?_
            refine lv_goto (tgt := 67) hx hb d_9_8_63 (by decide) ?_
            exact q_retz C0 V (by decide) (⟨rfl, (show 0 ≤ (1 : Int32).toInt from (by have z8 : (1 : Int32).toInt = 1 := rfl; omega)), (show (1 : Int32).toInt ≤ 1 from (by have z8 : (1 : Int32).toInt = 1 := rfl; omega)), (show (1 : Int32) = (F_Pri_takesKind x2 t0_0 t0_1 t0_2 t0_3 t0_4 t0_5 t0_6) from (by have c30x := c30; rw [e29] at c30x; have c39x := c39; rw [e38] at c39x; have c48x := c48; rw [e47] at c48x; rw [F_Pri_takesKind.eq_1, if_neg c12, if_pos c30x, if_pos c39x, if_neg c48x, if_pos c54]))⟩) d_9_8_67
      ·
        refine lv_iload_n hx hb d_9_8_30 rfl (lv_at hl 1 rfl) ?_
        refine lv_iconst (v := 2) hx hb d_9_8_31 (by decide) ?_
        refine lv_icmp_ne (tgt := 39) hx hb d_9_8_32 (by decide) (fun c58 => ?_) (fun c58 => ?_)
        ·
          refine lv_iconst (v := 0) hx hb d_9_8_39 (by decide) ?_
          exact q_retz C0 V (by decide) (⟨rfl, (show 0 ≤ (0 : Int32).toInt from (by have z8 : (0 : Int32).toInt = 0 := rfl; omega)), (show (0 : Int32).toInt ≤ 1 from (by have z8 : (0 : Int32).toInt = 0 := rfl; omega)), (show (0 : Int32) = (F_Pri_takesKind x2 t0_0 t0_1 t0_2 t0_3 t0_4 t0_5 t0_6) from (by have c30x := c30; rw [e29] at c30x; have c39x := c39; rw [e38] at c39x; rw [F_Pri_takesKind.eq_1, if_neg c12, if_pos c30x, if_neg c39x, if_neg c58]))⟩) d_9_8_40
        ·
          refine lv_iconst (v := 1) hx hb d_9_8_35 (by decide) ?_
          refine lv_goto (tgt := 40) hx hb d_9_8_36 (by decide) ?_
          exact q_retz C0 V (by decide) (⟨rfl, (show 0 ≤ (1 : Int32).toInt from (by have z8 : (1 : Int32).toInt = 1 := rfl; omega)), (show (1 : Int32).toInt ≤ 1 from (by have z8 : (1 : Int32).toInt = 1 := rfl; omega)), (show (1 : Int32) = (F_Pri_takesKind x2 t0_0 t0_1 t0_2 t0_3 t0_4 t0_5 t0_6) from (by have c30x := c30; rw [e29] at c30x; have c39x := c39; rw [e38] at c39x; rw [F_Pri_takesKind.eq_1, if_neg c12, if_pos c30x, if_neg c39x, if_pos c58]))⟩) d_9_8_40
    ·
      refine lv_iconst (v := 1) hx hb d_9_8_16 (by decide) ?_
      exact q_retz C0 V (by decide) (⟨rfl, (show 0 ≤ (1 : Int32).toInt from (by have z8 : (1 : Int32).toInt = 1 := rfl; omega)), (show (1 : Int32).toInt ≤ 1 from (by have z8 : (1 : Int32).toInt = 1 := rfl; omega)), (show (1 : Int32) = (F_Pri_takesKind x2 t0_0 t0_1 t0_2 t0_3 t0_4 t0_5 t0_6) from (by have c30x := c30; rw [e29] at c30x; rw [F_Pri_takesKind.eq_1, if_neg c12, if_neg c30x]))⟩) d_9_8_17
def F_Pri_findFault_c27 (t0_0 : Int32) (t0_1 : Int32) (t0_2 : Int32) (t0_3 : Int32) (t1_0 : (Nat → Int32)) (t2_0 : (Nat → Int64)) (t3_0 : (Nat → Int32)) (t4_0 : Int32) (t4_1 : Int32) (t4_2 : Int32) (t4_3 : Int32) (t4_4 : Int32) (t4_5 : Int32) (t4_6 : Int32) (a30 : Int32) (p63 : (Int32 × Int32 × Int32 × Int32 × Int32)) : Int32 × Int32 × Int32 × Int32 × Int32 := if (p63.1 : Int32) < (0 : Int32) then (((9 : Int32), (p63.2.1 : Int32), (p63.2.2.1 : Int32), (p63.2.2.2.1 : Int32), (p63.2.2.2.2 : Int32))) else (if (p63.1 : Int32) < (p63.2.1 : Int32) then (if ((F_Pri_takesKind (t1_0 (p63.1 : Int32).toNatClampNeg : Int32) t4_0 t4_1 t4_2 t4_3 t4_4 t4_5 t4_6) : Int32) = (0 : Int32) then (((10 : Int32), (p63.2.1 : Int32), (p63.2.2.1 : Int32), (p63.2.2.2.1 : Int32), (p63.1 : Int32))) else (((0 : Int32), (p63.2.1 : Int32), (p63.2.2.1 : Int32), (p63.2.2.2.1 : Int32), (p63.1 : Int32)))) else (((9 : Int32), (p63.2.1 : Int32), (p63.2.2.1 : Int32), (p63.2.2.2.1 : Int32), (p63.2.2.2.2 : Int32))))
def F_Pri_findFault (t0_0 : Int32) (t0_1 : Int32) (t0_2 : Int32) (t0_3 : Int32) (t1_0 : (Nat → Int32)) (t2_0 : (Nat → Int64)) (t3_0 : (Nat → Int32)) (t4_0 : Int32) (t4_1 : Int32) (t4_2 : Int32) (t4_3 : Int32) (t4_4 : Int32) (t4_5 : Int32) (t4_6 : Int32) : Int32 × Int32 × Int32 × Int32 × Int32 := if ((F_Dir_fault t4_0 t4_1 t4_2 t4_3 t4_4 t4_5 t4_6) : Int32) = (0 : Int32) then (if ((F_Dir_isOneOf_7 t4_0 t4_1 t4_2 t4_3 t4_4 t4_5 t4_6) : Int32) = (0 : Int32) then (F_Pri_findFault_c27 t0_0 t0_1 t0_2 t0_3 t1_0 t2_0 t3_0 t4_0 t4_1 t4_2 t4_3 t4_4 t4_5 t4_6 ((F_Dir_fault t4_0 t4_1 t4_2 t4_3 t4_4 t4_5 t4_6) : Int32) ((F_Pri_chooseArgument t0_0 t0_1 t0_2 t0_3 t1_0 t2_0 t3_0 t4_0 t4_1 t4_2 t4_3 t4_4 t4_5 t4_6) : (Int32 × Int32 × Int32 × Int32 × Int32))) else ((((F_Dir_fault t4_0 t4_1 t4_2 t4_3 t4_4 t4_5 t4_6) : Int32), t0_0, t0_1, t0_2, t0_3))) else ((((F_Dir_fault t4_0 t4_1 t4_2 t4_3 t4_4 t4_5 t4_6) : Int32), t0_0, t0_1, t0_2, t0_3))
set_option maxRecDepth 100000 in
set_option maxHeartbeats 4000000 in
theorem X_Pri_findFault (l : Launch) (D : va_G) (g : Nat → ClassId) (q : Nat → Nat) (ws : va_W) (hI : q_I (nsh g q) q ws) (t0_0 : Int32) (t0_1 : Int32) (t0_2 : Int32) (t0_3 : Int32) (hT0 : ws[40]? = (some (q 40, .inr (11, [.int t0_0, .ref (q 41), .ref (q 42), .ref (q 43), .ref (q 44), .ref (q 1), .ref (q 47), .ref (q 36), .ref (q 45), .int t0_1, .int t0_2, .int t0_3])) : Option (Nat × va_E))) (t1_0 : (Nat → Int32)) (hT1 : ws[41]? = (some (q 41, .inl (g 0, 9, .inl t1_0)) : Option (Nat × va_E))) (t2_0 : (Nat → Int64)) (hT2 : ws[42]? = (some (q 42, .inl (g 1, 9, .inr (.inl t2_0))) : Option (Nat × va_E))) (t3_0 : (Nat → Int32)) (hT3 : ws[43]? = (some (q 43, .inl (g 0, 9, .inl t3_0)) : Option (Nat × va_E))) (t4_0 : Int32) (t4_1 : Int32) (t4_2 : Int32) (t4_3 : Int32) (t4_4 : Int32) (t4_5 : Int32) (t4_6 : Int32) (hT4 : ws[47]? = (some (q 47, .inr (10, [.int t4_0, .int t4_1, .int t4_2, .int t4_3, .int t4_4, .int t4_5, .ref (q 1), .int t4_6])) : Option (Nat × va_E))) : q_mI l y_Pri_findFault prog_9_method_6_code 3 (.int) 8 0 0 D g [.ref (q 40)] ws (fun r u => q_I (nsh g q) q u ∧ q_un ws u [40] ∧ ∃ (u0_0 : Int32) (u0_1 : Int32) (u0_2 : Int32) (u0_3 : Int32), u[40]? = (some (q 40, .inr (11, [.int u0_0, .ref (q 41), .ref (q 42), .ref (q 43), .ref (q 44), .ref (q 1), .ref (q 47), .ref (q 36), .ref (q 45), .int u0_1, .int u0_2, .int u0_3])) : Option (Nat × va_E)) ∧ (r.toInt ≤ 10) ∧ (0 ≤ u0_3.toInt + 1) ∧ (u0_3.toInt ≤ 8) ∧ (t4_6.toInt ≤ r.toInt) ∧ (t0_0.toInt ≤ u0_0.toInt) ∧ (u0_0.toInt ≤ t0_0.toInt) ∧ (t0_1.toInt ≤ u0_1.toInt) ∧ (u0_1.toInt ≤ t0_1.toInt) ∧ (t0_3.toInt ≤ u0_3.toInt + 8) ∧ (r.toInt ≤ u0_0.toInt + 9) ∧ (r.toInt ≤ u0_3.toInt + 10) ∧ (r, u0_0, u0_1, u0_2, u0_3) = (F_Pri_findFault t0_0 t0_1 t0_2 t0_3 t1_0 t2_0 t3_0 t4_0 t4_1 t4_2 t4_3 t4_4 t4_5 t4_6)) := by
  intro sz
  refine q_into (by decide) (Nat.le_of_ble_eq_true rfl) ?_
  intro p e s m below meth c ls hsz C0 V hl
  have hx := C0.1
  have hb := C0.2.1
  obtain ⟨btt0_0, hZ9⟩ := n_w40 hI hT0
  obtain ⟨btt0_1, btt0_3⟩ := hZ9
  replace btt0_0 : q_F (0 ≤ t0_0.toInt ∧ t0_0.toInt ≤ 9) := btt0_0
  replace btt0_1 : q_F (-1 ≤ t0_1.toInt ∧ t0_1.toInt ≤ 1000000) := btt0_1
  replace btt0_3 : q_F (-1 ≤ t0_3.toInt ∧ t0_3.toInt ≤ 8) := btt0_3
  have hZ9 := (n_w47 hI hT4).2
  obtain ⟨-, btt4_6⟩ := hZ9
  replace btt4_6 : q_F (0 ≤ t4_6.toInt ∧ t4_6.toInt ≤ 1) := btt4_6
  have hF : q_un ws ws [40] := q_u0
  have hl : lv_has ls 3 [(0, .ref (q 40))] := hl
  refine lv_aload_n hx hb d_9_6_0 rfl (lv_at hl 0 rfl) ?_
  refine q_get (ci := 11) (j := 6) (v := .ref (q 47)) C0 V i_Pri rfl rfl hT0 (by decide) w_391 rfl d_9_6_1 ?_
  refine q_goi V (q_runV (As := []) (rest := []) (d := 7) (mc := 0) (ms := 0) (ci := 10) C0 V rfl LV_Pri_128 (X_Dir_fault l D g q ws   hI t4_0 t4_1 t4_2 t4_3 t4_4 t4_5 t4_6 hT4  _) rfl rfl hT4 rfl hl.1 rfl (Nat.le_of_ble_eq_true rfl) ⟨by decide, by decide⟩ ⟨Nat.le_of_ble_eq_true rfl, Nat.le_of_ble_eq_true rfl⟩ d_9_6_4) (fun a30 u28 H locs hp29 V => ?_)
  obtain ⟨rfl, b31, b32, hE33⟩ := hp29
  have e34 : a30 = (F_Dir_fault t4_0 t4_1 t4_2 t4_3 t4_4 t4_5 t4_6) := hE33
  replace b31 : q_F (a30.toInt ≤ 8) := b31
  replace b32 : q_F (t4_6.toInt ≤ a30.toInt) := b32
  refine lv_istore_n (lv' := [(1, .int a30), (0, .ref (q 40))]) hx hb d_9_6_7 rfl hl (by decide) rfl (fun ls hl => ?_)
  refine lv_iload_n hx hb d_9_6_8 rfl (lv_at hl 0 rfl) ?_
  refine lv_if_ne (tgt := 24) hx hb d_9_6_9 (by decide) (fun c35 => ?_) (fun c35 => ?_)
  ·
    refine lv_iload_n hx hb d_9_6_24 rfl (lv_at hl 0 rfl) ?_
    exact q_reti C0 V (⟨hI, hF, t0_0, t0_1, t0_2, t0_3, hT0, (show a30.toInt ≤ 10 from (by first | with_reducible exact q_fe b31 | (have t1 : a30.toInt ≤ 8 := b31; omega))), (show 0 ≤ t0_3.toInt + 1 from (by first | with_reducible exact (q_fe btt0_3).2 | with_reducible exact (q_fe btt0_3).1 | (have t1 : -1 ≤ t0_3.toInt ∧ t0_3.toInt ≤ 8 := btt0_3; omega))), (show t0_3.toInt ≤ 8 from (by first | with_reducible exact (q_fe btt0_3).2 | with_reducible exact (q_fe btt0_3).1 | (have t1 : -1 ≤ t0_3.toInt ∧ t0_3.toInt ≤ 8 := btt0_3; omega))), (show t4_6.toInt ≤ a30.toInt from (by first | with_reducible exact q_fe b32 | (have t1 : t4_6.toInt ≤ a30.toInt := b32; omega))), (show t0_0.toInt ≤ t0_0.toInt from (by omega)), (show t0_0.toInt ≤ t0_0.toInt from (by omega)), (show t0_1.toInt ≤ t0_1.toInt from (by omega)), (show t0_1.toInt ≤ t0_1.toInt from (by omega)), (show t0_3.toInt ≤ t0_3.toInt + 8 from (by omega)), (show a30.toInt ≤ t0_0.toInt + 9 from (by have t1 : 0 ≤ t0_0.toInt ∧ t0_0.toInt ≤ 9 := btt0_0; have t2 : a30.toInt ≤ 8 := b31; omega)), (show a30.toInt ≤ t0_3.toInt + 10 from (by have t1 : -1 ≤ t0_3.toInt ∧ t0_3.toInt ≤ 8 := btt0_3; have t2 : a30.toInt ≤ 8 := b31; omega)), (show (a30, t0_0, t0_1, t0_2, t0_3) = (F_Pri_findFault t0_0 t0_1 t0_2 t0_3 t1_0 t2_0 t3_0 t4_0 t4_1 t4_2 t4_3 t4_4 t4_5 t4_6) from (by have c35x := c35; rw [e34] at c35x; rw [e34, F_Pri_findFault.eq_1, if_neg c35x]))⟩) d_9_6_25
  ·
    have b37 : q_F (a30.toInt = 0) := (q_eqI c35)
    refine lv_aload_n hx hb d_9_6_12 rfl (lv_at hl 1 rfl) ?_
    refine q_get (ci := 11) (j := 6) (v := .ref (q 47)) C0 V i_Pri rfl rfl hT0 (by decide) w_391 rfl d_9_6_13 ?_
    refine q_ldcs (i := 7) C0 V rfl rfl d_9_6_16 ?_
    refine q_goi V (q_runV (As := [.ref (g (8 + 2 * 7))]) (rest := []) (d := 5) (mc := 0) (ms := 0) (ci := 10) C0 V rfl LV_Pri_133 (X_Dir_isOneOf_7 l D g q ws   hI t4_0 t4_1 t4_2 t4_3 t4_4 t4_5 t4_6 hT4  _) rfl rfl hT4 rfl hl.1 rfl (Nat.le_of_ble_eq_true rfl) ⟨by decide, by decide⟩ ⟨Nat.le_of_ble_eq_true rfl, Nat.le_of_ble_eq_true rfl⟩ d_9_6_18) (fun a40 u38 H locs hp39 V => ?_)
    obtain ⟨rfl, b41, b42, hE43⟩ := hp39
    have e44 : a40 = (F_Dir_isOneOf_7 t4_0 t4_1 t4_2 t4_3 t4_4 t4_5 t4_6) := hE43
    clear b41
    clear b42
    refine lv_if_eq (tgt := 26) hx hb d_9_6_21 (by decide) (fun c45 => ?_) (fun c45 => ?_)
    ·
      refine lv_aload_n hx hb d_9_6_26 rfl (lv_at hl 1 rfl) ?_
      refine q_goi V (q_runV (As := []) (rest := []) (d := 2) (mc := 0) (ms := 0) (ci := 11) C0 V rfl LV_Pri_137 (X_Pri_chooseArgument l D g q ws   hI t0_0 t0_1 t0_2 t0_3 hT0 t1_0 hT1 t2_0 hT2 t3_0 hT3 t4_0 t4_1 t4_2 t4_3 t4_4 t4_5 t4_6 hT4  _) rfl rfl hT0 rfl hl.1 rfl (Nat.le_of_ble_eq_true rfl) ⟨by decide, by decide⟩ ⟨Nat.le_of_ble_eq_true rfl, Nat.le_of_ble_eq_true rfl⟩ d_9_6_27) (fun a49 u47 H locs hp48 V => ?_)
      obtain ⟨hI, hZ9⟩ := hp48
      obtain ⟨hu62, hZ9⟩ := hZ9
      obtain ⟨y51, hZ9⟩ := hZ9
      obtain ⟨y52, hZ9⟩ := hZ9
      obtain ⟨y53, hZ9⟩ := hZ9
      obtain ⟨y54, hZ9⟩ := hZ9
      obtain ⟨hO50, hZ9⟩ := hZ9
      obtain ⟨b55, hZ9⟩ := hZ9
      obtain ⟨b56, hZ9⟩ := hZ9
      obtain ⟨b57, hZ9⟩ := hZ9
      obtain ⟨b58, hZ9⟩ := hZ9
      obtain ⟨b59, hZ9⟩ := hZ9
      obtain ⟨b60, hE61⟩ := hZ9
      replace hO50 : u47[40]? = (some (q 40, .inr (11, [.int y51, .ref (q 41), .ref (q 42), .ref (q 43), .ref (q 44), .ref (q 1), .ref (q 47), .ref (q 36), .ref (q 45), .int y52, .int y53, .int y54])) : Option (Nat × va_E)) := hO50
      obtain ⟨p63, e64⟩ : ∃ z, z = (F_Pri_chooseArgument t0_0 t0_1 t0_2 t0_3 t1_0 t2_0 t3_0 t4_0 t4_1 t4_2 t4_3 t4_4 t4_5 t4_6) := ⟨_, rfl⟩
      have e65 : a49 = p63.1 := congrArg (fun z => z.1) (hE61.trans e64.symm)
      have e66 : y51 = p63.2.1 := congrArg (fun z => z.2.1) (hE61.trans e64.symm)
      have e67 : y52 = p63.2.2.1 := congrArg (fun z => z.2.2.1) (hE61.trans e64.symm)
      have e68 : y53 = p63.2.2.2.1 := congrArg (fun z => z.2.2.2.1) (hE61.trans e64.symm)
      have e69 : y54 = p63.2.2.2.2 := congrArg (fun z => z.2.2.2.2) (hE61.trans e64.symm)
      replace b55 : q_F (t0_0.toInt ≤ y51.toInt) := b55
      replace b56 : q_F (y51.toInt ≤ t0_0.toInt) := b56
      replace b57 : q_F (t0_1.toInt ≤ y52.toInt) := b57
      replace b58 : q_F (y52.toInt ≤ t0_1.toInt) := b58
      replace b59 : q_F (t0_3.toInt ≤ y54.toInt) := b59
      replace b60 : q_F (y54.toInt ≤ t0_3.toInt) := b60
      replace hT1 := (hu62 _ (by decide)).trans hT1
      replace hT4 := (hu62 _ (by decide)).trans hT4
      replace hF := q_uc hF hu62 (by first | exact (q_sk (q_mi 0 rfl) q_s0) | simp)
      have hR70 := (show F_Pri_findFault_c27 t0_0 t0_1 t0_2 t0_3 t1_0 t2_0 t3_0 t4_0 t4_1 t4_2 t4_3 t4_4 t4_5 t4_6 a30 p63 = (F_Pri_findFault t0_0 t0_1 t0_2 t0_3 t1_0 t2_0 t3_0 t4_0 t4_1 t4_2 t4_3 t4_4 t4_5 t4_6) from (by have c35x := c35; rw [e34] at c35x; have c45x := c45; rw [e44] at c45x; rw [e64, e34, F_Pri_findFault.eq_1, if_pos c35x, if_pos c45x]))
      refine lv_istore_n (lv' := [(2, .int a49), (1, .int a30), (0, .ref (q 40))]) hx hb d_9_6_30 rfl hl (by decide) rfl (fun ls hl => ?_)
      refine lv_iload_n hx hb d_9_6_31 rfl (lv_at hl 0 rfl) ?_
      refine lv_if_lt (tgt := 43) hx hb d_9_6_32 (by decide) (fun c75 => ?_) (fun c75 => ?_)
      ·
        refine lv_bipush (v := 9) hx hb d_9_6_43 (by decide) ?_
        exact q_reti C0 V (⟨hI, hF, y51, y52, y53, y54, hO50, (show (9 : Int32).toInt ≤ 10 from (by have z14 : (9 : Int32).toInt = 9 := rfl; omega)), (show 0 ≤ y54.toInt + 1 from (by have z14 : (9 : Int32).toInt = 9 := rfl; have t1 : -1 ≤ t0_3.toInt ∧ t0_3.toInt ≤ 8 := btt0_3; have t2 : t0_3.toInt ≤ y54.toInt := b59; omega)), (show y54.toInt ≤ 8 from (by have z14 : (9 : Int32).toInt = 9 := rfl; have t1 : -1 ≤ t0_3.toInt ∧ t0_3.toInt ≤ 8 := btt0_3; have t2 : y54.toInt ≤ t0_3.toInt := b60; omega)), (show t4_6.toInt ≤ (9 : Int32).toInt from (by have z14 : (9 : Int32).toInt = 9 := rfl; have t1 : 0 ≤ t4_6.toInt ∧ t4_6.toInt ≤ 1 := btt4_6; omega)), (show t0_0.toInt ≤ y51.toInt from (by have z14 : (9 : Int32).toInt = 9 := rfl; have t1 : t0_0.toInt ≤ y51.toInt := b55; omega)), (show y51.toInt ≤ t0_0.toInt from (by have z14 : (9 : Int32).toInt = 9 := rfl; have t1 : y51.toInt ≤ t0_0.toInt := b56; omega)), (show t0_1.toInt ≤ y52.toInt from (by have z14 : (9 : Int32).toInt = 9 := rfl; have t1 : t0_1.toInt ≤ y52.toInt := b57; omega)), (show y52.toInt ≤ t0_1.toInt from (by have z14 : (9 : Int32).toInt = 9 := rfl; have t1 : y52.toInt ≤ t0_1.toInt := b58; omega)), (show t0_3.toInt ≤ y54.toInt + 8 from (by have z14 : (9 : Int32).toInt = 9 := rfl; have t1 : t0_3.toInt ≤ y54.toInt := b59; omega)), (show (9 : Int32).toInt ≤ y51.toInt + 9 from (by have z14 : (9 : Int32).toInt = 9 := rfl; have t1 : 0 ≤ t0_0.toInt ∧ t0_0.toInt ≤ 9 := btt0_0; have t2 : t0_0.toInt ≤ y51.toInt := b55; omega)), (show (9 : Int32).toInt ≤ y54.toInt + 10 from (by have z14 : (9 : Int32).toInt = 9 := rfl; have t1 : -1 ≤ t0_3.toInt ∧ t0_3.toInt ≤ 8 := btt0_3; have t2 : t0_3.toInt ≤ y54.toInt := b59; omega)), (show ((9 : Int32), y51, y52, y53, y54) = (F_Pri_findFault t0_0 t0_1 t0_2 t0_3 t1_0 t2_0 t3_0 t4_0 t4_1 t4_2 t4_3 t4_4 t4_5 t4_6) from Eq.trans (by have c75x := c75; rw [e65] at c75x; rw [e69, e68, e67, e66, F_Pri_findFault_c27.eq_1, if_pos c75x]) hR70)⟩) d_9_6_45
      ·
        have b77 : q_F (0 ≤ a49.toInt) := (q_nltI c75)
        refine lv_iload_n hx hb d_9_6_35 rfl (lv_at hl 0 rfl) ?_
        refine lv_aload_n hx hb d_9_6_36 rfl (lv_at hl 2 rfl) ?_
        refine q_get (ci := 11) (j := 0) (v := .int y51) C0 V i_Pri rfl rfl hO50 (by decide) w_384 rfl d_9_6_37 ?_
        refine lv_icmp_lt (tgt := 46) hx hb d_9_6_40 (by decide) (fun c78 => ?_) (fun c78 => ?_)
        ·
          have b79 : q_F (a49.toInt < y51.toInt) := (q_ltI c78)
          refine lv_aload_n hx hb d_9_6_46 rfl (lv_at hl 2 rfl) ?_
          refine lv_iload_n hx hb d_9_6_47 rfl (lv_at hl 0 rfl) ?_
          refine q_put (ci := 11) (j := 11) (v := .int a49) (ty := .int) C0 V i_Pri o_Pri n_Pri rfl rfl hO50 (by decide) w_396 rfl rfl rfl rfl (Nat.le_of_ble_eq_true rfl) d_9_6_48 (fun H locs w80 hu81 hO50 V => ?_)
          replace hO50 : w80[40]? = (some (q 40, .inr (11, [.int y51, .ref (q 41), .ref (q 42), .ref (q 43), .ref (q 44), .ref (q 1), .ref (q 47), .ref (q 36), .ref (q 45), .int y52, .int y53, .int a49])) : Option (Nat × va_E)) := hO50
          replace hI := n_p40 hI hu81 hO50 ⟨(by have t1 : 0 ≤ t0_0.toInt ∧ t0_0.toInt ≤ 9 := btt0_0; have t2 : t0_0.toInt ≤ y51.toInt := b55; omega), (by have t1 : 0 ≤ t0_0.toInt ∧ t0_0.toInt ≤ 9 := btt0_0; have t2 : y51.toInt ≤ t0_0.toInt := b56; omega)⟩ ⟨(by have t1 : -1 ≤ t0_1.toInt ∧ t0_1.toInt ≤ 1000000 := btt0_1; have t2 : t0_1.toInt ≤ y52.toInt := b57; omega), (by have t1 : -1 ≤ t0_1.toInt ∧ t0_1.toInt ≤ 1000000 := btt0_1; have t2 : y52.toInt ≤ t0_1.toInt := b58; omega)⟩ ⟨(by first | with_reducible exact q_fe b77 | (have t1 : 0 ≤ a49.toInt := b77; omega)), (by have t1 : 0 ≤ t0_0.toInt ∧ t0_0.toInt ≤ 9 := btt0_0; have t2 : y51.toInt ≤ t0_0.toInt := b56; have t3 : a49.toInt < y51.toInt := b79; omega)⟩
          replace hT1 := (hu81 _ (by decide)).trans hT1
          replace hT4 := (hu81 _ (by decide)).trans hT4
          replace hF := q_us hF hu81 (by simp)
          refine lv_aload_n hx hb d_9_6_51 rfl (lv_at hl 2 rfl) ?_
          refine lv_aload_n hx hb d_9_6_52 rfl (lv_at hl 2 rfl) ?_
          refine q_get (ci := 11) (j := 1) (v := .ref (q 41)) C0 V i_Pri rfl rfl hO50 (by decide) w_386 rfl d_9_6_53 ?_
          refine lv_iload_n hx hb d_9_6_56 rfl (lv_at hl 0 rfl) ?_
          refine q_iald C0 V hT1 (q_ix (x := a49.toInt) rfl (by first | with_reducible exact q_fe b77 | (have t1 : 0 ≤ a49.toInt := b77; omega)) (by have t1 : 0 ≤ a49.toInt := b77; have t2 : 0 ≤ t0_0.toInt ∧ t0_0.toInt ≤ 9 := btt0_0; have t3 : y51.toInt ≤ t0_0.toInt := b56; have t4 : a49.toInt < y51.toInt := b79; omega)) d_9_6_57 ?_
          obtain ⟨a82, e83⟩ := q_nm (t1_0 a49.toNatClampNeg : Int32)
          refine q_ti (v := a82) e83 ?_
          refine q_goi V (q_runV (As := [.int a82]) (rest := []) (d := 6) (mc := 0) (ms := 0) (ci := 11) C0 V rfl LV_Pri_140 (X_Pri_takesKind l D g q w80  a82 hI t4_0 t4_1 t4_2 t4_3 t4_4 t4_5 t4_6 hT4  _) rfl rfl hO50 rfl hl.1 rfl (Nat.le_of_ble_eq_true rfl) ⟨by decide, by decide⟩ ⟨Nat.le_of_ble_eq_true rfl, Nat.le_of_ble_eq_true rfl⟩ d_9_6_58) (fun a86 u84 H locs hp85 V => ?_)
          obtain ⟨rfl, b87, b88, hE89⟩ := hp85
          have e90 : a86 = (F_Pri_takesKind a82 t4_0 t4_1 t4_2 t4_3 t4_4 t4_5 t4_6) := hE89
          clear b87
          clear b88
          refine lv_if_eq (tgt := 68) hx hb d_9_6_61 (by decide) (fun c91 => ?_) (fun c91 => ?_)
          ·
            refine lv_bipush (v := 10) hx hb d_9_6_68 (by decide) ?_
            exact q_reti C0 V (⟨hI, hF, y51, y52, y53, a49, hO50, (show (10 : Int32).toInt ≤ 10 from (by have z14 : (10 : Int32).toInt = 10 := rfl; omega)), (show 0 ≤ a49.toInt + 1 from (by have z14 : (10 : Int32).toInt = 10 := rfl; have t1 : 0 ≤ a49.toInt := b77; omega)), (show a49.toInt ≤ 8 from (by have z14 : (10 : Int32).toInt = 10 := rfl; have t1 : 0 ≤ t0_0.toInt ∧ t0_0.toInt ≤ 9 := btt0_0; have t2 : y51.toInt ≤ t0_0.toInt := b56; have t3 : a49.toInt < y51.toInt := b79; omega)), (show t4_6.toInt ≤ (10 : Int32).toInt from (by have z14 : (10 : Int32).toInt = 10 := rfl; have t1 : 0 ≤ t4_6.toInt ∧ t4_6.toInt ≤ 1 := btt4_6; omega)), (show t0_0.toInt ≤ y51.toInt from (by have z14 : (10 : Int32).toInt = 10 := rfl; have t1 : t0_0.toInt ≤ y51.toInt := b55; omega)), (show y51.toInt ≤ t0_0.toInt from (by have z14 : (10 : Int32).toInt = 10 := rfl; have t1 : y51.toInt ≤ t0_0.toInt := b56; omega)), (show t0_1.toInt ≤ y52.toInt from (by have z14 : (10 : Int32).toInt = 10 := rfl; have t1 : t0_1.toInt ≤ y52.toInt := b57; omega)), (show y52.toInt ≤ t0_1.toInt from (by have z14 : (10 : Int32).toInt = 10 := rfl; have t1 : y52.toInt ≤ t0_1.toInt := b58; omega)), (show t0_3.toInt ≤ a49.toInt + 8 from (by have z14 : (10 : Int32).toInt = 10 := rfl; have t1 : -1 ≤ t0_3.toInt ∧ t0_3.toInt ≤ 8 := btt0_3; have t2 : 0 ≤ a49.toInt := b77; omega)), (show (10 : Int32).toInt ≤ y51.toInt + 9 from (by have z14 : (10 : Int32).toInt = 10 := rfl; have t1 : 0 ≤ a49.toInt := b77; have t2 : a49.toInt < y51.toInt := b79; omega)), (show (10 : Int32).toInt ≤ a49.toInt + 10 from (by have z14 : (10 : Int32).toInt = 10 := rfl; have t1 : 0 ≤ a49.toInt := b77; omega)), (show ((10 : Int32), y51, y52, y53, a49) = (F_Pri_findFault t0_0 t0_1 t0_2 t0_3 t1_0 t2_0 t3_0 t4_0 t4_1 t4_2 t4_3 t4_4 t4_5 t4_6) from Eq.trans (by have c75x := c75; rw [e65] at c75x; have c78x := c78; rw [e66, e65] at c78x; have c91x := c91; rw [e90, ← e83, e65] at c91x; rw [e68, e67, e66, e65, F_Pri_findFault_c27.eq_1, if_neg c75x, if_pos c78x, if_pos c91x]) hR70)⟩) d_9_6_70
          ·
            refine lv_iconst (v := 0) hx hb d_9_6_64 (by decide) ?_
            refine lv_goto (tgt := 70) hx hb d_9_6_65 (by decide) ?_
            exact q_reti C0 V (⟨hI, hF, y51, y52, y53, a49, hO50, (show (0 : Int32).toInt ≤ 10 from (by have z14 : (0 : Int32).toInt = 0 := rfl; omega)), (show 0 ≤ a49.toInt + 1 from (by have z14 : (0 : Int32).toInt = 0 := rfl; have t1 : 0 ≤ a49.toInt := b77; omega)), (show a49.toInt ≤ 8 from (by have z14 : (0 : Int32).toInt = 0 := rfl; have t1 : 0 ≤ t0_0.toInt ∧ t0_0.toInt ≤ 9 := btt0_0; have t2 : y51.toInt ≤ t0_0.toInt := b56; have t3 : a49.toInt < y51.toInt := b79; omega)), (show t4_6.toInt ≤ (0 : Int32).toInt from (by have z14 : (0 : Int32).toInt = 0 := rfl; have t1 : t4_6.toInt ≤ a30.toInt := b32; have t2 : a30.toInt = 0 := b37; omega)), (show t0_0.toInt ≤ y51.toInt from (by have z14 : (0 : Int32).toInt = 0 := rfl; have t1 : t0_0.toInt ≤ y51.toInt := b55; omega)), (show y51.toInt ≤ t0_0.toInt from (by have z14 : (0 : Int32).toInt = 0 := rfl; have t1 : y51.toInt ≤ t0_0.toInt := b56; omega)), (show t0_1.toInt ≤ y52.toInt from (by have z14 : (0 : Int32).toInt = 0 := rfl; have t1 : t0_1.toInt ≤ y52.toInt := b57; omega)), (show y52.toInt ≤ t0_1.toInt from (by have z14 : (0 : Int32).toInt = 0 := rfl; have t1 : y52.toInt ≤ t0_1.toInt := b58; omega)), (show t0_3.toInt ≤ a49.toInt + 8 from (by have z14 : (0 : Int32).toInt = 0 := rfl; have t1 : -1 ≤ t0_3.toInt ∧ t0_3.toInt ≤ 8 := btt0_3; have t2 : 0 ≤ a49.toInt := b77; omega)), (show (0 : Int32).toInt ≤ y51.toInt + 9 from (by have z14 : (0 : Int32).toInt = 0 := rfl; have t1 : 0 ≤ t0_0.toInt ∧ t0_0.toInt ≤ 9 := btt0_0; have t2 : t0_0.toInt ≤ y51.toInt := b55; omega)), (show (0 : Int32).toInt ≤ a49.toInt + 10 from (by have z14 : (0 : Int32).toInt = 0 := rfl; have t1 : 0 ≤ a49.toInt := b77; omega)), (show ((0 : Int32), y51, y52, y53, a49) = (F_Pri_findFault t0_0 t0_1 t0_2 t0_3 t1_0 t2_0 t3_0 t4_0 t4_1 t4_2 t4_3 t4_4 t4_5 t4_6) from Eq.trans (by have c75x := c75; rw [e65] at c75x; have c78x := c78; rw [e66, e65] at c78x; have c91x := c91; rw [e90, ← e83, e65] at c91x; rw [e68, e67, e66, e65, F_Pri_findFault_c27.eq_1, if_neg c75x, if_pos c78x, if_neg c91x]) hR70)⟩) d_9_6_70
        ·
          refine lv_bipush (v := 9) hx hb d_9_6_43 (by decide) ?_
          exact q_reti C0 V (⟨hI, hF, y51, y52, y53, y54, hO50, (show (9 : Int32).toInt ≤ 10 from (by have z14 : (9 : Int32).toInt = 9 := rfl; omega)), (show 0 ≤ y54.toInt + 1 from (by have z14 : (9 : Int32).toInt = 9 := rfl; have t1 : -1 ≤ t0_3.toInt ∧ t0_3.toInt ≤ 8 := btt0_3; have t2 : t0_3.toInt ≤ y54.toInt := b59; omega)), (show y54.toInt ≤ 8 from (by have z14 : (9 : Int32).toInt = 9 := rfl; have t1 : -1 ≤ t0_3.toInt ∧ t0_3.toInt ≤ 8 := btt0_3; have t2 : y54.toInt ≤ t0_3.toInt := b60; omega)), (show t4_6.toInt ≤ (9 : Int32).toInt from (by have z14 : (9 : Int32).toInt = 9 := rfl; have t1 : 0 ≤ t4_6.toInt ∧ t4_6.toInt ≤ 1 := btt4_6; omega)), (show t0_0.toInt ≤ y51.toInt from (by have z14 : (9 : Int32).toInt = 9 := rfl; have t1 : t0_0.toInt ≤ y51.toInt := b55; omega)), (show y51.toInt ≤ t0_0.toInt from (by have z14 : (9 : Int32).toInt = 9 := rfl; have t1 : y51.toInt ≤ t0_0.toInt := b56; omega)), (show t0_1.toInt ≤ y52.toInt from (by have z14 : (9 : Int32).toInt = 9 := rfl; have t1 : t0_1.toInt ≤ y52.toInt := b57; omega)), (show y52.toInt ≤ t0_1.toInt from (by have z14 : (9 : Int32).toInt = 9 := rfl; have t1 : y52.toInt ≤ t0_1.toInt := b58; omega)), (show t0_3.toInt ≤ y54.toInt + 8 from (by have z14 : (9 : Int32).toInt = 9 := rfl; have t1 : t0_3.toInt ≤ y54.toInt := b59; omega)), (show (9 : Int32).toInt ≤ y51.toInt + 9 from (by have z14 : (9 : Int32).toInt = 9 := rfl; have t1 : 0 ≤ t0_0.toInt ∧ t0_0.toInt ≤ 9 := btt0_0; have t2 : t0_0.toInt ≤ y51.toInt := b55; omega)), (show (9 : Int32).toInt ≤ y54.toInt + 10 from (by have z14 : (9 : Int32).toInt = 9 := rfl; have t1 : -1 ≤ t0_3.toInt ∧ t0_3.toInt ≤ 8 := btt0_3; have t2 : t0_3.toInt ≤ y54.toInt := b59; omega)), (show ((9 : Int32), y51, y52, y53, y54) = (F_Pri_findFault t0_0 t0_1 t0_2 t0_3 t1_0 t2_0 t3_0 t4_0 t4_1 t4_2 t4_3 t4_4 t4_5 t4_6) from Eq.trans (by have c75x := c75; rw [e65] at c75x; have c78x := c78; rw [e66, e65] at c78x; rw [e69, e68, e67, e66, F_Pri_findFault_c27.eq_1, if_neg c75x, if_neg c78x]) hR70)⟩) d_9_6_45
    ·
      refine lv_iload_n hx hb d_9_6_24 rfl (lv_at hl 0 rfl) ?_
      exact q_reti C0 V (⟨hI, hF, t0_0, t0_1, t0_2, t0_3, hT0, (show a30.toInt ≤ 10 from (by first | with_reducible exact q_fe b31 | (have t1 : a30.toInt ≤ 8 := b31; omega))), (show 0 ≤ t0_3.toInt + 1 from (by first | with_reducible exact (q_fe btt0_3).2 | with_reducible exact (q_fe btt0_3).1 | (have t1 : -1 ≤ t0_3.toInt ∧ t0_3.toInt ≤ 8 := btt0_3; omega))), (show t0_3.toInt ≤ 8 from (by first | with_reducible exact (q_fe btt0_3).2 | with_reducible exact (q_fe btt0_3).1 | (have t1 : -1 ≤ t0_3.toInt ∧ t0_3.toInt ≤ 8 := btt0_3; omega))), (show t4_6.toInt ≤ a30.toInt from (by first | with_reducible exact q_fe b32 | (have t1 : t4_6.toInt ≤ a30.toInt := b32; omega))), (show t0_0.toInt ≤ t0_0.toInt from (by omega)), (show t0_0.toInt ≤ t0_0.toInt from (by omega)), (show t0_1.toInt ≤ t0_1.toInt from (by omega)), (show t0_1.toInt ≤ t0_1.toInt from (by omega)), (show t0_3.toInt ≤ t0_3.toInt + 8 from (by omega)), (show a30.toInt ≤ t0_0.toInt + 9 from (by have t1 : 0 ≤ t0_0.toInt ∧ t0_0.toInt ≤ 9 := btt0_0; have t2 : a30.toInt ≤ 8 := b31; omega)), (show a30.toInt ≤ t0_3.toInt + 10 from (by have t1 : -1 ≤ t0_3.toInt ∧ t0_3.toInt ≤ 8 := btt0_3; have t2 : a30.toInt ≤ 8 := b31; omega)), (show (a30, t0_0, t0_1, t0_2, t0_3) = (F_Pri_findFault t0_0 t0_1 t0_2 t0_3 t1_0 t2_0 t3_0 t4_0 t4_1 t4_2 t4_3 t4_4 t4_5 t4_6) from (by have c35x := c35; rw [e34] at c35x; have c45x := c45; rw [e44] at c45x; rw [e34, F_Pri_findFault.eq_1, if_pos c35x, if_neg c45x]))⟩) d_9_6_25
def F_Pri_cutBody (t0_0 : Int32) (t1_0 : (Nat → Int64)) (t2_0 : Int32) (t2_1 : Int32) (t2_2 : Int32) (t2_3 : Int32) (t2_4 : Int32) (t2_5 : Int32) (t2_6 : Int32) : Int32 := if t2_3 = (-1 : Int32) then (t0_0) else (((F_She_cut_p (4104 : Int32) (513 : Int32) (1000000 : Int32) t2_3 t0_0) : Int32))
set_option maxRecDepth 100000 in
set_option maxHeartbeats 4000000 in
theorem X_Pri_cutBody (l : Launch) (D : va_G) (g : Nat → ClassId) (q : Nat → Nat) (ws : va_W) (hI : q_I (nsh g q) q ws) (t0_0 : Int32) (hT0 : ws[45]? = (some (q 45, .inr (1, [.ref (q 46), .int 4104, .int t0_0])) : Option (Nat × va_E))) (t1_0 : (Nat → Int64)) (hT1 : ws[46]? = (some (q 46, .inl (g 1, (513 : Int32).toNatClampNeg, .inr (.inl t1_0))) : Option (Nat × va_E))) (t2_0 : Int32) (t2_1 : Int32) (t2_2 : Int32) (t2_3 : Int32) (t2_4 : Int32) (t2_5 : Int32) (t2_6 : Int32) (hT2 : ws[47]? = (some (q 47, .inr (10, [.int t2_0, .int t2_1, .int t2_2, .int t2_3, .int t2_4, .int t2_5, .ref (q 1), .int t2_6])) : Option (Nat × va_E))) : q_mV l y_Pri_cutBody prog_9_method_10_code 1 3 0 0 D g [.ref (q 40)] ws (fun u => q_I (nsh g q) q u ∧ q_un ws u [45] ∧ ∃ (u0_0 : Int32), u[45]? = (some (q 45, .inr (1, [.ref (q 46), .int 4104, .int u0_0])) : Option (Nat × va_E)) ∧ (0 ≤ u0_0.toInt) ∧ (u0_0.toInt ≤ t0_0.toInt) ∧ u0_0 = (F_Pri_cutBody t0_0 t1_0 t2_0 t2_1 t2_2 t2_3 t2_4 t2_5 t2_6)) := by
  intro sz
  refine q_into (by decide) (Nat.le_of_ble_eq_true rfl) ?_
  intro p e s m below meth c ls hsz C0 V hl
  have hx := C0.1
  have hb := C0.2.1
  have btt0_0 := n_shW hI (n_h45 g q) hT0
  replace btt0_0 : q_F (0 ≤ t0_0.toInt ∧ t0_0.toInt ≤ 1000000) := btt0_0
  have hZ9 := (n_w47 hI hT2).2
  obtain ⟨btt2_3, -⟩ := hZ9
  replace btt2_3 : q_F (-1 ≤ t2_3.toInt ∧ t2_3.toInt ≤ 9999) := btt2_3
  have hF : q_un ws ws [45] := q_u0
  have hl : lv_has ls 1 [(0, .ref (q 40))] := hl
  refine lv_aload_n hx hb d_9_10_0 rfl (lv_at hl 0 rfl) ?_
  obtain ⟨y18, hZ9⟩ := n_o40 hI
  obtain ⟨y20, hZ9⟩ := hZ9
  obtain ⟨y22, hZ9⟩ := hZ9
  obtain ⟨y23, hZ9⟩ := hZ9
  obtain ⟨hO17, hZ9⟩ := hZ9
  replace hZ9 := hZ9.2
  obtain ⟨-, b24⟩ := hZ9
  clear b24
  refine q_get (ci := 11) (j := 6) (v := .ref (q 47)) C0 V i_Pri rfl rfl hO17 (by decide) w_391 rfl d_9_10_1 ?_
  refine q_get (ci := 10) (j := 3) (v := .int t2_3) C0 V i_Dir rfl rfl hT2 (by decide) w_360 rfl d_9_10_4 ?_
  refine lv_iconst (v := (-1)) hx hb d_9_10_7 (by decide) ?_
  refine lv_icmp_eq (tgt := 25) hx hb d_9_10_8 (by decide) (fun c25 => ?_) (fun c25 => ?_)
  ·
    exact q_retv C0 V (⟨hI, hF, t0_0, hT0, (show 0 ≤ t0_0.toInt from (by first | with_reducible exact (q_fe btt0_0).2 | with_reducible exact (q_fe btt0_0).1 | (have t1 : 0 ≤ t0_0.toInt ∧ t0_0.toInt ≤ 1000000 := btt0_0; omega))), (show t0_0.toInt ≤ t0_0.toInt from (by omega)), (show t0_0 = (F_Pri_cutBody t0_0 t1_0 t2_0 t2_1 t2_2 t2_3 t2_4 t2_5 t2_6) from (by rw [F_Pri_cutBody.eq_1, if_pos c25]))⟩) d_9_10_25
  ·
    have b27 : q_F (t2_3.toInt ≠ (-1)) := (q_neI c25)
    refine lv_aload_n hx hb d_9_10_11 rfl (lv_at hl 0 rfl) ?_
    refine q_get (ci := 11) (j := 8) (v := .ref (q 45)) C0 V i_Pri rfl rfl hO17 (by decide) w_393 rfl d_9_10_12 ?_
    refine lv_aload_n hx hb d_9_10_15 rfl (lv_at hl 0 rfl) ?_
    refine q_get (ci := 11) (j := 6) (v := .ref (q 47)) C0 V i_Pri rfl rfl hO17 (by decide) w_391 rfl d_9_10_16 ?_
    refine q_get (ci := 10) (j := 3) (v := .int t2_3) C0 V i_Dir rfl rfl hT2 (by decide) w_360 rfl d_9_10_19 ?_
    refine q_gov V (q_runV (As := [.int t2_3]) (rest := []) (d := 2) (mc := 0) (ms := 0) (ci := 1) C0 V rfl LV_Pri_201 (X_She_cut_p l D g q ws 45 4104 513 1000000 (n_h45 g q) t2_3 hI t0_0 hT0 (by have y0 : (4104 : Int32).toInt = 4104 := rfl; have y1 : (513 : Int32).toInt = 513 := rfl; have y2 : (1000000 : Int32).toInt = 1000000 := rfl; have t1 : -1 ≤ t2_3.toInt ∧ t2_3.toInt ≤ 9999 := btt2_3; have t2 : t2_3.toInt ≠ (-1) := b27; omega) _) rfl rfl hT0 rfl hl.1 rfl (Nat.le_of_ble_eq_true rfl) ⟨by decide, by decide⟩ ⟨Nat.le_of_ble_eq_true rfl, Nat.le_of_ble_eq_true rfl⟩ d_9_10_22) (fun u28 H locs hp29 V => ?_)
    obtain ⟨hI, hZ9⟩ := hp29
    obtain ⟨hu36, hZ9⟩ := hZ9
    obtain ⟨y31, hZ9⟩ := hZ9
    obtain ⟨hO30, hZ9⟩ := hZ9
    obtain ⟨b32, hZ9⟩ := hZ9
    replace hZ9 := hZ9.2
    obtain ⟨b34, hE35⟩ := hZ9
    replace hO30 : u28[45]? = (some (q 45, .inr (1, [.ref (q 46), .int 4104, .int y31])) : Option (Nat × va_E)) := hO30
    have e37 : y31 = (F_She_cut_p (4104 : Int32) (513 : Int32) (1000000 : Int32) t2_3 t0_0) := hE35
    replace b32 : q_F (0 ≤ y31.toInt) := b32
    replace b34 : q_F (y31.toInt ≤ t0_0.toInt) := b34
    replace hF := q_uc hF hu36 (by first | exact (q_sk (q_mi 0 rfl) q_s0) | simp)
    exact q_retv C0 V (⟨hI, hF, y31, hO30, (show 0 ≤ y31.toInt from (by first | with_reducible exact q_fe b32 | (have t1 : 0 ≤ y31.toInt := b32; omega))), (show y31.toInt ≤ t0_0.toInt from (by first | with_reducible exact q_fe b34 | (have t1 : y31.toInt ≤ t0_0.toInt := b34; omega))), (show y31 = (F_Pri_cutBody t0_0 t1_0 t2_0 t2_1 t2_2 t2_3 t2_4 t2_5 t2_6) from (by rw [e37, F_Pri_cutBody.eq_1, if_neg c25]))⟩) d_9_10_25
def F_Pri_writeSign_c75 (x2 : Int32) (t0_0 : Int32) (t0_1 : Int32) (t0_2 : Int32) (t0_3 : Int32) (t1_0 : Int32) (t2_0 : (Nat → Int64)) (t3_0 : Int32) (t3_1 : Int32) (t3_2 : Int32) (t3_3 : Int32) (t3_4 : Int32) (t3_5 : Int32) (t3_6 : Int32) (p58 : (Int32 × (Nat → Int64))) : Int32 × Int32 × Int32 × Int32 × Int32 × (Nat → Int64) := (t0_0, (p58.1 : Int32), t0_2, t0_3, (p58.1 : Int32), (p58.2 : (Nat → Int64)))
def F_Pri_writeSign_c50 (x2 : Int32) (t0_0 : Int32) (t0_1 : Int32) (t0_2 : Int32) (t0_3 : Int32) (t1_0 : Int32) (t2_0 : (Nat → Int64)) (t3_0 : Int32) (t3_1 : Int32) (t3_2 : Int32) (t3_3 : Int32) (t3_4 : Int32) (t3_5 : Int32) (t3_6 : Int32) (p80 : (Int32 × (Nat → Int64))) : Int32 × Int32 × Int32 × Int32 × Int32 × (Nat → Int64) := (t0_0, (p80.1 : Int32), t0_2, t0_3, (p80.1 : Int32), (p80.2 : (Nat → Int64)))
def F_Pri_writeSign_c27 (x2 : Int32) (t0_0 : Int32) (t0_1 : Int32) (t0_2 : Int32) (t0_3 : Int32) (t1_0 : Int32) (t2_0 : (Nat → Int64)) (t3_0 : Int32) (t3_1 : Int32) (t3_2 : Int32) (t3_3 : Int32) (t3_4 : Int32) (t3_5 : Int32) (t3_6 : Int32) (p111 : (Int32 × (Nat → Int64))) : Int32 × Int32 × Int32 × Int32 × Int32 × (Nat → Int64) := (t0_0, (p111.1 : Int32), t0_2, t0_3, (p111.1 : Int32), (p111.2 : (Nat → Int64)))
def F_Pri_writeSign_c27_4 (x2 : Int32) (t0_0 : Int32) (t0_1 : Int32) (t0_2 : Int32) (t0_3 : Int32) (t1_0 : Int32) (t2_0 : (Nat → Int64)) (t3_0 : Int32) (t3_1 : Int32) (t3_2 : Int32) (t3_3 : Int32) (t3_4 : Int32) (t3_5 : Int32) (t3_6 : Int32) (p133 : (Int32 × (Nat → Int64))) : Int32 × Int32 × Int32 × Int32 × Int32 × (Nat → Int64) := (t0_0, (p133.1 : Int32), t0_2, t0_3, (p133.1 : Int32), (p133.2 : (Nat → Int64)))
def F_Pri_writeSign (x2 : Int32) (t0_0 : Int32) (t0_1 : Int32) (t0_2 : Int32) (t0_3 : Int32) (t1_0 : Int32) (t2_0 : (Nat → Int64)) (t3_0 : Int32) (t3_1 : Int32) (t3_2 : Int32) (t3_3 : Int32) (t3_4 : Int32) (t3_5 : Int32) (t3_6 : Int32) : Int32 × Int32 × Int32 × Int32 × Int32 × (Nat → Int64) := if x2 = (0 : Int32) then (if ((F_Dir_has (4 : Int32) t3_0 t3_1 t3_2 t3_3 t3_4 t3_5 t3_6) : Int32) = (0 : Int32) then (if ((F_Dir_has (128 : Int32) t3_0 t3_1 t3_2 t3_3 t3_4 t3_5 t3_6) : Int32) = (0 : Int32) then ((t0_0, t1_0, t0_2, t0_3, t1_0, t2_0)) else (F_Pri_writeSign_c75 x2 t0_0 t0_1 t0_2 t0_3 t1_0 t2_0 t3_0 t3_1 t3_2 t3_3 t3_4 t3_5 t3_6 ((F_She_add_p (4104 : Int32) (513 : Int32) (1000000 : Int32) (32 : Int32) t1_0 t2_0) : (Int32 × (Nat → Int64))))) else (F_Pri_writeSign_c50 x2 t0_0 t0_1 t0_2 t0_3 t1_0 t2_0 t3_0 t3_1 t3_2 t3_3 t3_4 t3_5 t3_6 ((F_She_add_p (4104 : Int32) (513 : Int32) (1000000 : Int32) (43 : Int32) t1_0 t2_0) : (Int32 × (Nat → Int64))))) else (if ((F_Dir_has (32 : Int32) t3_0 t3_1 t3_2 t3_3 t3_4 t3_5 t3_6) : Int32) = (0 : Int32) then (F_Pri_writeSign_c27 x2 t0_0 t0_1 t0_2 t0_3 t1_0 t2_0 t3_0 t3_1 t3_2 t3_3 t3_4 t3_5 t3_6 ((F_She_add_p (4104 : Int32) (513 : Int32) (1000000 : Int32) (45 : Int32) t1_0 t2_0) : (Int32 × (Nat → Int64)))) else (F_Pri_writeSign_c27_4 x2 t0_0 t0_1 t0_2 t0_3 t1_0 t2_0 t3_0 t3_1 t3_2 t3_3 t3_4 t3_5 t3_6 ((F_She_add_p (4104 : Int32) (513 : Int32) (1000000 : Int32) (40 : Int32) t1_0 t2_0) : (Int32 × (Nat → Int64)))))
set_option maxRecDepth 100000 in
set_option maxHeartbeats 4000000 in
theorem X_Pri_writeSign (l : Launch) (D : va_G) (g : Nat → ClassId) (q : Nat → Nat) (ws : va_W) (x2 : Int32) (hI : q_I (nsh g q) q ws) (t0_0 : Int32) (t0_1 : Int32) (t0_2 : Int32) (t0_3 : Int32) (hT0 : ws[40]? = (some (q 40, .inr (11, [.int t0_0, .ref (q 41), .ref (q 42), .ref (q 43), .ref (q 44), .ref (q 1), .ref (q 47), .ref (q 36), .ref (q 45), .int t0_1, .int t0_2, .int t0_3])) : Option (Nat × va_E))) (t1_0 : Int32) (hT1 : ws[45]? = (some (q 45, .inr (1, [.ref (q 46), .int 4104, .int t1_0])) : Option (Nat × va_E))) (t2_0 : (Nat → Int64)) (hT2 : ws[46]? = (some (q 46, .inl (g 1, (513 : Int32).toNatClampNeg, .inr (.inl t2_0))) : Option (Nat × va_E))) (t3_0 : Int32) (t3_1 : Int32) (t3_2 : Int32) (t3_3 : Int32) (t3_4 : Int32) (t3_5 : Int32) (t3_6 : Int32) (hT3 : ws[47]? = (some (q 47, .inr (10, [.int t3_0, .int t3_1, .int t3_2, .int t3_3, .int t3_4, .int t3_5, .ref (q 1), .int t3_6])) : Option (Nat × va_E))) (hzx2 : 0 ≤ x2.toInt ∧ x2.toInt ≤ 1) (pre0 : t1_0.toInt ≤ 900000) : q_mV l y_Pri_writeSign prog_9_method_13_code 2 2 0 0 D g [.ref (q 40), .int x2] ws (fun u => q_I (nsh g q) q u ∧ q_un ws u [40, 45, 46] ∧ ∃ (u0_0 : Int32) (u0_1 : Int32) (u0_2 : Int32) (u0_3 : Int32) (u1_0 : Int32) (u2_0 : (Nat → Int64)), u[40]? = (some (q 40, .inr (11, [.int u0_0, .ref (q 41), .ref (q 42), .ref (q 43), .ref (q 44), .ref (q 1), .ref (q 47), .ref (q 36), .ref (q 45), .int u0_1, .int u0_2, .int u0_3])) : Option (Nat × va_E)) ∧ u[45]? = (some (q 45, .inr (1, [.ref (q 46), .int 4104, .int u1_0])) : Option (Nat × va_E)) ∧ u[46]? = (some (q 46, .inl (g 1, (513 : Int32).toNatClampNeg, .inr (.inl u2_0))) : Option (Nat × va_E)) ∧ (t0_0.toInt ≤ u0_0.toInt) ∧ (u0_0.toInt ≤ t0_0.toInt) ∧ (t0_2.toInt ≤ u0_2.toInt) ∧ (u0_2.toInt ≤ t0_2.toInt) ∧ (t0_3.toInt ≤ u0_3.toInt) ∧ (u0_3.toInt ≤ t0_3.toInt) ∧ (x2.toInt ≤ u1_0.toInt) ∧ (t1_0.toInt ≤ u1_0.toInt) ∧ (u1_0.toInt ≤ t1_0.toInt + 1) ∧ (u1_0.toInt ≤ u0_1.toInt) ∧ (u0_1.toInt ≤ u1_0.toInt) ∧ (u0_0, u0_1, u0_2, u0_3, u1_0, u2_0) = (F_Pri_writeSign x2 t0_0 t0_1 t0_2 t0_3 t1_0 t2_0 t3_0 t3_1 t3_2 t3_3 t3_4 t3_5 t3_6)) := by
  intro sz
  refine q_into (by decide) (Nat.le_of_ble_eq_true rfl) ?_
  intro p e s m below meth c ls hsz C0 V hl
  have hx := C0.1
  have hb := C0.2.1
  replace hzx2 : q_F (0 ≤ x2.toInt ∧ x2.toInt ≤ 1) := hzx2
  obtain ⟨btt0_0, hZ9⟩ := n_w40 hI hT0
  obtain ⟨-, btt0_3⟩ := hZ9
  replace btt0_0 : q_F (0 ≤ t0_0.toInt ∧ t0_0.toInt ≤ 9) := btt0_0
  replace btt0_3 : q_F (-1 ≤ t0_3.toInt ∧ t0_3.toInt ≤ 8) := btt0_3
  have btt1_0 := n_shW hI (n_h45 g q) hT1
  replace btt1_0 : q_F (0 ≤ t1_0.toInt ∧ t1_0.toInt ≤ 1000000) := btt1_0
  have hZ9 := (n_w47 hI hT3).2
  obtain ⟨-, btt3_6⟩ := hZ9
  clear btt3_6
  replace pre0 : q_F (t1_0.toInt ≤ 900000) := pre0
  have hF : q_un ws ws [40, 45, 46] := q_u0
  have hl : lv_has ls 2 [(0, .ref (q 40)), (1, .int x2)] := hl
  refine lv_iload_n hx hb d_9_13_0 rfl (lv_at hl 1 rfl) ?_
  refine lv_if_eq (tgt := 33) hx hb d_9_13_1 (by decide) (fun c25 => ?_) (fun c25 => ?_)
  ·
    have b26 : q_F (x2.toInt = 0) := (q_eqI c25)
    refine lv_aload_n hx hb d_9_13_33 rfl (lv_at hl 0 rfl) ?_
    refine q_get (ci := 11) (j := 6) (v := .ref (q 47)) C0 V i_Pri rfl rfl hT0 (by decide) w_391 rfl d_9_13_34 ?_
    refine lv_iconst (v := 4) hx hb d_9_13_37 (by decide) ?_
    refine q_goi V (q_runV (As := [.int 4]) (rest := []) (d := 1) (mc := 0) (ms := 0) (ci := 10) C0 V rfl LV_Pri_144 (X_Dir_has l D g q ws  4 hI t3_0 t3_1 t3_2 t3_3 t3_4 t3_5 t3_6 hT3  _) rfl rfl hT3 rfl hl.1 rfl (Nat.le_of_ble_eq_true rfl) ⟨by decide, by decide⟩ ⟨Nat.le_of_ble_eq_true rfl, Nat.le_of_ble_eq_true rfl⟩ d_9_13_38) (fun a29 u27 H locs hp28 V => ?_)
    obtain ⟨rfl, b30, b31, hE32⟩ := hp28
    have e33 : a29 = (F_Dir_has (4 : Int32) t3_0 t3_1 t3_2 t3_3 t3_4 t3_5 t3_6) := hE32
    clear b30
    clear b31
    refine lv_if_eq (tgt := 56) hx hb d_9_13_41 (by decide) (fun c34 => ?_) (fun c34 => ?_)
    ·
      refine lv_aload_n hx hb d_9_13_56 rfl (lv_at hl 0 rfl) ?_
      refine q_get (ci := 11) (j := 6) (v := .ref (q 47)) C0 V i_Pri rfl rfl hT0 (by decide) w_391 rfl d_9_13_57 ?_
      refine lv_sipush (v := 128) hx hb d_9_13_60 (by decide) ?_
      refine q_goi V (q_runV (As := [.int 128]) (rest := []) (d := 1) (mc := 0) (ms := 0) (ci := 10) C0 V rfl LV_Pri_144 (X_Dir_has l D g q ws  128 hI t3_0 t3_1 t3_2 t3_3 t3_4 t3_5 t3_6 hT3  _) rfl rfl hT3 rfl hl.1 rfl (Nat.le_of_ble_eq_true rfl) ⟨by decide, by decide⟩ ⟨Nat.le_of_ble_eq_true rfl, Nat.le_of_ble_eq_true rfl⟩ d_9_13_63) (fun a38 u36 H locs hp37 V => ?_)
      obtain ⟨rfl, b39, b40, hE41⟩ := hp37
      have e42 : a38 = (F_Dir_has (128 : Int32) t3_0 t3_1 t3_2 t3_3 t3_4 t3_5 t3_6) := hE41
      clear b39
      clear b40
      refine lv_if_eq (tgt := 78) hx hb d_9_13_66 (by decide) (fun c43 => ?_) (fun c43 => ?_)
      ·
        refine lv_aload_n hx hb d_9_13_78 rfl (lv_at hl 0 rfl) ?_
        refine lv_aload_n hx hb d_9_13_79 rfl (lv_at hl 0 rfl) ?_
        refine q_get (ci := 11) (j := 8) (v := .ref (q 45)) C0 V i_Pri rfl rfl hT0 (by decide) w_393 rfl d_9_13_80 ?_
        refine q_get (ci := 1) (j := 2) (v := .int t1_0) C0 V i_She rfl rfl hT1 (by decide) w_58 rfl d_9_13_83 ?_
        refine q_put (ci := 11) (j := 9) (v := .int t1_0) (ty := .int) C0 V i_Pri o_Pri n_Pri rfl rfl hT0 (by decide) w_394 rfl rfl rfl rfl (Nat.le_of_ble_eq_true rfl) d_9_13_86 (fun H locs w45 hu46 hT0 V => ?_)
        replace hT0 : w45[40]? = (some (q 40, .inr (11, [.int t0_0, .ref (q 41), .ref (q 42), .ref (q 43), .ref (q 44), .ref (q 1), .ref (q 47), .ref (q 36), .ref (q 45), .int t1_0, .int t0_2, .int t0_3])) : Option (Nat × va_E)) := hT0
        replace hI := n_p40 hI hu46 hT0 (by first | with_reducible exact q_fe btt0_0 | exact ⟨(by have t1 : 0 ≤ t0_0.toInt ∧ t0_0.toInt ≤ 9 := btt0_0; omega), (by have t1 : 0 ≤ t0_0.toInt ∧ t0_0.toInt ≤ 9 := btt0_0; omega)⟩) (by first | with_reducible exact q_fe btt1_0 | exact ⟨(by have t1 : 0 ≤ t1_0.toInt ∧ t1_0.toInt ≤ 1000000 := btt1_0; omega), (by have t1 : 0 ≤ t1_0.toInt ∧ t1_0.toInt ≤ 1000000 := btt1_0; omega)⟩) (by first | with_reducible exact q_fe btt0_3 | exact ⟨(by have t1 : -1 ≤ t0_3.toInt ∧ t0_3.toInt ≤ 8 := btt0_3; omega), (by have t1 : -1 ≤ t0_3.toInt ∧ t0_3.toInt ≤ 8 := btt0_3; omega)⟩)
        replace hT1 := (hu46 _ (by decide)).trans hT1
        replace hT2 := (hu46 _ (by decide)).trans hT2
        replace hF := q_us hF hu46 (by simp)
        exact q_retv C0 V (⟨hI, hF, t0_0, t1_0, t0_2, t0_3, t1_0, t2_0, hT0, hT1, hT2, (show t0_0.toInt ≤ t0_0.toInt from (by omega)), (show t0_0.toInt ≤ t0_0.toInt from (by omega)), (show t0_2.toInt ≤ t0_2.toInt from (by omega)), (show t0_2.toInt ≤ t0_2.toInt from (by omega)), (show t0_3.toInt ≤ t0_3.toInt from (by omega)), (show t0_3.toInt ≤ t0_3.toInt from (by omega)), (show x2.toInt ≤ t1_0.toInt from (by have t1 : 0 ≤ t1_0.toInt ∧ t1_0.toInt ≤ 1000000 := btt1_0; have t2 : x2.toInt = 0 := b26; omega)), (show t1_0.toInt ≤ t1_0.toInt from (by omega)), (show t1_0.toInt ≤ t1_0.toInt + 1 from (by omega)), (show t1_0.toInt ≤ t1_0.toInt from (by omega)), (show t1_0.toInt ≤ t1_0.toInt from (by omega)), (show (t0_0, t1_0, t0_2, t0_3, t1_0, t2_0) = (F_Pri_writeSign x2 t0_0 t0_1 t0_2 t0_3 t1_0 t2_0 t3_0 t3_1 t3_2 t3_3 t3_4 t3_5 t3_6) from (by have c34x := c34; rw [e33] at c34x; have c43x := c43; rw [e42] at c43x; rw [F_Pri_writeSign.eq_1, if_pos c25, if_pos c34x, if_pos c43x]))⟩) d_9_13_89
      ·
        refine lv_aload_n hx hb d_9_13_69 rfl (lv_at hl 0 rfl) ?_
        refine q_get (ci := 11) (j := 8) (v := .ref (q 45)) C0 V i_Pri rfl rfl hT0 (by decide) w_393 rfl d_9_13_70 ?_
        refine lv_bipush (v := 32) hx hb d_9_13_73 (by decide) ?_
        refine q_gov V (q_runV (As := [.int 32]) (rest := []) (d := 1) (mc := 0) (ms := 0) (ci := 1) C0 V rfl LV_Pri_113 (X_She_add_p l D g q ws 45 4104 513 1000000 (n_h45 g q) 32 hI t1_0 hT1 t2_0 hT2 (by have y0 : (4104 : Int32).toInt = 4104 := rfl; have y1 : (513 : Int32).toInt = 513 := rfl; have y2 : (1000000 : Int32).toInt = 1000000 := rfl; have y3 : (32 : Int32).toInt = 32 := rfl; have t1 : t1_0.toInt ≤ 900000 := pre0; omega) _) rfl rfl hT1 rfl hl.1 rfl (Nat.le_of_ble_eq_true rfl) ⟨by decide, by decide⟩ ⟨Nat.le_of_ble_eq_true rfl, Nat.le_of_ble_eq_true rfl⟩ d_9_13_75) (fun u48 H locs hp49 V => ?_)
        obtain ⟨hI, hZ9⟩ := hp49
        obtain ⟨hu57, hZ9⟩ := hZ9
        obtain ⟨y51, hZ9⟩ := hZ9
        obtain ⟨f52, hZ9⟩ := hZ9
        obtain ⟨hO50, hZ9⟩ := hZ9
        obtain ⟨hA53, hZ9⟩ := hZ9
        obtain ⟨b54, hZ9⟩ := hZ9
        obtain ⟨b55, hE56⟩ := hZ9
        replace hO50 : u48[45]? = (some (q 45, .inr (1, [.ref (q 46), .int 4104, .int y51])) : Option (Nat × va_E)) := hO50
        replace hA53 : u48[46]? = (some (q 46, .inl (g 1, (513 : Int32).toNatClampNeg, .inr (.inl f52))) : Option (Nat × va_E)) := hA53
        obtain ⟨p58, e59⟩ : ∃ z, z = (F_She_add_p (4104 : Int32) (513 : Int32) (1000000 : Int32) (32 : Int32) t1_0 t2_0) := ⟨_, rfl⟩
        have e60 : y51 = p58.1 := congrArg (fun z => z.1) (hE56.trans e59.symm)
        have e61 : f52 = p58.2 := congrArg (fun z => z.2) (hE56.trans e59.symm)
        replace b54 : q_F (t1_0.toInt + 1 ≤ y51.toInt) := b54
        replace b55 : q_F (y51.toInt ≤ t1_0.toInt + 1) := b55
        replace hT0 := (hu57 _ (by decide)).trans hT0
        replace hF := q_uc hF hu57 (by first | exact (q_sk (q_mi 1 rfl) (q_sk (q_mi 2 rfl) q_s0)) | simp)
        have hR62 := (show F_Pri_writeSign_c75 x2 t0_0 t0_1 t0_2 t0_3 t1_0 t2_0 t3_0 t3_1 t3_2 t3_3 t3_4 t3_5 t3_6 p58 = (F_Pri_writeSign x2 t0_0 t0_1 t0_2 t0_3 t1_0 t2_0 t3_0 t3_1 t3_2 t3_3 t3_4 t3_5 t3_6) from (by have c34x := c34; rw [e33] at c34x; have c43x := c43; rw [e42] at c43x; rw [e59, F_Pri_writeSign.eq_1, if_pos c25, if_pos c34x, if_neg c43x]))
        refine lv_aload_n hx hb d_9_13_78 rfl (lv_at hl 0 rfl) ?_
        refine lv_aload_n hx hb d_9_13_79 rfl (lv_at hl 0 rfl) ?_
        refine q_get (ci := 11) (j := 8) (v := .ref (q 45)) C0 V i_Pri rfl rfl hT0 (by decide) w_393 rfl d_9_13_80 ?_
        refine q_get (ci := 1) (j := 2) (v := .int y51) C0 V i_She rfl rfl hO50 (by decide) w_58 rfl d_9_13_83 ?_
        refine q_put (ci := 11) (j := 9) (v := .int y51) (ty := .int) C0 V i_Pri o_Pri n_Pri rfl rfl hT0 (by decide) w_394 rfl rfl rfl rfl (Nat.le_of_ble_eq_true rfl) d_9_13_86 (fun H locs w67 hu68 hT0 V => ?_)
        replace hT0 : w67[40]? = (some (q 40, .inr (11, [.int t0_0, .ref (q 41), .ref (q 42), .ref (q 43), .ref (q 44), .ref (q 1), .ref (q 47), .ref (q 36), .ref (q 45), .int y51, .int t0_2, .int t0_3])) : Option (Nat × va_E)) := hT0
        replace hI := n_p40 hI hu68 hT0 (by first | with_reducible exact q_fe btt0_0 | exact ⟨(by have t1 : 0 ≤ t0_0.toInt ∧ t0_0.toInt ≤ 9 := btt0_0; omega), (by have t1 : 0 ≤ t0_0.toInt ∧ t0_0.toInt ≤ 9 := btt0_0; omega)⟩) ⟨(by have t1 : 0 ≤ t1_0.toInt ∧ t1_0.toInt ≤ 1000000 := btt1_0; have t2 : t1_0.toInt + 1 ≤ y51.toInt := b54; omega), (by have t1 : t1_0.toInt ≤ 900000 := pre0; have t2 : y51.toInt ≤ t1_0.toInt + 1 := b55; omega)⟩ (by first | with_reducible exact q_fe btt0_3 | exact ⟨(by have t1 : -1 ≤ t0_3.toInt ∧ t0_3.toInt ≤ 8 := btt0_3; omega), (by have t1 : -1 ≤ t0_3.toInt ∧ t0_3.toInt ≤ 8 := btt0_3; omega)⟩)
        replace hO50 := (hu68 _ (by decide)).trans hO50
        replace hA53 := (hu68 _ (by decide)).trans hA53
        replace hF := q_us hF hu68 (by simp)
        exact q_retv C0 V (⟨hI, hF, t0_0, y51, t0_2, t0_3, y51, f52, hT0, hO50, hA53, (show t0_0.toInt ≤ t0_0.toInt from (by omega)), (show t0_0.toInt ≤ t0_0.toInt from (by omega)), (show t0_2.toInt ≤ t0_2.toInt from (by omega)), (show t0_2.toInt ≤ t0_2.toInt from (by omega)), (show t0_3.toInt ≤ t0_3.toInt from (by omega)), (show t0_3.toInt ≤ t0_3.toInt from (by omega)), (show x2.toInt ≤ y51.toInt from (by have t1 : 0 ≤ x2.toInt ∧ x2.toInt ≤ 1 := hzx2; have t2 : 0 ≤ t1_0.toInt ∧ t1_0.toInt ≤ 1000000 := btt1_0; have t3 : t1_0.toInt + 1 ≤ y51.toInt := b54; omega)), (show t1_0.toInt ≤ y51.toInt from (by first | with_reducible exact q_fe b54 | (have t1 : t1_0.toInt + 1 ≤ y51.toInt := b54; omega))), (show y51.toInt ≤ t1_0.toInt + 1 from (by first | with_reducible exact q_fe b55 | (have t1 : y51.toInt ≤ t1_0.toInt + 1 := b55; omega))), (show y51.toInt ≤ y51.toInt from (by omega)), (show y51.toInt ≤ y51.toInt from (by omega)), (show (t0_0, y51, t0_2, t0_3, y51, f52) = (F_Pri_writeSign x2 t0_0 t0_1 t0_2 t0_3 t1_0 t2_0 t3_0 t3_1 t3_2 t3_3 t3_4 t3_5 t3_6) from Eq.trans (by rw [e61, e60, F_Pri_writeSign_c75.eq_1]) hR62)⟩) d_9_13_89
    ·
      refine lv_aload_n hx hb d_9_13_44 rfl (lv_at hl 0 rfl) ?_
      refine q_get (ci := 11) (j := 8) (v := .ref (q 45)) C0 V i_Pri rfl rfl hT0 (by decide) w_393 rfl d_9_13_45 ?_
      refine lv_bipush (v := 43) hx hb d_9_13_48 (by decide) ?_
      refine q_gov V (q_runV (As := [.int 43]) (rest := []) (d := 1) (mc := 0) (ms := 0) (ci := 1) C0 V rfl LV_Pri_113 (X_She_add_p l D g q ws 45 4104 513 1000000 (n_h45 g q) 43 hI t1_0 hT1 t2_0 hT2 (by have y0 : (4104 : Int32).toInt = 4104 := rfl; have y1 : (513 : Int32).toInt = 513 := rfl; have y2 : (1000000 : Int32).toInt = 1000000 := rfl; have y3 : (43 : Int32).toInt = 43 := rfl; have t1 : t1_0.toInt ≤ 900000 := pre0; omega) _) rfl rfl hT1 rfl hl.1 rfl (Nat.le_of_ble_eq_true rfl) ⟨by decide, by decide⟩ ⟨Nat.le_of_ble_eq_true rfl, Nat.le_of_ble_eq_true rfl⟩ d_9_13_50) (fun u70 H locs hp71 V => ?_)
      obtain ⟨hI, hZ9⟩ := hp71
      obtain ⟨hu79, hZ9⟩ := hZ9
      obtain ⟨y73, hZ9⟩ := hZ9
      obtain ⟨f74, hZ9⟩ := hZ9
      obtain ⟨hO72, hZ9⟩ := hZ9
      obtain ⟨hA75, hZ9⟩ := hZ9
      obtain ⟨b76, hZ9⟩ := hZ9
      obtain ⟨b77, hE78⟩ := hZ9
      replace hO72 : u70[45]? = (some (q 45, .inr (1, [.ref (q 46), .int 4104, .int y73])) : Option (Nat × va_E)) := hO72
      replace hA75 : u70[46]? = (some (q 46, .inl (g 1, (513 : Int32).toNatClampNeg, .inr (.inl f74))) : Option (Nat × va_E)) := hA75
      obtain ⟨p80, e81⟩ : ∃ z, z = (F_She_add_p (4104 : Int32) (513 : Int32) (1000000 : Int32) (43 : Int32) t1_0 t2_0) := ⟨_, rfl⟩
      have e82 : y73 = p80.1 := congrArg (fun z => z.1) (hE78.trans e81.symm)
      have e83 : f74 = p80.2 := congrArg (fun z => z.2) (hE78.trans e81.symm)
      replace b76 : q_F (t1_0.toInt + 1 ≤ y73.toInt) := b76
      replace b77 : q_F (y73.toInt ≤ t1_0.toInt + 1) := b77
      replace hT0 := (hu79 _ (by decide)).trans hT0
      replace hF := q_uc hF hu79 (by first | exact (q_sk (q_mi 1 rfl) (q_sk (q_mi 2 rfl) q_s0)) | simp)
      have hR84 := (show F_Pri_writeSign_c50 x2 t0_0 t0_1 t0_2 t0_3 t1_0 t2_0 t3_0 t3_1 t3_2 t3_3 t3_4 t3_5 t3_6 p80 = (F_Pri_writeSign x2 t0_0 t0_1 t0_2 t0_3 t1_0 t2_0 t3_0 t3_1 t3_2 t3_3 t3_4 t3_5 t3_6) from (by have c34x := c34; rw [e33] at c34x; rw [e81, F_Pri_writeSign.eq_1, if_pos c25, if_neg c34x]))
      refine lv_goto (tgt := 78) hx hb d_9_13_53 (by decide) ?_
      refine lv_aload_n hx hb d_9_13_78 rfl (lv_at hl 0 rfl) ?_
      refine lv_aload_n hx hb d_9_13_79 rfl (lv_at hl 0 rfl) ?_
      refine q_get (ci := 11) (j := 8) (v := .ref (q 45)) C0 V i_Pri rfl rfl hT0 (by decide) w_393 rfl d_9_13_80 ?_
      refine q_get (ci := 1) (j := 2) (v := .int y73) C0 V i_She rfl rfl hO72 (by decide) w_58 rfl d_9_13_83 ?_
      refine q_put (ci := 11) (j := 9) (v := .int y73) (ty := .int) C0 V i_Pri o_Pri n_Pri rfl rfl hT0 (by decide) w_394 rfl rfl rfl rfl (Nat.le_of_ble_eq_true rfl) d_9_13_86 (fun H locs w89 hu90 hT0 V => ?_)
      replace hT0 : w89[40]? = (some (q 40, .inr (11, [.int t0_0, .ref (q 41), .ref (q 42), .ref (q 43), .ref (q 44), .ref (q 1), .ref (q 47), .ref (q 36), .ref (q 45), .int y73, .int t0_2, .int t0_3])) : Option (Nat × va_E)) := hT0
      replace hI := n_p40 hI hu90 hT0 (by first | with_reducible exact q_fe btt0_0 | exact ⟨(by have t1 : 0 ≤ t0_0.toInt ∧ t0_0.toInt ≤ 9 := btt0_0; omega), (by have t1 : 0 ≤ t0_0.toInt ∧ t0_0.toInt ≤ 9 := btt0_0; omega)⟩) ⟨(by have t1 : 0 ≤ t1_0.toInt ∧ t1_0.toInt ≤ 1000000 := btt1_0; have t2 : t1_0.toInt + 1 ≤ y73.toInt := b76; omega), (by have t1 : t1_0.toInt ≤ 900000 := pre0; have t2 : y73.toInt ≤ t1_0.toInt + 1 := b77; omega)⟩ (by first | with_reducible exact q_fe btt0_3 | exact ⟨(by have t1 : -1 ≤ t0_3.toInt ∧ t0_3.toInt ≤ 8 := btt0_3; omega), (by have t1 : -1 ≤ t0_3.toInt ∧ t0_3.toInt ≤ 8 := btt0_3; omega)⟩)
      replace hO72 := (hu90 _ (by decide)).trans hO72
      replace hA75 := (hu90 _ (by decide)).trans hA75
      replace hF := q_us hF hu90 (by simp)
      exact q_retv C0 V (⟨hI, hF, t0_0, y73, t0_2, t0_3, y73, f74, hT0, hO72, hA75, (show t0_0.toInt ≤ t0_0.toInt from (by omega)), (show t0_0.toInt ≤ t0_0.toInt from (by omega)), (show t0_2.toInt ≤ t0_2.toInt from (by omega)), (show t0_2.toInt ≤ t0_2.toInt from (by omega)), (show t0_3.toInt ≤ t0_3.toInt from (by omega)), (show t0_3.toInt ≤ t0_3.toInt from (by omega)), (show x2.toInt ≤ y73.toInt from (by have t1 : 0 ≤ x2.toInt ∧ x2.toInt ≤ 1 := hzx2; have t2 : 0 ≤ t1_0.toInt ∧ t1_0.toInt ≤ 1000000 := btt1_0; have t3 : t1_0.toInt + 1 ≤ y73.toInt := b76; omega)), (show t1_0.toInt ≤ y73.toInt from (by first | with_reducible exact q_fe b76 | (have t1 : t1_0.toInt + 1 ≤ y73.toInt := b76; omega))), (show y73.toInt ≤ t1_0.toInt + 1 from (by first | with_reducible exact q_fe b77 | (have t1 : y73.toInt ≤ t1_0.toInt + 1 := b77; omega))), (show y73.toInt ≤ y73.toInt from (by omega)), (show y73.toInt ≤ y73.toInt from (by omega)), (show (t0_0, y73, t0_2, t0_3, y73, f74) = (F_Pri_writeSign x2 t0_0 t0_1 t0_2 t0_3 t1_0 t2_0 t3_0 t3_1 t3_2 t3_3 t3_4 t3_5 t3_6) from Eq.trans (by rw [e83, e82, F_Pri_writeSign_c50.eq_1]) hR84)⟩) d_9_13_89
  ·
    refine lv_aload_n hx hb d_9_13_4 rfl (lv_at hl 0 rfl) ?_
    refine q_get (ci := 11) (j := 8) (v := .ref (q 45)) C0 V i_Pri rfl rfl hT0 (by decide) w_393 rfl d_9_13_5 ?_
    refine lv_aload_n hx hb d_9_13_8 rfl (lv_at hl 0 rfl) ?_
    refine q_get (ci := 11) (j := 6) (v := .ref (q 47)) C0 V i_Pri rfl rfl hT0 (by decide) w_391 rfl d_9_13_9 ?_
    refine lv_bipush (v := 32) hx hb d_9_13_12 (by decide) ?_
    refine q_goi V (q_runV (As := [.int 32]) (rest := [.ref (q 45)]) (d := 1) (mc := 0) (ms := 0) (ci := 10) C0 V rfl LV_Pri_144 (X_Dir_has l D g q ws  32 hI t3_0 t3_1 t3_2 t3_3 t3_4 t3_5 t3_6 hT3  _) rfl rfl hT3 rfl hl.1 rfl (Nat.le_of_ble_eq_true rfl) ⟨by decide, by decide⟩ ⟨Nat.le_of_ble_eq_true rfl, Nat.le_of_ble_eq_true rfl⟩ d_9_13_14) (fun a94 u92 H locs hp93 V => ?_)
    obtain ⟨rfl, b95, b96, hE97⟩ := hp93
    have e98 : a94 = (F_Dir_has (32 : Int32) t3_0 t3_1 t3_2 t3_3 t3_4 t3_5 t3_6) := hE97
    clear b95
    clear b96
    refine lv_if_eq (tgt := 25) hx hb d_9_13_17 (by decide) (fun c99 => ?_) (fun c99 => ?_)
    ·
      refine lv_bipush (v := 45) hx hb d_9_13_25 (by decide) ?_
      refine q_gov V (q_runV (As := [.int 45]) (rest := []) (d := 1) (mc := 0) (ms := 0) (ci := 1) C0 V rfl LV_Pri_113 (X_She_add_p l D g q ws 45 4104 513 1000000 (n_h45 g q) 45 hI t1_0 hT1 t2_0 hT2 (by have y0 : (4104 : Int32).toInt = 4104 := rfl; have y1 : (513 : Int32).toInt = 513 := rfl; have y2 : (1000000 : Int32).toInt = 1000000 := rfl; have y3 : (45 : Int32).toInt = 45 := rfl; have t1 : t1_0.toInt ≤ 900000 := pre0; omega) _) rfl rfl hT1 rfl hl.1 rfl (Nat.le_of_ble_eq_true rfl) ⟨by decide, by decide⟩ ⟨Nat.le_of_ble_eq_true rfl, Nat.le_of_ble_eq_true rfl⟩ d_9_13_27) (fun u101 H locs hp102 V => ?_)
      obtain ⟨hI, hZ9⟩ := hp102
      obtain ⟨hu110, hZ9⟩ := hZ9
      obtain ⟨y104, hZ9⟩ := hZ9
      obtain ⟨f105, hZ9⟩ := hZ9
      obtain ⟨hO103, hZ9⟩ := hZ9
      obtain ⟨hA106, hZ9⟩ := hZ9
      obtain ⟨b107, hZ9⟩ := hZ9
      obtain ⟨b108, hE109⟩ := hZ9
      replace hO103 : u101[45]? = (some (q 45, .inr (1, [.ref (q 46), .int 4104, .int y104])) : Option (Nat × va_E)) := hO103
      replace hA106 : u101[46]? = (some (q 46, .inl (g 1, (513 : Int32).toNatClampNeg, .inr (.inl f105))) : Option (Nat × va_E)) := hA106
      obtain ⟨p111, e112⟩ : ∃ z, z = (F_She_add_p (4104 : Int32) (513 : Int32) (1000000 : Int32) (45 : Int32) t1_0 t2_0) := ⟨_, rfl⟩
      have e113 : y104 = p111.1 := congrArg (fun z => z.1) (hE109.trans e112.symm)
      have e114 : f105 = p111.2 := congrArg (fun z => z.2) (hE109.trans e112.symm)
      replace b107 : q_F (t1_0.toInt + 1 ≤ y104.toInt) := b107
      replace b108 : q_F (y104.toInt ≤ t1_0.toInt + 1) := b108
      replace hT0 := (hu110 _ (by decide)).trans hT0
      replace hF := q_uc hF hu110 (by first | exact (q_sk (q_mi 1 rfl) (q_sk (q_mi 2 rfl) q_s0)) | simp)
      have hR115 := (show F_Pri_writeSign_c27 x2 t0_0 t0_1 t0_2 t0_3 t1_0 t2_0 t3_0 t3_1 t3_2 t3_3 t3_4 t3_5 t3_6 p111 = (F_Pri_writeSign x2 t0_0 t0_1 t0_2 t0_3 t1_0 t2_0 t3_0 t3_1 t3_2 t3_3 t3_4 t3_5 t3_6) from (by have c99x := c99; rw [e98] at c99x; rw [e112, F_Pri_writeSign.eq_1, if_neg c25, if_pos c99x]))
      refine lv_goto (tgt := 78) hx hb d_9_13_30 (by decide) ?_
      refine lv_aload_n hx hb d_9_13_78 rfl (lv_at hl 0 rfl) ?_
      refine lv_aload_n hx hb d_9_13_79 rfl (lv_at hl 0 rfl) ?_
      refine q_get (ci := 11) (j := 8) (v := .ref (q 45)) C0 V i_Pri rfl rfl hT0 (by decide) w_393 rfl d_9_13_80 ?_
      refine q_get (ci := 1) (j := 2) (v := .int y104) C0 V i_She rfl rfl hO103 (by decide) w_58 rfl d_9_13_83 ?_
      refine q_put (ci := 11) (j := 9) (v := .int y104) (ty := .int) C0 V i_Pri o_Pri n_Pri rfl rfl hT0 (by decide) w_394 rfl rfl rfl rfl (Nat.le_of_ble_eq_true rfl) d_9_13_86 (fun H locs w120 hu121 hT0 V => ?_)
      replace hT0 : w120[40]? = (some (q 40, .inr (11, [.int t0_0, .ref (q 41), .ref (q 42), .ref (q 43), .ref (q 44), .ref (q 1), .ref (q 47), .ref (q 36), .ref (q 45), .int y104, .int t0_2, .int t0_3])) : Option (Nat × va_E)) := hT0
      replace hI := n_p40 hI hu121 hT0 (by first | with_reducible exact q_fe btt0_0 | exact ⟨(by have t1 : 0 ≤ t0_0.toInt ∧ t0_0.toInt ≤ 9 := btt0_0; omega), (by have t1 : 0 ≤ t0_0.toInt ∧ t0_0.toInt ≤ 9 := btt0_0; omega)⟩) ⟨(by have t1 : 0 ≤ t1_0.toInt ∧ t1_0.toInt ≤ 1000000 := btt1_0; have t2 : t1_0.toInt + 1 ≤ y104.toInt := b107; omega), (by have t1 : t1_0.toInt ≤ 900000 := pre0; have t2 : y104.toInt ≤ t1_0.toInt + 1 := b108; omega)⟩ (by first | with_reducible exact q_fe btt0_3 | exact ⟨(by have t1 : -1 ≤ t0_3.toInt ∧ t0_3.toInt ≤ 8 := btt0_3; omega), (by have t1 : -1 ≤ t0_3.toInt ∧ t0_3.toInt ≤ 8 := btt0_3; omega)⟩)
      replace hO103 := (hu121 _ (by decide)).trans hO103
      replace hA106 := (hu121 _ (by decide)).trans hA106
      replace hF := q_us hF hu121 (by simp)
      exact q_retv C0 V (⟨hI, hF, t0_0, y104, t0_2, t0_3, y104, f105, hT0, hO103, hA106, (show t0_0.toInt ≤ t0_0.toInt from (by omega)), (show t0_0.toInt ≤ t0_0.toInt from (by omega)), (show t0_2.toInt ≤ t0_2.toInt from (by omega)), (show t0_2.toInt ≤ t0_2.toInt from (by omega)), (show t0_3.toInt ≤ t0_3.toInt from (by omega)), (show t0_3.toInt ≤ t0_3.toInt from (by omega)), (show x2.toInt ≤ y104.toInt from (by have t1 : 0 ≤ x2.toInt ∧ x2.toInt ≤ 1 := hzx2; have t2 : 0 ≤ t1_0.toInt ∧ t1_0.toInt ≤ 1000000 := btt1_0; have t3 : t1_0.toInt + 1 ≤ y104.toInt := b107; omega)), (show t1_0.toInt ≤ y104.toInt from (by first | with_reducible exact q_fe b107 | (have t1 : t1_0.toInt + 1 ≤ y104.toInt := b107; omega))), (show y104.toInt ≤ t1_0.toInt + 1 from (by first | with_reducible exact q_fe b108 | (have t1 : y104.toInt ≤ t1_0.toInt + 1 := b108; omega))), (show y104.toInt ≤ y104.toInt from (by omega)), (show y104.toInt ≤ y104.toInt from (by omega)), (show (t0_0, y104, t0_2, t0_3, y104, f105) = (F_Pri_writeSign x2 t0_0 t0_1 t0_2 t0_3 t1_0 t2_0 t3_0 t3_1 t3_2 t3_3 t3_4 t3_5 t3_6) from Eq.trans (by rw [e114, e113, F_Pri_writeSign_c27.eq_1]) hR115)⟩) d_9_13_89
    ·
      refine lv_bipush (v := 40) hx hb d_9_13_20 (by decide) ?_
      refine lv_goto (tgt := 27) hx hb d_9_13_22 (by decide) ?_
      refine q_gov V (q_runV (As := [.int 40]) (rest := []) (d := 1) (mc := 0) (ms := 0) (ci := 1) C0 V rfl LV_Pri_113 (X_She_add_p l D g q ws 45 4104 513 1000000 (n_h45 g q) 40 hI t1_0 hT1 t2_0 hT2 (by have y0 : (4104 : Int32).toInt = 4104 := rfl; have y1 : (513 : Int32).toInt = 513 := rfl; have y2 : (1000000 : Int32).toInt = 1000000 := rfl; have y3 : (40 : Int32).toInt = 40 := rfl; have t1 : t1_0.toInt ≤ 900000 := pre0; omega) _) rfl rfl hT1 rfl hl.1 rfl (Nat.le_of_ble_eq_true rfl) ⟨by decide, by decide⟩ ⟨Nat.le_of_ble_eq_true rfl, Nat.le_of_ble_eq_true rfl⟩ d_9_13_27) (fun u123 H locs hp124 V => ?_)
      obtain ⟨hI, hZ9⟩ := hp124
      obtain ⟨hu132, hZ9⟩ := hZ9
      obtain ⟨y126, hZ9⟩ := hZ9
      obtain ⟨f127, hZ9⟩ := hZ9
      obtain ⟨hO125, hZ9⟩ := hZ9
      obtain ⟨hA128, hZ9⟩ := hZ9
      obtain ⟨b129, hZ9⟩ := hZ9
      obtain ⟨b130, hE131⟩ := hZ9
      replace hO125 : u123[45]? = (some (q 45, .inr (1, [.ref (q 46), .int 4104, .int y126])) : Option (Nat × va_E)) := hO125
      replace hA128 : u123[46]? = (some (q 46, .inl (g 1, (513 : Int32).toNatClampNeg, .inr (.inl f127))) : Option (Nat × va_E)) := hA128
      obtain ⟨p133, e134⟩ : ∃ z, z = (F_She_add_p (4104 : Int32) (513 : Int32) (1000000 : Int32) (40 : Int32) t1_0 t2_0) := ⟨_, rfl⟩
      have e135 : y126 = p133.1 := congrArg (fun z => z.1) (hE131.trans e134.symm)
      have e136 : f127 = p133.2 := congrArg (fun z => z.2) (hE131.trans e134.symm)
      replace b129 : q_F (t1_0.toInt + 1 ≤ y126.toInt) := b129
      replace b130 : q_F (y126.toInt ≤ t1_0.toInt + 1) := b130
      replace hT0 := (hu132 _ (by decide)).trans hT0
      replace hF := q_uc hF hu132 (by first | exact (q_sk (q_mi 1 rfl) (q_sk (q_mi 2 rfl) q_s0)) | simp)
      have hR137 := (show F_Pri_writeSign_c27_4 x2 t0_0 t0_1 t0_2 t0_3 t1_0 t2_0 t3_0 t3_1 t3_2 t3_3 t3_4 t3_5 t3_6 p133 = (F_Pri_writeSign x2 t0_0 t0_1 t0_2 t0_3 t1_0 t2_0 t3_0 t3_1 t3_2 t3_3 t3_4 t3_5 t3_6) from (by have c99x := c99; rw [e98] at c99x; rw [e134, F_Pri_writeSign.eq_1, if_neg c25, if_neg c99x]))
      refine lv_goto (tgt := 78) hx hb d_9_13_30 (by decide) ?_
      refine lv_aload_n hx hb d_9_13_78 rfl (lv_at hl 0 rfl) ?_
      refine lv_aload_n hx hb d_9_13_79 rfl (lv_at hl 0 rfl) ?_
      refine q_get (ci := 11) (j := 8) (v := .ref (q 45)) C0 V i_Pri rfl rfl hT0 (by decide) w_393 rfl d_9_13_80 ?_
      refine q_get (ci := 1) (j := 2) (v := .int y126) C0 V i_She rfl rfl hO125 (by decide) w_58 rfl d_9_13_83 ?_
      refine q_put (ci := 11) (j := 9) (v := .int y126) (ty := .int) C0 V i_Pri o_Pri n_Pri rfl rfl hT0 (by decide) w_394 rfl rfl rfl rfl (Nat.le_of_ble_eq_true rfl) d_9_13_86 (fun H locs w142 hu143 hT0 V => ?_)
      replace hT0 : w142[40]? = (some (q 40, .inr (11, [.int t0_0, .ref (q 41), .ref (q 42), .ref (q 43), .ref (q 44), .ref (q 1), .ref (q 47), .ref (q 36), .ref (q 45), .int y126, .int t0_2, .int t0_3])) : Option (Nat × va_E)) := hT0
      replace hI := n_p40 hI hu143 hT0 (by first | with_reducible exact q_fe btt0_0 | exact ⟨(by have t1 : 0 ≤ t0_0.toInt ∧ t0_0.toInt ≤ 9 := btt0_0; omega), (by have t1 : 0 ≤ t0_0.toInt ∧ t0_0.toInt ≤ 9 := btt0_0; omega)⟩) ⟨(by have t1 : 0 ≤ t1_0.toInt ∧ t1_0.toInt ≤ 1000000 := btt1_0; have t2 : t1_0.toInt + 1 ≤ y126.toInt := b129; omega), (by have t1 : t1_0.toInt ≤ 900000 := pre0; have t2 : y126.toInt ≤ t1_0.toInt + 1 := b130; omega)⟩ (by first | with_reducible exact q_fe btt0_3 | exact ⟨(by have t1 : -1 ≤ t0_3.toInt ∧ t0_3.toInt ≤ 8 := btt0_3; omega), (by have t1 : -1 ≤ t0_3.toInt ∧ t0_3.toInt ≤ 8 := btt0_3; omega)⟩)
      replace hO125 := (hu143 _ (by decide)).trans hO125
      replace hA128 := (hu143 _ (by decide)).trans hA128
      replace hF := q_us hF hu143 (by simp)
      exact q_retv C0 V (⟨hI, hF, t0_0, y126, t0_2, t0_3, y126, f127, hT0, hO125, hA128, (show t0_0.toInt ≤ t0_0.toInt from (by omega)), (show t0_0.toInt ≤ t0_0.toInt from (by omega)), (show t0_2.toInt ≤ t0_2.toInt from (by omega)), (show t0_2.toInt ≤ t0_2.toInt from (by omega)), (show t0_3.toInt ≤ t0_3.toInt from (by omega)), (show t0_3.toInt ≤ t0_3.toInt from (by omega)), (show x2.toInt ≤ y126.toInt from (by have t1 : 0 ≤ x2.toInt ∧ x2.toInt ≤ 1 := hzx2; have t2 : 0 ≤ t1_0.toInt ∧ t1_0.toInt ≤ 1000000 := btt1_0; have t3 : t1_0.toInt + 1 ≤ y126.toInt := b129; omega)), (show t1_0.toInt ≤ y126.toInt from (by first | with_reducible exact q_fe b129 | (have t1 : t1_0.toInt + 1 ≤ y126.toInt := b129; omega))), (show y126.toInt ≤ t1_0.toInt + 1 from (by first | with_reducible exact q_fe b130 | (have t1 : y126.toInt ≤ t1_0.toInt + 1 := b130; omega))), (show y126.toInt ≤ y126.toInt from (by omega)), (show y126.toInt ≤ y126.toInt from (by omega)), (show (t0_0, y126, t0_2, t0_3, y126, f127) = (F_Pri_writeSign x2 t0_0 t0_1 t0_2 t0_3 t1_0 t2_0 t3_0 t3_1 t3_2 t3_3 t3_4 t3_5 t3_6) from Eq.trans (by rw [e136, e135, F_Pri_writeSign_c27_4.eq_1]) hR137)⟩) d_9_13_89
def F_Pri_writeToBase_c139 (K_F_Pri_writeToBase_L78 : Int32 → (Int32 × Int32 × Int32 × Int32 × Int32 × (Nat → Int64))) (K_F_Pri_writeToBase_L110 : Int32 → Int32 → (Nat → Int64) → (Int32 × Int32 × Int32 × Int32 × Int32 × (Nat → Int64))) (x2 : Int64) (t0_0 : Int32) (t0_1 : Int32) (t0_2 : Int32) (t0_3 : Int32) (t1_0 : Int32) (t2_0 : (Nat → Int64)) (t3_0 : Int32) (t3_1 : Int32) (t3_2 : Int32) (t3_3 : Int32) (t3_4 : Int32) (t3_5 : Int32) (t3_6 : Int32) (lx25 : Int32) (lx45 : Int32) (lx46 : (Nat → Int64)) (lx62 : Int32) (lx82 : Int32) (lx105 : Int32) (lx106 : Int32) (lx107 : (Nat → Int64)) (p158 : (Int32 × (Nat → Int64))) : Int32 × Int32 × Int32 × Int32 × Int32 × (Nat → Int64) := K_F_Pri_writeToBase_L110 (lx105 + (-1) : Int32) (p158.1 : Int32) (p158.2 : (Nat → Int64))
def F_Pri_writeToBase_L110 (K_F_Pri_writeToBase_L78 : Int32 → (Int32 × Int32 × Int32 × Int32 × Int32 × (Nat → Int64))) (x2 : Int64) (t0_0 : Int32) (t0_1 : Int32) (t0_2 : Int32) (t0_3 : Int32) (t1_0 : Int32) (t2_0 : (Nat → Int64)) (t3_0 : Int32) (t3_1 : Int32) (t3_2 : Int32) (t3_3 : Int32) (t3_4 : Int32) (t3_5 : Int32) (t3_6 : Int32) (lx25 : Int32) (lx45 : Int32) (lx46 : (Nat → Int64)) (lx62 : Int32) (lx82 : Int32) : Nat → Int32 → Int32 → (Nat → Int64) → (Int32 × Int32 × Int32 × Int32 × Int32 × (Nat → Int64))
  | 0, _, _, _ => default
  | fm + 1, lx105, lx106, lx107 => if lx105 < (0 : Int32) then ((t0_0, lx45, t0_2, t0_3, lx106, lx107)) else (F_Pri_writeToBase_c139 K_F_Pri_writeToBase_L78 (F_Pri_writeToBase_L110 K_F_Pri_writeToBase_L78 x2 t0_0 t0_1 t0_2 t0_3 t1_0 t2_0 t3_0 t3_1 t3_2 t3_3 t3_4 t3_5 t3_6 lx25 lx45 lx46 lx62 lx82 fm) x2 t0_0 t0_1 t0_2 t0_3 t1_0 t2_0 t3_0 t3_1 t3_2 t3_3 t3_4 t3_5 t3_6 lx25 lx45 lx46 lx62 lx82 lx105 lx106 lx107 ((F_She_add_p (4104 : Int32) (513 : Int32) (1000000 : Int32) ((F_jStr_charAt_19 ((((x2.toUInt64 >>> ((lx62 * lx105 : Int32).toInt64.toUInt64 &&& Int64.toUInt64 63)).toInt64 : Int64).toInt32 : Int32) &&& (((1 : Int32) <<< (lx62 &&& 31) : Int32) - 1 : Int32) : Int32)) : Int32) lx106 lx107) : (Int32 × (Nat → Int64))))
def F_Pri_writeToBase_J104 (K_F_Pri_writeToBase_L78 : Int32 → (Int32 × Int32 × Int32 × Int32 × Int32 × (Nat → Int64))) (x2 : Int64) (t0_0 : Int32) (t0_1 : Int32) (t0_2 : Int32) (t0_3 : Int32) (t1_0 : Int32) (t2_0 : (Nat → Int64)) (t3_0 : Int32) (t3_1 : Int32) (t3_2 : Int32) (t3_3 : Int32) (t3_4 : Int32) (t3_5 : Int32) (t3_6 : Int32) (lx25 : Int32) (lx45 : Int32) (lx46 : (Nat → Int64)) (lx62 : Int32) (lx82 : Int32) : Int32 × Int32 × Int32 × Int32 × Int32 × (Nat → Int64) := F_Pri_writeToBase_L110 K_F_Pri_writeToBase_L78 x2 t0_0 t0_1 t0_2 t0_3 t1_0 t2_0 t3_0 t3_1 t3_2 t3_3 t3_4 t3_5 t3_6 lx25 lx45 lx46 lx62 lx82 (((lx82 - 1 : Int32).toInt - ((-1))).toNat + 1) (lx82 - 1 : Int32) lx45 lx46
def F_Pri_writeToBase_L78 (x2 : Int64) (t0_0 : Int32) (t0_1 : Int32) (t0_2 : Int32) (t0_3 : Int32) (t1_0 : Int32) (t2_0 : (Nat → Int64)) (t3_0 : Int32) (t3_1 : Int32) (t3_2 : Int32) (t3_3 : Int32) (t3_4 : Int32) (t3_5 : Int32) (t3_6 : Int32) (lx25 : Int32) (lx45 : Int32) (lx46 : (Nat → Int64)) (lx62 : Int32) : Nat → Int32 → (Int32 × Int32 × Int32 × Int32 × Int32 × (Nat → Int64))
  | 0, _ => default
  | fm + 1, lx82 => if lx82 ≤ (1 : Int32) then (F_Pri_writeToBase_J104 (F_Pri_writeToBase_L78 x2 t0_0 t0_1 t0_2 t0_3 t1_0 t2_0 t3_0 t3_1 t3_2 t3_3 t3_4 t3_5 t3_6 lx25 lx45 lx46 lx62 fm) x2 t0_0 t0_1 t0_2 t0_3 t1_0 t2_0 t3_0 t3_1 t3_2 t3_3 t3_4 t3_5 t3_6 lx25 lx45 lx46 lx62 lx82) else (if (lg_cmp ((x2.toUInt64 >>> ((lx62 * (lx82 - 1 : Int32) : Int32).toInt64.toUInt64 &&& Int64.toUInt64 63)).toInt64 : Int64) 0 : Int32) = (0 : Int32) then (F_Pri_writeToBase_L78 x2 t0_0 t0_1 t0_2 t0_3 t1_0 t2_0 t3_0 t3_1 t3_2 t3_3 t3_4 t3_5 t3_6 lx25 lx45 lx46 lx62 fm (lx82 + (-1) : Int32)) else (F_Pri_writeToBase_J104 (F_Pri_writeToBase_L78 x2 t0_0 t0_1 t0_2 t0_3 t1_0 t2_0 t3_0 t3_1 t3_2 t3_3 t3_4 t3_5 t3_6 lx25 lx45 lx46 lx62 fm) x2 t0_0 t0_1 t0_2 t0_3 t1_0 t2_0 t3_0 t3_1 t3_2 t3_3 t3_4 t3_5 t3_6 lx25 lx45 lx46 lx62 lx82))
def F_Pri_writeToBase_J67 (x2 : Int64) (t0_0 : Int32) (t0_1 : Int32) (t0_2 : Int32) (t0_3 : Int32) (t1_0 : Int32) (t2_0 : (Nat → Int64)) (t3_0 : Int32) (t3_1 : Int32) (t3_2 : Int32) (t3_3 : Int32) (t3_4 : Int32) (t3_5 : Int32) (t3_6 : Int32) (lx25 : Int32) (lx45 : Int32) (lx46 : (Nat → Int64)) (lx62 : Int32) : Int32 × Int32 × Int32 × Int32 × Int32 × (Nat → Int64) := F_Pri_writeToBase_L78 x2 t0_0 t0_1 t0_2 t0_3 t1_0 t2_0 t3_0 t3_1 t3_2 t3_3 t3_4 t3_5 t3_6 lx25 lx45 lx46 lx62 ((((63 / lx62 : Int32) + 1 : Int32).toInt - ((-1))).toNat + 1) ((63 / lx62 : Int32) + 1 : Int32)
def F_Pri_writeToBase_J47 (x2 : Int64) (t0_0 : Int32) (t0_1 : Int32) (t0_2 : Int32) (t0_3 : Int32) (t1_0 : Int32) (t2_0 : (Nat → Int64)) (t3_0 : Int32) (t3_1 : Int32) (t3_2 : Int32) (t3_3 : Int32) (t3_4 : Int32) (t3_5 : Int32) (t3_6 : Int32) (lx25 : Int32) (lx45 : Int32) (lx46 : (Nat → Int64)) : Int32 × Int32 × Int32 × Int32 × Int32 × (Nat → Int64) := if lx25 = (0 : Int32) then (F_Pri_writeToBase_J67 x2 t0_0 t0_1 t0_2 t0_3 t1_0 t2_0 t3_0 t3_1 t3_2 t3_3 t3_4 t3_5 t3_6 lx25 lx45 lx46 4) else (F_Pri_writeToBase_J67 x2 t0_0 t0_1 t0_2 t0_3 t1_0 t2_0 t3_0 t3_1 t3_2 t3_3 t3_4 t3_5 t3_6 lx25 lx45 lx46 3)
def F_Pri_writeToBase_c44 (x2 : Int64) (t0_0 : Int32) (t0_1 : Int32) (t0_2 : Int32) (t0_3 : Int32) (t1_0 : Int32) (t2_0 : (Nat → Int64)) (t3_0 : Int32) (t3_1 : Int32) (t3_2 : Int32) (t3_3 : Int32) (t3_4 : Int32) (t3_5 : Int32) (t3_6 : Int32) (lx25 : Int32) (p207 : (Int32 × (Nat → Int64))) : Int32 × Int32 × Int32 × Int32 × Int32 × (Nat → Int64) := F_Pri_writeToBase_J47 x2 t0_0 t0_1 t0_2 t0_3 t1_0 t2_0 t3_0 t3_1 t3_2 t3_3 t3_4 t3_5 t3_6 lx25 (p207.1 : Int32) (p207.2 : (Nat → Int64))
def F_Pri_writeToBase_c44_9 (x2 : Int64) (t0_0 : Int32) (t0_1 : Int32) (t0_2 : Int32) (t0_3 : Int32) (t1_0 : Int32) (t2_0 : (Nat → Int64)) (t3_0 : Int32) (t3_1 : Int32) (t3_2 : Int32) (t3_3 : Int32) (t3_4 : Int32) (t3_5 : Int32) (t3_6 : Int32) (lx25 : Int32) (p227 : (Int32 × (Nat → Int64))) : Int32 × Int32 × Int32 × Int32 × Int32 × (Nat → Int64) := F_Pri_writeToBase_J47 x2 t0_0 t0_1 t0_2 t0_3 t1_0 t2_0 t3_0 t3_1 t3_2 t3_3 t3_4 t3_5 t3_6 lx25 (p227.1 : Int32) (p227.2 : (Nat → Int64))
def F_Pri_writeToBase_J17 (x2 : Int64) (t0_0 : Int32) (t0_1 : Int32) (t0_2 : Int32) (t0_3 : Int32) (t1_0 : Int32) (t2_0 : (Nat → Int64)) (t3_0 : Int32) (t3_1 : Int32) (t3_2 : Int32) (t3_3 : Int32) (t3_4 : Int32) (t3_5 : Int32) (t3_6 : Int32) (lx25 : Int32) : Int32 × Int32 × Int32 × Int32 × Int32 × (Nat → Int64) := if ((F_Dir_has (2 : Int32) t3_0 t3_1 t3_2 t3_3 t3_4 t3_5 t3_6) : Int32) = (0 : Int32) then (F_Pri_writeToBase_J47 x2 t0_0 t0_1 t0_2 t0_3 t1_0 t2_0 t3_0 t3_1 t3_2 t3_3 t3_4 t3_5 t3_6 lx25 t1_0 t2_0) else (if lx25 = (0 : Int32) then (F_Pri_writeToBase_c44 x2 t0_0 t0_1 t0_2 t0_3 t1_0 t2_0 t3_0 t3_1 t3_2 t3_3 t3_4 t3_5 t3_6 lx25 ((F_She_addText_18 (4104 : Int32) (513 : Int32) (1000000 : Int32) t1_0 t2_0) : (Int32 × (Nat → Int64)))) else (F_Pri_writeToBase_c44_9 x2 t0_0 t0_1 t0_2 t0_3 t1_0 t2_0 t3_0 t3_1 t3_2 t3_3 t3_4 t3_5 t3_6 lx25 ((F_She_addText_17 (4104 : Int32) (513 : Int32) (1000000 : Int32) t1_0 t2_0) : (Int32 × (Nat → Int64)))))
def F_Pri_writeToBase (x2 : Int64) (t0_0 : Int32) (t0_1 : Int32) (t0_2 : Int32) (t0_3 : Int32) (t1_0 : Int32) (t2_0 : (Nat → Int64)) (t3_0 : Int32) (t3_1 : Int32) (t3_2 : Int32) (t3_3 : Int32) (t3_4 : Int32) (t3_5 : Int32) (t3_6 : Int32) : Int32 × Int32 × Int32 × Int32 × Int32 × (Nat → Int64) := if t3_4 = (111 : Int32) then (F_Pri_writeToBase_J17 x2 t0_0 t0_1 t0_2 t0_3 t1_0 t2_0 t3_0 t3_1 t3_2 t3_3 t3_4 t3_5 t3_6 1) else (F_Pri_writeToBase_J17 x2 t0_0 t0_1 t0_2 t0_3 t1_0 t2_0 t3_0 t3_1 t3_2 t3_3 t3_4 t3_5 t3_6 0)
set_option maxRecDepth 100000 in
set_option maxHeartbeats 4000000 in
theorem X_Pri_writeToBase (l : Launch) (D : va_G) (g : Nat → ClassId) (q : Nat → Nat) (ws : va_W) (x2 : Int64) (hI : q_I (nsh g q) q ws) (t0_0 : Int32) (t0_1 : Int32) (t0_2 : Int32) (t0_3 : Int32) (hT0 : ws[40]? = (some (q 40, .inr (11, [.int t0_0, .ref (q 41), .ref (q 42), .ref (q 43), .ref (q 44), .ref (q 1), .ref (q 47), .ref (q 36), .ref (q 45), .int t0_1, .int t0_2, .int t0_3])) : Option (Nat × va_E))) (t1_0 : Int32) (hT1 : ws[45]? = (some (q 45, .inr (1, [.ref (q 46), .int 4104, .int t1_0])) : Option (Nat × va_E))) (t2_0 : (Nat → Int64)) (hT2 : ws[46]? = (some (q 46, .inl (g 1, (513 : Int32).toNatClampNeg, .inr (.inl t2_0))) : Option (Nat × va_E))) (t3_0 : Int32) (t3_1 : Int32) (t3_2 : Int32) (t3_3 : Int32) (t3_4 : Int32) (t3_5 : Int32) (t3_6 : Int32) (hT3 : ws[47]? = (some (q 47, .inr (10, [.int t3_0, .int t3_1, .int t3_2, .int t3_3, .int t3_4, .int t3_5, .ref (q 1), .int t3_6])) : Option (Nat × va_E))) (pre0 : t1_0.toInt ≤ 900000) : q_mV l y_Pri_writeToBase prog_9_method_12_code 7 6 0 0 D g [.ref (q 40), .long x2] ws (fun u => q_I (nsh g q) q u ∧ q_un ws u [40, 45, 46] ∧ ∃ (u0_0 : Int32) (u0_1 : Int32) (u0_2 : Int32) (u0_3 : Int32) (u1_0 : Int32) (u2_0 : (Nat → Int64)), u[40]? = (some (q 40, .inr (11, [.int u0_0, .ref (q 41), .ref (q 42), .ref (q 43), .ref (q 44), .ref (q 1), .ref (q 47), .ref (q 36), .ref (q 45), .int u0_1, .int u0_2, .int u0_3])) : Option (Nat × va_E)) ∧ u[45]? = (some (q 45, .inr (1, [.ref (q 46), .int 4104, .int u1_0])) : Option (Nat × va_E)) ∧ u[46]? = (some (q 46, .inl (g 1, (513 : Int32).toNatClampNeg, .inr (.inl u2_0))) : Option (Nat × va_E)) ∧ (t0_0.toInt ≤ u0_0.toInt) ∧ (u0_0.toInt ≤ t0_0.toInt) ∧ (t1_0.toInt ≤ u0_1.toInt) ∧ (u0_1.toInt ≤ t1_0.toInt + 2) ∧ (t0_2.toInt ≤ u0_2.toInt) ∧ (u0_2.toInt ≤ t0_2.toInt) ∧ (t0_3.toInt ≤ u0_3.toInt) ∧ (u0_3.toInt ≤ t0_3.toInt) ∧ (u1_0.toInt ≤ u0_1.toInt + 64) ∧ (u0_1.toInt + 1 ≤ u1_0.toInt) ∧ (u0_0, u0_1, u0_2, u0_3, u1_0, u2_0) = (F_Pri_writeToBase x2 t0_0 t0_1 t0_2 t0_3 t1_0 t2_0 t3_0 t3_1 t3_2 t3_3 t3_4 t3_5 t3_6)) := by
  intro sz
  refine q_into (by decide) (Nat.le_of_ble_eq_true rfl) ?_
  intro p e s m below meth c ls hsz C0 V hl
  have hx := C0.1
  have hb := C0.2.1
  obtain ⟨btt0_0, hZ9⟩ := n_w40 hI hT0
  obtain ⟨-, btt0_3⟩ := hZ9
  replace btt0_0 : q_F (0 ≤ t0_0.toInt ∧ t0_0.toInt ≤ 9) := btt0_0
  replace btt0_3 : q_F (-1 ≤ t0_3.toInt ∧ t0_3.toInt ≤ 8) := btt0_3
  have btt1_0 := n_shW hI (n_h45 g q) hT1
  replace btt1_0 : q_F (0 ≤ t1_0.toInt ∧ t1_0.toInt ≤ 1000000) := btt1_0
  have hZ9 := (n_w47 hI hT3).2
  obtain ⟨-, btt3_6⟩ := hZ9
  clear btt3_6
  replace pre0 : q_F (t1_0.toInt ≤ 900000) := pre0
  have hF : q_un ws ws [40, 45, 46] := q_u0
  have hl : lv_has ls 7 [(0, .ref (q 40)), (1, .long x2)] := hl
  refine lv_aload_n hx hb d_9_12_0 rfl (lv_at hl 0 rfl) ?_
  refine q_get (ci := 11) (j := 6) (v := .ref (q 47)) C0 V i_Pri rfl rfl hT0 (by decide) w_391 rfl d_9_12_1 ?_
  refine q_get (ci := 10) (j := 4) (v := .int t3_4) C0 V i_Dir rfl rfl hT3 (by decide) w_362 rfl d_9_12_4 ?_
  refine lv_bipush (v := 111) hx hb d_9_12_7 (by decide) ?_
  refine q_join (X := Int32) (fun z H locs ls _ => q_F (0 ≤ z.toInt) ∧ q_F (z.toInt ≤ 1) ∧ q_Wd D g (va_A ws sz) s ws H locs ∧ lv_has ls 7 [(0, .ref (q 40)), (1, .long x2)] ∧ F_Pri_writeToBase_J17 x2 t0_0 t0_1 t0_2 t0_3 t1_0 t2_0 t3_0 t3_1 t3_2 t3_3 t3_4 t3_5 t3_6 z = (F_Pri_writeToBase x2 t0_0 t0_1 t0_2 t0_3 t1_0 t2_0 t3_0 t3_1 t3_2 t3_3 t3_4 t3_5 t3_6)) (fun z => [.int z]) 17 0 0 ?_ ?_
  ·
    rintro lx25 H locs ls _ ⟨i31, i32, V, hl, hR33⟩
    clear i31
    clear i32
    replace hl : lv_has ls 7 [(0, .ref (q 40)), (1, .long x2)] := hl
    refine lv_istore_n (lv' := [(3, .int lx25), (0, .ref (q 40)), (1, .long x2)]) hx hb d_9_12_17 rfl hl (by decide) rfl (fun ls hl => ?_)
    refine lv_aload_n hx hb d_9_12_18 rfl (lv_at hl 1 rfl) ?_
    refine q_get (ci := 11) (j := 6) (v := .ref (q 47)) C0 V i_Pri rfl rfl hT0 (by decide) w_391 rfl d_9_12_19 ?_
    refine lv_iconst (v := 2) hx hb d_9_12_22 (by decide) ?_
    refine q_goi V (q_runV (As := [.int 2]) (rest := []) (d := 1) (mc := 0) (ms := 0) (ci := 10) C0 V rfl LV_Pri_144 (X_Dir_has l D g q ws  2 hI t3_0 t3_1 t3_2 t3_3 t3_4 t3_5 t3_6 hT3  _) rfl rfl hT3 rfl hl.1 rfl (Nat.le_of_ble_eq_true rfl) ⟨by decide, by decide⟩ ⟨Nat.le_of_ble_eq_true rfl, Nat.le_of_ble_eq_true rfl⟩ d_9_12_23) (fun a40 u38 H locs hp39 V => ?_)
    obtain ⟨rfl, b41, b42, hE43⟩ := hp39
    have e44 : a40 = (F_Dir_has (2 : Int32) t3_0 t3_1 t3_2 t3_3 t3_4 t3_5 t3_6) := hE43
    clear b41
    clear b42
    refine q_join (X := Int32 × (Nat → Int64)) (fun z H locs ls w54 => q_F (t1_0.toInt ≤ z.1.toInt) ∧ q_F (z.1.toInt ≤ t1_0.toInt + 2) ∧ q_Wd D g (va_A ws sz) s w54 H locs ∧ lv_has ls 7 [(3, .int lx25), (0, .ref (q 40)), (1, .long x2)] ∧ q_I (nsh g q) q w54 ∧ q_un ws w54 [40, 45, 46] ∧ w54[40]? = (some (q 40, .inr (11, [.int t0_0, .ref (q 41), .ref (q 42), .ref (q 43), .ref (q 44), .ref (q 1), .ref (q 47), .ref (q 36), .ref (q 45), .int t0_1, .int t0_2, .int t0_3])) : Option (Nat × va_E)) ∧ w54[45]? = (some (q 45, .inr (1, [.ref (q 46), .int 4104, .int z.1])) : Option (Nat × va_E)) ∧ w54[46]? = (some (q 46, .inl (g 1, (513 : Int32).toNatClampNeg, .inr (.inl z.2))) : Option (Nat × va_E)) ∧ w54[47]? = (some (q 47, .inr (10, [.int t3_0, .int t3_1, .int t3_2, .int t3_3, .int t3_4, .int t3_5, .ref (q 1), .int t3_6])) : Option (Nat × va_E)) ∧ F_Pri_writeToBase_J47 x2 t0_0 t0_1 t0_2 t0_3 t1_0 t2_0 t3_0 t3_1 t3_2 t3_3 t3_4 t3_5 t3_6 lx25 z.1 z.2 = (F_Pri_writeToBase x2 t0_0 t0_1 t0_2 t0_3 t1_0 t2_0 t3_0 t3_1 t3_2 t3_3 t3_4 t3_5 t3_6)) (fun z => []) 47 0 0 ?_ ?_
    ·
      rintro ⟨lx45, lx46⟩ H locs ls w54 ⟨i52, i53, V, hl, hI, hF, hO47, hO48, hA49, hO50, hR55⟩
      replace i52 : q_F (t1_0.toInt ≤ lx45.toInt) := i52
      replace i53 : q_F (lx45.toInt ≤ t1_0.toInt + 2) := i53
      replace hl : lv_has ls 7 [(3, .int lx25), (0, .ref (q 40)), (1, .long x2)] := hl
      replace hO47 : w54[40]? = (some (q 40, .inr (11, [.int t0_0, .ref (q 41), .ref (q 42), .ref (q 43), .ref (q 44), .ref (q 1), .ref (q 47), .ref (q 36), .ref (q 45), .int t0_1, .int t0_2, .int t0_3])) : Option (Nat × va_E)) := hO47
      replace hO48 : w54[45]? = (some (q 45, .inr (1, [.ref (q 46), .int 4104, .int lx45])) : Option (Nat × va_E)) := hO48
      replace hA49 : w54[46]? = (some (q 46, .inl (g 1, (513 : Int32).toNatClampNeg, .inr (.inl lx46))) : Option (Nat × va_E)) := hA49
      replace hO50 : w54[47]? = (some (q 47, .inr (10, [.int t3_0, .int t3_1, .int t3_2, .int t3_3, .int t3_4, .int t3_5, .ref (q 1), .int t3_6])) : Option (Nat × va_E)) := hO50
      refine lv_aload_n hx hb d_9_12_47 rfl (lv_at hl 1 rfl) ?_
      refine lv_aload_n hx hb d_9_12_48 rfl (lv_at hl 1 rfl) ?_
      refine q_get (ci := 11) (j := 8) (v := .ref (q 45)) C0 V i_Pri rfl rfl hO47 (by decide) w_393 rfl d_9_12_49 ?_
      refine q_get (ci := 1) (j := 2) (v := .int lx45) C0 V i_She rfl rfl hO48 (by decide) w_58 rfl d_9_12_52 ?_
      refine q_put (ci := 11) (j := 9) (v := .int lx45) (ty := .int) C0 V i_Pri o_Pri n_Pri rfl rfl hO47 (by decide) w_394 rfl rfl rfl rfl (Nat.le_of_ble_eq_true rfl) d_9_12_55 (fun H locs w60 hu61 hO47 V => ?_)
      replace hO47 : w60[40]? = (some (q 40, .inr (11, [.int t0_0, .ref (q 41), .ref (q 42), .ref (q 43), .ref (q 44), .ref (q 1), .ref (q 47), .ref (q 36), .ref (q 45), .int lx45, .int t0_2, .int t0_3])) : Option (Nat × va_E)) := hO47
      replace hI := n_p40 hI hu61 hO47 (by first | with_reducible exact q_fe btt0_0 | exact ⟨(by have t1 : 0 ≤ t0_0.toInt ∧ t0_0.toInt ≤ 9 := btt0_0; omega), (by have t1 : 0 ≤ t0_0.toInt ∧ t0_0.toInt ≤ 9 := btt0_0; omega)⟩) ⟨(by have t1 : 0 ≤ t1_0.toInt ∧ t1_0.toInt ≤ 1000000 := btt1_0; have t2 : t1_0.toInt ≤ lx45.toInt := i52; omega), (by have t1 : t1_0.toInt ≤ 900000 := pre0; have t2 : lx45.toInt ≤ t1_0.toInt + 2 := i53; omega)⟩ (by first | with_reducible exact q_fe btt0_3 | exact ⟨(by have t1 : -1 ≤ t0_3.toInt ∧ t0_3.toInt ≤ 8 := btt0_3; omega), (by have t1 : -1 ≤ t0_3.toInt ∧ t0_3.toInt ≤ 8 := btt0_3; omega)⟩)
      replace hO48 := (hu61 _ (by decide)).trans hO48
      replace hA49 := (hu61 _ (by decide)).trans hA49
      replace hO50 := (hu61 _ (by decide)).trans hO50
      replace hF := q_us hF hu61 (by simp)
      refine lv_iload_n hx hb d_9_12_58 rfl (lv_at hl 0 rfl) ?_
      refine q_join (X := Int32) (fun z H locs ls _ => q_F (3 ≤ z.toInt) ∧ q_F (z.toInt ≤ 4) ∧ q_Wd D g (va_A ws sz) s w60 H locs ∧ lv_has ls 7 [(0, .ref (q 40)), (1, .long x2)] ∧ F_Pri_writeToBase_J67 x2 t0_0 t0_1 t0_2 t0_3 t1_0 t2_0 t3_0 t3_1 t3_2 t3_3 t3_4 t3_5 t3_6 lx25 lx45 lx46 z = (F_Pri_writeToBase x2 t0_0 t0_1 t0_2 t0_3 t1_0 t2_0 t3_0 t3_1 t3_2 t3_3 t3_4 t3_5 t3_6)) (fun z => [.int z]) 67 0 0 ?_ ?_
      ·
        rintro lx62 H locs ls _ ⟨i68, i69, V, hl, hR70⟩
        replace i68 : q_F (3 ≤ lx62.toInt) := i68
        replace i69 : q_F (lx62.toInt ≤ 4) := i69
        replace hl : lv_has ls 7 [(0, .ref (q 40)), (1, .long x2)] := hl
        refine lv_istore (lv' := [(4, .int lx62), (0, .ref (q 40)), (1, .long x2)]) hx hb d_9_12_67 hl (by decide) rfl (fun ls hl => ?_)
        refine lv_bipush (v := 63) hx hb d_9_12_69 (by decide) ?_
        refine lv_iload hx hb d_9_12_71 (lv_at hl 0 rfl) ?_
        refine lv_idiv hx hb d_9_12_73 (s_nzI (by first | with_reducible exact q_fe i68 | (have t1 : 3 ≤ lx62.toInt := i68; omega))) ?_
        obtain ⟨a75, e76⟩ := q_nm (63 / lx62 : Int32)
        refine q_ti (v := a75) e76 ?_
        have b77 : q_F (0 ≤ a75.toInt ∧ a75.toInt ≤ 63) := (by rw [← e76]; show 0 ≤ (63 / lx62 : Int32).toInt ∧ (63 / lx62 : Int32).toInt ≤ 63; exact (by have z := q_divI (a := (63 : Int32)) (b := lx62) (x := 63) (y := lx62.toInt) (by decide) rfl (by omega) (by first | with_reducible exact q_fe i68 | (have t1 : 3 ≤ lx62.toInt := i68; omega)); have h1 : 0 ≤ 63 / lx62.toInt := Int.ediv_nonneg (by omega) (by first | with_reducible exact q_fe i68 | (have t1 : 3 ≤ lx62.toInt := i68; omega)); have h2 : 63 / lx62.toInt ≤ 63 := Int.ediv_le_self lx62.toInt (by omega); exact ⟨by rw [z]; exact h1, by rw [z]; exact h2⟩))
        refine lv_iconst (v := 1) hx hb d_9_12_74 (by decide) ?_
        refine lv_iadd hx hb d_9_12_75 ?_
        obtain ⟨a78, e79⟩ := q_nm (a75 + 1 : Int32)
        refine q_ti (v := a78) e79 ?_
        have b80 : q_F (a78.toInt = a75.toInt + 1) := (by rw [← e79]; show (a75 + 1 : Int32).toInt = a75.toInt + 1; exact q_addI (x := a75.toInt) (y := 1) rfl (by decide) (by first | with_reducible exact (q_fe b77).2 | with_reducible exact (q_fe b77).1 | (have t1 : 0 ≤ a75.toInt ∧ a75.toInt ≤ 63 := b77; omega)) (by first | with_reducible exact (q_fe b77).2 | with_reducible exact (q_fe b77).1 | (have t1 : 0 ≤ a75.toInt ∧ a75.toInt ≤ 63 := b77; omega)))
        refine lv_istore (lv' := [(5, .int a78), (4, .int lx62), (0, .ref (q 40)), (1, .long x2)]) hx hb d_9_12_76 hl (by decide) rfl (fun ls hl => ?_)
        refine q_loop (X := Int32) (fun z H locs ls _ => q_F (1 ≤ z.toInt) ∧ q_F (z.toInt ≤ a78.toInt) ∧ q_Wd D g (va_A ws sz) s w60 H locs ∧ lv_has ls 7 [(5, .int z), (4, .int lx62), (0, .ref (q 40)), (1, .long x2)] ∧ (∃ n, (z.toInt - ((-1))).toNat < n ∧ F_Pri_writeToBase_L78 x2 t0_0 t0_1 t0_2 t0_3 t1_0 t2_0 t3_0 t3_1 t3_2 t3_3 t3_4 t3_5 t3_6 lx25 lx45 lx46 lx62 n z = (F_Pri_writeToBase x2 t0_0 t0_1 t0_2 t0_3 t1_0 t2_0 t3_0 t3_1 t3_2 t3_3 t3_4 t3_5 t3_6))) (fun z => (z.toInt - ((-1))).toNat) ?_ ((a78 : Int32)) _ _ _ w60 ⟨(show q_F (1 ≤ a78.toInt) from (show 1 ≤ a78.toInt from by have t1 : 0 ≤ a75.toInt ∧ a75.toInt ≤ 63 := b77; have t2 : a78.toInt = a75.toInt + 1 := b80; omega)), (show q_F (a78.toInt ≤ a78.toInt) from (show a78.toInt ≤ a78.toInt from by omega)), V, q_lw hl (q_lw1 0 rfl (q_lw1 1 rfl (q_lw1 2 rfl (q_lw1 3 rfl q_lw0)))), ⟨((a78.toInt - ((-1))).toNat + 1), Nat.lt_succ_self _, (show F_Pri_writeToBase_L78 x2 t0_0 t0_1 t0_2 t0_3 t1_0 t2_0 t3_0 t3_1 t3_2 t3_3 t3_4 t3_5 t3_6 lx25 lx45 lx46 lx62 ((a78.toInt - ((-1))).toNat + 1) a78 = (F_Pri_writeToBase x2 t0_0 t0_1 t0_2 t0_3 t1_0 t2_0 t3_0 t3_1 t3_2 t3_3 t3_4 t3_5 t3_6) from Eq.trans (by rw [← e79, ← e76, F_Pri_writeToBase_J67.eq_1]) hR70)⟩⟩
        rintro lx82 H locs ls _ ⟨i83, i84, V, hl, ⟨fu88, hf89, hR86⟩⟩ ih85
        obtain ⟨fm90, rfl⟩ : ∃ m, fu88 = m + 1 := ⟨fu88 - 1, by omega⟩
        replace i83 : q_F (1 ≤ lx82.toInt) := i83
        replace i84 : q_F (lx82.toInt ≤ a78.toInt) := i84
        replace hl : lv_has ls 7 [(5, .int lx82), (4, .int lx62), (0, .ref (q 40)), (1, .long x2)] := hl
        refine lv_iload hx hb d_9_12_78 (lv_at hl 0 rfl) ?_
        refine lv_iconst (v := 1) hx hb d_9_12_80 (by decide) ?_
        refine q_join (X := Unit) (fun z H locs ls _ => q_Wd D g (va_A ws sz) s w60 H locs ∧ lv_has ls 7 [(5, .int lx82), (4, .int lx62), (0, .ref (q 40)), (1, .long x2)] ∧ F_Pri_writeToBase_J104 (F_Pri_writeToBase_L78 x2 t0_0 t0_1 t0_2 t0_3 t1_0 t2_0 t3_0 t3_1 t3_2 t3_3 t3_4 t3_5 t3_6 lx25 lx45 lx46 lx62 fm90) x2 t0_0 t0_1 t0_2 t0_3 t1_0 t2_0 t3_0 t3_1 t3_2 t3_3 t3_4 t3_5 t3_6 lx25 lx45 lx46 lx62 lx82 = (F_Pri_writeToBase x2 t0_0 t0_1 t0_2 t0_3 t1_0 t2_0 t3_0 t3_1 t3_2 t3_3 t3_4 t3_5 t3_6)) (fun z => []) 104 0 0 ?_ ?_
        ·
          rintro _ H locs ls _ ⟨V, hl, hR96⟩
          replace hl : lv_has ls 7 [(5, .int lx82), (4, .int lx62), (0, .ref (q 40)), (1, .long x2)] := hl
          refine lv_iload hx hb d_9_12_104 (lv_at hl 0 rfl) ?_
          refine lv_iconst (v := 1) hx hb d_9_12_106 (by decide) ?_
          refine lv_isub hx hb d_9_12_107 ?_
          obtain ⟨a101, e102⟩ := q_nm (lx82 - 1 : Int32)
          refine q_ti (v := a101) e102 ?_
          have b103 : q_F (a101.toInt = lx82.toInt - 1) := (by rw [← e102]; show (lx82 - 1 : Int32).toInt = lx82.toInt - 1; exact q_subI (x := lx82.toInt) (y := 1) rfl (by decide) (by have t1 : 1 ≤ lx82.toInt := i83; have t2 : lx82.toInt ≤ a78.toInt := i84; have _ := q_lo32 (x := a78); have _ := q_hi32 (x := a78); omega) (by have t1 : 1 ≤ lx82.toInt := i83; have t2 : lx82.toInt ≤ a78.toInt := i84; have _ := q_lo32 (x := a78); have _ := q_hi32 (x := a78); omega))
          refine lv_istore (lv' := [(6, .int a101), (5, .int lx82), (4, .int lx62), (0, .ref (q 40)), (1, .long x2)]) hx hb d_9_12_108 hl (by decide) rfl (fun ls hl => ?_)
          refine q_loop (X := Int32 × Int32 × (Nat → Int64)) (fun z H locs ls w113 => q_F (0 ≤ z.1.toInt + 1) ∧ q_F (a101.toInt + lx45.toInt ≤ z.1.toInt + z.2.1.toInt) ∧ q_F (z.1.toInt + z.2.1.toInt ≤ a101.toInt + lx45.toInt) ∧ q_F (z.1.toInt + lx45.toInt ≤ z.2.1.toInt + a101.toInt) ∧ q_Wd D g (va_A ws sz) s w113 H locs ∧ lv_has ls 7 [(6, .int z.1), (4, .int lx62), (0, .ref (q 40)), (1, .long x2)] ∧ q_I (nsh g q) q w113 ∧ q_un ws w113 [40, 45, 46] ∧ w113[40]? = (some (q 40, .inr (11, [.int t0_0, .ref (q 41), .ref (q 42), .ref (q 43), .ref (q 44), .ref (q 1), .ref (q 47), .ref (q 36), .ref (q 45), .int lx45, .int t0_2, .int t0_3])) : Option (Nat × va_E)) ∧ w113[45]? = (some (q 45, .inr (1, [.ref (q 46), .int 4104, .int z.2.1])) : Option (Nat × va_E)) ∧ w113[46]? = (some (q 46, .inl (g 1, (513 : Int32).toNatClampNeg, .inr (.inl z.2.2))) : Option (Nat × va_E)) ∧ w113[47]? = (some (q 47, .inr (10, [.int t3_0, .int t3_1, .int t3_2, .int t3_3, .int t3_4, .int t3_5, .ref (q 1), .int t3_6])) : Option (Nat × va_E)) ∧ (∃ n, (z.1.toInt - ((-1))).toNat < n ∧ F_Pri_writeToBase_L110 (F_Pri_writeToBase_L78 x2 t0_0 t0_1 t0_2 t0_3 t1_0 t2_0 t3_0 t3_1 t3_2 t3_3 t3_4 t3_5 t3_6 lx25 lx45 lx46 lx62 fm90) x2 t0_0 t0_1 t0_2 t0_3 t1_0 t2_0 t3_0 t3_1 t3_2 t3_3 t3_4 t3_5 t3_6 lx25 lx45 lx46 lx62 lx82 n z.1 z.2.1 z.2.2 = (F_Pri_writeToBase x2 t0_0 t0_1 t0_2 t0_3 t1_0 t2_0 t3_0 t3_1 t3_2 t3_3 t3_4 t3_5 t3_6))) (fun z => (z.1.toInt - ((-1))).toNat) ?_ ((a101 : Int32), (lx45 : Int32), (lx46 : (Nat → Int64))) _ _ _ w60 ⟨(show q_F (0 ≤ a101.toInt + 1) from (show 0 ≤ a101.toInt + 1 from by have t1 : 1 ≤ lx82.toInt := i83; have t2 : a101.toInt = lx82.toInt - 1 := b103; omega)), (show q_F (a101.toInt + lx45.toInt ≤ a101.toInt + lx45.toInt) from (show a101.toInt + lx45.toInt ≤ a101.toInt + lx45.toInt from by omega)), (show q_F (a101.toInt + lx45.toInt ≤ a101.toInt + lx45.toInt) from (show a101.toInt + lx45.toInt ≤ a101.toInt + lx45.toInt from by omega)), (show q_F (a101.toInt + lx45.toInt ≤ lx45.toInt + a101.toInt) from (show a101.toInt + lx45.toInt ≤ lx45.toInt + a101.toInt from by omega)), V, q_lw hl (q_lw1 0 rfl (q_lw1 2 rfl (q_lw1 3 rfl (q_lw1 4 rfl q_lw0)))), hI, hF, hO47, hO48, hA49, hO50, ⟨((a101.toInt - ((-1))).toNat + 1), Nat.lt_succ_self _, (show F_Pri_writeToBase_L110 (F_Pri_writeToBase_L78 x2 t0_0 t0_1 t0_2 t0_3 t1_0 t2_0 t3_0 t3_1 t3_2 t3_3 t3_4 t3_5 t3_6 lx25 lx45 lx46 lx62 fm90) x2 t0_0 t0_1 t0_2 t0_3 t1_0 t2_0 t3_0 t3_1 t3_2 t3_3 t3_4 t3_5 t3_6 lx25 lx45 lx46 lx62 lx82 ((a101.toInt - ((-1))).toNat + 1) a101 lx45 lx46 = (F_Pri_writeToBase x2 t0_0 t0_1 t0_2 t0_3 t1_0 t2_0 t3_0 t3_1 t3_2 t3_3 t3_4 t3_5 t3_6) from Eq.trans (by rw [← e102, F_Pri_writeToBase_J104.eq_1]) hR96)⟩⟩
          rintro ⟨lx105, lx106, lx107⟩ H locs ls w113 ⟨i108, i109, i110, i111, V, hl, hI, hF, hO114, hO115, hO116, hO117, ⟨fu120, hf121, hR118⟩⟩ ih112
          obtain ⟨fm122, rfl⟩ : ∃ m, fu120 = m + 1 := ⟨fu120 - 1, by omega⟩
          replace i108 : q_F (0 ≤ lx105.toInt + 1) := i108
          replace i109 : q_F (a101.toInt + lx45.toInt ≤ lx105.toInt + lx106.toInt) := i109
          replace i110 : q_F (lx105.toInt + lx106.toInt ≤ a101.toInt + lx45.toInt) := i110
          replace i111 : q_F (lx105.toInt + lx45.toInt ≤ lx106.toInt + a101.toInt) := i111
          replace hl : lv_has ls 7 [(6, .int lx105), (4, .int lx62), (0, .ref (q 40)), (1, .long x2)] := hl
          replace hO114 : w113[40]? = (some (q 40, .inr (11, [.int t0_0, .ref (q 41), .ref (q 42), .ref (q 43), .ref (q 44), .ref (q 1), .ref (q 47), .ref (q 36), .ref (q 45), .int lx45, .int t0_2, .int t0_3])) : Option (Nat × va_E)) := hO114
          replace hO115 : w113[45]? = (some (q 45, .inr (1, [.ref (q 46), .int 4104, .int lx106])) : Option (Nat × va_E)) := hO115
          replace hO116 : w113[46]? = (some (q 46, .inl (g 1, (513 : Int32).toNatClampNeg, .inr (.inl lx107))) : Option (Nat × va_E)) := hO116
          replace hO117 : w113[47]? = (some (q 47, .inr (10, [.int t3_0, .int t3_1, .int t3_2, .int t3_3, .int t3_4, .int t3_5, .ref (q 1), .int t3_6])) : Option (Nat × va_E)) := hO117
          refine lv_iload hx hb d_9_12_110 (lv_at hl 0 rfl) ?_
          refine lv_if_lt (tgt := 148) hx hb d_9_12_112 (by decide) (fun c123 => ?_) (fun c123 => ?_)
          ·
            have b124 : q_F (lx105.toInt < 0) := (q_ltI c123)
            exact q_retv C0 V (⟨hI, hF, t0_0, lx45, t0_2, t0_3, lx106, lx107, hO114, hO115, hO116, (show t0_0.toInt ≤ t0_0.toInt from (by omega)), (show t0_0.toInt ≤ t0_0.toInt from (by omega)), (show t1_0.toInt ≤ lx45.toInt from (by first | with_reducible exact q_fe i52 | (have t1 : t1_0.toInt ≤ lx45.toInt := i52; omega))), (show lx45.toInt ≤ t1_0.toInt + 2 from (by first | with_reducible exact q_fe i53 | (have t1 : lx45.toInt ≤ t1_0.toInt + 2 := i53; omega))), (show t0_2.toInt ≤ t0_2.toInt from (by omega)), (show t0_2.toInt ≤ t0_2.toInt from (by omega)), (show t0_3.toInt ≤ t0_3.toInt from (by omega)), (show t0_3.toInt ≤ t0_3.toInt from (by omega)), (show lx106.toInt ≤ lx45.toInt + 64 from (by have t1 : 0 ≤ a75.toInt ∧ a75.toInt ≤ 63 := b77; have t2 : a78.toInt = a75.toInt + 1 := b80; have t3 : lx82.toInt ≤ a78.toInt := i84; have t4 : a101.toInt = lx82.toInt - 1 := b103; have t5 : 0 ≤ lx105.toInt + 1 := i108; have t6 : lx105.toInt + lx106.toInt ≤ a101.toInt + lx45.toInt := i110; omega)), (show lx45.toInt + 1 ≤ lx106.toInt from (by have t1 : 1 ≤ lx82.toInt := i83; have t2 : a101.toInt = lx82.toInt - 1 := b103; have t3 : a101.toInt + lx45.toInt ≤ lx105.toInt + lx106.toInt := i109; have t4 : lx105.toInt < 0 := b124; omega)), (show (t0_0, lx45, t0_2, t0_3, lx106, lx107) = (F_Pri_writeToBase x2 t0_0 t0_1 t0_2 t0_3 t1_0 t2_0 t3_0 t3_1 t3_2 t3_3 t3_4 t3_5 t3_6) from Eq.trans (by rw [F_Pri_writeToBase_L110.eq_2, if_pos c123]) hR118)⟩) d_9_12_148
          ·
            have b125 : q_F (0 ≤ lx105.toInt) := (q_nltI c123)
            refine lv_aload_n hx hb d_9_12_115 rfl (lv_at hl 2 rfl) ?_
            refine q_get (ci := 11) (j := 8) (v := .ref (q 45)) C0 V i_Pri rfl rfl hO114 (by decide) w_393 rfl d_9_12_116 ?_
            refine q_ldcs (i := 19) C0 V rfl rfl d_9_12_119 ?_
            refine lv_lload_n hx hb d_9_12_121 rfl (lv_at hl 3 rfl) ?_
            refine lv_iload hx hb d_9_12_122 (lv_at hl 1 rfl) ?_
            refine lv_iload hx hb d_9_12_124 (lv_at hl 0 rfl) ?_
            refine lv_imul hx hb d_9_12_126 ?_
            obtain ⟨a126, e127⟩ := q_nm (lx62 * lx105 : Int32)
            refine q_ti (v := a126) e127 ?_
            refine lv_lushr hx hb d_9_12_127 rfl ?_
            obtain ⟨j128, e129⟩ := q_nm ((x2.toUInt64 >>> (a126.toInt64.toUInt64 &&& Int64.toUInt64 63)).toInt64 : Int64)
            refine q_tl (v := j128) e129 ?_
            refine lv_l2i hx hb d_9_12_128 rfl ?_
            obtain ⟨a130, e131⟩ := q_nm (j128.toInt32 : Int32)
            refine q_ti (v := a130) e131 ?_
            refine lv_iconst (v := 1) hx hb d_9_12_129 (by decide) ?_
            refine lv_iload hx hb d_9_12_130 (lv_at hl 1 rfl) ?_
            refine lv_ishl hx hb d_9_12_132 ?_
            obtain ⟨a132, e133⟩ := q_nm ((1 : Int32) <<< (lx62 &&& 31) : Int32)
            refine q_ti (v := a132) e133 ?_
            have b134 : q_F (8 ≤ a132.toInt ∧ a132.toInt ≤ 16) := (by rw [← e133]; show 8 ≤ ((1 : Int32) <<< (lx62 &&& 31) : Int32).toInt ∧ ((1 : Int32) <<< (lx62 &&& 31) : Int32).toInt ≤ 16; exact (by have hh : lx62.toInt = 3 ∨ lx62.toInt = 4 := (by have t1 : 3 ≤ lx62.toInt := i68; have t2 : lx62.toInt ≤ 4 := i69; omega); rcases hh with h | h <;> first | (rw [show lx62 = (3 : Int32) from q_Ieq (x := lx62.toInt) (y := 3) rfl (by decide) h]; decide) | (rw [show lx62 = (4 : Int32) from q_Ieq (x := lx62.toInt) (y := 4) rfl (by decide) h]; decide)))
            refine lv_iconst (v := 1) hx hb d_9_12_133 (by decide) ?_
            refine lv_isub hx hb d_9_12_134 ?_
            obtain ⟨a135, e136⟩ := q_nm (a132 - 1 : Int32)
            refine q_ti (v := a135) e136 ?_
            have b137 : q_F (a135.toInt = a132.toInt - 1) := (by rw [← e136]; show (a132 - 1 : Int32).toInt = a132.toInt - 1; exact q_subI (x := a132.toInt) (y := 1) rfl (by decide) (by first | with_reducible exact (q_fe b134).2 | with_reducible exact (q_fe b134).1 | (have t1 : 8 ≤ a132.toInt ∧ a132.toInt ≤ 16 := b134; omega)) (by first | with_reducible exact (q_fe b134).2 | with_reducible exact (q_fe b134).1 | (have t1 : 8 ≤ a132.toInt ∧ a132.toInt ≤ 16 := b134; omega)))
            refine lv_iand hx hb d_9_12_135 ?_
            obtain ⟨a138, e139⟩ := q_nm (a130 &&& a135 : Int32)
            refine q_ti (v := a138) e139 ?_
            have b140 : q_F (0 ≤ a138.toInt ∧ a138.toInt ≤ a135.toInt) := (by rw [← e139]; show 0 ≤ (a130 &&& a135 : Int32).toInt ∧ (a130 &&& a135 : Int32).toInt ≤ a135.toInt; exact s_and (m := a135) (by have t1 : 8 ≤ a132.toInt ∧ a132.toInt ≤ 16 := b134; have t2 : a135.toInt = a132.toInt - 1 := b137; omega))
            refine q_goi V (q_runVs (As := [.int a138]) (rest := [.ref (q 45)]) (d := 4) (mc := 0) (ms := 0) (i := 19) C0 V rfl LV_Pri_216 (X_jStr_charAt_19 l D g q w113  a138 hI  (by first | with_reducible exact (q_fe b140).2 | with_reducible exact (q_fe b140).1 | (have t1 : 0 ≤ a138.toInt ∧ a138.toInt ≤ a135.toInt := b140; omega)) (by have t1 : 8 ≤ a132.toInt ∧ a132.toInt ≤ 16 := b134; have t2 : a135.toInt = a132.toInt - 1 := b137; have t3 : 0 ≤ a138.toInt ∧ a138.toInt ≤ a135.toInt := b140; omega) _) rfl rfl rfl hl.1 rfl (Nat.le_of_ble_eq_true rfl) ⟨by decide, by decide⟩ ⟨Nat.le_of_ble_eq_true rfl, Nat.le_of_ble_eq_true rfl⟩ d_9_12_136) (fun a143 u141 H locs hp142 V => ?_)
            obtain ⟨rfl, b144, b145, hE146⟩ := hp142
            have e147 : a143 = (F_jStr_charAt_19 a138) := hE146
            clear b144
            clear b145
            refine q_gov V (q_runV (As := [.int a143]) (rest := []) (d := 1) (mc := 0) (ms := 0) (ci := 1) C0 V rfl LV_Pri_113 (X_She_add_p l D g q w113 45 4104 513 1000000 (n_h45 g q) a143 hI lx106 hO115 lx107 hO116 (by have y0 : (4104 : Int32).toInt = 4104 := rfl; have y1 : (513 : Int32).toInt = 513 := rfl; have y2 : (1000000 : Int32).toInt = 1000000 := rfl; have t1 : t1_0.toInt ≤ 900000 := pre0; have t2 : lx45.toInt ≤ t1_0.toInt + 2 := i53; have t3 : 0 ≤ a75.toInt ∧ a75.toInt ≤ 63 := b77; have t4 : a78.toInt = a75.toInt + 1 := b80; have t5 : lx82.toInt ≤ a78.toInt := i84; have t6 : a101.toInt = lx82.toInt - 1 := b103; have t7 : 0 ≤ lx105.toInt + 1 := i108; have t8 : lx105.toInt + lx106.toInt ≤ a101.toInt + lx45.toInt := i110; omega) _) rfl rfl hO115 rfl hl.1 rfl (Nat.le_of_ble_eq_true rfl) ⟨by decide, by decide⟩ ⟨Nat.le_of_ble_eq_true rfl, Nat.le_of_ble_eq_true rfl⟩ d_9_12_139) (fun u148 H locs hp149 V => ?_)
            obtain ⟨hI, hZ9⟩ := hp149
            obtain ⟨hu157, hZ9⟩ := hZ9
            obtain ⟨y151, hZ9⟩ := hZ9
            obtain ⟨f152, hZ9⟩ := hZ9
            obtain ⟨hO150, hZ9⟩ := hZ9
            obtain ⟨hA153, hZ9⟩ := hZ9
            obtain ⟨b154, hZ9⟩ := hZ9
            obtain ⟨b155, hE156⟩ := hZ9
            replace hO150 : u148[45]? = (some (q 45, .inr (1, [.ref (q 46), .int 4104, .int y151])) : Option (Nat × va_E)) := hO150
            replace hA153 : u148[46]? = (some (q 46, .inl (g 1, (513 : Int32).toNatClampNeg, .inr (.inl f152))) : Option (Nat × va_E)) := hA153
            obtain ⟨p158, e159⟩ : ∃ z, z = (F_She_add_p (4104 : Int32) (513 : Int32) (1000000 : Int32) a143 lx106 lx107) := ⟨_, rfl⟩
            have e160 : y151 = p158.1 := congrArg (fun z => z.1) (hE156.trans e159.symm)
            have e161 : f152 = p158.2 := congrArg (fun z => z.2) (hE156.trans e159.symm)
            replace b154 : q_F (lx106.toInt + 1 ≤ y151.toInt) := b154
            replace b155 : q_F (y151.toInt ≤ lx106.toInt + 1) := b155
            replace hO114 := (hu157 _ (by decide)).trans hO114
            replace hO117 := (hu157 _ (by decide)).trans hO117
            replace hF := q_uc hF hu157 (by first | exact (q_sk (q_mi 1 rfl) (q_sk (q_mi 2 rfl) q_s0)) | simp)
            have hR162 := (show F_Pri_writeToBase_c139 (F_Pri_writeToBase_L78 x2 t0_0 t0_1 t0_2 t0_3 t1_0 t2_0 t3_0 t3_1 t3_2 t3_3 t3_4 t3_5 t3_6 lx25 lx45 lx46 lx62 fm90) (F_Pri_writeToBase_L110 (F_Pri_writeToBase_L78 x2 t0_0 t0_1 t0_2 t0_3 t1_0 t2_0 t3_0 t3_1 t3_2 t3_3 t3_4 t3_5 t3_6 lx25 lx45 lx46 lx62 fm90) x2 t0_0 t0_1 t0_2 t0_3 t1_0 t2_0 t3_0 t3_1 t3_2 t3_3 t3_4 t3_5 t3_6 lx25 lx45 lx46 lx62 lx82 fm122) x2 t0_0 t0_1 t0_2 t0_3 t1_0 t2_0 t3_0 t3_1 t3_2 t3_3 t3_4 t3_5 t3_6 lx25 lx45 lx46 lx62 lx82 lx105 lx106 lx107 p158 = (F_Pri_writeToBase x2 t0_0 t0_1 t0_2 t0_3 t1_0 t2_0 t3_0 t3_1 t3_2 t3_3 t3_4 t3_5 t3_6) from Eq.trans (by rw [e159, e147, ← e139, ← e136, ← e133, ← e131, ← e129, ← e127, F_Pri_writeToBase_L110.eq_2, if_neg c123]) hR118)
            obtain ⟨a167, e168⟩ := q_nm (lx105 + (-1) : Int32)
            have b169 : q_F (a167.toInt = lx105.toInt + (-1)) := (by rw [← e168]; exact q_addI (y := (-1)) rfl (by decide) (by have t1 : 0 ≤ lx105.toInt + 1 := i108; have t2 : lx105.toInt + lx106.toInt ≤ a101.toInt + lx45.toInt := i110; have t3 : lx105.toInt + lx45.toInt ≤ lx106.toInt + a101.toInt := i111; have _ := q_lo32 (x := a101); have _ := q_hi32 (x := a101); omega) (by have t1 : 0 ≤ lx105.toInt + 1 := i108; have t2 : lx105.toInt + lx106.toInt ≤ a101.toInt + lx45.toInt := i110; have t3 : lx105.toInt + lx45.toInt ≤ lx106.toInt + a101.toInt := i111; have _ := q_lo32 (x := a101); have _ := q_hi32 (x := a101); omega))
            refine lv_iinc (v := a167) (lv' := [(6, .int a167), (4, .int lx62), (0, .ref (q 40)), (1, .long x2)]) hx hb d_9_12_142 hl (k := 0) rfl (e168) (by decide) rfl (fun ls hl => ?_)
            refine lv_goto (tgt := 110) hx hb d_9_12_145 (by decide) ?_
            exact ih112 ((a167 : Int32), (y151 : Int32), (f152 : (Nat → Int64))) _ _ _ _ (show (a167.toInt - ((-1))).toNat < (lx105.toInt - ((-1))).toNat from by have t1 : a167.toInt = lx105.toInt + (-1) := b169; have t2 : 0 ≤ lx105.toInt + 1 := i108; have t3 : 0 ≤ lx105.toInt := b125; omega) ⟨(show q_F (0 ≤ a167.toInt + 1) from (show 0 ≤ a167.toInt + 1 from by have t1 : 0 ≤ lx105.toInt := b125; have t2 : a167.toInt = lx105.toInt + (-1) := b169; omega)), (show q_F (a101.toInt + lx45.toInt ≤ a167.toInt + y151.toInt) from (show a101.toInt + lx45.toInt ≤ a167.toInt + y151.toInt from by have t1 : a101.toInt + lx45.toInt ≤ lx105.toInt + lx106.toInt := i109; have t2 : lx106.toInt + 1 ≤ y151.toInt := b154; have t3 : a167.toInt = lx105.toInt + (-1) := b169; omega)), (show q_F (a167.toInt + y151.toInt ≤ a101.toInt + lx45.toInt) from (show a167.toInt + y151.toInt ≤ a101.toInt + lx45.toInt from by have t1 : lx105.toInt + lx106.toInt ≤ a101.toInt + lx45.toInt := i110; have t2 : y151.toInt ≤ lx106.toInt + 1 := b155; have t3 : a167.toInt = lx105.toInt + (-1) := b169; omega)), (show q_F (a167.toInt + lx45.toInt ≤ y151.toInt + a101.toInt) from (show a167.toInt + lx45.toInt ≤ y151.toInt + a101.toInt from by have t1 : lx105.toInt + lx45.toInt ≤ lx106.toInt + a101.toInt := i111; have t2 : lx106.toInt + 1 ≤ y151.toInt := b154; have t3 : a167.toInt = lx105.toInt + (-1) := b169; omega)), V, q_lw hl (q_lw1 0 rfl (q_lw1 1 rfl (q_lw1 2 rfl (q_lw1 3 rfl q_lw0)))), hI, hF, hO114, hO150, hA153, hO117, ⟨fm122, Nat.lt_of_lt_of_le (show (a167.toInt - ((-1))).toNat < (lx105.toInt - ((-1))).toNat from by have t1 : a167.toInt = lx105.toInt + (-1) := b169; have t2 : 0 ≤ lx105.toInt + 1 := i108; have t3 : 0 ≤ lx105.toInt := b125; omega) (Nat.le_of_lt_succ hf121), (show F_Pri_writeToBase_L110 (F_Pri_writeToBase_L78 x2 t0_0 t0_1 t0_2 t0_3 t1_0 t2_0 t3_0 t3_1 t3_2 t3_3 t3_4 t3_5 t3_6 lx25 lx45 lx46 lx62 fm90) x2 t0_0 t0_1 t0_2 t0_3 t1_0 t2_0 t3_0 t3_1 t3_2 t3_3 t3_4 t3_5 t3_6 lx25 lx45 lx46 lx62 lx82 fm122 a167 y151 f152 = (F_Pri_writeToBase x2 t0_0 t0_1 t0_2 t0_3 t1_0 t2_0 t3_0 t3_1 t3_2 t3_3 t3_4 t3_5 t3_6) from Eq.trans (by rw [← e168, e161, e160, F_Pri_writeToBase_c139.eq_1]) hR162)⟩⟩
        ·
          intro J95
          refine lv_icmp_le (tgt := 104) hx hb d_9_12_81 (by decide) (fun c170 => ?_) (fun c170 => ?_)
          ·
            exact J95 (()) _ _ _ w60 ⟨V, q_lw hl (q_lw1 0 rfl (q_lw1 1 rfl (q_lw1 2 rfl (q_lw1 3 rfl q_lw0)))), (show F_Pri_writeToBase_J104 (F_Pri_writeToBase_L78 x2 t0_0 t0_1 t0_2 t0_3 t1_0 t2_0 t3_0 t3_1 t3_2 t3_3 t3_4 t3_5 t3_6 lx25 lx45 lx46 lx62 fm90) x2 t0_0 t0_1 t0_2 t0_3 t1_0 t2_0 t3_0 t3_1 t3_2 t3_3 t3_4 t3_5 t3_6 lx25 lx45 lx46 lx62 lx82 = (F_Pri_writeToBase x2 t0_0 t0_1 t0_2 t0_3 t1_0 t2_0 t3_0 t3_1 t3_2 t3_3 t3_4 t3_5 t3_6) from Eq.trans (by rw [F_Pri_writeToBase_L78.eq_2, if_pos c170]) hR86)⟩
          ·
            have b172 : q_F (1 < lx82.toInt) := (q_nleI c170)
            refine lv_lload_n hx hb d_9_12_84 rfl (lv_at hl 3 rfl) ?_
            refine lv_iload hx hb d_9_12_85 (lv_at hl 1 rfl) ?_
            refine lv_iload hx hb d_9_12_87 (lv_at hl 0 rfl) ?_
            refine lv_iconst (v := 1) hx hb d_9_12_89 (by decide) ?_
            refine lv_isub hx hb d_9_12_90 ?_
            obtain ⟨a173, e174⟩ := q_nm (lx82 - 1 : Int32)
            refine q_ti (v := a173) e174 ?_
            have b175 : q_F (a173.toInt = lx82.toInt - 1) := (by rw [← e174]; show (lx82 - 1 : Int32).toInt = lx82.toInt - 1; exact q_subI (x := lx82.toInt) (y := 1) rfl (by decide) (by have t1 : 1 ≤ lx82.toInt := i83; have t2 : lx82.toInt ≤ a78.toInt := i84; have _ := q_lo32 (x := a78); have _ := q_hi32 (x := a78); omega) (by have t1 : 1 ≤ lx82.toInt := i83; have t2 : lx82.toInt ≤ a78.toInt := i84; have _ := q_lo32 (x := a78); have _ := q_hi32 (x := a78); omega))
            refine lv_imul hx hb d_9_12_91 ?_
            obtain ⟨a176, e177⟩ := q_nm (lx62 * a173 : Int32)
            refine q_ti (v := a176) e177 ?_
            refine lv_lushr hx hb d_9_12_92 rfl ?_
            obtain ⟨j178, e179⟩ := q_nm ((x2.toUInt64 >>> (a176.toInt64.toUInt64 &&& Int64.toUInt64 63)).toInt64 : Int64)
            refine q_tl (v := j178) e179 ?_
            refine lv_lconst (v := 0) hx hb d_9_12_93 (by decide) ?_
            refine W.lcmp hx hb d_9_12_94 ?_
            obtain ⟨a180, e181⟩ := q_nm (lg_cmp j178 0 : Int32)
            refine q_ti (v := a180) e181 ?_
            refine lv_if_ne (tgt := 104) hx hb d_9_12_95 (by decide) (fun c183 => ?_) (fun c183 => ?_)
            ·
              exact J95 (()) _ _ _ w60 ⟨V, q_lw hl (q_lw1 0 rfl (q_lw1 1 rfl (q_lw1 2 rfl (q_lw1 3 rfl q_lw0)))), (show F_Pri_writeToBase_J104 (F_Pri_writeToBase_L78 x2 t0_0 t0_1 t0_2 t0_3 t1_0 t2_0 t3_0 t3_1 t3_2 t3_3 t3_4 t3_5 t3_6 lx25 lx45 lx46 lx62 fm90) x2 t0_0 t0_1 t0_2 t0_3 t1_0 t2_0 t3_0 t3_1 t3_2 t3_3 t3_4 t3_5 t3_6 lx25 lx45 lx46 lx62 lx82 = (F_Pri_writeToBase x2 t0_0 t0_1 t0_2 t0_3 t1_0 t2_0 t3_0 t3_1 t3_2 t3_3 t3_4 t3_5 t3_6) from Eq.trans (by have c183x := c183; rw [← e181, ← e179, ← e177, ← e174] at c183x; rw [F_Pri_writeToBase_L78.eq_2, if_neg c170, if_neg c183x]) hR86)⟩
            ·
              obtain ⟨a186, e187⟩ := q_nm (lx82 + (-1) : Int32)
              have b188 : q_F (a186.toInt = lx82.toInt + (-1)) := (by rw [← e187]; exact q_addI (y := (-1)) rfl (by decide) (by have t1 : 1 ≤ lx82.toInt := i83; have t2 : a173.toInt = lx82.toInt - 1 := b175; have _ := q_lo32 (x := a173); have _ := q_hi32 (x := a173); omega) (by have t1 : 1 ≤ lx82.toInt := i83; have t2 : a173.toInt = lx82.toInt - 1 := b175; have _ := q_lo32 (x := a173); have _ := q_hi32 (x := a173); omega))
              refine lv_iinc (v := a186) (lv' := [(5, .int a186), (4, .int lx62), (0, .ref (q 40)), (1, .long x2)]) hx hb d_9_12_98 hl (k := 0) rfl (e187) (by decide) rfl (fun ls hl => ?_)
              refine lv_goto (tgt := 78) hx hb d_9_12_101 (by decide) ?_
              exact ih85 ((a186 : Int32)) _ _ _ w60 (show (a186.toInt - ((-1))).toNat < (lx82.toInt - ((-1))).toNat from by have t1 : a186.toInt = lx82.toInt + (-1) := b188; have t2 : 1 ≤ lx82.toInt := i83; omega) ⟨(show q_F (1 ≤ a186.toInt) from (show 1 ≤ a186.toInt from by have t1 : 1 < lx82.toInt := b172; have t2 : a186.toInt = lx82.toInt + (-1) := b188; omega)), (show q_F (a186.toInt ≤ a78.toInt) from (show a186.toInt ≤ a78.toInt from by have t1 : lx82.toInt ≤ a78.toInt := i84; have t2 : a186.toInt = lx82.toInt + (-1) := b188; omega)), V, q_lw hl (q_lw1 0 rfl (q_lw1 1 rfl (q_lw1 2 rfl (q_lw1 3 rfl q_lw0)))), ⟨fm90, Nat.lt_of_lt_of_le (show (a186.toInt - ((-1))).toNat < (lx82.toInt - ((-1))).toNat from by have t1 : a186.toInt = lx82.toInt + (-1) := b188; have t2 : 1 ≤ lx82.toInt := i83; omega) (Nat.le_of_lt_succ hf89), (show F_Pri_writeToBase_L78 x2 t0_0 t0_1 t0_2 t0_3 t1_0 t2_0 t3_0 t3_1 t3_2 t3_3 t3_4 t3_5 t3_6 lx25 lx45 lx46 lx62 fm90 a186 = (F_Pri_writeToBase x2 t0_0 t0_1 t0_2 t0_3 t1_0 t2_0 t3_0 t3_1 t3_2 t3_3 t3_4 t3_5 t3_6) from Eq.trans (by have c183x := c183; rw [← e181, ← e179, ← e177, ← e174] at c183x; rw [← e187, F_Pri_writeToBase_L78.eq_2, if_neg c170, if_pos c183x]) hR86)⟩⟩
      ·
        intro J67
        refine lv_if_eq (tgt := 66) hx hb d_9_12_59 (by decide) (fun c189 => ?_) (fun c189 => ?_)
        ·
          refine lv_iconst (v := 4) hx hb d_9_12_66 (by decide) ?_
          exact J67 ((4 : Int32)) _ _ _ w60 ⟨(show q_F (3 ≤ 4) from (show 3 ≤ 4 from by omega)), (show q_F (4 ≤ 4) from (show 4 ≤ 4 from by omega)), V, q_lw hl (q_lw1 1 rfl (q_lw1 2 rfl q_lw0)), (show F_Pri_writeToBase_J67 x2 t0_0 t0_1 t0_2 t0_3 t1_0 t2_0 t3_0 t3_1 t3_2 t3_3 t3_4 t3_5 t3_6 lx25 lx45 lx46 4 = (F_Pri_writeToBase x2 t0_0 t0_1 t0_2 t0_3 t1_0 t2_0 t3_0 t3_1 t3_2 t3_3 t3_4 t3_5 t3_6) from Eq.trans (by rw [F_Pri_writeToBase_J47.eq_1, if_pos c189]) hR55)⟩
        ·
          refine lv_iconst (v := 3) hx hb d_9_12_62 (by decide) ?_
          refine lv_goto (tgt := 67) hx hb d_9_12_63 (by decide) ?_
          exact J67 ((3 : Int32)) _ _ _ w60 ⟨(show q_F (3 ≤ 3) from (show 3 ≤ 3 from by omega)), (show q_F (3 ≤ 4) from (show 3 ≤ 4 from by omega)), V, q_lw hl (q_lw1 1 rfl (q_lw1 2 rfl q_lw0)), (show F_Pri_writeToBase_J67 x2 t0_0 t0_1 t0_2 t0_3 t1_0 t2_0 t3_0 t3_1 t3_2 t3_3 t3_4 t3_5 t3_6 lx25 lx45 lx46 3 = (F_Pri_writeToBase x2 t0_0 t0_1 t0_2 t0_3 t1_0 t2_0 t3_0 t3_1 t3_2 t3_3 t3_4 t3_5 t3_6) from Eq.trans (by rw [F_Pri_writeToBase_J47.eq_1, if_neg c189]) hR55)⟩
    ·
      intro J51
      refine lv_if_eq (tgt := 47) hx hb d_9_12_26 (by decide) (fun c192 => ?_) (fun c192 => ?_)
      ·
        exact J51 ((t1_0 : Int32), (t2_0 : (Nat → Int64))) _ _ _ _ ⟨(show q_F (t1_0.toInt ≤ t1_0.toInt) from (show t1_0.toInt ≤ t1_0.toInt from by omega)), (show q_F (t1_0.toInt ≤ t1_0.toInt + 2) from (show t1_0.toInt ≤ t1_0.toInt + 2 from by omega)), V, q_lw hl (q_lw1 0 rfl (q_lw1 1 rfl (q_lw1 2 rfl q_lw0))), hI, hF, hT0, hT1, hT2, hT3, (show F_Pri_writeToBase_J47 x2 t0_0 t0_1 t0_2 t0_3 t1_0 t2_0 t3_0 t3_1 t3_2 t3_3 t3_4 t3_5 t3_6 lx25 t1_0 t2_0 = (F_Pri_writeToBase x2 t0_0 t0_1 t0_2 t0_3 t1_0 t2_0 t3_0 t3_1 t3_2 t3_3 t3_4 t3_5 t3_6) from Eq.trans (by have c192x := c192; rw [e44] at c192x; rw [F_Pri_writeToBase_J17.eq_1, if_pos c192x]) hR33)⟩
      ·
        refine lv_aload_n hx hb d_9_12_29 rfl (lv_at hl 1 rfl) ?_
        refine q_get (ci := 11) (j := 8) (v := .ref (q 45)) C0 V i_Pri rfl rfl hT0 (by decide) w_393 rfl d_9_12_30 ?_
        refine lv_iload_n hx hb d_9_12_33 rfl (lv_at hl 0 rfl) ?_
        refine lv_if_eq (tgt := 42) hx hb d_9_12_34 (by decide) (fun c195 => ?_) (fun c195 => ?_)
        ·
          refine q_ldcs (i := 18) C0 V rfl rfl d_9_12_42 ?_
          refine q_gov V (q_runV (As := [.ref (g (8 + 2 * 18))]) (rest := []) (d := 5) (mc := 0) (ms := 0) (ci := 1) C0 V rfl LV_Pri_165 (X_She_addText_18 l D g q ws 45 4104 513 1000000 (n_h45 g q)  hI t1_0 hT1 t2_0 hT2 (by have y0 : (4104 : Int32).toInt = 4104 := rfl; have y1 : (513 : Int32).toInt = 513 := rfl; have y2 : (1000000 : Int32).toInt = 1000000 := rfl; have t1 : t1_0.toInt ≤ 900000 := pre0; omega) _) rfl rfl hT1 rfl hl.1 rfl (Nat.le_of_ble_eq_true rfl) ⟨by decide, by decide⟩ ⟨Nat.le_of_ble_eq_true rfl, Nat.le_of_ble_eq_true rfl⟩ d_9_12_44) (fun u197 H locs hp198 V => ?_)
          obtain ⟨hI, hZ9⟩ := hp198
          obtain ⟨hu206, hZ9⟩ := hZ9
          obtain ⟨y200, hZ9⟩ := hZ9
          obtain ⟨f201, hZ9⟩ := hZ9
          obtain ⟨hO199, hZ9⟩ := hZ9
          obtain ⟨hA202, hZ9⟩ := hZ9
          obtain ⟨b203, hZ9⟩ := hZ9
          obtain ⟨b204, hE205⟩ := hZ9
          replace hO199 : u197[45]? = (some (q 45, .inr (1, [.ref (q 46), .int 4104, .int y200])) : Option (Nat × va_E)) := hO199
          replace hA202 : u197[46]? = (some (q 46, .inl (g 1, (513 : Int32).toNatClampNeg, .inr (.inl f201))) : Option (Nat × va_E)) := hA202
          obtain ⟨p207, e208⟩ : ∃ z, z = (F_She_addText_18 (4104 : Int32) (513 : Int32) (1000000 : Int32) t1_0 t2_0) := ⟨_, rfl⟩
          have e209 : y200 = p207.1 := congrArg (fun z => z.1) (hE205.trans e208.symm)
          have e210 : f201 = p207.2 := congrArg (fun z => z.2) (hE205.trans e208.symm)
          replace b203 : q_F (t1_0.toInt + 2 ≤ y200.toInt) := b203
          replace b204 : q_F (y200.toInt ≤ t1_0.toInt + 2) := b204
          replace hT0 := (hu206 _ (by decide)).trans hT0
          replace hT3 := (hu206 _ (by decide)).trans hT3
          replace hF := q_uc hF hu206 (by first | exact (q_sk (q_mi 1 rfl) (q_sk (q_mi 2 rfl) q_s0)) | simp)
          have hR211 := (show F_Pri_writeToBase_c44 x2 t0_0 t0_1 t0_2 t0_3 t1_0 t2_0 t3_0 t3_1 t3_2 t3_3 t3_4 t3_5 t3_6 lx25 p207 = (F_Pri_writeToBase x2 t0_0 t0_1 t0_2 t0_3 t1_0 t2_0 t3_0 t3_1 t3_2 t3_3 t3_4 t3_5 t3_6) from Eq.trans (by have c192x := c192; rw [e44] at c192x; rw [e208, F_Pri_writeToBase_J17.eq_1, if_neg c192x, if_pos c195]) hR33)
          exact J51 ((y200 : Int32), (f201 : (Nat → Int64))) _ _ _ _ ⟨(show q_F (t1_0.toInt ≤ y200.toInt) from (show t1_0.toInt ≤ y200.toInt from by have t1 : t1_0.toInt + 2 ≤ y200.toInt := b203; omega)), (show q_F (y200.toInt ≤ t1_0.toInt + 2) from (show y200.toInt ≤ t1_0.toInt + 2 from by have t1 : y200.toInt ≤ t1_0.toInt + 2 := b204; omega)), V, q_lw hl (q_lw1 0 rfl (q_lw1 1 rfl (q_lw1 2 rfl q_lw0))), hI, hF, hT0, hO199, hA202, hT3, (show F_Pri_writeToBase_J47 x2 t0_0 t0_1 t0_2 t0_3 t1_0 t2_0 t3_0 t3_1 t3_2 t3_3 t3_4 t3_5 t3_6 lx25 y200 f201 = (F_Pri_writeToBase x2 t0_0 t0_1 t0_2 t0_3 t1_0 t2_0 t3_0 t3_1 t3_2 t3_3 t3_4 t3_5 t3_6) from Eq.trans (by rw [e210, e209, F_Pri_writeToBase_c44.eq_1]) hR211)⟩
        ·
          refine q_ldcs (i := 17) C0 V rfl rfl d_9_12_37 ?_
          refine lv_goto (tgt := 44) hx hb d_9_12_39 (by decide) ?_
          refine q_gov V (q_runV (As := [.ref (g (8 + 2 * 17))]) (rest := []) (d := 5) (mc := 0) (ms := 0) (ci := 1) C0 V rfl LV_Pri_165 (X_She_addText_17 l D g q ws 45 4104 513 1000000 (n_h45 g q)  hI t1_0 hT1 t2_0 hT2 (by have y0 : (4104 : Int32).toInt = 4104 := rfl; have y1 : (513 : Int32).toInt = 513 := rfl; have y2 : (1000000 : Int32).toInt = 1000000 := rfl; have t1 : t1_0.toInt ≤ 900000 := pre0; omega) _) rfl rfl hT1 rfl hl.1 rfl (Nat.le_of_ble_eq_true rfl) ⟨by decide, by decide⟩ ⟨Nat.le_of_ble_eq_true rfl, Nat.le_of_ble_eq_true rfl⟩ d_9_12_44) (fun u217 H locs hp218 V => ?_)
          obtain ⟨hI, hZ9⟩ := hp218
          obtain ⟨hu226, hZ9⟩ := hZ9
          obtain ⟨y220, hZ9⟩ := hZ9
          obtain ⟨f221, hZ9⟩ := hZ9
          obtain ⟨hO219, hZ9⟩ := hZ9
          obtain ⟨hA222, hZ9⟩ := hZ9
          obtain ⟨b223, hZ9⟩ := hZ9
          obtain ⟨b224, hE225⟩ := hZ9
          replace hO219 : u217[45]? = (some (q 45, .inr (1, [.ref (q 46), .int 4104, .int y220])) : Option (Nat × va_E)) := hO219
          replace hA222 : u217[46]? = (some (q 46, .inl (g 1, (513 : Int32).toNatClampNeg, .inr (.inl f221))) : Option (Nat × va_E)) := hA222
          obtain ⟨p227, e228⟩ : ∃ z, z = (F_She_addText_17 (4104 : Int32) (513 : Int32) (1000000 : Int32) t1_0 t2_0) := ⟨_, rfl⟩
          have e229 : y220 = p227.1 := congrArg (fun z => z.1) (hE225.trans e228.symm)
          have e230 : f221 = p227.2 := congrArg (fun z => z.2) (hE225.trans e228.symm)
          replace b223 : q_F (t1_0.toInt + 1 ≤ y220.toInt) := b223
          replace b224 : q_F (y220.toInt ≤ t1_0.toInt + 1) := b224
          replace hT0 := (hu226 _ (by decide)).trans hT0
          replace hT3 := (hu226 _ (by decide)).trans hT3
          replace hF := q_uc hF hu226 (by first | exact (q_sk (q_mi 1 rfl) (q_sk (q_mi 2 rfl) q_s0)) | simp)
          have hR231 := (show F_Pri_writeToBase_c44_9 x2 t0_0 t0_1 t0_2 t0_3 t1_0 t2_0 t3_0 t3_1 t3_2 t3_3 t3_4 t3_5 t3_6 lx25 p227 = (F_Pri_writeToBase x2 t0_0 t0_1 t0_2 t0_3 t1_0 t2_0 t3_0 t3_1 t3_2 t3_3 t3_4 t3_5 t3_6) from Eq.trans (by have c192x := c192; rw [e44] at c192x; rw [e228, F_Pri_writeToBase_J17.eq_1, if_neg c192x, if_neg c195]) hR33)
          exact J51 ((y220 : Int32), (f221 : (Nat → Int64))) _ _ _ _ ⟨(show q_F (t1_0.toInt ≤ y220.toInt) from (show t1_0.toInt ≤ y220.toInt from by have t1 : t1_0.toInt + 1 ≤ y220.toInt := b223; omega)), (show q_F (y220.toInt ≤ t1_0.toInt + 2) from (show y220.toInt ≤ t1_0.toInt + 2 from by have t1 : y220.toInt ≤ t1_0.toInt + 1 := b224; omega)), V, q_lw hl (q_lw1 0 rfl (q_lw1 1 rfl (q_lw1 2 rfl q_lw0))), hI, hF, hT0, hO219, hA222, hT3, (show F_Pri_writeToBase_J47 x2 t0_0 t0_1 t0_2 t0_3 t1_0 t2_0 t3_0 t3_1 t3_2 t3_3 t3_4 t3_5 t3_6 lx25 y220 f221 = (F_Pri_writeToBase x2 t0_0 t0_1 t0_2 t0_3 t1_0 t2_0 t3_0 t3_1 t3_2 t3_3 t3_4 t3_5 t3_6) from Eq.trans (by rw [e230, e229, F_Pri_writeToBase_c44_9.eq_1]) hR231)⟩
  ·
    intro J30
    refine lv_icmp_ne (tgt := 16) hx hb d_9_12_9 (by decide) (fun c236 => ?_) (fun c236 => ?_)
    ·
      refine lv_iconst (v := 0) hx hb d_9_12_16 (by decide) ?_
      exact J30 ((0 : Int32)) _ _ _ ws ⟨(show q_F (0 ≤ 0) from (show 0 ≤ 0 from by omega)), (show q_F (0 ≤ 1) from (show 0 ≤ 1 from by omega)), V, q_lw hl (q_lw1 0 rfl (q_lw1 1 rfl q_lw0)), (show F_Pri_writeToBase_J17 x2 t0_0 t0_1 t0_2 t0_3 t1_0 t2_0 t3_0 t3_1 t3_2 t3_3 t3_4 t3_5 t3_6 0 = (F_Pri_writeToBase x2 t0_0 t0_1 t0_2 t0_3 t1_0 t2_0 t3_0 t3_1 t3_2 t3_3 t3_4 t3_5 t3_6) from (by rw [F_Pri_writeToBase.eq_1, if_neg c236]))⟩
    ·
      refine lv_iconst (v := 1) hx hb d_9_12_12 (by decide) ?_
      refine lv_goto (tgt := 17) hx hb d_9_12_13 (by decide) ?_
      exact J30 ((1 : Int32)) _ _ _ ws ⟨(show q_F (0 ≤ 1) from (show 0 ≤ 1 from by omega)), (show q_F (1 ≤ 1) from (show 1 ≤ 1 from by omega)), V, q_lw hl (q_lw1 0 rfl (q_lw1 1 rfl q_lw0)), (show F_Pri_writeToBase_J17 x2 t0_0 t0_1 t0_2 t0_3 t1_0 t2_0 t3_0 t3_1 t3_2 t3_3 t3_4 t3_5 t3_6 1 = (F_Pri_writeToBase x2 t0_0 t0_1 t0_2 t0_3 t1_0 t2_0 t3_0 t3_1 t3_2 t3_3 t3_4 t3_5 t3_6) from (by rw [F_Pri_writeToBase.eq_1, if_pos c236]))⟩

def F_Dig_stepOutwards_2_J28 (K_F_Dig_stepOutwards_2_L7 : Int32 → (Int32 × Int32 × (Nat → Int32))) (x2 : Int32) (t0_0 : Int32) (t0_1 : Int32) (t1_0 : (Nat → Int32)) (lx13 : Int32) : Int32 × Int32 × (Nat → Int32) := if lx13 < (0 : Int32) then (if x2 ≤ (0 : Int32) then (((1 : Int32), (t0_1 + (1 - x2 : Int32) : Int32), (upd t1_0 (0 : Int32).toNatClampNeg (vp_nar .byte 1) : (Nat → Int32)))) else (((1 : Int32), (t0_1 + 1 : Int32), (upd t1_0 (0 : Int32).toNatClampNeg (vp_nar .byte 1) : (Nat → Int32))))) else (((lx13 + 1 : Int32), t0_1, (upd t1_0 lx13.toNatClampNeg (vp_nar .byte (((t1_0 lx13.toNatClampNeg : Int32) + 1 : Int32).toInt8.toInt32 : Int32)) : (Nat → Int32))))
def F_Dig_stepOutwards_2_L7 (x2 : Int32) (t0_0 : Int32) (t0_1 : Int32) (t1_0 : (Nat → Int32)) : Nat → Int32 → (Int32 × Int32 × (Nat → Int32))
  | 0, _ => default
  | fm + 1, lx13 => if lx13 < (0 : Int32) then (F_Dig_stepOutwards_2_J28 (F_Dig_stepOutwards_2_L7 x2 t0_0 t0_1 t1_0 fm) x2 t0_0 t0_1 t1_0 lx13) else (if (t1_0 lx13.toNatClampNeg : Int32) = (9 : Int32) then (F_Dig_stepOutwards_2_L7 x2 t0_0 t0_1 t1_0 fm (lx13 + (-1) : Int32)) else (F_Dig_stepOutwards_2_J28 (F_Dig_stepOutwards_2_L7 x2 t0_0 t0_1 t1_0 fm) x2 t0_0 t0_1 t1_0 lx13))
def F_Dig_stepOutwards_2 (x2 : Int32) (t0_0 : Int32) (t0_1 : Int32) (t1_0 : (Nat → Int32)) : Int32 × Int32 × (Nat → Int32) := F_Dig_stepOutwards_2_L7 x2 t0_0 t0_1 t1_0 (((t0_0 - 1 : Int32).toInt - ((-1000000))).toNat + 1) (t0_0 - 1 : Int32)
set_option maxRecDepth 100000 in
set_option maxHeartbeats 4000000 in
theorem X_Dig_stepOutwards_2 (l : Launch) (D : va_G) (g : Nat → ClassId) (q : Nat → Nat) (ws : va_W) (x2 : Int32) (hI : q_I (nsh g q) q ws) (t0_0 : Int32) (t0_1 : Int32) (hT0 : ws[36]? = (some (q 36, .inr (7, [.int t0_0, .int t0_1, .ref (q 37)])) : Option (Nat × va_E))) (t1_0 : (Nat → Int32)) (hT1 : ws[37]? = (some (q 37, .inl (g 2, 1026, .inl t1_0)) : Option (Nat × va_E))) (pre0 : 0 ≤ x2.toInt + 200000) (pre1 : x2.toInt ≤ 200000) (pre2 : t0_1.toInt + 1 ≤ x2.toInt) (pre3 : 0 ≤ t0_1.toInt + 100000) (pre4 : t0_1.toInt ≤ 100000) : q_mV l y_Dig_stepOutwards prog_5_method_8_code 3 1 0 0 D g [.ref (q 36), .int x2] ws (fun u => q_I (nsh g q) q u ∧ q_un ws u [36, 37] ∧ ∃ (u0_0 : Int32) (u0_1 : Int32) (u1_0 : (Nat → Int32)), u[36]? = (some (q 36, .inr (7, [.int u0_0, .int u0_1, .ref (q 37)])) : Option (Nat × va_E)) ∧ u[37]? = (some (q 37, .inl (g 2, 1026, .inl u1_0)) : Option (Nat × va_E)) ∧ (1 ≤ u0_0.toInt) ∧ (u0_0.toInt ≤ 1026) ∧ (u0_1.toInt ≤ 100001) ∧ (u0_0.toInt ≤ t0_0.toInt + 1) ∧ (t0_1.toInt ≤ u0_1.toInt) ∧ (u0_1.toInt ≤ t0_1.toInt + 100000) ∧ (u0_0, u0_1, u1_0) = (F_Dig_stepOutwards_2 x2 t0_0 t0_1 t1_0)) := by
  intro sz
  refine q_into (by decide) (Nat.le_of_ble_eq_true rfl) ?_
  intro p e s m below meth c ls hsz C0 V hl
  have hx := C0.1
  have hb := C0.2.1
  obtain ⟨btt0_0, btt0_1⟩ := n_w36 hI hT0
  replace btt0_0 : q_F (0 ≤ t0_0.toInt ∧ t0_0.toInt ≤ 1026) := btt0_0
  replace btt0_1 : q_F (-1000000 ≤ t0_1.toInt ∧ t0_1.toInt ≤ 1000000) := btt0_1
  replace pre0 : q_F (0 ≤ x2.toInt + 200000) := pre0
  replace pre1 : q_F (x2.toInt ≤ 200000) := pre1
  replace pre2 : q_F (t0_1.toInt + 1 ≤ x2.toInt) := pre2
  replace pre3 : q_F (0 ≤ t0_1.toInt + 100000) := pre3
  replace pre4 : q_F (t0_1.toInt ≤ 100000) := pre4
  have hF : q_un ws ws [36, 37] := q_u0
  have hl : lv_has ls 3 [(0, .ref (q 36)), (1, .int x2)] := hl
  refine lv_aload_n hx hb d_5_8_0 rfl (lv_at hl 0 rfl) ?_
  refine q_get (ci := 7) (j := 0) (v := .int t0_0) C0 V i_Dig rfl rfl hT0 (by decide) w_264 rfl d_5_8_1 ?_
  refine lv_iconst (v := 1) hx hb d_5_8_4 (by decide) ?_
  refine lv_isub hx hb d_5_8_5 ?_
  obtain ⟨a9, e10⟩ := q_nm (t0_0 - 1 : Int32)
  refine q_ti (v := a9) e10 ?_
  have b11 : q_F (a9.toInt = t0_0.toInt - 1) := (by rw [← e10]; show (t0_0 - 1 : Int32).toInt = t0_0.toInt - 1; exact q_subI (x := t0_0.toInt) (y := 1) rfl (by decide) (by first | with_reducible exact (q_fe btt0_0).2 | with_reducible exact (q_fe btt0_0).1 | (have t1 : 0 ≤ t0_0.toInt ∧ t0_0.toInt ≤ 1026 := btt0_0; omega)) (by first | with_reducible exact (q_fe btt0_0).2 | with_reducible exact (q_fe btt0_0).1 | (have t1 : 0 ≤ t0_0.toInt ∧ t0_0.toInt ≤ 1026 := btt0_0; omega)))
  refine lv_istore_n (lv' := [(2, .int a9), (0, .ref (q 36)), (1, .int x2)]) hx hb d_5_8_6 rfl hl (by decide) rfl (fun ls hl => ?_)
  refine q_loop (X := Int32) (fun z H locs ls _ => q_F (0 ≤ z.toInt + 1) ∧ q_F (z.toInt + 1 ≤ t0_0.toInt) ∧ q_Wd D g (va_A ws sz) s ws H locs ∧ lv_has ls 3 [(2, .int z), (0, .ref (q 36)), (1, .int x2)] ∧ (∃ n, (z.toInt - ((-1000000))).toNat < n ∧ F_Dig_stepOutwards_2_L7 x2 t0_0 t0_1 t1_0 n z = (F_Dig_stepOutwards_2 x2 t0_0 t0_1 t1_0))) (fun z => (z.toInt - ((-1000000))).toNat) ?_ ((a9 : Int32)) _ _ _ ws ⟨(show q_F (0 ≤ a9.toInt + 1) from (show 0 ≤ a9.toInt + 1 from by have t1 : 0 ≤ t0_0.toInt ∧ t0_0.toInt ≤ 1026 := btt0_0; have t2 : a9.toInt = t0_0.toInt - 1 := b11; omega)), (show q_F (a9.toInt + 1 ≤ t0_0.toInt) from (show a9.toInt + 1 ≤ t0_0.toInt from by have t1 : a9.toInt = t0_0.toInt - 1 := b11; omega)), V, q_lw hl (q_lw1 0 rfl (q_lw1 1 rfl (q_lw1 2 rfl q_lw0))), ⟨((a9.toInt - ((-1000000))).toNat + 1), Nat.lt_succ_self _, (show F_Dig_stepOutwards_2_L7 x2 t0_0 t0_1 t1_0 ((a9.toInt - ((-1000000))).toNat + 1) a9 = (F_Dig_stepOutwards_2 x2 t0_0 t0_1 t1_0) from (by rw [← e10, F_Dig_stepOutwards_2.eq_1]))⟩⟩
  rintro lx13 H locs ls _ ⟨i14, i15, V, hl, ⟨fu19, hf20, hR17⟩⟩ ih16
  obtain ⟨fm21, rfl⟩ : ∃ m, fu19 = m + 1 := ⟨fu19 - 1, by omega⟩
  replace i14 : q_F (0 ≤ lx13.toInt + 1) := i14
  replace i15 : q_F (lx13.toInt + 1 ≤ t0_0.toInt) := i15
  replace hl : lv_has ls 3 [(2, .int lx13), (0, .ref (q 36)), (1, .int x2)] := hl
  refine lv_iload_n hx hb d_5_8_7 rfl (lv_at hl 0 rfl) ?_
  refine q_join (X := Unit) (fun z H locs ls _ => q_Wd D g (va_A ws sz) s ws H locs ∧ lv_has ls 3 [(2, .int lx13), (0, .ref (q 36)), (1, .int x2)] ∧ F_Dig_stepOutwards_2_J28 (F_Dig_stepOutwards_2_L7 x2 t0_0 t0_1 t1_0 fm21) x2 t0_0 t0_1 t1_0 lx13 = (F_Dig_stepOutwards_2 x2 t0_0 t0_1 t1_0)) (fun z => []) 28 0 0 ?_ ?_
  ·
    rintro _ H locs ls _ ⟨V, hl, hR25⟩
    replace hl : lv_has ls 3 [(2, .int lx13), (0, .ref (q 36)), (1, .int x2)] := hl
    refine lv_iload_n hx hb d_5_8_28 rfl (lv_at hl 0 rfl) ?_
    refine lv_if_lt (tgt := 51) hx hb d_5_8_29 (by decide) (fun c30 => ?_) (fun c30 => ?_)
    ·
      refine lv_aload_n hx hb d_5_8_51 rfl (lv_at hl 1 rfl) ?_
      refine lv_dup hx hb d_5_8_52 rfl ?_
      refine q_get (ci := 7) (j := 1) (v := .int t0_1) C0 V i_Dig rfl rfl hT0 (by decide) w_266 rfl d_5_8_53 ?_
      refine lv_iload_n hx hb d_5_8_56 rfl (lv_at hl 2 rfl) ?_
      refine lv_if_le (tgt := 64) hx hb d_5_8_57 (by decide) (fun c32 => ?_) (fun c32 => ?_)
      ·
        have b33 : q_F (x2.toInt ≤ 0) := (q_leI c32)
        refine lv_iconst (v := 1) hx hb d_5_8_64 (by decide) ?_
        refine lv_iload_n hx hb d_5_8_65 rfl (lv_at hl 2 rfl) ?_
        refine lv_isub hx hb d_5_8_66 ?_
        obtain ⟨a34, e35⟩ := q_nm (1 - x2 : Int32)
        refine q_ti (v := a34) e35 ?_
        have b36 : q_F (a34.toInt = 1 - x2.toInt) := (by rw [← e35]; show (1 - x2 : Int32).toInt = 1 - x2.toInt; exact q_subI (x := 1) (y := x2.toInt) (by decide) rfl (by have t1 : x2.toInt ≤ 200000 := pre1; have t2 : 0 ≤ x2.toInt + 200000 := pre0; omega) (by have t1 : x2.toInt ≤ 200000 := pre1; have t2 : 0 ≤ x2.toInt + 200000 := pre0; omega))
        refine lv_iadd hx hb d_5_8_67 ?_
        obtain ⟨a37, e38⟩ := q_nm (t0_1 + a34 : Int32)
        refine q_ti (v := a37) e38 ?_
        have b39 : q_F (a37.toInt = t0_1.toInt + a34.toInt) := (by rw [← e38]; show (t0_1 + a34 : Int32).toInt = t0_1.toInt + a34.toInt; exact q_addI (x := t0_1.toInt) (y := a34.toInt) rfl rfl (by have t1 : -1000000 ≤ t0_1.toInt ∧ t0_1.toInt ≤ 1000000 := btt0_1; have t2 : x2.toInt ≤ 200000 := pre1; have t3 : a34.toInt = 1 - x2.toInt := b36; have t4 : t0_1.toInt + 1 ≤ x2.toInt := pre2; omega) (by have t1 : -1000000 ≤ t0_1.toInt ∧ t0_1.toInt ≤ 1000000 := btt0_1; have t2 : x2.toInt ≤ 200000 := pre1; have t3 : a34.toInt = 1 - x2.toInt := b36; have t4 : t0_1.toInt + 1 ≤ x2.toInt := pre2; omega))
        refine q_put (ci := 7) (j := 1) (v := .int a37) (ty := .int) C0 V i_Dig o_Dig n_Dig rfl rfl hT0 (by decide) w_266 rfl rfl rfl rfl (Nat.le_of_ble_eq_true rfl) d_5_8_68 (fun H locs w40 hu41 hT0 V => ?_)
        replace hT0 : w40[36]? = (some (q 36, .inr (7, [.int t0_0, .int a37, .ref (q 37)])) : Option (Nat × va_E)) := hT0
        replace hI := n_p36 hI hu41 hT0 (by first | with_reducible exact q_fe btt0_0 | exact ⟨(by have t1 : 0 ≤ t0_0.toInt ∧ t0_0.toInt ≤ 1026 := btt0_0; omega), (by have t1 : 0 ≤ t0_0.toInt ∧ t0_0.toInt ≤ 1026 := btt0_0; omega)⟩) ⟨(by have t1 : x2.toInt ≤ 200000 := pre1; have t2 : 0 ≤ t0_1.toInt + 100000 := pre3; have t3 : a34.toInt = 1 - x2.toInt := b36; have t4 : a37.toInt = t0_1.toInt + a34.toInt := b39; omega), (by have t1 : t0_1.toInt + 1 ≤ x2.toInt := pre2; have t2 : a34.toInt = 1 - x2.toInt := b36; have t3 : a37.toInt = t0_1.toInt + a34.toInt := b39; omega)⟩
        replace hT1 := (hu41 _ (by decide)).trans hT1
        replace hF := q_us hF hu41 (by simp)
        refine lv_aload_n hx hb d_5_8_71 rfl (lv_at hl 1 rfl) ?_
        refine q_get (ci := 7) (j := 2) (v := .ref (q 37)) C0 V i_Dig rfl rfl hT0 (by decide) w_269 rfl d_5_8_72 ?_
        refine lv_iconst (v := 0) hx hb d_5_8_75 (by decide) ?_
        refine lv_iconst (v := 1) hx hb d_5_8_76 (by decide) ?_
        refine q_bast C0 V hT1 (q_ix (x := 0) (by decide) (by omega) (by omega)) d_5_8_77 (fun H locs w42 hu43 hT1 V => ?_)
        replace hI := n_ai' hI (n_s37 g q) hu43 hT1 (q_updB (fun _ => s_bnd) s_bnd)
        replace hT0 := (hu43 _ (by decide)).trans hT0
        replace hF := q_us hF hu43 (by simp)
        obtain ⟨f44, e45⟩ := q_nm (upd t1_0 (0 : Int32).toNatClampNeg (vp_nar .byte 1) : (Nat → Int32))
        rw [e45] at hT1
        refine lv_aload_n hx hb d_5_8_78 rfl (lv_at hl 1 rfl) ?_
        refine lv_iconst (v := 1) hx hb d_5_8_79 (by decide) ?_
        refine q_put (ci := 7) (j := 0) (v := .int 1) (ty := .int) C0 V i_Dig o_Dig n_Dig rfl rfl hT0 (by decide) w_264 rfl rfl rfl rfl (Nat.le_of_ble_eq_true rfl) d_5_8_80 (fun H locs w46 hu47 hT0 V => ?_)
        replace hT0 : w46[36]? = (some (q 36, .inr (7, [.int 1, .int a37, .ref (q 37)])) : Option (Nat × va_E)) := hT0
        replace hI := n_p36 hI hu47 hT0 ⟨(by have z9 : (1 : Int32).toInt = 1 := rfl; omega), (by have z9 : (1 : Int32).toInt = 1 := rfl; omega)⟩ ⟨(by have t1 : x2.toInt ≤ 200000 := pre1; have t2 : 0 ≤ t0_1.toInt + 100000 := pre3; have t3 : a34.toInt = 1 - x2.toInt := b36; have t4 : a37.toInt = t0_1.toInt + a34.toInt := b39; omega), (by have t1 : t0_1.toInt + 1 ≤ x2.toInt := pre2; have t2 : a34.toInt = 1 - x2.toInt := b36; have t3 : a37.toInt = t0_1.toInt + a34.toInt := b39; omega)⟩
        replace hT1 := (hu47 _ (by decide)).trans hT1
        replace hF := q_us hF hu47 (by simp)
        exact q_retv C0 V (⟨hI, hF, 1, a37, f44, hT0, hT1, (show 1 ≤ (1 : Int32).toInt from (by have z4 : (1 : Int32).toInt = 1 := rfl; omega)), (show (1 : Int32).toInt ≤ 1026 from (by have z4 : (1 : Int32).toInt = 1 := rfl; omega)), (show a37.toInt ≤ 100001 from (by have z4 : (1 : Int32).toInt = 1 := rfl; have t1 : t0_1.toInt + 1 ≤ x2.toInt := pre2; have t2 : a34.toInt = 1 - x2.toInt := b36; have t3 : a37.toInt = t0_1.toInt + a34.toInt := b39; omega)), (show (1 : Int32).toInt ≤ t0_0.toInt + 1 from (by have z4 : (1 : Int32).toInt = 1 := rfl; have t1 : 0 ≤ t0_0.toInt ∧ t0_0.toInt ≤ 1026 := btt0_0; omega)), (show t0_1.toInt ≤ a37.toInt from (by have z4 : (1 : Int32).toInt = 1 := rfl; have t1 : x2.toInt ≤ 0 := b33; have t2 : a34.toInt = 1 - x2.toInt := b36; have t3 : a37.toInt = t0_1.toInt + a34.toInt := b39; omega)), (show a37.toInt ≤ t0_1.toInt + 100000 from (by have z4 : (1 : Int32).toInt = 1 := rfl; have t1 : t0_1.toInt + 1 ≤ x2.toInt := pre2; have t2 : 0 ≤ t0_1.toInt + 100000 := pre3; have t3 : a34.toInt = 1 - x2.toInt := b36; have t4 : a37.toInt = t0_1.toInt + a34.toInt := b39; omega)), (show ((1 : Int32), a37, f44) = (F_Dig_stepOutwards_2 x2 t0_0 t0_1 t1_0) from Eq.trans (by rw [← e45, ← e38, ← e35, F_Dig_stepOutwards_2_J28.eq_1, if_pos c30, if_pos c32]) hR25)⟩) d_5_8_83
      ·
        refine lv_iconst (v := 1) hx hb d_5_8_60 (by decide) ?_
        refine lv_goto (tgt := 67) hx hb d_5_8_61 (by decide) ?_
        refine lv_iadd hx hb d_5_8_67 ?_
        obtain ⟨a49, e50⟩ := q_nm (t0_1 + 1 : Int32)
        refine q_ti (v := a49) e50 ?_
        have b51 : q_F (a49.toInt = t0_1.toInt + 1) := (by rw [← e50]; show (t0_1 + 1 : Int32).toInt = t0_1.toInt + 1; exact q_addI (x := t0_1.toInt) (y := 1) rfl (by decide) (by first | with_reducible exact (q_fe btt0_1).2 | with_reducible exact (q_fe btt0_1).1 | (have t1 : -1000000 ≤ t0_1.toInt ∧ t0_1.toInt ≤ 1000000 := btt0_1; omega)) (by first | with_reducible exact (q_fe btt0_1).2 | with_reducible exact (q_fe btt0_1).1 | (have t1 : -1000000 ≤ t0_1.toInt ∧ t0_1.toInt ≤ 1000000 := btt0_1; omega)))
        refine q_put (ci := 7) (j := 1) (v := .int a49) (ty := .int) C0 V i_Dig o_Dig n_Dig rfl rfl hT0 (by decide) w_266 rfl rfl rfl rfl (Nat.le_of_ble_eq_true rfl) d_5_8_68 (fun H locs w52 hu53 hT0 V => ?_)
        replace hT0 : w52[36]? = (some (q 36, .inr (7, [.int t0_0, .int a49, .ref (q 37)])) : Option (Nat × va_E)) := hT0
        replace hI := n_p36 hI hu53 hT0 (by first | with_reducible exact q_fe btt0_0 | exact ⟨(by have t1 : 0 ≤ t0_0.toInt ∧ t0_0.toInt ≤ 1026 := btt0_0; omega), (by have t1 : 0 ≤ t0_0.toInt ∧ t0_0.toInt ≤ 1026 := btt0_0; omega)⟩) ⟨(by have t1 : -1000000 ≤ t0_1.toInt ∧ t0_1.toInt ≤ 1000000 := btt0_1; have t2 : a49.toInt = t0_1.toInt + 1 := b51; omega), (by have t1 : t0_1.toInt ≤ 100000 := pre4; have t2 : a49.toInt = t0_1.toInt + 1 := b51; omega)⟩
        replace hT1 := (hu53 _ (by decide)).trans hT1
        replace hF := q_us hF hu53 (by simp)
        refine lv_aload_n hx hb d_5_8_71 rfl (lv_at hl 1 rfl) ?_
        refine q_get (ci := 7) (j := 2) (v := .ref (q 37)) C0 V i_Dig rfl rfl hT0 (by decide) w_269 rfl d_5_8_72 ?_
        refine lv_iconst (v := 0) hx hb d_5_8_75 (by decide) ?_
        refine lv_iconst (v := 1) hx hb d_5_8_76 (by decide) ?_
        refine q_bast C0 V hT1 (q_ix (x := 0) (by decide) (by omega) (by omega)) d_5_8_77 (fun H locs w54 hu55 hT1 V => ?_)
        replace hI := n_ai' hI (n_s37 g q) hu55 hT1 (q_updB (fun _ => s_bnd) s_bnd)
        replace hT0 := (hu55 _ (by decide)).trans hT0
        replace hF := q_us hF hu55 (by simp)
        obtain ⟨f56, e57⟩ := q_nm (upd t1_0 (0 : Int32).toNatClampNeg (vp_nar .byte 1) : (Nat → Int32))
        rw [e57] at hT1
        refine lv_aload_n hx hb d_5_8_78 rfl (lv_at hl 1 rfl) ?_
        refine lv_iconst (v := 1) hx hb d_5_8_79 (by decide) ?_
        refine q_put (ci := 7) (j := 0) (v := .int 1) (ty := .int) C0 V i_Dig o_Dig n_Dig rfl rfl hT0 (by decide) w_264 rfl rfl rfl rfl (Nat.le_of_ble_eq_true rfl) d_5_8_80 (fun H locs w58 hu59 hT0 V => ?_)
        replace hT0 : w58[36]? = (some (q 36, .inr (7, [.int 1, .int a49, .ref (q 37)])) : Option (Nat × va_E)) := hT0
        replace hI := n_p36 hI hu59 hT0 ⟨(by have z9 : (1 : Int32).toInt = 1 := rfl; omega), (by have z9 : (1 : Int32).toInt = 1 := rfl; omega)⟩ ⟨(by have t1 : -1000000 ≤ t0_1.toInt ∧ t0_1.toInt ≤ 1000000 := btt0_1; have t2 : a49.toInt = t0_1.toInt + 1 := b51; omega), (by have t1 : t0_1.toInt ≤ 100000 := pre4; have t2 : a49.toInt = t0_1.toInt + 1 := b51; omega)⟩
        replace hT1 := (hu59 _ (by decide)).trans hT1
        replace hF := q_us hF hu59 (by simp)
        exact q_retv C0 V (⟨hI, hF, 1, a49, f56, hT0, hT1, (show 1 ≤ (1 : Int32).toInt from (by have z4 : (1 : Int32).toInt = 1 := rfl; omega)), (show (1 : Int32).toInt ≤ 1026 from (by have z4 : (1 : Int32).toInt = 1 := rfl; omega)), (show a49.toInt ≤ 100001 from (by have z4 : (1 : Int32).toInt = 1 := rfl; have t1 : t0_1.toInt ≤ 100000 := pre4; have t2 : a49.toInt = t0_1.toInt + 1 := b51; omega)), (show (1 : Int32).toInt ≤ t0_0.toInt + 1 from (by have z4 : (1 : Int32).toInt = 1 := rfl; have t1 : 0 ≤ t0_0.toInt ∧ t0_0.toInt ≤ 1026 := btt0_0; omega)), (show t0_1.toInt ≤ a49.toInt from (by have z4 : (1 : Int32).toInt = 1 := rfl; have t1 : a49.toInt = t0_1.toInt + 1 := b51; omega)), (show a49.toInt ≤ t0_1.toInt + 100000 from (by have z4 : (1 : Int32).toInt = 1 := rfl; have t1 : a49.toInt = t0_1.toInt + 1 := b51; omega)), (show ((1 : Int32), a49, f56) = (F_Dig_stepOutwards_2 x2 t0_0 t0_1 t1_0) from Eq.trans (by rw [← e57, ← e50, F_Dig_stepOutwards_2_J28.eq_1, if_pos c30, if_neg c32]) hR25)⟩) d_5_8_83
    ·
      have b60 : q_F (0 ≤ lx13.toInt) := (q_nltI c30)
      refine lv_aload_n hx hb d_5_8_32 rfl (lv_at hl 1 rfl) ?_
      refine q_get (ci := 7) (j := 2) (v := .ref (q 37)) C0 V i_Dig rfl rfl hT0 (by decide) w_269 rfl d_5_8_33 ?_
      refine lv_iload_n hx hb d_5_8_36 rfl (lv_at hl 0 rfl) ?_
      refine lv_dup2_11 hx hb d_5_8_37 rfl rfl ?_
      refine q_bald C0 V hT1 (q_ix (x := lx13.toInt) rfl (by first | with_reducible exact q_fe b60 | (have t1 : 0 ≤ lx13.toInt := b60; omega)) (by have t1 : 0 ≤ lx13.toInt := b60; have t2 : 0 ≤ t0_0.toInt ∧ t0_0.toInt ≤ 1026 := btt0_0; have t3 : lx13.toInt + 1 ≤ t0_0.toInt := i15; omega)) d_5_8_38 ?_
      obtain ⟨a61, e62⟩ := q_nm (t1_0 lx13.toNatClampNeg : Int32)
      refine q_ti (v := a61) e62 ?_
      refine lv_iconst (v := 1) hx hb d_5_8_39 (by decide) ?_
      refine lv_iadd hx hb d_5_8_40 ?_
      obtain ⟨a63, e64⟩ := q_nm (a61 + 1 : Int32)
      refine q_ti (v := a63) e64 ?_
      refine lv_i2b hx hb d_5_8_41 rfl ?_
      obtain ⟨a65, e66⟩ := q_nm (a63.toInt8.toInt32 : Int32)
      refine q_ti (v := a65) e66 ?_
      refine q_bast C0 V hT1 (q_ix (x := lx13.toInt) rfl (by first | with_reducible exact q_fe b60 | (have t1 : 0 ≤ lx13.toInt := b60; omega)) (by have t1 : 0 ≤ lx13.toInt := b60; have t2 : 0 ≤ t0_0.toInt ∧ t0_0.toInt ≤ 1026 := btt0_0; have t3 : lx13.toInt + 1 ≤ t0_0.toInt := i15; omega)) d_5_8_42 (fun H locs w67 hu68 hT1 V => ?_)
      replace hI := n_ai' hI (n_s37 g q) hu68 hT1 (q_updB (fun _ => s_bnd) s_bnd)
      replace hT0 := (hu68 _ (by decide)).trans hT0
      replace hF := q_us hF hu68 (by simp)
      obtain ⟨f69, e70⟩ := q_nm (upd t1_0 lx13.toNatClampNeg (vp_nar .byte a65) : (Nat → Int32))
      rw [e70] at hT1
      refine lv_aload_n hx hb d_5_8_43 rfl (lv_at hl 1 rfl) ?_
      refine lv_iload_n hx hb d_5_8_44 rfl (lv_at hl 0 rfl) ?_
      refine lv_iconst (v := 1) hx hb d_5_8_45 (by decide) ?_
      refine lv_iadd hx hb d_5_8_46 ?_
      obtain ⟨a71, e72⟩ := q_nm (lx13 + 1 : Int32)
      refine q_ti (v := a71) e72 ?_
      have b73 : q_F (a71.toInt = lx13.toInt + 1) := (by rw [← e72]; show (lx13 + 1 : Int32).toInt = lx13.toInt + 1; exact q_addI (x := lx13.toInt) (y := 1) rfl (by decide) (by have t1 : 0 ≤ lx13.toInt + 1 := i14; have t2 : lx13.toInt + 1 ≤ t0_0.toInt := i15; have _ := q_lo32 (x := t0_0); have _ := q_hi32 (x := t0_0); omega) (by have t1 : 0 ≤ lx13.toInt + 1 := i14; have t2 : lx13.toInt + 1 ≤ t0_0.toInt := i15; have _ := q_lo32 (x := t0_0); have _ := q_hi32 (x := t0_0); omega))
      refine q_put (ci := 7) (j := 0) (v := .int a71) (ty := .int) C0 V i_Dig o_Dig n_Dig rfl rfl hT0 (by decide) w_264 rfl rfl rfl rfl (Nat.le_of_ble_eq_true rfl) d_5_8_47 (fun H locs w74 hu75 hT0 V => ?_)
      replace hT0 : w74[36]? = (some (q 36, .inr (7, [.int a71, .int t0_1, .ref (q 37)])) : Option (Nat × va_E)) := hT0
      replace hI := n_p36 hI hu75 hT0 ⟨(by have t1 : 0 ≤ lx13.toInt + 1 := i14; have t2 : a71.toInt = lx13.toInt + 1 := b73; omega), (by have t1 : 0 ≤ t0_0.toInt ∧ t0_0.toInt ≤ 1026 := btt0_0; have t2 : lx13.toInt + 1 ≤ t0_0.toInt := i15; have t3 : a71.toInt = lx13.toInt + 1 := b73; omega)⟩ (by first | with_reducible exact q_fe btt0_1 | exact ⟨(by have t1 : -1000000 ≤ t0_1.toInt ∧ t0_1.toInt ≤ 1000000 := btt0_1; omega), (by have t1 : -1000000 ≤ t0_1.toInt ∧ t0_1.toInt ≤ 1000000 := btt0_1; omega)⟩)
      replace hT1 := (hu75 _ (by decide)).trans hT1
      replace hF := q_us hF hu75 (by simp)
      exact q_retv C0 V (⟨hI, hF, a71, t0_1, f69, hT0, hT1, (show 1 ≤ a71.toInt from (by have t1 : 0 ≤ lx13.toInt := b60; have t2 : a71.toInt = lx13.toInt + 1 := b73; omega)), (show a71.toInt ≤ 1026 from (by have t1 : 0 ≤ t0_0.toInt ∧ t0_0.toInt ≤ 1026 := btt0_0; have t2 : lx13.toInt + 1 ≤ t0_0.toInt := i15; have t3 : a71.toInt = lx13.toInt + 1 := b73; omega)), (show t0_1.toInt ≤ 100001 from (by first | with_reducible exact q_fe pre4 | (have t1 : t0_1.toInt ≤ 100000 := pre4; omega))), (show a71.toInt ≤ t0_0.toInt + 1 from (by have t1 : lx13.toInt + 1 ≤ t0_0.toInt := i15; have t2 : a71.toInt = lx13.toInt + 1 := b73; omega)), (show t0_1.toInt ≤ t0_1.toInt from (by omega)), (show t0_1.toInt ≤ t0_1.toInt + 100000 from (by omega)), (show (a71, t0_1, f69) = (F_Dig_stepOutwards_2 x2 t0_0 t0_1 t1_0) from Eq.trans (by rw [← e72, ← e70, ← e66, ← e64, ← e62, F_Dig_stepOutwards_2_J28.eq_1, if_neg c30]) hR25)⟩) d_5_8_50
  ·
    intro J24
    refine lv_if_lt (tgt := 28) hx hb d_5_8_8 (by decide) (fun c76 => ?_) (fun c76 => ?_)
    ·
      exact J24 (()) _ _ _ ws ⟨V, q_lw hl (q_lw1 0 rfl (q_lw1 1 rfl (q_lw1 2 rfl q_lw0))), (show F_Dig_stepOutwards_2_J28 (F_Dig_stepOutwards_2_L7 x2 t0_0 t0_1 t1_0 fm21) x2 t0_0 t0_1 t1_0 lx13 = (F_Dig_stepOutwards_2 x2 t0_0 t0_1 t1_0) from Eq.trans (by rw [F_Dig_stepOutwards_2_L7.eq_2, if_pos c76]) hR17)⟩
    ·
      have b78 : q_F (0 ≤ lx13.toInt) := (q_nltI c76)
      refine lv_aload_n hx hb d_5_8_11 rfl (lv_at hl 1 rfl) ?_
      refine q_get (ci := 7) (j := 2) (v := .ref (q 37)) C0 V i_Dig rfl rfl hT0 (by decide) w_269 rfl d_5_8_12 ?_
      refine lv_iload_n hx hb d_5_8_15 rfl (lv_at hl 0 rfl) ?_
      refine q_bald C0 V hT1 (q_ix (x := lx13.toInt) rfl (by first | with_reducible exact q_fe b78 | (have t1 : 0 ≤ lx13.toInt := b78; omega)) (by have t1 : 0 ≤ lx13.toInt := b78; have t2 : 0 ≤ t0_0.toInt ∧ t0_0.toInt ≤ 1026 := btt0_0; have t3 : lx13.toInt + 1 ≤ t0_0.toInt := i15; omega)) d_5_8_16 ?_
      obtain ⟨a79, e80⟩ := q_nm (t1_0 lx13.toNatClampNeg : Int32)
      refine q_ti (v := a79) e80 ?_
      refine lv_bipush (v := 9) hx hb d_5_8_17 (by decide) ?_
      refine lv_icmp_ne (tgt := 28) hx hb d_5_8_19 (by decide) (fun c81 => ?_) (fun c81 => ?_)
      ·
        exact J24 (()) _ _ _ ws ⟨V, q_lw hl (q_lw1 0 rfl (q_lw1 1 rfl (q_lw1 2 rfl q_lw0))), (show F_Dig_stepOutwards_2_J28 (F_Dig_stepOutwards_2_L7 x2 t0_0 t0_1 t1_0 fm21) x2 t0_0 t0_1 t1_0 lx13 = (F_Dig_stepOutwards_2 x2 t0_0 t0_1 t1_0) from Eq.trans (by have c81x := c81; rw [← e80] at c81x; rw [F_Dig_stepOutwards_2_L7.eq_2, if_neg c76, if_neg c81x]) hR17)⟩
      ·
        obtain ⟨a84, e85⟩ := q_nm (lx13 + (-1) : Int32)
        have b86 : q_F (a84.toInt = lx13.toInt + (-1)) := (by rw [← e85]; exact q_addI (y := (-1)) rfl (by decide) (by have t1 : 0 ≤ lx13.toInt + 1 := i14; have _ := q_lo32 (x := lx13); have _ := q_hi32 (x := lx13); omega) (by have t1 : 0 ≤ lx13.toInt + 1 := i14; have _ := q_lo32 (x := lx13); have _ := q_hi32 (x := lx13); omega))
        refine lv_iinc (v := a84) (lv' := [(2, .int a84), (0, .ref (q 36)), (1, .int x2)]) hx hb d_5_8_22 hl (k := 0) rfl (e85) (by decide) rfl (fun ls hl => ?_)
        refine lv_goto (tgt := 7) hx hb d_5_8_25 (by decide) ?_
        exact ih16 ((a84 : Int32)) _ _ _ ws (show (a84.toInt - ((-1000000))).toNat < (lx13.toInt - ((-1000000))).toNat from by have t1 : a84.toInt = lx13.toInt + (-1) := b86; have t2 : 0 ≤ lx13.toInt + 1 := i14; omega) ⟨(show q_F (0 ≤ a84.toInt + 1) from (show 0 ≤ a84.toInt + 1 from by have t1 : 0 ≤ lx13.toInt := b78; have t2 : a84.toInt = lx13.toInt + (-1) := b86; omega)), (show q_F (a84.toInt + 1 ≤ t0_0.toInt) from (show a84.toInt + 1 ≤ t0_0.toInt from by have t1 : lx13.toInt + 1 ≤ t0_0.toInt := i15; have t2 : a84.toInt = lx13.toInt + (-1) := b86; omega)), V, q_lw hl (q_lw1 0 rfl (q_lw1 1 rfl (q_lw1 2 rfl q_lw0))), ⟨fm21, Nat.lt_of_lt_of_le (show (a84.toInt - ((-1000000))).toNat < (lx13.toInt - ((-1000000))).toNat from by have t1 : a84.toInt = lx13.toInt + (-1) := b86; have t2 : 0 ≤ lx13.toInt + 1 := i14; omega) (Nat.le_of_lt_succ hf20), (show F_Dig_stepOutwards_2_L7 x2 t0_0 t0_1 t1_0 fm21 a84 = (F_Dig_stepOutwards_2 x2 t0_0 t0_1 t1_0) from Eq.trans (by have c81x := c81; rw [← e80] at c81x; rw [← e85, F_Dig_stepOutwards_2_L7.eq_2, if_neg c76, if_pos c81x]) hR17)⟩⟩
def F_Dig_round_2_c31 (x2 : Int32) (x3 : Int32) (t0_0 : Int32) (t0_1 : Int32) (t1_0 : (Nat → Int32)) (a13 : Int32) (p46 : (Int32 × Int32 × (Nat → Int32))) : Int32 × Int32 × (Nat → Int32) := ((p46.1 : Int32), (p46.2.1 : Int32), (p46.2.2 : (Nat → Int32)))
def F_Dig_round_2 (x2 : Int32) (x3 : Int32) (t0_0 : Int32) (t0_1 : Int32) (t1_0 : (Nat → Int32)) : Int32 × Int32 × (Nat → Int32) := if x2 < t0_0 then (if ((F_Dig_goesOutwards x2 x3 t0_0 t0_1 t1_0) : Int32) = (0 : Int32) then (if (if x2 < 0 then 0 else x2 : Int32) = (0 : Int32) then (((if x2 < 0 then 0 else x2 : Int32), (0 : Int32), t1_0)) else (((if x2 < 0 then 0 else x2 : Int32), t0_1, t1_0))) else (F_Dig_round_2_c31 x2 x3 t0_0 t0_1 t1_0 ((F_Dig_goesOutwards x2 x3 t0_0 t0_1 t1_0) : Int32) ((F_Dig_stepOutwards_2 x2 (if x2 < 0 then 0 else x2 : Int32) t0_1 t1_0) : (Int32 × Int32 × (Nat → Int32))))) else ((t0_0, t0_1, t1_0))
set_option maxRecDepth 100000 in
set_option maxHeartbeats 4000000 in
theorem X_Dig_round_2 (l : Launch) (D : va_G) (g : Nat → ClassId) (q : Nat → Nat) (ws : va_W) (x2 : Int32) (x3 : Int32) (hI : q_I (nsh g q) q ws) (t0_0 : Int32) (t0_1 : Int32) (hT0 : ws[36]? = (some (q 36, .inr (7, [.int t0_0, .int t0_1, .ref (q 37)])) : Option (Nat × va_E))) (t1_0 : (Nat → Int32)) (hT1 : ws[37]? = (some (q 37, .inl (g 2, 1026, .inl t1_0)) : Option (Nat × va_E))) (pre0 : 0 ≤ x2.toInt + 200000) (pre1 : x2.toInt ≤ 200000) (pre2 : t0_1.toInt + 1 ≤ x2.toInt) (pre3 : 0 ≤ t0_1.toInt + 100000) (pre4 : t0_1.toInt ≤ 100000) : q_mV l y_Dig_round prog_5_method_6_code 4 3 0 0 D g [.ref (q 36), .int x2, .int x3] ws (fun u => q_I (nsh g q) q u ∧ q_un ws u [36, 37] ∧ ∃ (u0_0 : Int32) (u0_1 : Int32) (u1_0 : (Nat → Int32)), u[36]? = (some (q 36, .inr (7, [.int u0_0, .int u0_1, .ref (q 37)])) : Option (Nat × va_E)) ∧ u[37]? = (some (q 37, .inl (g 2, 1026, .inl u1_0)) : Option (Nat × va_E)) ∧ (0 ≤ u0_0.toInt) ∧ (u0_0.toInt ≤ 1026) ∧ (u0_1.toInt ≤ 100001) ∧ (u0_0.toInt ≤ x2.toInt + 100000) ∧ (u0_0.toInt ≤ t0_0.toInt + 1) ∧ (u0_1.toInt ≤ t0_0.toInt + 100000) ∧ (t0_1.toInt ≤ u0_1.toInt) ∧ (u0_1.toInt ≤ t0_1.toInt + 100000) ∧ (u0_1.toInt ≤ u0_0.toInt + 100000) ∧ (u0_0, u0_1, u1_0) = (F_Dig_round_2 x2 x3 t0_0 t0_1 t1_0)) := by
  intro sz
  refine q_into (by decide) (Nat.le_of_ble_eq_true rfl) ?_
  intro p e s m below meth c ls hsz C0 V hl
  have hx := C0.1
  have hb := C0.2.1
  obtain ⟨btt0_0, btt0_1⟩ := n_w36 hI hT0
  replace btt0_0 : q_F (0 ≤ t0_0.toInt ∧ t0_0.toInt ≤ 1026) := btt0_0
  replace btt0_1 : q_F (-1000000 ≤ t0_1.toInt ∧ t0_1.toInt ≤ 1000000) := btt0_1
  replace pre0 : q_F (0 ≤ x2.toInt + 200000) := pre0
  replace pre1 : q_F (x2.toInt ≤ 200000) := pre1
  replace pre2 : q_F (t0_1.toInt + 1 ≤ x2.toInt) := pre2
  replace pre3 : q_F (0 ≤ t0_1.toInt + 100000) := pre3
  replace pre4 : q_F (t0_1.toInt ≤ 100000) := pre4
  have hF : q_un ws ws [36, 37] := q_u0
  have hl : lv_has ls 4 [(0, .ref (q 36)), (1, .int x2), (2, .int x3)] := hl
  refine lv_iload_n hx hb d_5_6_0 rfl (lv_at hl 1 rfl) ?_
  refine lv_aload_n hx hb d_5_6_1 rfl (lv_at hl 0 rfl) ?_
  refine q_get (ci := 7) (j := 0) (v := .int t0_0) C0 V i_Dig rfl rfl hT0 (by decide) w_264 rfl d_5_6_2 ?_
  refine lv_icmp_lt (tgt := 9) hx hb d_5_6_5 (by decide) (fun c9 => ?_) (fun c9 => ?_)
  ·
    have b10 : q_F (x2.toInt < t0_0.toInt) := (q_ltI c9)
    refine lv_aload_n hx hb d_5_6_9 rfl (lv_at hl 0 rfl) ?_
    refine lv_iload_n hx hb d_5_6_10 rfl (lv_at hl 1 rfl) ?_
    refine lv_iload_n hx hb d_5_6_11 rfl (lv_at hl 2 rfl) ?_
    refine q_goi V (q_runV (As := [.int x2, .int x3]) (rest := []) (d := 2) (mc := 0) (ms := 0) (ci := 7) C0 V rfl LV_Dig_36 (X_Dig_goesOutwards l D g q ws  x2 x3 hI t0_0 t0_1 hT0 t1_0 hT1  _) rfl rfl hT0 rfl hl.1 rfl (Nat.le_of_ble_eq_true rfl) ⟨by decide, by decide⟩ ⟨Nat.le_of_ble_eq_true rfl, Nat.le_of_ble_eq_true rfl⟩ d_5_6_12) (fun a13 u11 H locs hp12 V => ?_)
    obtain ⟨rfl, b14, b15, hE16⟩ := hp12
    have e17 : a13 = (F_Dig_goesOutwards x2 x3 t0_0 t0_1 t1_0) := hE16
    clear b14
    clear b15
    refine lv_istore_n (lv' := [(3, .int a13), (0, .ref (q 36)), (1, .int x2), (2, .int x3)]) hx hb d_5_6_15 rfl hl (by decide) rfl (fun ls hl => ?_)
    refine lv_aload_n hx hb d_5_6_16 rfl (lv_at hl 1 rfl) ?_
    refine lv_iload_n hx hb d_5_6_17 rfl (lv_at hl 2 rfl) ?_
    refine lv_iconst (v := 0) hx hb d_5_6_18 (by decide) ?_
    refine q_max C0 hl.1 rfl w_1571 w_803 w_7 w_804 ⟨Nat.le_of_ble_eq_true rfl, Nat.le_of_ble_eq_true rfl⟩ ⟨Nat.le_of_ble_eq_true rfl, Nat.le_of_ble_eq_true rfl⟩ d_5_6_19 ?_
    obtain ⟨a18, e19⟩ := q_nm (if x2 < 0 then 0 else x2 : Int32)
    refine q_ti (v := a18) e19 ?_
    have b20 : q_F (x2.toInt ≤ a18.toInt ∧ 0 ≤ a18.toInt ∧ (a18.toInt = x2.toInt ∨ a18.toInt = 0)) := (by rw [← e19]; show x2.toInt ≤ (if x2 < 0 then 0 else x2 : Int32).toInt ∧ 0 ≤ (if x2 < 0 then 0 else x2 : Int32).toInt ∧ ((if x2 < 0 then 0 else x2 : Int32).toInt = x2.toInt ∨ (if x2 < 0 then 0 else x2 : Int32).toInt = 0); exact (by have y1 : (0 : Int32).toInt = 0 := rfl; have z := s_max (a := x2) (b := 0); omega))
    refine q_put (ci := 7) (j := 0) (v := .int a18) (ty := .int) C0 V i_Dig o_Dig n_Dig rfl rfl hT0 (by decide) w_264 rfl rfl rfl rfl (Nat.le_of_ble_eq_true rfl) d_5_6_22 (fun H locs w21 hu22 hT0 V => ?_)
    replace hT0 : w21[36]? = (some (q 36, .inr (7, [.int a18, .int t0_1, .ref (q 37)])) : Option (Nat × va_E)) := hT0
    replace hI := n_p36 hI hu22 hT0 ⟨(by have t1 : x2.toInt ≤ a18.toInt ∧ 0 ≤ a18.toInt ∧ (a18.toInt = x2.toInt ∨ a18.toInt = 0) := b20; omega), (by have t1 : 0 ≤ t0_0.toInt ∧ t0_0.toInt ≤ 1026 := btt0_0; have t2 : x2.toInt < t0_0.toInt := b10; have t3 : x2.toInt ≤ a18.toInt ∧ 0 ≤ a18.toInt ∧ (a18.toInt = x2.toInt ∨ a18.toInt = 0) := b20; omega)⟩ (by first | with_reducible exact q_fe btt0_1 | exact ⟨(by have t1 : -1000000 ≤ t0_1.toInt ∧ t0_1.toInt ≤ 1000000 := btt0_1; omega), (by have t1 : -1000000 ≤ t0_1.toInt ∧ t0_1.toInt ≤ 1000000 := btt0_1; omega)⟩)
    replace hT1 := (hu22 _ (by decide)).trans hT1
    replace hF := q_us hF hu22 (by simp)
    refine lv_iload_n hx hb d_5_6_25 rfl (lv_at hl 0 rfl) ?_
    refine lv_if_eq (tgt := 34) hx hb d_5_6_26 (by decide) (fun c23 => ?_) (fun c23 => ?_)
    ·
      refine lv_aload_n hx hb d_5_6_34 rfl (lv_at hl 1 rfl) ?_
      refine q_get (ci := 7) (j := 0) (v := .int a18) C0 V i_Dig rfl rfl hT0 (by decide) w_264 rfl d_5_6_35 ?_
      refine lv_if_ne (tgt := 46) hx hb d_5_6_38 (by decide) (fun c25 => ?_) (fun c25 => ?_)
      ·
        have b26 : q_F (a18.toInt ≠ 0) := (q_neI c25)
        exact q_retv C0 V (⟨hI, hF, a18, t0_1, t1_0, hT0, hT1, (show 0 ≤ a18.toInt from (by have t1 : x2.toInt ≤ a18.toInt ∧ 0 ≤ a18.toInt ∧ (a18.toInt = x2.toInt ∨ a18.toInt = 0) := b20; omega)), (show a18.toInt ≤ 1026 from (by have t1 : 0 ≤ t0_0.toInt ∧ t0_0.toInt ≤ 1026 := btt0_0; have t2 : x2.toInt < t0_0.toInt := b10; have t3 : x2.toInt ≤ a18.toInt ∧ 0 ≤ a18.toInt ∧ (a18.toInt = x2.toInt ∨ a18.toInt = 0) := b20; omega)), (show t0_1.toInt ≤ 100001 from (by first | with_reducible exact q_fe pre4 | (have t1 : t0_1.toInt ≤ 100000 := pre4; omega))), (show a18.toInt ≤ x2.toInt + 100000 from (by have t1 : x2.toInt ≤ a18.toInt ∧ 0 ≤ a18.toInt ∧ (a18.toInt = x2.toInt ∨ a18.toInt = 0) := b20; have t2 : a18.toInt ≠ 0 := b26; omega)), (show a18.toInt ≤ t0_0.toInt + 1 from (by have t1 : 0 ≤ t0_0.toInt ∧ t0_0.toInt ≤ 1026 := btt0_0; have t2 : x2.toInt < t0_0.toInt := b10; have t3 : x2.toInt ≤ a18.toInt ∧ 0 ≤ a18.toInt ∧ (a18.toInt = x2.toInt ∨ a18.toInt = 0) := b20; omega)), (show t0_1.toInt ≤ t0_0.toInt + 100000 from (by have t1 : 0 ≤ t0_0.toInt ∧ t0_0.toInt ≤ 1026 := btt0_0; have t2 : t0_1.toInt ≤ 100000 := pre4; omega)), (show t0_1.toInt ≤ t0_1.toInt from (by omega)), (show t0_1.toInt ≤ t0_1.toInt + 100000 from (by omega)), (show t0_1.toInt ≤ a18.toInt + 100000 from (by have t1 : t0_1.toInt + 1 ≤ x2.toInt := pre2; have t2 : x2.toInt ≤ a18.toInt ∧ 0 ≤ a18.toInt ∧ (a18.toInt = x2.toInt ∨ a18.toInt = 0) := b20; omega)), (show (a18, t0_1, t1_0) = (F_Dig_round_2 x2 x3 t0_0 t0_1 t1_0) from (by have c23x := c23; rw [e17] at c23x; have c25x := c25; rw [← e19] at c25x; rw [← e19, F_Dig_round_2.eq_1, if_pos c9, if_pos c23x, if_neg c25x]))⟩) d_5_6_46
      ·
        have b27 : q_F (a18.toInt = 0) := (q_eqI c25)
        refine lv_aload_n hx hb d_5_6_41 rfl (lv_at hl 1 rfl) ?_
        refine lv_iconst (v := 0) hx hb d_5_6_42 (by decide) ?_
        refine q_put (ci := 7) (j := 1) (v := .int 0) (ty := .int) C0 V i_Dig o_Dig n_Dig rfl rfl hT0 (by decide) w_266 rfl rfl rfl rfl (Nat.le_of_ble_eq_true rfl) d_5_6_43 (fun H locs w28 hu29 hT0 V => ?_)
        replace hT0 : w28[36]? = (some (q 36, .inr (7, [.int a18, .int 0, .ref (q 37)])) : Option (Nat × va_E)) := hT0
        replace hI := n_p36 hI hu29 hT0 ⟨(by have t1 : x2.toInt ≤ a18.toInt ∧ 0 ≤ a18.toInt ∧ (a18.toInt = x2.toInt ∨ a18.toInt = 0) := b20; omega), (by first | with_reducible exact q_fe b27 | (have t1 : a18.toInt = 0 := b27; omega))⟩ ⟨(by have z9 : (0 : Int32).toInt = 0 := rfl; omega), (by have z9 : (0 : Int32).toInt = 0 := rfl; omega)⟩
        replace hT1 := (hu29 _ (by decide)).trans hT1
        replace hF := q_us hF hu29 (by simp)
        exact q_retv C0 V (⟨hI, hF, a18, 0, t1_0, hT0, hT1, (show 0 ≤ a18.toInt from (by have z6 : (0 : Int32).toInt = 0 := rfl; have t1 : x2.toInt ≤ a18.toInt ∧ 0 ≤ a18.toInt ∧ (a18.toInt = x2.toInt ∨ a18.toInt = 0) := b20; omega)), (show a18.toInt ≤ 1026 from (by have z6 : (0 : Int32).toInt = 0 := rfl; have t1 : a18.toInt = 0 := b27; omega)), (show (0 : Int32).toInt ≤ 100001 from (by have z6 : (0 : Int32).toInt = 0 := rfl; omega)), (show a18.toInt ≤ x2.toInt + 100000 from (by have z6 : (0 : Int32).toInt = 0 := rfl; have t1 : t0_1.toInt + 1 ≤ x2.toInt := pre2; have t2 : 0 ≤ t0_1.toInt + 100000 := pre3; have t3 : x2.toInt ≤ a18.toInt ∧ 0 ≤ a18.toInt ∧ (a18.toInt = x2.toInt ∨ a18.toInt = 0) := b20; omega)), (show a18.toInt ≤ t0_0.toInt + 1 from (by have z6 : (0 : Int32).toInt = 0 := rfl; have t1 : 0 ≤ t0_0.toInt ∧ t0_0.toInt ≤ 1026 := btt0_0; have t2 : x2.toInt < t0_0.toInt := b10; have t3 : x2.toInt ≤ a18.toInt ∧ 0 ≤ a18.toInt ∧ (a18.toInt = x2.toInt ∨ a18.toInt = 0) := b20; omega)), (show (0 : Int32).toInt ≤ t0_0.toInt + 100000 from (by have z6 : (0 : Int32).toInt = 0 := rfl; have t1 : 0 ≤ t0_0.toInt ∧ t0_0.toInt ≤ 1026 := btt0_0; omega)), (show t0_1.toInt ≤ (0 : Int32).toInt from (by have z6 : (0 : Int32).toInt = 0 := rfl; have t1 : t0_1.toInt + 1 ≤ x2.toInt := pre2; have t2 : x2.toInt ≤ a18.toInt ∧ 0 ≤ a18.toInt ∧ (a18.toInt = x2.toInt ∨ a18.toInt = 0) := b20; have t3 : a18.toInt = 0 := b27; omega)), (show (0 : Int32).toInt ≤ t0_1.toInt + 100000 from (by have z6 : (0 : Int32).toInt = 0 := rfl; have t1 : 0 ≤ t0_1.toInt + 100000 := pre3; omega)), (show (0 : Int32).toInt ≤ a18.toInt + 100000 from (by have z6 : (0 : Int32).toInt = 0 := rfl; have t1 : x2.toInt ≤ a18.toInt ∧ 0 ≤ a18.toInt ∧ (a18.toInt = x2.toInt ∨ a18.toInt = 0) := b20; omega)), (show (a18, (0 : Int32), t1_0) = (F_Dig_round_2 x2 x3 t0_0 t0_1 t1_0) from (by have c23x := c23; rw [e17] at c23x; have c25x := c25; rw [← e19] at c25x; rw [← e19, F_Dig_round_2.eq_1, if_pos c9, if_pos c23x, if_pos c25x]))⟩) d_5_6_46
    ·
      refine lv_aload_n hx hb d_5_6_29 rfl (lv_at hl 1 rfl) ?_
      refine lv_iload_n hx hb d_5_6_30 rfl (lv_at hl 2 rfl) ?_
      refine q_gov V (q_runV (As := [.int x2]) (rest := []) (d := 1) (mc := 0) (ms := 0) (ci := 7) C0 V rfl LV_Dig_46 (X_Dig_stepOutwards_2 l D g q w21  x2 hI a18 t0_1 hT0 t1_0 hT1 (by first | with_reducible exact q_fe pre0 | (have t1 : 0 ≤ x2.toInt + 200000 := pre0; omega)) (by first | with_reducible exact q_fe pre1 | (have t1 : x2.toInt ≤ 200000 := pre1; omega)) (by first | with_reducible exact q_fe pre2 | (have t1 : t0_1.toInt + 1 ≤ x2.toInt := pre2; omega)) (by first | with_reducible exact q_fe pre3 | (have t1 : 0 ≤ t0_1.toInt + 100000 := pre3; omega)) (by first | with_reducible exact q_fe pre4 | (have t1 : t0_1.toInt ≤ 100000 := pre4; omega)) _) rfl rfl hT0 rfl hl.1 rfl (Nat.le_of_ble_eq_true rfl) ⟨by decide, by decide⟩ ⟨Nat.le_of_ble_eq_true rfl, Nat.le_of_ble_eq_true rfl⟩ d_5_6_31) (fun u31 H locs hp32 V => ?_)
      obtain ⟨hI, hZ9⟩ := hp32
      obtain ⟨hu45, hZ9⟩ := hZ9
      obtain ⟨y34, hZ9⟩ := hZ9
      obtain ⟨y35, hZ9⟩ := hZ9
      obtain ⟨f36, hZ9⟩ := hZ9
      obtain ⟨hO33, hZ9⟩ := hZ9
      obtain ⟨hA37, hZ9⟩ := hZ9
      obtain ⟨b38, hZ9⟩ := hZ9
      obtain ⟨b39, hZ9⟩ := hZ9
      obtain ⟨b40, hZ9⟩ := hZ9
      obtain ⟨b41, hZ9⟩ := hZ9
      obtain ⟨b42, hZ9⟩ := hZ9
      obtain ⟨b43, hE44⟩ := hZ9
      replace hO33 : u31[36]? = (some (q 36, .inr (7, [.int y34, .int y35, .ref (q 37)])) : Option (Nat × va_E)) := hO33
      replace hA37 : u31[37]? = (some (q 37, .inl (g 2, 1026, .inl f36)) : Option (Nat × va_E)) := hA37
      obtain ⟨p46, e47⟩ : ∃ z, z = (F_Dig_stepOutwards_2 x2 a18 t0_1 t1_0) := ⟨_, rfl⟩
      have e48 : y34 = p46.1 := congrArg (fun z => z.1) (hE44.trans e47.symm)
      have e49 : y35 = p46.2.1 := congrArg (fun z => z.2.1) (hE44.trans e47.symm)
      have e50 : f36 = p46.2.2 := congrArg (fun z => z.2.2) (hE44.trans e47.symm)
      replace b38 : q_F (1 ≤ y34.toInt) := b38
      replace b39 : q_F (y34.toInt ≤ 1026) := b39
      replace b40 : q_F (y35.toInt ≤ 100001) := b40
      replace b41 : q_F (y34.toInt ≤ a18.toInt + 1) := b41
      replace b42 : q_F (t0_1.toInt ≤ y35.toInt) := b42
      replace b43 : q_F (y35.toInt ≤ t0_1.toInt + 100000) := b43
      replace hF := q_uc hF hu45 (by first | exact (q_sk (q_mi 0 rfl) (q_sk (q_mi 1 rfl) q_s0)) | simp)
      have hR51 := (show F_Dig_round_2_c31 x2 x3 t0_0 t0_1 t1_0 a13 p46 = (F_Dig_round_2 x2 x3 t0_0 t0_1 t1_0) from (by have c23x := c23; rw [e17] at c23x; rw [e47, ← e19, e17, F_Dig_round_2.eq_1, if_pos c9, if_neg c23x]))
      refine lv_aload_n hx hb d_5_6_34 rfl (lv_at hl 1 rfl) ?_
      refine q_get (ci := 7) (j := 0) (v := .int y34) C0 V i_Dig rfl rfl hO33 (by decide) w_264 rfl d_5_6_35 ?_
      refine lv_if_ne (tgt := 46) hx hb d_5_6_38 (by decide) (fun c56 => ?_) (fun c56 => absurd (show y34.toInt = 0 from q_eqI c56) (by first | with_reducible exact q_fe b38 | (have t1 : 1 ≤ y34.toInt := b38; omega)))
      exact q_retv C0 V (⟨hI, hF, y34, y35, f36, hO33, hA37, (show 0 ≤ y34.toInt from (by first | with_reducible exact q_fe b38 | (have t1 : 1 ≤ y34.toInt := b38; omega))), (show y34.toInt ≤ 1026 from (by first | with_reducible exact q_fe b39 | (have t1 : y34.toInt ≤ 1026 := b39; omega))), (show y35.toInt ≤ 100001 from (by first | with_reducible exact q_fe b40 | (have t1 : y35.toInt ≤ 100001 := b40; omega))), (show y34.toInt ≤ x2.toInt + 100000 from (by have t1 : t0_1.toInt + 1 ≤ x2.toInt := pre2; have t2 : 0 ≤ t0_1.toInt + 100000 := pre3; have t3 : x2.toInt ≤ a18.toInt ∧ 0 ≤ a18.toInt ∧ (a18.toInt = x2.toInt ∨ a18.toInt = 0) := b20; have t4 : y34.toInt ≤ a18.toInt + 1 := b41; omega)), (show y34.toInt ≤ t0_0.toInt + 1 from (by have t1 : 0 ≤ t0_0.toInt ∧ t0_0.toInt ≤ 1026 := btt0_0; have t2 : x2.toInt < t0_0.toInt := b10; have t3 : x2.toInt ≤ a18.toInt ∧ 0 ≤ a18.toInt ∧ (a18.toInt = x2.toInt ∨ a18.toInt = 0) := b20; have t4 : y34.toInt ≤ a18.toInt + 1 := b41; omega)), (show y35.toInt ≤ t0_0.toInt + 100000 from (by have t1 : t0_1.toInt + 1 ≤ x2.toInt := pre2; have t2 : x2.toInt < t0_0.toInt := b10; have t3 : y35.toInt ≤ t0_1.toInt + 100000 := b43; omega)), (show t0_1.toInt ≤ y35.toInt from (by first | with_reducible exact q_fe b42 | (have t1 : t0_1.toInt ≤ y35.toInt := b42; omega))), (show y35.toInt ≤ t0_1.toInt + 100000 from (by first | with_reducible exact q_fe b43 | (have t1 : y35.toInt ≤ t0_1.toInt + 100000 := b43; omega))), (show y35.toInt ≤ y34.toInt + 100000 from (by have t1 : 1 ≤ y34.toInt := b38; have t2 : y35.toInt ≤ 100001 := b40; omega)), (show (y34, y35, f36) = (F_Dig_round_2 x2 x3 t0_0 t0_1 t1_0) from Eq.trans (by rw [e50, e49, e48, F_Dig_round_2_c31.eq_1]) hR51)⟩) d_5_6_46
  ·
    have b57 : q_F (t0_0.toInt ≤ x2.toInt) := (q_nltI c9)
    exact q_retv C0 V (⟨hI, hF, t0_0, t0_1, t1_0, hT0, hT1, (show 0 ≤ t0_0.toInt from (by first | with_reducible exact (q_fe btt0_0).2 | with_reducible exact (q_fe btt0_0).1 | (have t1 : 0 ≤ t0_0.toInt ∧ t0_0.toInt ≤ 1026 := btt0_0; omega))), (show t0_0.toInt ≤ 1026 from (by first | with_reducible exact (q_fe btt0_0).2 | with_reducible exact (q_fe btt0_0).1 | (have t1 : 0 ≤ t0_0.toInt ∧ t0_0.toInt ≤ 1026 := btt0_0; omega))), (show t0_1.toInt ≤ 100001 from (by first | with_reducible exact q_fe pre4 | (have t1 : t0_1.toInt ≤ 100000 := pre4; omega))), (show t0_0.toInt ≤ x2.toInt + 100000 from (by first | with_reducible exact q_fe b57 | (have t1 : t0_0.toInt ≤ x2.toInt := b57; omega))), (show t0_0.toInt ≤ t0_0.toInt + 1 from (by omega)), (show t0_1.toInt ≤ t0_0.toInt + 100000 from (by have t1 : 0 ≤ t0_0.toInt ∧ t0_0.toInt ≤ 1026 := btt0_0; have t2 : t0_1.toInt ≤ 100000 := pre4; omega)), (show t0_1.toInt ≤ t0_1.toInt from (by omega)), (show t0_1.toInt ≤ t0_1.toInt + 100000 from (by omega)), (show t0_1.toInt ≤ t0_0.toInt + 100000 from (by have t1 : 0 ≤ t0_0.toInt ∧ t0_0.toInt ≤ 1026 := btt0_0; have t2 : t0_1.toInt ≤ 100000 := pre4; omega)), (show (t0_0, t0_1, t1_0) = (F_Dig_round_2 x2 x3 t0_0 t0_1 t1_0) from (by rw [F_Dig_round_2.eq_1, if_neg c9]))⟩) d_5_6_8
def F_Dig_stepOutwards_1_J28 (K_F_Dig_stepOutwards_1_L7 : Int32 → (Int32 × Int32 × (Nat → Int32))) (x2 : Int32) (t0_0 : Int32) (t0_1 : Int32) (t1_0 : (Nat → Int32)) (lx13 : Int32) : Int32 × Int32 × (Nat → Int32) := if lx13 < (0 : Int32) then (((1 : Int32), (t0_1 + 1 : Int32), (upd t1_0 (0 : Int32).toNatClampNeg (vp_nar .byte 1) : (Nat → Int32)))) else (((lx13 + 1 : Int32), t0_1, (upd t1_0 lx13.toNatClampNeg (vp_nar .byte (((t1_0 lx13.toNatClampNeg : Int32) + 1 : Int32).toInt8.toInt32 : Int32)) : (Nat → Int32))))
def F_Dig_stepOutwards_1_L7 (x2 : Int32) (t0_0 : Int32) (t0_1 : Int32) (t1_0 : (Nat → Int32)) : Nat → Int32 → (Int32 × Int32 × (Nat → Int32))
  | 0, _ => default
  | fm + 1, lx13 => if lx13 < (0 : Int32) then (F_Dig_stepOutwards_1_J28 (F_Dig_stepOutwards_1_L7 x2 t0_0 t0_1 t1_0 fm) x2 t0_0 t0_1 t1_0 lx13) else (if (t1_0 lx13.toNatClampNeg : Int32) = (9 : Int32) then (F_Dig_stepOutwards_1_L7 x2 t0_0 t0_1 t1_0 fm (lx13 + (-1) : Int32)) else (F_Dig_stepOutwards_1_J28 (F_Dig_stepOutwards_1_L7 x2 t0_0 t0_1 t1_0 fm) x2 t0_0 t0_1 t1_0 lx13))
def F_Dig_stepOutwards_1 (x2 : Int32) (t0_0 : Int32) (t0_1 : Int32) (t1_0 : (Nat → Int32)) : Int32 × Int32 × (Nat → Int32) := F_Dig_stepOutwards_1_L7 x2 t0_0 t0_1 t1_0 (((t0_0 - 1 : Int32).toInt - ((-1000000))).toNat + 1) (t0_0 - 1 : Int32)
set_option maxRecDepth 100000 in
set_option maxHeartbeats 4000000 in
theorem X_Dig_stepOutwards_1 (l : Launch) (D : va_G) (g : Nat → ClassId) (q : Nat → Nat) (ws : va_W) (x2 : Int32) (hI : q_I (nsh g q) q ws) (t0_0 : Int32) (t0_1 : Int32) (hT0 : ws[36]? = (some (q 36, .inr (7, [.int t0_0, .int t0_1, .ref (q 37)])) : Option (Nat × va_E))) (t1_0 : (Nat → Int32)) (hT1 : ws[37]? = (some (q 37, .inl (g 2, 1026, .inl t1_0)) : Option (Nat × va_E))) (pre0 : 1 ≤ x2.toInt) (pre1 : 0 ≤ t0_1.toInt + 200000) (pre2 : t0_1.toInt ≤ 200000) : q_mV l y_Dig_stepOutwards prog_5_method_8_code 3 1 0 0 D g [.ref (q 36), .int x2] ws (fun u => q_I (nsh g q) q u ∧ q_un ws u [36, 37] ∧ ∃ (u0_0 : Int32) (u0_1 : Int32) (u1_0 : (Nat → Int32)), u[36]? = (some (q 36, .inr (7, [.int u0_0, .int u0_1, .ref (q 37)])) : Option (Nat × va_E)) ∧ u[37]? = (some (q 37, .inl (g 2, 1026, .inl u1_0)) : Option (Nat × va_E)) ∧ (1 ≤ u0_0.toInt) ∧ (u0_0.toInt ≤ 1026) ∧ (u0_0.toInt ≤ t0_0.toInt + 1) ∧ (t0_1.toInt ≤ u0_1.toInt) ∧ (u0_1.toInt ≤ t0_1.toInt + 1) ∧ (u0_0, u0_1, u1_0) = (F_Dig_stepOutwards_1 x2 t0_0 t0_1 t1_0)) := by
  intro sz
  refine q_into (by decide) (Nat.le_of_ble_eq_true rfl) ?_
  intro p e s m below meth c ls hsz C0 V hl
  have hx := C0.1
  have hb := C0.2.1
  obtain ⟨btt0_0, btt0_1⟩ := n_w36 hI hT0
  replace btt0_0 : q_F (0 ≤ t0_0.toInt ∧ t0_0.toInt ≤ 1026) := btt0_0
  replace btt0_1 : q_F (-1000000 ≤ t0_1.toInt ∧ t0_1.toInt ≤ 1000000) := btt0_1
  replace pre0 : q_F (1 ≤ x2.toInt) := pre0
  clear pre1
  replace pre2 : q_F (t0_1.toInt ≤ 200000) := pre2
  have hF : q_un ws ws [36, 37] := q_u0
  have hl : lv_has ls 3 [(0, .ref (q 36)), (1, .int x2)] := hl
  refine lv_aload_n hx hb d_5_8_0 rfl (lv_at hl 0 rfl) ?_
  refine q_get (ci := 7) (j := 0) (v := .int t0_0) C0 V i_Dig rfl rfl hT0 (by decide) w_264 rfl d_5_8_1 ?_
  refine lv_iconst (v := 1) hx hb d_5_8_4 (by decide) ?_
  refine lv_isub hx hb d_5_8_5 ?_
  obtain ⟨a9, e10⟩ := q_nm (t0_0 - 1 : Int32)
  refine q_ti (v := a9) e10 ?_
  have b11 : q_F (a9.toInt = t0_0.toInt - 1) := (by rw [← e10]; show (t0_0 - 1 : Int32).toInt = t0_0.toInt - 1; exact q_subI (x := t0_0.toInt) (y := 1) rfl (by decide) (by first | with_reducible exact (q_fe btt0_0).2 | with_reducible exact (q_fe btt0_0).1 | (have t1 : 0 ≤ t0_0.toInt ∧ t0_0.toInt ≤ 1026 := btt0_0; omega)) (by first | with_reducible exact (q_fe btt0_0).2 | with_reducible exact (q_fe btt0_0).1 | (have t1 : 0 ≤ t0_0.toInt ∧ t0_0.toInt ≤ 1026 := btt0_0; omega)))
  refine lv_istore_n (lv' := [(2, .int a9), (0, .ref (q 36)), (1, .int x2)]) hx hb d_5_8_6 rfl hl (by decide) rfl (fun ls hl => ?_)
  refine q_loop (X := Int32) (fun z H locs ls _ => q_F (0 ≤ z.toInt + 1) ∧ q_F (z.toInt + 1 ≤ t0_0.toInt) ∧ q_Wd D g (va_A ws sz) s ws H locs ∧ lv_has ls 3 [(2, .int z), (0, .ref (q 36)), (1, .int x2)] ∧ (∃ n, (z.toInt - ((-1000000))).toNat < n ∧ F_Dig_stepOutwards_1_L7 x2 t0_0 t0_1 t1_0 n z = (F_Dig_stepOutwards_1 x2 t0_0 t0_1 t1_0))) (fun z => (z.toInt - ((-1000000))).toNat) ?_ ((a9 : Int32)) _ _ _ ws ⟨(show q_F (0 ≤ a9.toInt + 1) from (show 0 ≤ a9.toInt + 1 from by have t1 : 0 ≤ t0_0.toInt ∧ t0_0.toInt ≤ 1026 := btt0_0; have t2 : a9.toInt = t0_0.toInt - 1 := b11; omega)), (show q_F (a9.toInt + 1 ≤ t0_0.toInt) from (show a9.toInt + 1 ≤ t0_0.toInt from by have t1 : a9.toInt = t0_0.toInt - 1 := b11; omega)), V, q_lw hl (q_lw1 0 rfl (q_lw1 1 rfl (q_lw1 2 rfl q_lw0))), ⟨((a9.toInt - ((-1000000))).toNat + 1), Nat.lt_succ_self _, (show F_Dig_stepOutwards_1_L7 x2 t0_0 t0_1 t1_0 ((a9.toInt - ((-1000000))).toNat + 1) a9 = (F_Dig_stepOutwards_1 x2 t0_0 t0_1 t1_0) from (by rw [← e10, F_Dig_stepOutwards_1.eq_1]))⟩⟩
  rintro lx13 H locs ls _ ⟨i14, i15, V, hl, ⟨fu19, hf20, hR17⟩⟩ ih16
  obtain ⟨fm21, rfl⟩ : ∃ m, fu19 = m + 1 := ⟨fu19 - 1, by omega⟩
  replace i14 : q_F (0 ≤ lx13.toInt + 1) := i14
  replace i15 : q_F (lx13.toInt + 1 ≤ t0_0.toInt) := i15
  replace hl : lv_has ls 3 [(2, .int lx13), (0, .ref (q 36)), (1, .int x2)] := hl
  refine lv_iload_n hx hb d_5_8_7 rfl (lv_at hl 0 rfl) ?_
  refine q_join (X := Unit) (fun z H locs ls _ => q_Wd D g (va_A ws sz) s ws H locs ∧ lv_has ls 3 [(2, .int lx13), (0, .ref (q 36)), (1, .int x2)] ∧ F_Dig_stepOutwards_1_J28 (F_Dig_stepOutwards_1_L7 x2 t0_0 t0_1 t1_0 fm21) x2 t0_0 t0_1 t1_0 lx13 = (F_Dig_stepOutwards_1 x2 t0_0 t0_1 t1_0)) (fun z => []) 28 0 0 ?_ ?_
  ·
    rintro _ H locs ls _ ⟨V, hl, hR25⟩
    replace hl : lv_has ls 3 [(2, .int lx13), (0, .ref (q 36)), (1, .int x2)] := hl
    refine lv_iload_n hx hb d_5_8_28 rfl (lv_at hl 0 rfl) ?_
    refine lv_if_lt (tgt := 51) hx hb d_5_8_29 (by decide) (fun c30 => ?_) (fun c30 => ?_)
    ·
      refine lv_aload_n hx hb d_5_8_51 rfl (lv_at hl 1 rfl) ?_
      refine lv_dup hx hb d_5_8_52 rfl ?_
      refine q_get (ci := 7) (j := 1) (v := .int t0_1) C0 V i_Dig rfl rfl hT0 (by decide) w_266 rfl d_5_8_53 ?_
      refine lv_iload_n hx hb d_5_8_56 rfl (lv_at hl 2 rfl) ?_
      refine lv_if_le (tgt := 64) hx hb d_5_8_57 (by decide) (fun c32 => absurd (show x2.toInt ≤ 0 from q_leI c32) (by first | with_reducible exact q_fe pre0 | (have t1 : 1 ≤ x2.toInt := pre0; omega))) (fun c32 => ?_)
      refine lv_iconst (v := 1) hx hb d_5_8_60 (by decide) ?_
      refine lv_goto (tgt := 67) hx hb d_5_8_61 (by decide) ?_
      refine lv_iadd hx hb d_5_8_67 ?_
      obtain ⟨a33, e34⟩ := q_nm (t0_1 + 1 : Int32)
      refine q_ti (v := a33) e34 ?_
      have b35 : q_F (a33.toInt = t0_1.toInt + 1) := (by rw [← e34]; show (t0_1 + 1 : Int32).toInt = t0_1.toInt + 1; exact q_addI (x := t0_1.toInt) (y := 1) rfl (by decide) (by first | with_reducible exact (q_fe btt0_1).2 | with_reducible exact (q_fe btt0_1).1 | (have t1 : -1000000 ≤ t0_1.toInt ∧ t0_1.toInt ≤ 1000000 := btt0_1; omega)) (by first | with_reducible exact (q_fe btt0_1).2 | with_reducible exact (q_fe btt0_1).1 | (have t1 : -1000000 ≤ t0_1.toInt ∧ t0_1.toInt ≤ 1000000 := btt0_1; omega)))
      refine q_put (ci := 7) (j := 1) (v := .int a33) (ty := .int) C0 V i_Dig o_Dig n_Dig rfl rfl hT0 (by decide) w_266 rfl rfl rfl rfl (Nat.le_of_ble_eq_true rfl) d_5_8_68 (fun H locs w36 hu37 hT0 V => ?_)
      replace hT0 : w36[36]? = (some (q 36, .inr (7, [.int t0_0, .int a33, .ref (q 37)])) : Option (Nat × va_E)) := hT0
      replace hI := n_p36 hI hu37 hT0 (by first | with_reducible exact q_fe btt0_0 | exact ⟨(by have t1 : 0 ≤ t0_0.toInt ∧ t0_0.toInt ≤ 1026 := btt0_0; omega), (by have t1 : 0 ≤ t0_0.toInt ∧ t0_0.toInt ≤ 1026 := btt0_0; omega)⟩) ⟨(by have t1 : -1000000 ≤ t0_1.toInt ∧ t0_1.toInt ≤ 1000000 := btt0_1; have t2 : a33.toInt = t0_1.toInt + 1 := b35; omega), (by have t1 : t0_1.toInt ≤ 200000 := pre2; have t2 : a33.toInt = t0_1.toInt + 1 := b35; omega)⟩
      replace hT1 := (hu37 _ (by decide)).trans hT1
      replace hF := q_us hF hu37 (by simp)
      refine lv_aload_n hx hb d_5_8_71 rfl (lv_at hl 1 rfl) ?_
      refine q_get (ci := 7) (j := 2) (v := .ref (q 37)) C0 V i_Dig rfl rfl hT0 (by decide) w_269 rfl d_5_8_72 ?_
      refine lv_iconst (v := 0) hx hb d_5_8_75 (by decide) ?_
      refine lv_iconst (v := 1) hx hb d_5_8_76 (by decide) ?_
      refine q_bast C0 V hT1 (q_ix (x := 0) (by decide) (by omega) (by omega)) d_5_8_77 (fun H locs w38 hu39 hT1 V => ?_)
      replace hI := n_ai' hI (n_s37 g q) hu39 hT1 (q_updB (fun _ => s_bnd) s_bnd)
      replace hT0 := (hu39 _ (by decide)).trans hT0
      replace hF := q_us hF hu39 (by simp)
      obtain ⟨f40, e41⟩ := q_nm (upd t1_0 (0 : Int32).toNatClampNeg (vp_nar .byte 1) : (Nat → Int32))
      rw [e41] at hT1
      refine lv_aload_n hx hb d_5_8_78 rfl (lv_at hl 1 rfl) ?_
      refine lv_iconst (v := 1) hx hb d_5_8_79 (by decide) ?_
      refine q_put (ci := 7) (j := 0) (v := .int 1) (ty := .int) C0 V i_Dig o_Dig n_Dig rfl rfl hT0 (by decide) w_264 rfl rfl rfl rfl (Nat.le_of_ble_eq_true rfl) d_5_8_80 (fun H locs w42 hu43 hT0 V => ?_)
      replace hT0 : w42[36]? = (some (q 36, .inr (7, [.int 1, .int a33, .ref (q 37)])) : Option (Nat × va_E)) := hT0
      replace hI := n_p36 hI hu43 hT0 ⟨(by have z9 : (1 : Int32).toInt = 1 := rfl; omega), (by have z9 : (1 : Int32).toInt = 1 := rfl; omega)⟩ ⟨(by have t1 : -1000000 ≤ t0_1.toInt ∧ t0_1.toInt ≤ 1000000 := btt0_1; have t2 : a33.toInt = t0_1.toInt + 1 := b35; omega), (by have t1 : t0_1.toInt ≤ 200000 := pre2; have t2 : a33.toInt = t0_1.toInt + 1 := b35; omega)⟩
      replace hT1 := (hu43 _ (by decide)).trans hT1
      replace hF := q_us hF hu43 (by simp)
      exact q_retv C0 V (⟨hI, hF, 1, a33, f40, hT0, hT1, (show 1 ≤ (1 : Int32).toInt from (by have z4 : (1 : Int32).toInt = 1 := rfl; omega)), (show (1 : Int32).toInt ≤ 1026 from (by have z4 : (1 : Int32).toInt = 1 := rfl; omega)), (show (1 : Int32).toInt ≤ t0_0.toInt + 1 from (by have z4 : (1 : Int32).toInt = 1 := rfl; have t1 : 0 ≤ t0_0.toInt ∧ t0_0.toInt ≤ 1026 := btt0_0; omega)), (show t0_1.toInt ≤ a33.toInt from (by have z4 : (1 : Int32).toInt = 1 := rfl; have t1 : a33.toInt = t0_1.toInt + 1 := b35; omega)), (show a33.toInt ≤ t0_1.toInt + 1 from (by have z4 : (1 : Int32).toInt = 1 := rfl; have t1 : a33.toInt = t0_1.toInt + 1 := b35; omega)), (show ((1 : Int32), a33, f40) = (F_Dig_stepOutwards_1 x2 t0_0 t0_1 t1_0) from Eq.trans (by rw [← e41, ← e34, F_Dig_stepOutwards_1_J28.eq_1, if_pos c30]) hR25)⟩) d_5_8_83
    ·
      have b44 : q_F (0 ≤ lx13.toInt) := (q_nltI c30)
      refine lv_aload_n hx hb d_5_8_32 rfl (lv_at hl 1 rfl) ?_
      refine q_get (ci := 7) (j := 2) (v := .ref (q 37)) C0 V i_Dig rfl rfl hT0 (by decide) w_269 rfl d_5_8_33 ?_
      refine lv_iload_n hx hb d_5_8_36 rfl (lv_at hl 0 rfl) ?_
      refine lv_dup2_11 hx hb d_5_8_37 rfl rfl ?_
      refine q_bald C0 V hT1 (q_ix (x := lx13.toInt) rfl (by first | with_reducible exact q_fe b44 | (have t1 : 0 ≤ lx13.toInt := b44; omega)) (by have t1 : 0 ≤ lx13.toInt := b44; have t2 : 0 ≤ t0_0.toInt ∧ t0_0.toInt ≤ 1026 := btt0_0; have t3 : lx13.toInt + 1 ≤ t0_0.toInt := i15; omega)) d_5_8_38 ?_
      obtain ⟨a45, e46⟩ := q_nm (t1_0 lx13.toNatClampNeg : Int32)
      refine q_ti (v := a45) e46 ?_
      refine lv_iconst (v := 1) hx hb d_5_8_39 (by decide) ?_
      refine lv_iadd hx hb d_5_8_40 ?_
      obtain ⟨a47, e48⟩ := q_nm (a45 + 1 : Int32)
      refine q_ti (v := a47) e48 ?_
      refine lv_i2b hx hb d_5_8_41 rfl ?_
      obtain ⟨a49, e50⟩ := q_nm (a47.toInt8.toInt32 : Int32)
      refine q_ti (v := a49) e50 ?_
      refine q_bast C0 V hT1 (q_ix (x := lx13.toInt) rfl (by first | with_reducible exact q_fe b44 | (have t1 : 0 ≤ lx13.toInt := b44; omega)) (by have t1 : 0 ≤ lx13.toInt := b44; have t2 : 0 ≤ t0_0.toInt ∧ t0_0.toInt ≤ 1026 := btt0_0; have t3 : lx13.toInt + 1 ≤ t0_0.toInt := i15; omega)) d_5_8_42 (fun H locs w51 hu52 hT1 V => ?_)
      replace hI := n_ai' hI (n_s37 g q) hu52 hT1 (q_updB (fun _ => s_bnd) s_bnd)
      replace hT0 := (hu52 _ (by decide)).trans hT0
      replace hF := q_us hF hu52 (by simp)
      obtain ⟨f53, e54⟩ := q_nm (upd t1_0 lx13.toNatClampNeg (vp_nar .byte a49) : (Nat → Int32))
      rw [e54] at hT1
      refine lv_aload_n hx hb d_5_8_43 rfl (lv_at hl 1 rfl) ?_
      refine lv_iload_n hx hb d_5_8_44 rfl (lv_at hl 0 rfl) ?_
      refine lv_iconst (v := 1) hx hb d_5_8_45 (by decide) ?_
      refine lv_iadd hx hb d_5_8_46 ?_
      obtain ⟨a55, e56⟩ := q_nm (lx13 + 1 : Int32)
      refine q_ti (v := a55) e56 ?_
      have b57 : q_F (a55.toInt = lx13.toInt + 1) := (by rw [← e56]; show (lx13 + 1 : Int32).toInt = lx13.toInt + 1; exact q_addI (x := lx13.toInt) (y := 1) rfl (by decide) (by have t1 : 0 ≤ lx13.toInt + 1 := i14; have t2 : lx13.toInt + 1 ≤ t0_0.toInt := i15; have _ := q_lo32 (x := t0_0); have _ := q_hi32 (x := t0_0); omega) (by have t1 : 0 ≤ lx13.toInt + 1 := i14; have t2 : lx13.toInt + 1 ≤ t0_0.toInt := i15; have _ := q_lo32 (x := t0_0); have _ := q_hi32 (x := t0_0); omega))
      refine q_put (ci := 7) (j := 0) (v := .int a55) (ty := .int) C0 V i_Dig o_Dig n_Dig rfl rfl hT0 (by decide) w_264 rfl rfl rfl rfl (Nat.le_of_ble_eq_true rfl) d_5_8_47 (fun H locs w58 hu59 hT0 V => ?_)
      replace hT0 : w58[36]? = (some (q 36, .inr (7, [.int a55, .int t0_1, .ref (q 37)])) : Option (Nat × va_E)) := hT0
      replace hI := n_p36 hI hu59 hT0 ⟨(by have t1 : 0 ≤ lx13.toInt + 1 := i14; have t2 : a55.toInt = lx13.toInt + 1 := b57; omega), (by have t1 : 0 ≤ t0_0.toInt ∧ t0_0.toInt ≤ 1026 := btt0_0; have t2 : lx13.toInt + 1 ≤ t0_0.toInt := i15; have t3 : a55.toInt = lx13.toInt + 1 := b57; omega)⟩ (by first | with_reducible exact q_fe btt0_1 | exact ⟨(by have t1 : -1000000 ≤ t0_1.toInt ∧ t0_1.toInt ≤ 1000000 := btt0_1; omega), (by have t1 : -1000000 ≤ t0_1.toInt ∧ t0_1.toInt ≤ 1000000 := btt0_1; omega)⟩)
      replace hT1 := (hu59 _ (by decide)).trans hT1
      replace hF := q_us hF hu59 (by simp)
      exact q_retv C0 V (⟨hI, hF, a55, t0_1, f53, hT0, hT1, (show 1 ≤ a55.toInt from (by have t1 : 0 ≤ lx13.toInt := b44; have t2 : a55.toInt = lx13.toInt + 1 := b57; omega)), (show a55.toInt ≤ 1026 from (by have t1 : 0 ≤ t0_0.toInt ∧ t0_0.toInt ≤ 1026 := btt0_0; have t2 : lx13.toInt + 1 ≤ t0_0.toInt := i15; have t3 : a55.toInt = lx13.toInt + 1 := b57; omega)), (show a55.toInt ≤ t0_0.toInt + 1 from (by have t1 : lx13.toInt + 1 ≤ t0_0.toInt := i15; have t2 : a55.toInt = lx13.toInt + 1 := b57; omega)), (show t0_1.toInt ≤ t0_1.toInt from (by omega)), (show t0_1.toInt ≤ t0_1.toInt + 1 from (by omega)), (show (a55, t0_1, f53) = (F_Dig_stepOutwards_1 x2 t0_0 t0_1 t1_0) from Eq.trans (by rw [← e56, ← e54, ← e50, ← e48, ← e46, F_Dig_stepOutwards_1_J28.eq_1, if_neg c30]) hR25)⟩) d_5_8_50
  ·
    intro J24
    refine lv_if_lt (tgt := 28) hx hb d_5_8_8 (by decide) (fun c60 => ?_) (fun c60 => ?_)
    ·
      exact J24 (()) _ _ _ ws ⟨V, q_lw hl (q_lw1 0 rfl (q_lw1 1 rfl (q_lw1 2 rfl q_lw0))), (show F_Dig_stepOutwards_1_J28 (F_Dig_stepOutwards_1_L7 x2 t0_0 t0_1 t1_0 fm21) x2 t0_0 t0_1 t1_0 lx13 = (F_Dig_stepOutwards_1 x2 t0_0 t0_1 t1_0) from Eq.trans (by rw [F_Dig_stepOutwards_1_L7.eq_2, if_pos c60]) hR17)⟩
    ·
      have b62 : q_F (0 ≤ lx13.toInt) := (q_nltI c60)
      refine lv_aload_n hx hb d_5_8_11 rfl (lv_at hl 1 rfl) ?_
      refine q_get (ci := 7) (j := 2) (v := .ref (q 37)) C0 V i_Dig rfl rfl hT0 (by decide) w_269 rfl d_5_8_12 ?_
      refine lv_iload_n hx hb d_5_8_15 rfl (lv_at hl 0 rfl) ?_
      refine q_bald C0 V hT1 (q_ix (x := lx13.toInt) rfl (by first | with_reducible exact q_fe b62 | (have t1 : 0 ≤ lx13.toInt := b62; omega)) (by have t1 : 0 ≤ lx13.toInt := b62; have t2 : 0 ≤ t0_0.toInt ∧ t0_0.toInt ≤ 1026 := btt0_0; have t3 : lx13.toInt + 1 ≤ t0_0.toInt := i15; omega)) d_5_8_16 ?_
      obtain ⟨a63, e64⟩ := q_nm (t1_0 lx13.toNatClampNeg : Int32)
      refine q_ti (v := a63) e64 ?_
      refine lv_bipush (v := 9) hx hb d_5_8_17 (by decide) ?_
      refine lv_icmp_ne (tgt := 28) hx hb d_5_8_19 (by decide) (fun c65 => ?_) (fun c65 => ?_)
      ·
        exact J24 (()) _ _ _ ws ⟨V, q_lw hl (q_lw1 0 rfl (q_lw1 1 rfl (q_lw1 2 rfl q_lw0))), (show F_Dig_stepOutwards_1_J28 (F_Dig_stepOutwards_1_L7 x2 t0_0 t0_1 t1_0 fm21) x2 t0_0 t0_1 t1_0 lx13 = (F_Dig_stepOutwards_1 x2 t0_0 t0_1 t1_0) from Eq.trans (by have c65x := c65; rw [← e64] at c65x; rw [F_Dig_stepOutwards_1_L7.eq_2, if_neg c60, if_neg c65x]) hR17)⟩
      ·
        obtain ⟨a68, e69⟩ := q_nm (lx13 + (-1) : Int32)
        have b70 : q_F (a68.toInt = lx13.toInt + (-1)) := (by rw [← e69]; exact q_addI (y := (-1)) rfl (by decide) (by have t1 : 0 ≤ lx13.toInt + 1 := i14; have _ := q_lo32 (x := lx13); have _ := q_hi32 (x := lx13); omega) (by have t1 : 0 ≤ lx13.toInt + 1 := i14; have _ := q_lo32 (x := lx13); have _ := q_hi32 (x := lx13); omega))
        refine lv_iinc (v := a68) (lv' := [(2, .int a68), (0, .ref (q 36)), (1, .int x2)]) hx hb d_5_8_22 hl (k := 0) rfl (e69) (by decide) rfl (fun ls hl => ?_)
        refine lv_goto (tgt := 7) hx hb d_5_8_25 (by decide) ?_
        exact ih16 ((a68 : Int32)) _ _ _ ws (show (a68.toInt - ((-1000000))).toNat < (lx13.toInt - ((-1000000))).toNat from by have t1 : a68.toInt = lx13.toInt + (-1) := b70; have t2 : 0 ≤ lx13.toInt + 1 := i14; omega) ⟨(show q_F (0 ≤ a68.toInt + 1) from (show 0 ≤ a68.toInt + 1 from by have t1 : 0 ≤ lx13.toInt := b62; have t2 : a68.toInt = lx13.toInt + (-1) := b70; omega)), (show q_F (a68.toInt + 1 ≤ t0_0.toInt) from (show a68.toInt + 1 ≤ t0_0.toInt from by have t1 : lx13.toInt + 1 ≤ t0_0.toInt := i15; have t2 : a68.toInt = lx13.toInt + (-1) := b70; omega)), V, q_lw hl (q_lw1 0 rfl (q_lw1 1 rfl (q_lw1 2 rfl q_lw0))), ⟨fm21, Nat.lt_of_lt_of_le (show (a68.toInt - ((-1000000))).toNat < (lx13.toInt - ((-1000000))).toNat from by have t1 : a68.toInt = lx13.toInt + (-1) := b70; have t2 : 0 ≤ lx13.toInt + 1 := i14; omega) (Nat.le_of_lt_succ hf20), (show F_Dig_stepOutwards_1_L7 x2 t0_0 t0_1 t1_0 fm21 a68 = (F_Dig_stepOutwards_1 x2 t0_0 t0_1 t1_0) from Eq.trans (by have c65x := c65; rw [← e64] at c65x; rw [← e69, F_Dig_stepOutwards_1_L7.eq_2, if_neg c60, if_pos c65x]) hR17)⟩⟩
def F_Dig_round_1_c31 (x2 : Int32) (x3 : Int32) (t0_0 : Int32) (t0_1 : Int32) (t1_0 : (Nat → Int32)) (a13 : Int32) (p41 : (Int32 × Int32 × (Nat → Int32))) : Int32 × Int32 × (Nat → Int32) := ((p41.1 : Int32), (p41.2.1 : Int32), (p41.2.2 : (Nat → Int32)))
def F_Dig_round_1 (x2 : Int32) (x3 : Int32) (t0_0 : Int32) (t0_1 : Int32) (t1_0 : (Nat → Int32)) : Int32 × Int32 × (Nat → Int32) := if x2 < t0_0 then (if ((F_Dig_goesOutwards x2 x3 t0_0 t0_1 t1_0) : Int32) = (0 : Int32) then (((if x2 < 0 then 0 else x2 : Int32), t0_1, t1_0)) else (F_Dig_round_1_c31 x2 x3 t0_0 t0_1 t1_0 ((F_Dig_goesOutwards x2 x3 t0_0 t0_1 t1_0) : Int32) ((F_Dig_stepOutwards_1 x2 (if x2 < 0 then 0 else x2 : Int32) t0_1 t1_0) : (Int32 × Int32 × (Nat → Int32))))) else ((t0_0, t0_1, t1_0))
set_option maxRecDepth 100000 in
set_option maxHeartbeats 4000000 in
theorem X_Dig_round_1 (l : Launch) (D : va_G) (g : Nat → ClassId) (q : Nat → Nat) (ws : va_W) (x2 : Int32) (x3 : Int32) (hI : q_I (nsh g q) q ws) (t0_0 : Int32) (t0_1 : Int32) (hT0 : ws[36]? = (some (q 36, .inr (7, [.int t0_0, .int t0_1, .ref (q 37)])) : Option (Nat × va_E))) (t1_0 : (Nat → Int32)) (hT1 : ws[37]? = (some (q 37, .inl (g 2, 1026, .inl t1_0)) : Option (Nat × va_E))) (pre0 : 1 ≤ x2.toInt) (pre1 : 0 ≤ t0_1.toInt + 200000) (pre2 : t0_1.toInt ≤ 200000) : q_mV l y_Dig_round prog_5_method_6_code 4 3 0 0 D g [.ref (q 36), .int x2, .int x3] ws (fun u => q_I (nsh g q) q u ∧ q_un ws u [36, 37] ∧ ∃ (u0_0 : Int32) (u0_1 : Int32) (u1_0 : (Nat → Int32)), u[36]? = (some (q 36, .inr (7, [.int u0_0, .int u0_1, .ref (q 37)])) : Option (Nat × va_E)) ∧ u[37]? = (some (q 37, .inl (g 2, 1026, .inl u1_0)) : Option (Nat × va_E)) ∧ (0 ≤ u0_0.toInt) ∧ (u0_0.toInt ≤ x2.toInt + 1) ∧ (t0_0.toInt ≤ u0_0.toInt + 1025) ∧ (u0_0.toInt ≤ t0_0.toInt) ∧ (t0_1.toInt ≤ u0_1.toInt) ∧ (u0_1.toInt ≤ t0_1.toInt + 1) ∧ (u0_1.toInt ≤ u0_0.toInt + 200000) ∧ (u0_0, u0_1, u1_0) = (F_Dig_round_1 x2 x3 t0_0 t0_1 t1_0)) := by
  intro sz
  refine q_into (by decide) (Nat.le_of_ble_eq_true rfl) ?_
  intro p e s m below meth c ls hsz C0 V hl
  have hx := C0.1
  have hb := C0.2.1
  obtain ⟨btt0_0, btt0_1⟩ := n_w36 hI hT0
  replace btt0_0 : q_F (0 ≤ t0_0.toInt ∧ t0_0.toInt ≤ 1026) := btt0_0
  replace btt0_1 : q_F (-1000000 ≤ t0_1.toInt ∧ t0_1.toInt ≤ 1000000) := btt0_1
  replace pre0 : q_F (1 ≤ x2.toInt) := pre0
  replace pre1 : q_F (0 ≤ t0_1.toInt + 200000) := pre1
  replace pre2 : q_F (t0_1.toInt ≤ 200000) := pre2
  have hF : q_un ws ws [36, 37] := q_u0
  have hl : lv_has ls 4 [(0, .ref (q 36)), (1, .int x2), (2, .int x3)] := hl
  refine lv_iload_n hx hb d_5_6_0 rfl (lv_at hl 1 rfl) ?_
  refine lv_aload_n hx hb d_5_6_1 rfl (lv_at hl 0 rfl) ?_
  refine q_get (ci := 7) (j := 0) (v := .int t0_0) C0 V i_Dig rfl rfl hT0 (by decide) w_264 rfl d_5_6_2 ?_
  refine lv_icmp_lt (tgt := 9) hx hb d_5_6_5 (by decide) (fun c9 => ?_) (fun c9 => ?_)
  ·
    have b10 : q_F (x2.toInt < t0_0.toInt) := (q_ltI c9)
    refine lv_aload_n hx hb d_5_6_9 rfl (lv_at hl 0 rfl) ?_
    refine lv_iload_n hx hb d_5_6_10 rfl (lv_at hl 1 rfl) ?_
    refine lv_iload_n hx hb d_5_6_11 rfl (lv_at hl 2 rfl) ?_
    refine q_goi V (q_runV (As := [.int x2, .int x3]) (rest := []) (d := 2) (mc := 0) (ms := 0) (ci := 7) C0 V rfl LV_Dig_36 (X_Dig_goesOutwards l D g q ws  x2 x3 hI t0_0 t0_1 hT0 t1_0 hT1  _) rfl rfl hT0 rfl hl.1 rfl (Nat.le_of_ble_eq_true rfl) ⟨by decide, by decide⟩ ⟨Nat.le_of_ble_eq_true rfl, Nat.le_of_ble_eq_true rfl⟩ d_5_6_12) (fun a13 u11 H locs hp12 V => ?_)
    obtain ⟨rfl, b14, b15, hE16⟩ := hp12
    have e17 : a13 = (F_Dig_goesOutwards x2 x3 t0_0 t0_1 t1_0) := hE16
    clear b14
    clear b15
    refine lv_istore_n (lv' := [(3, .int a13), (0, .ref (q 36)), (1, .int x2), (2, .int x3)]) hx hb d_5_6_15 rfl hl (by decide) rfl (fun ls hl => ?_)
    refine lv_aload_n hx hb d_5_6_16 rfl (lv_at hl 1 rfl) ?_
    refine lv_iload_n hx hb d_5_6_17 rfl (lv_at hl 2 rfl) ?_
    refine lv_iconst (v := 0) hx hb d_5_6_18 (by decide) ?_
    refine q_max C0 hl.1 rfl w_1571 w_803 w_7 w_804 ⟨Nat.le_of_ble_eq_true rfl, Nat.le_of_ble_eq_true rfl⟩ ⟨Nat.le_of_ble_eq_true rfl, Nat.le_of_ble_eq_true rfl⟩ d_5_6_19 ?_
    obtain ⟨a18, e19⟩ := q_nm (if x2 < 0 then 0 else x2 : Int32)
    refine q_ti (v := a18) e19 ?_
    have b20 : q_F (x2.toInt ≤ a18.toInt ∧ 0 ≤ a18.toInt ∧ (a18.toInt = x2.toInt ∨ a18.toInt = 0)) := (by rw [← e19]; show x2.toInt ≤ (if x2 < 0 then 0 else x2 : Int32).toInt ∧ 0 ≤ (if x2 < 0 then 0 else x2 : Int32).toInt ∧ ((if x2 < 0 then 0 else x2 : Int32).toInt = x2.toInt ∨ (if x2 < 0 then 0 else x2 : Int32).toInt = 0); exact (by have y1 : (0 : Int32).toInt = 0 := rfl; have z := s_max (a := x2) (b := 0); omega))
    refine q_put (ci := 7) (j := 0) (v := .int a18) (ty := .int) C0 V i_Dig o_Dig n_Dig rfl rfl hT0 (by decide) w_264 rfl rfl rfl rfl (Nat.le_of_ble_eq_true rfl) d_5_6_22 (fun H locs w21 hu22 hT0 V => ?_)
    replace hT0 : w21[36]? = (some (q 36, .inr (7, [.int a18, .int t0_1, .ref (q 37)])) : Option (Nat × va_E)) := hT0
    replace hI := n_p36 hI hu22 hT0 ⟨(by have t1 : x2.toInt ≤ a18.toInt ∧ 0 ≤ a18.toInt ∧ (a18.toInt = x2.toInt ∨ a18.toInt = 0) := b20; omega), (by have t1 : 0 ≤ t0_0.toInt ∧ t0_0.toInt ≤ 1026 := btt0_0; have t2 : x2.toInt < t0_0.toInt := b10; have t3 : x2.toInt ≤ a18.toInt ∧ 0 ≤ a18.toInt ∧ (a18.toInt = x2.toInt ∨ a18.toInt = 0) := b20; omega)⟩ (by first | with_reducible exact q_fe btt0_1 | exact ⟨(by have t1 : -1000000 ≤ t0_1.toInt ∧ t0_1.toInt ≤ 1000000 := btt0_1; omega), (by have t1 : -1000000 ≤ t0_1.toInt ∧ t0_1.toInt ≤ 1000000 := btt0_1; omega)⟩)
    replace hT1 := (hu22 _ (by decide)).trans hT1
    replace hF := q_us hF hu22 (by simp)
    refine lv_iload_n hx hb d_5_6_25 rfl (lv_at hl 0 rfl) ?_
    refine lv_if_eq (tgt := 34) hx hb d_5_6_26 (by decide) (fun c23 => ?_) (fun c23 => ?_)
    ·
      refine lv_aload_n hx hb d_5_6_34 rfl (lv_at hl 1 rfl) ?_
      refine q_get (ci := 7) (j := 0) (v := .int a18) C0 V i_Dig rfl rfl hT0 (by decide) w_264 rfl d_5_6_35 ?_
      refine lv_if_ne (tgt := 46) hx hb d_5_6_38 (by decide) (fun c25 => ?_) (fun c25 => absurd (show a18.toInt = 0 from q_eqI c25) (by have t1 : 1 ≤ x2.toInt := pre0; have t2 : x2.toInt ≤ a18.toInt ∧ 0 ≤ a18.toInt ∧ (a18.toInt = x2.toInt ∨ a18.toInt = 0) := b20; omega))
      exact q_retv C0 V (⟨hI, hF, a18, t0_1, t1_0, hT0, hT1, (show 0 ≤ a18.toInt from (by have t1 : x2.toInt ≤ a18.toInt ∧ 0 ≤ a18.toInt ∧ (a18.toInt = x2.toInt ∨ a18.toInt = 0) := b20; omega)), (show a18.toInt ≤ x2.toInt + 1 from (by have t1 : 1 ≤ x2.toInt := pre0; have t2 : x2.toInt ≤ a18.toInt ∧ 0 ≤ a18.toInt ∧ (a18.toInt = x2.toInt ∨ a18.toInt = 0) := b20; omega)), (show t0_0.toInt ≤ a18.toInt + 1025 from (by have t1 : 0 ≤ t0_0.toInt ∧ t0_0.toInt ≤ 1026 := btt0_0; have t2 : 1 ≤ x2.toInt := pre0; have t3 : x2.toInt ≤ a18.toInt ∧ 0 ≤ a18.toInt ∧ (a18.toInt = x2.toInt ∨ a18.toInt = 0) := b20; omega)), (show a18.toInt ≤ t0_0.toInt from (by have t1 : 0 ≤ t0_0.toInt ∧ t0_0.toInt ≤ 1026 := btt0_0; have t2 : x2.toInt < t0_0.toInt := b10; have t3 : x2.toInt ≤ a18.toInt ∧ 0 ≤ a18.toInt ∧ (a18.toInt = x2.toInt ∨ a18.toInt = 0) := b20; omega)), (show t0_1.toInt ≤ t0_1.toInt from (by omega)), (show t0_1.toInt ≤ t0_1.toInt + 1 from (by omega)), (show t0_1.toInt ≤ a18.toInt + 200000 from (by have t1 : t0_1.toInt ≤ 200000 := pre2; have t2 : x2.toInt ≤ a18.toInt ∧ 0 ≤ a18.toInt ∧ (a18.toInt = x2.toInt ∨ a18.toInt = 0) := b20; omega)), (show (a18, t0_1, t1_0) = (F_Dig_round_1 x2 x3 t0_0 t0_1 t1_0) from (by have c23x := c23; rw [e17] at c23x; rw [← e19, F_Dig_round_1.eq_1, if_pos c9, if_pos c23x]))⟩) d_5_6_46
    ·
      refine lv_aload_n hx hb d_5_6_29 rfl (lv_at hl 1 rfl) ?_
      refine lv_iload_n hx hb d_5_6_30 rfl (lv_at hl 2 rfl) ?_
      refine q_gov V (q_runV (As := [.int x2]) (rest := []) (d := 1) (mc := 0) (ms := 0) (ci := 7) C0 V rfl LV_Dig_46 (X_Dig_stepOutwards_1 l D g q w21  x2 hI a18 t0_1 hT0 t1_0 hT1 (by first | with_reducible exact q_fe pre0 | (have t1 : 1 ≤ x2.toInt := pre0; omega)) (by first | with_reducible exact q_fe pre1 | (have t1 : 0 ≤ t0_1.toInt + 200000 := pre1; omega)) (by first | with_reducible exact q_fe pre2 | (have t1 : t0_1.toInt ≤ 200000 := pre2; omega)) _) rfl rfl hT0 rfl hl.1 rfl (Nat.le_of_ble_eq_true rfl) ⟨by decide, by decide⟩ ⟨Nat.le_of_ble_eq_true rfl, Nat.le_of_ble_eq_true rfl⟩ d_5_6_31) (fun u27 H locs hp28 V => ?_)
      obtain ⟨hI, hZ9⟩ := hp28
      obtain ⟨hu40, hZ9⟩ := hZ9
      obtain ⟨y30, hZ9⟩ := hZ9
      obtain ⟨y31, hZ9⟩ := hZ9
      obtain ⟨f32, hZ9⟩ := hZ9
      obtain ⟨hO29, hZ9⟩ := hZ9
      obtain ⟨hA33, hZ9⟩ := hZ9
      obtain ⟨b34, hZ9⟩ := hZ9
      replace hZ9 := hZ9.2
      obtain ⟨b36, hZ9⟩ := hZ9
      obtain ⟨b37, hZ9⟩ := hZ9
      obtain ⟨b38, hE39⟩ := hZ9
      replace hO29 : u27[36]? = (some (q 36, .inr (7, [.int y30, .int y31, .ref (q 37)])) : Option (Nat × va_E)) := hO29
      replace hA33 : u27[37]? = (some (q 37, .inl (g 2, 1026, .inl f32)) : Option (Nat × va_E)) := hA33
      obtain ⟨p41, e42⟩ : ∃ z, z = (F_Dig_stepOutwards_1 x2 a18 t0_1 t1_0) := ⟨_, rfl⟩
      have e43 : y30 = p41.1 := congrArg (fun z => z.1) (hE39.trans e42.symm)
      have e44 : y31 = p41.2.1 := congrArg (fun z => z.2.1) (hE39.trans e42.symm)
      have e45 : f32 = p41.2.2 := congrArg (fun z => z.2.2) (hE39.trans e42.symm)
      replace b34 : q_F (1 ≤ y30.toInt) := b34
      replace b36 : q_F (y30.toInt ≤ a18.toInt + 1) := b36
      replace b37 : q_F (t0_1.toInt ≤ y31.toInt) := b37
      replace b38 : q_F (y31.toInt ≤ t0_1.toInt + 1) := b38
      replace hF := q_uc hF hu40 (by first | exact (q_sk (q_mi 0 rfl) (q_sk (q_mi 1 rfl) q_s0)) | simp)
      have hR46 := (show F_Dig_round_1_c31 x2 x3 t0_0 t0_1 t1_0 a13 p41 = (F_Dig_round_1 x2 x3 t0_0 t0_1 t1_0) from (by have c23x := c23; rw [e17] at c23x; rw [e42, ← e19, e17, F_Dig_round_1.eq_1, if_pos c9, if_neg c23x]))
      refine lv_aload_n hx hb d_5_6_34 rfl (lv_at hl 1 rfl) ?_
      refine q_get (ci := 7) (j := 0) (v := .int y30) C0 V i_Dig rfl rfl hO29 (by decide) w_264 rfl d_5_6_35 ?_
      refine lv_if_ne (tgt := 46) hx hb d_5_6_38 (by decide) (fun c51 => ?_) (fun c51 => absurd (show y30.toInt = 0 from q_eqI c51) (by first | with_reducible exact q_fe b34 | (have t1 : 1 ≤ y30.toInt := b34; omega)))
      exact q_retv C0 V (⟨hI, hF, y30, y31, f32, hO29, hA33, (show 0 ≤ y30.toInt from (by first | with_reducible exact q_fe b34 | (have t1 : 1 ≤ y30.toInt := b34; omega))), (show y30.toInt ≤ x2.toInt + 1 from (by have t1 : 1 ≤ x2.toInt := pre0; have t2 : x2.toInt ≤ a18.toInt ∧ 0 ≤ a18.toInt ∧ (a18.toInt = x2.toInt ∨ a18.toInt = 0) := b20; have t3 : y30.toInt ≤ a18.toInt + 1 := b36; omega)), (show t0_0.toInt ≤ y30.toInt + 1025 from (by have t1 : 0 ≤ t0_0.toInt ∧ t0_0.toInt ≤ 1026 := btt0_0; have t2 : 1 ≤ y30.toInt := b34; omega)), (show y30.toInt ≤ t0_0.toInt from (by have t1 : 1 ≤ x2.toInt := pre0; have t2 : x2.toInt < t0_0.toInt := b10; have t3 : x2.toInt ≤ a18.toInt ∧ 0 ≤ a18.toInt ∧ (a18.toInt = x2.toInt ∨ a18.toInt = 0) := b20; have t4 : y30.toInt ≤ a18.toInt + 1 := b36; omega)), (show t0_1.toInt ≤ y31.toInt from (by first | with_reducible exact q_fe b37 | (have t1 : t0_1.toInt ≤ y31.toInt := b37; omega))), (show y31.toInt ≤ t0_1.toInt + 1 from (by first | with_reducible exact q_fe b38 | (have t1 : y31.toInt ≤ t0_1.toInt + 1 := b38; omega))), (show y31.toInt ≤ y30.toInt + 200000 from (by have t1 : t0_1.toInt ≤ 200000 := pre2; have t2 : 1 ≤ y30.toInt := b34; have t3 : y31.toInt ≤ t0_1.toInt + 1 := b38; omega)), (show (y30, y31, f32) = (F_Dig_round_1 x2 x3 t0_0 t0_1 t1_0) from Eq.trans (by rw [e45, e44, e43, F_Dig_round_1_c31.eq_1]) hR46)⟩) d_5_6_46
  ·
    have b52 : q_F (t0_0.toInt ≤ x2.toInt) := (q_nltI c9)
    exact q_retv C0 V (⟨hI, hF, t0_0, t0_1, t1_0, hT0, hT1, (show 0 ≤ t0_0.toInt from (by first | with_reducible exact (q_fe btt0_0).2 | with_reducible exact (q_fe btt0_0).1 | (have t1 : 0 ≤ t0_0.toInt ∧ t0_0.toInt ≤ 1026 := btt0_0; omega))), (show t0_0.toInt ≤ x2.toInt + 1 from (by first | with_reducible exact q_fe b52 | (have t1 : t0_0.toInt ≤ x2.toInt := b52; omega))), (show t0_0.toInt ≤ t0_0.toInt + 1025 from (by omega)), (show t0_0.toInt ≤ t0_0.toInt from (by omega)), (show t0_1.toInt ≤ t0_1.toInt from (by omega)), (show t0_1.toInt ≤ t0_1.toInt + 1 from (by omega)), (show t0_1.toInt ≤ t0_0.toInt + 200000 from (by have t1 : 0 ≤ t0_0.toInt ∧ t0_0.toInt ≤ 1026 := btt0_0; have t2 : t0_1.toInt ≤ 200000 := pre2; omega)), (show (t0_0, t0_1, t1_0) = (F_Dig_round_1 x2 x3 t0_0 t0_1 t1_0) from (by rw [F_Dig_round_1.eq_1, if_neg c9]))⟩) d_5_6_8

