def F_Dir_possibleFlags (t0_0 : Int32) (t0_1 : Int32) (t0_2 : Int32) (t0_3 : Int32) (t0_4 : Int32) (t0_5 : Int32) (t0_6 : Int32) : Int32 := if ((F_Dir_isOneOf_3 t0_0 t0_1 t0_2 t0_3 t0_4 t0_5 t0_6) : Int32) = (0 : Int32) then (if ((F_Dir_isOneOf_4 t0_0 t0_1 t0_2 t0_3 t0_4 t0_5 t0_6) : Int32) = (0 : Int32) then (if ((F_Dir_isOneOf_5 t0_0 t0_1 t0_2 t0_3 t0_4 t0_5 t0_6) : Int32) = (0 : Int32) then (if ((F_Dir_isOneOf_6 t0_0 t0_1 t0_2 t0_3 t0_4 t0_5 t0_6) : Int32) = (0 : Int32) then ((255 : Int32)) else ((239 : Int32))) else ((253 : Int32))) else ((75 : Int32))) else ((65 : Int32))
set_option maxRecDepth 100000 in
set_option maxHeartbeats 4000000 in
theorem X_Dir_possibleFlags (l : Launch) (D : va_G) (g : Nat → ClassId) (q : Nat → Nat) (ws : va_W) (hI : q_I (nsh g q) q ws) (t0_0 : Int32) (t0_1 : Int32) (t0_2 : Int32) (t0_3 : Int32) (t0_4 : Int32) (t0_5 : Int32) (t0_6 : Int32) (hT0 : ws[47]? = (some (q 47, .inr (10, [.int t0_0, .int t0_1, .int t0_2, .int t0_3, .int t0_4, .int t0_5, .ref (q 1), .int t0_6])) : Option (Nat × va_E))) : q_mI l y_Dir_possibleFlags prog_6_method_12_code 2 (.int) 6 0 0 D g [.ref (q 47)] ws (fun r u => ws = u ∧ (65 ≤ r.toInt) ∧ (r.toInt ≤ 255) ∧ r = (F_Dir_possibleFlags t0_0 t0_1 t0_2 t0_3 t0_4 t0_5 t0_6)) := by
  intro sz
  refine q_into (by decide) (Nat.le_of_ble_eq_true rfl) ?_
  intro p e s m below meth c ls hsz C0 V hl
  have hx := C0.1
  have hb := C0.2.1
  have hZ9 := (n_w47 hI hT0).2
  obtain ⟨-, btt0_6⟩ := hZ9
  clear btt0_6
  have hl : lv_has ls 2 [(0, .ref (q 47))] := hl
  refine lv_aload_n hx hb d_6_12_0 rfl (lv_at hl 0 rfl) ?_
  refine q_ldcs (i := 3) C0 V rfl rfl d_6_12_1 ?_
  refine q_goi V (q_runV (As := [.ref (g (8 + 2 * 3))]) (rest := []) (d := 5) (mc := 0) (ms := 0) (ci := 10) C0 V rfl LV_Dir_80 (X_Dir_isOneOf_3 l D g q ws   hI t0_0 t0_1 t0_2 t0_3 t0_4 t0_5 t0_6 hT0  _) rfl rfl hT0 rfl hl.1 rfl (Nat.le_of_ble_eq_true rfl) ⟨by decide, by decide⟩ ⟨Nat.le_of_ble_eq_true rfl, Nat.le_of_ble_eq_true rfl⟩ d_6_12_3) (fun a14 u12 H locs hp13 V => ?_)
  obtain ⟨rfl, b15, b16, hE17⟩ := hp13
  have e18 : a14 = (F_Dir_isOneOf_3 t0_0 t0_1 t0_2 t0_3 t0_4 t0_5 t0_6) := hE17
  clear b15
  clear b16
  refine lv_if_eq (tgt := 12) hx hb d_6_12_6 (by decide) (fun c19 => ?_) (fun c19 => ?_)
  ·
    refine lv_aload_n hx hb d_6_12_12 rfl (lv_at hl 0 rfl) ?_
    refine q_ldcs (i := 4) C0 V rfl rfl d_6_12_13 ?_
    refine q_goi V (q_runV (As := [.ref (g (8 + 2 * 4))]) (rest := []) (d := 5) (mc := 0) (ms := 0) (ci := 10) C0 V rfl LV_Dir_80 (X_Dir_isOneOf_4 l D g q ws   hI t0_0 t0_1 t0_2 t0_3 t0_4 t0_5 t0_6 hT0  _) rfl rfl hT0 rfl hl.1 rfl (Nat.le_of_ble_eq_true rfl) ⟨by decide, by decide⟩ ⟨Nat.le_of_ble_eq_true rfl, Nat.le_of_ble_eq_true rfl⟩ d_6_12_15) (fun a23 u21 H locs hp22 V => ?_)
    obtain ⟨rfl, b24, b25, hE26⟩ := hp22
    have e27 : a23 = (F_Dir_isOneOf_4 t0_0 t0_1 t0_2 t0_3 t0_4 t0_5 t0_6) := hE26
    clear b24
    clear b25
    refine lv_if_eq (tgt := 24) hx hb d_6_12_18 (by decide) (fun c28 => ?_) (fun c28 => ?_)
    ·
      refine lv_sipush (v := 255) hx hb d_6_12_24 (by decide) ?_
      refine lv_istore_n (lv' := [(1, .int 255), (0, .ref (q 47))]) hx hb d_6_12_27 rfl hl (by decide) rfl (fun ls hl => ?_)
      refine lv_aload_n hx hb d_6_12_28 rfl (lv_at hl 1 rfl) ?_
      refine q_ldcs (i := 5) C0 V rfl rfl d_6_12_29 ?_
      refine q_goi V (q_runV (As := [.ref (g (8 + 2 * 5))]) (rest := []) (d := 5) (mc := 0) (ms := 0) (ci := 10) C0 V rfl LV_Dir_80 (X_Dir_isOneOf_5 l D g q ws   hI t0_0 t0_1 t0_2 t0_3 t0_4 t0_5 t0_6 hT0  _) rfl rfl hT0 rfl hl.1 rfl (Nat.le_of_ble_eq_true rfl) ⟨by decide, by decide⟩ ⟨Nat.le_of_ble_eq_true rfl, Nat.le_of_ble_eq_true rfl⟩ d_6_12_31) (fun a32 u30 H locs hp31 V => ?_)
      obtain ⟨rfl, b33, b34, hE35⟩ := hp31
      have e36 : a32 = (F_Dir_isOneOf_5 t0_0 t0_1 t0_2 t0_3 t0_4 t0_5 t0_6) := hE35
      clear b33
      clear b34
      refine lv_if_eq (tgt := 42) hx hb d_6_12_34 (by decide) (fun c37 => ?_) (fun c37 => ?_)
      ·
        refine lv_aload_n hx hb d_6_12_42 rfl (lv_at hl 1 rfl) ?_
        refine q_ldcs (i := 6) C0 V rfl rfl d_6_12_43 ?_
        refine q_goi V (q_runV (As := [.ref (g (8 + 2 * 6))]) (rest := []) (d := 5) (mc := 0) (ms := 0) (ci := 10) C0 V rfl LV_Dir_80 (X_Dir_isOneOf_6 l D g q ws   hI t0_0 t0_1 t0_2 t0_3 t0_4 t0_5 t0_6 hT0  _) rfl rfl hT0 rfl hl.1 rfl (Nat.le_of_ble_eq_true rfl) ⟨by decide, by decide⟩ ⟨Nat.le_of_ble_eq_true rfl, Nat.le_of_ble_eq_true rfl⟩ d_6_12_45) (fun a41 u39 H locs hp40 V => ?_)
        obtain ⟨rfl, b42, b43, hE44⟩ := hp40
        have e45 : a41 = (F_Dir_isOneOf_6 t0_0 t0_1 t0_2 t0_3 t0_4 t0_5 t0_6) := hE44
        clear b42
        clear b43
        refine lv_if_eq (tgt := 58) hx hb d_6_12_48 (by decide) (fun c46 => ?_) (fun c46 => ?_)
        ·
          refine lv_iload_n hx hb d_6_12_58 rfl (lv_at hl 0 rfl) ?_
          exact q_reti C0 V (⟨rfl, (show 65 ≤ (255 : Int32).toInt from (by have z7 : (255 : Int32).toInt = 255 := rfl; omega)), (show (255 : Int32).toInt ≤ 255 from (by have z7 : (255 : Int32).toInt = 255 := rfl; omega)), (show (255 : Int32) = (F_Dir_possibleFlags t0_0 t0_1 t0_2 t0_3 t0_4 t0_5 t0_6) from (by have c19x := c19; rw [e18] at c19x; have c28x := c28; rw [e27] at c28x; have c37x := c37; rw [e36] at c37x; have c46x := c46; rw [e45] at c46x; rw [F_Dir_possibleFlags.eq_1, if_pos c19x, if_pos c28x, if_pos c37x, if_pos c46x]))⟩) d_6_12_59
        ·
          refine lv_iload_n hx hb d_6_12_51 rfl (lv_at hl 0 rfl) ?_
          refine lv_bipush (v := (-17)) hx hb d_6_12_52 (by decide) ?_
          refine lv_iand hx hb d_6_12_54 ?_
          refine q_ti (v := 239) (by decide) ?_
          refine lv_goto (tgt := 59) hx hb d_6_12_55 (by decide) ?_
          exact q_reti C0 V (⟨rfl, (show 65 ≤ (239 : Int32).toInt from (by have z7 : (239 : Int32).toInt = 239 := rfl; omega)), (show (239 : Int32).toInt ≤ 255 from (by have z7 : (239 : Int32).toInt = 239 := rfl; omega)), (show (239 : Int32) = (F_Dir_possibleFlags t0_0 t0_1 t0_2 t0_3 t0_4 t0_5 t0_6) from (by have c19x := c19; rw [e18] at c19x; have c28x := c28; rw [e27] at c28x; have c37x := c37; rw [e36] at c37x; have c46x := c46; rw [e45] at c46x; rw [F_Dir_possibleFlags.eq_1, if_pos c19x, if_pos c28x, if_pos c37x, if_neg c46x]))⟩) d_6_12_59
      ·
        refine lv_iload_n hx hb d_6_12_37 rfl (lv_at hl 0 rfl) ?_
        refine lv_bipush (v := (-3)) hx hb d_6_12_38 (by decide) ?_
        refine lv_iand hx hb d_6_12_40 ?_
        refine q_ti (v := 253) (by decide) ?_
        exact q_reti C0 V (⟨rfl, (show 65 ≤ (253 : Int32).toInt from (by have z7 : (253 : Int32).toInt = 253 := rfl; omega)), (show (253 : Int32).toInt ≤ 255 from (by have z7 : (253 : Int32).toInt = 253 := rfl; omega)), (show (253 : Int32) = (F_Dir_possibleFlags t0_0 t0_1 t0_2 t0_3 t0_4 t0_5 t0_6) from (by have c19x := c19; rw [e18] at c19x; have c28x := c28; rw [e27] at c28x; have c37x := c37; rw [e36] at c37x; rw [F_Dir_possibleFlags.eq_1, if_pos c19x, if_pos c28x, if_neg c37x]))⟩) d_6_12_41
    ·
      refine lv_bipush (v := 75) hx hb d_6_12_21 (by decide) ?_
      exact q_reti C0 V (⟨rfl, (show 65 ≤ (75 : Int32).toInt from (by have z7 : (75 : Int32).toInt = 75 := rfl; omega)), (show (75 : Int32).toInt ≤ 255 from (by have z7 : (75 : Int32).toInt = 75 := rfl; omega)), (show (75 : Int32) = (F_Dir_possibleFlags t0_0 t0_1 t0_2 t0_3 t0_4 t0_5 t0_6) from (by have c19x := c19; rw [e18] at c19x; have c28x := c28; rw [e27] at c28x; rw [F_Dir_possibleFlags.eq_1, if_pos c19x, if_neg c28x]))⟩) d_6_12_23
  ·
    refine lv_bipush (v := 65) hx hb d_6_12_9 (by decide) ?_
    exact q_reti C0 V (⟨rfl, (show 65 ≤ (65 : Int32).toInt from (by have z7 : (65 : Int32).toInt = 65 := rfl; omega)), (show (65 : Int32).toInt ≤ 255 from (by have z7 : (65 : Int32).toInt = 65 := rfl; omega)), (show (65 : Int32) = (F_Dir_possibleFlags t0_0 t0_1 t0_2 t0_3 t0_4 t0_5 t0_6) from (by have c19x := c19; rw [e18] at c19x; rw [F_Dir_possibleFlags.eq_1, if_neg c19x]))⟩) d_6_12_11
def F_Dir_fault_J136 (t0_0 : Int32) (t0_1 : Int32) (t0_2 : Int32) (t0_3 : Int32) (t0_4 : Int32) (t0_5 : Int32) (t0_6 : Int32) : Int32 := if ((F_Dir_has (4 : Int32) t0_0 t0_1 t0_2 t0_3 t0_4 t0_5 t0_6) : Int32) = (0 : Int32) then ((0 : Int32)) else (if ((F_Dir_has (128 : Int32) t0_0 t0_1 t0_2 t0_3 t0_4 t0_5 t0_6) : Int32) = (0 : Int32) then ((0 : Int32)) else ((8 : Int32)))
def F_Dir_fault_J119 (t0_0 : Int32) (t0_1 : Int32) (t0_2 : Int32) (t0_3 : Int32) (t0_4 : Int32) (t0_5 : Int32) (t0_6 : Int32) : Int32 := if ((F_Dir_has (1 : Int32) t0_0 t0_1 t0_2 t0_3 t0_4 t0_5 t0_6) : Int32) = (0 : Int32) then (F_Dir_fault_J136 t0_0 t0_1 t0_2 t0_3 t0_4 t0_5 t0_6) else (if ((F_Dir_has (8 : Int32) t0_0 t0_1 t0_2 t0_3 t0_4 t0_5 t0_6) : Int32) = (0 : Int32) then (F_Dir_fault_J136 t0_0 t0_1 t0_2 t0_3 t0_4 t0_5 t0_6) else ((8 : Int32)))
def F_Dir_fault_J82 (t0_0 : Int32) (t0_1 : Int32) (t0_2 : Int32) (t0_3 : Int32) (t0_4 : Int32) (t0_5 : Int32) (t0_6 : Int32) : Int32 := if (t0_1 &&& (((F_Dir_possibleFlags t0_0 t0_1 t0_2 t0_3 t0_4 t0_5 t0_6) : Int32) ^^^ (-1) : Int32) : Int32) = (0 : Int32) then (if ((F_Dir_has (9 : Int32) t0_0 t0_1 t0_2 t0_3 t0_4 t0_5 t0_6) : Int32) = (0 : Int32) then (F_Dir_fault_J119 t0_0 t0_1 t0_2 t0_3 t0_4 t0_5 t0_6) else (if t0_2 = (-1 : Int32) then ((7 : Int32)) else (F_Dir_fault_J119 t0_0 t0_1 t0_2 t0_3 t0_4 t0_5 t0_6))) else ((6 : Int32))
def F_Dir_fault_J63 (t0_0 : Int32) (t0_1 : Int32) (t0_2 : Int32) (t0_3 : Int32) (t0_4 : Int32) (t0_5 : Int32) (t0_6 : Int32) : Int32 := if t0_3 = (-1 : Int32) then (F_Dir_fault_J82 t0_0 t0_1 t0_2 t0_3 t0_4 t0_5 t0_6) else (if ((F_Dir_isOneOf_2 t0_0 t0_1 t0_2 t0_3 t0_4 t0_5 t0_6) : Int32) = (0 : Int32) then (F_Dir_fault_J82 t0_0 t0_1 t0_2 t0_3 t0_4 t0_5 t0_6) else ((5 : Int32)))
def F_Dir_fault (t0_0 : Int32) (t0_1 : Int32) (t0_2 : Int32) (t0_3 : Int32) (t0_4 : Int32) (t0_5 : Int32) (t0_6 : Int32) : Int32 := if (0 : Int32) ≤ t0_4 then (if ((F_Dir_isOneOf_1 t0_0 t0_1 t0_2 t0_3 t0_4 t0_5 t0_6) : Int32) = (0 : Int32) then ((2 : Int32)) else (if t0_6 = (0 : Int32) then (if t0_4 = (110 : Int32) then (if t0_2 = (-1 : Int32) then (if t0_3 = (-1 : Int32) then (if t0_1 = (0 : Int32) then (F_Dir_fault_J63 t0_0 t0_1 t0_2 t0_3 t0_4 t0_5 t0_6) else ((4 : Int32))) else ((4 : Int32))) else ((4 : Int32))) else (F_Dir_fault_J63 t0_0 t0_1 t0_2 t0_3 t0_4 t0_5 t0_6)) else ((3 : Int32)))) else ((1 : Int32))
set_option maxRecDepth 100000 in
set_option maxHeartbeats 4000000 in
theorem X_Dir_fault (l : Launch) (D : va_G) (g : Nat → ClassId) (q : Nat → Nat) (ws : va_W) (hI : q_I (nsh g q) q ws) (t0_0 : Int32) (t0_1 : Int32) (t0_2 : Int32) (t0_3 : Int32) (t0_4 : Int32) (t0_5 : Int32) (t0_6 : Int32) (hT0 : ws[47]? = (some (q 47, .inr (10, [.int t0_0, .int t0_1, .int t0_2, .int t0_3, .int t0_4, .int t0_5, .ref (q 1), .int t0_6])) : Option (Nat × va_E))) : q_mI l y_Dir_fault prog_6_method_11_code 2 (.int) 7 0 0 D g [.ref (q 47)] ws (fun r u => ws = u ∧ (r.toInt ≤ 8) ∧ (t0_6.toInt ≤ r.toInt) ∧ r = (F_Dir_fault t0_0 t0_1 t0_2 t0_3 t0_4 t0_5 t0_6)) := by
  intro sz
  refine q_into (by decide) (Nat.le_of_ble_eq_true rfl) ?_
  intro p e s m below meth c ls hsz C0 V hl
  have hx := C0.1
  have hb := C0.2.1
  have hZ9 := (n_w47 hI hT0).2
  obtain ⟨-, btt0_6⟩ := hZ9
  replace btt0_6 : q_F (0 ≤ t0_6.toInt ∧ t0_6.toInt ≤ 1) := btt0_6
  have hl : lv_has ls 2 [(0, .ref (q 47))] := hl
  refine lv_aload_n hx hb d_6_11_0 rfl (lv_at hl 0 rfl) ?_
  refine q_get (ci := 10) (j := 4) (v := .int t0_4) C0 V i_Dir rfl rfl hT0 (by decide) w_361 rfl d_6_11_1 ?_
  refine lv_if_ge (tgt := 9) hx hb d_6_11_4 (by decide) (fun c12 => ?_) (fun c12 => ?_)
  ·
    refine lv_aload_n hx hb d_6_11_9 rfl (lv_at hl 0 rfl) ?_
    refine q_ldcs (i := 1) C0 V rfl rfl d_6_11_10 ?_
    refine q_goi V (q_runV (As := [.ref (g (8 + 2 * 1))]) (rest := []) (d := 5) (mc := 0) (ms := 0) (ci := 10) C0 V rfl LV_Dir_80 (X_Dir_isOneOf_1 l D g q ws   hI t0_0 t0_1 t0_2 t0_3 t0_4 t0_5 t0_6 hT0  _) rfl rfl hT0 rfl hl.1 rfl (Nat.le_of_ble_eq_true rfl) ⟨by decide, by decide⟩ ⟨Nat.le_of_ble_eq_true rfl, Nat.le_of_ble_eq_true rfl⟩ d_6_11_12) (fun a16 u14 H locs hp15 V => ?_)
    obtain ⟨rfl, b17, b18, hE19⟩ := hp15
    have e20 : a16 = (F_Dir_isOneOf_1 t0_0 t0_1 t0_2 t0_3 t0_4 t0_5 t0_6) := hE19
    clear b17
    clear b18
    refine lv_if_ne (tgt := 20) hx hb d_6_11_15 (by decide) (fun c21 => ?_) (fun c21 => ?_)
    ·
      refine lv_aload_n hx hb d_6_11_20 rfl (lv_at hl 0 rfl) ?_
      refine q_get (ci := 10) (j := 7) (v := .int t0_6) C0 V i_Dir rfl rfl hT0 (by decide) w_366 rfl d_6_11_21 ?_
      refine lv_if_eq (tgt := 29) hx hb d_6_11_24 (by decide) (fun c23 => ?_) (fun c23 => ?_)
      ·
        have b24 : q_F (t0_6.toInt = 0) := (q_eqI c23)
        refine lv_aload_n hx hb d_6_11_29 rfl (lv_at hl 0 rfl) ?_
        refine q_get (ci := 10) (j := 4) (v := .int t0_4) C0 V i_Dir rfl rfl hT0 (by decide) w_361 rfl d_6_11_30 ?_
        refine lv_bipush (v := 110) hx hb d_6_11_33 (by decide) ?_
        refine q_join (X := Unit) (fun z H locs ls _ => q_Wd D g (va_A ws sz) s ws H locs ∧ lv_has ls 2 [(0, .ref (q 47))] ∧ F_Dir_fault_J63 t0_0 t0_1 t0_2 t0_3 t0_4 t0_5 t0_6 = (F_Dir_fault t0_0 t0_1 t0_2 t0_3 t0_4 t0_5 t0_6)) (fun z => []) 63 0 0 ?_ ?_
        ·
          rintro _ H locs ls _ ⟨V, hl, hR27⟩
          replace hl : lv_has ls 2 [(0, .ref (q 47))] := hl
          refine lv_aload_n hx hb d_6_11_63 rfl (lv_at hl 0 rfl) ?_
          refine q_get (ci := 10) (j := 3) (v := .int t0_3) C0 V i_Dir rfl rfl hT0 (by decide) w_359 rfl d_6_11_64 ?_
          refine lv_iconst (v := (-1)) hx hb d_6_11_67 (by decide) ?_
          refine q_join (X := Unit) (fun z H locs ls _ => q_Wd D g (va_A ws sz) s ws H locs ∧ lv_has ls 2 [(0, .ref (q 47))] ∧ F_Dir_fault_J82 t0_0 t0_1 t0_2 t0_3 t0_4 t0_5 t0_6 = (F_Dir_fault t0_0 t0_1 t0_2 t0_3 t0_4 t0_5 t0_6)) (fun z => []) 82 0 0 ?_ ?_
          ·
            rintro _ H locs ls _ ⟨V, hl, hR34⟩
            replace hl : lv_has ls 2 [(0, .ref (q 47))] := hl
            refine lv_aload_n hx hb d_6_11_82 rfl (lv_at hl 0 rfl) ?_
            refine q_get (ci := 10) (j := 1) (v := .int t0_1) C0 V i_Dir rfl rfl hT0 (by decide) w_356 rfl d_6_11_83 ?_
            refine lv_aload_n hx hb d_6_11_86 rfl (lv_at hl 0 rfl) ?_
            refine q_goi V (q_runV (As := []) (rest := [.int t0_1]) (d := 6) (mc := 0) (ms := 0) (ci := 10) C0 V rfl LV_Dir_86 (X_Dir_possibleFlags l D g q ws   hI t0_0 t0_1 t0_2 t0_3 t0_4 t0_5 t0_6 hT0  _) rfl rfl hT0 rfl hl.1 rfl (Nat.le_of_ble_eq_true rfl) ⟨by decide, by decide⟩ ⟨Nat.le_of_ble_eq_true rfl, Nat.le_of_ble_eq_true rfl⟩ d_6_11_87) (fun a41 u39 H locs hp40 V => ?_)
            obtain ⟨rfl, b42, b43, hE44⟩ := hp40
            have e45 : a41 = (F_Dir_possibleFlags t0_0 t0_1 t0_2 t0_3 t0_4 t0_5 t0_6) := hE44
            clear b42
            clear b43
            refine lv_iconst (v := (-1)) hx hb d_6_11_90 (by decide) ?_
            refine lv_ixor hx hb d_6_11_91 ?_
            obtain ⟨a46, e47⟩ := q_nm (a41 ^^^ (-1) : Int32)
            refine q_ti (v := a46) e47 ?_
            refine lv_iand hx hb d_6_11_92 ?_
            obtain ⟨a48, e49⟩ := q_nm (t0_1 &&& a46 : Int32)
            refine q_ti (v := a48) e49 ?_
            refine lv_if_eq (tgt := 99) hx hb d_6_11_93 (by decide) (fun c50 => ?_) (fun c50 => ?_)
            ·
              refine lv_aload_n hx hb d_6_11_99 rfl (lv_at hl 0 rfl) ?_
              refine lv_bipush (v := 9) hx hb d_6_11_100 (by decide) ?_
              refine q_goi V (q_runV (As := [.int 9]) (rest := []) (d := 1) (mc := 0) (ms := 0) (ci := 10) C0 V rfl LV_Dir_68 (X_Dir_has l D g q ws  9 hI t0_0 t0_1 t0_2 t0_3 t0_4 t0_5 t0_6 hT0  _) rfl rfl hT0 rfl hl.1 rfl (Nat.le_of_ble_eq_true rfl) ⟨by decide, by decide⟩ ⟨Nat.le_of_ble_eq_true rfl, Nat.le_of_ble_eq_true rfl⟩ d_6_11_102) (fun a54 u52 H locs hp53 V => ?_)
              obtain ⟨rfl, b55, b56, hE57⟩ := hp53
              have e58 : a54 = (F_Dir_has (9 : Int32) t0_0 t0_1 t0_2 t0_3 t0_4 t0_5 t0_6) := hE57
              clear b55
              clear b56
              refine q_join (X := Unit) (fun z H locs ls _ => q_Wd D g (va_A ws sz) s ws H locs ∧ lv_has ls 2 [(0, .ref (q 47))] ∧ F_Dir_fault_J119 t0_0 t0_1 t0_2 t0_3 t0_4 t0_5 t0_6 = (F_Dir_fault t0_0 t0_1 t0_2 t0_3 t0_4 t0_5 t0_6)) (fun z => []) 119 0 0 ?_ ?_
              ·
                rintro _ H locs ls _ ⟨V, hl, hR61⟩
                replace hl : lv_has ls 2 [(0, .ref (q 47))] := hl
                refine lv_aload_n hx hb d_6_11_119 rfl (lv_at hl 0 rfl) ?_
                refine lv_iconst (v := 1) hx hb d_6_11_120 (by decide) ?_
                refine q_goi V (q_runV (As := [.int 1]) (rest := []) (d := 1) (mc := 0) (ms := 0) (ci := 10) C0 V rfl LV_Dir_68 (X_Dir_has l D g q ws  1 hI t0_0 t0_1 t0_2 t0_3 t0_4 t0_5 t0_6 hT0  _) rfl rfl hT0 rfl hl.1 rfl (Nat.le_of_ble_eq_true rfl) ⟨by decide, by decide⟩ ⟨Nat.le_of_ble_eq_true rfl, Nat.le_of_ble_eq_true rfl⟩ d_6_11_121) (fun a68 u66 H locs hp67 V => ?_)
                obtain ⟨rfl, b69, b70, hE71⟩ := hp67
                have e72 : a68 = (F_Dir_has (1 : Int32) t0_0 t0_1 t0_2 t0_3 t0_4 t0_5 t0_6) := hE71
                clear b69
                clear b70
                refine q_join (X := Unit) (fun z H locs ls _ => q_Wd D g (va_A ws sz) s ws H locs ∧ lv_has ls 2 [(0, .ref (q 47))] ∧ F_Dir_fault_J136 t0_0 t0_1 t0_2 t0_3 t0_4 t0_5 t0_6 = (F_Dir_fault t0_0 t0_1 t0_2 t0_3 t0_4 t0_5 t0_6)) (fun z => []) 136 0 0 ?_ ?_
                ·
                  rintro _ H locs ls _ ⟨V, hl, hR75⟩
                  replace hl : lv_has ls 2 [(0, .ref (q 47))] := hl
                  refine lv_aload_n hx hb d_6_11_136 rfl (lv_at hl 0 rfl) ?_
                  refine lv_iconst (v := 4) hx hb d_6_11_137 (by decide) ?_
                  refine q_goi V (q_runV (As := [.int 4]) (rest := []) (d := 1) (mc := 0) (ms := 0) (ci := 10) C0 V rfl LV_Dir_68 (X_Dir_has l D g q ws  4 hI t0_0 t0_1 t0_2 t0_3 t0_4 t0_5 t0_6 hT0  _) rfl rfl hT0 rfl hl.1 rfl (Nat.le_of_ble_eq_true rfl) ⟨by decide, by decide⟩ ⟨Nat.le_of_ble_eq_true rfl, Nat.le_of_ble_eq_true rfl⟩ d_6_11_138) (fun a82 u80 H locs hp81 V => ?_)
                  obtain ⟨rfl, b83, b84, hE85⟩ := hp81
                  have e86 : a82 = (F_Dir_has (4 : Int32) t0_0 t0_1 t0_2 t0_3 t0_4 t0_5 t0_6) := hE85
                  clear b83
                  clear b84
                  refine lv_if_eq (tgt := 158) hx hb d_6_11_141 (by decide) (fun c87 => ?_) (fun c87 => ?_)
                  ·
                    refine lv_iconst (v := 0) hx hb d_6_11_158 (by decide) ?_
                    refine lv_istore_n (lv' := [(1, .int 0), (0, .ref (q 47))]) hx hb d_6_11_159 rfl hl (by decide) rfl (fun ls hl => ?_)
                    refine lv_iload_n hx hb d_6_11_160 rfl (lv_at hl 0 rfl) ?_
                    refine lv_if_eq (tgt := 169) hx hb d_6_11_161 (by decide) (fun c89 => ?_) (fun c89 => absurd (by decide) c89)
                    refine lv_iconst (v := 0) hx hb d_6_11_169 (by decide) ?_
                    exact q_reti C0 V (⟨rfl, (show (0 : Int32).toInt ≤ 8 from (by have z7 : (0 : Int32).toInt = 0 := rfl; omega)), (show t0_6.toInt ≤ (0 : Int32).toInt from (by have z7 : (0 : Int32).toInt = 0 := rfl; have t1 : t0_6.toInt = 0 := b24; omega)), (show (0 : Int32) = (F_Dir_fault t0_0 t0_1 t0_2 t0_3 t0_4 t0_5 t0_6) from Eq.trans (by have c87x := c87; rw [e86] at c87x; rw [F_Dir_fault_J136.eq_1, if_pos c87x]) hR75)⟩) d_6_11_170
                  ·
                    refine lv_aload_n hx hb d_6_11_144 rfl (lv_at hl 0 rfl) ?_
                    refine lv_sipush (v := 128) hx hb d_6_11_145 (by decide) ?_
                    refine q_goi V (q_runV (As := [.int 128]) (rest := []) (d := 1) (mc := 0) (ms := 0) (ci := 10) C0 V rfl LV_Dir_68 (X_Dir_has l D g q ws  128 hI t0_0 t0_1 t0_2 t0_3 t0_4 t0_5 t0_6 hT0  _) rfl rfl hT0 rfl hl.1 rfl (Nat.le_of_ble_eq_true rfl) ⟨by decide, by decide⟩ ⟨Nat.le_of_ble_eq_true rfl, Nat.le_of_ble_eq_true rfl⟩ d_6_11_148) (fun a93 u91 H locs hp92 V => ?_)
                    obtain ⟨rfl, b94, b95, hE96⟩ := hp92
                    have e97 : a93 = (F_Dir_has (128 : Int32) t0_0 t0_1 t0_2 t0_3 t0_4 t0_5 t0_6) := hE96
                    clear b94
                    clear b95
                    refine lv_if_eq (tgt := 158) hx hb d_6_11_151 (by decide) (fun c98 => ?_) (fun c98 => ?_)
                    ·
                      refine lv_iconst (v := 0) hx hb d_6_11_158 (by decide) ?_
                      refine lv_istore_n (lv' := [(1, .int 0), (0, .ref (q 47))]) hx hb d_6_11_159 rfl hl (by decide) rfl (fun ls hl => ?_)
                      refine lv_iload_n hx hb d_6_11_160 rfl (lv_at hl 0 rfl) ?_
                      refine lv_if_eq (tgt := 169) hx hb d_6_11_161 (by decide) (fun c100 => ?_) (fun c100 => absurd (by decide) c100)
                      refine lv_iconst (v := 0) hx hb d_6_11_169 (by decide) ?_
                      exact q_reti C0 V (⟨rfl, (show (0 : Int32).toInt ≤ 8 from (by have z7 : (0 : Int32).toInt = 0 := rfl; omega)), (show t0_6.toInt ≤ (0 : Int32).toInt from (by have z7 : (0 : Int32).toInt = 0 := rfl; have t1 : t0_6.toInt = 0 := b24; omega)), (show (0 : Int32) = (F_Dir_fault t0_0 t0_1 t0_2 t0_3 t0_4 t0_5 t0_6) from Eq.trans (by have c87x := c87; rw [e86] at c87x; have c98x := c98; rw [e97] at c98x; rw [F_Dir_fault_J136.eq_1, if_neg c87x, if_pos c98x]) hR75)⟩) d_6_11_170
                    ·
                      refine lv_iconst (v := 1) hx hb d_6_11_154 (by decide) ?_
                      refine lv_goto (tgt := 159) hx hb d_6_11_155 (by decide) ?_
                      refine lv_istore_n (lv' := [(1, .int 1), (0, .ref (q 47))]) hx hb d_6_11_159 rfl hl (by decide) rfl (fun ls hl => ?_)
                      refine lv_iload_n hx hb d_6_11_160 rfl (lv_at hl 0 rfl) ?_
                      refine lv_if_eq (tgt := 169) hx hb d_6_11_161 (by decide) (fun c102 => absurd c102 (by decide)) (fun c102 => ?_)
                      refine lv_bipush (v := 8) hx hb d_6_11_164 (by decide) ?_
                      refine lv_goto (tgt := 170) hx hb d_6_11_166 (by decide) ?_
                      exact q_reti C0 V (⟨rfl, (show (8 : Int32).toInt ≤ 8 from (by have z7 : (8 : Int32).toInt = 8 := rfl; omega)), (show t0_6.toInt ≤ (8 : Int32).toInt from (by have z7 : (8 : Int32).toInt = 8 := rfl; have t1 : 0 ≤ t0_6.toInt ∧ t0_6.toInt ≤ 1 := btt0_6; omega)), (show (8 : Int32) = (F_Dir_fault t0_0 t0_1 t0_2 t0_3 t0_4 t0_5 t0_6) from Eq.trans (by have c87x := c87; rw [e86] at c87x; have c98x := c98; rw [e97] at c98x; rw [F_Dir_fault_J136.eq_1, if_neg c87x, if_neg c98x]) hR75)⟩) d_6_11_170
                ·
                  intro J74
                  refine lv_if_eq (tgt := 136) hx hb d_6_11_124 (by decide) (fun c103 => ?_) (fun c103 => ?_)
                  ·
                    exact J74 (()) _ _ _ ws ⟨V, q_lw hl (q_lw1 0 rfl q_lw0), (show F_Dir_fault_J136 t0_0 t0_1 t0_2 t0_3 t0_4 t0_5 t0_6 = (F_Dir_fault t0_0 t0_1 t0_2 t0_3 t0_4 t0_5 t0_6) from Eq.trans (by have c103x := c103; rw [e72] at c103x; rw [F_Dir_fault_J119.eq_1, if_pos c103x]) hR61)⟩
                  ·
                    refine lv_aload_n hx hb d_6_11_127 rfl (lv_at hl 0 rfl) ?_
                    refine lv_bipush (v := 8) hx hb d_6_11_128 (by decide) ?_
                    refine q_goi V (q_runV (As := [.int 8]) (rest := []) (d := 1) (mc := 0) (ms := 0) (ci := 10) C0 V rfl LV_Dir_68 (X_Dir_has l D g q ws  8 hI t0_0 t0_1 t0_2 t0_3 t0_4 t0_5 t0_6 hT0  _) rfl rfl hT0 rfl hl.1 rfl (Nat.le_of_ble_eq_true rfl) ⟨by decide, by decide⟩ ⟨Nat.le_of_ble_eq_true rfl, Nat.le_of_ble_eq_true rfl⟩ d_6_11_130) (fun a108 u106 H locs hp107 V => ?_)
                    obtain ⟨rfl, b109, b110, hE111⟩ := hp107
                    have e112 : a108 = (F_Dir_has (8 : Int32) t0_0 t0_1 t0_2 t0_3 t0_4 t0_5 t0_6) := hE111
                    clear b109
                    clear b110
                    refine lv_if_ne (tgt := 154) hx hb d_6_11_133 (by decide) (fun c113 => ?_) (fun c113 => ?_)
                    ·
                      refine lv_iconst (v := 1) hx hb d_6_11_154 (by decide) ?_
                      refine lv_goto (tgt := 159) hx hb d_6_11_155 (by decide) ?_
                      refine lv_istore_n (lv' := [(1, .int 1), (0, .ref (q 47))]) hx hb d_6_11_159 rfl hl (by decide) rfl (fun ls hl => ?_)
                      refine lv_iload_n hx hb d_6_11_160 rfl (lv_at hl 0 rfl) ?_
                      refine lv_if_eq (tgt := 169) hx hb d_6_11_161 (by decide) (fun c115 => absurd c115 (by decide)) (fun c115 => ?_)
                      refine lv_bipush (v := 8) hx hb d_6_11_164 (by decide) ?_
                      refine lv_goto (tgt := 170) hx hb d_6_11_166 (by decide) ?_
                      exact q_reti C0 V (⟨rfl, (show (8 : Int32).toInt ≤ 8 from (by have z7 : (8 : Int32).toInt = 8 := rfl; omega)), (show t0_6.toInt ≤ (8 : Int32).toInt from (by have z7 : (8 : Int32).toInt = 8 := rfl; have t1 : 0 ≤ t0_6.toInt ∧ t0_6.toInt ≤ 1 := btt0_6; omega)), (show (8 : Int32) = (F_Dir_fault t0_0 t0_1 t0_2 t0_3 t0_4 t0_5 t0_6) from Eq.trans (by have c103x := c103; rw [e72] at c103x; have c113x := c113; rw [e112] at c113x; rw [F_Dir_fault_J119.eq_1, if_neg c103x, if_neg c113x]) hR61)⟩) d_6_11_170
                    ·
                      exact J74 (()) _ _ _ ws ⟨V, q_lw hl (q_lw1 0 rfl q_lw0), (show F_Dir_fault_J136 t0_0 t0_1 t0_2 t0_3 t0_4 t0_5 t0_6 = (F_Dir_fault t0_0 t0_1 t0_2 t0_3 t0_4 t0_5 t0_6) from Eq.trans (by have c103x := c103; rw [e72] at c103x; have c113x := c113; rw [e112] at c113x; rw [F_Dir_fault_J119.eq_1, if_neg c103x, if_pos c113x]) hR61)⟩
              ·
                intro J60
                refine lv_if_eq (tgt := 119) hx hb d_6_11_105 (by decide) (fun c117 => ?_) (fun c117 => ?_)
                ·
                  exact J60 (()) _ _ _ ws ⟨V, q_lw hl (q_lw1 0 rfl q_lw0), (show F_Dir_fault_J119 t0_0 t0_1 t0_2 t0_3 t0_4 t0_5 t0_6 = (F_Dir_fault t0_0 t0_1 t0_2 t0_3 t0_4 t0_5 t0_6) from Eq.trans (by have c50x := c50; rw [← e49, ← e47, e45] at c50x; have c117x := c117; rw [e58] at c117x; rw [F_Dir_fault_J82.eq_1, if_pos c50x, if_pos c117x]) hR34)⟩
                ·
                  refine lv_aload_n hx hb d_6_11_108 rfl (lv_at hl 0 rfl) ?_
                  refine q_get (ci := 10) (j := 2) (v := .int t0_2) C0 V i_Dir rfl rfl hT0 (by decide) w_357 rfl d_6_11_109 ?_
                  refine lv_iconst (v := (-1)) hx hb d_6_11_112 (by decide) ?_
                  refine lv_icmp_ne (tgt := 119) hx hb d_6_11_113 (by decide) (fun c120 => ?_) (fun c120 => ?_)
                  ·
                    exact J60 (()) _ _ _ ws ⟨V, q_lw hl (q_lw1 0 rfl q_lw0), (show F_Dir_fault_J119 t0_0 t0_1 t0_2 t0_3 t0_4 t0_5 t0_6 = (F_Dir_fault t0_0 t0_1 t0_2 t0_3 t0_4 t0_5 t0_6) from Eq.trans (by have c50x := c50; rw [← e49, ← e47, e45] at c50x; have c117x := c117; rw [e58] at c117x; rw [F_Dir_fault_J82.eq_1, if_pos c50x, if_neg c117x, if_neg c120]) hR34)⟩
                  ·
                    refine lv_bipush (v := 7) hx hb d_6_11_116 (by decide) ?_
                    exact q_reti C0 V (⟨rfl, (show (7 : Int32).toInt ≤ 8 from (by have z7 : (7 : Int32).toInt = 7 := rfl; omega)), (show t0_6.toInt ≤ (7 : Int32).toInt from (by have z7 : (7 : Int32).toInt = 7 := rfl; have t1 : 0 ≤ t0_6.toInt ∧ t0_6.toInt ≤ 1 := btt0_6; omega)), (show (7 : Int32) = (F_Dir_fault t0_0 t0_1 t0_2 t0_3 t0_4 t0_5 t0_6) from Eq.trans (by have c50x := c50; rw [← e49, ← e47, e45] at c50x; have c117x := c117; rw [e58] at c117x; rw [F_Dir_fault_J82.eq_1, if_pos c50x, if_neg c117x, if_pos c120]) hR34)⟩) d_6_11_118
            ·
              refine lv_bipush (v := 6) hx hb d_6_11_96 (by decide) ?_
              exact q_reti C0 V (⟨rfl, (show (6 : Int32).toInt ≤ 8 from (by have z7 : (6 : Int32).toInt = 6 := rfl; omega)), (show t0_6.toInt ≤ (6 : Int32).toInt from (by have z7 : (6 : Int32).toInt = 6 := rfl; have t1 : 0 ≤ t0_6.toInt ∧ t0_6.toInt ≤ 1 := btt0_6; omega)), (show (6 : Int32) = (F_Dir_fault t0_0 t0_1 t0_2 t0_3 t0_4 t0_5 t0_6) from Eq.trans (by have c50x := c50; rw [← e49, ← e47, e45] at c50x; rw [F_Dir_fault_J82.eq_1, if_neg c50x]) hR34)⟩) d_6_11_98
          ·
            intro J33
            refine lv_icmp_eq (tgt := 82) hx hb d_6_11_68 (by decide) (fun c124 => ?_) (fun c124 => ?_)
            ·
              exact J33 (()) _ _ _ ws ⟨V, q_lw hl (q_lw1 0 rfl q_lw0), (show F_Dir_fault_J82 t0_0 t0_1 t0_2 t0_3 t0_4 t0_5 t0_6 = (F_Dir_fault t0_0 t0_1 t0_2 t0_3 t0_4 t0_5 t0_6) from Eq.trans (by rw [F_Dir_fault_J63.eq_1, if_pos c124]) hR27)⟩
            ·
              refine lv_aload_n hx hb d_6_11_71 rfl (lv_at hl 0 rfl) ?_
              refine q_ldcs (i := 2) C0 V rfl rfl d_6_11_72 ?_
              refine q_goi V (q_runV (As := [.ref (g (8 + 2 * 2))]) (rest := []) (d := 5) (mc := 0) (ms := 0) (ci := 10) C0 V rfl LV_Dir_80 (X_Dir_isOneOf_2 l D g q ws   hI t0_0 t0_1 t0_2 t0_3 t0_4 t0_5 t0_6 hT0  _) rfl rfl hT0 rfl hl.1 rfl (Nat.le_of_ble_eq_true rfl) ⟨by decide, by decide⟩ ⟨Nat.le_of_ble_eq_true rfl, Nat.le_of_ble_eq_true rfl⟩ d_6_11_74) (fun a129 u127 H locs hp128 V => ?_)
              obtain ⟨rfl, b130, b131, hE132⟩ := hp128
              have e133 : a129 = (F_Dir_isOneOf_2 t0_0 t0_1 t0_2 t0_3 t0_4 t0_5 t0_6) := hE132
              clear b130
              clear b131
              refine lv_if_eq (tgt := 82) hx hb d_6_11_77 (by decide) (fun c134 => ?_) (fun c134 => ?_)
              ·
                exact J33 (()) _ _ _ ws ⟨V, q_lw hl (q_lw1 0 rfl q_lw0), (show F_Dir_fault_J82 t0_0 t0_1 t0_2 t0_3 t0_4 t0_5 t0_6 = (F_Dir_fault t0_0 t0_1 t0_2 t0_3 t0_4 t0_5 t0_6) from Eq.trans (by have c134x := c134; rw [e133] at c134x; rw [F_Dir_fault_J63.eq_1, if_neg c124, if_pos c134x]) hR27)⟩
              ·
                refine lv_iconst (v := 5) hx hb d_6_11_80 (by decide) ?_
                exact q_reti C0 V (⟨rfl, (show (5 : Int32).toInt ≤ 8 from (by have z7 : (5 : Int32).toInt = 5 := rfl; omega)), (show t0_6.toInt ≤ (5 : Int32).toInt from (by have z7 : (5 : Int32).toInt = 5 := rfl; have t1 : 0 ≤ t0_6.toInt ∧ t0_6.toInt ≤ 1 := btt0_6; omega)), (show (5 : Int32) = (F_Dir_fault t0_0 t0_1 t0_2 t0_3 t0_4 t0_5 t0_6) from Eq.trans (by have c134x := c134; rw [e133] at c134x; rw [F_Dir_fault_J63.eq_1, if_neg c124, if_neg c134x]) hR27)⟩) d_6_11_81
        ·
          intro J26
          refine lv_icmp_ne (tgt := 63) hx hb d_6_11_35 (by decide) (fun c137 => ?_) (fun c137 => ?_)
          ·
            exact J26 (()) _ _ _ ws ⟨V, q_lw hl (q_lw1 0 rfl q_lw0), (show F_Dir_fault_J63 t0_0 t0_1 t0_2 t0_3 t0_4 t0_5 t0_6 = (F_Dir_fault t0_0 t0_1 t0_2 t0_3 t0_4 t0_5 t0_6) from (by have c21x := c21; rw [e20] at c21x; rw [F_Dir_fault.eq_1, if_pos c12, if_neg c21x, if_pos c23, if_neg c137]))⟩
          ·
            refine lv_aload_n hx hb d_6_11_38 rfl (lv_at hl 0 rfl) ?_
            refine q_get (ci := 10) (j := 2) (v := .int t0_2) C0 V i_Dir rfl rfl hT0 (by decide) w_357 rfl d_6_11_39 ?_
            refine lv_iconst (v := (-1)) hx hb d_6_11_42 (by decide) ?_
            refine lv_icmp_ne (tgt := 61) hx hb d_6_11_43 (by decide) (fun c140 => ?_) (fun c140 => ?_)
            ·
              refine lv_iconst (v := 4) hx hb d_6_11_61 (by decide) ?_
              exact q_reti C0 V (⟨rfl, (show (4 : Int32).toInt ≤ 8 from (by have z7 : (4 : Int32).toInt = 4 := rfl; omega)), (show t0_6.toInt ≤ (4 : Int32).toInt from (by have z7 : (4 : Int32).toInt = 4 := rfl; have t1 : 0 ≤ t0_6.toInt ∧ t0_6.toInt ≤ 1 := btt0_6; omega)), (show (4 : Int32) = (F_Dir_fault t0_0 t0_1 t0_2 t0_3 t0_4 t0_5 t0_6) from (by have c21x := c21; rw [e20] at c21x; rw [F_Dir_fault.eq_1, if_pos c12, if_neg c21x, if_pos c23, if_pos c137, if_neg c140]))⟩) d_6_11_62
            ·
              refine lv_aload_n hx hb d_6_11_46 rfl (lv_at hl 0 rfl) ?_
              refine q_get (ci := 10) (j := 3) (v := .int t0_3) C0 V i_Dir rfl rfl hT0 (by decide) w_359 rfl d_6_11_47 ?_
              refine lv_iconst (v := (-1)) hx hb d_6_11_50 (by decide) ?_
              refine lv_icmp_ne (tgt := 61) hx hb d_6_11_51 (by decide) (fun c143 => ?_) (fun c143 => ?_)
              ·
                refine lv_iconst (v := 4) hx hb d_6_11_61 (by decide) ?_
                exact q_reti C0 V (⟨rfl, (show (4 : Int32).toInt ≤ 8 from (by have z7 : (4 : Int32).toInt = 4 := rfl; omega)), (show t0_6.toInt ≤ (4 : Int32).toInt from (by have z7 : (4 : Int32).toInt = 4 := rfl; have t1 : 0 ≤ t0_6.toInt ∧ t0_6.toInt ≤ 1 := btt0_6; omega)), (show (4 : Int32) = (F_Dir_fault t0_0 t0_1 t0_2 t0_3 t0_4 t0_5 t0_6) from (by have c21x := c21; rw [e20] at c21x; rw [F_Dir_fault.eq_1, if_pos c12, if_neg c21x, if_pos c23, if_pos c137, if_pos c140, if_neg c143]))⟩) d_6_11_62
              ·
                refine lv_aload_n hx hb d_6_11_54 rfl (lv_at hl 0 rfl) ?_
                refine q_get (ci := 10) (j := 1) (v := .int t0_1) C0 V i_Dir rfl rfl hT0 (by decide) w_356 rfl d_6_11_55 ?_
                refine lv_if_eq (tgt := 63) hx hb d_6_11_58 (by decide) (fun c146 => ?_) (fun c146 => ?_)
                ·
                  exact J26 (()) _ _ _ ws ⟨V, q_lw hl (q_lw1 0 rfl q_lw0), (show F_Dir_fault_J63 t0_0 t0_1 t0_2 t0_3 t0_4 t0_5 t0_6 = (F_Dir_fault t0_0 t0_1 t0_2 t0_3 t0_4 t0_5 t0_6) from (by have c21x := c21; rw [e20] at c21x; rw [F_Dir_fault.eq_1, if_pos c12, if_neg c21x, if_pos c23, if_pos c137, if_pos c140, if_pos c143, if_pos c146]))⟩
                ·
                  refine lv_iconst (v := 4) hx hb d_6_11_61 (by decide) ?_
                  exact q_reti C0 V (⟨rfl, (show (4 : Int32).toInt ≤ 8 from (by have z7 : (4 : Int32).toInt = 4 := rfl; omega)), (show t0_6.toInt ≤ (4 : Int32).toInt from (by have z7 : (4 : Int32).toInt = 4 := rfl; have t1 : 0 ≤ t0_6.toInt ∧ t0_6.toInt ≤ 1 := btt0_6; omega)), (show (4 : Int32) = (F_Dir_fault t0_0 t0_1 t0_2 t0_3 t0_4 t0_5 t0_6) from (by have c21x := c21; rw [e20] at c21x; rw [F_Dir_fault.eq_1, if_pos c12, if_neg c21x, if_pos c23, if_pos c137, if_pos c140, if_pos c143, if_neg c146]))⟩) d_6_11_62
      ·
        refine lv_iconst (v := 3) hx hb d_6_11_27 (by decide) ?_
        exact q_reti C0 V (⟨rfl, (show (3 : Int32).toInt ≤ 8 from (by have z7 : (3 : Int32).toInt = 3 := rfl; omega)), (show t0_6.toInt ≤ (3 : Int32).toInt from (by have z7 : (3 : Int32).toInt = 3 := rfl; have t1 : 0 ≤ t0_6.toInt ∧ t0_6.toInt ≤ 1 := btt0_6; omega)), (show (3 : Int32) = (F_Dir_fault t0_0 t0_1 t0_2 t0_3 t0_4 t0_5 t0_6) from (by have c21x := c21; rw [e20] at c21x; rw [F_Dir_fault.eq_1, if_pos c12, if_neg c21x, if_neg c23]))⟩) d_6_11_28
    ·
      refine lv_iconst (v := 2) hx hb d_6_11_18 (by decide) ?_
      exact q_reti C0 V (⟨rfl, (show (2 : Int32).toInt ≤ 8 from (by have z7 : (2 : Int32).toInt = 2 := rfl; omega)), (show t0_6.toInt ≤ (2 : Int32).toInt from (by have z7 : (2 : Int32).toInt = 2 := rfl; have t1 : 0 ≤ t0_6.toInt ∧ t0_6.toInt ≤ 1 := btt0_6; omega)), (show (2 : Int32) = (F_Dir_fault t0_0 t0_1 t0_2 t0_3 t0_4 t0_5 t0_6) from (by have c21x := c21; rw [e20] at c21x; rw [F_Dir_fault.eq_1, if_pos c12, if_pos c21x]))⟩) d_6_11_19
  ·
    refine lv_iconst (v := 1) hx hb d_6_11_7 (by decide) ?_
    exact q_reti C0 V (⟨rfl, (show (1 : Int32).toInt ≤ 8 from (by have z7 : (1 : Int32).toInt = 1 := rfl; omega)), (show t0_6.toInt ≤ (1 : Int32).toInt from (by have z7 : (1 : Int32).toInt = 1 := rfl; have t1 : 0 ≤ t0_6.toInt ∧ t0_6.toInt ≤ 1 := btt0_6; omega)), (show (1 : Int32) = (F_Dir_fault t0_0 t0_1 t0_2 t0_3 t0_4 t0_5 t0_6) from (by rw [F_Dir_fault.eq_1, if_neg c12]))⟩) d_6_11_8

