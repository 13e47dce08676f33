/-! Writer, exactly -/
def F_Wri_begin_p_c17 (x2 : Int32) (t0_0 : Int32) (t1_0 : (Nat → Int64)) (p29 : (Int32 × (Nat → Int64))) : Int32 × (Nat → Int64) := ((p29.1 : Int32), (p29.2 : (Nat → Int64)))
def F_Wri_begin_p (x2 : Int32) (t0_0 : Int32) (t1_0 : (Nat → Int64)) : Int32 × (Nat → Int64) := if x2 = (0 : Int32) then ((((F_She_clear (11008 : Int32) (1376 : Int32) (1000000 : Int32) t0_0) : Int32), t1_0)) else (F_Wri_begin_p_c17 x2 t0_0 t1_0 ((F_She_add_p (11008 : Int32) (1376 : Int32) (1000000 : Int32) (45 : Int32) ((F_She_clear (11008 : Int32) (1376 : Int32) (1000000 : Int32) t0_0) : Int32) t1_0) : (Int32 × (Nat → Int64))))
set_option maxRecDepth 100000 in
set_option maxHeartbeats 4000000 in
theorem X_Wri_begin_p (l : Launch) (D : va_G) (g : Nat → ClassId) (q : Nat → Nat) (ws : va_W) (x2 : Int32) (hI : q_I (nsh g q) q ws) (t0_0 : Int32) (hT0 : ws[3]? = (some (q 3, .inr (1, [.ref (q 4), .int 11008, .int t0_0])) : Option (Nat × va_E))) (t1_0 : (Nat → Int64)) (hT1 : ws[4]? = (some (q 4, .inl (g 1, (1376 : Int32).toNatClampNeg, .inr (.inl t1_0))) : Option (Nat × va_E))) (hzx2 : 0 ≤ x2.toInt ∧ x2.toInt ≤ 1) : q_mV l y_Wri_begin prog_12_method_11_code 2 2 0 0 D g [.ref (q 39), .int x2] ws (fun u => q_I (nsh g q) q u ∧ q_un ws u [3, 4] ∧ ∃ (u0_0 : Int32) (u1_0 : (Nat → Int64)), u[3]? = (some (q 3, .inr (1, [.ref (q 4), .int 11008, .int u0_0])) : Option (Nat × va_E)) ∧ u[4]? = (some (q 4, .inl (g 1, (1376 : Int32).toNatClampNeg, .inr (.inl u1_0))) : Option (Nat × va_E)) ∧ (x2.toInt ≤ u0_0.toInt) ∧ (u0_0.toInt ≤ x2.toInt) ∧ (u0_0, u1_0) = (F_Wri_begin_p x2 t0_0 t1_0)) := by
  intro sz
  refine q_into (by decide) (Nat.le_of_ble_eq_true rfl) ?_
  intro p e s m below meth c ls hsz C0 V hl
  have hx := C0.1
  have hb := C0.2.1
  replace hzx2 : q_F (0 ≤ x2.toInt ∧ x2.toInt ≤ 1) := hzx2
  obtain ⟨yy0_0, hh0, btt0_0⟩ := n_shO hI (n_h3 g q)
  obtain ⟨rfl⟩ : t0_0 = yy0_0 := by have z := Option.some.inj (hT0.symm.trans hh0); simpa using z
  replace btt0_0 : q_F (0 ≤ t0_0.toInt ∧ t0_0.toInt ≤ 1000000) := btt0_0
  have hF : q_un ws ws [3, 4] := q_u0
  have hl : lv_has ls 2 [(0, .ref (q 39)), (1, .int x2)] := hl
  refine lv_aload_n hx hb d_12_11_0 rfl (lv_at hl 0 rfl) ?_
  have hO6 := n_o39 hI
  refine q_get (ci := 9) (j := 0) (v := .ref (q 3)) C0 V i_Wri rfl rfl hO6 (by decide) w_329 rfl d_12_11_1 ?_
  refine q_gov V (q_runV (As := []) (rest := []) (d := 1) (mc := 0) (ms := 0) (ci := 1) C0 V rfl LV_Wri_201 (X_She_clear l D g q ws 3 11008 1376 1000000 (n_h3 g q)  hI t0_0 hT0  _) rfl rfl hT0 rfl hl.1 rfl (Nat.le_of_ble_eq_true rfl) ⟨by decide, by decide⟩ ⟨Nat.le_of_ble_eq_true rfl, Nat.le_of_ble_eq_true rfl⟩ d_12_11_4) (fun u7 H locs hp8 V => ?_)
  obtain ⟨hI, hu14, y10, hO9, b11, b12, hE13⟩ := hp8
  replace hO9 : u7[3]? = (some (q 3, .inr (1, [.ref (q 4), .int 11008, .int y10])) : Option (Nat × va_E)) := hO9
  have e15 : y10 = (F_She_clear (11008 : Int32) (1376 : Int32) (1000000 : Int32) t0_0) := hE13
  replace b11 : q_F (0 ≤ y10.toInt) := b11
  replace b12 : q_F (y10.toInt ≤ 0) := b12
  replace hT1 := (hu14 _ (by decide)).trans hT1
  replace hO6 := (hu14 _ (by decide)).trans hO6
  replace hF := q_uc hF hu14 (by simp)
  refine lv_iload_n hx hb d_12_11_7 rfl (lv_at hl 1 rfl) ?_
  refine lv_if_eq (tgt := 20) hx hb d_12_11_8 (by decide) (fun c16 => ?_) (fun c16 => ?_)
  ·
    have b17 : q_F (x2.toInt = 0) := (q_eqI c16)
    exact q_retv C0 V (⟨hI, hF, y10, t1_0, hO9, hT1, (show x2.toInt ≤ y10.toInt from (by have t1 : 0 ≤ y10.toInt := b11; have t2 : x2.toInt = 0 := b17; omega)), (show y10.toInt ≤ x2.toInt from (by have t1 : 0 ≤ x2.toInt ∧ x2.toInt ≤ 1 := hzx2; have t2 : y10.toInt ≤ 0 := b12; omega)), (show (y10, t1_0) = (F_Wri_begin_p x2 t0_0 t1_0) from (by rw [e15, F_Wri_begin_p.eq_1, if_pos c16]))⟩) d_12_11_20
  ·
    have b18 : q_F (x2.toInt ≠ 0) := (q_neI c16)
    refine lv_aload_n hx hb d_12_11_11 rfl (lv_at hl 0 rfl) ?_
    refine q_get (ci := 9) (j := 0) (v := .ref (q 3)) C0 V i_Wri rfl rfl hO6 (by decide) w_329 rfl d_12_11_12 ?_
    refine lv_bipush (v := 45) hx hb d_12_11_15 (by decide) ?_
    refine q_gov V (q_runV (As := [.int 45]) (rest := []) (d := 1) (mc := 0) (ms := 0) (ci := 1) C0 V rfl LV_Wri_62 (X_She_add_p l D g q u7 3 11008 1376 1000000 (n_h3 g q) 45 hI y10 hO9 t1_0 hT1 (by have y0 : (11008 : Int32).toInt = 11008 := rfl; have y1 : (1376 : Int32).toInt = 1376 := rfl; have y2 : (1000000 : Int32).toInt = 1000000 := rfl; have y3 : (45 : Int32).toInt = 45 := rfl; have t1 : y10.toInt ≤ 0 := b12; omega) _) rfl rfl hO9 rfl hl.1 rfl (Nat.le_of_ble_eq_true rfl) ⟨by decide, by decide⟩ ⟨Nat.le_of_ble_eq_true rfl, Nat.le_of_ble_eq_true rfl⟩ d_12_11_17) (fun u19 H locs hp20 V => ?_)
    obtain ⟨hI, hu28, y22, f23, hO21, hA24, b25, b26, hE27⟩ := hp20
    replace hO21 : u19[3]? = (some (q 3, .inr (1, [.ref (q 4), .int 11008, .int y22])) : Option (Nat × va_E)) := hO21
    replace hA24 : u19[4]? = (some (q 4, .inl (g 1, (1376 : Int32).toNatClampNeg, .inr (.inl f23))) : Option (Nat × va_E)) := hA24
    obtain ⟨p29, e30⟩ : ∃ z, z = (F_She_add_p (11008 : Int32) (1376 : Int32) (1000000 : Int32) (45 : Int32) y10 t1_0) := ⟨_, rfl⟩
    have e31 : y22 = p29.1 := congrArg (fun z => z.1) (hE27.trans e30.symm)
    have e32 : f23 = p29.2 := congrArg (fun z => z.2) (hE27.trans e30.symm)
    replace b25 : q_F (y10.toInt + 1 ≤ y22.toInt) := b25
    replace b26 : q_F (y22.toInt ≤ y10.toInt + 1) := b26
    replace hO6 := (hu28 _ (by decide)).trans hO6
    replace hF := q_uc hF hu28 (by simp)
    have hR33 := (show F_Wri_begin_p_c17 x2 t0_0 t1_0 p29 = (F_Wri_begin_p x2 t0_0 t1_0) from (by rw [e30, e15, F_Wri_begin_p.eq_1, if_neg c16]))
    exact q_retv C0 V (⟨hI, hF, y22, f23, hO21, hA24, (show x2.toInt ≤ y22.toInt from (by have t1 : 0 ≤ x2.toInt ∧ x2.toInt ≤ 1 := hzx2; have t2 : 0 ≤ y10.toInt := b11; have t3 : y10.toInt + 1 ≤ y22.toInt := b25; omega)), (show y22.toInt ≤ x2.toInt from (by have t1 : 0 ≤ x2.toInt ∧ x2.toInt ≤ 1 := hzx2; have t2 : y10.toInt ≤ 0 := b12; have t3 : x2.toInt ≠ 0 := b18; have t4 : y22.toInt ≤ y10.toInt + 1 := b26; omega)), (show (y22, f23) = (F_Wri_begin_p x2 t0_0 t1_0) from Eq.trans (by rw [e32, e31, F_Wri_begin_p_c17.eq_1]) hR33)⟩) d_12_11_20
theorem d_12_5_0 : decode prog_12_method_5_code 0 = .ok (.aload_n 0, 1) := by decide +kernel
theorem d_12_5_1 : decode prog_12_method_5_code 1 = .ok (.getfield 7, 3) := by decide +kernel
theorem d_12_5_4 : decode prog_12_method_5_code 4 = .ok (.bipush 69, 2) := by decide +kernel
theorem d_12_5_6 : decode prog_12_method_5_code 6 = .ok (.invokevirtual 62, 3) := by decide +kernel
theorem d_12_5_9 : decode prog_12_method_5_code 9 = .ok (.aload_n 0, 1) := by decide +kernel
theorem d_12_5_10 : decode prog_12_method_5_code 10 = .ok (.getfield 7, 3) := by decide +kernel
theorem d_12_5_13 : decode prog_12_method_5_code 13 = .ok (.iload_n 1, 1) := by decide +kernel
theorem d_12_5_14 : decode prog_12_method_5_code 14 = .ok (.ifCond .ge 8, 3) := by decide +kernel
theorem d_12_5_22 : decode prog_12_method_5_code 22 = .ok (.bipush 43, 2) := by decide +kernel
theorem d_12_5_24 : decode prog_12_method_5_code 24 = .ok (.invokevirtual 62, 3) := by decide +kernel
theorem d_12_5_27 : decode prog_12_method_5_code 27 = .ok (.aload_n 0, 1) := by decide +kernel
theorem d_12_5_28 : decode prog_12_method_5_code 28 = .ok (.getfield 7, 3) := by decide +kernel
theorem d_12_5_31 : decode prog_12_method_5_code 31 = .ok (.iload_n 1, 1) := by decide +kernel
theorem d_12_5_32 : decode prog_12_method_5_code 32 = .ok (.iconst 1, 1) := by decide +kernel
theorem d_12_5_33 : decode prog_12_method_5_code 33 = .ok (.invokevirtual 115, 3) := by decide +kernel
set_option maxRecDepth 100000 in
theorem w_1582 : (Cond.methodLink "NumberHouse$Writer" (115 : Nat) ({ cls := "NumberHouse$Sheet", name := "addPower", desc := "(II)V" } : MethodName)) ∈ q_tbl := q_of7 142 rfl (by decide +kernel)
theorem LV_Wri_115 : q_LV "NumberHouse$Writer" 115 y_She_addPower prog_11_method_6_code 6 none 2 := ⟨w_1585, w_2, w_1582, w_1583, w_1584, ⟨by decide, by decide, by decide +kernel⟩⟩
theorem d_12_5_36 : decode prog_12_method_5_code 36 = .ok (.return_, 1) := by decide +kernel
theorem d_12_5_17 : decode prog_12_method_5_code 17 = .ok (.bipush 45, 2) := by decide +kernel
theorem d_12_5_19 : decode prog_12_method_5_code 19 = .ok (.goto 5, 3) := by decide +kernel
def y_Wri_writePower : MethodName := ⟨"NumberHouse$Writer", "writePower", "(I)V"⟩
def F_Wri_writePower_c33 (x2 : Int32) (t0_0 : Int32) (t1_0 : (Nat → Int64)) (p17 : (Int32 × (Nat → Int64))) (p38 : (Int32 × (Nat → Int64))) (p57 : (Int32 × (Nat → Int64))) : Int32 × (Nat → Int64) := ((p57.1 : Int32), (p57.2 : (Nat → Int64)))
def F_Wri_writePower_c24 (x2 : Int32) (t0_0 : Int32) (t1_0 : (Nat → Int64)) (p17 : (Int32 × (Nat → Int64))) (p38 : (Int32 × (Nat → Int64))) : Int32 × (Nat → Int64) := F_Wri_writePower_c33 x2 t0_0 t1_0 p17 p38 ((F_She_addPower_p (11008 : Int32) (1376 : Int32) (1000000 : Int32) x2 (1 : Int32) (p38.1 : Int32) (p38.2 : (Nat → Int64))) : (Int32 × (Nat → Int64)))
def F_Wri_writePower_c33_5 (x2 : Int32) (t0_0 : Int32) (t1_0 : (Nat → Int64)) (p17 : (Int32 × (Nat → Int64))) (p77 : (Int32 × (Nat → Int64))) (p96 : (Int32 × (Nat → Int64))) : Int32 × (Nat → Int64) := ((p96.1 : Int32), (p96.2 : (Nat → Int64)))
def F_Wri_writePower_c24_4 (x2 : Int32) (t0_0 : Int32) (t1_0 : (Nat → Int64)) (p17 : (Int32 × (Nat → Int64))) (p77 : (Int32 × (Nat → Int64))) : Int32 × (Nat → Int64) := F_Wri_writePower_c33_5 x2 t0_0 t1_0 p17 p77 ((F_She_addPower_p (11008 : Int32) (1376 : Int32) (1000000 : Int32) x2 (1 : Int32) (p77.1 : Int32) (p77.2 : (Nat → Int64))) : (Int32 × (Nat → Int64)))
def F_Wri_writePower_c6 (x2 : Int32) (t0_0 : Int32) (t1_0 : (Nat → Int64)) (p17 : (Int32 × (Nat → Int64))) : Int32 × (Nat → Int64) := if (0 : Int32) ≤ x2 then (F_Wri_writePower_c24 x2 t0_0 t1_0 p17 ((F_She_add_p (11008 : Int32) (1376 : Int32) (1000000 : Int32) (43 : Int32) (p17.1 : Int32) (p17.2 : (Nat → Int64))) : (Int32 × (Nat → Int64)))) else (F_Wri_writePower_c24_4 x2 t0_0 t1_0 p17 ((F_She_add_p (11008 : Int32) (1376 : Int32) (1000000 : Int32) (45 : Int32) (p17.1 : Int32) (p17.2 : (Nat → Int64))) : (Int32 × (Nat → Int64))))
def F_Wri_writePower (x2 : Int32) (t0_0 : Int32) (t1_0 : (Nat → Int64)) : Int32 × (Nat → Int64) := F_Wri_writePower_c6 x2 t0_0 t1_0 ((F_She_add_p (11008 : Int32) (1376 : Int32) (1000000 : Int32) (69 : Int32) t0_0 t1_0) : (Int32 × (Nat → Int64)))
set_option maxRecDepth 100000 in
set_option maxHeartbeats 4000000 in
theorem X_Wri_writePower (l : Launch) (D : va_G) (g : Nat → ClassId) (q : Nat → Nat) (ws : va_W) (x2 : Int32) (hI : q_I (nsh g q) q ws) (t0_0 : Int32) (hT0 : ws[3]? = (some (q 3, .inr (1, [.ref (q 4), .int 11008, .int t0_0])) : Option (Nat × va_E))) (t1_0 : (Nat → Int64)) (hT1 : ws[4]? = (some (q 4, .inl (g 1, (1376 : Int32).toNatClampNeg, .inr (.inl t1_0))) : Option (Nat × va_E))) (pre0 : t0_0.toInt ≤ 500000) (pre1 : 0 ≤ x2.toInt + 2147483647) : q_mV l y_Wri_writePower prog_12_method_5_code 2 3 0 0 D g [.ref (q 39), .int x2] ws (fun u => q_I (nsh g q) q u ∧ q_un ws u [3, 4] ∧ ∃ (u0_0 : Int32) (u1_0 : (Nat → Int64)), u[3]? = (some (q 3, .inr (1, [.ref (q 4), .int 11008, .int u0_0])) : Option (Nat × va_E)) ∧ u[4]? = (some (q 4, .inl (g 1, (1376 : Int32).toNatClampNeg, .inr (.inl u1_0))) : Option (Nat × va_E)) ∧ (t0_0.toInt + 2 ≤ u0_0.toInt) ∧ (u0_0.toInt ≤ t0_0.toInt + 7) ∧ (u0_0, u1_0) = (F_Wri_writePower x2 t0_0 t1_0)) := by
  intro sz
  refine q_into (by decide) (Nat.le_of_ble_eq_true rfl) ?_
  intro p e s m below meth c ls hsz C0 V hl
  have hx := C0.1
  have hb := C0.2.1
  obtain ⟨yy0_0, hh0, btt0_0⟩ := n_shO hI (n_h3 g q)
  obtain ⟨rfl⟩ : t0_0 = yy0_0 := by have z := Option.some.inj (hT0.symm.trans hh0); simpa using z
  replace btt0_0 : q_F (0 ≤ t0_0.toInt ∧ t0_0.toInt ≤ 1000000) := btt0_0
  replace pre0 : q_F (t0_0.toInt ≤ 500000) := pre0
  replace pre1 : q_F (0 ≤ x2.toInt + 2147483647) := pre1
  have hF : q_un ws ws [3, 4] := q_u0
  have hl : lv_has ls 2 [(0, .ref (q 39)), (1, .int x2)] := hl
  refine lv_aload_n hx hb d_12_5_0 rfl (lv_at hl 0 rfl) ?_
  have hO6 := n_o39 hI
  refine q_get (ci := 9) (j := 0) (v := .ref (q 3)) C0 V i_Wri rfl rfl hO6 (by decide) w_329 rfl d_12_5_1 ?_
  refine lv_bipush (v := 69) hx hb d_12_5_4 (by decide) ?_
  refine q_gov V (q_runV (As := [.int 69]) (rest := []) (d := 1) (mc := 0) (ms := 0) (ci := 1) C0 V rfl LV_Wri_62 (X_She_add_p l D g q ws 3 11008 1376 1000000 (n_h3 g q) 69 hI t0_0 hT0 t1_0 hT1 (by have y0 : (11008 : Int32).toInt = 11008 := rfl; have y1 : (1376 : Int32).toInt = 1376 := rfl; have y2 : (1000000 : Int32).toInt = 1000000 := rfl; have y3 : (69 : Int32).toInt = 69 := rfl; have t1 : t0_0.toInt ≤ 500000 := pre0; omega) _) rfl rfl hT0 rfl hl.1 rfl (Nat.le_of_ble_eq_true rfl) ⟨by decide, by decide⟩ ⟨Nat.le_of_ble_eq_true rfl, Nat.le_of_ble_eq_true rfl⟩ d_12_5_6) (fun u7 H locs hp8 V => ?_)
  obtain ⟨hI, hu16, y10, f11, hO9, hA12, b13, b14, hE15⟩ := hp8
  replace hO9 : u7[3]? = (some (q 3, .inr (1, [.ref (q 4), .int 11008, .int y10])) : Option (Nat × va_E)) := hO9
  replace hA12 : u7[4]? = (some (q 4, .inl (g 1, (1376 : Int32).toNatClampNeg, .inr (.inl f11))) : Option (Nat × va_E)) := hA12
  obtain ⟨p17, e18⟩ : ∃ z, z = (F_She_add_p (11008 : Int32) (1376 : Int32) (1000000 : Int32) (69 : Int32) t0_0 t1_0) := ⟨_, rfl⟩
  have e19 : y10 = p17.1 := congrArg (fun z => z.1) (hE15.trans e18.symm)
  have e20 : f11 = p17.2 := congrArg (fun z => z.2) (hE15.trans e18.symm)
  replace b13 : q_F (t0_0.toInt + 1 ≤ y10.toInt) := b13
  replace b14 : q_F (y10.toInt ≤ t0_0.toInt + 1) := b14
  replace hO6 := (hu16 _ (by decide)).trans hO6
  replace hF := q_uc hF hu16 (by simp)
  have hR21 := (show F_Wri_writePower_c6 x2 t0_0 t1_0 p17 = (F_Wri_writePower x2 t0_0 t1_0) from (by rw [e18, F_Wri_writePower.eq_1]))
  refine lv_aload_n hx hb d_12_5_9 rfl (lv_at hl 0 rfl) ?_
  refine q_get (ci := 9) (j := 0) (v := .ref (q 3)) C0 V i_Wri rfl rfl hO6 (by decide) w_329 rfl d_12_5_10 ?_
  refine lv_iload_n hx hb d_12_5_13 rfl (lv_at hl 1 rfl) ?_
  refine lv_if_ge (tgt := 22) hx hb d_12_5_14 (by decide) (fun c26 => ?_) (fun c26 => ?_)
  ·
    have b27 : q_F (0 ≤ x2.toInt) := (q_leI c26)
    refine lv_bipush (v := 43) hx hb d_12_5_22 (by decide) ?_
    refine q_gov V (q_runV (As := [.int 43]) (rest := []) (d := 1) (mc := 0) (ms := 0) (ci := 1) C0 V rfl LV_Wri_62 (X_She_add_p l D g q u7 3 11008 1376 1000000 (n_h3 g q) 43 hI y10 hO9 f11 hA12 (by have y0 : (11008 : Int32).toInt = 11008 := rfl; have y1 : (1376 : Int32).toInt = 1376 := rfl; have y2 : (1000000 : Int32).toInt = 1000000 := rfl; have y3 : (43 : Int32).toInt = 43 := rfl; have t1 : t0_0.toInt ≤ 500000 := pre0; have t2 : y10.toInt ≤ t0_0.toInt + 1 := b14; omega) _) rfl rfl hO9 rfl hl.1 rfl (Nat.le_of_ble_eq_true rfl) ⟨by decide, by decide⟩ ⟨Nat.le_of_ble_eq_true rfl, Nat.le_of_ble_eq_true rfl⟩ d_12_5_24) (fun u28 H locs hp29 V => ?_)
    obtain ⟨hI, hu37, y31, f32, hO30, hA33, b34, b35, hE36⟩ := hp29
    replace hO30 : u28[3]? = (some (q 3, .inr (1, [.ref (q 4), .int 11008, .int y31])) : Option (Nat × va_E)) := hO30
    replace hA33 : u28[4]? = (some (q 4, .inl (g 1, (1376 : Int32).toNatClampNeg, .inr (.inl f32))) : Option (Nat × va_E)) := hA33
    obtain ⟨p38, e39⟩ : ∃ z, z = (F_She_add_p (11008 : Int32) (1376 : Int32) (1000000 : Int32) (43 : Int32) y10 f11) := ⟨_, rfl⟩
    have e40 : y31 = p38.1 := congrArg (fun z => z.1) (hE36.trans e39.symm)
    have e41 : f32 = p38.2 := congrArg (fun z => z.2) (hE36.trans e39.symm)
    replace b34 : q_F (y10.toInt + 1 ≤ y31.toInt) := b34
    replace b35 : q_F (y31.toInt ≤ y10.toInt + 1) := b35
    replace hO6 := (hu37 _ (by decide)).trans hO6
    replace hF := q_uc hF hu37 (by simp)
    have hR42 := (show F_Wri_writePower_c24 x2 t0_0 t1_0 p17 p38 = (F_Wri_writePower x2 t0_0 t1_0) from Eq.trans (by rw [e39, e20, e19, F_Wri_writePower_c6.eq_1, if_pos c26]) hR21)
    refine lv_aload_n hx hb d_12_5_27 rfl (lv_at hl 0 rfl) ?_
    refine q_get (ci := 9) (j := 0) (v := .ref (q 3)) C0 V i_Wri rfl rfl hO6 (by decide) w_329 rfl d_12_5_28 ?_
    refine lv_iload_n hx hb d_12_5_31 rfl (lv_at hl 1 rfl) ?_
    refine lv_iconst (v := 1) hx hb d_12_5_32 (by decide) ?_
    refine q_gov V (q_runV (As := [.int x2, .int 1]) (rest := []) (d := 2) (mc := 0) (ms := 0) (ci := 1) C0 V rfl LV_Wri_115 (X_She_addPower_p l D g q u28 3 11008 1376 1000000 (n_h3 g q) x2 1 hI y31 hO30 f32 hA33 (by have y0 : (11008 : Int32).toInt = 11008 := rfl; have y1 : (1376 : Int32).toInt = 1376 := rfl; have y2 : (1000000 : Int32).toInt = 1000000 := rfl; have y3 : (1 : Int32).toInt = 1 := rfl; have t1 : t0_0.toInt ≤ 500000 := pre0; have t2 : y10.toInt ≤ t0_0.toInt + 1 := b14; have t3 : y31.toInt ≤ y10.toInt + 1 := b35; omega) (by have y0 : (11008 : Int32).toInt = 11008 := rfl; have y1 : (1376 : Int32).toInt = 1376 := rfl; have y2 : (1000000 : Int32).toInt = 1000000 := rfl; have y3 : (1 : Int32).toInt = 1 := rfl; have t1 : 0 ≤ x2.toInt + 2147483647 := pre1; omega) _) rfl rfl hO30 rfl hl.1 rfl (Nat.le_of_ble_eq_true rfl) ⟨by decide, by decide⟩ ⟨Nat.le_of_ble_eq_true rfl, Nat.le_of_ble_eq_true rfl⟩ d_12_5_33) (fun u47 H locs hp48 V => ?_)
    obtain ⟨hI, hu56, y50, f51, hO49, hA52, b53, b54, hE55⟩ := hp48
    replace hO49 : u47[3]? = (some (q 3, .inr (1, [.ref (q 4), .int 11008, .int y50])) : Option (Nat × va_E)) := hO49
    replace hA52 : u47[4]? = (some (q 4, .inl (g 1, (1376 : Int32).toNatClampNeg, .inr (.inl f51))) : Option (Nat × va_E)) := hA52
    obtain ⟨p57, e58⟩ : ∃ z, z = (F_She_addPower_p (11008 : Int32) (1376 : Int32) (1000000 : Int32) x2 (1 : Int32) y31 f32) := ⟨_, rfl⟩
    have e59 : y50 = p57.1 := congrArg (fun z => z.1) (hE55.trans e58.symm)
    have e60 : f51 = p57.2 := congrArg (fun z => z.2) (hE55.trans e58.symm)
    replace b53 : q_F (y31.toInt ≤ y50.toInt) := b53
    replace b54 : q_F (y50.toInt ≤ y31.toInt + 5) := b54
    replace hO6 := (hu56 _ (by decide)).trans hO6
    replace hF := q_uc hF hu56 (by simp)
    have hR61 := (show F_Wri_writePower_c33 x2 t0_0 t1_0 p17 p38 p57 = (F_Wri_writePower x2 t0_0 t1_0) from Eq.trans (by rw [e58, e41, e40, F_Wri_writePower_c24.eq_1]) hR42)
    exact q_retv C0 V (⟨hI, hF, y50, f51, hO49, hA52, (show t0_0.toInt + 2 ≤ y50.toInt from (by have t1 : t0_0.toInt + 1 ≤ y10.toInt := b13; have t2 : y10.toInt + 1 ≤ y31.toInt := b34; have t3 : y31.toInt ≤ y50.toInt := b53; omega)), (show y50.toInt ≤ t0_0.toInt + 7 from (by have t1 : y10.toInt ≤ t0_0.toInt + 1 := b14; have t2 : y31.toInt ≤ y10.toInt + 1 := b35; have t3 : y50.toInt ≤ y31.toInt + 5 := b54; omega)), (show (y50, f51) = (F_Wri_writePower x2 t0_0 t1_0) from Eq.trans (by rw [e60, e59, F_Wri_writePower_c33.eq_1]) hR61)⟩) d_12_5_36
  ·
    have b66 : q_F (x2.toInt < 0) := (q_nleI c26)
    refine lv_bipush (v := 45) hx hb d_12_5_17 (by decide) ?_
    refine lv_goto (tgt := 24) hx hb d_12_5_19 (by decide) ?_
    refine q_gov V (q_runV (As := [.int 45]) (rest := []) (d := 1) (mc := 0) (ms := 0) (ci := 1) C0 V rfl LV_Wri_62 (X_She_add_p l D g q u7 3 11008 1376 1000000 (n_h3 g q) 45 hI y10 hO9 f11 hA12 (by have y0 : (11008 : Int32).toInt = 11008 := rfl; have y1 : (1376 : Int32).toInt = 1376 := rfl; have y2 : (1000000 : Int32).toInt = 1000000 := rfl; have y3 : (45 : Int32).toInt = 45 := rfl; have t1 : t0_0.toInt ≤ 500000 := pre0; have t2 : y10.toInt ≤ t0_0.toInt + 1 := b14; omega) _) rfl rfl hO9 rfl hl.1 rfl (Nat.le_of_ble_eq_true rfl) ⟨by decide, by decide⟩ ⟨Nat.le_of_ble_eq_true rfl, Nat.le_of_ble_eq_true rfl⟩ d_12_5_24) (fun u67 H locs hp68 V => ?_)
    obtain ⟨hI, hu76, y70, f71, hO69, hA72, b73, b74, hE75⟩ := hp68
    replace hO69 : u67[3]? = (some (q 3, .inr (1, [.ref (q 4), .int 11008, .int y70])) : Option (Nat × va_E)) := hO69
    replace hA72 : u67[4]? = (some (q 4, .inl (g 1, (1376 : Int32).toNatClampNeg, .inr (.inl f71))) : Option (Nat × va_E)) := hA72
    obtain ⟨p77, e78⟩ : ∃ z, z = (F_She_add_p (11008 : Int32) (1376 : Int32) (1000000 : Int32) (45 : Int32) y10 f11) := ⟨_, rfl⟩
    have e79 : y70 = p77.1 := congrArg (fun z => z.1) (hE75.trans e78.symm)
    have e80 : f71 = p77.2 := congrArg (fun z => z.2) (hE75.trans e78.symm)
    replace b73 : q_F (y10.toInt + 1 ≤ y70.toInt) := b73
    replace b74 : q_F (y70.toInt ≤ y10.toInt + 1) := b74
    replace hO6 := (hu76 _ (by decide)).trans hO6
    replace hF := q_uc hF hu76 (by simp)
    have hR81 := (show F_Wri_writePower_c24_4 x2 t0_0 t1_0 p17 p77 = (F_Wri_writePower x2 t0_0 t1_0) from Eq.trans (by rw [e78, e20, e19, F_Wri_writePower_c6.eq_1, if_neg c26]) hR21)
    refine lv_aload_n hx hb d_12_5_27 rfl (lv_at hl 0 rfl) ?_
    refine q_get (ci := 9) (j := 0) (v := .ref (q 3)) C0 V i_Wri rfl rfl hO6 (by decide) w_329 rfl d_12_5_28 ?_
    refine lv_iload_n hx hb d_12_5_31 rfl (lv_at hl 1 rfl) ?_
    refine lv_iconst (v := 1) hx hb d_12_5_32 (by decide) ?_
    refine q_gov V (q_runV (As := [.int x2, .int 1]) (rest := []) (d := 2) (mc := 0) (ms := 0) (ci := 1) C0 V rfl LV_Wri_115 (X_She_addPower_p l D g q u67 3 11008 1376 1000000 (n_h3 g q) x2 1 hI y70 hO69 f71 hA72 (by have y0 : (11008 : Int32).toInt = 11008 := rfl; have y1 : (1376 : Int32).toInt = 1376 := rfl; have y2 : (1000000 : Int32).toInt = 1000000 := rfl; have y3 : (1 : Int32).toInt = 1 := rfl; have t1 : t0_0.toInt ≤ 500000 := pre0; have t2 : y10.toInt ≤ t0_0.toInt + 1 := b14; have t3 : y70.toInt ≤ y10.toInt + 1 := b74; omega) (by have y0 : (11008 : Int32).toInt = 11008 := rfl; have y1 : (1376 : Int32).toInt = 1376 := rfl; have y2 : (1000000 : Int32).toInt = 1000000 := rfl; have y3 : (1 : Int32).toInt = 1 := rfl; have t1 : 0 ≤ x2.toInt + 2147483647 := pre1; omega) _) rfl rfl hO69 rfl hl.1 rfl (Nat.le_of_ble_eq_true rfl) ⟨by decide, by decide⟩ ⟨Nat.le_of_ble_eq_true rfl, Nat.le_of_ble_eq_true rfl⟩ d_12_5_33) (fun u86 H locs hp87 V => ?_)
    obtain ⟨hI, hu95, y89, f90, hO88, hA91, b92, b93, hE94⟩ := hp87
    replace hO88 : u86[3]? = (some (q 3, .inr (1, [.ref (q 4), .int 11008, .int y89])) : Option (Nat × va_E)) := hO88
    replace hA91 : u86[4]? = (some (q 4, .inl (g 1, (1376 : Int32).toNatClampNeg, .inr (.inl f90))) : Option (Nat × va_E)) := hA91
    obtain ⟨p96, e97⟩ : ∃ z, z = (F_She_addPower_p (11008 : Int32) (1376 : Int32) (1000000 : Int32) x2 (1 : Int32) y70 f71) := ⟨_, rfl⟩
    have e98 : y89 = p96.1 := congrArg (fun z => z.1) (hE94.trans e97.symm)
    have e99 : f90 = p96.2 := congrArg (fun z => z.2) (hE94.trans e97.symm)
    replace b92 : q_F (y70.toInt ≤ y89.toInt) := b92
    replace b93 : q_F (y89.toInt ≤ y70.toInt + 5) := b93
    replace hO6 := (hu95 _ (by decide)).trans hO6
    replace hF := q_uc hF hu95 (by simp)
    have hR100 := (show F_Wri_writePower_c33_5 x2 t0_0 t1_0 p17 p77 p96 = (F_Wri_writePower x2 t0_0 t1_0) from Eq.trans (by rw [e97, e80, e79, F_Wri_writePower_c24_4.eq_1]) hR81)
    exact q_retv C0 V (⟨hI, hF, y89, f90, hO88, hA91, (show t0_0.toInt + 2 ≤ y89.toInt from (by have t1 : t0_0.toInt + 1 ≤ y10.toInt := b13; have t2 : y10.toInt + 1 ≤ y70.toInt := b73; have t3 : y70.toInt ≤ y89.toInt := b92; omega)), (show y89.toInt ≤ t0_0.toInt + 7 from (by have t1 : y10.toInt ≤ t0_0.toInt + 1 := b14; have t2 : y70.toInt ≤ y10.toInt + 1 := b74; have t3 : y89.toInt ≤ y70.toInt + 5 := b93; omega)), (show (y89, f90) = (F_Wri_writePower x2 t0_0 t1_0) from Eq.trans (by rw [e99, e98, F_Wri_writePower_c33_5.eq_1]) hR100)⟩) d_12_5_36
theorem d_12_9_0 : decode prog_12_method_9_code 0 = .ok (.iload_n 1, 1) := by decide +kernel
theorem d_12_9_1 : decode prog_12_method_9_code 1 = .ok (.ifCond .ge 12, 3) := by decide +kernel
theorem d_12_9_13 : decode prog_12_method_9_code 13 = .ok (.aload_n 0, 1) := by decide +kernel
theorem d_12_9_14 : decode prog_12_method_9_code 14 = .ok (.getfield 7, 3) := by decide +kernel
theorem d_12_9_17 : decode prog_12_method_9_code 17 = .ok (.iload_n 1, 1) := by decide +kernel
theorem d_12_9_18 : decode prog_12_method_9_code 18 = .ok (.iconst 1, 1) := by decide +kernel
theorem d_12_9_19 : decode prog_12_method_9_code 19 = .ok (.invokevirtual 115, 3) := by decide +kernel
theorem d_12_9_22 : decode prog_12_method_9_code 22 = .ok (.return_, 1) := by decide +kernel
theorem d_12_9_4 : decode prog_12_method_9_code 4 = .ok (.aload_n 0, 1) := by decide +kernel
theorem d_12_9_5 : decode prog_12_method_9_code 5 = .ok (.getfield 7, 3) := by decide +kernel
theorem d_12_9_8 : decode prog_12_method_9_code 8 = .ok (.bipush 45, 2) := by decide +kernel
theorem d_12_9_10 : decode prog_12_method_9_code 10 = .ok (.invokevirtual 62, 3) := by decide +kernel
def y_Wri_writeSigned : MethodName := ⟨"NumberHouse$Writer", "writeSigned", "(I)V"⟩
def F_Wri_writeSigned_c19 (x2 : Int32) (t0_0 : Int32) (t1_0 : (Nat → Int64)) (p19 : (Int32 × (Nat → Int64))) : Int32 × (Nat → Int64) := ((p19.1 : Int32), (p19.2 : (Nat → Int64)))
def F_Wri_writeSigned_c19_3 (x2 : Int32) (t0_0 : Int32) (t1_0 : (Nat → Int64)) (p40 : (Int32 × (Nat → Int64))) (p59 : (Int32 × (Nat → Int64))) : Int32 × (Nat → Int64) := ((p59.1 : Int32), (p59.2 : (Nat → Int64)))
def F_Wri_writeSigned_c10 (x2 : Int32) (t0_0 : Int32) (t1_0 : (Nat → Int64)) (p40 : (Int32 × (Nat → Int64))) : Int32 × (Nat → Int64) := F_Wri_writeSigned_c19_3 x2 t0_0 t1_0 p40 ((F_She_addPower_p (11008 : Int32) (1376 : Int32) (1000000 : Int32) x2 (1 : Int32) (p40.1 : Int32) (p40.2 : (Nat → Int64))) : (Int32 × (Nat → Int64)))
def F_Wri_writeSigned (x2 : Int32) (t0_0 : Int32) (t1_0 : (Nat → Int64)) : Int32 × (Nat → Int64) := if (0 : Int32) ≤ x2 then (F_Wri_writeSigned_c19 x2 t0_0 t1_0 ((F_She_addPower_p (11008 : Int32) (1376 : Int32) (1000000 : Int32) x2 (1 : Int32) t0_0 t1_0) : (Int32 × (Nat → Int64)))) else (F_Wri_writeSigned_c10 x2 t0_0 t1_0 ((F_She_add_p (11008 : Int32) (1376 : Int32) (1000000 : Int32) (45 : Int32) t0_0 t1_0) : (Int32 × (Nat → Int64))))
set_option maxRecDepth 100000 in
set_option maxHeartbeats 4000000 in
theorem X_Wri_writeSigned (l : Launch) (D : va_G) (g : Nat → ClassId) (q : Nat → Nat) (ws : va_W) (x2 : Int32) (hI : q_I (nsh g q) q ws) (t0_0 : Int32) (hT0 : ws[3]? = (some (q 3, .inr (1, [.ref (q 4), .int 11008, .int t0_0])) : Option (Nat × va_E))) (t1_0 : (Nat → Int64)) (hT1 : ws[4]? = (some (q 4, .inl (g 1, (1376 : Int32).toNatClampNeg, .inr (.inl t1_0))) : Option (Nat × va_E))) (pre0 : t0_0.toInt ≤ 500000) (pre1 : 0 ≤ x2.toInt + 2147483647) : q_mV l y_Wri_writeSigned prog_12_method_9_code 2 3 0 0 D g [.ref (q 39), .int x2] ws (fun u => q_I (nsh g q) q u ∧ q_un ws u [3, 4] ∧ ∃ (u0_0 : Int32) (u1_0 : (Nat → Int64)), u[3]? = (some (q 3, .inr (1, [.ref (q 4), .int 11008, .int u0_0])) : Option (Nat × va_E)) ∧ u[4]? = (some (q 4, .inl (g 1, (1376 : Int32).toNatClampNeg, .inr (.inl u1_0))) : Option (Nat × va_E)) ∧ (t0_0.toInt ≤ u0_0.toInt) ∧ (u0_0.toInt ≤ t0_0.toInt + 6) ∧ (u0_0, u1_0) = (F_Wri_writeSigned x2 t0_0 t1_0)) := by
  intro sz
  refine q_into (by decide) (Nat.le_of_ble_eq_true rfl) ?_
  intro p e s m below meth c ls hsz C0 V hl
  have hx := C0.1
  have hb := C0.2.1
  obtain ⟨yy0_0, hh0, btt0_0⟩ := n_shO hI (n_h3 g q)
  obtain ⟨rfl⟩ : t0_0 = yy0_0 := by have z := Option.some.inj (hT0.symm.trans hh0); simpa using z
  replace btt0_0 : q_F (0 ≤ t0_0.toInt ∧ t0_0.toInt ≤ 1000000) := btt0_0
  replace pre0 : q_F (t0_0.toInt ≤ 500000) := pre0
  replace pre1 : q_F (0 ≤ x2.toInt + 2147483647) := pre1
  have hF : q_un ws ws [3, 4] := q_u0
  have hl : lv_has ls 2 [(0, .ref (q 39)), (1, .int x2)] := hl
  refine lv_iload_n hx hb d_12_9_0 rfl (lv_at hl 1 rfl) ?_
  refine lv_if_ge (tgt := 13) hx hb d_12_9_1 (by decide) (fun c6 => ?_) (fun c6 => ?_)
  ·
    have b7 : q_F (0 ≤ x2.toInt) := (q_leI c6)
    refine lv_aload_n hx hb d_12_9_13 rfl (lv_at hl 0 rfl) ?_
    have hO8 := n_o39 hI
    refine q_get (ci := 9) (j := 0) (v := .ref (q 3)) C0 V i_Wri rfl rfl hO8 (by decide) w_329 rfl d_12_9_14 ?_
    refine lv_iload_n hx hb d_12_9_17 rfl (lv_at hl 1 rfl) ?_
    refine lv_iconst (v := 1) hx hb d_12_9_18 (by decide) ?_
    refine q_gov V (q_runV (As := [.int x2, .int 1]) (rest := []) (d := 2) (mc := 0) (ms := 0) (ci := 1) C0 V rfl LV_Wri_115 (X_She_addPower_p l D g q ws 3 11008 1376 1000000 (n_h3 g q) x2 1 hI t0_0 hT0 t1_0 hT1 (by have y0 : (11008 : Int32).toInt = 11008 := rfl; have y1 : (1376 : Int32).toInt = 1376 := rfl; have y2 : (1000000 : Int32).toInt = 1000000 := rfl; have y3 : (1 : Int32).toInt = 1 := rfl; have t1 : t0_0.toInt ≤ 500000 := pre0; omega) (by have y0 : (11008 : Int32).toInt = 11008 := rfl; have y1 : (1376 : Int32).toInt = 1376 := rfl; have y2 : (1000000 : Int32).toInt = 1000000 := rfl; have y3 : (1 : Int32).toInt = 1 := rfl; have t1 : 0 ≤ x2.toInt + 2147483647 := pre1; omega) _) rfl rfl hT0 rfl hl.1 rfl (Nat.le_of_ble_eq_true rfl) ⟨by decide, by decide⟩ ⟨Nat.le_of_ble_eq_true rfl, Nat.le_of_ble_eq_true rfl⟩ d_12_9_19) (fun u9 H locs hp10 V => ?_)
    obtain ⟨hI, hu18, y12, f13, hO11, hA14, b15, b16, hE17⟩ := hp10
    replace hO11 : u9[3]? = (some (q 3, .inr (1, [.ref (q 4), .int 11008, .int y12])) : Option (Nat × va_E)) := hO11
    replace hA14 : u9[4]? = (some (q 4, .inl (g 1, (1376 : Int32).toNatClampNeg, .inr (.inl f13))) : Option (Nat × va_E)) := hA14
    obtain ⟨p19, e20⟩ : ∃ z, z = (F_She_addPower_p (11008 : Int32) (1376 : Int32) (1000000 : Int32) x2 (1 : Int32) t0_0 t1_0) := ⟨_, rfl⟩
    have e21 : y12 = p19.1 := congrArg (fun z => z.1) (hE17.trans e20.symm)
    have e22 : f13 = p19.2 := congrArg (fun z => z.2) (hE17.trans e20.symm)
    replace b15 : q_F (t0_0.toInt ≤ y12.toInt) := b15
    replace b16 : q_F (y12.toInt ≤ t0_0.toInt + 5) := b16
    replace hO8 := (hu18 _ (by decide)).trans hO8
    replace hF := q_uc hF hu18 (by simp)
    have hR23 := (show F_Wri_writeSigned_c19 x2 t0_0 t1_0 p19 = (F_Wri_writeSigned x2 t0_0 t1_0) from (by rw [e20, F_Wri_writeSigned.eq_1, if_pos c6]))
    exact q_retv C0 V (⟨hI, hF, y12, f13, hO11, hA14, (show t0_0.toInt ≤ y12.toInt from (by have t1 : t0_0.toInt ≤ y12.toInt := b15; omega)), (show y12.toInt ≤ t0_0.toInt + 6 from (by have t1 : y12.toInt ≤ t0_0.toInt + 5 := b16; omega)), (show (y12, f13) = (F_Wri_writeSigned x2 t0_0 t1_0) from Eq.trans (by rw [e22, e21, F_Wri_writeSigned_c19.eq_1]) hR23)⟩) d_12_9_22
  ·
    have b28 : q_F (x2.toInt < 0) := (q_nleI c6)
    refine lv_aload_n hx hb d_12_9_4 rfl (lv_at hl 0 rfl) ?_
    have hO29 := n_o39 hI
    refine q_get (ci := 9) (j := 0) (v := .ref (q 3)) C0 V i_Wri rfl rfl hO29 (by decide) w_329 rfl d_12_9_5 ?_
    refine lv_bipush (v := 45) hx hb d_12_9_8 (by decide) ?_
    refine q_gov V (q_runV (As := [.int 45]) (rest := []) (d := 1) (mc := 0) (ms := 0) (ci := 1) C0 V rfl LV_Wri_62 (X_She_add_p l D g q ws 3 11008 1376 1000000 (n_h3 g q) 45 hI t0_0 hT0 t1_0 hT1 (by have y0 : (11008 : Int32).toInt = 11008 := rfl; have y1 : (1376 : Int32).toInt = 1376 := rfl; have y2 : (1000000 : Int32).toInt = 1000000 := rfl; have y3 : (45 : Int32).toInt = 45 := rfl; have t1 : t0_0.toInt ≤ 500000 := pre0; omega) _) rfl rfl hT0 rfl hl.1 rfl (Nat.le_of_ble_eq_true rfl) ⟨by decide, by decide⟩ ⟨Nat.le_of_ble_eq_true rfl, Nat.le_of_ble_eq_true rfl⟩ d_12_9_10) (fun u30 H locs hp31 V => ?_)
    obtain ⟨hI, hu39, y33, f34, hO32, hA35, b36, b37, hE38⟩ := hp31
    replace hO32 : u30[3]? = (some (q 3, .inr (1, [.ref (q 4), .int 11008, .int y33])) : Option (Nat × va_E)) := hO32
    replace hA35 : u30[4]? = (some (q 4, .inl (g 1, (1376 : Int32).toNatClampNeg, .inr (.inl f34))) : Option (Nat × va_E)) := hA35
    obtain ⟨p40, e41⟩ : ∃ z, z = (F_She_add_p (11008 : Int32) (1376 : Int32) (1000000 : Int32) (45 : Int32) t0_0 t1_0) := ⟨_, rfl⟩
    have e42 : y33 = p40.1 := congrArg (fun z => z.1) (hE38.trans e41.symm)
    have e43 : f34 = p40.2 := congrArg (fun z => z.2) (hE38.trans e41.symm)
    replace b36 : q_F (t0_0.toInt + 1 ≤ y33.toInt) := b36
    replace b37 : q_F (y33.toInt ≤ t0_0.toInt + 1) := b37
    replace hO29 := (hu39 _ (by decide)).trans hO29
    replace hF := q_uc hF hu39 (by simp)
    have hR44 := (show F_Wri_writeSigned_c10 x2 t0_0 t1_0 p40 = (F_Wri_writeSigned x2 t0_0 t1_0) from (by rw [e41, F_Wri_writeSigned.eq_1, if_neg c6]))
    refine lv_aload_n hx hb d_12_9_13 rfl (lv_at hl 0 rfl) ?_
    refine q_get (ci := 9) (j := 0) (v := .ref (q 3)) C0 V i_Wri rfl rfl hO29 (by decide) w_329 rfl d_12_9_14 ?_
    refine lv_iload_n hx hb d_12_9_17 rfl (lv_at hl 1 rfl) ?_
    refine lv_iconst (v := 1) hx hb d_12_9_18 (by decide) ?_
    refine q_gov V (q_runV (As := [.int x2, .int 1]) (rest := []) (d := 2) (mc := 0) (ms := 0) (ci := 1) C0 V rfl LV_Wri_115 (X_She_addPower_p l D g q u30 3 11008 1376 1000000 (n_h3 g q) x2 1 hI y33 hO32 f34 hA35 (by have y0 : (11008 : Int32).toInt = 11008 := rfl; have y1 : (1376 : Int32).toInt = 1376 := rfl; have y2 : (1000000 : Int32).toInt = 1000000 := rfl; have y3 : (1 : Int32).toInt = 1 := rfl; have t1 : t0_0.toInt ≤ 500000 := pre0; have t2 : y33.toInt ≤ t0_0.toInt + 1 := b37; omega) (by have y0 : (11008 : Int32).toInt = 11008 := rfl; have y1 : (1376 : Int32).toInt = 1376 := rfl; have y2 : (1000000 : Int32).toInt = 1000000 := rfl; have y3 : (1 : Int32).toInt = 1 := rfl; have t1 : 0 ≤ x2.toInt + 2147483647 := pre1; omega) _) rfl rfl hO32 rfl hl.1 rfl (Nat.le_of_ble_eq_true rfl) ⟨by decide, by decide⟩ ⟨Nat.le_of_ble_eq_true rfl, Nat.le_of_ble_eq_true rfl⟩ d_12_9_19) (fun u49 H locs hp50 V => ?_)
    obtain ⟨hI, hu58, y52, f53, hO51, hA54, b55, b56, hE57⟩ := hp50
    replace hO51 : u49[3]? = (some (q 3, .inr (1, [.ref (q 4), .int 11008, .int y52])) : Option (Nat × va_E)) := hO51
    replace hA54 : u49[4]? = (some (q 4, .inl (g 1, (1376 : Int32).toNatClampNeg, .inr (.inl f53))) : Option (Nat × va_E)) := hA54
    obtain ⟨p59, e60⟩ : ∃ z, z = (F_She_addPower_p (11008 : Int32) (1376 : Int32) (1000000 : Int32) x2 (1 : Int32) y33 f34) := ⟨_, rfl⟩
    have e61 : y52 = p59.1 := congrArg (fun z => z.1) (hE57.trans e60.symm)
    have e62 : f53 = p59.2 := congrArg (fun z => z.2) (hE57.trans e60.symm)
    replace b55 : q_F (y33.toInt ≤ y52.toInt) := b55
    replace b56 : q_F (y52.toInt ≤ y33.toInt + 5) := b56
    replace hO29 := (hu58 _ (by decide)).trans hO29
    replace hF := q_uc hF hu58 (by simp)
    have hR63 := (show F_Wri_writeSigned_c19_3 x2 t0_0 t1_0 p40 p59 = (F_Wri_writeSigned x2 t0_0 t1_0) from Eq.trans (by rw [e60, e43, e42, F_Wri_writeSigned_c10.eq_1]) hR44)
    exact q_retv C0 V (⟨hI, hF, y52, f53, hO51, hA54, (show t0_0.toInt ≤ y52.toInt from (by have t1 : t0_0.toInt + 1 ≤ y33.toInt := b36; have t2 : y33.toInt ≤ y52.toInt := b55; omega)), (show y52.toInt ≤ t0_0.toInt + 6 from (by have t1 : y33.toInt ≤ t0_0.toInt + 1 := b37; have t2 : y52.toInt ≤ y33.toInt + 5 := b56; omega)), (show (y52, f53) = (F_Wri_writeSigned x2 t0_0 t1_0) from Eq.trans (by rw [e62, e61, F_Wri_writeSigned_c19_3.eq_1]) hR63)⟩) d_12_9_22
theorem d_12_4_0 : decode prog_12_method_4_code 0 = .ok (.aload_n 0, 1) := by decide +kernel
theorem d_12_4_1 : decode prog_12_method_4_code 1 = .ok (.getfield 17, 3) := by decide +kernel
theorem d_12_4_4 : decode prog_12_method_4_code 4 = .ok (.getfield 105, 3) := by decide +kernel
set_option maxRecDepth 100000 in
theorem w_265 : (Cond.fieldLink "NumberHouse$Writer" (105 : Nat) "NumberHouse$Digits" "count" "I") ∈ q_tbl := q_of2 25 rfl (by decide +kernel)
theorem d_12_4_15 : decode prog_12_method_4_code 15 = .ok (.istore_n 3, 1) := by decide +kernel
theorem d_12_4_16 : decode prog_12_method_4_code 16 = .ok (.iload_n 3, 1) := by decide +kernel
theorem d_12_4_39 : decode prog_12_method_4_code 39 = .ok (.istore 4, 2) := by decide +kernel
theorem d_12_4_41 : decode prog_12_method_4_code 41 = .ok (.iload_n 3, 1) := by decide +kernel
theorem d_12_4_55 : decode prog_12_method_4_code 55 = .ok (.istore 5, 2) := by decide +kernel
theorem d_12_4_57 : decode prog_12_method_4_code 57 = .ok (.iload_n 3, 1) := by decide +kernel
theorem d_12_4_71 : decode prog_12_method_4_code 71 = .ok (.istore 6, 2) := by decide +kernel
theorem d_12_4_73 : decode prog_12_method_4_code 73 = .ok (.aload_n 0, 1) := by decide +kernel
theorem d_12_4_74 : decode prog_12_method_4_code 74 = .ok (.getfield 17, 3) := by decide +kernel
theorem d_12_4_77 : decode prog_12_method_4_code 77 = .ok (.aload_n 0, 1) := by decide +kernel
theorem d_12_4_78 : decode prog_12_method_4_code 78 = .ok (.getfield 7, 3) := by decide +kernel
theorem d_12_4_81 : decode prog_12_method_4_code 81 = .ok (.iload 5, 2) := by decide +kernel
theorem d_12_4_83 : decode prog_12_method_4_code 83 = .ok (.iload 6, 2) := by decide +kernel
theorem d_12_4_85 : decode prog_12_method_4_code 85 = .ok (.invokevirtual 111, 3) := by decide +kernel
set_option maxRecDepth 100000 in
theorem w_1597 : (Cond.code ({ cls := "NumberHouse$Digits", name := "writeSplit", desc := "(LNumberHouse$Sheet;II)V" } : MethodName) prog_5_method_12_code (5 : Nat) (none : Option ClassFile.FieldType)) ∈ q_tbl := q_of7 157 rfl (by decide +kernel)
set_option maxRecDepth 100000 in
theorem w_1594 : (Cond.methodLink "NumberHouse$Writer" (111 : Nat) ({ cls := "NumberHouse$Digits", name := "writeSplit", desc := "(LNumberHouse$Sheet;II)V" } : MethodName)) ∈ q_tbl := q_of7 154 rfl (by decide +kernel)
set_option maxRecDepth 100000 in
theorem w_1595 : (Cond.instanceMethod ({ cls := "NumberHouse$Digits", name := "writeSplit", desc := "(LNumberHouse$Sheet;II)V" } : MethodName)) ∈ q_tbl := q_of7 155 rfl (by decide +kernel)
set_option maxRecDepth 100000 in
theorem w_1596 : (Cond.selects "NumberHouse$Digits" ({ cls := "NumberHouse$Digits", name := "writeSplit", desc := "(LNumberHouse$Sheet;II)V" } : MethodName) ({ cls := "NumberHouse$Digits", name := "writeSplit", desc := "(LNumberHouse$Sheet;II)V" } : MethodName)) ∈ q_tbl := q_of7 156 rfl (by decide +kernel)
theorem LV_Wri_111 : q_LV "NumberHouse$Writer" 111 y_Dig_writeSplit prog_5_method_12_code 5 none 3 := ⟨w_1597, w_9, w_1594, w_1595, w_1596, ⟨by decide, by decide, by decide +kernel⟩⟩
theorem d_12_4_88 : decode prog_12_method_4_code 88 = .ok (.iload 4, 2) := by decide +kernel
theorem d_12_4_90 : decode prog_12_method_4_code 90 = .ok (.ifCond .eq 9, 3) := by decide +kernel
theorem d_12_4_99 : decode prog_12_method_4_code 99 = .ok (.return_, 1) := by decide +kernel
theorem d_12_4_93 : decode prog_12_method_4_code 93 = .ok (.aload_n 0, 1) := by decide +kernel
theorem d_12_4_94 : decode prog_12_method_4_code 94 = .ok (.iload 4, 2) := by decide +kernel
theorem d_12_4_96 : decode prog_12_method_4_code 96 = .ok (.invokevirtual 98, 3) := by decide +kernel
set_option maxRecDepth 100000 in
theorem w_1581 : (Cond.code ({ cls := "NumberHouse$Writer", name := "writePower", desc := "(I)V" } : MethodName) prog_12_method_5_code (2 : Nat) (none : Option ClassFile.FieldType)) ∈ q_tbl := q_of7 141 rfl (by decide +kernel)
set_option maxRecDepth 100000 in
theorem w_1578 : (Cond.methodLink "NumberHouse$Writer" (98 : Nat) ({ cls := "NumberHouse$Writer", name := "writePower", desc := "(I)V" } : MethodName)) ∈ q_tbl := q_of7 138 rfl (by decide +kernel)
set_option maxRecDepth 100000 in
theorem w_1580 : (Cond.instanceMethod ({ cls := "NumberHouse$Writer", name := "writePower", desc := "(I)V" } : MethodName)) ∈ q_tbl := q_of7 140 rfl (by decide +kernel)
theorem ws_37 : Cond.selects "NumberHouse$Writer" (⟨"NumberHouse$Writer", "writePower", "(I)V"⟩ : MethodName) (⟨"NumberHouse$Writer", "writePower", "(I)V"⟩ : MethodName) ∈ q_tbl := q_ofs 37 (by decide +kernel) (by decide +kernel)
theorem LV_Wri_98 : q_LV "NumberHouse$Writer" 98 y_Wri_writePower prog_12_method_5_code 2 none 1 := ⟨w_1581, w_11, w_1578, w_1580, ws_37, ⟨by decide, by decide, by decide +kernel⟩⟩
theorem d_12_4_58 : decode prog_12_method_4_code 58 = .ok (.ifCond .eq 12, 3) := by decide +kernel
theorem d_12_4_70 : decode prog_12_method_4_code 70 = .ok (.iload_n 1, 1) := by decide +kernel
theorem d_12_4_61 : decode prog_12_method_4_code 61 = .ok (.iconst 1, 1) := by decide +kernel
theorem d_12_4_62 : decode prog_12_method_4_code 62 = .ok (.iload 4, 2) := by decide +kernel
theorem d_12_4_64 : decode prog_12_method_4_code 64 = .ok (.iadd, 1) := by decide +kernel
theorem d_12_4_65 : decode prog_12_method_4_code 65 = .ok (.iload_n 2, 1) := by decide +kernel
theorem d_12_4_66 : decode prog_12_method_4_code 66 = .ok (.isub, 1) := by decide +kernel
theorem d_12_4_67 : decode prog_12_method_4_code 67 = .ok (.goto 4, 3) := by decide +kernel
theorem d_12_4_42 : decode prog_12_method_4_code 42 = .ok (.ifCond .eq 7, 3) := by decide +kernel
theorem d_12_4_49 : decode prog_12_method_4_code 49 = .ok (.iload_n 2, 1) := by decide +kernel
theorem d_12_4_50 : decode prog_12_method_4_code 50 = .ok (.iload 4, 2) := by decide +kernel
theorem d_12_4_52 : decode prog_12_method_4_code 52 = .ok (.isub, 1) := by decide +kernel
theorem d_12_4_53 : decode prog_12_method_4_code 53 = .ok (.iconst 1, 1) := by decide +kernel
theorem d_12_4_54 : decode prog_12_method_4_code 54 = .ok (.iadd, 1) := by decide +kernel
theorem d_12_4_45 : decode prog_12_method_4_code 45 = .ok (.iconst 1, 1) := by decide +kernel
theorem d_12_4_46 : decode prog_12_method_4_code 46 = .ok (.goto 9, 3) := by decide +kernel
theorem d_12_4_17 : decode prog_12_method_4_code 17 = .ok (.ifCond .eq 15, 3) := by decide +kernel
theorem d_12_4_32 : decode prog_12_method_4_code 32 = .ok (.iconst 3, 1) := by decide +kernel
theorem d_12_4_33 : decode prog_12_method_4_code 33 = .ok (.iload_n 2, 1) := by decide +kernel
theorem d_12_4_34 : decode prog_12_method_4_code 34 = .ok (.iconst 3, 1) := by decide +kernel
theorem d_12_4_35 : decode prog_12_method_4_code 35 = .ok (.invokestatic 108, 3) := by decide +kernel
set_option maxRecDepth 100000 in
theorem w_1593 : (Cond.methodLink "NumberHouse$Writer" (108 : Nat) ({ cls := "java/lang/Math", name := "floorDiv", desc := "(II)I" } : MethodName)) ∈ q_tbl := q_of7 153 rfl (by decide +kernel)
theorem LS_Wri_108 : q_LS "NumberHouse$Writer" 108 y_jMath_floorDiv_III prog_29_method_47_code 3 (some .int) 2 := ⟨w_1486, w_7, w_1593, w_1485, ⟨by decide, by decide, by decide +kernel⟩⟩
theorem d_12_4_38 : decode prog_12_method_4_code 38 = .ok (.imul, 1) := by decide +kernel
theorem d_12_4_20 : decode prog_12_method_4_code 20 = .ok (.bipush (-3), 2) := by decide +kernel
theorem d_12_4_22 : decode prog_12_method_4_code 22 = .ok (.iload_n 2, 1) := by decide +kernel
theorem d_12_4_23 : decode prog_12_method_4_code 23 = .ok (.ineg, 1) := by decide +kernel
theorem d_12_4_24 : decode prog_12_method_4_code 24 = .ok (.iconst 3, 1) := by decide +kernel
theorem d_12_4_25 : decode prog_12_method_4_code 25 = .ok (.invokestatic 108, 3) := by decide +kernel
theorem d_12_4_28 : decode prog_12_method_4_code 28 = .ok (.imul, 1) := by decide +kernel
theorem d_12_4_29 : decode prog_12_method_4_code 29 = .ok (.goto 10, 3) := by decide +kernel
theorem d_12_4_7 : decode prog_12_method_4_code 7 = .ok (.ifCond .ne 7, 3) := by decide +kernel
theorem d_12_4_14 : decode prog_12_method_4_code 14 = .ok (.iconst 0, 1) := by decide +kernel
theorem d_12_4_10 : decode prog_12_method_4_code 10 = .ok (.iconst 1, 1) := by decide +kernel
theorem d_12_4_11 : decode prog_12_method_4_code 11 = .ok (.goto 4, 3) := by decide +kernel
def y_Wri_writeByThrees : MethodName := ⟨"NumberHouse$Writer", "writeByThrees", "(II)V"⟩
def F_Wri_writeByThrees_c96 (x2 : Int32) (x3 : Int32) (t0_0 : Int32) (t1_0 : (Nat → Int64)) (t2_0 : Int32) (t2_1 : Int32) (t3_0 : (Nat → Int32)) (lx15 : Int32) (lx28 : Int32) (lx39 : Int32) (lx50 : Int32) (p75 : (Int32 × (Nat → Int64))) (p98 : (Int32 × (Nat → Int64))) : Int32 × (Nat → Int64) := ((p98.1 : Int32), (p98.2 : (Nat → Int64)))
def F_Wri_writeByThrees_c85 (x2 : Int32) (x3 : Int32) (t0_0 : Int32) (t1_0 : (Nat → Int64)) (t2_0 : Int32) (t2_1 : Int32) (t3_0 : (Nat → Int32)) (lx15 : Int32) (lx28 : Int32) (lx39 : Int32) (lx50 : Int32) (p75 : (Int32 × (Nat → Int64))) : Int32 × (Nat → Int64) := if lx28 = (0 : Int32) then (((p75.1 : Int32), (p75.2 : (Nat → Int64)))) else (F_Wri_writeByThrees_c96 x2 x3 t0_0 t1_0 t2_0 t2_1 t3_0 lx15 lx28 lx39 lx50 p75 ((F_Wri_writePower lx28 (p75.1 : Int32) (p75.2 : (Nat → Int64))) : (Int32 × (Nat → Int64))))
def F_Wri_writeByThrees_J71 (x2 : Int32) (x3 : Int32) (t0_0 : Int32) (t1_0 : (Nat → Int64)) (t2_0 : Int32) (t2_1 : Int32) (t3_0 : (Nat → Int32)) (lx15 : Int32) (lx28 : Int32) (lx39 : Int32) (lx50 : Int32) : Int32 × (Nat → Int64) := F_Wri_writeByThrees_c85 x2 x3 t0_0 t1_0 t2_0 t2_1 t3_0 lx15 lx28 lx39 lx50 ((F_Dig_writeSplit (11008 : Int32) (1376 : Int32) (1000000 : Int32) lx39 lx50 t2_0 t2_1 t3_0 t0_0 t1_0) : (Int32 × (Nat → Int64)))
def F_Wri_writeByThrees_J55 (x2 : Int32) (x3 : Int32) (t0_0 : Int32) (t1_0 : (Nat → Int64)) (t2_0 : Int32) (t2_1 : Int32) (t3_0 : (Nat → Int32)) (lx15 : Int32) (lx28 : Int32) (lx39 : Int32) : Int32 × (Nat → Int64) := if lx15 = (0 : Int32) then (F_Wri_writeByThrees_J71 x2 x3 t0_0 t1_0 t2_0 t2_1 t3_0 lx15 lx28 lx39 x2) else (F_Wri_writeByThrees_J71 x2 x3 t0_0 t1_0 t2_0 t2_1 t3_0 lx15 lx28 lx39 ((1 + lx28 : Int32) - x3 : Int32))
def F_Wri_writeByThrees_J39 (x2 : Int32) (x3 : Int32) (t0_0 : Int32) (t1_0 : (Nat → Int64)) (t2_0 : Int32) (t2_1 : Int32) (t3_0 : (Nat → Int32)) (lx15 : Int32) (lx28 : Int32) : Int32 × (Nat → Int64) := if lx15 = (0 : Int32) then (F_Wri_writeByThrees_J55 x2 x3 t0_0 t1_0 t2_0 t2_1 t3_0 lx15 lx28 ((x3 - lx28 : Int32) + 1 : Int32)) else (F_Wri_writeByThrees_J55 x2 x3 t0_0 t1_0 t2_0 t2_1 t3_0 lx15 lx28 1)
def F_Wri_writeByThrees_J15 (x2 : Int32) (x3 : Int32) (t0_0 : Int32) (t1_0 : (Nat → Int64)) (t2_0 : Int32) (t2_1 : Int32) (t3_0 : (Nat → Int32)) (lx15 : Int32) : Int32 × (Nat → Int64) := if lx15 = (0 : Int32) then (F_Wri_writeByThrees_J39 x2 x3 t0_0 t1_0 t2_0 t2_1 t3_0 lx15 (3 * ((F_jMath_floorDiv_III x3 (3 : Int32)) : Int32) : Int32)) else (F_Wri_writeByThrees_J39 x2 x3 t0_0 t1_0 t2_0 t2_1 t3_0 lx15 ((-3) * ((F_jMath_floorDiv_III (-x3 : Int32) (3 : Int32)) : Int32) : Int32))
def F_Wri_writeByThrees (x2 : Int32) (x3 : Int32) (t0_0 : Int32) (t1_0 : (Nat → Int64)) (t2_0 : Int32) (t2_1 : Int32) (t3_0 : (Nat → Int32)) : Int32 × (Nat → Int64) := if t2_0 = (0 : Int32) then (F_Wri_writeByThrees_J15 x2 x3 t0_0 t1_0 t2_0 t2_1 t3_0 1) else (F_Wri_writeByThrees_J15 x2 x3 t0_0 t1_0 t2_0 t2_1 t3_0 0)
def S_Wri_writeByThrees_c96 (x2 : Int32) (x3 : Int32) (t0_0 : Int32) (t1_0 : (Nat → Int64)) (t2_0 : Int32) (t2_1 : Int32) (t3_0 : (Nat → Int32)) (lx15 : Int32) (lx28 : Int32) (lx39 : Int32) (lx50 : Int32) (p75 : (Int32 × (Nat → Int64))) (p98 : (Int32 × (Nat → Int64))) : Prop := True
def S_Wri_writeByThrees_c85 (x2 : Int32) (x3 : Int32) (t0_0 : Int32) (t1_0 : (Nat → Int64)) (t2_0 : Int32) (t2_1 : Int32) (t3_0 : (Nat → Int32)) (lx15 : Int32) (lx28 : Int32) (lx39 : Int32) (lx50 : Int32) (p75 : (Int32 × (Nat → Int64))) : Prop := if lx28 = (0 : Int32) then (True) else ((0 ≤ lx28.toInt + 2147483647) ∧ (S_Wri_writeByThrees_c96 x2 x3 t0_0 t1_0 t2_0 t2_1 t3_0 lx15 lx28 lx39 lx50 p75 ((F_Wri_writePower lx28 (p75.1 : Int32) (p75.2 : (Nat → Int64))) : (Int32 × (Nat → Int64)))))
def S_Wri_writeByThrees_J71 (x2 : Int32) (x3 : Int32) (t0_0 : Int32) (t1_0 : (Nat → Int64)) (t2_0 : Int32) (t2_1 : Int32) (t3_0 : (Nat → Int32)) (lx15 : Int32) (lx28 : Int32) (lx39 : Int32) (lx50 : Int32) : Prop := (lx39.toInt ≤ 20000) ∧ ((lx50.toInt ≤ 20000) ∧ (S_Wri_writeByThrees_c85 x2 x3 t0_0 t1_0 t2_0 t2_1 t3_0 lx15 lx28 lx39 lx50 ((F_Dig_writeSplit (11008 : Int32) (1376 : Int32) (1000000 : Int32) lx39 lx50 t2_0 t2_1 t3_0 t0_0 t1_0) : (Int32 × (Nat → Int64)))))
def S_Wri_writeByThrees_J55 (x2 : Int32) (x3 : Int32) (t0_0 : Int32) (t1_0 : (Nat → Int64)) (t2_0 : Int32) (t2_1 : Int32) (t3_0 : (Nat → Int32)) (lx15 : Int32) (lx28 : Int32) (lx39 : Int32) : Prop := if lx15 = (0 : Int32) then (S_Wri_writeByThrees_J71 x2 x3 t0_0 t1_0 t2_0 t2_1 t3_0 lx15 lx28 lx39 x2) else (S_Wri_writeByThrees_J71 x2 x3 t0_0 t1_0 t2_0 t2_1 t3_0 lx15 lx28 lx39 ((1 + lx28 : Int32) - x3 : Int32))
def S_Wri_writeByThrees_J39 (x2 : Int32) (x3 : Int32) (t0_0 : Int32) (t1_0 : (Nat → Int64)) (t2_0 : Int32) (t2_1 : Int32) (t3_0 : (Nat → Int32)) (lx15 : Int32) (lx28 : Int32) : Prop := if lx15 = (0 : Int32) then (S_Wri_writeByThrees_J55 x2 x3 t0_0 t1_0 t2_0 t2_1 t3_0 lx15 lx28 ((x3 - lx28 : Int32) + 1 : Int32)) else (S_Wri_writeByThrees_J55 x2 x3 t0_0 t1_0 t2_0 t2_1 t3_0 lx15 lx28 1)
def S_Wri_writeByThrees_J15 (x2 : Int32) (x3 : Int32) (t0_0 : Int32) (t1_0 : (Nat → Int64)) (t2_0 : Int32) (t2_1 : Int32) (t3_0 : (Nat → Int32)) (lx15 : Int32) : Prop := if lx15 = (0 : Int32) then (S_Wri_writeByThrees_J39 x2 x3 t0_0 t1_0 t2_0 t2_1 t3_0 lx15 (3 * ((F_jMath_floorDiv_III x3 (3 : Int32)) : Int32) : Int32)) else (S_Wri_writeByThrees_J39 x2 x3 t0_0 t1_0 t2_0 t2_1 t3_0 lx15 ((-3) * ((F_jMath_floorDiv_III (-x3 : Int32) (3 : Int32)) : Int32) : Int32))
def S_Wri_writeByThrees (x2 : Int32) (x3 : Int32) (t0_0 : Int32) (t1_0 : (Nat → Int64)) (t2_0 : Int32) (t2_1 : Int32) (t3_0 : (Nat → Int32)) : Prop := if t2_0 = (0 : Int32) then (S_Wri_writeByThrees_J15 x2 x3 t0_0 t1_0 t2_0 t2_1 t3_0 1) else (S_Wri_writeByThrees_J15 x2 x3 t0_0 t1_0 t2_0 t2_1 t3_0 0)
set_option maxRecDepth 100000 in
set_option maxHeartbeats 4000000 in
theorem X_Wri_writeByThrees (l : Launch) (D : va_G) (g : Nat → ClassId) (q : Nat → Nat) (ws : va_W) (x2 : Int32) (x3 : Int32) (hI : q_I (nsh g q) q ws) (t0_0 : Int32) (hT0 : ws[3]? = (some (q 3, .inr (1, [.ref (q 4), .int 11008, .int t0_0])) : Option (Nat × va_E))) (t1_0 : (Nat → Int64)) (hT1 : ws[4]? = (some (q 4, .inl (g 1, (1376 : Int32).toNatClampNeg, .inr (.inl t1_0))) : Option (Nat × va_E))) (t2_0 : Int32) (t2_1 : Int32) (hT2 : ws[36]? = (some (q 36, .inr (7, [.int t2_0, .int t2_1, .ref (q 37)])) : Option (Nat × va_E))) (t3_0 : (Nat → Int32)) (hT3 : ws[37]? = (some (q 37, .inl (g 2, 1026, .inl t3_0)) : Option (Nat × va_E))) (pre0 : 1 ≤ x2.toInt) (pre1 : x2.toInt ≤ 1000) (pre2 : 0 ≤ x3.toInt + 10001) (pre3 : x3.toInt ≤ 11000) (pre4 : t0_0.toInt ≤ 10) (hS : True ∧ S_Wri_writeByThrees x2 x3 t0_0 t1_0 t2_0 t2_1 t3_0) : q_mV l y_Wri_writeByThrees prog_12_method_4_code 7 4 0 0 D g [.ref (q 39), .int x2, .int x3] ws (fun u => q_I (nsh g q) q u ∧ q_un ws u [3, 4] ∧ ∃ (u0_0 : Int32) (u1_0 : (Nat → Int64)), u[3]? = (some (q 3, .inr (1, [.ref (q 4), .int 11008, .int u0_0])) : Option (Nat × va_E)) ∧ u[4]? = (some (q 4, .inl (g 1, (1376 : Int32).toNatClampNeg, .inr (.inl u1_0))) : Option (Nat × va_E)) ∧ (t0_0.toInt ≤ u0_0.toInt) ∧ (u0_0.toInt ≤ t0_0.toInt + 40007) ∧ (u0_0, u1_0) = (F_Wri_writeByThrees x2 x3 t0_0 t1_0 t2_0 t2_1 t3_0)) := by
  intro sz
  refine q_into (by decide) (Nat.le_of_ble_eq_true rfl) ?_
  intro p e s m below meth c ls hsz C0 V hl
  have hx := C0.1
  have hb := C0.2.1
  obtain ⟨yy0_0, hh0, btt0_0⟩ := n_shO hI (n_h3 g q)
  obtain ⟨rfl⟩ : t0_0 = yy0_0 := by have z := Option.some.inj (hT0.symm.trans hh0); simpa using z
  replace btt0_0 : q_F (0 ≤ t0_0.toInt ∧ t0_0.toInt ≤ 1000000) := btt0_0
  obtain ⟨yy2_0, yy2_1, hh2, btt2_0, btt2_1⟩ := n_o36 hI
  obtain ⟨rfl, rfl⟩ : t2_0 = yy2_0 ∧ t2_1 = yy2_1 := by have z := Option.some.inj (hT2.symm.trans hh2); simpa using z
  replace btt2_0 : q_F (0 ≤ t2_0.toInt ∧ t2_0.toInt ≤ 1026) := btt2_0
  replace btt2_1 : q_F (-1000000 ≤ t2_1.toInt ∧ t2_1.toInt ≤ 1000000) := btt2_1
  replace pre0 : q_F (1 ≤ x2.toInt) := pre0
  replace pre1 : q_F (x2.toInt ≤ 1000) := pre1
  replace pre2 : q_F (0 ≤ x3.toInt + 10001) := pre2
  replace pre3 : q_F (x3.toInt ≤ 11000) := pre3
  replace pre4 : q_F (t0_0.toInt ≤ 10) := pre4
  have hF : q_un ws ws [3, 4] := q_u0
  have hl : lv_has ls 7 [(0, .ref (q 39)), (1, .int x2), (2, .int x3)] := hl
  refine lv_aload_n hx hb d_12_4_0 rfl (lv_at hl 0 rfl) ?_
  have hO14 := n_o39 hI
  refine q_get (ci := 9) (j := 2) (v := .ref (q 36)) C0 V i_Wri rfl rfl hO14 (by decide) w_331 rfl d_12_4_1 ?_
  refine q_get (ci := 7) (j := 0) (v := .int t2_0) C0 V i_Dig rfl rfl hT2 (by decide) w_265 rfl d_12_4_4 ?_
  refine q_join (X := Int32) (fun z H locs ls _ => q_F (0 ≤ z.toInt) ∧ q_F (z.toInt ≤ 1) ∧ q_Wd D g (va_A ws sz) s ws H locs ∧ lv_has ls 7 [(0, .ref (q 39)), (1, .int x2), (2, .int x3)] ∧ F_Wri_writeByThrees_J15 x2 x3 t0_0 t1_0 t2_0 t2_1 t3_0 z = (F_Wri_writeByThrees x2 x3 t0_0 t1_0 t2_0 t2_1 t3_0) ∧ True ∧ S_Wri_writeByThrees_J15 x2 x3 t0_0 t1_0 t2_0 t2_1 t3_0 z) (fun z => [.int z]) 15 0 0 ?_ ?_
  ·
    rintro lx15 H locs ls _ ⟨i21, i22, V, hl, hR23, hS24⟩
    replace i21 : q_F (0 ≤ lx15.toInt) := i21
    replace i22 : q_F (lx15.toInt ≤ 1) := i22
    replace hl : lv_has ls 7 [(0, .ref (q 39)), (1, .int x2), (2, .int x3)] := hl
    refine lv_istore_n (lv' := [(3, .int lx15), (0, .ref (q 39)), (1, .int x2), (2, .int x3)]) hx hb d_12_4_15 rfl hl (by decide) rfl (fun ls hl => ?_)
    refine lv_iload_n hx hb d_12_4_16 rfl (lv_at hl 0 rfl) ?_
    refine q_join (X := Int32) (fun z H locs ls _ => q_Wd D g (va_A ws sz) s ws H locs ∧ lv_has ls 7 [(3, .int lx15), (0, .ref (q 39)), (1, .int x2), (2, .int x3)] ∧ F_Wri_writeByThrees_J39 x2 x3 t0_0 t1_0 t2_0 t2_1 t3_0 lx15 z = (F_Wri_writeByThrees x2 x3 t0_0 t1_0 t2_0 t2_1 t3_0) ∧ True ∧ S_Wri_writeByThrees_J39 x2 x3 t0_0 t1_0 t2_0 t2_1 t3_0 lx15 z) (fun z => [.int z]) 39 0 0 ?_ ?_
    ·
      rintro lx28 H locs ls _ ⟨V, hl, hR34, hS35⟩
      replace hl : lv_has ls 7 [(3, .int lx15), (0, .ref (q 39)), (1, .int x2), (2, .int x3)] := hl
      refine lv_istore (lv' := [(4, .int lx28), (3, .int lx15), (0, .ref (q 39)), (1, .int x2), (2, .int x3)]) hx hb d_12_4_39 hl (by decide) rfl (fun ls hl => ?_)
      refine lv_iload_n hx hb d_12_4_41 rfl (lv_at hl 1 rfl) ?_
      refine q_join (X := Int32) (fun z H locs ls _ => q_Wd D g (va_A ws sz) s ws H locs ∧ lv_has ls 7 [(4, .int lx28), (3, .int lx15), (0, .ref (q 39)), (1, .int x2), (2, .int x3)] ∧ F_Wri_writeByThrees_J55 x2 x3 t0_0 t1_0 t2_0 t2_1 t3_0 lx15 lx28 z = (F_Wri_writeByThrees x2 x3 t0_0 t1_0 t2_0 t2_1 t3_0) ∧ True ∧ S_Wri_writeByThrees_J55 x2 x3 t0_0 t1_0 t2_0 t2_1 t3_0 lx15 lx28 z) (fun z => [.int z]) 55 0 0 ?_ ?_
      ·
        rintro lx39 H locs ls _ ⟨V, hl, hR45, hS46⟩
        replace hl : lv_has ls 7 [(4, .int lx28), (3, .int lx15), (0, .ref (q 39)), (1, .int x2), (2, .int x3)] := hl
        refine lv_istore (lv' := [(5, .int lx39), (4, .int lx28), (3, .int lx15), (0, .ref (q 39)), (1, .int x2), (2, .int x3)]) hx hb d_12_4_55 hl (by decide) rfl (fun ls hl => ?_)
        refine lv_iload_n hx hb d_12_4_57 rfl (lv_at hl 2 rfl) ?_
        refine q_join (X := Int32) (fun z H locs ls _ => q_Wd D g (va_A ws sz) s ws H locs ∧ lv_has ls 7 [(5, .int lx39), (4, .int lx28), (0, .ref (q 39))] ∧ F_Wri_writeByThrees_J71 x2 x3 t0_0 t1_0 t2_0 t2_1 t3_0 lx15 lx28 lx39 z = (F_Wri_writeByThrees x2 x3 t0_0 t1_0 t2_0 t2_1 t3_0) ∧ True ∧ S_Wri_writeByThrees_J71 x2 x3 t0_0 t1_0 t2_0 t2_1 t3_0 lx15 lx28 lx39 z) (fun z => [.int z]) 71 0 0 ?_ ?_
        ·
          rintro lx50 H locs ls _ ⟨V, hl, hR56, hS57⟩
          replace hl : lv_has ls 7 [(5, .int lx39), (4, .int lx28), (0, .ref (q 39))] := hl
          refine lv_istore (lv' := [(6, .int lx50), (5, .int lx39), (4, .int lx28), (0, .ref (q 39))]) hx hb d_12_4_71 hl (by decide) rfl (fun ls hl => ?_)
          refine lv_aload_n hx hb d_12_4_73 rfl (lv_at hl 3 rfl) ?_
          refine q_get (ci := 9) (j := 2) (v := .ref (q 36)) C0 V i_Wri rfl rfl hO14 (by decide) w_331 rfl d_12_4_74 ?_
          refine lv_aload_n hx hb d_12_4_77 rfl (lv_at hl 3 rfl) ?_
          refine q_get (ci := 9) (j := 0) (v := .ref (q 3)) C0 V i_Wri rfl rfl hO14 (by decide) w_329 rfl d_12_4_78 ?_
          refine lv_iload hx hb d_12_4_81 (lv_at hl 1 rfl) ?_
          refine lv_iload hx hb d_12_4_83 (lv_at hl 0 rfl) ?_
          have ob61 : q_F (lx39.toInt ≤ 20000) := (by have h := hS57; rw [S_Wri_writeByThrees_J71.eq_1] at h; exact h.2.1)
          have ob62 : q_F (lx50.toInt ≤ 20000) := (by have h := hS57; rw [S_Wri_writeByThrees_J71.eq_1] at h; replace h := q_s2 h; exact h.2.1)
          refine q_gov V (q_runV (As := [.ref (q 3), .int lx39, .int lx50]) (rest := []) (d := 2) (mc := 0) (ms := 0) (ci := 7) C0 V rfl LV_Wri_111 (X_Dig_writeSplit l D g q ws 3 11008 1376 1000000 (n_h3 g q) lx39 lx50 hI t2_0 t2_1 hT2 t3_0 hT3 t0_0 hT0 t1_0 hT1 (by have y0 : (11008 : Int32).toInt = 11008 := rfl; have y1 : (1376 : Int32).toInt = 1376 := rfl; have y2 : (1000000 : Int32).toInt = 1000000 := rfl; have t1 : lx39.toInt ≤ 20000 := ob61; omega) (by have y0 : (11008 : Int32).toInt = 11008 := rfl; have y1 : (1376 : Int32).toInt = 1376 := rfl; have y2 : (1000000 : Int32).toInt = 1000000 := rfl; have t1 : lx50.toInt ≤ 20000 := ob62; omega) (by have y0 : (11008 : Int32).toInt = 11008 := rfl; have y1 : (1376 : Int32).toInt = 1376 := rfl; have y2 : (1000000 : Int32).toInt = 1000000 := rfl; have t1 : t0_0.toInt ≤ 10 := pre4; omega) (by have y0 : (11008 : Int32).toInt = 11008 := rfl; have y1 : (1376 : Int32).toInt = 1376 := rfl; have y2 : (1000000 : Int32).toInt = 1000000 := rfl; omega) _) rfl rfl hT2 rfl hl.1 rfl (Nat.le_of_ble_eq_true rfl) ⟨by decide, by decide⟩ ⟨Nat.le_of_ble_eq_true rfl, Nat.le_of_ble_eq_true rfl⟩ d_12_4_85) (fun u63 H locs hp64 V => ?_)
          obtain ⟨hI, hu74, y66, f67, hO65, hA68, b69, b70, b71, b72, hE73⟩ := hp64
          replace hO65 : u63[3]? = (some (q 3, .inr (1, [.ref (q 4), .int 11008, .int y66])) : Option (Nat × va_E)) := hO65
          replace hA68 : u63[4]? = (some (q 4, .inl (g 1, (1376 : Int32).toNatClampNeg, .inr (.inl f67))) : Option (Nat × va_E)) := hA68
          obtain ⟨p75, e76⟩ : ∃ z, z = (F_Dig_writeSplit (11008 : Int32) (1376 : Int32) (1000000 : Int32) lx39 lx50 t2_0 t2_1 t3_0 t0_0 t1_0) := ⟨_, rfl⟩
          have e77 : y66 = p75.1 := congrArg (fun z => z.1) (hE73.trans e76.symm)
          have e78 : f67 = p75.2 := congrArg (fun z => z.2) (hE73.trans e76.symm)
          replace b69 : q_F (lx39.toInt ≤ y66.toInt) := b69
          replace b70 : q_F (lx50.toInt ≤ y66.toInt) := b70
          replace b71 : q_F (t0_0.toInt ≤ y66.toInt) := b71
          replace b72 : q_F (y66.toInt ≤ t0_0.toInt + 40000) := b72
          replace hT2 := (hu74 _ (by decide)).trans hT2
          replace hT3 := (hu74 _ (by decide)).trans hT3
          replace hO14 := (hu74 _ (by decide)).trans hO14
          replace hF := q_uc hF hu74 (by simp)
          have hR79 := (show F_Wri_writeByThrees_c85 x2 x3 t0_0 t1_0 t2_0 t2_1 t3_0 lx15 lx28 lx39 lx50 p75 = (F_Wri_writeByThrees x2 x3 t0_0 t1_0 t2_0 t2_1 t3_0) from Eq.trans (by rw [e76, F_Wri_writeByThrees_J71.eq_1]) hR56)
          have hS80 := (show True ∧ S_Wri_writeByThrees_c85 x2 x3 t0_0 t1_0 t2_0 t2_1 t3_0 lx15 lx28 lx39 lx50 p75 from (by rw [e76]; have h := hS57; rw [S_Wri_writeByThrees_J71.eq_1] at h; replace h := q_s2 h; replace h := q_s2 h; with_reducible exact h))
          refine lv_iload hx hb d_12_4_88 (lv_at hl 2 rfl) ?_
          refine lv_if_eq (tgt := 99) hx hb d_12_4_90 (by decide) (fun c84 => ?_) (fun c84 => ?_)
          ·
            have b85 : q_F (lx28.toInt = 0) := (q_eqI c84)
            exact q_retv C0 V (⟨hI, hF, y66, f67, hO65, hA68, (show t0_0.toInt ≤ y66.toInt from (by have t1 : t0_0.toInt ≤ y66.toInt := b71; omega)), (show y66.toInt ≤ t0_0.toInt + 40007 from (by have t1 : y66.toInt ≤ t0_0.toInt + 40000 := b72; omega)), (show (y66, f67) = (F_Wri_writeByThrees x2 x3 t0_0 t1_0 t2_0 t2_1 t3_0) from Eq.trans (by rw [e78, e77, F_Wri_writeByThrees_c85.eq_1, if_pos c84]) hR79)⟩) d_12_4_99
          ·
            have b86 : q_F (lx28.toInt ≠ 0) := (q_neI c84)
            refine lv_aload_n hx hb d_12_4_93 rfl (lv_at hl 3 rfl) ?_
            refine lv_iload hx hb d_12_4_94 (lv_at hl 2 rfl) ?_
            have ob87 : q_F (0 ≤ lx28.toInt + 2147483647) := (by have h := hS80; rw [S_Wri_writeByThrees_c85.eq_1] at h; rw [if_neg c84] at h; exact h.2.1)
            refine q_gov V (q_runV (As := [.int lx28]) (rest := []) (d := 3) (mc := 0) (ms := 0) (ci := 9) C0 V rfl LV_Wri_98 (X_Wri_writePower l D g q u63  lx28 hI y66 hO65 f67 hA68 (by have t1 : t0_0.toInt ≤ 10 := pre4; have t2 : y66.toInt ≤ t0_0.toInt + 40000 := b72; omega) (by have t1 : 0 ≤ lx28.toInt + 2147483647 := ob87; omega) _) rfl rfl hO14 rfl hl.1 rfl (Nat.le_of_ble_eq_true rfl) ⟨by decide, by decide⟩ ⟨Nat.le_of_ble_eq_true rfl, Nat.le_of_ble_eq_true rfl⟩ d_12_4_96) (fun u88 H locs hp89 V => ?_)
            obtain ⟨hI, hu97, y91, f92, hO90, hA93, b94, b95, hE96⟩ := hp89
            replace hO90 : u88[3]? = (some (q 3, .inr (1, [.ref (q 4), .int 11008, .int y91])) : Option (Nat × va_E)) := hO90
            replace hA93 : u88[4]? = (some (q 4, .inl (g 1, (1376 : Int32).toNatClampNeg, .inr (.inl f92))) : Option (Nat × va_E)) := hA93
            obtain ⟨p98, e99⟩ : ∃ z, z = (F_Wri_writePower lx28 y66 f67) := ⟨_, rfl⟩
            have e100 : y91 = p98.1 := congrArg (fun z => z.1) (hE96.trans e99.symm)
            have e101 : f92 = p98.2 := congrArg (fun z => z.2) (hE96.trans e99.symm)
            replace b94 : q_F (y66.toInt + 2 ≤ y91.toInt) := b94
            replace b95 : q_F (y91.toInt ≤ y66.toInt + 7) := b95
            replace hT2 := (hu97 _ (by decide)).trans hT2
            replace hT3 := (hu97 _ (by decide)).trans hT3
            replace hO14 := (hu97 _ (by decide)).trans hO14
            replace hF := q_uc hF hu97 (by simp)
            have hR102 := (show F_Wri_writeByThrees_c96 x2 x3 t0_0 t1_0 t2_0 t2_1 t3_0 lx15 lx28 lx39 lx50 p75 p98 = (F_Wri_writeByThrees x2 x3 t0_0 t1_0 t2_0 t2_1 t3_0) from Eq.trans (by rw [e99, e78, e77, F_Wri_writeByThrees_c85.eq_1, if_neg c84]) hR79)
            have hS103 := (show True ∧ S_Wri_writeByThrees_c96 x2 x3 t0_0 t1_0 t2_0 t2_1 t3_0 lx15 lx28 lx39 lx50 p75 p98 from (by rw [e99, e78, e77]; have h := hS80; rw [S_Wri_writeByThrees_c85.eq_1] at h; rw [if_neg c84] at h; replace h := q_s2 h; with_reducible exact h))
            exact q_retv C0 V (⟨hI, hF, y91, f92, hO90, hA93, (show t0_0.toInt ≤ y91.toInt from (by have t1 : t0_0.toInt ≤ y66.toInt := b71; have t2 : y66.toInt + 2 ≤ y91.toInt := b94; omega)), (show y91.toInt ≤ t0_0.toInt + 40007 from (by have t1 : y66.toInt ≤ t0_0.toInt + 40000 := b72; have t2 : y91.toInt ≤ y66.toInt + 7 := b95; omega)), (show (y91, f92) = (F_Wri_writeByThrees x2 x3 t0_0 t1_0 t2_0 t2_1 t3_0) from Eq.trans (by rw [e101, e100, F_Wri_writeByThrees_c96.eq_1]) hR102)⟩) d_12_4_99
        ·
          intro J55
          refine lv_if_eq (tgt := 70) hx hb d_12_4_58 (by decide) (fun c107 => ?_) (fun c107 => ?_)
          ·
            have b108 : q_F (lx15.toInt = 0) := (q_eqI c107)
            refine lv_iload_n hx hb d_12_4_70 rfl (lv_at hl 4 rfl) ?_
            exact J55 ((x2 : Int32)) _ _ _ ws ⟨V, q_lw hl (q_lw1 0 rfl (q_lw1 1 rfl (q_lw1 3 rfl q_lw0))), (show F_Wri_writeByThrees_J71 x2 x3 t0_0 t1_0 t2_0 t2_1 t3_0 lx15 lx28 lx39 x2 = (F_Wri_writeByThrees x2 x3 t0_0 t1_0 t2_0 t2_1 t3_0) from Eq.trans (by rw [F_Wri_writeByThrees_J55.eq_1, if_pos c107]) hR45), (show True ∧ S_Wri_writeByThrees_J71 x2 x3 t0_0 t1_0 t2_0 t2_1 t3_0 lx15 lx28 lx39 x2 from (by have h := hS46; rw [S_Wri_writeByThrees_J55.eq_1] at h; rw [if_pos c107] at h; with_reducible exact h))⟩
          ·
            have b109 : q_F (lx15.toInt ≠ 0) := (q_neI c107)
            refine lv_iconst (v := 1) hx hb d_12_4_61 (by decide) ?_
            refine lv_iload hx hb d_12_4_62 (lv_at hl 1 rfl) ?_
            refine lv_iadd hx hb d_12_4_64 ?_
            obtain ⟨a110, e111⟩ := q_nm (1 + lx28 : Int32)
            refine q_ti (v := a110) e111 ?_
            refine lv_iload_n hx hb d_12_4_65 rfl (lv_at hl 5 rfl) ?_
            refine lv_isub hx hb d_12_4_66 ?_
            obtain ⟨a112, e113⟩ := q_nm (a110 - x3 : Int32)
            refine q_ti (v := a112) e113 ?_
            refine lv_goto (tgt := 71) hx hb d_12_4_67 (by decide) ?_
            exact J55 ((a112 : Int32)) _ _ _ ws ⟨V, q_lw hl (q_lw1 0 rfl (q_lw1 1 rfl (q_lw1 3 rfl q_lw0))), (show F_Wri_writeByThrees_J71 x2 x3 t0_0 t1_0 t2_0 t2_1 t3_0 lx15 lx28 lx39 a112 = (F_Wri_writeByThrees x2 x3 t0_0 t1_0 t2_0 t2_1 t3_0) from Eq.trans (by rw [← e113, ← e111, F_Wri_writeByThrees_J55.eq_1, if_neg c107]) hR45), (show True ∧ S_Wri_writeByThrees_J71 x2 x3 t0_0 t1_0 t2_0 t2_1 t3_0 lx15 lx28 lx39 a112 from (by rw [← e113, ← e111]; have h := hS46; rw [S_Wri_writeByThrees_J55.eq_1] at h; rw [if_neg c107] at h; with_reducible exact h))⟩
      ·
        intro J44
        refine lv_if_eq (tgt := 49) hx hb d_12_4_42 (by decide) (fun c114 => ?_) (fun c114 => ?_)
        ·
          have b115 : q_F (lx15.toInt = 0) := (q_eqI c114)
          refine lv_iload_n hx hb d_12_4_49 rfl (lv_at hl 4 rfl) ?_
          refine lv_iload hx hb d_12_4_50 (lv_at hl 0 rfl) ?_
          refine lv_isub hx hb d_12_4_52 ?_
          obtain ⟨a116, e117⟩ := q_nm (x3 - lx28 : Int32)
          refine q_ti (v := a116) e117 ?_
          refine lv_iconst (v := 1) hx hb d_12_4_53 (by decide) ?_
          refine lv_iadd hx hb d_12_4_54 ?_
          obtain ⟨a118, e119⟩ := q_nm (a116 + 1 : Int32)
          refine q_ti (v := a118) e119 ?_
          exact J44 ((a118 : Int32)) _ _ _ ws ⟨V, q_lw hl (q_lw1 0 rfl (q_lw1 1 rfl (q_lw1 2 rfl (q_lw1 3 rfl (q_lw1 4 rfl q_lw0))))), (show F_Wri_writeByThrees_J55 x2 x3 t0_0 t1_0 t2_0 t2_1 t3_0 lx15 lx28 a118 = (F_Wri_writeByThrees x2 x3 t0_0 t1_0 t2_0 t2_1 t3_0) from Eq.trans (by rw [← e119, ← e117, F_Wri_writeByThrees_J39.eq_1, if_pos c114]) hR34), (show True ∧ S_Wri_writeByThrees_J55 x2 x3 t0_0 t1_0 t2_0 t2_1 t3_0 lx15 lx28 a118 from (by rw [← e119, ← e117]; have h := hS35; rw [S_Wri_writeByThrees_J39.eq_1] at h; rw [if_pos c114] at h; with_reducible exact h))⟩
        ·
          have b120 : q_F (lx15.toInt ≠ 0) := (q_neI c114)
          refine lv_iconst (v := 1) hx hb d_12_4_45 (by decide) ?_
          refine lv_goto (tgt := 55) hx hb d_12_4_46 (by decide) ?_
          exact J44 ((1 : Int32)) _ _ _ ws ⟨V, q_lw hl (q_lw1 0 rfl (q_lw1 1 rfl (q_lw1 2 rfl (q_lw1 3 rfl (q_lw1 4 rfl q_lw0))))), (show F_Wri_writeByThrees_J55 x2 x3 t0_0 t1_0 t2_0 t2_1 t3_0 lx15 lx28 1 = (F_Wri_writeByThrees x2 x3 t0_0 t1_0 t2_0 t2_1 t3_0) from Eq.trans (by rw [F_Wri_writeByThrees_J39.eq_1, if_neg c114]) hR34), (show True ∧ S_Wri_writeByThrees_J55 x2 x3 t0_0 t1_0 t2_0 t2_1 t3_0 lx15 lx28 1 from (by have h := hS35; rw [S_Wri_writeByThrees_J39.eq_1] at h; rw [if_neg c114] at h; with_reducible exact h))⟩
    ·
      intro J33
      refine lv_if_eq (tgt := 32) hx hb d_12_4_17 (by decide) (fun c121 => ?_) (fun c121 => ?_)
      ·
        have b122 : q_F (lx15.toInt = 0) := (q_eqI c121)
        refine lv_iconst (v := 3) hx hb d_12_4_32 (by decide) ?_
        refine lv_iload_n hx hb d_12_4_33 rfl (lv_at hl 3 rfl) ?_
        refine lv_iconst (v := 3) hx hb d_12_4_34 (by decide) ?_
        refine q_goi V (q_runS (As := [.int x3, .int 3]) (rest := [.int 3]) (d := 1) (mc := 0) (ms := 0) C0 V rfl LS_Wri_108 (X_jMath_floorDiv_III l D g q ws  x3 3 hI  (by have y0 : (3 : Int32).toInt = 3 := rfl; omega) _) rfl hl.1 rfl (Nat.le_of_ble_eq_true rfl) ⟨by decide, by decide⟩ ⟨Nat.le_of_ble_eq_true rfl, Nat.le_of_ble_eq_true rfl⟩ d_12_4_35) (fun a125 u123 H locs hp124 V => ?_)
        obtain ⟨rfl, hE126⟩ := hp124
        have e127 : a125 = (F_jMath_floorDiv_III x3 (3 : Int32)) := hE126
        refine lv_imul hx hb d_12_4_38 ?_
        obtain ⟨a128, e129⟩ := q_nm (3 * a125 : Int32)
        refine q_ti (v := a128) e129 ?_
        exact J33 ((a128 : Int32)) _ _ _ ws ⟨V, q_lw hl (q_lw1 0 rfl (q_lw1 1 rfl (q_lw1 2 rfl (q_lw1 3 rfl q_lw0)))), (show F_Wri_writeByThrees_J39 x2 x3 t0_0 t1_0 t2_0 t2_1 t3_0 lx15 a128 = (F_Wri_writeByThrees x2 x3 t0_0 t1_0 t2_0 t2_1 t3_0) from Eq.trans (by rw [← e129, e127, F_Wri_writeByThrees_J15.eq_1, if_pos c121]) hR23), (show True ∧ S_Wri_writeByThrees_J39 x2 x3 t0_0 t1_0 t2_0 t2_1 t3_0 lx15 a128 from (by rw [← e129, e127]; have h := hS24; rw [S_Wri_writeByThrees_J15.eq_1] at h; rw [if_pos c121] at h; with_reducible exact h))⟩
      ·
        have b130 : q_F (lx15.toInt ≠ 0) := (q_neI c121)
        refine lv_bipush (v := (-3)) hx hb d_12_4_20 (by decide) ?_
        refine lv_iload_n hx hb d_12_4_22 rfl (lv_at hl 3 rfl) ?_
        refine lv_ineg hx hb d_12_4_23 ?_
        obtain ⟨a131, e132⟩ := q_nm (-x3 : Int32)
        refine q_ti (v := a131) e132 ?_
        have b133 : q_F (a131.toInt = -x3.toInt) := (by rw [← e132]; show (-x3 : Int32).toInt = -x3.toInt; exact q_negI rfl (by have t1 : 0 ≤ x3.toInt + 10001 := pre2; omega))
        refine lv_iconst (v := 3) hx hb d_12_4_24 (by decide) ?_
        refine q_goi V (q_runS (As := [.int a131, .int 3]) (rest := [.int (-3)]) (d := 1) (mc := 0) (ms := 0) C0 V rfl LS_Wri_108 (X_jMath_floorDiv_III l D g q ws  a131 3 hI  (by have y0 : (3 : Int32).toInt = 3 := rfl; omega) _) rfl hl.1 rfl (Nat.le_of_ble_eq_true rfl) ⟨by decide, by decide⟩ ⟨Nat.le_of_ble_eq_true rfl, Nat.le_of_ble_eq_true rfl⟩ d_12_4_25) (fun a136 u134 H locs hp135 V => ?_)
        obtain ⟨rfl, hE137⟩ := hp135
        have e138 : a136 = (F_jMath_floorDiv_III a131 (3 : Int32)) := hE137
        refine lv_imul hx hb d_12_4_28 ?_
        obtain ⟨a139, e140⟩ := q_nm ((-3) * a136 : Int32)
        refine q_ti (v := a139) e140 ?_
        refine lv_goto (tgt := 39) hx hb d_12_4_29 (by decide) ?_
        exact J33 ((a139 : Int32)) _ _ _ ws ⟨V, q_lw hl (q_lw1 0 rfl (q_lw1 1 rfl (q_lw1 2 rfl (q_lw1 3 rfl q_lw0)))), (show F_Wri_writeByThrees_J39 x2 x3 t0_0 t1_0 t2_0 t2_1 t3_0 lx15 a139 = (F_Wri_writeByThrees x2 x3 t0_0 t1_0 t2_0 t2_1 t3_0) from Eq.trans (by rw [← e140, e138, ← e132, F_Wri_writeByThrees_J15.eq_1, if_neg c121]) hR23), (show True ∧ S_Wri_writeByThrees_J39 x2 x3 t0_0 t1_0 t2_0 t2_1 t3_0 lx15 a139 from (by rw [← e140, e138, ← e132]; have h := hS24; rw [S_Wri_writeByThrees_J15.eq_1] at h; rw [if_neg c121] at h; with_reducible exact h))⟩
  ·
    intro J20
    refine lv_if_ne (tgt := 14) hx hb d_12_4_7 (by decide) (fun c141 => ?_) (fun c141 => ?_)
    ·
      have b142 : q_F (t2_0.toInt ≠ 0) := (q_neI c141)
      refine lv_iconst (v := 0) hx hb d_12_4_14 (by decide) ?_
      exact J20 ((0 : Int32)) _ _ _ ws ⟨(show q_F (0 ≤ 0) from (show 0 ≤ 0 from by omega)), (show q_F (0 ≤ 1) from (show 0 ≤ 1 from by omega)), V, q_lw hl (q_lw1 0 rfl (q_lw1 1 rfl (q_lw1 2 rfl q_lw0))), (show F_Wri_writeByThrees_J15 x2 x3 t0_0 t1_0 t2_0 t2_1 t3_0 0 = (F_Wri_writeByThrees x2 x3 t0_0 t1_0 t2_0 t2_1 t3_0) from (by rw [F_Wri_writeByThrees.eq_1, if_neg c141])), (show True ∧ S_Wri_writeByThrees_J15 x2 x3 t0_0 t1_0 t2_0 t2_1 t3_0 0 from (by have h := hS; rw [S_Wri_writeByThrees.eq_1] at h; rw [if_neg c141] at h; with_reducible exact h))⟩
    ·
      have b143 : q_F (t2_0.toInt = 0) := (q_eqI c141)
      refine lv_iconst (v := 1) hx hb d_12_4_10 (by decide) ?_
      refine lv_goto (tgt := 15) hx hb d_12_4_11 (by decide) ?_
      exact J20 ((1 : Int32)) _ _ _ ws ⟨(show q_F (0 ≤ 1) from (show 0 ≤ 1 from by omega)), (show q_F (1 ≤ 1) from (show 1 ≤ 1 from by omega)), V, q_lw hl (q_lw1 0 rfl (q_lw1 1 rfl (q_lw1 2 rfl q_lw0))), (show F_Wri_writeByThrees_J15 x2 x3 t0_0 t1_0 t2_0 t2_1 t3_0 1 = (F_Wri_writeByThrees x2 x3 t0_0 t1_0 t2_0 t2_1 t3_0) from (by rw [F_Wri_writeByThrees.eq_1, if_pos c141])), (show True ∧ S_Wri_writeByThrees_J15 x2 x3 t0_0 t1_0 t2_0 t2_1 t3_0 1 from (by have h := hS; rw [S_Wri_writeByThrees.eq_1] at h; rw [if_pos c141] at h; with_reducible exact h))⟩
theorem d_12_3_0 : decode prog_12_method_3_code 0 = .ok (.aload_n 0, 1) := by decide +kernel
theorem d_12_3_1 : decode prog_12_method_3_code 1 = .ok (.aload_n 1, 1) := by decide +kernel
theorem d_12_3_2 : decode prog_12_method_3_code 2 = .ok (.getfield 69, 3) := by decide +kernel
set_option maxRecDepth 100000 in
theorem w_173 : (Cond.fieldLink "NumberHouse$Writer" (69 : Nat) "NumberHouse$Dec" "number" "LNumberHouse$Big;") ∈ q_tbl := q_of1 173 rfl (by decide +kernel)
theorem d_12_3_5 : decode prog_12_method_3_code 5 = .ok (.getfield 21, 3) := by decide +kernel
theorem d_12_3_8 : decode prog_12_method_3_code 8 = .ok (.invokevirtual 27, 3) := by decide +kernel
theorem d_12_3_11 : decode prog_12_method_3_code 11 = .ok (.aload_n 0, 1) := by decide +kernel
theorem d_12_3_12 : decode prog_12_method_3_code 12 = .ok (.getfield 13, 3) := by decide +kernel
theorem d_12_3_15 : decode prog_12_method_3_code 15 = .ok (.getfield 39, 3) := by decide +kernel
theorem d_12_3_18 : decode prog_12_method_3_code 18 = .ok (.aload_n 1, 1) := by decide +kernel
theorem d_12_3_19 : decode prog_12_method_3_code 19 = .ok (.getfield 69, 3) := by decide +kernel
theorem d_12_3_22 : decode prog_12_method_3_code 22 = .ok (.invokevirtual 45, 3) := by decide +kernel
theorem d_12_3_25 : decode prog_12_method_3_code 25 = .ok (.aload_n 0, 1) := by decide +kernel
theorem d_12_3_26 : decode prog_12_method_3_code 26 = .ok (.getfield 17, 3) := by decide +kernel
theorem d_12_3_29 : decode prog_12_method_3_code 29 = .ok (.aload_n 0, 1) := by decide +kernel
theorem d_12_3_30 : decode prog_12_method_3_code 30 = .ok (.getfield 13, 3) := by decide +kernel
theorem d_12_3_33 : decode prog_12_method_3_code 33 = .ok (.getfield 39, 3) := by decide +kernel
theorem d_12_3_36 : decode prog_12_method_3_code 36 = .ok (.aload_n 1, 1) := by decide +kernel
theorem d_12_3_37 : decode prog_12_method_3_code 37 = .ok (.getfield 72, 3) := by decide +kernel
set_option maxRecDepth 100000 in
theorem w_177 : (Cond.fieldLink "NumberHouse$Writer" (72 : Nat) "NumberHouse$Dec" "scale" "I") ∈ q_tbl := q_of1 177 rfl (by decide +kernel)
theorem d_12_3_40 : decode prog_12_method_3_code 40 = .ok (.invokevirtual 75, 3) := by decide +kernel
set_option maxRecDepth 100000 in
theorem w_1141 : (Cond.code ({ cls := "NumberHouse$Digits", name := "fill", desc := "(LNumberHouse$Big;I)V" } : MethodName) prog_5_method_2_code (6 : Nat) (none : Option ClassFile.FieldType)) ∈ q_tbl := q_of5 181 rfl (by decide +kernel)
set_option maxRecDepth 100000 in
theorem w_1565 : (Cond.methodLink "NumberHouse$Writer" (75 : Nat) ({ cls := "NumberHouse$Digits", name := "fill", desc := "(LNumberHouse$Big;I)V" } : MethodName)) ∈ q_tbl := q_of7 125 rfl (by decide +kernel)
set_option maxRecDepth 100000 in
theorem w_1139 : (Cond.instanceMethod ({ cls := "NumberHouse$Digits", name := "fill", desc := "(LNumberHouse$Big;I)V" } : MethodName)) ∈ q_tbl := q_of5 179 rfl (by decide +kernel)
set_option maxRecDepth 100000 in
theorem w_1140 : (Cond.selects "NumberHouse$Digits" ({ cls := "NumberHouse$Digits", name := "fill", desc := "(LNumberHouse$Big;I)V" } : MethodName) ({ cls := "NumberHouse$Digits", name := "fill", desc := "(LNumberHouse$Big;I)V" } : MethodName)) ∈ q_tbl := q_of5 180 rfl (by decide +kernel)
theorem LV_Wri_75 : q_LV "NumberHouse$Writer" 75 y_Dig_fill prog_5_method_2_code 6 none 2 := ⟨w_1141, w_9, w_1565, w_1139, w_1140, ⟨by decide, by decide, by decide +kernel⟩⟩
theorem d_12_3_43 : decode prog_12_method_3_code 43 = .ok (.iconst 0, 1) := by decide +kernel
theorem d_12_3_44 : decode prog_12_method_3_code 44 = .ok (.aload_n 1, 1) := by decide +kernel
theorem d_12_3_45 : decode prog_12_method_3_code 45 = .ok (.getfield 72, 3) := by decide +kernel
theorem d_12_3_48 : decode prog_12_method_3_code 48 = .ok (.invokestatic 81, 3) := by decide +kernel
set_option maxRecDepth 100000 in
theorem w_1566 : (Cond.methodLink "NumberHouse$Writer" (81 : Nat) ({ cls := "java/lang/Math", name := "max", desc := "(II)I" } : MethodName)) ∈ q_tbl := q_of7 126 rfl (by decide +kernel)
theorem d_12_3_51 : decode prog_12_method_3_code 51 = .ok (.istore_n 3, 1) := by decide +kernel
theorem d_12_3_52 : decode prog_12_method_3_code 52 = .ok (.aload_n 1, 1) := by decide +kernel
theorem d_12_3_53 : decode prog_12_method_3_code 53 = .ok (.getfield 87, 3) := by decide +kernel
set_option maxRecDepth 100000 in
theorem w_181 : (Cond.fieldLink "NumberHouse$Writer" (87 : Nat) "NumberHouse$Dec" "figureCount" "I") ∈ q_tbl := q_of1 181 rfl (by decide +kernel)
theorem d_12_3_56 : decode prog_12_method_3_code 56 = .ok (.iconst 1, 1) := by decide +kernel
theorem d_12_3_57 : decode prog_12_method_3_code 57 = .ok (.isub, 1) := by decide +kernel
theorem d_12_3_58 : decode prog_12_method_3_code 58 = .ok (.aload_n 1, 1) := by decide +kernel
theorem d_12_3_59 : decode prog_12_method_3_code 59 = .ok (.getfield 72, 3) := by decide +kernel
theorem d_12_3_62 : decode prog_12_method_3_code 62 = .ok (.isub, 1) := by decide +kernel
theorem d_12_3_63 : decode prog_12_method_3_code 63 = .ok (.istore 4, 2) := by decide +kernel
theorem d_12_3_65 : decode prog_12_method_3_code 65 = .ok (.iload_n 2, 1) := by decide +kernel
theorem d_12_3_66 : decode prog_12_method_3_code 66 = .ok (.iconst 1, 1) := by decide +kernel
theorem d_12_3_67 : decode prog_12_method_3_code 67 = .ok (.if_icmp .eq 24, 3) := by decide +kernel
theorem d_12_3_91 : decode prog_12_method_3_code 91 = .ok (.aload_n 0, 1) := by decide +kernel
theorem d_12_3_92 : decode prog_12_method_3_code 92 = .ok (.getfield 17, 3) := by decide +kernel
theorem d_12_3_95 : decode prog_12_method_3_code 95 = .ok (.aload_n 0, 1) := by decide +kernel
theorem d_12_3_96 : decode prog_12_method_3_code 96 = .ok (.getfield 7, 3) := by decide +kernel
theorem d_12_3_99 : decode prog_12_method_3_code 99 = .ok (.iload_n 3, 1) := by decide +kernel
theorem d_12_3_100 : decode prog_12_method_3_code 100 = .ok (.iconst 0, 1) := by decide +kernel
theorem d_12_3_101 : decode prog_12_method_3_code 101 = .ok (.iconst 0, 1) := by decide +kernel
theorem d_12_3_102 : decode prog_12_method_3_code 102 = .ok (.invokevirtual 90, 3) := by decide +kernel
set_option maxRecDepth 100000 in
theorem w_1567 : (Cond.methodLink "NumberHouse$Writer" (90 : Nat) ({ cls := "NumberHouse$Digits", name := "writePlain", desc := "(LNumberHouse$Sheet;IZZ)V" } : MethodName)) ∈ q_tbl := q_of7 127 rfl (by decide +kernel)
theorem LV_Wri_90 : q_LV "NumberHouse$Writer" 90 y_Dig_writePlain prog_5_method_9_code 6 none 4 := ⟨w_1570, w_9, w_1567, w_1568, w_1569, ⟨by decide, by decide, by decide +kernel⟩⟩
theorem d_12_3_105 : decode prog_12_method_3_code 105 = .ok (.goto 42, 3) := by decide +kernel
theorem d_12_3_147 : decode prog_12_method_3_code 147 = .ok (.return_, 1) := by decide +kernel
theorem d_12_3_70 : decode prog_12_method_3_code 70 = .ok (.aload_n 1, 1) := by decide +kernel
theorem d_12_3_71 : decode prog_12_method_3_code 71 = .ok (.getfield 72, 3) := by decide +kernel
theorem d_12_3_74 : decode prog_12_method_3_code 74 = .ok (.ifCond .eq 17, 3) := by decide +kernel
theorem d_12_3_77 : decode prog_12_method_3_code 77 = .ok (.aload_n 1, 1) := by decide +kernel
theorem d_12_3_78 : decode prog_12_method_3_code 78 = .ok (.getfield 72, 3) := by decide +kernel
theorem d_12_3_108 : decode prog_12_method_3_code 108 = .ok (.iload_n 2, 1) := by decide +kernel
theorem d_12_3_109 : decode prog_12_method_3_code 109 = .ok (.ifCond .ne 28, 3) := by decide +kernel
theorem d_12_3_137 : decode prog_12_method_3_code 137 = .ok (.aload_n 0, 1) := by decide +kernel
theorem d_12_3_138 : decode prog_12_method_3_code 138 = .ok (.aload_n 1, 1) := by decide +kernel
theorem d_12_3_139 : decode prog_12_method_3_code 139 = .ok (.getfield 87, 3) := by decide +kernel
theorem d_12_3_142 : decode prog_12_method_3_code 142 = .ok (.iload 4, 2) := by decide +kernel
theorem d_12_3_144 : decode prog_12_method_3_code 144 = .ok (.invokevirtual 101, 3) := by decide +kernel
set_option maxRecDepth 100000 in
theorem w_1592 : (Cond.code ({ cls := "NumberHouse$Writer", name := "writeByThrees", desc := "(II)V" } : MethodName) prog_12_method_4_code (7 : Nat) (none : Option ClassFile.FieldType)) ∈ q_tbl := q_of7 152 rfl (by decide +kernel)
set_option maxRecDepth 100000 in
theorem w_1589 : (Cond.methodLink "NumberHouse$Writer" (101 : Nat) ({ cls := "NumberHouse$Writer", name := "writeByThrees", desc := "(II)V" } : MethodName)) ∈ q_tbl := q_of7 149 rfl (by decide +kernel)
set_option maxRecDepth 100000 in
theorem w_1591 : (Cond.instanceMethod ({ cls := "NumberHouse$Writer", name := "writeByThrees", desc := "(II)V" } : MethodName)) ∈ q_tbl := q_of7 151 rfl (by decide +kernel)
theorem ws_38 : Cond.selects "NumberHouse$Writer" (⟨"NumberHouse$Writer", "writeByThrees", "(II)V"⟩ : MethodName) (⟨"NumberHouse$Writer", "writeByThrees", "(II)V"⟩ : MethodName) ∈ q_tbl := q_ofs 38 (by decide +kernel) (by decide +kernel)
theorem LV_Wri_101 : q_LV "NumberHouse$Writer" 101 y_Wri_writeByThrees prog_12_method_4_code 7 none 2 := ⟨w_1592, w_11, w_1589, w_1591, ws_38, ⟨by decide, by decide, by decide +kernel⟩⟩
theorem d_12_3_112 : decode prog_12_method_3_code 112 = .ok (.aload_n 0, 1) := by decide +kernel
theorem d_12_3_113 : decode prog_12_method_3_code 113 = .ok (.getfield 17, 3) := by decide +kernel
theorem d_12_3_116 : decode prog_12_method_3_code 116 = .ok (.aload_n 0, 1) := by decide +kernel
theorem d_12_3_117 : decode prog_12_method_3_code 117 = .ok (.getfield 7, 3) := by decide +kernel
theorem d_12_3_120 : decode prog_12_method_3_code 120 = .ok (.aload_n 1, 1) := by decide +kernel
theorem d_12_3_121 : decode prog_12_method_3_code 121 = .ok (.getfield 87, 3) := by decide +kernel
theorem d_12_3_124 : decode prog_12_method_3_code 124 = .ok (.iconst 0, 1) := by decide +kernel
theorem d_12_3_125 : decode prog_12_method_3_code 125 = .ok (.invokevirtual 94, 3) := by decide +kernel
set_option maxRecDepth 100000 in
theorem w_1574 : (Cond.methodLink "NumberHouse$Writer" (94 : Nat) ({ cls := "NumberHouse$Digits", name := "writeHead", desc := "(LNumberHouse$Sheet;IZ)V" } : MethodName)) ∈ q_tbl := q_of7 134 rfl (by decide +kernel)
theorem LV_Wri_94 : q_LV "NumberHouse$Writer" 94 y_Dig_writeHead prog_5_method_11_code 5 none 3 := ⟨w_1577, w_9, w_1574, w_1575, w_1576, ⟨by decide, by decide, by decide +kernel⟩⟩
theorem d_12_3_128 : decode prog_12_method_3_code 128 = .ok (.aload_n 0, 1) := by decide +kernel
theorem d_12_3_129 : decode prog_12_method_3_code 129 = .ok (.iload 4, 2) := by decide +kernel
theorem d_12_3_131 : decode prog_12_method_3_code 131 = .ok (.invokevirtual 98, 3) := by decide +kernel
theorem d_12_3_134 : decode prog_12_method_3_code 134 = .ok (.goto 13, 3) := by decide +kernel
theorem d_12_3_81 : decode prog_12_method_3_code 81 = .ok (.ifCond .le 27, 3) := by decide +kernel
theorem d_12_3_84 : decode prog_12_method_3_code 84 = .ok (.iload 4, 2) := by decide +kernel
theorem d_12_3_86 : decode prog_12_method_3_code 86 = .ok (.bipush (-6), 2) := by decide +kernel
theorem d_12_3_88 : decode prog_12_method_3_code 88 = .ok (.if_icmp .lt 20, 3) := by decide +kernel
def y_Wri_decimalText : MethodName := ⟨"NumberHouse$Writer", "decimalText", "(LNumberHouse$Dec;I)V"⟩
def F_Wri_decimalText_c102 (R : Int32) (x3 : Int32) (t0_0 : Int32) (t1_0 : (Nat → Int64)) (t2_0 : Int32) (t2_1 : Int32) (t3_0 : (Nat → Int32)) (t4_0 : Int32) (t4_1 : Int32) (t5_0 : (Nat → Int32)) (t6_0 : Int32) (t6_1 : Int32) (t7_0 : Int32) (t7_1 : Int32) (t8_0 : (Nat → Int32)) (p46 : (Int32 × (Nat → Int64))) (y39 : Int32) (f40 : (Nat → Int64)) (p70 : (Int32 × Int32 × (Nat → Int32))) (p104 : (Int32 × Int32 × (Nat → Int32) × Int32 × Int32 × (Nat → Int32))) (a123 : Int32) (a117 : Int32) (y84 : Int32) (y85 : Int32) (f86 : (Nat → Int32)) (y89 : Int32) (y90 : Int32) (f91 : (Nat → Int32)) (p143 : (Int32 × (Nat → Int64))) : Int32 × (Nat → Int64) × Int32 × Int32 × (Nat → Int32) × Int32 × Int32 × (Nat → Int32) := ((p143.1 : Int32), (p143.2 : (Nat → Int64)), y84, y85, f86, y89, y90, f91)
def F_Wri_decimalText_c102_5 (R : Int32) (x3 : Int32) (t0_0 : Int32) (t1_0 : (Nat → Int64)) (t2_0 : Int32) (t2_1 : Int32) (t3_0 : (Nat → Int32)) (t4_0 : Int32) (t4_1 : Int32) (t5_0 : (Nat → Int32)) (t6_0 : Int32) (t6_1 : Int32) (t7_0 : Int32) (t7_1 : Int32) (t8_0 : (Nat → Int32)) (p46 : (Int32 × (Nat → Int64))) (y39 : Int32) (f40 : (Nat → Int64)) (p70 : (Int32 × Int32 × (Nat → Int32))) (p104 : (Int32 × Int32 × (Nat → Int32) × Int32 × Int32 × (Nat → Int32))) (a123 : Int32) (a117 : Int32) (y84 : Int32) (y85 : Int32) (f86 : (Nat → Int32)) (y89 : Int32) (y90 : Int32) (f91 : (Nat → Int32)) (p170 : (Int32 × (Nat → Int64))) : Int32 × (Nat → Int64) × Int32 × Int32 × (Nat → Int32) × Int32 × Int32 × (Nat → Int32) := ((p170.1 : Int32), (p170.2 : (Nat → Int64)), y84, y85, f86, y89, y90, f91)
def F_Wri_decimalText_c144 (R : Int32) (x3 : Int32) (t0_0 : Int32) (t1_0 : (Nat → Int64)) (t2_0 : Int32) (t2_1 : Int32) (t3_0 : (Nat → Int32)) (t4_0 : Int32) (t4_1 : Int32) (t5_0 : (Nat → Int32)) (t6_0 : Int32) (t6_1 : Int32) (t7_0 : Int32) (t7_1 : Int32) (t8_0 : (Nat → Int32)) (p46 : (Int32 × (Nat → Int64))) (y39 : Int32) (f40 : (Nat → Int64)) (p70 : (Int32 × Int32 × (Nat → Int32))) (p104 : (Int32 × Int32 × (Nat → Int32) × Int32 × Int32 × (Nat → Int32))) (a123 : Int32) (y84 : Int32) (y85 : Int32) (f86 : (Nat → Int32)) (y89 : Int32) (y90 : Int32) (f91 : (Nat → Int32)) (p208 : (Int32 × (Nat → Int64))) : Int32 × (Nat → Int64) × Int32 × Int32 × (Nat → Int32) × Int32 × Int32 × (Nat → Int32) := ((p208.1 : Int32), (p208.2 : (Nat → Int64)), y84, y85, f86, y89, y90, f91)
def F_Wri_decimalText_c131 (R : Int32) (x3 : Int32) (t0_0 : Int32) (t1_0 : (Nat → Int64)) (t2_0 : Int32) (t2_1 : Int32) (t3_0 : (Nat → Int32)) (t4_0 : Int32) (t4_1 : Int32) (t5_0 : (Nat → Int32)) (t6_0 : Int32) (t6_1 : Int32) (t7_0 : Int32) (t7_1 : Int32) (t8_0 : (Nat → Int32)) (p46 : (Int32 × (Nat → Int64))) (y39 : Int32) (f40 : (Nat → Int64)) (p70 : (Int32 × Int32 × (Nat → Int32))) (p104 : (Int32 × Int32 × (Nat → Int32) × Int32 × Int32 × (Nat → Int32))) (a123 : Int32) (y84 : Int32) (y85 : Int32) (f86 : (Nat → Int32)) (y89 : Int32) (y90 : Int32) (f91 : (Nat → Int32)) (p230 : (Int32 × (Nat → Int64))) (p249 : (Int32 × (Nat → Int64))) : Int32 × (Nat → Int64) × Int32 × Int32 × (Nat → Int32) × Int32 × Int32 × (Nat → Int32) := ((p249.1 : Int32), (p249.2 : (Nat → Int64)), y84, y85, f86, y89, y90, f91)
def F_Wri_decimalText_c125 (R : Int32) (x3 : Int32) (t0_0 : Int32) (t1_0 : (Nat → Int64)) (t2_0 : Int32) (t2_1 : Int32) (t3_0 : (Nat → Int32)) (t4_0 : Int32) (t4_1 : Int32) (t5_0 : (Nat → Int32)) (t6_0 : Int32) (t6_1 : Int32) (t7_0 : Int32) (t7_1 : Int32) (t8_0 : (Nat → Int32)) (p46 : (Int32 × (Nat → Int64))) (y39 : Int32) (f40 : (Nat → Int64)) (p70 : (Int32 × Int32 × (Nat → Int32))) (p104 : (Int32 × Int32 × (Nat → Int32) × Int32 × Int32 × (Nat → Int32))) (a123 : Int32) (y84 : Int32) (y85 : Int32) (f86 : (Nat → Int32)) (y89 : Int32) (y90 : Int32) (f91 : (Nat → Int32)) (p230 : (Int32 × (Nat → Int64))) : Int32 × (Nat → Int64) × Int32 × Int32 × (Nat → Int32) × Int32 × Int32 × (Nat → Int32) := F_Wri_decimalText_c131 R x3 t0_0 t1_0 t2_0 t2_1 t3_0 t4_0 t4_1 t5_0 t6_0 t6_1 t7_0 t7_1 t8_0 p46 y39 f40 p70 p104 a123 y84 y85 f86 y89 y90 f91 p230 ((F_Wri_writePower a123 (p230.1 : Int32) (p230.2 : (Nat → Int64))) : (Int32 × (Nat → Int64)))
def F_Wri_decimalText_J108 (R : Int32) (x3 : Int32) (t0_0 : Int32) (t1_0 : (Nat → Int64)) (t2_0 : Int32) (t2_1 : Int32) (t3_0 : (Nat → Int32)) (t4_0 : Int32) (t4_1 : Int32) (t5_0 : (Nat → Int32)) (t6_0 : Int32) (t6_1 : Int32) (t7_0 : Int32) (t7_1 : Int32) (t8_0 : (Nat → Int32)) (p46 : (Int32 × (Nat → Int64))) (y39 : Int32) (f40 : (Nat → Int64)) (p70 : (Int32 × Int32 × (Nat → Int32))) (p104 : (Int32 × Int32 × (Nat → Int32) × Int32 × Int32 × (Nat → Int32))) (a123 : Int32) (y84 : Int32) (y85 : Int32) (f86 : (Nat → Int32)) (y89 : Int32) (y90 : Int32) (f91 : (Nat → Int32)) : Int32 × (Nat → Int64) × Int32 × Int32 × (Nat → Int32) × Int32 × Int32 × (Nat → Int32) := if x3 = (0 : Int32) then (F_Wri_decimalText_c125 R x3 t0_0 t1_0 t2_0 t2_1 t3_0 t4_0 t4_1 t5_0 t6_0 t6_1 t7_0 t7_1 t8_0 p46 y39 f40 p70 p104 a123 y84 y85 f86 y89 y90 f91 ((F_Dig_writeHead (11008 : Int32) (1376 : Int32) (1000000 : Int32) t6_1 (0 : Int32) y84 y85 f86 y39 f40) : (Int32 × (Nat → Int64)))) else (F_Wri_decimalText_c144 R x3 t0_0 t1_0 t2_0 t2_1 t3_0 t4_0 t4_1 t5_0 t6_0 t6_1 t7_0 t7_1 t8_0 p46 y39 f40 p70 p104 a123 y84 y85 f86 y89 y90 f91 ((F_Wri_writeByThrees t6_1 a123 y39 f40 y84 y85 f86) : (Int32 × (Nat → Int64))))
def F_Wri_decimalText_c102_10 (R : Int32) (x3 : Int32) (t0_0 : Int32) (t1_0 : (Nat → Int64)) (t2_0 : Int32) (t2_1 : Int32) (t3_0 : (Nat → Int32)) (t4_0 : Int32) (t4_1 : Int32) (t5_0 : (Nat → Int32)) (t6_0 : Int32) (t6_1 : Int32) (t7_0 : Int32) (t7_1 : Int32) (t8_0 : (Nat → Int32)) (p46 : (Int32 × (Nat → Int64))) (y39 : Int32) (f40 : (Nat → Int64)) (p70 : (Int32 × Int32 × (Nat → Int32))) (p104 : (Int32 × Int32 × (Nat → Int32) × Int32 × Int32 × (Nat → Int32))) (a123 : Int32) (a117 : Int32) (y84 : Int32) (y85 : Int32) (f86 : (Nat → Int32)) (y89 : Int32) (y90 : Int32) (f91 : (Nat → Int32)) (p279 : (Int32 × (Nat → Int64))) : Int32 × (Nat → Int64) × Int32 × Int32 × (Nat → Int32) × Int32 × Int32 × (Nat → Int32) := ((p279.1 : Int32), (p279.2 : (Nat → Int64)), y84, y85, f86, y89, y90, f91)
def F_Wri_decimalText_c40 (R : Int32) (x3 : Int32) (t0_0 : Int32) (t1_0 : (Nat → Int64)) (t2_0 : Int32) (t2_1 : Int32) (t3_0 : (Nat → Int32)) (t4_0 : Int32) (t4_1 : Int32) (t5_0 : (Nat → Int32)) (t6_0 : Int32) (t6_1 : Int32) (t7_0 : Int32) (t7_1 : Int32) (t8_0 : (Nat → Int32)) (p46 : (Int32 × (Nat → Int64))) (y39 : Int32) (f40 : (Nat → Int64)) (p70 : (Int32 × Int32 × (Nat → Int32))) (p104 : (Int32 × Int32 × (Nat → Int32) × Int32 × Int32 × (Nat → Int32))) : Int32 × (Nat → Int64) × Int32 × Int32 × (Nat → Int32) × Int32 × Int32 × (Nat → Int32) := if x3 = (1 : Int32) then (F_Wri_decimalText_c102 R x3 t0_0 t1_0 t2_0 t2_1 t3_0 t4_0 t4_1 t5_0 t6_0 t6_1 t7_0 t7_1 t8_0 p46 y39 f40 p70 p104 ((t6_1 - 1 : Int32) - t6_0 : Int32) (if 0 < t6_0 then t6_0 else 0 : Int32) (p104.1 : Int32) (p104.2.1 : Int32) (p104.2.2.1 : (Nat → Int32)) (p104.2.2.2.1 : Int32) (p104.2.2.2.2.1 : Int32) (p104.2.2.2.2.2 : (Nat → Int32)) ((F_Dig_writePlain (11008 : Int32) (1376 : Int32) (1000000 : Int32) (if 0 < t6_0 then t6_0 else 0 : Int32) (0 : Int32) (0 : Int32) (p104.1 : Int32) (p104.2.1 : Int32) (p104.2.2.1 : (Nat → Int32)) y39 f40) : (Int32 × (Nat → Int64)))) else (if t6_0 = (0 : Int32) then (F_Wri_decimalText_c102_5 R x3 t0_0 t1_0 t2_0 t2_1 t3_0 t4_0 t4_1 t5_0 t6_0 t6_1 t7_0 t7_1 t8_0 p46 y39 f40 p70 p104 ((t6_1 - 1 : Int32) - t6_0 : Int32) (if 0 < t6_0 then t6_0 else 0 : Int32) (p104.1 : Int32) (p104.2.1 : Int32) (p104.2.2.1 : (Nat → Int32)) (p104.2.2.2.1 : Int32) (p104.2.2.2.2.1 : Int32) (p104.2.2.2.2.2 : (Nat → Int32)) ((F_Dig_writePlain (11008 : Int32) (1376 : Int32) (1000000 : Int32) (if 0 < t6_0 then t6_0 else 0 : Int32) (0 : Int32) (0 : Int32) (p104.1 : Int32) (p104.2.1 : Int32) (p104.2.2.1 : (Nat → Int32)) y39 f40) : (Int32 × (Nat → Int64)))) else (if t6_0 ≤ (0 : Int32) then (F_Wri_decimalText_J108 R x3 t0_0 t1_0 t2_0 t2_1 t3_0 t4_0 t4_1 t5_0 t6_0 t6_1 t7_0 t7_1 t8_0 p46 y39 f40 p70 p104 ((t6_1 - 1 : Int32) - t6_0 : Int32) (p104.1 : Int32) (p104.2.1 : Int32) (p104.2.2.1 : (Nat → Int32)) (p104.2.2.2.1 : Int32) (p104.2.2.2.2.1 : Int32) (p104.2.2.2.2.2 : (Nat → Int32))) else (if ((t6_1 - 1 : Int32) - t6_0 : Int32) < (-6 : Int32) then (F_Wri_decimalText_J108 R x3 t0_0 t1_0 t2_0 t2_1 t3_0 t4_0 t4_1 t5_0 t6_0 t6_1 t7_0 t7_1 t8_0 p46 y39 f40 p70 p104 ((t6_1 - 1 : Int32) - t6_0 : Int32) (p104.1 : Int32) (p104.2.1 : Int32) (p104.2.2.1 : (Nat → Int32)) (p104.2.2.2.1 : Int32) (p104.2.2.2.2.1 : Int32) (p104.2.2.2.2.2 : (Nat → Int32))) else (F_Wri_decimalText_c102_10 R x3 t0_0 t1_0 t2_0 t2_1 t3_0 t4_0 t4_1 t5_0 t6_0 t6_1 t7_0 t7_1 t8_0 p46 y39 f40 p70 p104 ((t6_1 - 1 : Int32) - t6_0 : Int32) (if 0 < t6_0 then t6_0 else 0 : Int32) (p104.1 : Int32) (p104.2.1 : Int32) (p104.2.2.1 : (Nat → Int32)) (p104.2.2.2.1 : Int32) (p104.2.2.2.2.1 : Int32) (p104.2.2.2.2.2 : (Nat → Int32)) ((F_Dig_writePlain (11008 : Int32) (1376 : Int32) (1000000 : Int32) (if 0 < t6_0 then t6_0 else 0 : Int32) (0 : Int32) (0 : Int32) (p104.1 : Int32) (p104.2.1 : Int32) (p104.2.2.1 : (Nat → Int32)) y39 f40) : (Int32 × (Nat → Int64)))))))
def F_Wri_decimalText_c22 (R : Int32) (x3 : Int32) (t0_0 : Int32) (t1_0 : (Nat → Int64)) (t2_0 : Int32) (t2_1 : Int32) (t3_0 : (Nat → Int32)) (t4_0 : Int32) (t4_1 : Int32) (t5_0 : (Nat → Int32)) (t6_0 : Int32) (t6_1 : Int32) (t7_0 : Int32) (t7_1 : Int32) (t8_0 : (Nat → Int32)) (p46 : (Int32 × (Nat → Int64))) (y39 : Int32) (f40 : (Nat → Int64)) (p70 : (Int32 × Int32 × (Nat → Int32))) : Int32 × (Nat → Int64) × Int32 × Int32 × (Nat → Int32) × Int32 × Int32 × (Nat → Int32) := F_Wri_decimalText_c40 R x3 t0_0 t1_0 t2_0 t2_1 t3_0 t4_0 t4_1 t5_0 t6_0 t6_1 t7_0 t7_1 t8_0 p46 y39 f40 p70 ((F_Dig_fill (220 : Int32) t6_0 t2_0 t2_1 t3_0 (p70.1 : Int32) (p70.2.1 : Int32) (p70.2.2 : (Nat → Int32))) : (Int32 × Int32 × (Nat → Int32) × Int32 × Int32 × (Nat → Int32)))
def F_Wri_decimalText_c8 (R : Int32) (x3 : Int32) (t0_0 : Int32) (t1_0 : (Nat → Int64)) (t2_0 : Int32) (t2_1 : Int32) (t3_0 : (Nat → Int32)) (t4_0 : Int32) (t4_1 : Int32) (t5_0 : (Nat → Int32)) (t6_0 : Int32) (t6_1 : Int32) (t7_0 : Int32) (t7_1 : Int32) (t8_0 : (Nat → Int32)) (p46 : (Int32 × (Nat → Int64))) : Int32 × (Nat → Int64) × Int32 × Int32 × (Nat → Int32) × Int32 × Int32 × (Nat → Int32) := F_Wri_decimalText_c22 R x3 t0_0 t1_0 t2_0 t2_1 t3_0 t4_0 t4_1 t5_0 t6_0 t6_1 t7_0 t7_1 t8_0 p46 (p46.1 : Int32) (p46.2 : (Nat → Int64)) ((F_Big_copy (220 : Int32) R t4_0 t4_1 t5_0 t7_0 t7_1 t8_0) : (Int32 × Int32 × (Nat → Int32)))
def F_Wri_decimalText (R : Int32) (x3 : Int32) (t0_0 : Int32) (t1_0 : (Nat → Int64)) (t2_0 : Int32) (t2_1 : Int32) (t3_0 : (Nat → Int32)) (t4_0 : Int32) (t4_1 : Int32) (t5_0 : (Nat → Int32)) (t6_0 : Int32) (t6_1 : Int32) (t7_0 : Int32) (t7_1 : Int32) (t8_0 : (Nat → Int32)) : Int32 × (Nat → Int64) × Int32 × Int32 × (Nat → Int32) × Int32 × Int32 × (Nat → Int32) := F_Wri_decimalText_c8 R x3 t0_0 t1_0 t2_0 t2_1 t3_0 t4_0 t4_1 t5_0 t6_0 t6_1 t7_0 t7_1 t8_0 ((F_Wri_begin_p t7_1 t0_0 t1_0) : (Int32 × (Nat → Int64)))
def S_Wri_decimalText_c102 (R : Int32) (x3 : Int32) (t0_0 : Int32) (t1_0 : (Nat → Int64)) (t2_0 : Int32) (t2_1 : Int32) (t3_0 : (Nat → Int32)) (t4_0 : Int32) (t4_1 : Int32) (t5_0 : (Nat → Int32)) (t6_0 : Int32) (t6_1 : Int32) (t7_0 : Int32) (t7_1 : Int32) (t8_0 : (Nat → Int32)) (p46 : (Int32 × (Nat → Int64))) (y39 : Int32) (f40 : (Nat → Int64)) (p70 : (Int32 × Int32 × (Nat → Int32))) (p104 : (Int32 × Int32 × (Nat → Int32) × Int32 × Int32 × (Nat → Int32))) (a123 : Int32) (a117 : Int32) (y84 : Int32) (y85 : Int32) (f86 : (Nat → Int32)) (y89 : Int32) (y90 : Int32) (f91 : (Nat → Int32)) (p143 : (Int32 × (Nat → Int64))) : Prop := True
def S_Wri_decimalText_c102_5 (R : Int32) (x3 : Int32) (t0_0 : Int32) (t1_0 : (Nat → Int64)) (t2_0 : Int32) (t2_1 : Int32) (t3_0 : (Nat → Int32)) (t4_0 : Int32) (t4_1 : Int32) (t5_0 : (Nat → Int32)) (t6_0 : Int32) (t6_1 : Int32) (t7_0 : Int32) (t7_1 : Int32) (t8_0 : (Nat → Int32)) (p46 : (Int32 × (Nat → Int64))) (y39 : Int32) (f40 : (Nat → Int64)) (p70 : (Int32 × Int32 × (Nat → Int32))) (p104 : (Int32 × Int32 × (Nat → Int32) × Int32 × Int32 × (Nat → Int32))) (a123 : Int32) (a117 : Int32) (y84 : Int32) (y85 : Int32) (f86 : (Nat → Int32)) (y89 : Int32) (y90 : Int32) (f91 : (Nat → Int32)) (p170 : (Int32 × (Nat → Int64))) : Prop := True
def S_Wri_decimalText_c144 (R : Int32) (x3 : Int32) (t0_0 : Int32) (t1_0 : (Nat → Int64)) (t2_0 : Int32) (t2_1 : Int32) (t3_0 : (Nat → Int32)) (t4_0 : Int32) (t4_1 : Int32) (t5_0 : (Nat → Int32)) (t6_0 : Int32) (t6_1 : Int32) (t7_0 : Int32) (t7_1 : Int32) (t8_0 : (Nat → Int32)) (p46 : (Int32 × (Nat → Int64))) (y39 : Int32) (f40 : (Nat → Int64)) (p70 : (Int32 × Int32 × (Nat → Int32))) (p104 : (Int32 × Int32 × (Nat → Int32) × Int32 × Int32 × (Nat → Int32))) (a123 : Int32) (y84 : Int32) (y85 : Int32) (f86 : (Nat → Int32)) (y89 : Int32) (y90 : Int32) (f91 : (Nat → Int32)) (p208 : (Int32 × (Nat → Int64))) : Prop := True
def S_Wri_decimalText_c131 (R : Int32) (x3 : Int32) (t0_0 : Int32) (t1_0 : (Nat → Int64)) (t2_0 : Int32) (t2_1 : Int32) (t3_0 : (Nat → Int32)) (t4_0 : Int32) (t4_1 : Int32) (t5_0 : (Nat → Int32)) (t6_0 : Int32) (t6_1 : Int32) (t7_0 : Int32) (t7_1 : Int32) (t8_0 : (Nat → Int32)) (p46 : (Int32 × (Nat → Int64))) (y39 : Int32) (f40 : (Nat → Int64)) (p70 : (Int32 × Int32 × (Nat → Int32))) (p104 : (Int32 × Int32 × (Nat → Int32) × Int32 × Int32 × (Nat → Int32))) (a123 : Int32) (y84 : Int32) (y85 : Int32) (f86 : (Nat → Int32)) (y89 : Int32) (y90 : Int32) (f91 : (Nat → Int32)) (p230 : (Int32 × (Nat → Int64))) (p249 : (Int32 × (Nat → Int64))) : Prop := True
def S_Wri_decimalText_c125 (R : Int32) (x3 : Int32) (t0_0 : Int32) (t1_0 : (Nat → Int64)) (t2_0 : Int32) (t2_1 : Int32) (t3_0 : (Nat → Int32)) (t4_0 : Int32) (t4_1 : Int32) (t5_0 : (Nat → Int32)) (t6_0 : Int32) (t6_1 : Int32) (t7_0 : Int32) (t7_1 : Int32) (t8_0 : (Nat → Int32)) (p46 : (Int32 × (Nat → Int64))) (y39 : Int32) (f40 : (Nat → Int64)) (p70 : (Int32 × Int32 × (Nat → Int32))) (p104 : (Int32 × Int32 × (Nat → Int32) × Int32 × Int32 × (Nat → Int32))) (a123 : Int32) (y84 : Int32) (y85 : Int32) (f86 : (Nat → Int32)) (y89 : Int32) (y90 : Int32) (f91 : (Nat → Int32)) (p230 : (Int32 × (Nat → Int64))) : Prop := S_Wri_decimalText_c131 R x3 t0_0 t1_0 t2_0 t2_1 t3_0 t4_0 t4_1 t5_0 t6_0 t6_1 t7_0 t7_1 t8_0 p46 y39 f40 p70 p104 a123 y84 y85 f86 y89 y90 f91 p230 ((F_Wri_writePower a123 (p230.1 : Int32) (p230.2 : (Nat → Int64))) : (Int32 × (Nat → Int64)))
def S_Wri_decimalText_J108 (R : Int32) (x3 : Int32) (t0_0 : Int32) (t1_0 : (Nat → Int64)) (t2_0 : Int32) (t2_1 : Int32) (t3_0 : (Nat → Int32)) (t4_0 : Int32) (t4_1 : Int32) (t5_0 : (Nat → Int32)) (t6_0 : Int32) (t6_1 : Int32) (t7_0 : Int32) (t7_1 : Int32) (t8_0 : (Nat → Int32)) (p46 : (Int32 × (Nat → Int64))) (y39 : Int32) (f40 : (Nat → Int64)) (p70 : (Int32 × Int32 × (Nat → Int32))) (p104 : (Int32 × Int32 × (Nat → Int32) × Int32 × Int32 × (Nat → Int32))) (a123 : Int32) (y84 : Int32) (y85 : Int32) (f86 : (Nat → Int32)) (y89 : Int32) (y90 : Int32) (f91 : (Nat → Int32)) : Prop := if x3 = (0 : Int32) then (S_Wri_decimalText_c125 R x3 t0_0 t1_0 t2_0 t2_1 t3_0 t4_0 t4_1 t5_0 t6_0 t6_1 t7_0 t7_1 t8_0 p46 y39 f40 p70 p104 a123 y84 y85 f86 y89 y90 f91 ((F_Dig_writeHead (11008 : Int32) (1376 : Int32) (1000000 : Int32) t6_1 (0 : Int32) y84 y85 f86 y39 f40) : (Int32 × (Nat → Int64)))) else ((True ∧ S_Wri_writeByThrees t6_1 a123 y39 f40 y84 y85 f86) ∧ (S_Wri_decimalText_c144 R x3 t0_0 t1_0 t2_0 t2_1 t3_0 t4_0 t4_1 t5_0 t6_0 t6_1 t7_0 t7_1 t8_0 p46 y39 f40 p70 p104 a123 y84 y85 f86 y89 y90 f91 ((F_Wri_writeByThrees t6_1 a123 y39 f40 y84 y85 f86) : (Int32 × (Nat → Int64)))))
def S_Wri_decimalText_c102_10 (R : Int32) (x3 : Int32) (t0_0 : Int32) (t1_0 : (Nat → Int64)) (t2_0 : Int32) (t2_1 : Int32) (t3_0 : (Nat → Int32)) (t4_0 : Int32) (t4_1 : Int32) (t5_0 : (Nat → Int32)) (t6_0 : Int32) (t6_1 : Int32) (t7_0 : Int32) (t7_1 : Int32) (t8_0 : (Nat → Int32)) (p46 : (Int32 × (Nat → Int64))) (y39 : Int32) (f40 : (Nat → Int64)) (p70 : (Int32 × Int32 × (Nat → Int32))) (p104 : (Int32 × Int32 × (Nat → Int32) × Int32 × Int32 × (Nat → Int32))) (a123 : Int32) (a117 : Int32) (y84 : Int32) (y85 : Int32) (f86 : (Nat → Int32)) (y89 : Int32) (y90 : Int32) (f91 : (Nat → Int32)) (p279 : (Int32 × (Nat → Int64))) : Prop := True
def S_Wri_decimalText_c40 (R : Int32) (x3 : Int32) (t0_0 : Int32) (t1_0 : (Nat → Int64)) (t2_0 : Int32) (t2_1 : Int32) (t3_0 : (Nat → Int32)) (t4_0 : Int32) (t4_1 : Int32) (t5_0 : (Nat → Int32)) (t6_0 : Int32) (t6_1 : Int32) (t7_0 : Int32) (t7_1 : Int32) (t8_0 : (Nat → Int32)) (p46 : (Int32 × (Nat → Int64))) (y39 : Int32) (f40 : (Nat → Int64)) (p70 : (Int32 × Int32 × (Nat → Int32))) (p104 : (Int32 × Int32 × (Nat → Int32) × Int32 × Int32 × (Nat → Int32))) : Prop := if x3 = (1 : Int32) then (((p104.2.1 : Int32).toInt ≤ 200000) ∧ (S_Wri_decimalText_c102 R x3 t0_0 t1_0 t2_0 t2_1 t3_0 t4_0 t4_1 t5_0 t6_0 t6_1 t7_0 t7_1 t8_0 p46 y39 f40 p70 p104 ((t6_1 - 1 : Int32) - t6_0 : Int32) (if 0 < t6_0 then t6_0 else 0 : Int32) (p104.1 : Int32) (p104.2.1 : Int32) (p104.2.2.1 : (Nat → Int32)) (p104.2.2.2.1 : Int32) (p104.2.2.2.2.1 : Int32) (p104.2.2.2.2.2 : (Nat → Int32)) ((F_Dig_writePlain (11008 : Int32) (1376 : Int32) (1000000 : Int32) (if 0 < t6_0 then t6_0 else 0 : Int32) (0 : Int32) (0 : Int32) (p104.1 : Int32) (p104.2.1 : Int32) (p104.2.2.1 : (Nat → Int32)) y39 f40) : (Int32 × (Nat → Int64))))) else (if t6_0 = (0 : Int32) then (((p104.2.1 : Int32).toInt ≤ 200000) ∧ (S_Wri_decimalText_c102_5 R x3 t0_0 t1_0 t2_0 t2_1 t3_0 t4_0 t4_1 t5_0 t6_0 t6_1 t7_0 t7_1 t8_0 p46 y39 f40 p70 p104 ((t6_1 - 1 : Int32) - t6_0 : Int32) (if 0 < t6_0 then t6_0 else 0 : Int32) (p104.1 : Int32) (p104.2.1 : Int32) (p104.2.2.1 : (Nat → Int32)) (p104.2.2.2.1 : Int32) (p104.2.2.2.2.1 : Int32) (p104.2.2.2.2.2 : (Nat → Int32)) ((F_Dig_writePlain (11008 : Int32) (1376 : Int32) (1000000 : Int32) (if 0 < t6_0 then t6_0 else 0 : Int32) (0 : Int32) (0 : Int32) (p104.1 : Int32) (p104.2.1 : Int32) (p104.2.2.1 : (Nat → Int32)) y39 f40) : (Int32 × (Nat → Int64))))) else (if t6_0 ≤ (0 : Int32) then (S_Wri_decimalText_J108 R x3 t0_0 t1_0 t2_0 t2_1 t3_0 t4_0 t4_1 t5_0 t6_0 t6_1 t7_0 t7_1 t8_0 p46 y39 f40 p70 p104 ((t6_1 - 1 : Int32) - t6_0 : Int32) (p104.1 : Int32) (p104.2.1 : Int32) (p104.2.2.1 : (Nat → Int32)) (p104.2.2.2.1 : Int32) (p104.2.2.2.2.1 : Int32) (p104.2.2.2.2.2 : (Nat → Int32))) else (if ((t6_1 - 1 : Int32) - t6_0 : Int32) < (-6 : Int32) then (S_Wri_decimalText_J108 R x3 t0_0 t1_0 t2_0 t2_1 t3_0 t4_0 t4_1 t5_0 t6_0 t6_1 t7_0 t7_1 t8_0 p46 y39 f40 p70 p104 ((t6_1 - 1 : Int32) - t6_0 : Int32) (p104.1 : Int32) (p104.2.1 : Int32) (p104.2.2.1 : (Nat → Int32)) (p104.2.2.2.1 : Int32) (p104.2.2.2.2.1 : Int32) (p104.2.2.2.2.2 : (Nat → Int32))) else (((p104.2.1 : Int32).toInt ≤ 200000) ∧ (S_Wri_decimalText_c102_10 R x3 t0_0 t1_0 t2_0 t2_1 t3_0 t4_0 t4_1 t5_0 t6_0 t6_1 t7_0 t7_1 t8_0 p46 y39 f40 p70 p104 ((t6_1 - 1 : Int32) - t6_0 : Int32) (if 0 < t6_0 then t6_0 else 0 : Int32) (p104.1 : Int32) (p104.2.1 : Int32) (p104.2.2.1 : (Nat → Int32)) (p104.2.2.2.1 : Int32) (p104.2.2.2.2.1 : Int32) (p104.2.2.2.2.2 : (Nat → Int32)) ((F_Dig_writePlain (11008 : Int32) (1376 : Int32) (1000000 : Int32) (if 0 < t6_0 then t6_0 else 0 : Int32) (0 : Int32) (0 : Int32) (p104.1 : Int32) (p104.2.1 : Int32) (p104.2.2.1 : (Nat → Int32)) y39 f40) : (Int32 × (Nat → Int64))))))))
def S_Wri_decimalText_c22 (R : Int32) (x3 : Int32) (t0_0 : Int32) (t1_0 : (Nat → Int64)) (t2_0 : Int32) (t2_1 : Int32) (t3_0 : (Nat → Int32)) (t4_0 : Int32) (t4_1 : Int32) (t5_0 : (Nat → Int32)) (t6_0 : Int32) (t6_1 : Int32) (t7_0 : Int32) (t7_1 : Int32) (t8_0 : (Nat → Int32)) (p46 : (Int32 × (Nat → Int64))) (y39 : Int32) (f40 : (Nat → Int64)) (p70 : (Int32 × Int32 × (Nat → Int32))) : Prop := (True ∧ S_Dig_fill (220 : Int32) t6_0 t2_0 t2_1 t3_0 (p70.1 : Int32) (p70.2.1 : Int32) (p70.2.2 : (Nat → Int32))) ∧ (S_Wri_decimalText_c40 R x3 t0_0 t1_0 t2_0 t2_1 t3_0 t4_0 t4_1 t5_0 t6_0 t6_1 t7_0 t7_1 t8_0 p46 y39 f40 p70 ((F_Dig_fill (220 : Int32) t6_0 t2_0 t2_1 t3_0 (p70.1 : Int32) (p70.2.1 : Int32) (p70.2.2 : (Nat → Int32))) : (Int32 × Int32 × (Nat → Int32) × Int32 × Int32 × (Nat → Int32))))
def S_Wri_decimalText_c8 (R : Int32) (x3 : Int32) (t0_0 : Int32) (t1_0 : (Nat → Int64)) (t2_0 : Int32) (t2_1 : Int32) (t3_0 : (Nat → Int32)) (t4_0 : Int32) (t4_1 : Int32) (t5_0 : (Nat → Int32)) (t6_0 : Int32) (t6_1 : Int32) (t7_0 : Int32) (t7_1 : Int32) (t8_0 : (Nat → Int32)) (p46 : (Int32 × (Nat → Int64))) : Prop := S_Wri_decimalText_c22 R x3 t0_0 t1_0 t2_0 t2_1 t3_0 t4_0 t4_1 t5_0 t6_0 t6_1 t7_0 t7_1 t8_0 p46 (p46.1 : Int32) (p46.2 : (Nat → Int64)) ((F_Big_copy (220 : Int32) R t4_0 t4_1 t5_0 t7_0 t7_1 t8_0) : (Int32 × Int32 × (Nat → Int32)))
def S_Wri_decimalText (R : Int32) (x3 : Int32) (t0_0 : Int32) (t1_0 : (Nat → Int64)) (t2_0 : Int32) (t2_1 : Int32) (t3_0 : (Nat → Int32)) (t4_0 : Int32) (t4_1 : Int32) (t5_0 : (Nat → Int32)) (t6_0 : Int32) (t6_1 : Int32) (t7_0 : Int32) (t7_1 : Int32) (t8_0 : (Nat → Int32)) : Prop := S_Wri_decimalText_c8 R x3 t0_0 t1_0 t2_0 t2_1 t3_0 t4_0 t4_1 t5_0 t6_0 t6_1 t7_0 t7_1 t8_0 ((F_Wri_begin_p t7_1 t0_0 t1_0) : (Int32 × (Nat → Int64)))
set_option maxRecDepth 100000 in
set_option maxHeartbeats 4000000 in
theorem X_Wri_decimalText (l : Launch) (D : va_G) (g : Nat → ClassId) (q : Nat → Nat) (ws : va_W) (k2 : Nat) (R : Int32) (hB2 : q_isDec (nsh g q) g q k2 R) (zk2 : (10 ≤ k2 ∧ k2 ≤ 31) ∨ 66 ≤ k2) (x3 : Int32) (ne_k2_10 : k2 ≠ 10) (ne_k2_11 : k2 ≠ 11) (ne_k2_9 : k2 ≠ 9) (ne_k2_8 : k2 ≠ 8) (ne_k2_3 : k2 ≠ 3) (ne_k2_4 : k2 ≠ 4) (ne_k2_2 : k2 ≠ 2) (ne_k2_1 : k2 ≠ 1) (ne_k2_36 : k2 ≠ 36) (ne_k2_37 : k2 ≠ 37) (ne_k2_35 : k2 ≠ 35) (ne_k2_34 : k2 ≠ 34) (hI : q_I (nsh g q) q ws) (t0_0 : Int32) (hT0 : ws[3]? = (some (q 3, .inr (1, [.ref (q 4), .int 11008, .int t0_0])) : Option (Nat × va_E))) (t1_0 : (Nat → Int64)) (hT1 : ws[4]? = (some (q 4, .inl (g 1, (1376 : Int32).toNatClampNeg, .inr (.inl t1_0))) : Option (Nat × va_E))) (t2_0 : Int32) (t2_1 : Int32) (hT2 : ws[36]? = (some (q 36, .inr (7, [.int t2_0, .int t2_1, .ref (q 37)])) : Option (Nat × va_E))) (t3_0 : (Nat → Int32)) (hT3 : ws[37]? = (some (q 37, .inl (g 2, 1026, .inl t3_0)) : Option (Nat × va_E))) (t4_0 : Int32) (t4_1 : Int32) (hT4 : ws[10]? = (some (q 10, .inr (2, [.ref (q 11), .int t4_0, .int t4_1])) : Option (Nat × va_E))) (t5_0 : (Nat → Int32)) (hT5 : ws[11]? = (some (q 11, .inl (g 0, (220 : Int32).toNatClampNeg, .inl t5_0)) : Option (Nat × va_E))) (t6_0 : Int32) (t6_1 : Int32) (hT6 : ws[k2]? = (some (q k2, .inr (3, [.ref (q (k2 + 1)), .int t6_0, .int t6_1])) : Option (Nat × va_E))) (t7_0 : Int32) (t7_1 : Int32) (hT7 : ws[k2 + 1]? = (some (q (k2 + 1), .inr (2, [.ref (q (k2 + 2)), .int t7_0, .int t7_1])) : Option (Nat × va_E))) (t8_0 : (Nat → Int32)) (hT8 : ws[k2 + 2]? = (some (q (k2 + 2), .inl (g 0, R.toNatClampNeg, .inl t8_0)) : Option (Nat × va_E))) (hS : True ∧ S_Wri_decimalText R x3 t0_0 t1_0 t2_0 t2_1 t3_0 t4_0 t4_1 t5_0 t6_0 t6_1 t7_0 t7_1 t8_0) : q_mV l y_Wri_decimalText prog_12_method_3_code 5 5 0 0 D g [.ref (q 39), .ref (q k2), .int x3] ws (fun u => q_I (nsh g q) q u ∧ q_un ws u [3, 4, 10, 11, 36, 37] ∧ ∃ (u0_0 : Int32) (u1_0 : (Nat → Int64)) (u2_0 : Int32) (u2_1 : Int32) (u3_0 : (Nat → Int32)) (u4_0 : Int32) (u4_1 : Int32) (u5_0 : (Nat → Int32)), u[3]? = (some (q 3, .inr (1, [.ref (q 4), .int 11008, .int u0_0])) : Option (Nat × va_E)) ∧ u[4]? = (some (q 4, .inl (g 1, (1376 : Int32).toNatClampNeg, .inr (.inl u1_0))) : Option (Nat × va_E)) ∧ u[36]? = (some (q 36, .inr (7, [.int u2_0, .int u2_1, .ref (q 37)])) : Option (Nat × va_E)) ∧ u[37]? = (some (q 37, .inl (g 2, 1026, .inl u3_0)) : Option (Nat × va_E)) ∧ u[10]? = (some (q 10, .inr (2, [.ref (q 11), .int u4_0, .int u4_1])) : Option (Nat × va_E)) ∧ u[11]? = (some (q 11, .inl (g 0, (220 : Int32).toNatClampNeg, .inl u5_0)) : Option (Nat × va_E)) ∧ (0 ≤ u2_0.toInt) ∧ (u2_0.toInt ≤ 1026) ∧ (0 ≤ u2_1.toInt + 1000000) ∧ (u2_1.toInt ≤ 1000000) ∧ (0 ≤ u4_0.toInt) ∧ (0 ≤ u4_1.toInt) ∧ (t7_1.toInt ≤ u0_0.toInt) ∧ (u0_0.toInt ≤ t7_1.toInt + 420003) ∧ (u4_0.toInt ≤ t7_0.toInt) ∧ (u4_1.toInt ≤ t7_1.toInt) ∧ (u2_1.toInt ≤ u2_0.toInt + 999999) ∧ (u0_0, u1_0, u2_0, u2_1, u3_0, u4_0, u4_1, u5_0) = (F_Wri_decimalText R x3 t0_0 t1_0 t2_0 t2_1 t3_0 t4_0 t4_1 t5_0 t6_0 t6_1 t7_0 t7_1 t8_0)) := by
  intro sz
  refine q_into (by decide) (Nat.le_of_ble_eq_true rfl) ?_
  intro p e s m below meth c ls hsz C0 V hl
  have hx := C0.1
  have hb := C0.2.1
  have hfk20 : q_F (0 ≤ R.toInt ∧ R.toInt ≤ 220) := hB2.2.2.2
  obtain ⟨yy0_0, hh0, btt0_0⟩ := n_shO hI (n_h3 g q)
  obtain ⟨rfl⟩ : t0_0 = yy0_0 := by have z := Option.some.inj (hT0.symm.trans hh0); simpa using z
  replace btt0_0 : q_F (0 ≤ t0_0.toInt ∧ t0_0.toInt ≤ 1000000) := btt0_0
  obtain ⟨yy2_0, yy2_1, hh2, btt2_0, btt2_1⟩ := n_o36 hI
  obtain ⟨rfl, rfl⟩ : t2_0 = yy2_0 ∧ t2_1 = yy2_1 := by have z := Option.some.inj (hT2.symm.trans hh2); simpa using z
  replace btt2_0 : q_F (0 ≤ t2_0.toInt ∧ t2_0.toInt ≤ 1026) := btt2_0
  replace btt2_1 : q_F (-1000000 ≤ t2_1.toInt ∧ t2_1.toInt ≤ 1000000) := btt2_1
  obtain ⟨yy4_0, yy4_1, hh4, btt4_0, btt4_1⟩ := q_bigO hI (n_b10 g q)
  obtain ⟨rfl, rfl⟩ : t4_0 = yy4_0 ∧ t4_1 = yy4_1 := by have z := Option.some.inj (hT4.symm.trans hh4); simpa using z
  replace btt4_0 : q_F (0 ≤ t4_0.toInt ∧ t4_0.toInt ≤ 220) := btt4_0
  replace btt4_1 : q_F (0 ≤ t4_1.toInt ∧ t4_1.toInt ≤ 1) := btt4_1
  obtain ⟨yy6_0, yy6_1, hh6, btt6_0, btt6_1⟩ := n_deO hI hB2
  obtain ⟨rfl, rfl⟩ : t6_0 = yy6_0 ∧ t6_1 = yy6_1 := by have z := Option.some.inj (hT6.symm.trans hh6); simpa using z
  replace btt6_0 : q_F (-10000 ≤ t6_0.toInt ∧ t6_0.toInt ≤ 10000) := btt6_0
  replace btt6_1 : q_F (1 ≤ t6_1.toInt ∧ t6_1.toInt ≤ 1000) := btt6_1
  obtain ⟨yy7_0, yy7_1, hh7, btt7_0, btt7_1⟩ := q_bigO hI hB2.2
  obtain ⟨rfl, rfl⟩ : t7_0 = yy7_0 ∧ t7_1 = yy7_1 := by have z := Option.some.inj (hT7.symm.trans hh7); simpa using z
  replace btt7_0 : q_F (0 ≤ t7_0.toInt ∧ t7_0.toInt ≤ R.toInt) := btt7_0
  replace btt7_1 : q_F (0 ≤ t7_1.toInt ∧ t7_1.toInt ≤ 1) := btt7_1
  have hF : q_un ws ws [3, 4, 10, 11, 36, 37] := q_u0
  have hl : lv_has ls 5 [(0, .ref (q 39)), (1, .ref (q k2)), (2, .int x3)] := hl
  refine lv_aload_n hx hb d_12_3_0 rfl (lv_at hl 0 rfl) ?_
  refine lv_aload_n hx hb d_12_3_1 rfl (lv_at hl 1 rfl) ?_
  refine q_get (ci := 3) (j := 0) (v := .ref (q (k2 + 1))) C0 V i_Dec rfl rfl hT6 (by decide) w_173 rfl d_12_3_2 ?_
  refine q_get (ci := 2) (j := 2) (v := .int t7_1) C0 V i_Big rfl rfl hT7 (by decide) w_93 rfl d_12_3_5 ?_
  have hO35 := n_o39 hI
  refine q_gov V (q_runV (As := [.int t7_1]) (rest := []) (d := 2) (mc := 0) (ms := 0) (ci := 9) C0 V rfl LV_Wri_27 (X_Wri_begin_p l D g q ws  t7_1 hI t0_0 hT0 t1_0 hT1 ⟨(by have t1 : 0 ≤ t7_1.toInt ∧ t7_1.toInt ≤ 1 := btt7_1; omega), (by have t1 : 0 ≤ t7_1.toInt ∧ t7_1.toInt ≤ 1 := btt7_1; omega)⟩ _) rfl rfl hO35 rfl hl.1 rfl (Nat.le_of_ble_eq_true rfl) ⟨by decide, by decide⟩ ⟨Nat.le_of_ble_eq_true rfl, Nat.le_of_ble_eq_true rfl⟩ d_12_3_8) (fun u36 H locs hp37 V => ?_)
  obtain ⟨hI, hu45, y39, f40, hO38, hA41, b42, b43, hE44⟩ := hp37
  replace hO38 : u36[3]? = (some (q 3, .inr (1, [.ref (q 4), .int 11008, .int y39])) : Option (Nat × va_E)) := hO38
  replace hA41 : u36[4]? = (some (q 4, .inl (g 1, (1376 : Int32).toNatClampNeg, .inr (.inl f40))) : Option (Nat × va_E)) := hA41
  obtain ⟨p46, e47⟩ : ∃ z, z = (F_Wri_begin_p t7_1 t0_0 t1_0) := ⟨_, rfl⟩
  have e48 : y39 = p46.1 := congrArg (fun z => z.1) (hE44.trans e47.symm)
  have e49 : f40 = p46.2 := congrArg (fun z => z.2) (hE44.trans e47.symm)
  replace b42 : q_F (t7_1.toInt ≤ y39.toInt) := b42
  replace b43 : q_F (y39.toInt ≤ t7_1.toInt) := b43
  replace hT2 := (hu45 _ (by decide)).trans hT2
  replace hT3 := (hu45 _ (by decide)).trans hT3
  replace hT4 := (hu45 _ (by decide)).trans hT4
  replace hT5 := (hu45 _ (by decide)).trans hT5
  replace hT6 := (hu45 _ (by have z0 := zk2; simp only [List.mem_cons, List.not_mem_nil, or_false, not_or]; omega)).trans hT6
  replace hT7 := (hu45 _ (by have z0 := zk2; simp only [List.mem_cons, List.not_mem_nil, or_false, not_or]; omega)).trans hT7
  replace hT8 := (hu45 _ (by have z0 := zk2; simp only [List.mem_cons, List.not_mem_nil, or_false, not_or]; omega)).trans hT8
  replace hO35 := (hu45 _ (by decide)).trans hO35
  replace hF := q_uc hF hu45 (by simp)
  have hR50 := (show F_Wri_decimalText_c8 R x3 t0_0 t1_0 t2_0 t2_1 t3_0 t4_0 t4_1 t5_0 t6_0 t6_1 t7_0 t7_1 t8_0 p46 = (F_Wri_decimalText R x3 t0_0 t1_0 t2_0 t2_1 t3_0 t4_0 t4_1 t5_0 t6_0 t6_1 t7_0 t7_1 t8_0) from (by rw [e47, F_Wri_decimalText.eq_1]))
  have hS51 := (show True ∧ S_Wri_decimalText_c8 R x3 t0_0 t1_0 t2_0 t2_1 t3_0 t4_0 t4_1 t5_0 t6_0 t6_1 t7_0 t7_1 t8_0 p46 from (by rw [e47]; have h := hS; rw [S_Wri_decimalText.eq_1] at h; with_reducible exact h))
  refine lv_aload_n hx hb d_12_3_11 rfl (lv_at hl 0 rfl) ?_
  refine q_get (ci := 9) (j := 1) (v := .ref (q 9)) C0 V i_Wri rfl rfl hO35 (by decide) w_330 rfl d_12_3_12 ?_
  have hO55 := n_o9 hI
  refine q_get (ci := 4) (j := 0) (v := .ref (q 10)) C0 V i_Mil rfl rfl hO55 (by decide) w_110 rfl d_12_3_15 ?_
  refine lv_aload_n hx hb d_12_3_18 rfl (lv_at hl 1 rfl) ?_
  refine q_get (ci := 3) (j := 0) (v := .ref (q (k2 + 1))) C0 V i_Dec rfl rfl hT6 (by decide) w_173 rfl d_12_3_19 ?_
  refine q_gov V (q_runV (As := [.ref (q (k2 + 1))]) (rest := []) (d := 2) (mc := 0) (ms := 0) (ci := 2) C0 V rfl LV_Wri_45 (X_Big_copy l D g q u36 10 220 (n_b10 g q) (by decide) (k2 + 1) R hB2.2 (by have z := zk2; omega)  (by have z := ne_k2_9; omega) hI t4_0 t4_1 hT4 t5_0 hT5 t7_0 t7_1 hT7 t8_0 hT8  _) rfl rfl hT4 rfl hl.1 rfl (Nat.le_of_ble_eq_true rfl) ⟨by decide, by decide⟩ ⟨Nat.le_of_ble_eq_true rfl, Nat.le_of_ble_eq_true rfl⟩ d_12_3_22) (fun u56 H locs hp57 V => ?_)
  obtain ⟨hI, hu69, y59, y60, f61, hO58, hA62, b63, b64, b65, b66, b67, hE68⟩ := hp57
  replace hO58 : u56[10]? = (some (q 10, .inr (2, [.ref (q 11), .int y59, .int y60])) : Option (Nat × va_E)) := hO58
  replace hA62 : u56[11]? = (some (q 11, .inl (g 0, (220 : Int32).toNatClampNeg, .inl f61)) : Option (Nat × va_E)) := hA62
  obtain ⟨p70, e71⟩ : ∃ z, z = (F_Big_copy (220 : Int32) R t4_0 t4_1 t5_0 t7_0 t7_1 t8_0) := ⟨_, rfl⟩
  have e72 : y59 = p70.1 := congrArg (fun z => z.1) (hE68.trans e71.symm)
  have e73 : y60 = p70.2.1 := congrArg (fun z => z.2.1) (hE68.trans e71.symm)
  have e74 : f61 = p70.2.2 := congrArg (fun z => z.2.2) (hE68.trans e71.symm)
  replace b63 : q_F (0 ≤ y59.toInt) := b63
  replace b64 : q_F (y59.toInt ≤ t7_0.toInt) := b64
  replace b65 : q_F (y59.toInt ≤ 220) := b65
  replace b66 : q_F (t7_1.toInt ≤ y60.toInt) := b66
  replace b67 : q_F (y60.toInt ≤ t7_1.toInt) := b67
  replace hO38 := (hu69 _ (by decide)).trans hO38
  replace hA41 := (hu69 _ (by decide)).trans hA41
  replace hT2 := (hu69 _ (by decide)).trans hT2
  replace hT3 := (hu69 _ (by decide)).trans hT3
  replace hT6 := (hu69 _ (by have z0 := zk2; simp only [List.mem_cons, List.not_mem_nil, or_false, not_or]; omega)).trans hT6
  replace hT7 := (hu69 _ (by have z0 := zk2; simp only [List.mem_cons, List.not_mem_nil, or_false, not_or]; omega)).trans hT7
  replace hT8 := (hu69 _ (by have z0 := zk2; simp only [List.mem_cons, List.not_mem_nil, or_false, not_or]; omega)).trans hT8
  replace hO35 := (hu69 _ (by decide)).trans hO35
  replace hO55 := (hu69 _ (by decide)).trans hO55
  replace hF := q_uc hF hu69 (by simp)
  have hR75 := (show F_Wri_decimalText_c22 R x3 t0_0 t1_0 t2_0 t2_1 t3_0 t4_0 t4_1 t5_0 t6_0 t6_1 t7_0 t7_1 t8_0 p46 y39 f40 p70 = (F_Wri_decimalText R x3 t0_0 t1_0 t2_0 t2_1 t3_0 t4_0 t4_1 t5_0 t6_0 t6_1 t7_0 t7_1 t8_0) from Eq.trans (by rw [e71, e49, e48, F_Wri_decimalText_c8.eq_1]) hR50)
  have hS76 := (show True ∧ S_Wri_decimalText_c22 R x3 t0_0 t1_0 t2_0 t2_1 t3_0 t4_0 t4_1 t5_0 t6_0 t6_1 t7_0 t7_1 t8_0 p46 y39 f40 p70 from (by rw [e71, e49, e48]; have h := hS51; rw [S_Wri_decimalText_c8.eq_1] at h; with_reducible exact h))
  refine lv_aload_n hx hb d_12_3_25 rfl (lv_at hl 0 rfl) ?_
  refine q_get (ci := 9) (j := 2) (v := .ref (q 36)) C0 V i_Wri rfl rfl hO35 (by decide) w_331 rfl d_12_3_26 ?_
  refine lv_aload_n hx hb d_12_3_29 rfl (lv_at hl 0 rfl) ?_
  refine q_get (ci := 9) (j := 1) (v := .ref (q 9)) C0 V i_Wri rfl rfl hO35 (by decide) w_330 rfl d_12_3_30 ?_
  refine q_get (ci := 4) (j := 0) (v := .ref (q 10)) C0 V i_Mil rfl rfl hO55 (by decide) w_110 rfl d_12_3_33 ?_
  refine lv_aload_n hx hb d_12_3_36 rfl (lv_at hl 1 rfl) ?_
  refine q_get (ci := 3) (j := 1) (v := .int t6_0) C0 V i_Dec rfl rfl hT6 (by decide) w_177 rfl d_12_3_37 ?_
  have ob80 : True ∧ S_Dig_fill (220 : Int32) t6_0 t2_0 t2_1 t3_0 y59 y60 f61 := (by rw [e74, e73, e72]; have h := hS76; rw [S_Wri_decimalText_c22.eq_1] at h; with_reducible exact h.2.1)
  refine q_gov V (q_runV (As := [.ref (q 10), .int t6_0]) (rest := []) (d := 3) (mc := 0) (ms := 0) (ci := 7) C0 V rfl LV_Wri_75 (X_Dig_fill l D g q u56 10 220 (n_b10 g q) (by decide) t6_0 hI t2_0 t2_1 hT2 t3_0 hT3 y59 y60 hO58 f61 hA62 ob80 _) rfl rfl hT2 rfl hl.1 rfl (Nat.le_of_ble_eq_true rfl) ⟨by decide, by decide⟩ ⟨Nat.le_of_ble_eq_true rfl, Nat.le_of_ble_eq_true rfl⟩ d_12_3_40) (fun u81 H locs hp82 V => ?_)
  obtain ⟨hI, hu103, y84, y85, f86, y89, y90, f91, hO83, hA87, hO88, hA92, b93, b94, b95, b96, b97, b98, b99, b100, b101, hE102⟩ := hp82
  replace hO83 : u81[36]? = (some (q 36, .inr (7, [.int y84, .int y85, .ref (q 37)])) : Option (Nat × va_E)) := hO83
  replace hA87 : u81[37]? = (some (q 37, .inl (g 2, 1026, .inl f86)) : Option (Nat × va_E)) := hA87
  replace hO88 : u81[10]? = (some (q 10, .inr (2, [.ref (q 11), .int y89, .int y90])) : Option (Nat × va_E)) := hO88
  replace hA92 : u81[11]? = (some (q 11, .inl (g 0, (220 : Int32).toNatClampNeg, .inl f91)) : Option (Nat × va_E)) := hA92
  obtain ⟨p104, e105⟩ : ∃ z, z = (F_Dig_fill (220 : Int32) t6_0 t2_0 t2_1 t3_0 y59 y60 f61) := ⟨_, rfl⟩
  have e106 : y84 = p104.1 := congrArg (fun z => z.1) (hE102.trans e105.symm)
  have e107 : y85 = p104.2.1 := congrArg (fun z => z.2.1) (hE102.trans e105.symm)
  have e108 : f86 = p104.2.2.1 := congrArg (fun z => z.2.2.1) (hE102.trans e105.symm)
  have e109 : y89 = p104.2.2.2.1 := congrArg (fun z => z.2.2.2.1) (hE102.trans e105.symm)
  have e110 : y90 = p104.2.2.2.2.1 := congrArg (fun z => z.2.2.2.2.1) (hE102.trans e105.symm)
  have e111 : f91 = p104.2.2.2.2.2 := congrArg (fun z => z.2.2.2.2.2) (hE102.trans e105.symm)
  replace b93 : q_F (0 ≤ y84.toInt) := b93
  replace b94 : q_F (y84.toInt ≤ 1026) := b94
  replace b95 : q_F (0 ≤ y85.toInt + 1000000) := b95
  replace b96 : q_F (y85.toInt ≤ 1000000) := b96
  replace b97 : q_F (0 ≤ y89.toInt) := b97
  replace b98 : q_F (0 ≤ y90.toInt) := b98
  replace b99 : q_F (y89.toInt ≤ y59.toInt) := b99
  replace b100 : q_F (y90.toInt ≤ y60.toInt) := b100
  replace b101 : q_F (y85.toInt ≤ y84.toInt + 999999) := b101
  replace hO38 := (hu103 _ (by decide)).trans hO38
  replace hA41 := (hu103 _ (by decide)).trans hA41
  replace hT6 := (hu103 _ (by have z0 := zk2; simp only [List.mem_cons, List.not_mem_nil, or_false, not_or]; omega)).trans hT6
  replace hT7 := (hu103 _ (by have z0 := zk2; simp only [List.mem_cons, List.not_mem_nil, or_false, not_or]; omega)).trans hT7
  replace hT8 := (hu103 _ (by have z0 := zk2; simp only [List.mem_cons, List.not_mem_nil, or_false, not_or]; omega)).trans hT8
  replace hO35 := (hu103 _ (by decide)).trans hO35
  replace hO55 := (hu103 _ (by decide)).trans hO55
  replace hF := q_uc hF hu103 (by simp)
  have hR112 := (show F_Wri_decimalText_c40 R x3 t0_0 t1_0 t2_0 t2_1 t3_0 t4_0 t4_1 t5_0 t6_0 t6_1 t7_0 t7_1 t8_0 p46 y39 f40 p70 p104 = (F_Wri_decimalText R x3 t0_0 t1_0 t2_0 t2_1 t3_0 t4_0 t4_1 t5_0 t6_0 t6_1 t7_0 t7_1 t8_0) from Eq.trans (by rw [e105, e74, e73, e72, F_Wri_decimalText_c22.eq_1]) hR75)
  have hS113 := (show True ∧ S_Wri_decimalText_c40 R x3 t0_0 t1_0 t2_0 t2_1 t3_0 t4_0 t4_1 t5_0 t6_0 t6_1 t7_0 t7_1 t8_0 p46 y39 f40 p70 p104 from (by rw [e105, e74, e73, e72]; have h := hS76; rw [S_Wri_decimalText_c22.eq_1] at h; replace h := q_s2 h; with_reducible exact h))
  refine lv_iconst (v := 0) hx hb d_12_3_43 (by decide) ?_
  refine lv_aload_n hx hb d_12_3_44 rfl (lv_at hl 1 rfl) ?_
  refine q_get (ci := 3) (j := 1) (v := .int t6_0) C0 V i_Dec rfl rfl hT6 (by decide) w_177 rfl d_12_3_45 ?_
  refine q_max C0 hl.1 rfl w_1566 w_803 w_7 w_804 ⟨Nat.le_of_ble_eq_true rfl, Nat.le_of_ble_eq_true rfl⟩ ⟨Nat.le_of_ble_eq_true rfl, Nat.le_of_ble_eq_true rfl⟩ d_12_3_48 ?_
  obtain ⟨a117, e118⟩ := q_nm (if 0 < t6_0 then t6_0 else 0 : Int32)
  refine q_ti (v := a117) e118 ?_
  have b119 : q_F (0 ≤ a117.toInt ∧ t6_0.toInt ≤ a117.toInt ∧ (a117.toInt = 0 ∨ a117.toInt = t6_0.toInt)) := (by rw [← e118]; show 0 ≤ (if 0 < t6_0 then t6_0 else 0 : Int32).toInt ∧ t6_0.toInt ≤ (if 0 < t6_0 then t6_0 else 0 : Int32).toInt ∧ ((if 0 < t6_0 then t6_0 else 0 : Int32).toInt = 0 ∨ (if 0 < t6_0 then t6_0 else 0 : Int32).toInt = t6_0.toInt); exact (by have y0 : (0 : Int32).toInt = 0 := rfl; have z := s_max (a := 0) (b := t6_0); omega))
  refine lv_istore_n (lv' := [(3, .int a117), (0, .ref (q 39)), (1, .ref (q k2)), (2, .int x3)]) hx hb d_12_3_51 rfl hl (by decide) rfl (fun ls hl => ?_)
  refine lv_aload_n hx hb d_12_3_52 rfl (lv_at hl 2 rfl) ?_
  refine q_get (ci := 3) (j := 2) (v := .int t6_1) C0 V i_Dec rfl rfl hT6 (by decide) w_181 rfl d_12_3_53 ?_
  refine lv_iconst (v := 1) hx hb d_12_3_56 (by decide) ?_
  refine lv_isub hx hb d_12_3_57 ?_
  obtain ⟨a120, e121⟩ := q_nm (t6_1 - 1 : Int32)
  refine q_ti (v := a120) e121 ?_
  have b122 : q_F (a120.toInt = t6_1.toInt - 1) := (by rw [← e121]; show (t6_1 - 1 : Int32).toInt = t6_1.toInt - 1; exact q_subI (x := t6_1.toInt) (y := 1) rfl (by decide) (by have t1 : 1 ≤ t6_1.toInt ∧ t6_1.toInt ≤ 1000 := btt6_1; omega) (by have t1 : 1 ≤ t6_1.toInt ∧ t6_1.toInt ≤ 1000 := btt6_1; omega))
  refine lv_aload_n hx hb d_12_3_58 rfl (lv_at hl 2 rfl) ?_
  refine q_get (ci := 3) (j := 1) (v := .int t6_0) C0 V i_Dec rfl rfl hT6 (by decide) w_177 rfl d_12_3_59 ?_
  refine lv_isub hx hb d_12_3_62 ?_
  obtain ⟨a123, e124⟩ := q_nm (a120 - t6_0 : Int32)
  refine q_ti (v := a123) e124 ?_
  have b125 : q_F (a123.toInt = a120.toInt - t6_0.toInt) := (by rw [← e124]; show (a120 - t6_0 : Int32).toInt = a120.toInt - t6_0.toInt; exact q_subI (x := a120.toInt) (y := t6_0.toInt) rfl rfl (by have t1 : -10000 ≤ t6_0.toInt ∧ t6_0.toInt ≤ 10000 := btt6_0; have t2 : 1 ≤ t6_1.toInt ∧ t6_1.toInt ≤ 1000 := btt6_1; have t3 : a120.toInt = t6_1.toInt - 1 := b122; omega) (by have t1 : -10000 ≤ t6_0.toInt ∧ t6_0.toInt ≤ 10000 := btt6_0; have t2 : 1 ≤ t6_1.toInt ∧ t6_1.toInt ≤ 1000 := btt6_1; have t3 : a120.toInt = t6_1.toInt - 1 := b122; omega))
  refine lv_istore (lv' := [(4, .int a123), (3, .int a117), (0, .ref (q 39)), (1, .ref (q k2)), (2, .int x3)]) hx hb d_12_3_63 hl (by decide) rfl (fun ls hl => ?_)
  refine lv_iload_n hx hb d_12_3_65 rfl (lv_at hl 4 rfl) ?_
  refine lv_iconst (v := 1) hx hb d_12_3_66 (by decide) ?_
  refine lv_icmp_eq (tgt := 91) hx hb d_12_3_67 (by decide) (fun c126 => ?_) (fun c126 => ?_)
  ·
    have b127 : q_F (x3.toInt = 1) := (q_eqI c126)
    refine lv_aload_n hx hb d_12_3_91 rfl (lv_at hl 2 rfl) ?_
    refine q_get (ci := 9) (j := 2) (v := .ref (q 36)) C0 V i_Wri rfl rfl hO35 (by decide) w_331 rfl d_12_3_92 ?_
    refine lv_aload_n hx hb d_12_3_95 rfl (lv_at hl 2 rfl) ?_
    refine q_get (ci := 9) (j := 0) (v := .ref (q 3)) C0 V i_Wri rfl rfl hO35 (by decide) w_329 rfl d_12_3_96 ?_
    refine lv_iload_n hx hb d_12_3_99 rfl (lv_at hl 1 rfl) ?_
    refine lv_iconst (v := 0) hx hb d_12_3_100 (by decide) ?_
    refine lv_iconst (v := 0) hx hb d_12_3_101 (by decide) ?_
    have ob128 : q_F (y85.toInt ≤ 200000) := (by rw [e107]; have h := hS113; rw [S_Wri_decimalText_c40.eq_1] at h; rw [if_pos c126] at h; exact h.2.1)
    refine q_gov V (q_runV (As := [.ref (q 3), .int a117, .int 0, .int 0]) (rest := []) (d := 2) (mc := 0) (ms := 0) (ci := 7) C0 V rfl LV_Wri_90 (X_Dig_writePlain l D g q u81 3 11008 1376 1000000 (n_h3 g q) a117 0 0 hI y84 y85 hO83 f86 hA87 y39 hO38 f40 hA41 ⟨(by have y0 : (11008 : Int32).toInt = 11008 := rfl; have y1 : (1376 : Int32).toInt = 1376 := rfl; have y2 : (1000000 : Int32).toInt = 1000000 := rfl; have y3 : (0 : Int32).toInt = 0 := rfl; have y4 : (0 : Int32).toInt = 0 := rfl; omega), (by have y0 : (11008 : Int32).toInt = 11008 := rfl; have y1 : (1376 : Int32).toInt = 1376 := rfl; have y2 : (1000000 : Int32).toInt = 1000000 := rfl; have y3 : (0 : Int32).toInt = 0 := rfl; have y4 : (0 : Int32).toInt = 0 := rfl; omega)⟩ ⟨(by have y0 : (11008 : Int32).toInt = 11008 := rfl; have y1 : (1376 : Int32).toInt = 1376 := rfl; have y2 : (1000000 : Int32).toInt = 1000000 := rfl; have y3 : (0 : Int32).toInt = 0 := rfl; have y4 : (0 : Int32).toInt = 0 := rfl; omega), (by have y0 : (11008 : Int32).toInt = 11008 := rfl; have y1 : (1376 : Int32).toInt = 1376 := rfl; have y2 : (1000000 : Int32).toInt = 1000000 := rfl; have y3 : (0 : Int32).toInt = 0 := rfl; have y4 : (0 : Int32).toInt = 0 := rfl; omega)⟩ (by have y0 : (11008 : Int32).toInt = 11008 := rfl; have y1 : (1376 : Int32).toInt = 1376 := rfl; have y2 : (1000000 : Int32).toInt = 1000000 := rfl; have y3 : (0 : Int32).toInt = 0 := rfl; have y4 : (0 : Int32).toInt = 0 := rfl; have t1 : y85.toInt ≤ 200000 := ob128; omega) (by have y0 : (11008 : Int32).toInt = 11008 := rfl; have y1 : (1376 : Int32).toInt = 1376 := rfl; have y2 : (1000000 : Int32).toInt = 1000000 := rfl; have y3 : (0 : Int32).toInt = 0 := rfl; have y4 : (0 : Int32).toInt = 0 := rfl; have t1 : -10000 ≤ t6_0.toInt ∧ t6_0.toInt ≤ 10000 := btt6_0; have t2 : 0 ≤ a117.toInt ∧ t6_0.toInt ≤ a117.toInt ∧ (a117.toInt = 0 ∨ a117.toInt = t6_0.toInt) := b119; omega) (by have y0 : (11008 : Int32).toInt = 11008 := rfl; have y1 : (1376 : Int32).toInt = 1376 := rfl; have y2 : (1000000 : Int32).toInt = 1000000 := rfl; have y3 : (0 : Int32).toInt = 0 := rfl; have y4 : (0 : Int32).toInt = 0 := rfl; have t1 : 0 ≤ t7_1.toInt ∧ t7_1.toInt ≤ 1 := btt7_1; have t2 : y39.toInt ≤ t7_1.toInt := b43; omega) (by have y0 : (11008 : Int32).toInt = 11008 := rfl; have y1 : (1376 : Int32).toInt = 1376 := rfl; have y2 : (1000000 : Int32).toInt = 1000000 := rfl; have y3 : (0 : Int32).toInt = 0 := rfl; have y4 : (0 : Int32).toInt = 0 := rfl; omega) _) rfl rfl hO83 rfl hl.1 rfl (Nat.le_of_ble_eq_true rfl) ⟨by decide, by decide⟩ ⟨Nat.le_of_ble_eq_true rfl, Nat.le_of_ble_eq_true rfl⟩ d_12_3_102) (fun u129 H locs hp130 V => ?_)
    obtain ⟨hI, hu142, y132, f133, hO131, hA134, b135, b136, b137, b138, b139, b140, hE141⟩ := hp130
    replace hO131 : u129[3]? = (some (q 3, .inr (1, [.ref (q 4), .int 11008, .int y132])) : Option (Nat × va_E)) := hO131
    replace hA134 : u129[4]? = (some (q 4, .inl (g 1, (1376 : Int32).toNatClampNeg, .inr (.inl f133))) : Option (Nat × va_E)) := hA134
    obtain ⟨p143, e144⟩ : ∃ z, z = (F_Dig_writePlain (11008 : Int32) (1376 : Int32) (1000000 : Int32) a117 (0 : Int32) (0 : Int32) y84 y85 f86 y39 f40) := ⟨_, rfl⟩
    have e145 : y132 = p143.1 := congrArg (fun z => z.1) (hE141.trans e144.symm)
    have e146 : f133 = p143.2 := congrArg (fun z => z.2) (hE141.trans e144.symm)
    replace b135 : q_F (a117.toInt + 1 ≤ y132.toInt) := b135
    replace b136 : q_F (0 + 1 ≤ y132.toInt) := b136
    replace b137 : q_F (y85.toInt + 1 ≤ y132.toInt) := b137
    replace b138 : q_F (y132.toInt ≤ y85.toInt + 1420003) := b138
    replace b139 : q_F (y39.toInt + 1 ≤ y132.toInt) := b139
    replace b140 : q_F (y132.toInt ≤ y39.toInt + 420003) := b140
    replace hO83 := (hu142 _ (by decide)).trans hO83
    replace hA87 := (hu142 _ (by decide)).trans hA87
    replace hO88 := (hu142 _ (by decide)).trans hO88
    replace hA92 := (hu142 _ (by decide)).trans hA92
    replace hT6 := (hu142 _ (by have z0 := zk2; simp only [List.mem_cons, List.not_mem_nil, or_false, not_or]; omega)).trans hT6
    replace hT7 := (hu142 _ (by have z0 := zk2; simp only [List.mem_cons, List.not_mem_nil, or_false, not_or]; omega)).trans hT7
    replace hT8 := (hu142 _ (by have z0 := zk2; simp only [List.mem_cons, List.not_mem_nil, or_false, not_or]; omega)).trans hT8
    replace hO35 := (hu142 _ (by decide)).trans hO35
    replace hO55 := (hu142 _ (by decide)).trans hO55
    replace hF := q_uc hF hu142 (by simp)
    have hR147 := (show F_Wri_decimalText_c102 R x3 t0_0 t1_0 t2_0 t2_1 t3_0 t4_0 t4_1 t5_0 t6_0 t6_1 t7_0 t7_1 t8_0 p46 y39 f40 p70 p104 a123 a117 y84 y85 f86 y89 y90 f91 p143 = (F_Wri_decimalText R x3 t0_0 t1_0 t2_0 t2_1 t3_0 t4_0 t4_1 t5_0 t6_0 t6_1 t7_0 t7_1 t8_0) from Eq.trans (by rw [e144, ← e124, ← e121, ← e118, e111, e110, e109, e108, e107, e106, F_Wri_decimalText_c40.eq_1, if_pos c126]) hR112)
    have hS148 := (show True ∧ S_Wri_decimalText_c102 R x3 t0_0 t1_0 t2_0 t2_1 t3_0 t4_0 t4_1 t5_0 t6_0 t6_1 t7_0 t7_1 t8_0 p46 y39 f40 p70 p104 a123 a117 y84 y85 f86 y89 y90 f91 p143 from (by rw [e144, ← e124, ← e121, ← e118, e111, e110, e109, e108, e107, e106]; have h := hS113; rw [S_Wri_decimalText_c40.eq_1] at h; rw [if_pos c126] at h; replace h := q_s2 h; with_reducible exact h))
    refine lv_goto (tgt := 147) hx hb d_12_3_105 (by decide) ?_
    exact q_retv C0 V (⟨hI, hF, y132, f133, y84, y85, f86, y89, y90, f91, hO131, hA134, hO83, hA87, hO88, hA92, (show 0 ≤ y84.toInt from (by have t1 : 0 ≤ y84.toInt := b93; omega)), (show y84.toInt ≤ 1026 from (by have t1 : y84.toInt ≤ 1026 := b94; omega)), (show 0 ≤ y85.toInt + 1000000 from (by have t1 : 0 ≤ y85.toInt + 1000000 := b95; omega)), (show y85.toInt ≤ 1000000 from (by have t1 : y85.toInt ≤ 1000000 := b96; omega)), (show 0 ≤ y89.toInt from (by have t1 : 0 ≤ y89.toInt := b97; omega)), (show 0 ≤ y90.toInt from (by have t1 : 0 ≤ y90.toInt := b98; omega)), (show t7_1.toInt ≤ y132.toInt from (by have t1 : 0 ≤ t7_1.toInt ∧ t7_1.toInt ≤ 1 := btt7_1; have t2 : 0 + 1 ≤ y132.toInt := b136; omega)), (show y132.toInt ≤ t7_1.toInt + 420003 from (by have t1 : y39.toInt ≤ t7_1.toInt := b43; have t2 : y132.toInt ≤ y39.toInt + 420003 := b140; omega)), (show y89.toInt ≤ t7_0.toInt from (by have t1 : y59.toInt ≤ t7_0.toInt := b64; have t2 : y89.toInt ≤ y59.toInt := b99; omega)), (show y90.toInt ≤ t7_1.toInt from (by have t1 : y60.toInt ≤ t7_1.toInt := b67; have t2 : y90.toInt ≤ y60.toInt := b100; omega)), (show y85.toInt ≤ y84.toInt + 999999 from (by have t1 : y85.toInt ≤ y84.toInt + 999999 := b101; omega)), (show (y132, f133, y84, y85, f86, y89, y90, f91) = (F_Wri_decimalText R x3 t0_0 t1_0 t2_0 t2_1 t3_0 t4_0 t4_1 t5_0 t6_0 t6_1 t7_0 t7_1 t8_0) from Eq.trans (by rw [e146, e145, F_Wri_decimalText_c102.eq_1]) hR147)⟩) d_12_3_147
  ·
    have b152 : q_F (x3.toInt ≠ 1) := (q_neI c126)
    refine lv_aload_n hx hb d_12_3_70 rfl (lv_at hl 3 rfl) ?_
    refine q_get (ci := 3) (j := 1) (v := .int t6_0) C0 V i_Dec rfl rfl hT6 (by decide) w_177 rfl d_12_3_71 ?_
    refine lv_if_eq (tgt := 91) hx hb d_12_3_74 (by decide) (fun c153 => ?_) (fun c153 => ?_)
    ·
      have b154 : q_F (t6_0.toInt = 0) := (q_eqI c153)
      refine lv_aload_n hx hb d_12_3_91 rfl (lv_at hl 2 rfl) ?_
      refine q_get (ci := 9) (j := 2) (v := .ref (q 36)) C0 V i_Wri rfl rfl hO35 (by decide) w_331 rfl d_12_3_92 ?_
      refine lv_aload_n hx hb d_12_3_95 rfl (lv_at hl 2 rfl) ?_
      refine q_get (ci := 9) (j := 0) (v := .ref (q 3)) C0 V i_Wri rfl rfl hO35 (by decide) w_329 rfl d_12_3_96 ?_
      refine lv_iload_n hx hb d_12_3_99 rfl (lv_at hl 1 rfl) ?_
      refine lv_iconst (v := 0) hx hb d_12_3_100 (by decide) ?_
      refine lv_iconst (v := 0) hx hb d_12_3_101 (by decide) ?_
      have ob155 : q_F (y85.toInt ≤ 200000) := (by rw [e107]; have h := hS113; rw [S_Wri_decimalText_c40.eq_1] at h; rw [if_neg c126] at h; rw [if_pos c153] at h; exact h.2.1)
      refine q_gov V (q_runV (As := [.ref (q 3), .int a117, .int 0, .int 0]) (rest := []) (d := 2) (mc := 0) (ms := 0) (ci := 7) C0 V rfl LV_Wri_90 (X_Dig_writePlain l D g q u81 3 11008 1376 1000000 (n_h3 g q) a117 0 0 hI y84 y85 hO83 f86 hA87 y39 hO38 f40 hA41 ⟨(by have y0 : (11008 : Int32).toInt = 11008 := rfl; have y1 : (1376 : Int32).toInt = 1376 := rfl; have y2 : (1000000 : Int32).toInt = 1000000 := rfl; have y3 : (0 : Int32).toInt = 0 := rfl; have y4 : (0 : Int32).toInt = 0 := rfl; omega), (by have y0 : (11008 : Int32).toInt = 11008 := rfl; have y1 : (1376 : Int32).toInt = 1376 := rfl; have y2 : (1000000 : Int32).toInt = 1000000 := rfl; have y3 : (0 : Int32).toInt = 0 := rfl; have y4 : (0 : Int32).toInt = 0 := rfl; omega)⟩ ⟨(by have y0 : (11008 : Int32).toInt = 11008 := rfl; have y1 : (1376 : Int32).toInt = 1376 := rfl; have y2 : (1000000 : Int32).toInt = 1000000 := rfl; have y3 : (0 : Int32).toInt = 0 := rfl; have y4 : (0 : Int32).toInt = 0 := rfl; omega), (by have y0 : (11008 : Int32).toInt = 11008 := rfl; have y1 : (1376 : Int32).toInt = 1376 := rfl; have y2 : (1000000 : Int32).toInt = 1000000 := rfl; have y3 : (0 : Int32).toInt = 0 := rfl; have y4 : (0 : Int32).toInt = 0 := rfl; omega)⟩ (by have y0 : (11008 : Int32).toInt = 11008 := rfl; have y1 : (1376 : Int32).toInt = 1376 := rfl; have y2 : (1000000 : Int32).toInt = 1000000 := rfl; have y3 : (0 : Int32).toInt = 0 := rfl; have y4 : (0 : Int32).toInt = 0 := rfl; have t1 : y85.toInt ≤ 200000 := ob155; omega) (by have y0 : (11008 : Int32).toInt = 11008 := rfl; have y1 : (1376 : Int32).toInt = 1376 := rfl; have y2 : (1000000 : Int32).toInt = 1000000 := rfl; have y3 : (0 : Int32).toInt = 0 := rfl; have y4 : (0 : Int32).toInt = 0 := rfl; have t1 : -10000 ≤ t6_0.toInt ∧ t6_0.toInt ≤ 10000 := btt6_0; have t2 : 0 ≤ a117.toInt ∧ t6_0.toInt ≤ a117.toInt ∧ (a117.toInt = 0 ∨ a117.toInt = t6_0.toInt) := b119; omega) (by have y0 : (11008 : Int32).toInt = 11008 := rfl; have y1 : (1376 : Int32).toInt = 1376 := rfl; have y2 : (1000000 : Int32).toInt = 1000000 := rfl; have y3 : (0 : Int32).toInt = 0 := rfl; have y4 : (0 : Int32).toInt = 0 := rfl; have t1 : 0 ≤ t7_1.toInt ∧ t7_1.toInt ≤ 1 := btt7_1; have t2 : y39.toInt ≤ t7_1.toInt := b43; omega) (by have y0 : (11008 : Int32).toInt = 11008 := rfl; have y1 : (1376 : Int32).toInt = 1376 := rfl; have y2 : (1000000 : Int32).toInt = 1000000 := rfl; have y3 : (0 : Int32).toInt = 0 := rfl; have y4 : (0 : Int32).toInt = 0 := rfl; omega) _) rfl rfl hO83 rfl hl.1 rfl (Nat.le_of_ble_eq_true rfl) ⟨by decide, by decide⟩ ⟨Nat.le_of_ble_eq_true rfl, Nat.le_of_ble_eq_true rfl⟩ d_12_3_102) (fun u156 H locs hp157 V => ?_)
      obtain ⟨hI, hu169, y159, f160, hO158, hA161, b162, b163, b164, b165, b166, b167, hE168⟩ := hp157
      replace hO158 : u156[3]? = (some (q 3, .inr (1, [.ref (q 4), .int 11008, .int y159])) : Option (Nat × va_E)) := hO158
      replace hA161 : u156[4]? = (some (q 4, .inl (g 1, (1376 : Int32).toNatClampNeg, .inr (.inl f160))) : Option (Nat × va_E)) := hA161
      obtain ⟨p170, e171⟩ : ∃ z, z = (F_Dig_writePlain (11008 : Int32) (1376 : Int32) (1000000 : Int32) a117 (0 : Int32) (0 : Int32) y84 y85 f86 y39 f40) := ⟨_, rfl⟩
      have e172 : y159 = p170.1 := congrArg (fun z => z.1) (hE168.trans e171.symm)
      have e173 : f160 = p170.2 := congrArg (fun z => z.2) (hE168.trans e171.symm)
      replace b162 : q_F (a117.toInt + 1 ≤ y159.toInt) := b162
      replace b163 : q_F (0 + 1 ≤ y159.toInt) := b163
      replace b164 : q_F (y85.toInt + 1 ≤ y159.toInt) := b164
      replace b165 : q_F (y159.toInt ≤ y85.toInt + 1420003) := b165
      replace b166 : q_F (y39.toInt + 1 ≤ y159.toInt) := b166
      replace b167 : q_F (y159.toInt ≤ y39.toInt + 420003) := b167
      replace hO83 := (hu169 _ (by decide)).trans hO83
      replace hA87 := (hu169 _ (by decide)).trans hA87
      replace hO88 := (hu169 _ (by decide)).trans hO88
      replace hA92 := (hu169 _ (by decide)).trans hA92
      replace hT6 := (hu169 _ (by have z0 := zk2; simp only [List.mem_cons, List.not_mem_nil, or_false, not_or]; omega)).trans hT6
      replace hT7 := (hu169 _ (by have z0 := zk2; simp only [List.mem_cons, List.not_mem_nil, or_false, not_or]; omega)).trans hT7
      replace hT8 := (hu169 _ (by have z0 := zk2; simp only [List.mem_cons, List.not_mem_nil, or_false, not_or]; omega)).trans hT8
      replace hO35 := (hu169 _ (by decide)).trans hO35
      replace hO55 := (hu169 _ (by decide)).trans hO55
      replace hF := q_uc hF hu169 (by simp)
      have hR174 := (show F_Wri_decimalText_c102_5 R x3 t0_0 t1_0 t2_0 t2_1 t3_0 t4_0 t4_1 t5_0 t6_0 t6_1 t7_0 t7_1 t8_0 p46 y39 f40 p70 p104 a123 a117 y84 y85 f86 y89 y90 f91 p170 = (F_Wri_decimalText R x3 t0_0 t1_0 t2_0 t2_1 t3_0 t4_0 t4_1 t5_0 t6_0 t6_1 t7_0 t7_1 t8_0) from Eq.trans (by rw [e171, ← e124, ← e121, ← e118, e111, e110, e109, e108, e107, e106, F_Wri_decimalText_c40.eq_1, if_neg c126, if_pos c153]) hR112)
      have hS175 := (show True ∧ S_Wri_decimalText_c102_5 R x3 t0_0 t1_0 t2_0 t2_1 t3_0 t4_0 t4_1 t5_0 t6_0 t6_1 t7_0 t7_1 t8_0 p46 y39 f40 p70 p104 a123 a117 y84 y85 f86 y89 y90 f91 p170 from (by rw [e171, ← e124, ← e121, ← e118, e111, e110, e109, e108, e107, e106]; have h := hS113; rw [S_Wri_decimalText_c40.eq_1] at h; rw [if_neg c126] at h; rw [if_pos c153] at h; replace h := q_s2 h; with_reducible exact h))
      refine lv_goto (tgt := 147) hx hb d_12_3_105 (by decide) ?_
      exact q_retv C0 V (⟨hI, hF, y159, f160, y84, y85, f86, y89, y90, f91, hO158, hA161, hO83, hA87, hO88, hA92, (show 0 ≤ y84.toInt from (by have t1 : 0 ≤ y84.toInt := b93; omega)), (show y84.toInt ≤ 1026 from (by have t1 : y84.toInt ≤ 1026 := b94; omega)), (show 0 ≤ y85.toInt + 1000000 from (by have t1 : 0 ≤ y85.toInt + 1000000 := b95; omega)), (show y85.toInt ≤ 1000000 from (by have t1 : y85.toInt ≤ 1000000 := b96; omega)), (show 0 ≤ y89.toInt from (by have t1 : 0 ≤ y89.toInt := b97; omega)), (show 0 ≤ y90.toInt from (by have t1 : 0 ≤ y90.toInt := b98; omega)), (show t7_1.toInt ≤ y159.toInt from (by have t1 : 0 ≤ t7_1.toInt ∧ t7_1.toInt ≤ 1 := btt7_1; have t2 : 0 + 1 ≤ y159.toInt := b163; omega)), (show y159.toInt ≤ t7_1.toInt + 420003 from (by have t1 : y39.toInt ≤ t7_1.toInt := b43; have t2 : y159.toInt ≤ y39.toInt + 420003 := b167; omega)), (show y89.toInt ≤ t7_0.toInt from (by have t1 : y59.toInt ≤ t7_0.toInt := b64; have t2 : y89.toInt ≤ y59.toInt := b99; omega)), (show y90.toInt ≤ t7_1.toInt from (by have t1 : y60.toInt ≤ t7_1.toInt := b67; have t2 : y90.toInt ≤ y60.toInt := b100; omega)), (show y85.toInt ≤ y84.toInt + 999999 from (by have t1 : y85.toInt ≤ y84.toInt + 999999 := b101; omega)), (show (y159, f160, y84, y85, f86, y89, y90, f91) = (F_Wri_decimalText R x3 t0_0 t1_0 t2_0 t2_1 t3_0 t4_0 t4_1 t5_0 t6_0 t6_1 t7_0 t7_1 t8_0) from Eq.trans (by rw [e173, e172, F_Wri_decimalText_c102_5.eq_1]) hR174)⟩) d_12_3_147
    ·
      have b179 : q_F (t6_0.toInt ≠ 0) := (q_neI c153)
      refine lv_aload_n hx hb d_12_3_77 rfl (lv_at hl 3 rfl) ?_
      refine q_get (ci := 3) (j := 1) (v := .int t6_0) C0 V i_Dec rfl rfl hT6 (by decide) w_177 rfl d_12_3_78 ?_
      refine q_join (X := Unit) (fun z H locs ls _ => q_Wd D g (va_A ws sz) s u81 H locs ∧ lv_has ls 5 [(4, .int a123), (0, .ref (q 39)), (1, .ref (q k2)), (2, .int x3)] ∧ F_Wri_decimalText_J108 R x3 t0_0 t1_0 t2_0 t2_1 t3_0 t4_0 t4_1 t5_0 t6_0 t6_1 t7_0 t7_1 t8_0 p46 y39 f40 p70 p104 a123 y84 y85 f86 y89 y90 f91 = (F_Wri_decimalText R x3 t0_0 t1_0 t2_0 t2_1 t3_0 t4_0 t4_1 t5_0 t6_0 t6_1 t7_0 t7_1 t8_0) ∧ True ∧ S_Wri_decimalText_J108 R x3 t0_0 t1_0 t2_0 t2_1 t3_0 t4_0 t4_1 t5_0 t6_0 t6_1 t7_0 t7_1 t8_0 p46 y39 f40 p70 p104 a123 y84 y85 f86 y89 y90 f91) (fun z => []) 108 0 0 ?_ ?_
      ·
        rintro _ H locs ls _ ⟨V, hl, hR190, hS191⟩
        replace hl : lv_has ls 5 [(4, .int a123), (0, .ref (q 39)), (1, .ref (q k2)), (2, .int x3)] := hl
        refine lv_iload_n hx hb d_12_3_108 rfl (lv_at hl 3 rfl) ?_
        refine lv_if_ne (tgt := 137) hx hb d_12_3_109 (by decide) (fun c195 => ?_) (fun c195 => ?_)
        ·
          have b196 : q_F (x3.toInt ≠ 0) := (q_neI c195)
          refine lv_aload_n hx hb d_12_3_137 rfl (lv_at hl 1 rfl) ?_
          refine lv_aload_n hx hb d_12_3_138 rfl (lv_at hl 2 rfl) ?_
          refine q_get (ci := 3) (j := 2) (v := .int t6_1) C0 V i_Dec rfl rfl hT6 (by decide) w_181 rfl d_12_3_139 ?_
          refine lv_iload hx hb d_12_3_142 (lv_at hl 0 rfl) ?_
          have ob197 : True ∧ S_Wri_writeByThrees t6_1 a123 y39 f40 y84 y85 f86 := (by have h := hS191; rw [S_Wri_decimalText_J108.eq_1] at h; rw [if_neg c195] at h; with_reducible exact h.2.1)
          refine q_gov V (q_runV (As := [.int t6_1, .int a123]) (rest := []) (d := 4) (mc := 0) (ms := 0) (ci := 9) C0 V rfl LV_Wri_101 (X_Wri_writeByThrees l D g q u81  t6_1 a123 hI y39 hO38 f40 hA41 y84 y85 hO83 f86 hA87 (by have t1 : 1 ≤ t6_1.toInt ∧ t6_1.toInt ≤ 1000 := btt6_1; omega) (by have t1 : 1 ≤ t6_1.toInt ∧ t6_1.toInt ≤ 1000 := btt6_1; omega) (by have t1 : -10000 ≤ t6_0.toInt ∧ t6_0.toInt ≤ 10000 := btt6_0; have t2 : 1 ≤ t6_1.toInt ∧ t6_1.toInt ≤ 1000 := btt6_1; have t3 : a120.toInt = t6_1.toInt - 1 := b122; have t4 : a123.toInt = a120.toInt - t6_0.toInt := b125; omega) (by have t1 : -10000 ≤ t6_0.toInt ∧ t6_0.toInt ≤ 10000 := btt6_0; have t2 : 1 ≤ t6_1.toInt ∧ t6_1.toInt ≤ 1000 := btt6_1; have t3 : a120.toInt = t6_1.toInt - 1 := b122; have t4 : a123.toInt = a120.toInt - t6_0.toInt := b125; omega) (by have t1 : 0 ≤ t7_1.toInt ∧ t7_1.toInt ≤ 1 := btt7_1; have t2 : y39.toInt ≤ t7_1.toInt := b43; omega) ob197 _) rfl rfl hO35 rfl hl.1 rfl (Nat.le_of_ble_eq_true rfl) ⟨by decide, by decide⟩ ⟨Nat.le_of_ble_eq_true rfl, Nat.le_of_ble_eq_true rfl⟩ d_12_3_144) (fun u198 H locs hp199 V => ?_)
          obtain ⟨hI, hu207, y201, f202, hO200, hA203, b204, b205, hE206⟩ := hp199
          replace hO200 : u198[3]? = (some (q 3, .inr (1, [.ref (q 4), .int 11008, .int y201])) : Option (Nat × va_E)) := hO200
          replace hA203 : u198[4]? = (some (q 4, .inl (g 1, (1376 : Int32).toNatClampNeg, .inr (.inl f202))) : Option (Nat × va_E)) := hA203
          obtain ⟨p208, e209⟩ : ∃ z, z = (F_Wri_writeByThrees t6_1 a123 y39 f40 y84 y85 f86) := ⟨_, rfl⟩
          have e210 : y201 = p208.1 := congrArg (fun z => z.1) (hE206.trans e209.symm)
          have e211 : f202 = p208.2 := congrArg (fun z => z.2) (hE206.trans e209.symm)
          replace b204 : q_F (y39.toInt ≤ y201.toInt) := b204
          replace b205 : q_F (y201.toInt ≤ y39.toInt + 40007) := b205
          replace hO83 := (hu207 _ (by decide)).trans hO83
          replace hA87 := (hu207 _ (by decide)).trans hA87
          replace hO88 := (hu207 _ (by decide)).trans hO88
          replace hA92 := (hu207 _ (by decide)).trans hA92
          replace hT6 := (hu207 _ (by have z0 := zk2; simp only [List.mem_cons, List.not_mem_nil, or_false, not_or]; omega)).trans hT6
          replace hT7 := (hu207 _ (by have z0 := zk2; simp only [List.mem_cons, List.not_mem_nil, or_false, not_or]; omega)).trans hT7
          replace hT8 := (hu207 _ (by have z0 := zk2; simp only [List.mem_cons, List.not_mem_nil, or_false, not_or]; omega)).trans hT8
          replace hO35 := (hu207 _ (by decide)).trans hO35
          replace hO55 := (hu207 _ (by decide)).trans hO55
          replace hF := q_uc hF hu207 (by simp)
          have hR212 := (show F_Wri_decimalText_c144 R x3 t0_0 t1_0 t2_0 t2_1 t3_0 t4_0 t4_1 t5_0 t6_0 t6_1 t7_0 t7_1 t8_0 p46 y39 f40 p70 p104 a123 y84 y85 f86 y89 y90 f91 p208 = (F_Wri_decimalText R x3 t0_0 t1_0 t2_0 t2_1 t3_0 t4_0 t4_1 t5_0 t6_0 t6_1 t7_0 t7_1 t8_0) from Eq.trans (by rw [e209, F_Wri_decimalText_J108.eq_1, if_neg c195]) hR190)
          have hS213 := (show True ∧ S_Wri_decimalText_c144 R x3 t0_0 t1_0 t2_0 t2_1 t3_0 t4_0 t4_1 t5_0 t6_0 t6_1 t7_0 t7_1 t8_0 p46 y39 f40 p70 p104 a123 y84 y85 f86 y89 y90 f91 p208 from (by rw [e209]; have h := hS191; rw [S_Wri_decimalText_J108.eq_1] at h; rw [if_neg c195] at h; replace h := q_s2 h; with_reducible exact h))
          exact q_retv C0 V (⟨hI, hF, y201, f202, y84, y85, f86, y89, y90, f91, hO200, hA203, hO83, hA87, hO88, hA92, (show 0 ≤ y84.toInt from (by have t1 : 0 ≤ y84.toInt := b93; omega)), (show y84.toInt ≤ 1026 from (by have t1 : y84.toInt ≤ 1026 := b94; omega)), (show 0 ≤ y85.toInt + 1000000 from (by have t1 : 0 ≤ y85.toInt + 1000000 := b95; omega)), (show y85.toInt ≤ 1000000 from (by have t1 : y85.toInt ≤ 1000000 := b96; omega)), (show 0 ≤ y89.toInt from (by have t1 : 0 ≤ y89.toInt := b97; omega)), (show 0 ≤ y90.toInt from (by have t1 : 0 ≤ y90.toInt := b98; omega)), (show t7_1.toInt ≤ y201.toInt from (by have t1 : t7_1.toInt ≤ y39.toInt := b42; have t2 : y39.toInt ≤ y201.toInt := b204; omega)), (show y201.toInt ≤ t7_1.toInt + 420003 from (by have t1 : y39.toInt ≤ t7_1.toInt := b43; have t2 : y201.toInt ≤ y39.toInt + 40007 := b205; omega)), (show y89.toInt ≤ t7_0.toInt from (by have t1 : y59.toInt ≤ t7_0.toInt := b64; have t2 : y89.toInt ≤ y59.toInt := b99; omega)), (show y90.toInt ≤ t7_1.toInt from (by have t1 : y60.toInt ≤ t7_1.toInt := b67; have t2 : y90.toInt ≤ y60.toInt := b100; omega)), (show y85.toInt ≤ y84.toInt + 999999 from (by have t1 : y85.toInt ≤ y84.toInt + 999999 := b101; omega)), (show (y201, f202, y84, y85, f86, y89, y90, f91) = (F_Wri_decimalText R x3 t0_0 t1_0 t2_0 t2_1 t3_0 t4_0 t4_1 t5_0 t6_0 t6_1 t7_0 t7_1 t8_0) from Eq.trans (by rw [e211, e210, F_Wri_decimalText_c144.eq_1]) hR212)⟩) d_12_3_147
        ·
          have b217 : q_F (x3.toInt = 0) := (q_eqI c195)
          refine lv_aload_n hx hb d_12_3_112 rfl (lv_at hl 1 rfl) ?_
          refine q_get (ci := 9) (j := 2) (v := .ref (q 36)) C0 V i_Wri rfl rfl hO35 (by decide) w_331 rfl d_12_3_113 ?_
          refine lv_aload_n hx hb d_12_3_116 rfl (lv_at hl 1 rfl) ?_
          refine q_get (ci := 9) (j := 0) (v := .ref (q 3)) C0 V i_Wri rfl rfl hO35 (by decide) w_329 rfl d_12_3_117 ?_
          refine lv_aload_n hx hb d_12_3_120 rfl (lv_at hl 2 rfl) ?_
          refine q_get (ci := 3) (j := 2) (v := .int t6_1) C0 V i_Dec rfl rfl hT6 (by decide) w_181 rfl d_12_3_121 ?_
          refine lv_iconst (v := 0) hx hb d_12_3_124 (by decide) ?_
          refine q_gov V (q_runV (As := [.ref (q 3), .int t6_1, .int 0]) (rest := []) (d := 2) (mc := 0) (ms := 0) (ci := 7) C0 V rfl LV_Wri_94 (X_Dig_writeHead l D g q u81 3 11008 1376 1000000 (n_h3 g q) t6_1 0 hI y84 y85 hO83 f86 hA87 y39 hO38 f40 hA41 ⟨(by have y0 : (11008 : Int32).toInt = 11008 := rfl; have y1 : (1376 : Int32).toInt = 1376 := rfl; have y2 : (1000000 : Int32).toInt = 1000000 := rfl; have y3 : (0 : Int32).toInt = 0 := rfl; omega), (by have y0 : (11008 : Int32).toInt = 11008 := rfl; have y1 : (1376 : Int32).toInt = 1376 := rfl; have y2 : (1000000 : Int32).toInt = 1000000 := rfl; have y3 : (0 : Int32).toInt = 0 := rfl; omega)⟩ (by have y0 : (11008 : Int32).toInt = 11008 := rfl; have y1 : (1376 : Int32).toInt = 1376 := rfl; have y2 : (1000000 : Int32).toInt = 1000000 := rfl; have y3 : (0 : Int32).toInt = 0 := rfl; have t1 : 1 ≤ t6_1.toInt ∧ t6_1.toInt ≤ 1000 := btt6_1; omega) (by have y0 : (11008 : Int32).toInt = 11008 := rfl; have y1 : (1376 : Int32).toInt = 1376 := rfl; have y2 : (1000000 : Int32).toInt = 1000000 := rfl; have y3 : (0 : Int32).toInt = 0 := rfl; have t1 : 0 ≤ t7_1.toInt ∧ t7_1.toInt ≤ 1 := btt7_1; have t2 : y39.toInt ≤ t7_1.toInt := b43; omega) (by have y0 : (11008 : Int32).toInt = 11008 := rfl; have y1 : (1376 : Int32).toInt = 1376 := rfl; have y2 : (1000000 : Int32).toInt = 1000000 := rfl; have y3 : (0 : Int32).toInt = 0 := rfl; omega) _) rfl rfl hO83 rfl hl.1 rfl (Nat.le_of_ble_eq_true rfl) ⟨by decide, by decide⟩ ⟨Nat.le_of_ble_eq_true rfl, Nat.le_of_ble_eq_true rfl⟩ d_12_3_125) (fun u218 H locs hp219 V => ?_)
          obtain ⟨hI, hu229, y221, f222, hO220, hA223, b224, b225, b226, b227, hE228⟩ := hp219
          replace hO220 : u218[3]? = (some (q 3, .inr (1, [.ref (q 4), .int 11008, .int y221])) : Option (Nat × va_E)) := hO220
          replace hA223 : u218[4]? = (some (q 4, .inl (g 1, (1376 : Int32).toNatClampNeg, .inr (.inl f222))) : Option (Nat × va_E)) := hA223
          obtain ⟨p230, e231⟩ : ∃ z, z = (F_Dig_writeHead (11008 : Int32) (1376 : Int32) (1000000 : Int32) t6_1 (0 : Int32) y84 y85 f86 y39 f40) := ⟨_, rfl⟩
          have e232 : y221 = p230.1 := congrArg (fun z => z.1) (hE228.trans e231.symm)
          have e233 : f222 = p230.2 := congrArg (fun z => z.2) (hE228.trans e231.symm)
          replace b224 : q_F (t6_1.toInt ≤ y221.toInt) := b224
          replace b225 : q_F (0 + 1 ≤ y221.toInt) := b225
          replace b226 : q_F (y39.toInt + 1 ≤ y221.toInt) := b226
          replace b227 : q_F (y221.toInt ≤ y39.toInt + 20001) := b227
          replace hO83 := (hu229 _ (by decide)).trans hO83
          replace hA87 := (hu229 _ (by decide)).trans hA87
          replace hO88 := (hu229 _ (by decide)).trans hO88
          replace hA92 := (hu229 _ (by decide)).trans hA92
          replace hT6 := (hu229 _ (by have z0 := zk2; simp only [List.mem_cons, List.not_mem_nil, or_false, not_or]; omega)).trans hT6
          replace hT7 := (hu229 _ (by have z0 := zk2; simp only [List.mem_cons, List.not_mem_nil, or_false, not_or]; omega)).trans hT7
          replace hT8 := (hu229 _ (by have z0 := zk2; simp only [List.mem_cons, List.not_mem_nil, or_false, not_or]; omega)).trans hT8
          replace hO35 := (hu229 _ (by decide)).trans hO35
          replace hO55 := (hu229 _ (by decide)).trans hO55
          replace hF := q_uc hF hu229 (by simp)
          have hR234 := (show F_Wri_decimalText_c125 R x3 t0_0 t1_0 t2_0 t2_1 t3_0 t4_0 t4_1 t5_0 t6_0 t6_1 t7_0 t7_1 t8_0 p46 y39 f40 p70 p104 a123 y84 y85 f86 y89 y90 f91 p230 = (F_Wri_decimalText R x3 t0_0 t1_0 t2_0 t2_1 t3_0 t4_0 t4_1 t5_0 t6_0 t6_1 t7_0 t7_1 t8_0) from Eq.trans (by rw [e231, F_Wri_decimalText_J108.eq_1, if_pos c195]) hR190)
          have hS235 := (show True ∧ S_Wri_decimalText_c125 R x3 t0_0 t1_0 t2_0 t2_1 t3_0 t4_0 t4_1 t5_0 t6_0 t6_1 t7_0 t7_1 t8_0 p46 y39 f40 p70 p104 a123 y84 y85 f86 y89 y90 f91 p230 from (by rw [e231]; have h := hS191; rw [S_Wri_decimalText_J108.eq_1] at h; rw [if_pos c195] at h; with_reducible exact h))
          refine lv_aload_n hx hb d_12_3_128 rfl (lv_at hl 1 rfl) ?_
          refine lv_iload hx hb d_12_3_129 (lv_at hl 0 rfl) ?_
          refine q_gov V (q_runV (As := [.int a123]) (rest := []) (d := 3) (mc := 0) (ms := 0) (ci := 9) C0 V rfl LV_Wri_98 (X_Wri_writePower l D g q u218  a123 hI y221 hO220 f222 hA223 (by have t1 : 0 ≤ t7_1.toInt ∧ t7_1.toInt ≤ 1 := btt7_1; have t2 : y39.toInt ≤ t7_1.toInt := b43; have t3 : y221.toInt ≤ y39.toInt + 20001 := b227; omega) (by have t1 : -10000 ≤ t6_0.toInt ∧ t6_0.toInt ≤ 10000 := btt6_0; have t2 : 1 ≤ t6_1.toInt ∧ t6_1.toInt ≤ 1000 := btt6_1; have t3 : a120.toInt = t6_1.toInt - 1 := b122; have t4 : a123.toInt = a120.toInt - t6_0.toInt := b125; omega) _) rfl rfl hO35 rfl hl.1 rfl (Nat.le_of_ble_eq_true rfl) ⟨by decide, by decide⟩ ⟨Nat.le_of_ble_eq_true rfl, Nat.le_of_ble_eq_true rfl⟩ d_12_3_131) (fun u239 H locs hp240 V => ?_)
          obtain ⟨hI, hu248, y242, f243, hO241, hA244, b245, b246, hE247⟩ := hp240
          replace hO241 : u239[3]? = (some (q 3, .inr (1, [.ref (q 4), .int 11008, .int y242])) : Option (Nat × va_E)) := hO241
          replace hA244 : u239[4]? = (some (q 4, .inl (g 1, (1376 : Int32).toNatClampNeg, .inr (.inl f243))) : Option (Nat × va_E)) := hA244
          obtain ⟨p249, e250⟩ : ∃ z, z = (F_Wri_writePower a123 y221 f222) := ⟨_, rfl⟩
          have e251 : y242 = p249.1 := congrArg (fun z => z.1) (hE247.trans e250.symm)
          have e252 : f243 = p249.2 := congrArg (fun z => z.2) (hE247.trans e250.symm)
          replace b245 : q_F (y221.toInt + 2 ≤ y242.toInt) := b245
          replace b246 : q_F (y242.toInt ≤ y221.toInt + 7) := b246
          replace hO83 := (hu248 _ (by decide)).trans hO83
          replace hA87 := (hu248 _ (by decide)).trans hA87
          replace hO88 := (hu248 _ (by decide)).trans hO88
          replace hA92 := (hu248 _ (by decide)).trans hA92
          replace hT6 := (hu248 _ (by have z0 := zk2; simp only [List.mem_cons, List.not_mem_nil, or_false, not_or]; omega)).trans hT6
          replace hT7 := (hu248 _ (by have z0 := zk2; simp only [List.mem_cons, List.not_mem_nil, or_false, not_or]; omega)).trans hT7
          replace hT8 := (hu248 _ (by have z0 := zk2; simp only [List.mem_cons, List.not_mem_nil, or_false, not_or]; omega)).trans hT8
          replace hO35 := (hu248 _ (by decide)).trans hO35
          replace hO55 := (hu248 _ (by decide)).trans hO55
          replace hF := q_uc hF hu248 (by simp)
          have hR253 := (show F_Wri_decimalText_c131 R x3 t0_0 t1_0 t2_0 t2_1 t3_0 t4_0 t4_1 t5_0 t6_0 t6_1 t7_0 t7_1 t8_0 p46 y39 f40 p70 p104 a123 y84 y85 f86 y89 y90 f91 p230 p249 = (F_Wri_decimalText R x3 t0_0 t1_0 t2_0 t2_1 t3_0 t4_0 t4_1 t5_0 t6_0 t6_1 t7_0 t7_1 t8_0) from Eq.trans (by rw [e250, e233, e232, F_Wri_decimalText_c125.eq_1]) hR234)
          have hS254 := (show True ∧ S_Wri_decimalText_c131 R x3 t0_0 t1_0 t2_0 t2_1 t3_0 t4_0 t4_1 t5_0 t6_0 t6_1 t7_0 t7_1 t8_0 p46 y39 f40 p70 p104 a123 y84 y85 f86 y89 y90 f91 p230 p249 from (by rw [e250, e233, e232]; have h := hS235; rw [S_Wri_decimalText_c125.eq_1] at h; with_reducible exact h))
          refine lv_goto (tgt := 147) hx hb d_12_3_134 (by decide) ?_
          exact q_retv C0 V (⟨hI, hF, y242, f243, y84, y85, f86, y89, y90, f91, hO241, hA244, hO83, hA87, hO88, hA92, (show 0 ≤ y84.toInt from (by have t1 : 0 ≤ y84.toInt := b93; omega)), (show y84.toInt ≤ 1026 from (by have t1 : y84.toInt ≤ 1026 := b94; omega)), (show 0 ≤ y85.toInt + 1000000 from (by have t1 : 0 ≤ y85.toInt + 1000000 := b95; omega)), (show y85.toInt ≤ 1000000 from (by have t1 : y85.toInt ≤ 1000000 := b96; omega)), (show 0 ≤ y89.toInt from (by have t1 : 0 ≤ y89.toInt := b97; omega)), (show 0 ≤ y90.toInt from (by have t1 : 0 ≤ y90.toInt := b98; omega)), (show t7_1.toInt ≤ y242.toInt from (by have t1 : 0 ≤ t7_1.toInt ∧ t7_1.toInt ≤ 1 := btt7_1; have t2 : 0 + 1 ≤ y221.toInt := b225; have t3 : y221.toInt + 2 ≤ y242.toInt := b245; omega)), (show y242.toInt ≤ t7_1.toInt + 420003 from (by have t1 : y39.toInt ≤ t7_1.toInt := b43; have t2 : y221.toInt ≤ y39.toInt + 20001 := b227; have t3 : y242.toInt ≤ y221.toInt + 7 := b246; omega)), (show y89.toInt ≤ t7_0.toInt from (by have t1 : y59.toInt ≤ t7_0.toInt := b64; have t2 : y89.toInt ≤ y59.toInt := b99; omega)), (show y90.toInt ≤ t7_1.toInt from (by have t1 : y60.toInt ≤ t7_1.toInt := b67; have t2 : y90.toInt ≤ y60.toInt := b100; omega)), (show y85.toInt ≤ y84.toInt + 999999 from (by have t1 : y85.toInt ≤ y84.toInt + 999999 := b101; omega)), (show (y242, f243, y84, y85, f86, y89, y90, f91) = (F_Wri_decimalText R x3 t0_0 t1_0 t2_0 t2_1 t3_0 t4_0 t4_1 t5_0 t6_0 t6_1 t7_0 t7_1 t8_0) from Eq.trans (by rw [e252, e251, F_Wri_decimalText_c131.eq_1]) hR253)⟩) d_12_3_147
      ·
        intro J189
        refine lv_if_le (tgt := 108) hx hb d_12_3_81 (by decide) (fun c258 => ?_) (fun c258 => ?_)
        ·
          have b259 : q_F (t6_0.toInt ≤ 0) := (q_leI c258)
          exact J189 (()) _ _ _ u81 ⟨V, q_lw hl (q_lw1 0 rfl (q_lw1 2 rfl (q_lw1 3 rfl (q_lw1 4 rfl q_lw0)))), (show F_Wri_decimalText_J108 R x3 t0_0 t1_0 t2_0 t2_1 t3_0 t4_0 t4_1 t5_0 t6_0 t6_1 t7_0 t7_1 t8_0 p46 y39 f40 p70 p104 a123 y84 y85 f86 y89 y90 f91 = (F_Wri_decimalText R x3 t0_0 t1_0 t2_0 t2_1 t3_0 t4_0 t4_1 t5_0 t6_0 t6_1 t7_0 t7_1 t8_0) from Eq.trans (by rw [← e124, ← e121, e111, e110, e109, e108, e107, e106, F_Wri_decimalText_c40.eq_1, if_neg c126, if_neg c153, if_pos c258]) hR112), (show True ∧ S_Wri_decimalText_J108 R x3 t0_0 t1_0 t2_0 t2_1 t3_0 t4_0 t4_1 t5_0 t6_0 t6_1 t7_0 t7_1 t8_0 p46 y39 f40 p70 p104 a123 y84 y85 f86 y89 y90 f91 from (by rw [← e124, ← e121, e111, e110, e109, e108, e107, e106]; have h := hS113; rw [S_Wri_decimalText_c40.eq_1] at h; rw [if_neg c126] at h; rw [if_neg c153] at h; rw [if_pos c258] at h; with_reducible exact h))⟩
        ·
          have b260 : q_F (0 < t6_0.toInt) := (q_nleI c258)
          refine lv_iload hx hb d_12_3_84 (lv_at hl 0 rfl) ?_
          refine lv_bipush (v := (-6)) hx hb d_12_3_86 (by decide) ?_
          refine lv_icmp_lt (tgt := 108) hx hb d_12_3_88 (by decide) (fun c261 => ?_) (fun c261 => ?_)
          ·
            have b262 : q_F (a123.toInt < (-6)) := (q_ltI c261)
            exact J189 (()) _ _ _ u81 ⟨V, q_lw hl (q_lw1 0 rfl (q_lw1 2 rfl (q_lw1 3 rfl (q_lw1 4 rfl q_lw0)))), (show F_Wri_decimalText_J108 R x3 t0_0 t1_0 t2_0 t2_1 t3_0 t4_0 t4_1 t5_0 t6_0 t6_1 t7_0 t7_1 t8_0 p46 y39 f40 p70 p104 a123 y84 y85 f86 y89 y90 f91 = (F_Wri_decimalText R x3 t0_0 t1_0 t2_0 t2_1 t3_0 t4_0 t4_1 t5_0 t6_0 t6_1 t7_0 t7_1 t8_0) from Eq.trans (by have c261x := c261; rw [← e124, ← e121] at c261x; rw [← e124, ← e121, e111, e110, e109, e108, e107, e106, F_Wri_decimalText_c40.eq_1, if_neg c126, if_neg c153, if_neg c258, if_pos c261x]) hR112), (show True ∧ S_Wri_decimalText_J108 R x3 t0_0 t1_0 t2_0 t2_1 t3_0 t4_0 t4_1 t5_0 t6_0 t6_1 t7_0 t7_1 t8_0 p46 y39 f40 p70 p104 a123 y84 y85 f86 y89 y90 f91 from (by rw [← e124, ← e121, e111, e110, e109, e108, e107, e106]; have h := hS113; rw [S_Wri_decimalText_c40.eq_1] at h; rw [if_neg c126] at h; rw [if_neg c153] at h; rw [if_neg c258] at h; have c261x := c261; rw [← e124, ← e121] at c261x; rw [if_pos c261x] at h; with_reducible exact h))⟩
          ·
            have b263 : q_F ((-6) ≤ a123.toInt) := (q_nltI c261)
            refine lv_aload_n hx hb d_12_3_91 rfl (lv_at hl 2 rfl) ?_
            refine q_get (ci := 9) (j := 2) (v := .ref (q 36)) C0 V i_Wri rfl rfl hO35 (by decide) w_331 rfl d_12_3_92 ?_
            refine lv_aload_n hx hb d_12_3_95 rfl (lv_at hl 2 rfl) ?_
            refine q_get (ci := 9) (j := 0) (v := .ref (q 3)) C0 V i_Wri rfl rfl hO35 (by decide) w_329 rfl d_12_3_96 ?_
            refine lv_iload_n hx hb d_12_3_99 rfl (lv_at hl 1 rfl) ?_
            refine lv_iconst (v := 0) hx hb d_12_3_100 (by decide) ?_
            refine lv_iconst (v := 0) hx hb d_12_3_101 (by decide) ?_
            have ob264 : q_F (y85.toInt ≤ 200000) := (by rw [e107]; have h := hS113; rw [S_Wri_decimalText_c40.eq_1] at h; rw [if_neg c126] at h; rw [if_neg c153] at h; rw [if_neg c258] at h; have c261x := c261; rw [← e124, ← e121] at c261x; rw [if_neg c261x] at h; exact h.2.1)
            refine q_gov V (q_runV (As := [.ref (q 3), .int a117, .int 0, .int 0]) (rest := []) (d := 2) (mc := 0) (ms := 0) (ci := 7) C0 V rfl LV_Wri_90 (X_Dig_writePlain l D g q u81 3 11008 1376 1000000 (n_h3 g q) a117 0 0 hI y84 y85 hO83 f86 hA87 y39 hO38 f40 hA41 ⟨(by have y0 : (11008 : Int32).toInt = 11008 := rfl; have y1 : (1376 : Int32).toInt = 1376 := rfl; have y2 : (1000000 : Int32).toInt = 1000000 := rfl; have y3 : (0 : Int32).toInt = 0 := rfl; have y4 : (0 : Int32).toInt = 0 := rfl; omega), (by have y0 : (11008 : Int32).toInt = 11008 := rfl; have y1 : (1376 : Int32).toInt = 1376 := rfl; have y2 : (1000000 : Int32).toInt = 1000000 := rfl; have y3 : (0 : Int32).toInt = 0 := rfl; have y4 : (0 : Int32).toInt = 0 := rfl; omega)⟩ ⟨(by have y0 : (11008 : Int32).toInt = 11008 := rfl; have y1 : (1376 : Int32).toInt = 1376 := rfl; have y2 : (1000000 : Int32).toInt = 1000000 := rfl; have y3 : (0 : Int32).toInt = 0 := rfl; have y4 : (0 : Int32).toInt = 0 := rfl; omega), (by have y0 : (11008 : Int32).toInt = 11008 := rfl; have y1 : (1376 : Int32).toInt = 1376 := rfl; have y2 : (1000000 : Int32).toInt = 1000000 := rfl; have y3 : (0 : Int32).toInt = 0 := rfl; have y4 : (0 : Int32).toInt = 0 := rfl; omega)⟩ (by have y0 : (11008 : Int32).toInt = 11008 := rfl; have y1 : (1376 : Int32).toInt = 1376 := rfl; have y2 : (1000000 : Int32).toInt = 1000000 := rfl; have y3 : (0 : Int32).toInt = 0 := rfl; have y4 : (0 : Int32).toInt = 0 := rfl; have t1 : y85.toInt ≤ 200000 := ob264; omega) (by have y0 : (11008 : Int32).toInt = 11008 := rfl; have y1 : (1376 : Int32).toInt = 1376 := rfl; have y2 : (1000000 : Int32).toInt = 1000000 := rfl; have y3 : (0 : Int32).toInt = 0 := rfl; have y4 : (0 : Int32).toInt = 0 := rfl; have t1 : -10000 ≤ t6_0.toInt ∧ t6_0.toInt ≤ 10000 := btt6_0; have t2 : 0 ≤ a117.toInt ∧ t6_0.toInt ≤ a117.toInt ∧ (a117.toInt = 0 ∨ a117.toInt = t6_0.toInt) := b119; omega) (by have y0 : (11008 : Int32).toInt = 11008 := rfl; have y1 : (1376 : Int32).toInt = 1376 := rfl; have y2 : (1000000 : Int32).toInt = 1000000 := rfl; have y3 : (0 : Int32).toInt = 0 := rfl; have y4 : (0 : Int32).toInt = 0 := rfl; have t1 : 0 ≤ t7_1.toInt ∧ t7_1.toInt ≤ 1 := btt7_1; have t2 : y39.toInt ≤ t7_1.toInt := b43; omega) (by have y0 : (11008 : Int32).toInt = 11008 := rfl; have y1 : (1376 : Int32).toInt = 1376 := rfl; have y2 : (1000000 : Int32).toInt = 1000000 := rfl; have y3 : (0 : Int32).toInt = 0 := rfl; have y4 : (0 : Int32).toInt = 0 := rfl; omega) _) rfl rfl hO83 rfl hl.1 rfl (Nat.le_of_ble_eq_true rfl) ⟨by decide, by decide⟩ ⟨Nat.le_of_ble_eq_true rfl, Nat.le_of_ble_eq_true rfl⟩ d_12_3_102) (fun u265 H locs hp266 V => ?_)
            obtain ⟨hI, hu278, y268, f269, hO267, hA270, b271, b272, b273, b274, b275, b276, hE277⟩ := hp266
            replace hO267 : u265[3]? = (some (q 3, .inr (1, [.ref (q 4), .int 11008, .int y268])) : Option (Nat × va_E)) := hO267
            replace hA270 : u265[4]? = (some (q 4, .inl (g 1, (1376 : Int32).toNatClampNeg, .inr (.inl f269))) : Option (Nat × va_E)) := hA270
            obtain ⟨p279, e280⟩ : ∃ z, z = (F_Dig_writePlain (11008 : Int32) (1376 : Int32) (1000000 : Int32) a117 (0 : Int32) (0 : Int32) y84 y85 f86 y39 f40) := ⟨_, rfl⟩
            have e281 : y268 = p279.1 := congrArg (fun z => z.1) (hE277.trans e280.symm)
            have e282 : f269 = p279.2 := congrArg (fun z => z.2) (hE277.trans e280.symm)
            replace b271 : q_F (a117.toInt + 1 ≤ y268.toInt) := b271
            replace b272 : q_F (0 + 1 ≤ y268.toInt) := b272
            replace b273 : q_F (y85.toInt + 1 ≤ y268.toInt) := b273
            replace b274 : q_F (y268.toInt ≤ y85.toInt + 1420003) := b274
            replace b275 : q_F (y39.toInt + 1 ≤ y268.toInt) := b275
            replace b276 : q_F (y268.toInt ≤ y39.toInt + 420003) := b276
            replace hO83 := (hu278 _ (by decide)).trans hO83
            replace hA87 := (hu278 _ (by decide)).trans hA87
            replace hO88 := (hu278 _ (by decide)).trans hO88
            replace hA92 := (hu278 _ (by decide)).trans hA92
            replace hT6 := (hu278 _ (by have z0 := zk2; simp only [List.mem_cons, List.not_mem_nil, or_false, not_or]; omega)).trans hT6
            replace hT7 := (hu278 _ (by have z0 := zk2; simp only [List.mem_cons, List.not_mem_nil, or_false, not_or]; omega)).trans hT7
            replace hT8 := (hu278 _ (by have z0 := zk2; simp only [List.mem_cons, List.not_mem_nil, or_false, not_or]; omega)).trans hT8
            replace hO35 := (hu278 _ (by decide)).trans hO35
            replace hO55 := (hu278 _ (by decide)).trans hO55
            replace hF := q_uc hF hu278 (by simp)
            have hR283 := (show F_Wri_decimalText_c102_10 R x3 t0_0 t1_0 t2_0 t2_1 t3_0 t4_0 t4_1 t5_0 t6_0 t6_1 t7_0 t7_1 t8_0 p46 y39 f40 p70 p104 a123 a117 y84 y85 f86 y89 y90 f91 p279 = (F_Wri_decimalText R x3 t0_0 t1_0 t2_0 t2_1 t3_0 t4_0 t4_1 t5_0 t6_0 t6_1 t7_0 t7_1 t8_0) from Eq.trans (by have c261x := c261; rw [← e124, ← e121] at c261x; rw [e280, ← e124, ← e121, ← e118, e111, e110, e109, e108, e107, e106, F_Wri_decimalText_c40.eq_1, if_neg c126, if_neg c153, if_neg c258, if_neg c261x]) hR112)
            have hS284 := (show True ∧ S_Wri_decimalText_c102_10 R x3 t0_0 t1_0 t2_0 t2_1 t3_0 t4_0 t4_1 t5_0 t6_0 t6_1 t7_0 t7_1 t8_0 p46 y39 f40 p70 p104 a123 a117 y84 y85 f86 y89 y90 f91 p279 from (by rw [e280, ← e124, ← e121, ← e118, e111, e110, e109, e108, e107, e106]; have h := hS113; rw [S_Wri_decimalText_c40.eq_1] at h; rw [if_neg c126] at h; rw [if_neg c153] at h; rw [if_neg c258] at h; have c261x := c261; rw [← e124, ← e121] at c261x; rw [if_neg c261x] at h; replace h := q_s2 h; with_reducible exact h))
            refine lv_goto (tgt := 147) hx hb d_12_3_105 (by decide) ?_
            exact q_retv C0 V (⟨hI, hF, y268, f269, y84, y85, f86, y89, y90, f91, hO267, hA270, hO83, hA87, hO88, hA92, (show 0 ≤ y84.toInt from (by have t1 : 0 ≤ y84.toInt := b93; omega)), (show y84.toInt ≤ 1026 from (by have t1 : y84.toInt ≤ 1026 := b94; omega)), (show 0 ≤ y85.toInt + 1000000 from (by have t1 : 0 ≤ y85.toInt + 1000000 := b95; omega)), (show y85.toInt ≤ 1000000 from (by have t1 : y85.toInt ≤ 1000000 := b96; omega)), (show 0 ≤ y89.toInt from (by have t1 : 0 ≤ y89.toInt := b97; omega)), (show 0 ≤ y90.toInt from (by have t1 : 0 ≤ y90.toInt := b98; omega)), (show t7_1.toInt ≤ y268.toInt from (by have t1 : 0 ≤ t7_1.toInt ∧ t7_1.toInt ≤ 1 := btt7_1; have t2 : 0 + 1 ≤ y268.toInt := b272; omega)), (show y268.toInt ≤ t7_1.toInt + 420003 from (by have t1 : y39.toInt ≤ t7_1.toInt := b43; have t2 : y268.toInt ≤ y39.toInt + 420003 := b276; omega)), (show y89.toInt ≤ t7_0.toInt from (by have t1 : y59.toInt ≤ t7_0.toInt := b64; have t2 : y89.toInt ≤ y59.toInt := b99; omega)), (show y90.toInt ≤ t7_1.toInt from (by have t1 : y60.toInt ≤ t7_1.toInt := b67; have t2 : y90.toInt ≤ y60.toInt := b100; omega)), (show y85.toInt ≤ y84.toInt + 999999 from (by have t1 : y85.toInt ≤ y84.toInt + 999999 := b101; omega)), (show (y268, f269, y84, y85, f86, y89, y90, f91) = (F_Wri_decimalText R x3 t0_0 t1_0 t2_0 t2_1 t3_0 t4_0 t4_1 t5_0 t6_0 t6_1 t7_0 t7_1 t8_0) from Eq.trans (by rw [e282, e281, F_Wri_decimalText_c102_10.eq_1]) hR283)⟩) d_12_3_147
