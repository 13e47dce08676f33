/-! Printer -/
theorem n_oo01 {c : Int32} : 0 ≤ (F_Dir_isOneOf_e_7 c).toInt ∧ (F_Dir_isOneOf_e_7 c).toInt ≤ 1 := by
  unfold F_Dir_isOneOf_e_7
  repeat' split
  all_goals decide
theorem d_11_4_0 : decode prog_11_method_4_code 0 = .ok (.iconst 0, 1) := by decide +kernel
theorem d_11_4_1 : decode prog_11_method_4_code 1 = .ok (.istore_n 2, 1) := by decide +kernel
theorem d_11_4_2 : decode prog_11_method_4_code 2 = .ok (.iload_n 2, 1) := by decide +kernel
theorem d_11_4_3 : decode prog_11_method_4_code 3 = .ok (.aload_n 1, 1) := by decide +kernel
theorem d_11_4_4 : decode prog_11_method_4_code 4 = .ok (.invokevirtual 24, 3) := by decide +kernel
set_option maxRecDepth 100000 in
theorem w_1609 : (Cond.methodLink "NumberHouse$Sheet" (24 : Nat) ({ cls := "java/lang/String", name := "length", desc := "()I" } : MethodName)) ∈ q_tbl := q_of7 169 rfl (by decide +kernel)
theorem LV_She_24 : q_LV "NumberHouse$Sheet" 24 y_jStr_length prog_31_method_54_code 1 (some .int) 0 := ⟨w_658, w_25, w_1609, w_656, w_657, ⟨by decide, by decide, by decide +kernel⟩⟩
theorem d_11_4_7 : decode prog_11_method_4_code 7 = .ok (.if_icmp .ge 18, 3) := by decide +kernel
theorem d_11_4_25 : decode prog_11_method_4_code 25 = .ok (.return_, 1) := by decide +kernel
theorem d_11_4_10 : decode prog_11_method_4_code 10 = .ok (.aload_n 0, 1) := by decide +kernel
theorem d_11_4_11 : decode prog_11_method_4_code 11 = .ok (.aload_n 1, 1) := by decide +kernel
theorem d_11_4_12 : decode prog_11_method_4_code 12 = .ok (.iload_n 2, 1) := by decide +kernel
theorem d_11_4_13 : decode prog_11_method_4_code 13 = .ok (.invokevirtual 30, 3) := by decide +kernel
set_option maxRecDepth 100000 in
theorem w_1610 : (Cond.methodLink "NumberHouse$Sheet" (30 : Nat) ({ cls := "java/lang/String", name := "charAt", desc := "(I)C" } : MethodName)) ∈ q_tbl := q_of7 170 rfl (by decide +kernel)
theorem LV_She_30 : q_LV "NumberHouse$Sheet" 30 y_jStr_charAt prog_31_method_56_code 2 (some .char) 1 := ⟨w_668, w_25, w_1610, w_666, w_667, ⟨by decide, by decide, by decide +kernel⟩⟩
theorem d_11_4_16 : decode prog_11_method_4_code 16 = .ok (.invokevirtual 34, 3) := by decide +kernel
theorem d_11_4_19 : decode prog_11_method_4_code 19 = .ok (.iinc 2 1, 3) := by decide +kernel
theorem d_11_4_22 : decode prog_11_method_4_code 22 = .ok (.goto (-20), 3) := by decide +kernel
def y_She_addText : MethodName := ⟨"NumberHouse$Sheet", "addText", "(Ljava/lang/String;)V"⟩
set_option maxRecDepth 100000 in
set_option maxHeartbeats 4000000 in
theorem T_She_addText_12 (l : Launch) (D : va_G) (g : Nat → ClassId) (q : Nat → Nat) (ws : va_W) (k1 : Nat) (R N K : Int32) (hB1 : q_isShe (nsh g q) g q k1 R N K) (hI : q_I (nsh g q) q ws) (t0_0 : Int32) (hT0 : ws[k1]? = (some (q k1, .inr (1, [.ref (q (k1 + 1)), .int R, .int t0_0])) : Option (Nat × va_E))) (pre0 : t0_0.toInt + 20 ≤ K.toInt) : q_mV l y_She_addText prog_11_method_4_code 3 5 0 0 D g [.ref (q k1), .ref (g (8 + 2 * 12))] ws (fun u => q_I (nsh g q) q u ∧ q_un ws u [k1, k1 + 1] ∧ ∃ (u0_0 : Int32), u[k1]? = (some (q k1, .inr (1, [.ref (q (k1 + 1)), .int R, .int u0_0])) : Option (Nat × va_E)) ∧ (t0_0.toInt + 5 ≤ u0_0.toInt) ∧ (u0_0.toInt ≤ t0_0.toInt + 5)) := by
  intro sz
  refine q_into (by decide) (Nat.le_of_ble_eq_true rfl) ?_
  intro p e s m below meth c ls hsz C0 V hl
  have hx := C0.1
  have hb := C0.2.1
  have hfk10 : q_F (0 ≤ R.toInt ∧ R.toInt ≤ 8 * N.toInt ∧ 0 ≤ N.toInt ∧ N.toInt ≤ 1376 ∧ 64 ≤ R.toInt ∧ 64 ≤ K.toInt ∧ K.toInt ≤ 1000000) := hB1.2.2.1
  obtain ⟨yy0_0, hh0, btt0_0⟩ := n_shO hI hB1
  obtain ⟨rfl⟩ : t0_0 = yy0_0 := by have z := Option.some.inj (hT0.symm.trans hh0); simpa using z
  replace btt0_0 : q_F (0 ≤ t0_0.toInt ∧ t0_0.toInt ≤ K.toInt) := btt0_0
  replace pre0 : q_F (t0_0.toInt + 20 ≤ K.toInt) := pre0
  have hF : q_un ws ws [k1, k1 + 1] := q_u0
  have hl : lv_has ls 3 [(0, .ref (q k1)), (1, .ref (g (8 + 2 * 12)))] := hl
  refine lv_iconst (v := 0) hx hb d_11_4_0 (by decide) ?_
  refine lv_istore_n (lv' := [(2, .int 0), (0, .ref (q k1)), (1, .ref (g (8 + 2 * 12)))]) hx hb d_11_4_1 rfl hl (by decide) rfl (fun ls hl => ?_)
  refine q_loop (X := Int32 × Int32) (fun z H locs ls w12 => q_F (z.1.toInt ≤ 5) ∧ q_F (t0_0.toInt ≤ z.1.toInt + z.2.toInt) ∧ q_F (z.2.toInt ≤ z.1.toInt + t0_0.toInt) ∧ q_F (z.1.toInt + t0_0.toInt ≤ z.2.toInt) ∧ q_Wd D g (va_A ws sz) s w12 H locs ∧ lv_has ls 3 [(2, .int z.1), (0, .ref (q k1)), (1, .ref (g (8 + 2 * 12)))] ∧ q_I (nsh g q) q w12 ∧ q_un ws w12 [k1, k1 + 1] ∧ w12[k1]? = (some (q k1, .inr (1, [.ref (q (k1 + 1)), .int R, .int z.2])) : Option (Nat × va_E))) (fun z => (5 - z.1.toInt).toNat) ?_ ((0 : Int32), (t0_0 : Int32)) _ _ _ ws ⟨(show q_F (0 ≤ 5) from (show 0 ≤ 5 from by omega)), (show q_F (t0_0.toInt ≤ 0 + t0_0.toInt) from (show t0_0.toInt ≤ 0 + t0_0.toInt from by omega)), (show q_F (t0_0.toInt ≤ 0 + t0_0.toInt) from (show t0_0.toInt ≤ 0 + t0_0.toInt from by omega)), (show q_F (0 + t0_0.toInt ≤ t0_0.toInt) from (show 0 + t0_0.toInt ≤ t0_0.toInt from by omega)), V, q_lw hl (q_lw1 0 rfl (q_lw1 1 rfl (q_lw1 2 rfl q_lw0))), hI, hF, hT0⟩
  rintro ⟨lx5, lx6⟩ H locs ls w12 ⟨i7, i8, i9, i10, V, hl, hI, hF, hO13⟩ ih11
  replace i7 : q_F (lx5.toInt ≤ 5) := i7
  replace i8 : q_F (t0_0.toInt ≤ lx5.toInt + lx6.toInt) := i8
  replace i9 : q_F (lx6.toInt ≤ lx5.toInt + t0_0.toInt) := i9
  replace i10 : q_F (lx5.toInt + t0_0.toInt ≤ lx6.toInt) := i10
  replace hl : lv_has ls 3 [(2, .int lx5), (0, .ref (q k1)), (1, .ref (g (8 + 2 * 12)))] := hl
  replace hO13 : w12[k1]? = (some (q k1, .inr (1, [.ref (q (k1 + 1)), .int R, .int lx6])) : Option (Nat × va_E)) := hO13
  refine lv_iload_n hx hb d_11_4_2 rfl (lv_at hl 0 rfl) ?_
  refine lv_aload_n hx hb d_11_4_3 rfl (lv_at hl 2 rfl) ?_
  refine q_goi V (q_runVs (As := []) (rest := [.int lx5]) (d := 2) (mc := 0) (ms := 0) (i := 12) C0 V rfl LV_She_24 (T_jStr_length_12 l D g q w12   hI   _) rfl rfl rfl hl.1 rfl (Nat.le_of_ble_eq_true rfl) ⟨by decide, by decide⟩ ⟨Nat.le_of_ble_eq_true rfl, Nat.le_of_ble_eq_true rfl⟩ d_11_4_4) (fun a16 u14 H locs hp15 V => ?_)
  obtain ⟨rfl, b17, b18⟩ := hp15
  replace b17 : q_F (5 ≤ a16.toInt) := b17
  replace b18 : q_F (a16.toInt ≤ 5) := b18
  obtain rfl : a16 = (5 : Int32) := q_Ieq (x := a16.toInt) (y := 5) rfl (by decide) (by have t1 : 5 ≤ a16.toInt := b17; have t2 : a16.toInt ≤ 5 := b18; omega)
  refine lv_icmp_ge (tgt := 25) hx hb d_11_4_7 (by decide) (fun c20 => ?_) (fun c20 => ?_)
  ·
    have b21 : q_F (5 ≤ lx5.toInt) := (q_leI c20)
    exact q_retv C0 V (⟨hI, hF, lx6, hO13, (show t0_0.toInt + 5 ≤ lx6.toInt from (by have t1 : lx5.toInt + t0_0.toInt ≤ lx6.toInt := i10; have t2 : 5 ≤ lx5.toInt := b21; omega)), (show lx6.toInt ≤ t0_0.toInt + 5 from (by have t1 : lx5.toInt ≤ 5 := i7; have t2 : lx6.toInt ≤ lx5.toInt + t0_0.toInt := i9; omega))⟩) d_11_4_25
  ·
    have b22 : q_F (lx5.toInt < 5) := (q_nleI c20)
    refine lv_aload_n hx hb d_11_4_10 rfl (lv_at hl 1 rfl) ?_
    refine lv_aload_n hx hb d_11_4_11 rfl (lv_at hl 2 rfl) ?_
    refine lv_iload_n hx hb d_11_4_12 rfl (lv_at hl 0 rfl) ?_
    refine q_goi V (q_runVs (As := [.int lx5]) (rest := [.ref (q k1)]) (d := 4) (mc := 0) (ms := 0) (i := 12) C0 V rfl LV_She_30 (T_jStr_charAt_12 l D g q w12  lx5 hI  (by have t1 : t0_0.toInt ≤ lx5.toInt + lx6.toInt := i8; have t2 : lx6.toInt ≤ lx5.toInt + t0_0.toInt := i9; omega) (by have t1 : lx5.toInt < 5 := b22; omega) _) rfl rfl rfl hl.1 rfl (Nat.le_of_ble_eq_true rfl) ⟨by decide, by decide⟩ ⟨Nat.le_of_ble_eq_true rfl, Nat.le_of_ble_eq_true rfl⟩ d_11_4_13) (fun a25 u23 H locs hp24 V => ?_)
    obtain ⟨rfl, b26, b27⟩ := hp24
    replace b26 : q_F (0 ≤ a25.toInt) := b26
    replace b27 : q_F (a25.toInt ≤ 255) := b27
    refine q_gov V (q_runV (As := [.int a25]) (rest := []) (d := 1) (mc := 0) (ms := 0) (ci := 1) C0 V rfl LV_She_34 (T_She_add l D g q w12 k1 R N K hB1 a25 hI lx6 hO13 (by have t1 : t0_0.toInt + 20 ≤ K.toInt := pre0; have t2 : lx5.toInt ≤ 5 := i7; have t3 : lx6.toInt ≤ lx5.toInt + t0_0.toInt := i9; omega) _) rfl rfl hO13 rfl hl.1 rfl (Nat.le_of_ble_eq_true rfl) ⟨by decide, by decide⟩ ⟨Nat.le_of_ble_eq_true rfl, Nat.le_of_ble_eq_true rfl⟩ d_11_4_16) (fun u29 H locs hp30 V => ?_)
    obtain ⟨hI, hu36, y32, hO31, b33, b34⟩ := hp30
    replace hO31 : u29[k1]? = (some (q k1, .inr (1, [.ref (q (k1 + 1)), .int R, .int y32])) : Option (Nat × va_E)) := hO31
    replace b33 : q_F (lx6.toInt + 1 ≤ y32.toInt) := b33
    replace b34 : q_F (y32.toInt ≤ lx6.toInt + 1) := b34
    replace hF := q_uc hF hu36 (by simp)
    obtain ⟨a37, e38⟩ := q_nm (lx5 + 1 : Int32)
    have b39 : q_F (a37.toInt = lx5.toInt + 1) := (by rw [← e38]; exact q_addI (y := 1) rfl (by decide) (by have t1 : t0_0.toInt ≤ lx5.toInt + lx6.toInt := i8; have t2 : lx6.toInt ≤ lx5.toInt + t0_0.toInt := i9; have t3 : lx5.toInt ≤ 5 := i7; omega) (by have t1 : t0_0.toInt ≤ lx5.toInt + lx6.toInt := i8; have t2 : lx6.toInt ≤ lx5.toInt + t0_0.toInt := i9; have t3 : lx5.toInt ≤ 5 := i7; omega))
    refine lv_iinc (v := a37) (lv' := [(2, .int a37), (0, .ref (q k1)), (1, .ref (g (8 + 2 * 12)))]) hx hb d_11_4_19 hl (k := 0) rfl (e38) (by decide) rfl (fun ls hl => ?_)
    refine lv_goto (tgt := 2) hx hb d_11_4_22 (by decide) ?_
    exact ih11 ((a37 : Int32), (y32 : Int32)) _ _ _ _ (show (5 - a37.toInt).toNat < (5 - lx5.toInt).toNat from by have t1 : a37.toInt = lx5.toInt + 1 := b39; have t2 : lx5.toInt ≤ 5 := i7; have t3 : lx5.toInt < 5 := b22; omega) ⟨(show q_F (a37.toInt ≤ 5) from (show a37.toInt ≤ 5 from by have t1 : lx5.toInt < 5 := b22; have t2 : a37.toInt = lx5.toInt + 1 := b39; omega)), (show q_F (t0_0.toInt ≤ a37.toInt + y32.toInt) from (show t0_0.toInt ≤ a37.toInt + y32.toInt from by have t1 : t0_0.toInt ≤ lx5.toInt + lx6.toInt := i8; have t2 : lx6.toInt + 1 ≤ y32.toInt := b33; have t3 : a37.toInt = lx5.toInt + 1 := b39; omega)), (show q_F (y32.toInt ≤ a37.toInt + t0_0.toInt) from (show y32.toInt ≤ a37.toInt + t0_0.toInt from by have t1 : lx6.toInt ≤ lx5.toInt + t0_0.toInt := i9; have t2 : y32.toInt ≤ lx6.toInt + 1 := b34; have t3 : a37.toInt = lx5.toInt + 1 := b39; omega)), (show q_F (a37.toInt + t0_0.toInt ≤ y32.toInt) from (show a37.toInt + t0_0.toInt ≤ y32.toInt from by have t1 : lx5.toInt + t0_0.toInt ≤ lx6.toInt := i10; have t2 : lx6.toInt + 1 ≤ y32.toInt := b33; have t3 : a37.toInt = lx5.toInt + 1 := b39; omega)), V, q_lw hl (q_lw1 0 rfl (q_lw1 1 rfl (q_lw1 2 rfl q_lw0))), hI, hF, hO31⟩
set_option maxRecDepth 100000 in
set_option maxHeartbeats 4000000 in
theorem T_She_addText_13 (l : Launch) (D : va_G) (g : Nat → ClassId) (q : Nat → Nat) (ws : va_W) (k1 : Nat) (R N K : Int32) (hB1 : q_isShe (nsh g q) g q k1 R N K) (hI : q_I (nsh g q) q ws) (t0_0 : Int32) (hT0 : ws[k1]? = (some (q k1, .inr (1, [.ref (q (k1 + 1)), .int R, .int t0_0])) : Option (Nat × va_E))) (pre0 : t0_0.toInt + 20 ≤ K.toInt) : q_mV l y_She_addText prog_11_method_4_code 3 5 0 0 D g [.ref (q k1), .ref (g (8 + 2 * 13))] ws (fun u => q_I (nsh g q) q u ∧ q_un ws u [k1, k1 + 1] ∧ ∃ (u0_0 : Int32), u[k1]? = (some (q k1, .inr (1, [.ref (q (k1 + 1)), .int R, .int u0_0])) : Option (Nat × va_E)) ∧ (t0_0.toInt + 4 ≤ u0_0.toInt) ∧ (u0_0.toInt ≤ t0_0.toInt + 4)) := by
  intro sz
  refine q_into (by decide) (Nat.le_of_ble_eq_true rfl) ?_
  intro p e s m below meth c ls hsz C0 V hl
  have hx := C0.1
  have hb := C0.2.1
  have hfk10 : q_F (0 ≤ R.toInt ∧ R.toInt ≤ 8 * N.toInt ∧ 0 ≤ N.toInt ∧ N.toInt ≤ 1376 ∧ 64 ≤ R.toInt ∧ 64 ≤ K.toInt ∧ K.toInt ≤ 1000000) := hB1.2.2.1
  obtain ⟨yy0_0, hh0, btt0_0⟩ := n_shO hI hB1
  obtain ⟨rfl⟩ : t0_0 = yy0_0 := by have z := Option.some.inj (hT0.symm.trans hh0); simpa using z
  replace btt0_0 : q_F (0 ≤ t0_0.toInt ∧ t0_0.toInt ≤ K.toInt) := btt0_0
  replace pre0 : q_F (t0_0.toInt + 20 ≤ K.toInt) := pre0
  have hF : q_un ws ws [k1, k1 + 1] := q_u0
  have hl : lv_has ls 3 [(0, .ref (q k1)), (1, .ref (g (8 + 2 * 13)))] := hl
  refine lv_iconst (v := 0) hx hb d_11_4_0 (by decide) ?_
  refine lv_istore_n (lv' := [(2, .int 0), (0, .ref (q k1)), (1, .ref (g (8 + 2 * 13)))]) hx hb d_11_4_1 rfl hl (by decide) rfl (fun ls hl => ?_)
  refine q_loop (X := Int32 × Int32) (fun z H locs ls w12 => q_F (z.1.toInt ≤ 4) ∧ q_F (t0_0.toInt ≤ z.1.toInt + z.2.toInt) ∧ q_F (z.2.toInt ≤ z.1.toInt + t0_0.toInt) ∧ q_F (z.1.toInt + t0_0.toInt ≤ z.2.toInt) ∧ q_Wd D g (va_A ws sz) s w12 H locs ∧ lv_has ls 3 [(2, .int z.1), (0, .ref (q k1)), (1, .ref (g (8 + 2 * 13)))] ∧ q_I (nsh g q) q w12 ∧ q_un ws w12 [k1, k1 + 1] ∧ w12[k1]? = (some (q k1, .inr (1, [.ref (q (k1 + 1)), .int R, .int z.2])) : Option (Nat × va_E))) (fun z => (4 - z.1.toInt).toNat) ?_ ((0 : Int32), (t0_0 : Int32)) _ _ _ ws ⟨(show q_F (0 ≤ 4) from (show 0 ≤ 4 from by omega)), (show q_F (t0_0.toInt ≤ 0 + t0_0.toInt) from (show t0_0.toInt ≤ 0 + t0_0.toInt from by omega)), (show q_F (t0_0.toInt ≤ 0 + t0_0.toInt) from (show t0_0.toInt ≤ 0 + t0_0.toInt from by omega)), (show q_F (0 + t0_0.toInt ≤ t0_0.toInt) from (show 0 + t0_0.toInt ≤ t0_0.toInt from by omega)), V, q_lw hl (q_lw1 0 rfl (q_lw1 1 rfl (q_lw1 2 rfl q_lw0))), hI, hF, hT0⟩
  rintro ⟨lx5, lx6⟩ H locs ls w12 ⟨i7, i8, i9, i10, V, hl, hI, hF, hO13⟩ ih11
  replace i7 : q_F (lx5.toInt ≤ 4) := i7
  replace i8 : q_F (t0_0.toInt ≤ lx5.toInt + lx6.toInt) := i8
  replace i9 : q_F (lx6.toInt ≤ lx5.toInt + t0_0.toInt) := i9
  replace i10 : q_F (lx5.toInt + t0_0.toInt ≤ lx6.toInt) := i10
  replace hl : lv_has ls 3 [(2, .int lx5), (0, .ref (q k1)), (1, .ref (g (8 + 2 * 13)))] := hl
  replace hO13 : w12[k1]? = (some (q k1, .inr (1, [.ref (q (k1 + 1)), .int R, .int lx6])) : Option (Nat × va_E)) := hO13
  refine lv_iload_n hx hb d_11_4_2 rfl (lv_at hl 0 rfl) ?_
  refine lv_aload_n hx hb d_11_4_3 rfl (lv_at hl 2 rfl) ?_
  refine q_goi V (q_runVs (As := []) (rest := [.int lx5]) (d := 2) (mc := 0) (ms := 0) (i := 13) C0 V rfl LV_She_24 (T_jStr_length_13 l D g q w12   hI   _) rfl rfl rfl hl.1 rfl (Nat.le_of_ble_eq_true rfl) ⟨by decide, by decide⟩ ⟨Nat.le_of_ble_eq_true rfl, Nat.le_of_ble_eq_true rfl⟩ d_11_4_4) (fun a16 u14 H locs hp15 V => ?_)
  obtain ⟨rfl, b17, b18⟩ := hp15
  replace b17 : q_F (4 ≤ a16.toInt) := b17
  replace b18 : q_F (a16.toInt ≤ 4) := b18
  obtain rfl : a16 = (4 : Int32) := q_Ieq (x := a16.toInt) (y := 4) rfl (by decide) (by have t1 : 4 ≤ a16.toInt := b17; have t2 : a16.toInt ≤ 4 := b18; omega)
  refine lv_icmp_ge (tgt := 25) hx hb d_11_4_7 (by decide) (fun c20 => ?_) (fun c20 => ?_)
  ·
    have b21 : q_F (4 ≤ lx5.toInt) := (q_leI c20)
    exact q_retv C0 V (⟨hI, hF, lx6, hO13, (show t0_0.toInt + 4 ≤ lx6.toInt from (by have t1 : lx5.toInt + t0_0.toInt ≤ lx6.toInt := i10; have t2 : 4 ≤ lx5.toInt := b21; omega)), (show lx6.toInt ≤ t0_0.toInt + 4 from (by have t1 : lx5.toInt ≤ 4 := i7; have t2 : lx6.toInt ≤ lx5.toInt + t0_0.toInt := i9; omega))⟩) d_11_4_25
  ·
    have b22 : q_F (lx5.toInt < 4) := (q_nleI c20)
    refine lv_aload_n hx hb d_11_4_10 rfl (lv_at hl 1 rfl) ?_
    refine lv_aload_n hx hb d_11_4_11 rfl (lv_at hl 2 rfl) ?_
    refine lv_iload_n hx hb d_11_4_12 rfl (lv_at hl 0 rfl) ?_
    refine q_goi V (q_runVs (As := [.int lx5]) (rest := [.ref (q k1)]) (d := 4) (mc := 0) (ms := 0) (i := 13) C0 V rfl LV_She_30 (T_jStr_charAt_13 l D g q w12  lx5 hI  (by have t1 : t0_0.toInt ≤ lx5.toInt + lx6.toInt := i8; have t2 : lx6.toInt ≤ lx5.toInt + t0_0.toInt := i9; omega) (by have t1 : lx5.toInt < 4 := b22; omega) _) rfl rfl rfl hl.1 rfl (Nat.le_of_ble_eq_true rfl) ⟨by decide, by decide⟩ ⟨Nat.le_of_ble_eq_true rfl, Nat.le_of_ble_eq_true rfl⟩ d_11_4_13) (fun a25 u23 H locs hp24 V => ?_)
    obtain ⟨rfl, b26, b27⟩ := hp24
    replace b26 : q_F (0 ≤ a25.toInt) := b26
    replace b27 : q_F (a25.toInt ≤ 255) := b27
    refine q_gov V (q_runV (As := [.int a25]) (rest := []) (d := 1) (mc := 0) (ms := 0) (ci := 1) C0 V rfl LV_She_34 (T_She_add l D g q w12 k1 R N K hB1 a25 hI lx6 hO13 (by have t1 : t0_0.toInt + 20 ≤ K.toInt := pre0; have t2 : lx5.toInt ≤ 4 := i7; have t3 : lx6.toInt ≤ lx5.toInt + t0_0.toInt := i9; omega) _) rfl rfl hO13 rfl hl.1 rfl (Nat.le_of_ble_eq_true rfl) ⟨by decide, by decide⟩ ⟨Nat.le_of_ble_eq_true rfl, Nat.le_of_ble_eq_true rfl⟩ d_11_4_16) (fun u29 H locs hp30 V => ?_)
    obtain ⟨hI, hu36, y32, hO31, b33, b34⟩ := hp30
    replace hO31 : u29[k1]? = (some (q k1, .inr (1, [.ref (q (k1 + 1)), .int R, .int y32])) : Option (Nat × va_E)) := hO31
    replace b33 : q_F (lx6.toInt + 1 ≤ y32.toInt) := b33
    replace b34 : q_F (y32.toInt ≤ lx6.toInt + 1) := b34
    replace hF := q_uc hF hu36 (by simp)
    obtain ⟨a37, e38⟩ := q_nm (lx5 + 1 : Int32)
    have b39 : q_F (a37.toInt = lx5.toInt + 1) := (by rw [← e38]; exact q_addI (y := 1) rfl (by decide) (by have t1 : t0_0.toInt ≤ lx5.toInt + lx6.toInt := i8; have t2 : lx6.toInt ≤ lx5.toInt + t0_0.toInt := i9; have t3 : lx5.toInt ≤ 4 := i7; omega) (by have t1 : t0_0.toInt ≤ lx5.toInt + lx6.toInt := i8; have t2 : lx6.toInt ≤ lx5.toInt + t0_0.toInt := i9; have t3 : lx5.toInt ≤ 4 := i7; omega))
    refine lv_iinc (v := a37) (lv' := [(2, .int a37), (0, .ref (q k1)), (1, .ref (g (8 + 2 * 13)))]) hx hb d_11_4_19 hl (k := 0) rfl (e38) (by decide) rfl (fun ls hl => ?_)
    refine lv_goto (tgt := 2) hx hb d_11_4_22 (by decide) ?_
    exact ih11 ((a37 : Int32), (y32 : Int32)) _ _ _ _ (show (4 - a37.toInt).toNat < (4 - lx5.toInt).toNat from by have t1 : a37.toInt = lx5.toInt + 1 := b39; have t2 : lx5.toInt ≤ 4 := i7; have t3 : lx5.toInt < 4 := b22; omega) ⟨(show q_F (a37.toInt ≤ 4) from (show a37.toInt ≤ 4 from by have t1 : lx5.toInt < 4 := b22; have t2 : a37.toInt = lx5.toInt + 1 := b39; omega)), (show q_F (t0_0.toInt ≤ a37.toInt + y32.toInt) from (show t0_0.toInt ≤ a37.toInt + y32.toInt from by have t1 : t0_0.toInt ≤ lx5.toInt + lx6.toInt := i8; have t2 : lx6.toInt + 1 ≤ y32.toInt := b33; have t3 : a37.toInt = lx5.toInt + 1 := b39; omega)), (show q_F (y32.toInt ≤ a37.toInt + t0_0.toInt) from (show y32.toInt ≤ a37.toInt + t0_0.toInt from by have t1 : lx6.toInt ≤ lx5.toInt + t0_0.toInt := i9; have t2 : y32.toInt ≤ lx6.toInt + 1 := b34; have t3 : a37.toInt = lx5.toInt + 1 := b39; omega)), (show q_F (a37.toInt + t0_0.toInt ≤ y32.toInt) from (show a37.toInt + t0_0.toInt ≤ y32.toInt from by have t1 : lx5.toInt + t0_0.toInt ≤ lx6.toInt := i10; have t2 : lx6.toInt + 1 ≤ y32.toInt := b33; have t3 : a37.toInt = lx5.toInt + 1 := b39; omega)), V, q_lw hl (q_lw1 0 rfl (q_lw1 1 rfl (q_lw1 2 rfl q_lw0))), hI, hF, hO31⟩
set_option maxRecDepth 100000 in
set_option maxHeartbeats 4000000 in
theorem T_She_addText_15 (l : Launch) (D : va_G) (g : Nat → ClassId) (q : Nat → Nat) (ws : va_W) (k1 : Nat) (R N K : Int32) (hB1 : q_isShe (nsh g q) g q k1 R N K) (hI : q_I (nsh g q) q ws) (t0_0 : Int32) (hT0 : ws[k1]? = (some (q k1, .inr (1, [.ref (q (k1 + 1)), .int R, .int t0_0])) : Option (Nat × va_E))) (pre0 : t0_0.toInt + 20 ≤ K.toInt) : q_mV l y_She_addText prog_11_method_4_code 3 5 0 0 D g [.ref (q k1), .ref (g (8 + 2 * 15))] ws (fun u => q_I (nsh g q) q u ∧ q_un ws u [k1, k1 + 1] ∧ ∃ (u0_0 : Int32), u[k1]? = (some (q k1, .inr (1, [.ref (q (k1 + 1)), .int R, .int u0_0])) : Option (Nat × va_E)) ∧ (t0_0.toInt + 4 ≤ u0_0.toInt) ∧ (u0_0.toInt ≤ t0_0.toInt + 4)) := by
  intro sz
  refine q_into (by decide) (Nat.le_of_ble_eq_true rfl) ?_
  intro p e s m below meth c ls hsz C0 V hl
  have hx := C0.1
  have hb := C0.2.1
  have hfk10 : q_F (0 ≤ R.toInt ∧ R.toInt ≤ 8 * N.toInt ∧ 0 ≤ N.toInt ∧ N.toInt ≤ 1376 ∧ 64 ≤ R.toInt ∧ 64 ≤ K.toInt ∧ K.toInt ≤ 1000000) := hB1.2.2.1
  obtain ⟨yy0_0, hh0, btt0_0⟩ := n_shO hI hB1
  obtain ⟨rfl⟩ : t0_0 = yy0_0 := by have z := Option.some.inj (hT0.symm.trans hh0); simpa using z
  replace btt0_0 : q_F (0 ≤ t0_0.toInt ∧ t0_0.toInt ≤ K.toInt) := btt0_0
  replace pre0 : q_F (t0_0.toInt + 20 ≤ K.toInt) := pre0
  have hF : q_un ws ws [k1, k1 + 1] := q_u0
  have hl : lv_has ls 3 [(0, .ref (q k1)), (1, .ref (g (8 + 2 * 15)))] := hl
  refine lv_iconst (v := 0) hx hb d_11_4_0 (by decide) ?_
  refine lv_istore_n (lv' := [(2, .int 0), (0, .ref (q k1)), (1, .ref (g (8 + 2 * 15)))]) hx hb d_11_4_1 rfl hl (by decide) rfl (fun ls hl => ?_)
  refine q_loop (X := Int32 × Int32) (fun z H locs ls w12 => q_F (z.1.toInt ≤ 4) ∧ q_F (t0_0.toInt ≤ z.1.toInt + z.2.toInt) ∧ q_F (z.2.toInt ≤ z.1.toInt + t0_0.toInt) ∧ q_F (z.1.toInt + t0_0.toInt ≤ z.2.toInt) ∧ q_Wd D g (va_A ws sz) s w12 H locs ∧ lv_has ls 3 [(2, .int z.1), (0, .ref (q k1)), (1, .ref (g (8 + 2 * 15)))] ∧ q_I (nsh g q) q w12 ∧ q_un ws w12 [k1, k1 + 1] ∧ w12[k1]? = (some (q k1, .inr (1, [.ref (q (k1 + 1)), .int R, .int z.2])) : Option (Nat × va_E))) (fun z => (4 - z.1.toInt).toNat) ?_ ((0 : Int32), (t0_0 : Int32)) _ _ _ ws ⟨(show q_F (0 ≤ 4) from (show 0 ≤ 4 from by omega)), (show q_F (t0_0.toInt ≤ 0 + t0_0.toInt) from (show t0_0.toInt ≤ 0 + t0_0.toInt from by omega)), (show q_F (t0_0.toInt ≤ 0 + t0_0.toInt) from (show t0_0.toInt ≤ 0 + t0_0.toInt from by omega)), (show q_F (0 + t0_0.toInt ≤ t0_0.toInt) from (show 0 + t0_0.toInt ≤ t0_0.toInt from by omega)), V, q_lw hl (q_lw1 0 rfl (q_lw1 1 rfl (q_lw1 2 rfl q_lw0))), hI, hF, hT0⟩
  rintro ⟨lx5, lx6⟩ H locs ls w12 ⟨i7, i8, i9, i10, V, hl, hI, hF, hO13⟩ ih11
  replace i7 : q_F (lx5.toInt ≤ 4) := i7
  replace i8 : q_F (t0_0.toInt ≤ lx5.toInt + lx6.toInt) := i8
  replace i9 : q_F (lx6.toInt ≤ lx5.toInt + t0_0.toInt) := i9
  replace i10 : q_F (lx5.toInt + t0_0.toInt ≤ lx6.toInt) := i10
  replace hl : lv_has ls 3 [(2, .int lx5), (0, .ref (q k1)), (1, .ref (g (8 + 2 * 15)))] := hl
  replace hO13 : w12[k1]? = (some (q k1, .inr (1, [.ref (q (k1 + 1)), .int R, .int lx6])) : Option (Nat × va_E)) := hO13
  refine lv_iload_n hx hb d_11_4_2 rfl (lv_at hl 0 rfl) ?_
  refine lv_aload_n hx hb d_11_4_3 rfl (lv_at hl 2 rfl) ?_
  refine q_goi V (q_runVs (As := []) (rest := [.int lx5]) (d := 2) (mc := 0) (ms := 0) (i := 15) C0 V rfl LV_She_24 (T_jStr_length_15 l D g q w12   hI   _) rfl rfl rfl hl.1 rfl (Nat.le_of_ble_eq_true rfl) ⟨by decide, by decide⟩ ⟨Nat.le_of_ble_eq_true rfl, Nat.le_of_ble_eq_true rfl⟩ d_11_4_4) (fun a16 u14 H locs hp15 V => ?_)
  obtain ⟨rfl, b17, b18⟩ := hp15
  replace b17 : q_F (4 ≤ a16.toInt) := b17
  replace b18 : q_F (a16.toInt ≤ 4) := b18
  obtain rfl : a16 = (4 : Int32) := q_Ieq (x := a16.toInt) (y := 4) rfl (by decide) (by have t1 : 4 ≤ a16.toInt := b17; have t2 : a16.toInt ≤ 4 := b18; omega)
  refine lv_icmp_ge (tgt := 25) hx hb d_11_4_7 (by decide) (fun c20 => ?_) (fun c20 => ?_)
  ·
    have b21 : q_F (4 ≤ lx5.toInt) := (q_leI c20)
    exact q_retv C0 V (⟨hI, hF, lx6, hO13, (show t0_0.toInt + 4 ≤ lx6.toInt from (by have t1 : lx5.toInt + t0_0.toInt ≤ lx6.toInt := i10; have t2 : 4 ≤ lx5.toInt := b21; omega)), (show lx6.toInt ≤ t0_0.toInt + 4 from (by have t1 : lx5.toInt ≤ 4 := i7; have t2 : lx6.toInt ≤ lx5.toInt + t0_0.toInt := i9; omega))⟩) d_11_4_25
  ·
    have b22 : q_F (lx5.toInt < 4) := (q_nleI c20)
    refine lv_aload_n hx hb d_11_4_10 rfl (lv_at hl 1 rfl) ?_
    refine lv_aload_n hx hb d_11_4_11 rfl (lv_at hl 2 rfl) ?_
    refine lv_iload_n hx hb d_11_4_12 rfl (lv_at hl 0 rfl) ?_
    refine q_goi V (q_runVs (As := [.int lx5]) (rest := [.ref (q k1)]) (d := 4) (mc := 0) (ms := 0) (i := 15) C0 V rfl LV_She_30 (T_jStr_charAt_15 l D g q w12  lx5 hI  (by have t1 : t0_0.toInt ≤ lx5.toInt + lx6.toInt := i8; have t2 : lx6.toInt ≤ lx5.toInt + t0_0.toInt := i9; omega) (by have t1 : lx5.toInt < 4 := b22; omega) _) rfl rfl rfl hl.1 rfl (Nat.le_of_ble_eq_true rfl) ⟨by decide, by decide⟩ ⟨Nat.le_of_ble_eq_true rfl, Nat.le_of_ble_eq_true rfl⟩ d_11_4_13) (fun a25 u23 H locs hp24 V => ?_)
    obtain ⟨rfl, b26, b27⟩ := hp24
    replace b26 : q_F (0 ≤ a25.toInt) := b26
    replace b27 : q_F (a25.toInt ≤ 255) := b27
    refine q_gov V (q_runV (As := [.int a25]) (rest := []) (d := 1) (mc := 0) (ms := 0) (ci := 1) C0 V rfl LV_She_34 (T_She_add l D g q w12 k1 R N K hB1 a25 hI lx6 hO13 (by have t1 : t0_0.toInt + 20 ≤ K.toInt := pre0; have t2 : lx5.toInt ≤ 4 := i7; have t3 : lx6.toInt ≤ lx5.toInt + t0_0.toInt := i9; omega) _) rfl rfl hO13 rfl hl.1 rfl (Nat.le_of_ble_eq_true rfl) ⟨by decide, by decide⟩ ⟨Nat.le_of_ble_eq_true rfl, Nat.le_of_ble_eq_true rfl⟩ d_11_4_16) (fun u29 H locs hp30 V => ?_)
    obtain ⟨hI, hu36, y32, hO31, b33, b34⟩ := hp30
    replace hO31 : u29[k1]? = (some (q k1, .inr (1, [.ref (q (k1 + 1)), .int R, .int y32])) : Option (Nat × va_E)) := hO31
    replace b33 : q_F (lx6.toInt + 1 ≤ y32.toInt) := b33
    replace b34 : q_F (y32.toInt ≤ lx6.toInt + 1) := b34
    replace hF := q_uc hF hu36 (by simp)
    obtain ⟨a37, e38⟩ := q_nm (lx5 + 1 : Int32)
    have b39 : q_F (a37.toInt = lx5.toInt + 1) := (by rw [← e38]; exact q_addI (y := 1) rfl (by decide) (by have t1 : t0_0.toInt ≤ lx5.toInt + lx6.toInt := i8; have t2 : lx6.toInt ≤ lx5.toInt + t0_0.toInt := i9; have t3 : lx5.toInt ≤ 4 := i7; omega) (by have t1 : t0_0.toInt ≤ lx5.toInt + lx6.toInt := i8; have t2 : lx6.toInt ≤ lx5.toInt + t0_0.toInt := i9; have t3 : lx5.toInt ≤ 4 := i7; omega))
    refine lv_iinc (v := a37) (lv' := [(2, .int a37), (0, .ref (q k1)), (1, .ref (g (8 + 2 * 15)))]) hx hb d_11_4_19 hl (k := 0) rfl (e38) (by decide) rfl (fun ls hl => ?_)
    refine lv_goto (tgt := 2) hx hb d_11_4_22 (by decide) ?_
    exact ih11 ((a37 : Int32), (y32 : Int32)) _ _ _ _ (show (4 - a37.toInt).toNat < (4 - lx5.toInt).toNat from by have t1 : a37.toInt = lx5.toInt + 1 := b39; have t2 : lx5.toInt ≤ 4 := i7; have t3 : lx5.toInt < 4 := b22; omega) ⟨(show q_F (a37.toInt ≤ 4) from (show a37.toInt ≤ 4 from by have t1 : lx5.toInt < 4 := b22; have t2 : a37.toInt = lx5.toInt + 1 := b39; omega)), (show q_F (t0_0.toInt ≤ a37.toInt + y32.toInt) from (show t0_0.toInt ≤ a37.toInt + y32.toInt from by have t1 : t0_0.toInt ≤ lx5.toInt + lx6.toInt := i8; have t2 : lx6.toInt + 1 ≤ y32.toInt := b33; have t3 : a37.toInt = lx5.toInt + 1 := b39; omega)), (show q_F (y32.toInt ≤ a37.toInt + t0_0.toInt) from (show y32.toInt ≤ a37.toInt + t0_0.toInt from by have t1 : lx6.toInt ≤ lx5.toInt + t0_0.toInt := i9; have t2 : y32.toInt ≤ lx6.toInt + 1 := b34; have t3 : a37.toInt = lx5.toInt + 1 := b39; omega)), (show q_F (a37.toInt + t0_0.toInt ≤ y32.toInt) from (show a37.toInt + t0_0.toInt ≤ y32.toInt from by have t1 : lx5.toInt + t0_0.toInt ≤ lx6.toInt := i10; have t2 : lx6.toInt + 1 ≤ y32.toInt := b33; have t3 : a37.toInt = lx5.toInt + 1 := b39; omega)), V, q_lw hl (q_lw1 0 rfl (q_lw1 1 rfl (q_lw1 2 rfl q_lw0))), hI, hF, hO31⟩
set_option maxRecDepth 100000 in
set_option maxHeartbeats 4000000 in
theorem T_She_addText_17 (l : Launch) (D : va_G) (g : Nat → ClassId) (q : Nat → Nat) (ws : va_W) (k1 : Nat) (R N K : Int32) (hB1 : q_isShe (nsh g q) g q k1 R N K) (hI : q_I (nsh g q) q ws) (t0_0 : Int32) (hT0 : ws[k1]? = (some (q k1, .inr (1, [.ref (q (k1 + 1)), .int R, .int t0_0])) : Option (Nat × va_E))) (pre0 : t0_0.toInt + 20 ≤ K.toInt) : q_mV l y_She_addText prog_11_method_4_code 3 5 0 0 D g [.ref (q k1), .ref (g (8 + 2 * 17))] ws (fun u => q_I (nsh g q) q u ∧ q_un ws u [k1, k1 + 1] ∧ ∃ (u0_0 : Int32), u[k1]? = (some (q k1, .inr (1, [.ref (q (k1 + 1)), .int R, .int u0_0])) : Option (Nat × va_E)) ∧ (t0_0.toInt + 1 ≤ u0_0.toInt) ∧ (u0_0.toInt ≤ t0_0.toInt + 1)) := by
  intro sz
  refine q_into (by decide) (Nat.le_of_ble_eq_true rfl) ?_
  intro p e s m below meth c ls hsz C0 V hl
  have hx := C0.1
  have hb := C0.2.1
  have hfk10 : q_F (0 ≤ R.toInt ∧ R.toInt ≤ 8 * N.toInt ∧ 0 ≤ N.toInt ∧ N.toInt ≤ 1376 ∧ 64 ≤ R.toInt ∧ 64 ≤ K.toInt ∧ K.toInt ≤ 1000000) := hB1.2.2.1
  obtain ⟨yy0_0, hh0, btt0_0⟩ := n_shO hI hB1
  obtain ⟨rfl⟩ : t0_0 = yy0_0 := by have z := Option.some.inj (hT0.symm.trans hh0); simpa using z
  replace btt0_0 : q_F (0 ≤ t0_0.toInt ∧ t0_0.toInt ≤ K.toInt) := btt0_0
  replace pre0 : q_F (t0_0.toInt + 20 ≤ K.toInt) := pre0
  have hF : q_un ws ws [k1, k1 + 1] := q_u0
  have hl : lv_has ls 3 [(0, .ref (q k1)), (1, .ref (g (8 + 2 * 17)))] := hl
  refine lv_iconst (v := 0) hx hb d_11_4_0 (by decide) ?_
  refine lv_istore_n (lv' := [(2, .int 0), (0, .ref (q k1)), (1, .ref (g (8 + 2 * 17)))]) hx hb d_11_4_1 rfl hl (by decide) rfl (fun ls hl => ?_)
  refine q_loop (X := Int32 × Int32) (fun z H locs ls w12 => q_F (z.1.toInt ≤ 1) ∧ q_F (t0_0.toInt ≤ z.1.toInt + z.2.toInt) ∧ q_F (z.2.toInt ≤ z.1.toInt + t0_0.toInt) ∧ q_F (z.1.toInt + t0_0.toInt ≤ z.2.toInt) ∧ q_Wd D g (va_A ws sz) s w12 H locs ∧ lv_has ls 3 [(2, .int z.1), (0, .ref (q k1)), (1, .ref (g (8 + 2 * 17)))] ∧ q_I (nsh g q) q w12 ∧ q_un ws w12 [k1, k1 + 1] ∧ w12[k1]? = (some (q k1, .inr (1, [.ref (q (k1 + 1)), .int R, .int z.2])) : Option (Nat × va_E))) (fun z => (1 - z.1.toInt).toNat) ?_ ((0 : Int32), (t0_0 : Int32)) _ _ _ ws ⟨(show q_F (0 ≤ 1) from (show 0 ≤ 1 from by omega)), (show q_F (t0_0.toInt ≤ 0 + t0_0.toInt) from (show t0_0.toInt ≤ 0 + t0_0.toInt from by omega)), (show q_F (t0_0.toInt ≤ 0 + t0_0.toInt) from (show t0_0.toInt ≤ 0 + t0_0.toInt from by omega)), (show q_F (0 + t0_0.toInt ≤ t0_0.toInt) from (show 0 + t0_0.toInt ≤ t0_0.toInt from by omega)), V, q_lw hl (q_lw1 0 rfl (q_lw1 1 rfl (q_lw1 2 rfl q_lw0))), hI, hF, hT0⟩
  rintro ⟨lx5, lx6⟩ H locs ls w12 ⟨i7, i8, i9, i10, V, hl, hI, hF, hO13⟩ ih11
  replace i7 : q_F (lx5.toInt ≤ 1) := i7
  replace i8 : q_F (t0_0.toInt ≤ lx5.toInt + lx6.toInt) := i8
  replace i9 : q_F (lx6.toInt ≤ lx5.toInt + t0_0.toInt) := i9
  replace i10 : q_F (lx5.toInt + t0_0.toInt ≤ lx6.toInt) := i10
  replace hl : lv_has ls 3 [(2, .int lx5), (0, .ref (q k1)), (1, .ref (g (8 + 2 * 17)))] := hl
  replace hO13 : w12[k1]? = (some (q k1, .inr (1, [.ref (q (k1 + 1)), .int R, .int lx6])) : Option (Nat × va_E)) := hO13
  refine lv_iload_n hx hb d_11_4_2 rfl (lv_at hl 0 rfl) ?_
  refine lv_aload_n hx hb d_11_4_3 rfl (lv_at hl 2 rfl) ?_
  refine q_goi V (q_runVs (As := []) (rest := [.int lx5]) (d := 2) (mc := 0) (ms := 0) (i := 17) C0 V rfl LV_She_24 (T_jStr_length_17 l D g q w12   hI   _) rfl rfl rfl hl.1 rfl (Nat.le_of_ble_eq_true rfl) ⟨by decide, by decide⟩ ⟨Nat.le_of_ble_eq_true rfl, Nat.le_of_ble_eq_true rfl⟩ d_11_4_4) (fun a16 u14 H locs hp15 V => ?_)
  obtain ⟨rfl, b17, b18⟩ := hp15
  replace b17 : q_F (1 ≤ a16.toInt) := b17
  replace b18 : q_F (a16.toInt ≤ 1) := b18
  obtain rfl : a16 = (1 : Int32) := q_Ieq (x := a16.toInt) (y := 1) rfl (by decide) (by have t1 : 1 ≤ a16.toInt := b17; have t2 : a16.toInt ≤ 1 := b18; omega)
  refine lv_icmp_ge (tgt := 25) hx hb d_11_4_7 (by decide) (fun c20 => ?_) (fun c20 => ?_)
  ·
    have b21 : q_F (1 ≤ lx5.toInt) := (q_leI c20)
    exact q_retv C0 V (⟨hI, hF, lx6, hO13, (show t0_0.toInt + 1 ≤ lx6.toInt from (by have t1 : lx5.toInt + t0_0.toInt ≤ lx6.toInt := i10; have t2 : 1 ≤ lx5.toInt := b21; omega)), (show lx6.toInt ≤ t0_0.toInt + 1 from (by have t1 : lx5.toInt ≤ 1 := i7; have t2 : lx6.toInt ≤ lx5.toInt + t0_0.toInt := i9; omega))⟩) d_11_4_25
  ·
    have b22 : q_F (lx5.toInt < 1) := (q_nleI c20)
    refine lv_aload_n hx hb d_11_4_10 rfl (lv_at hl 1 rfl) ?_
    refine lv_aload_n hx hb d_11_4_11 rfl (lv_at hl 2 rfl) ?_
    refine lv_iload_n hx hb d_11_4_12 rfl (lv_at hl 0 rfl) ?_
    refine q_goi V (q_runVs (As := [.int lx5]) (rest := [.ref (q k1)]) (d := 4) (mc := 0) (ms := 0) (i := 17) C0 V rfl LV_She_30 (T_jStr_charAt_17 l D g q w12  lx5 hI  (by have t1 : t0_0.toInt ≤ lx5.toInt + lx6.toInt := i8; have t2 : lx6.toInt ≤ lx5.toInt + t0_0.toInt := i9; omega) (by have t1 : lx5.toInt < 1 := b22; omega) _) rfl rfl rfl hl.1 rfl (Nat.le_of_ble_eq_true rfl) ⟨by decide, by decide⟩ ⟨Nat.le_of_ble_eq_true rfl, Nat.le_of_ble_eq_true rfl⟩ d_11_4_13) (fun a25 u23 H locs hp24 V => ?_)
    obtain ⟨rfl, b26, b27⟩ := hp24
    replace b26 : q_F (lx5.toInt ≤ a25.toInt) := b26
    replace b27 : q_F (a25.toInt ≤ lx5.toInt + 255) := b27
    refine q_gov V (q_runV (As := [.int a25]) (rest := []) (d := 1) (mc := 0) (ms := 0) (ci := 1) C0 V rfl LV_She_34 (T_She_add l D g q w12 k1 R N K hB1 a25 hI lx6 hO13 (by have t1 : t0_0.toInt + 20 ≤ K.toInt := pre0; have t2 : lx5.toInt ≤ 1 := i7; have t3 : lx6.toInt ≤ lx5.toInt + t0_0.toInt := i9; omega) _) rfl rfl hO13 rfl hl.1 rfl (Nat.le_of_ble_eq_true rfl) ⟨by decide, by decide⟩ ⟨Nat.le_of_ble_eq_true rfl, Nat.le_of_ble_eq_true rfl⟩ d_11_4_16) (fun u29 H locs hp30 V => ?_)
    obtain ⟨hI, hu36, y32, hO31, b33, b34⟩ := hp30
    replace hO31 : u29[k1]? = (some (q k1, .inr (1, [.ref (q (k1 + 1)), .int R, .int y32])) : Option (Nat × va_E)) := hO31
    replace b33 : q_F (lx6.toInt + 1 ≤ y32.toInt) := b33
    replace b34 : q_F (y32.toInt ≤ lx6.toInt + 1) := b34
    replace hF := q_uc hF hu36 (by simp)
    obtain ⟨a37, e38⟩ := q_nm (lx5 + 1 : Int32)
    have b39 : q_F (a37.toInt = lx5.toInt + 1) := (by rw [← e38]; exact q_addI (y := 1) rfl (by decide) (by have t1 : t0_0.toInt ≤ lx5.toInt + lx6.toInt := i8; have t2 : lx6.toInt ≤ lx5.toInt + t0_0.toInt := i9; have t3 : lx5.toInt ≤ 1 := i7; omega) (by have t1 : t0_0.toInt ≤ lx5.toInt + lx6.toInt := i8; have t2 : lx6.toInt ≤ lx5.toInt + t0_0.toInt := i9; have t3 : lx5.toInt ≤ 1 := i7; omega))
    refine lv_iinc (v := a37) (lv' := [(2, .int a37), (0, .ref (q k1)), (1, .ref (g (8 + 2 * 17)))]) hx hb d_11_4_19 hl (k := 0) rfl (e38) (by decide) rfl (fun ls hl => ?_)
    refine lv_goto (tgt := 2) hx hb d_11_4_22 (by decide) ?_
    exact ih11 ((a37 : Int32), (y32 : Int32)) _ _ _ _ (show (1 - a37.toInt).toNat < (1 - lx5.toInt).toNat from by have t1 : a37.toInt = lx5.toInt + 1 := b39; have t2 : lx5.toInt ≤ 1 := i7; have t3 : lx5.toInt < 1 := b22; omega) ⟨(show q_F (a37.toInt ≤ 1) from (show a37.toInt ≤ 1 from by have t1 : lx5.toInt < 1 := b22; have t2 : a37.toInt = lx5.toInt + 1 := b39; omega)), (show q_F (t0_0.toInt ≤ a37.toInt + y32.toInt) from (show t0_0.toInt ≤ a37.toInt + y32.toInt from by have t1 : t0_0.toInt ≤ lx5.toInt + lx6.toInt := i8; have t2 : lx6.toInt + 1 ≤ y32.toInt := b33; have t3 : a37.toInt = lx5.toInt + 1 := b39; omega)), (show q_F (y32.toInt ≤ a37.toInt + t0_0.toInt) from (show y32.toInt ≤ a37.toInt + t0_0.toInt from by have t1 : lx6.toInt ≤ lx5.toInt + t0_0.toInt := i9; have t2 : y32.toInt ≤ lx6.toInt + 1 := b34; have t3 : a37.toInt = lx5.toInt + 1 := b39; omega)), (show q_F (a37.toInt + t0_0.toInt ≤ y32.toInt) from (show a37.toInt + t0_0.toInt ≤ y32.toInt from by have t1 : lx5.toInt + t0_0.toInt ≤ lx6.toInt := i10; have t2 : lx6.toInt + 1 ≤ y32.toInt := b33; have t3 : a37.toInt = lx5.toInt + 1 := b39; omega)), V, q_lw hl (q_lw1 0 rfl (q_lw1 1 rfl (q_lw1 2 rfl q_lw0))), hI, hF, hO31⟩
set_option maxRecDepth 100000 in
set_option maxHeartbeats 4000000 in
theorem T_She_addText_18 (l : Launch) (D : va_G) (g : Nat → ClassId) (q : Nat → Nat) (ws : va_W) (k1 : Nat) (R N K : Int32) (hB1 : q_isShe (nsh g q) g q k1 R N K) (hI : q_I (nsh g q) q ws) (t0_0 : Int32) (hT0 : ws[k1]? = (some (q k1, .inr (1, [.ref (q (k1 + 1)), .int R, .int t0_0])) : Option (Nat × va_E))) (pre0 : t0_0.toInt + 20 ≤ K.toInt) : q_mV l y_She_addText prog_11_method_4_code 3 5 0 0 D g [.ref (q k1), .ref (g (8 + 2 * 18))] ws (fun u => q_I (nsh g q) q u ∧ q_un ws u [k1, k1 + 1] ∧ ∃ (u0_0 : Int32), u[k1]? = (some (q k1, .inr (1, [.ref (q (k1 + 1)), .int R, .int u0_0])) : Option (Nat × va_E)) ∧ (t0_0.toInt + 2 ≤ u0_0.toInt) ∧ (u0_0.toInt ≤ t0_0.toInt + 2)) := by
  intro sz
  refine q_into (by decide) (Nat.le_of_ble_eq_true rfl) ?_
  intro p e s m below meth c ls hsz C0 V hl
  have hx := C0.1
  have hb := C0.2.1
  have hfk10 : q_F (0 ≤ R.toInt ∧ R.toInt ≤ 8 * N.toInt ∧ 0 ≤ N.toInt ∧ N.toInt ≤ 1376 ∧ 64 ≤ R.toInt ∧ 64 ≤ K.toInt ∧ K.toInt ≤ 1000000) := hB1.2.2.1
  obtain ⟨yy0_0, hh0, btt0_0⟩ := n_shO hI hB1
  obtain ⟨rfl⟩ : t0_0 = yy0_0 := by have z := Option.some.inj (hT0.symm.trans hh0); simpa using z
  replace btt0_0 : q_F (0 ≤ t0_0.toInt ∧ t0_0.toInt ≤ K.toInt) := btt0_0
  replace pre0 : q_F (t0_0.toInt + 20 ≤ K.toInt) := pre0
  have hF : q_un ws ws [k1, k1 + 1] := q_u0
  have hl : lv_has ls 3 [(0, .ref (q k1)), (1, .ref (g (8 + 2 * 18)))] := hl
  refine lv_iconst (v := 0) hx hb d_11_4_0 (by decide) ?_
  refine lv_istore_n (lv' := [(2, .int 0), (0, .ref (q k1)), (1, .ref (g (8 + 2 * 18)))]) hx hb d_11_4_1 rfl hl (by decide) rfl (fun ls hl => ?_)
  refine q_loop (X := Int32 × Int32) (fun z H locs ls w12 => q_F (z.1.toInt ≤ 2) ∧ q_F (t0_0.toInt ≤ z.1.toInt + z.2.toInt) ∧ q_F (z.2.toInt ≤ z.1.toInt + t0_0.toInt) ∧ q_F (z.1.toInt + t0_0.toInt ≤ z.2.toInt) ∧ q_Wd D g (va_A ws sz) s w12 H locs ∧ lv_has ls 3 [(2, .int z.1), (0, .ref (q k1)), (1, .ref (g (8 + 2 * 18)))] ∧ q_I (nsh g q) q w12 ∧ q_un ws w12 [k1, k1 + 1] ∧ w12[k1]? = (some (q k1, .inr (1, [.ref (q (k1 + 1)), .int R, .int z.2])) : Option (Nat × va_E))) (fun z => (2 - z.1.toInt).toNat) ?_ ((0 : Int32), (t0_0 : Int32)) _ _ _ ws ⟨(show q_F (0 ≤ 2) from (show 0 ≤ 2 from by omega)), (show q_F (t0_0.toInt ≤ 0 + t0_0.toInt) from (show t0_0.toInt ≤ 0 + t0_0.toInt from by omega)), (show q_F (t0_0.toInt ≤ 0 + t0_0.toInt) from (show t0_0.toInt ≤ 0 + t0_0.toInt from by omega)), (show q_F (0 + t0_0.toInt ≤ t0_0.toInt) from (show 0 + t0_0.toInt ≤ t0_0.toInt from by omega)), V, q_lw hl (q_lw1 0 rfl (q_lw1 1 rfl (q_lw1 2 rfl q_lw0))), hI, hF, hT0⟩
  rintro ⟨lx5, lx6⟩ H locs ls w12 ⟨i7, i8, i9, i10, V, hl, hI, hF, hO13⟩ ih11
  replace i7 : q_F (lx5.toInt ≤ 2) := i7
  replace i8 : q_F (t0_0.toInt ≤ lx5.toInt + lx6.toInt) := i8
  replace i9 : q_F (lx6.toInt ≤ lx5.toInt + t0_0.toInt) := i9
  replace i10 : q_F (lx5.toInt + t0_0.toInt ≤ lx6.toInt) := i10
  replace hl : lv_has ls 3 [(2, .int lx5), (0, .ref (q k1)), (1, .ref (g (8 + 2 * 18)))] := hl
  replace hO13 : w12[k1]? = (some (q k1, .inr (1, [.ref (q (k1 + 1)), .int R, .int lx6])) : Option (Nat × va_E)) := hO13
  refine lv_iload_n hx hb d_11_4_2 rfl (lv_at hl 0 rfl) ?_
  refine lv_aload_n hx hb d_11_4_3 rfl (lv_at hl 2 rfl) ?_
  refine q_goi V (q_runVs (As := []) (rest := [.int lx5]) (d := 2) (mc := 0) (ms := 0) (i := 18) C0 V rfl LV_She_24 (T_jStr_length_18 l D g q w12   hI   _) rfl rfl rfl hl.1 rfl (Nat.le_of_ble_eq_true rfl) ⟨by decide, by decide⟩ ⟨Nat.le_of_ble_eq_true rfl, Nat.le_of_ble_eq_true rfl⟩ d_11_4_4) (fun a16 u14 H locs hp15 V => ?_)
  obtain ⟨rfl, b17, b18⟩ := hp15
  replace b17 : q_F (2 ≤ a16.toInt) := b17
  replace b18 : q_F (a16.toInt ≤ 2) := b18
  obtain rfl : a16 = (2 : Int32) := q_Ieq (x := a16.toInt) (y := 2) rfl (by decide) (by have t1 : 2 ≤ a16.toInt := b17; have t2 : a16.toInt ≤ 2 := b18; omega)
  refine lv_icmp_ge (tgt := 25) hx hb d_11_4_7 (by decide) (fun c20 => ?_) (fun c20 => ?_)
  ·
    have b21 : q_F (2 ≤ lx5.toInt) := (q_leI c20)
    exact q_retv C0 V (⟨hI, hF, lx6, hO13, (show t0_0.toInt + 2 ≤ lx6.toInt from (by have t1 : lx5.toInt + t0_0.toInt ≤ lx6.toInt := i10; have t2 : 2 ≤ lx5.toInt := b21; omega)), (show lx6.toInt ≤ t0_0.toInt + 2 from (by have t1 : lx5.toInt ≤ 2 := i7; have t2 : lx6.toInt ≤ lx5.toInt + t0_0.toInt := i9; omega))⟩) d_11_4_25
  ·
    have b22 : q_F (lx5.toInt < 2) := (q_nleI c20)
    refine lv_aload_n hx hb d_11_4_10 rfl (lv_at hl 1 rfl) ?_
    refine lv_aload_n hx hb d_11_4_11 rfl (lv_at hl 2 rfl) ?_
    refine lv_iload_n hx hb d_11_4_12 rfl (lv_at hl 0 rfl) ?_
    refine q_goi V (q_runVs (As := [.int lx5]) (rest := [.ref (q k1)]) (d := 4) (mc := 0) (ms := 0) (i := 18) C0 V rfl LV_She_30 (T_jStr_charAt_18 l D g q w12  lx5 hI  (by have t1 : t0_0.toInt ≤ lx5.toInt + lx6.toInt := i8; have t2 : lx6.toInt ≤ lx5.toInt + t0_0.toInt := i9; omega) (by have t1 : lx5.toInt < 2 := b22; omega) _) rfl rfl rfl hl.1 rfl (Nat.le_of_ble_eq_true rfl) ⟨by decide, by decide⟩ ⟨Nat.le_of_ble_eq_true rfl, Nat.le_of_ble_eq_true rfl⟩ d_11_4_13) (fun a25 u23 H locs hp24 V => ?_)
    obtain ⟨rfl, b26, b27⟩ := hp24
    replace b26 : q_F (0 ≤ a25.toInt) := b26
    replace b27 : q_F (a25.toInt ≤ 255) := b27
    refine q_gov V (q_runV (As := [.int a25]) (rest := []) (d := 1) (mc := 0) (ms := 0) (ci := 1) C0 V rfl LV_She_34 (T_She_add l D g q w12 k1 R N K hB1 a25 hI lx6 hO13 (by have t1 : t0_0.toInt + 20 ≤ K.toInt := pre0; have t2 : lx5.toInt ≤ 2 := i7; have t3 : lx6.toInt ≤ lx5.toInt + t0_0.toInt := i9; omega) _) rfl rfl hO13 rfl hl.1 rfl (Nat.le_of_ble_eq_true rfl) ⟨by decide, by decide⟩ ⟨Nat.le_of_ble_eq_true rfl, Nat.le_of_ble_eq_true rfl⟩ d_11_4_16) (fun u29 H locs hp30 V => ?_)
    obtain ⟨hI, hu36, y32, hO31, b33, b34⟩ := hp30
    replace hO31 : u29[k1]? = (some (q k1, .inr (1, [.ref (q (k1 + 1)), .int R, .int y32])) : Option (Nat × va_E)) := hO31
    replace b33 : q_F (lx6.toInt + 1 ≤ y32.toInt) := b33
    replace b34 : q_F (y32.toInt ≤ lx6.toInt + 1) := b34
    replace hF := q_uc hF hu36 (by simp)
    obtain ⟨a37, e38⟩ := q_nm (lx5 + 1 : Int32)
    have b39 : q_F (a37.toInt = lx5.toInt + 1) := (by rw [← e38]; exact q_addI (y := 1) rfl (by decide) (by have t1 : t0_0.toInt ≤ lx5.toInt + lx6.toInt := i8; have t2 : lx6.toInt ≤ lx5.toInt + t0_0.toInt := i9; have t3 : lx5.toInt ≤ 2 := i7; omega) (by have t1 : t0_0.toInt ≤ lx5.toInt + lx6.toInt := i8; have t2 : lx6.toInt ≤ lx5.toInt + t0_0.toInt := i9; have t3 : lx5.toInt ≤ 2 := i7; omega))
    refine lv_iinc (v := a37) (lv' := [(2, .int a37), (0, .ref (q k1)), (1, .ref (g (8 + 2 * 18)))]) hx hb d_11_4_19 hl (k := 0) rfl (e38) (by decide) rfl (fun ls hl => ?_)
    refine lv_goto (tgt := 2) hx hb d_11_4_22 (by decide) ?_
    exact ih11 ((a37 : Int32), (y32 : Int32)) _ _ _ _ (show (2 - a37.toInt).toNat < (2 - lx5.toInt).toNat from by have t1 : a37.toInt = lx5.toInt + 1 := b39; have t2 : lx5.toInt ≤ 2 := i7; have t3 : lx5.toInt < 2 := b22; omega) ⟨(show q_F (a37.toInt ≤ 2) from (show a37.toInt ≤ 2 from by have t1 : lx5.toInt < 2 := b22; have t2 : a37.toInt = lx5.toInt + 1 := b39; omega)), (show q_F (t0_0.toInt ≤ a37.toInt + y32.toInt) from (show t0_0.toInt ≤ a37.toInt + y32.toInt from by have t1 : t0_0.toInt ≤ lx5.toInt + lx6.toInt := i8; have t2 : lx6.toInt + 1 ≤ y32.toInt := b33; have t3 : a37.toInt = lx5.toInt + 1 := b39; omega)), (show q_F (y32.toInt ≤ a37.toInt + t0_0.toInt) from (show y32.toInt ≤ a37.toInt + t0_0.toInt from by have t1 : lx6.toInt ≤ lx5.toInt + t0_0.toInt := i9; have t2 : y32.toInt ≤ lx6.toInt + 1 := b34; have t3 : a37.toInt = lx5.toInt + 1 := b39; omega)), (show q_F (a37.toInt + t0_0.toInt ≤ y32.toInt) from (show a37.toInt + t0_0.toInt ≤ y32.toInt from by have t1 : lx5.toInt + t0_0.toInt ≤ lx6.toInt := i10; have t2 : lx6.toInt + 1 ≤ y32.toInt := b33; have t3 : a37.toInt = lx5.toInt + 1 := b39; omega)), V, q_lw hl (q_lw1 0 rfl (q_lw1 1 rfl (q_lw1 2 rfl q_lw0))), hI, hF, hO31⟩
set_option maxRecDepth 100000 in
set_option maxHeartbeats 4000000 in
theorem T_She_addText_23 (l : Launch) (D : va_G) (g : Nat → ClassId) (q : Nat → Nat) (ws : va_W) (k1 : Nat) (R N K : Int32) (hB1 : q_isShe (nsh g q) g q k1 R N K) (hI : q_I (nsh g q) q ws) (t0_0 : Int32) (hT0 : ws[k1]? = (some (q k1, .inr (1, [.ref (q (k1 + 1)), .int R, .int t0_0])) : Option (Nat × va_E))) (pre0 : t0_0.toInt + 20 ≤ K.toInt) : q_mV l y_She_addText prog_11_method_4_code 3 5 0 0 D g [.ref (q k1), .ref (g (8 + 2 * 23))] ws (fun u => q_I (nsh g q) q u ∧ q_un ws u [k1, k1 + 1] ∧ ∃ (u0_0 : Int32), u[k1]? = (some (q k1, .inr (1, [.ref (q (k1 + 1)), .int R, .int u0_0])) : Option (Nat × va_E)) ∧ (t0_0.toInt + 3 ≤ u0_0.toInt) ∧ (u0_0.toInt ≤ t0_0.toInt + 3)) := by
  intro sz
  refine q_into (by decide) (Nat.le_of_ble_eq_true rfl) ?_
  intro p e s m below meth c ls hsz C0 V hl
  have hx := C0.1
  have hb := C0.2.1
  have hfk10 : q_F (0 ≤ R.toInt ∧ R.toInt ≤ 8 * N.toInt ∧ 0 ≤ N.toInt ∧ N.toInt ≤ 1376 ∧ 64 ≤ R.toInt ∧ 64 ≤ K.toInt ∧ K.toInt ≤ 1000000) := hB1.2.2.1
  obtain ⟨yy0_0, hh0, btt0_0⟩ := n_shO hI hB1
  obtain ⟨rfl⟩ : t0_0 = yy0_0 := by have z := Option.some.inj (hT0.symm.trans hh0); simpa using z
  replace btt0_0 : q_F (0 ≤ t0_0.toInt ∧ t0_0.toInt ≤ K.toInt) := btt0_0
  replace pre0 : q_F (t0_0.toInt + 20 ≤ K.toInt) := pre0
  have hF : q_un ws ws [k1, k1 + 1] := q_u0
  have hl : lv_has ls 3 [(0, .ref (q k1)), (1, .ref (g (8 + 2 * 23)))] := hl
  refine lv_iconst (v := 0) hx hb d_11_4_0 (by decide) ?_
  refine lv_istore_n (lv' := [(2, .int 0), (0, .ref (q k1)), (1, .ref (g (8 + 2 * 23)))]) hx hb d_11_4_1 rfl hl (by decide) rfl (fun ls hl => ?_)
  refine q_loop (X := Int32 × Int32) (fun z H locs ls w12 => q_F (z.1.toInt ≤ 3) ∧ q_F (t0_0.toInt ≤ z.1.toInt + z.2.toInt) ∧ q_F (z.2.toInt ≤ z.1.toInt + t0_0.toInt) ∧ q_F (z.1.toInt + t0_0.toInt ≤ z.2.toInt) ∧ q_Wd D g (va_A ws sz) s w12 H locs ∧ lv_has ls 3 [(2, .int z.1), (0, .ref (q k1)), (1, .ref (g (8 + 2 * 23)))] ∧ q_I (nsh g q) q w12 ∧ q_un ws w12 [k1, k1 + 1] ∧ w12[k1]? = (some (q k1, .inr (1, [.ref (q (k1 + 1)), .int R, .int z.2])) : Option (Nat × va_E))) (fun z => (3 - z.1.toInt).toNat) ?_ ((0 : Int32), (t0_0 : Int32)) _ _ _ ws ⟨(show q_F (0 ≤ 3) from (show 0 ≤ 3 from by omega)), (show q_F (t0_0.toInt ≤ 0 + t0_0.toInt) from (show t0_0.toInt ≤ 0 + t0_0.toInt from by omega)), (show q_F (t0_0.toInt ≤ 0 + t0_0.toInt) from (show t0_0.toInt ≤ 0 + t0_0.toInt from by omega)), (show q_F (0 + t0_0.toInt ≤ t0_0.toInt) from (show 0 + t0_0.toInt ≤ t0_0.toInt from by omega)), V, q_lw hl (q_lw1 0 rfl (q_lw1 1 rfl (q_lw1 2 rfl q_lw0))), hI, hF, hT0⟩
  rintro ⟨lx5, lx6⟩ H locs ls w12 ⟨i7, i8, i9, i10, V, hl, hI, hF, hO13⟩ ih11
  replace i7 : q_F (lx5.toInt ≤ 3) := i7
  replace i8 : q_F (t0_0.toInt ≤ lx5.toInt + lx6.toInt) := i8
  replace i9 : q_F (lx6.toInt ≤ lx5.toInt + t0_0.toInt) := i9
  replace i10 : q_F (lx5.toInt + t0_0.toInt ≤ lx6.toInt) := i10
  replace hl : lv_has ls 3 [(2, .int lx5), (0, .ref (q k1)), (1, .ref (g (8 + 2 * 23)))] := hl
  replace hO13 : w12[k1]? = (some (q k1, .inr (1, [.ref (q (k1 + 1)), .int R, .int lx6])) : Option (Nat × va_E)) := hO13
  refine lv_iload_n hx hb d_11_4_2 rfl (lv_at hl 0 rfl) ?_
  refine lv_aload_n hx hb d_11_4_3 rfl (lv_at hl 2 rfl) ?_
  refine q_goi V (q_runVs (As := []) (rest := [.int lx5]) (d := 2) (mc := 0) (ms := 0) (i := 23) C0 V rfl LV_She_24 (T_jStr_length_23 l D g q w12   hI   _) rfl rfl rfl hl.1 rfl (Nat.le_of_ble_eq_true rfl) ⟨by decide, by decide⟩ ⟨Nat.le_of_ble_eq_true rfl, Nat.le_of_ble_eq_true rfl⟩ d_11_4_4) (fun a16 u14 H locs hp15 V => ?_)
  obtain ⟨rfl, b17, b18⟩ := hp15
  replace b17 : q_F (3 ≤ a16.toInt) := b17
  replace b18 : q_F (a16.toInt ≤ 3) := b18
  obtain rfl : a16 = (3 : Int32) := q_Ieq (x := a16.toInt) (y := 3) rfl (by decide) (by have t1 : 3 ≤ a16.toInt := b17; have t2 : a16.toInt ≤ 3 := b18; omega)
  refine lv_icmp_ge (tgt := 25) hx hb d_11_4_7 (by decide) (fun c20 => ?_) (fun c20 => ?_)
  ·
    have b21 : q_F (3 ≤ lx5.toInt) := (q_leI c20)
    exact q_retv C0 V (⟨hI, hF, lx6, hO13, (show t0_0.toInt + 3 ≤ lx6.toInt from (by have t1 : lx5.toInt + t0_0.toInt ≤ lx6.toInt := i10; have t2 : 3 ≤ lx5.toInt := b21; omega)), (show lx6.toInt ≤ t0_0.toInt + 3 from (by have t1 : lx5.toInt ≤ 3 := i7; have t2 : lx6.toInt ≤ lx5.toInt + t0_0.toInt := i9; omega))⟩) d_11_4_25
  ·
    have b22 : q_F (lx5.toInt < 3) := (q_nleI c20)
    refine lv_aload_n hx hb d_11_4_10 rfl (lv_at hl 1 rfl) ?_
    refine lv_aload_n hx hb d_11_4_11 rfl (lv_at hl 2 rfl) ?_
    refine lv_iload_n hx hb d_11_4_12 rfl (lv_at hl 0 rfl) ?_
    refine q_goi V (q_runVs (As := [.int lx5]) (rest := [.ref (q k1)]) (d := 4) (mc := 0) (ms := 0) (i := 23) C0 V rfl LV_She_30 (T_jStr_charAt_23 l D g q w12  lx5 hI  (by have t1 : t0_0.toInt ≤ lx5.toInt + lx6.toInt := i8; have t2 : lx6.toInt ≤ lx5.toInt + t0_0.toInt := i9; omega) (by have t1 : lx5.toInt < 3 := b22; omega) _) rfl rfl rfl hl.1 rfl (Nat.le_of_ble_eq_true rfl) ⟨by decide, by decide⟩ ⟨Nat.le_of_ble_eq_true rfl, Nat.le_of_ble_eq_true rfl⟩ d_11_4_13) (fun a25 u23 H locs hp24 V => ?_)
    obtain ⟨rfl, b26, b27⟩ := hp24
    replace b26 : q_F (0 ≤ a25.toInt) := b26
    replace b27 : q_F (a25.toInt ≤ 255) := b27
    refine q_gov V (q_runV (As := [.int a25]) (rest := []) (d := 1) (mc := 0) (ms := 0) (ci := 1) C0 V rfl LV_She_34 (T_She_add l D g q w12 k1 R N K hB1 a25 hI lx6 hO13 (by have t1 : t0_0.toInt + 20 ≤ K.toInt := pre0; have t2 : lx5.toInt ≤ 3 := i7; have t3 : lx6.toInt ≤ lx5.toInt + t0_0.toInt := i9; omega) _) rfl rfl hO13 rfl hl.1 rfl (Nat.le_of_ble_eq_true rfl) ⟨by decide, by decide⟩ ⟨Nat.le_of_ble_eq_true rfl, Nat.le_of_ble_eq_true rfl⟩ d_11_4_16) (fun u29 H locs hp30 V => ?_)
    obtain ⟨hI, hu36, y32, hO31, b33, b34⟩ := hp30
    replace hO31 : u29[k1]? = (some (q k1, .inr (1, [.ref (q (k1 + 1)), .int R, .int y32])) : Option (Nat × va_E)) := hO31
    replace b33 : q_F (lx6.toInt + 1 ≤ y32.toInt) := b33
    replace b34 : q_F (y32.toInt ≤ lx6.toInt + 1) := b34
    replace hF := q_uc hF hu36 (by simp)
    obtain ⟨a37, e38⟩ := q_nm (lx5 + 1 : Int32)
    have b39 : q_F (a37.toInt = lx5.toInt + 1) := (by rw [← e38]; exact q_addI (y := 1) rfl (by decide) (by have t1 : t0_0.toInt ≤ lx5.toInt + lx6.toInt := i8; have t2 : lx6.toInt ≤ lx5.toInt + t0_0.toInt := i9; have t3 : lx5.toInt ≤ 3 := i7; omega) (by have t1 : t0_0.toInt ≤ lx5.toInt + lx6.toInt := i8; have t2 : lx6.toInt ≤ lx5.toInt + t0_0.toInt := i9; have t3 : lx5.toInt ≤ 3 := i7; omega))
    refine lv_iinc (v := a37) (lv' := [(2, .int a37), (0, .ref (q k1)), (1, .ref (g (8 + 2 * 23)))]) hx hb d_11_4_19 hl (k := 0) rfl (e38) (by decide) rfl (fun ls hl => ?_)
    refine lv_goto (tgt := 2) hx hb d_11_4_22 (by decide) ?_
    exact ih11 ((a37 : Int32), (y32 : Int32)) _ _ _ _ (show (3 - a37.toInt).toNat < (3 - lx5.toInt).toNat from by have t1 : a37.toInt = lx5.toInt + 1 := b39; have t2 : lx5.toInt ≤ 3 := i7; have t3 : lx5.toInt < 3 := b22; omega) ⟨(show q_F (a37.toInt ≤ 3) from (show a37.toInt ≤ 3 from by have t1 : lx5.toInt < 3 := b22; have t2 : a37.toInt = lx5.toInt + 1 := b39; omega)), (show q_F (t0_0.toInt ≤ a37.toInt + y32.toInt) from (show t0_0.toInt ≤ a37.toInt + y32.toInt from by have t1 : t0_0.toInt ≤ lx5.toInt + lx6.toInt := i8; have t2 : lx6.toInt + 1 ≤ y32.toInt := b33; have t3 : a37.toInt = lx5.toInt + 1 := b39; omega)), (show q_F (y32.toInt ≤ a37.toInt + t0_0.toInt) from (show y32.toInt ≤ a37.toInt + t0_0.toInt from by have t1 : lx6.toInt ≤ lx5.toInt + t0_0.toInt := i9; have t2 : y32.toInt ≤ lx6.toInt + 1 := b34; have t3 : a37.toInt = lx5.toInt + 1 := b39; omega)), (show q_F (a37.toInt + t0_0.toInt ≤ y32.toInt) from (show a37.toInt + t0_0.toInt ≤ y32.toInt from by have t1 : lx5.toInt + t0_0.toInt ≤ lx6.toInt := i10; have t2 : lx6.toInt + 1 ≤ y32.toInt := b33; have t3 : a37.toInt = lx5.toInt + 1 := b39; omega)), V, q_lw hl (q_lw1 0 rfl (q_lw1 1 rfl (q_lw1 2 rfl q_lw0))), hI, hF, hO31⟩
set_option maxRecDepth 100000 in
set_option maxHeartbeats 4000000 in
theorem T_She_addText_24 (l : Launch) (D : va_G) (g : Nat → ClassId) (q : Nat → Nat) (ws : va_W) (k1 : Nat) (R N K : Int32) (hB1 : q_isShe (nsh g q) g q k1 R N K) (hI : q_I (nsh g q) q ws) (t0_0 : Int32) (hT0 : ws[k1]? = (some (q k1, .inr (1, [.ref (q (k1 + 1)), .int R, .int t0_0])) : Option (Nat × va_E))) (pre0 : t0_0.toInt + 20 ≤ K.toInt) : q_mV l y_She_addText prog_11_method_4_code 3 5 0 0 D g [.ref (q k1), .ref (g (8 + 2 * 24))] ws (fun u => q_I (nsh g q) q u ∧ q_un ws u [k1, k1 + 1] ∧ ∃ (u0_0 : Int32), u[k1]? = (some (q k1, .inr (1, [.ref (q (k1 + 1)), .int R, .int u0_0])) : Option (Nat × va_E)) ∧ (t0_0.toInt + 8 ≤ u0_0.toInt) ∧ (u0_0.toInt ≤ t0_0.toInt + 8)) := by
  intro sz
  refine q_into (by decide) (Nat.le_of_ble_eq_true rfl) ?_
  intro p e s m below meth c ls hsz C0 V hl
  have hx := C0.1
  have hb := C0.2.1
  have hfk10 : q_F (0 ≤ R.toInt ∧ R.toInt ≤ 8 * N.toInt ∧ 0 ≤ N.toInt ∧ N.toInt ≤ 1376 ∧ 64 ≤ R.toInt ∧ 64 ≤ K.toInt ∧ K.toInt ≤ 1000000) := hB1.2.2.1
  obtain ⟨yy0_0, hh0, btt0_0⟩ := n_shO hI hB1
  obtain ⟨rfl⟩ : t0_0 = yy0_0 := by have z := Option.some.inj (hT0.symm.trans hh0); simpa using z
  replace btt0_0 : q_F (0 ≤ t0_0.toInt ∧ t0_0.toInt ≤ K.toInt) := btt0_0
  replace pre0 : q_F (t0_0.toInt + 20 ≤ K.toInt) := pre0
  have hF : q_un ws ws [k1, k1 + 1] := q_u0
  have hl : lv_has ls 3 [(0, .ref (q k1)), (1, .ref (g (8 + 2 * 24)))] := hl
  refine lv_iconst (v := 0) hx hb d_11_4_0 (by decide) ?_
  refine lv_istore_n (lv' := [(2, .int 0), (0, .ref (q k1)), (1, .ref (g (8 + 2 * 24)))]) hx hb d_11_4_1 rfl hl (by decide) rfl (fun ls hl => ?_)
  refine q_loop (X := Int32 × Int32) (fun z H locs ls w12 => q_F (z.1.toInt ≤ 8) ∧ q_F (t0_0.toInt ≤ z.1.toInt + z.2.toInt) ∧ q_F (z.2.toInt ≤ z.1.toInt + t0_0.toInt) ∧ q_F (z.1.toInt + t0_0.toInt ≤ z.2.toInt) ∧ q_Wd D g (va_A ws sz) s w12 H locs ∧ lv_has ls 3 [(2, .int z.1), (0, .ref (q k1)), (1, .ref (g (8 + 2 * 24)))] ∧ q_I (nsh g q) q w12 ∧ q_un ws w12 [k1, k1 + 1] ∧ w12[k1]? = (some (q k1, .inr (1, [.ref (q (k1 + 1)), .int R, .int z.2])) : Option (Nat × va_E))) (fun z => (8 - z.1.toInt).toNat) ?_ ((0 : Int32), (t0_0 : Int32)) _ _ _ ws ⟨(show q_F (0 ≤ 8) from (show 0 ≤ 8 from by omega)), (show q_F (t0_0.toInt ≤ 0 + t0_0.toInt) from (show t0_0.toInt ≤ 0 + t0_0.toInt from by omega)), (show q_F (t0_0.toInt ≤ 0 + t0_0.toInt) from (show t0_0.toInt ≤ 0 + t0_0.toInt from by omega)), (show q_F (0 + t0_0.toInt ≤ t0_0.toInt) from (show 0 + t0_0.toInt ≤ t0_0.toInt from by omega)), V, q_lw hl (q_lw1 0 rfl (q_lw1 1 rfl (q_lw1 2 rfl q_lw0))), hI, hF, hT0⟩
  rintro ⟨lx5, lx6⟩ H locs ls w12 ⟨i7, i8, i9, i10, V, hl, hI, hF, hO13⟩ ih11
  replace i7 : q_F (lx5.toInt ≤ 8) := i7
  replace i8 : q_F (t0_0.toInt ≤ lx5.toInt + lx6.toInt) := i8
  replace i9 : q_F (lx6.toInt ≤ lx5.toInt + t0_0.toInt) := i9
  replace i10 : q_F (lx5.toInt + t0_0.toInt ≤ lx6.toInt) := i10
  replace hl : lv_has ls 3 [(2, .int lx5), (0, .ref (q k1)), (1, .ref (g (8 + 2 * 24)))] := hl
  replace hO13 : w12[k1]? = (some (q k1, .inr (1, [.ref (q (k1 + 1)), .int R, .int lx6])) : Option (Nat × va_E)) := hO13
  refine lv_iload_n hx hb d_11_4_2 rfl (lv_at hl 0 rfl) ?_
  refine lv_aload_n hx hb d_11_4_3 rfl (lv_at hl 2 rfl) ?_
  refine q_goi V (q_runVs (As := []) (rest := [.int lx5]) (d := 2) (mc := 0) (ms := 0) (i := 24) C0 V rfl LV_She_24 (T_jStr_length_24 l D g q w12   hI   _) rfl rfl rfl hl.1 rfl (Nat.le_of_ble_eq_true rfl) ⟨by decide, by decide⟩ ⟨Nat.le_of_ble_eq_true rfl, Nat.le_of_ble_eq_true rfl⟩ d_11_4_4) (fun a16 u14 H locs hp15 V => ?_)
  obtain ⟨rfl, b17, b18⟩ := hp15
  replace b17 : q_F (8 ≤ a16.toInt) := b17
  replace b18 : q_F (a16.toInt ≤ 8) := b18
  obtain rfl : a16 = (8 : Int32) := q_Ieq (x := a16.toInt) (y := 8) rfl (by decide) (by have t1 : 8 ≤ a16.toInt := b17; have t2 : a16.toInt ≤ 8 := b18; omega)
  refine lv_icmp_ge (tgt := 25) hx hb d_11_4_7 (by decide) (fun c20 => ?_) (fun c20 => ?_)
  ·
    have b21 : q_F (8 ≤ lx5.toInt) := (q_leI c20)
    exact q_retv C0 V (⟨hI, hF, lx6, hO13, (show t0_0.toInt + 8 ≤ lx6.toInt from (by have t1 : lx5.toInt + t0_0.toInt ≤ lx6.toInt := i10; have t2 : 8 ≤ lx5.toInt := b21; omega)), (show lx6.toInt ≤ t0_0.toInt + 8 from (by have t1 : lx5.toInt ≤ 8 := i7; have t2 : lx6.toInt ≤ lx5.toInt + t0_0.toInt := i9; omega))⟩) d_11_4_25
  ·
    have b22 : q_F (lx5.toInt < 8) := (q_nleI c20)
    refine lv_aload_n hx hb d_11_4_10 rfl (lv_at hl 1 rfl) ?_
    refine lv_aload_n hx hb d_11_4_11 rfl (lv_at hl 2 rfl) ?_
    refine lv_iload_n hx hb d_11_4_12 rfl (lv_at hl 0 rfl) ?_
    refine q_goi V (q_runVs (As := [.int lx5]) (rest := [.ref (q k1)]) (d := 4) (mc := 0) (ms := 0) (i := 24) C0 V rfl LV_She_30 (T_jStr_charAt_24 l D g q w12  lx5 hI  (by have t1 : t0_0.toInt ≤ lx5.toInt + lx6.toInt := i8; have t2 : lx6.toInt ≤ lx5.toInt + t0_0.toInt := i9; omega) (by have t1 : lx5.toInt < 8 := b22; omega) _) rfl rfl rfl hl.1 rfl (Nat.le_of_ble_eq_true rfl) ⟨by decide, by decide⟩ ⟨Nat.le_of_ble_eq_true rfl, Nat.le_of_ble_eq_true rfl⟩ d_11_4_13) (fun a25 u23 H locs hp24 V => ?_)
    obtain ⟨rfl, b26, b27⟩ := hp24
    replace b26 : q_F (0 ≤ a25.toInt) := b26
    replace b27 : q_F (a25.toInt ≤ 255) := b27
    refine q_gov V (q_runV (As := [.int a25]) (rest := []) (d := 1) (mc := 0) (ms := 0) (ci := 1) C0 V rfl LV_She_34 (T_She_add l D g q w12 k1 R N K hB1 a25 hI lx6 hO13 (by have t1 : t0_0.toInt + 20 ≤ K.toInt := pre0; have t2 : lx5.toInt ≤ 8 := i7; have t3 : lx6.toInt ≤ lx5.toInt + t0_0.toInt := i9; omega) _) rfl rfl hO13 rfl hl.1 rfl (Nat.le_of_ble_eq_true rfl) ⟨by decide, by decide⟩ ⟨Nat.le_of_ble_eq_true rfl, Nat.le_of_ble_eq_true rfl⟩ d_11_4_16) (fun u29 H locs hp30 V => ?_)
    obtain ⟨hI, hu36, y32, hO31, b33, b34⟩ := hp30
    replace hO31 : u29[k1]? = (some (q k1, .inr (1, [.ref (q (k1 + 1)), .int R, .int y32])) : Option (Nat × va_E)) := hO31
    replace b33 : q_F (lx6.toInt + 1 ≤ y32.toInt) := b33
    replace b34 : q_F (y32.toInt ≤ lx6.toInt + 1) := b34
    replace hF := q_uc hF hu36 (by simp)
    obtain ⟨a37, e38⟩ := q_nm (lx5 + 1 : Int32)
    have b39 : q_F (a37.toInt = lx5.toInt + 1) := (by rw [← e38]; exact q_addI (y := 1) rfl (by decide) (by have t1 : t0_0.toInt ≤ lx5.toInt + lx6.toInt := i8; have t2 : lx6.toInt ≤ lx5.toInt + t0_0.toInt := i9; have t3 : lx5.toInt ≤ 8 := i7; omega) (by have t1 : t0_0.toInt ≤ lx5.toInt + lx6.toInt := i8; have t2 : lx6.toInt ≤ lx5.toInt + t0_0.toInt := i9; have t3 : lx5.toInt ≤ 8 := i7; omega))
    refine lv_iinc (v := a37) (lv' := [(2, .int a37), (0, .ref (q k1)), (1, .ref (g (8 + 2 * 24)))]) hx hb d_11_4_19 hl (k := 0) rfl (e38) (by decide) rfl (fun ls hl => ?_)
    refine lv_goto (tgt := 2) hx hb d_11_4_22 (by decide) ?_
    exact ih11 ((a37 : Int32), (y32 : Int32)) _ _ _ _ (show (8 - a37.toInt).toNat < (8 - lx5.toInt).toNat from by have t1 : a37.toInt = lx5.toInt + 1 := b39; have t2 : lx5.toInt ≤ 8 := i7; have t3 : lx5.toInt < 8 := b22; omega) ⟨(show q_F (a37.toInt ≤ 8) from (show a37.toInt ≤ 8 from by have t1 : lx5.toInt < 8 := b22; have t2 : a37.toInt = lx5.toInt + 1 := b39; omega)), (show q_F (t0_0.toInt ≤ a37.toInt + y32.toInt) from (show t0_0.toInt ≤ a37.toInt + y32.toInt from by have t1 : t0_0.toInt ≤ lx5.toInt + lx6.toInt := i8; have t2 : lx6.toInt + 1 ≤ y32.toInt := b33; have t3 : a37.toInt = lx5.toInt + 1 := b39; omega)), (show q_F (y32.toInt ≤ a37.toInt + t0_0.toInt) from (show y32.toInt ≤ a37.toInt + t0_0.toInt from by have t1 : lx6.toInt ≤ lx5.toInt + t0_0.toInt := i9; have t2 : y32.toInt ≤ lx6.toInt + 1 := b34; have t3 : a37.toInt = lx5.toInt + 1 := b39; omega)), (show q_F (a37.toInt + t0_0.toInt ≤ y32.toInt) from (show a37.toInt + t0_0.toInt ≤ y32.toInt from by have t1 : lx5.toInt + t0_0.toInt ≤ lx6.toInt := i10; have t2 : lx6.toInt + 1 ≤ y32.toInt := b33; have t3 : a37.toInt = lx5.toInt + 1 := b39; omega)), V, q_lw hl (q_lw1 0 rfl (q_lw1 1 rfl (q_lw1 2 rfl q_lw0))), hI, hF, hO31⟩
set_option maxRecDepth 100000 in
set_option maxHeartbeats 4000000 in
theorem T_She_addText_25 (l : Launch) (D : va_G) (g : Nat → ClassId) (q : Nat → Nat) (ws : va_W) (k1 : Nat) (R N K : Int32) (hB1 : q_isShe (nsh g q) g q k1 R N K) (hI : q_I (nsh g q) q ws) (t0_0 : Int32) (hT0 : ws[k1]? = (some (q k1, .inr (1, [.ref (q (k1 + 1)), .int R, .int t0_0])) : Option (Nat × va_E))) (pre0 : t0_0.toInt + 20 ≤ K.toInt) : q_mV l y_She_addText prog_11_method_4_code 3 5 0 0 D g [.ref (q k1), .ref (g (8 + 2 * 25))] ws (fun u => q_I (nsh g q) q u ∧ q_un ws u [k1, k1 + 1] ∧ ∃ (u0_0 : Int32), u[k1]? = (some (q k1, .inr (1, [.ref (q (k1 + 1)), .int R, .int u0_0])) : Option (Nat × va_E)) ∧ (t0_0.toInt + 7 ≤ u0_0.toInt) ∧ (u0_0.toInt ≤ t0_0.toInt + 7)) := by
  intro sz
  refine q_into (by decide) (Nat.le_of_ble_eq_true rfl) ?_
  intro p e s m below meth c ls hsz C0 V hl
  have hx := C0.1
  have hb := C0.2.1
  have hfk10 : q_F (0 ≤ R.toInt ∧ R.toInt ≤ 8 * N.toInt ∧ 0 ≤ N.toInt ∧ N.toInt ≤ 1376 ∧ 64 ≤ R.toInt ∧ 64 ≤ K.toInt ∧ K.toInt ≤ 1000000) := hB1.2.2.1
  obtain ⟨yy0_0, hh0, btt0_0⟩ := n_shO hI hB1
  obtain ⟨rfl⟩ : t0_0 = yy0_0 := by have z := Option.some.inj (hT0.symm.trans hh0); simpa using z
  replace btt0_0 : q_F (0 ≤ t0_0.toInt ∧ t0_0.toInt ≤ K.toInt) := btt0_0
  replace pre0 : q_F (t0_0.toInt + 20 ≤ K.toInt) := pre0
  have hF : q_un ws ws [k1, k1 + 1] := q_u0
  have hl : lv_has ls 3 [(0, .ref (q k1)), (1, .ref (g (8 + 2 * 25)))] := hl
  refine lv_iconst (v := 0) hx hb d_11_4_0 (by decide) ?_
  refine lv_istore_n (lv' := [(2, .int 0), (0, .ref (q k1)), (1, .ref (g (8 + 2 * 25)))]) hx hb d_11_4_1 rfl hl (by decide) rfl (fun ls hl => ?_)
  refine q_loop (X := Int32 × Int32) (fun z H locs ls w12 => q_F (z.1.toInt ≤ 7) ∧ q_F (t0_0.toInt ≤ z.1.toInt + z.2.toInt) ∧ q_F (z.2.toInt ≤ z.1.toInt + t0_0.toInt) ∧ q_F (z.1.toInt + t0_0.toInt ≤ z.2.toInt) ∧ q_Wd D g (va_A ws sz) s w12 H locs ∧ lv_has ls 3 [(2, .int z.1), (0, .ref (q k1)), (1, .ref (g (8 + 2 * 25)))] ∧ q_I (nsh g q) q w12 ∧ q_un ws w12 [k1, k1 + 1] ∧ w12[k1]? = (some (q k1, .inr (1, [.ref (q (k1 + 1)), .int R, .int z.2])) : Option (Nat × va_E))) (fun z => (7 - z.1.toInt).toNat) ?_ ((0 : Int32), (t0_0 : Int32)) _ _ _ ws ⟨(show q_F (0 ≤ 7) from (show 0 ≤ 7 from by omega)), (show q_F (t0_0.toInt ≤ 0 + t0_0.toInt) from (show t0_0.toInt ≤ 0 + t0_0.toInt from by omega)), (show q_F (t0_0.toInt ≤ 0 + t0_0.toInt) from (show t0_0.toInt ≤ 0 + t0_0.toInt from by omega)), (show q_F (0 + t0_0.toInt ≤ t0_0.toInt) from (show 0 + t0_0.toInt ≤ t0_0.toInt from by omega)), V, q_lw hl (q_lw1 0 rfl (q_lw1 1 rfl (q_lw1 2 rfl q_lw0))), hI, hF, hT0⟩
  rintro ⟨lx5, lx6⟩ H locs ls w12 ⟨i7, i8, i9, i10, V, hl, hI, hF, hO13⟩ ih11
  replace i7 : q_F (lx5.toInt ≤ 7) := i7
  replace i8 : q_F (t0_0.toInt ≤ lx5.toInt + lx6.toInt) := i8
  replace i9 : q_F (lx6.toInt ≤ lx5.toInt + t0_0.toInt) := i9
  replace i10 : q_F (lx5.toInt + t0_0.toInt ≤ lx6.toInt) := i10
  replace hl : lv_has ls 3 [(2, .int lx5), (0, .ref (q k1)), (1, .ref (g (8 + 2 * 25)))] := hl
  replace hO13 : w12[k1]? = (some (q k1, .inr (1, [.ref (q (k1 + 1)), .int R, .int lx6])) : Option (Nat × va_E)) := hO13
  refine lv_iload_n hx hb d_11_4_2 rfl (lv_at hl 0 rfl) ?_
  refine lv_aload_n hx hb d_11_4_3 rfl (lv_at hl 2 rfl) ?_
  refine q_goi V (q_runVs (As := []) (rest := [.int lx5]) (d := 2) (mc := 0) (ms := 0) (i := 25) C0 V rfl LV_She_24 (T_jStr_length_25 l D g q w12   hI   _) rfl rfl rfl hl.1 rfl (Nat.le_of_ble_eq_true rfl) ⟨by decide, by decide⟩ ⟨Nat.le_of_ble_eq_true rfl, Nat.le_of_ble_eq_true rfl⟩ d_11_4_4) (fun a16 u14 H locs hp15 V => ?_)
  obtain ⟨rfl, b17, b18⟩ := hp15
  replace b17 : q_F (7 ≤ a16.toInt) := b17
  replace b18 : q_F (a16.toInt ≤ 7) := b18
  obtain rfl : a16 = (7 : Int32) := q_Ieq (x := a16.toInt) (y := 7) rfl (by decide) (by have t1 : 7 ≤ a16.toInt := b17; have t2 : a16.toInt ≤ 7 := b18; omega)
  refine lv_icmp_ge (tgt := 25) hx hb d_11_4_7 (by decide) (fun c20 => ?_) (fun c20 => ?_)
  ·
    have b21 : q_F (7 ≤ lx5.toInt) := (q_leI c20)
    exact q_retv C0 V (⟨hI, hF, lx6, hO13, (show t0_0.toInt + 7 ≤ lx6.toInt from (by have t1 : lx5.toInt + t0_0.toInt ≤ lx6.toInt := i10; have t2 : 7 ≤ lx5.toInt := b21; omega)), (show lx6.toInt ≤ t0_0.toInt + 7 from (by have t1 : lx5.toInt ≤ 7 := i7; have t2 : lx6.toInt ≤ lx5.toInt + t0_0.toInt := i9; omega))⟩) d_11_4_25
  ·
    have b22 : q_F (lx5.toInt < 7) := (q_nleI c20)
    refine lv_aload_n hx hb d_11_4_10 rfl (lv_at hl 1 rfl) ?_
    refine lv_aload_n hx hb d_11_4_11 rfl (lv_at hl 2 rfl) ?_
    refine lv_iload_n hx hb d_11_4_12 rfl (lv_at hl 0 rfl) ?_
    refine q_goi V (q_runVs (As := [.int lx5]) (rest := [.ref (q k1)]) (d := 4) (mc := 0) (ms := 0) (i := 25) C0 V rfl LV_She_30 (T_jStr_charAt_25 l D g q w12  lx5 hI  (by have t1 : t0_0.toInt ≤ lx5.toInt + lx6.toInt := i8; have t2 : lx6.toInt ≤ lx5.toInt + t0_0.toInt := i9; omega) (by have t1 : lx5.toInt < 7 := b22; omega) _) rfl rfl rfl hl.1 rfl (Nat.le_of_ble_eq_true rfl) ⟨by decide, by decide⟩ ⟨Nat.le_of_ble_eq_true rfl, Nat.le_of_ble_eq_true rfl⟩ d_11_4_13) (fun a25 u23 H locs hp24 V => ?_)
    obtain ⟨rfl, b26, b27⟩ := hp24
    replace b26 : q_F (0 ≤ a25.toInt) := b26
    replace b27 : q_F (a25.toInt ≤ 255) := b27
    refine q_gov V (q_runV (As := [.int a25]) (rest := []) (d := 1) (mc := 0) (ms := 0) (ci := 1) C0 V rfl LV_She_34 (T_She_add l D g q w12 k1 R N K hB1 a25 hI lx6 hO13 (by have t1 : t0_0.toInt + 20 ≤ K.toInt := pre0; have t2 : lx5.toInt ≤ 7 := i7; have t3 : lx6.toInt ≤ lx5.toInt + t0_0.toInt := i9; omega) _) rfl rfl hO13 rfl hl.1 rfl (Nat.le_of_ble_eq_true rfl) ⟨by decide, by decide⟩ ⟨Nat.le_of_ble_eq_true rfl, Nat.le_of_ble_eq_true rfl⟩ d_11_4_16) (fun u29 H locs hp30 V => ?_)
    obtain ⟨hI, hu36, y32, hO31, b33, b34⟩ := hp30
    replace hO31 : u29[k1]? = (some (q k1, .inr (1, [.ref (q (k1 + 1)), .int R, .int y32])) : Option (Nat × va_E)) := hO31
    replace b33 : q_F (lx6.toInt + 1 ≤ y32.toInt) := b33
    replace b34 : q_F (y32.toInt ≤ lx6.toInt + 1) := b34
    replace hF := q_uc hF hu36 (by simp)
    obtain ⟨a37, e38⟩ := q_nm (lx5 + 1 : Int32)
    have b39 : q_F (a37.toInt = lx5.toInt + 1) := (by rw [← e38]; exact q_addI (y := 1) rfl (by decide) (by have t1 : t0_0.toInt ≤ lx5.toInt + lx6.toInt := i8; have t2 : lx6.toInt ≤ lx5.toInt + t0_0.toInt := i9; have t3 : lx5.toInt ≤ 7 := i7; omega) (by have t1 : t0_0.toInt ≤ lx5.toInt + lx6.toInt := i8; have t2 : lx6.toInt ≤ lx5.toInt + t0_0.toInt := i9; have t3 : lx5.toInt ≤ 7 := i7; omega))
    refine lv_iinc (v := a37) (lv' := [(2, .int a37), (0, .ref (q k1)), (1, .ref (g (8 + 2 * 25)))]) hx hb d_11_4_19 hl (k := 0) rfl (e38) (by decide) rfl (fun ls hl => ?_)
    refine lv_goto (tgt := 2) hx hb d_11_4_22 (by decide) ?_
    exact ih11 ((a37 : Int32), (y32 : Int32)) _ _ _ _ (show (7 - a37.toInt).toNat < (7 - lx5.toInt).toNat from by have t1 : a37.toInt = lx5.toInt + 1 := b39; have t2 : lx5.toInt ≤ 7 := i7; have t3 : lx5.toInt < 7 := b22; omega) ⟨(show q_F (a37.toInt ≤ 7) from (show a37.toInt ≤ 7 from by have t1 : lx5.toInt < 7 := b22; have t2 : a37.toInt = lx5.toInt + 1 := b39; omega)), (show q_F (t0_0.toInt ≤ a37.toInt + y32.toInt) from (show t0_0.toInt ≤ a37.toInt + y32.toInt from by have t1 : t0_0.toInt ≤ lx5.toInt + lx6.toInt := i8; have t2 : lx6.toInt + 1 ≤ y32.toInt := b33; have t3 : a37.toInt = lx5.toInt + 1 := b39; omega)), (show q_F (y32.toInt ≤ a37.toInt + t0_0.toInt) from (show y32.toInt ≤ a37.toInt + t0_0.toInt from by have t1 : lx6.toInt ≤ lx5.toInt + t0_0.toInt := i9; have t2 : y32.toInt ≤ lx6.toInt + 1 := b34; have t3 : a37.toInt = lx5.toInt + 1 := b39; omega)), (show q_F (a37.toInt + t0_0.toInt ≤ y32.toInt) from (show a37.toInt + t0_0.toInt ≤ y32.toInt from by have t1 : lx5.toInt + t0_0.toInt ≤ lx6.toInt := i10; have t2 : lx6.toInt + 1 ≤ y32.toInt := b33; have t3 : a37.toInt = lx5.toInt + 1 := b39; omega)), V, q_lw hl (q_lw1 0 rfl (q_lw1 1 rfl (q_lw1 2 rfl q_lw0))), hI, hF, hO31⟩
set_option maxRecDepth 100000 in
set_option maxHeartbeats 4000000 in
theorem T_She_addText_26 (l : Launch) (D : va_G) (g : Nat → ClassId) (q : Nat → Nat) (ws : va_W) (k1 : Nat) (R N K : Int32) (hB1 : q_isShe (nsh g q) g q k1 R N K) (hI : q_I (nsh g q) q ws) (t0_0 : Int32) (hT0 : ws[k1]? = (some (q k1, .inr (1, [.ref (q (k1 + 1)), .int R, .int t0_0])) : Option (Nat × va_E))) (pre0 : t0_0.toInt + 20 ≤ K.toInt) : q_mV l y_She_addText prog_11_method_4_code 3 5 0 0 D g [.ref (q k1), .ref (g (8 + 2 * 26))] ws (fun u => q_I (nsh g q) q u ∧ q_un ws u [k1, k1 + 1] ∧ ∃ (u0_0 : Int32), u[k1]? = (some (q k1, .inr (1, [.ref (q (k1 + 1)), .int R, .int u0_0])) : Option (Nat × va_E)) ∧ (t0_0.toInt + 3 ≤ u0_0.toInt) ∧ (u0_0.toInt ≤ t0_0.toInt + 3)) := by
  intro sz
  refine q_into (by decide) (Nat.le_of_ble_eq_true rfl) ?_
  intro p e s m below meth c ls hsz C0 V hl
  have hx := C0.1
  have hb := C0.2.1
  have hfk10 : q_F (0 ≤ R.toInt ∧ R.toInt ≤ 8 * N.toInt ∧ 0 ≤ N.toInt ∧ N.toInt ≤ 1376 ∧ 64 ≤ R.toInt ∧ 64 ≤ K.toInt ∧ K.toInt ≤ 1000000) := hB1.2.2.1
  obtain ⟨yy0_0, hh0, btt0_0⟩ := n_shO hI hB1
  obtain ⟨rfl⟩ : t0_0 = yy0_0 := by have z := Option.some.inj (hT0.symm.trans hh0); simpa using z
  replace btt0_0 : q_F (0 ≤ t0_0.toInt ∧ t0_0.toInt ≤ K.toInt) := btt0_0
  replace pre0 : q_F (t0_0.toInt + 20 ≤ K.toInt) := pre0
  have hF : q_un ws ws [k1, k1 + 1] := q_u0
  have hl : lv_has ls 3 [(0, .ref (q k1)), (1, .ref (g (8 + 2 * 26)))] := hl
  refine lv_iconst (v := 0) hx hb d_11_4_0 (by decide) ?_
  refine lv_istore_n (lv' := [(2, .int 0), (0, .ref (q k1)), (1, .ref (g (8 + 2 * 26)))]) hx hb d_11_4_1 rfl hl (by decide) rfl (fun ls hl => ?_)
  refine q_loop (X := Int32 × Int32) (fun z H locs ls w12 => q_F (z.1.toInt ≤ 3) ∧ q_F (t0_0.toInt ≤ z.1.toInt + z.2.toInt) ∧ q_F (z.2.toInt ≤ z.1.toInt + t0_0.toInt) ∧ q_F (z.1.toInt + t0_0.toInt ≤ z.2.toInt) ∧ q_Wd D g (va_A ws sz) s w12 H locs ∧ lv_has ls 3 [(2, .int z.1), (0, .ref (q k1)), (1, .ref (g (8 + 2 * 26)))] ∧ q_I (nsh g q) q w12 ∧ q_un ws w12 [k1, k1 + 1] ∧ w12[k1]? = (some (q k1, .inr (1, [.ref (q (k1 + 1)), .int R, .int z.2])) : Option (Nat × va_E))) (fun z => (3 - z.1.toInt).toNat) ?_ ((0 : Int32), (t0_0 : Int32)) _ _ _ ws ⟨(show q_F (0 ≤ 3) from (show 0 ≤ 3 from by omega)), (show q_F (t0_0.toInt ≤ 0 + t0_0.toInt) from (show t0_0.toInt ≤ 0 + t0_0.toInt from by omega)), (show q_F (t0_0.toInt ≤ 0 + t0_0.toInt) from (show t0_0.toInt ≤ 0 + t0_0.toInt from by omega)), (show q_F (0 + t0_0.toInt ≤ t0_0.toInt) from (show 0 + t0_0.toInt ≤ t0_0.toInt from by omega)), V, q_lw hl (q_lw1 0 rfl (q_lw1 1 rfl (q_lw1 2 rfl q_lw0))), hI, hF, hT0⟩
  rintro ⟨lx5, lx6⟩ H locs ls w12 ⟨i7, i8, i9, i10, V, hl, hI, hF, hO13⟩ ih11
  replace i7 : q_F (lx5.toInt ≤ 3) := i7
  replace i8 : q_F (t0_0.toInt ≤ lx5.toInt + lx6.toInt) := i8
  replace i9 : q_F (lx6.toInt ≤ lx5.toInt + t0_0.toInt) := i9
  replace i10 : q_F (lx5.toInt + t0_0.toInt ≤ lx6.toInt) := i10
  replace hl : lv_has ls 3 [(2, .int lx5), (0, .ref (q k1)), (1, .ref (g (8 + 2 * 26)))] := hl
  replace hO13 : w12[k1]? = (some (q k1, .inr (1, [.ref (q (k1 + 1)), .int R, .int lx6])) : Option (Nat × va_E)) := hO13
  refine lv_iload_n hx hb d_11_4_2 rfl (lv_at hl 0 rfl) ?_
  refine lv_aload_n hx hb d_11_4_3 rfl (lv_at hl 2 rfl) ?_
  refine q_goi V (q_runVs (As := []) (rest := [.int lx5]) (d := 2) (mc := 0) (ms := 0) (i := 26) C0 V rfl LV_She_24 (T_jStr_length_26 l D g q w12   hI   _) rfl rfl rfl hl.1 rfl (Nat.le_of_ble_eq_true rfl) ⟨by decide, by decide⟩ ⟨Nat.le_of_ble_eq_true rfl, Nat.le_of_ble_eq_true rfl⟩ d_11_4_4) (fun a16 u14 H locs hp15 V => ?_)
  obtain ⟨rfl, b17, b18⟩ := hp15
  replace b17 : q_F (3 ≤ a16.toInt) := b17
  replace b18 : q_F (a16.toInt ≤ 3) := b18
  obtain rfl : a16 = (3 : Int32) := q_Ieq (x := a16.toInt) (y := 3) rfl (by decide) (by have t1 : 3 ≤ a16.toInt := b17; have t2 : a16.toInt ≤ 3 := b18; omega)
  refine lv_icmp_ge (tgt := 25) hx hb d_11_4_7 (by decide) (fun c20 => ?_) (fun c20 => ?_)
  ·
    have b21 : q_F (3 ≤ lx5.toInt) := (q_leI c20)
    exact q_retv C0 V (⟨hI, hF, lx6, hO13, (show t0_0.toInt + 3 ≤ lx6.toInt from (by have t1 : lx5.toInt + t0_0.toInt ≤ lx6.toInt := i10; have t2 : 3 ≤ lx5.toInt := b21; omega)), (show lx6.toInt ≤ t0_0.toInt + 3 from (by have t1 : lx5.toInt ≤ 3 := i7; have t2 : lx6.toInt ≤ lx5.toInt + t0_0.toInt := i9; omega))⟩) d_11_4_25
  ·
    have b22 : q_F (lx5.toInt < 3) := (q_nleI c20)
    refine lv_aload_n hx hb d_11_4_10 rfl (lv_at hl 1 rfl) ?_
    refine lv_aload_n hx hb d_11_4_11 rfl (lv_at hl 2 rfl) ?_
    refine lv_iload_n hx hb d_11_4_12 rfl (lv_at hl 0 rfl) ?_
    refine q_goi V (q_runVs (As := [.int lx5]) (rest := [.ref (q k1)]) (d := 4) (mc := 0) (ms := 0) (i := 26) C0 V rfl LV_She_30 (T_jStr_charAt_26 l D g q w12  lx5 hI  (by have t1 : t0_0.toInt ≤ lx5.toInt + lx6.toInt := i8; have t2 : lx6.toInt ≤ lx5.toInt + t0_0.toInt := i9; omega) (by have t1 : lx5.toInt < 3 := b22; omega) _) rfl rfl rfl hl.1 rfl (Nat.le_of_ble_eq_true rfl) ⟨by decide, by decide⟩ ⟨Nat.le_of_ble_eq_true rfl, Nat.le_of_ble_eq_true rfl⟩ d_11_4_13) (fun a25 u23 H locs hp24 V => ?_)
    obtain ⟨rfl, b26, b27⟩ := hp24
    replace b26 : q_F (0 ≤ a25.toInt) := b26
    replace b27 : q_F (a25.toInt ≤ 255) := b27
    refine q_gov V (q_runV (As := [.int a25]) (rest := []) (d := 1) (mc := 0) (ms := 0) (ci := 1) C0 V rfl LV_She_34 (T_She_add l D g q w12 k1 R N K hB1 a25 hI lx6 hO13 (by have t1 : t0_0.toInt + 20 ≤ K.toInt := pre0; have t2 : lx5.toInt ≤ 3 := i7; have t3 : lx6.toInt ≤ lx5.toInt + t0_0.toInt := i9; omega) _) rfl rfl hO13 rfl hl.1 rfl (Nat.le_of_ble_eq_true rfl) ⟨by decide, by decide⟩ ⟨Nat.le_of_ble_eq_true rfl, Nat.le_of_ble_eq_true rfl⟩ d_11_4_16) (fun u29 H locs hp30 V => ?_)
    obtain ⟨hI, hu36, y32, hO31, b33, b34⟩ := hp30
    replace hO31 : u29[k1]? = (some (q k1, .inr (1, [.ref (q (k1 + 1)), .int R, .int y32])) : Option (Nat × va_E)) := hO31
    replace b33 : q_F (lx6.toInt + 1 ≤ y32.toInt) := b33
    replace b34 : q_F (y32.toInt ≤ lx6.toInt + 1) := b34
    replace hF := q_uc hF hu36 (by simp)
    obtain ⟨a37, e38⟩ := q_nm (lx5 + 1 : Int32)
    have b39 : q_F (a37.toInt = lx5.toInt + 1) := (by rw [← e38]; exact q_addI (y := 1) rfl (by decide) (by have t1 : t0_0.toInt ≤ lx5.toInt + lx6.toInt := i8; have t2 : lx6.toInt ≤ lx5.toInt + t0_0.toInt := i9; have t3 : lx5.toInt ≤ 3 := i7; omega) (by have t1 : t0_0.toInt ≤ lx5.toInt + lx6.toInt := i8; have t2 : lx6.toInt ≤ lx5.toInt + t0_0.toInt := i9; have t3 : lx5.toInt ≤ 3 := i7; omega))
    refine lv_iinc (v := a37) (lv' := [(2, .int a37), (0, .ref (q k1)), (1, .ref (g (8 + 2 * 26)))]) hx hb d_11_4_19 hl (k := 0) rfl (e38) (by decide) rfl (fun ls hl => ?_)
    refine lv_goto (tgt := 2) hx hb d_11_4_22 (by decide) ?_
    exact ih11 ((a37 : Int32), (y32 : Int32)) _ _ _ _ (show (3 - a37.toInt).toNat < (3 - lx5.toInt).toNat from by have t1 : a37.toInt = lx5.toInt + 1 := b39; have t2 : lx5.toInt ≤ 3 := i7; have t3 : lx5.toInt < 3 := b22; omega) ⟨(show q_F (a37.toInt ≤ 3) from (show a37.toInt ≤ 3 from by have t1 : lx5.toInt < 3 := b22; have t2 : a37.toInt = lx5.toInt + 1 := b39; omega)), (show q_F (t0_0.toInt ≤ a37.toInt + y32.toInt) from (show t0_0.toInt ≤ a37.toInt + y32.toInt from by have t1 : t0_0.toInt ≤ lx5.toInt + lx6.toInt := i8; have t2 : lx6.toInt + 1 ≤ y32.toInt := b33; have t3 : a37.toInt = lx5.toInt + 1 := b39; omega)), (show q_F (y32.toInt ≤ a37.toInt + t0_0.toInt) from (show y32.toInt ≤ a37.toInt + t0_0.toInt from by have t1 : lx6.toInt ≤ lx5.toInt + t0_0.toInt := i9; have t2 : y32.toInt ≤ lx6.toInt + 1 := b34; have t3 : a37.toInt = lx5.toInt + 1 := b39; omega)), (show q_F (a37.toInt + t0_0.toInt ≤ y32.toInt) from (show a37.toInt + t0_0.toInt ≤ y32.toInt from by have t1 : lx5.toInt + t0_0.toInt ≤ lx6.toInt := i10; have t2 : lx6.toInt + 1 ≤ y32.toInt := b33; have t3 : a37.toInt = lx5.toInt + 1 := b39; omega)), V, q_lw hl (q_lw1 0 rfl (q_lw1 1 rfl (q_lw1 2 rfl q_lw0))), hI, hF, hO31⟩
set_option maxRecDepth 100000 in
set_option maxHeartbeats 4000000 in
theorem T_She_addText_27 (l : Launch) (D : va_G) (g : Nat → ClassId) (q : Nat → Nat) (ws : va_W) (k1 : Nat) (R N K : Int32) (hB1 : q_isShe (nsh g q) g q k1 R N K) (hI : q_I (nsh g q) q ws) (t0_0 : Int32) (hT0 : ws[k1]? = (some (q k1, .inr (1, [.ref (q (k1 + 1)), .int R, .int t0_0])) : Option (Nat × va_E))) (pre0 : t0_0.toInt + 20 ≤ K.toInt) : q_mV l y_She_addText prog_11_method_4_code 3 5 0 0 D g [.ref (q k1), .ref (g (8 + 2 * 27))] ws (fun u => q_I (nsh g q) q u ∧ q_un ws u [k1, k1 + 1] ∧ ∃ (u0_0 : Int32), u[k1]? = (some (q k1, .inr (1, [.ref (q (k1 + 1)), .int R, .int u0_0])) : Option (Nat × va_E)) ∧ (t0_0.toInt + 4 ≤ u0_0.toInt) ∧ (u0_0.toInt ≤ t0_0.toInt + 4)) := by
  intro sz
  refine q_into (by decide) (Nat.le_of_ble_eq_true rfl) ?_
  intro p e s m below meth c ls hsz C0 V hl
  have hx := C0.1
  have hb := C0.2.1
  have hfk10 : q_F (0 ≤ R.toInt ∧ R.toInt ≤ 8 * N.toInt ∧ 0 ≤ N.toInt ∧ N.toInt ≤ 1376 ∧ 64 ≤ R.toInt ∧ 64 ≤ K.toInt ∧ K.toInt ≤ 1000000) := hB1.2.2.1
  obtain ⟨yy0_0, hh0, btt0_0⟩ := n_shO hI hB1
  obtain ⟨rfl⟩ : t0_0 = yy0_0 := by have z := Option.some.inj (hT0.symm.trans hh0); simpa using z
  replace btt0_0 : q_F (0 ≤ t0_0.toInt ∧ t0_0.toInt ≤ K.toInt) := btt0_0
  replace pre0 : q_F (t0_0.toInt + 20 ≤ K.toInt) := pre0
  have hF : q_un ws ws [k1, k1 + 1] := q_u0
  have hl : lv_has ls 3 [(0, .ref (q k1)), (1, .ref (g (8 + 2 * 27)))] := hl
  refine lv_iconst (v := 0) hx hb d_11_4_0 (by decide) ?_
  refine lv_istore_n (lv' := [(2, .int 0), (0, .ref (q k1)), (1, .ref (g (8 + 2 * 27)))]) hx hb d_11_4_1 rfl hl (by decide) rfl (fun ls hl => ?_)
  refine q_loop (X := Int32 × Int32) (fun z H locs ls w12 => q_F (z.1.toInt ≤ 4) ∧ q_F (t0_0.toInt ≤ z.1.toInt + z.2.toInt) ∧ q_F (z.2.toInt ≤ z.1.toInt + t0_0.toInt) ∧ q_F (z.1.toInt + t0_0.toInt ≤ z.2.toInt) ∧ q_Wd D g (va_A ws sz) s w12 H locs ∧ lv_has ls 3 [(2, .int z.1), (0, .ref (q k1)), (1, .ref (g (8 + 2 * 27)))] ∧ q_I (nsh g q) q w12 ∧ q_un ws w12 [k1, k1 + 1] ∧ w12[k1]? = (some (q k1, .inr (1, [.ref (q (k1 + 1)), .int R, .int z.2])) : Option (Nat × va_E))) (fun z => (4 - z.1.toInt).toNat) ?_ ((0 : Int32), (t0_0 : Int32)) _ _ _ ws ⟨(show q_F (0 ≤ 4) from (show 0 ≤ 4 from by omega)), (show q_F (t0_0.toInt ≤ 0 + t0_0.toInt) from (show t0_0.toInt ≤ 0 + t0_0.toInt from by omega)), (show q_F (t0_0.toInt ≤ 0 + t0_0.toInt) from (show t0_0.toInt ≤ 0 + t0_0.toInt from by omega)), (show q_F (0 + t0_0.toInt ≤ t0_0.toInt) from (show 0 + t0_0.toInt ≤ t0_0.toInt from by omega)), V, q_lw hl (q_lw1 0 rfl (q_lw1 1 rfl (q_lw1 2 rfl q_lw0))), hI, hF, hT0⟩
  rintro ⟨lx5, lx6⟩ H locs ls w12 ⟨i7, i8, i9, i10, V, hl, hI, hF, hO13⟩ ih11
  replace i7 : q_F (lx5.toInt ≤ 4) := i7
  replace i8 : q_F (t0_0.toInt ≤ lx5.toInt + lx6.toInt) := i8
  replace i9 : q_F (lx6.toInt ≤ lx5.toInt + t0_0.toInt) := i9
  replace i10 : q_F (lx5.toInt + t0_0.toInt ≤ lx6.toInt) := i10
  replace hl : lv_has ls 3 [(2, .int lx5), (0, .ref (q k1)), (1, .ref (g (8 + 2 * 27)))] := hl
  replace hO13 : w12[k1]? = (some (q k1, .inr (1, [.ref (q (k1 + 1)), .int R, .int lx6])) : Option (Nat × va_E)) := hO13
  refine lv_iload_n hx hb d_11_4_2 rfl (lv_at hl 0 rfl) ?_
  refine lv_aload_n hx hb d_11_4_3 rfl (lv_at hl 2 rfl) ?_
  refine q_goi V (q_runVs (As := []) (rest := [.int lx5]) (d := 2) (mc := 0) (ms := 0) (i := 27) C0 V rfl LV_She_24 (T_jStr_length_27 l D g q w12   hI   _) rfl rfl rfl hl.1 rfl (Nat.le_of_ble_eq_true rfl) ⟨by decide, by decide⟩ ⟨Nat.le_of_ble_eq_true rfl, Nat.le_of_ble_eq_true rfl⟩ d_11_4_4) (fun a16 u14 H locs hp15 V => ?_)
  obtain ⟨rfl, b17, b18⟩ := hp15
  replace b17 : q_F (4 ≤ a16.toInt) := b17
  replace b18 : q_F (a16.toInt ≤ 4) := b18
  obtain rfl : a16 = (4 : Int32) := q_Ieq (x := a16.toInt) (y := 4) rfl (by decide) (by have t1 : 4 ≤ a16.toInt := b17; have t2 : a16.toInt ≤ 4 := b18; omega)
  refine lv_icmp_ge (tgt := 25) hx hb d_11_4_7 (by decide) (fun c20 => ?_) (fun c20 => ?_)
  ·
    have b21 : q_F (4 ≤ lx5.toInt) := (q_leI c20)
    exact q_retv C0 V (⟨hI, hF, lx6, hO13, (show t0_0.toInt + 4 ≤ lx6.toInt from (by have t1 : lx5.toInt + t0_0.toInt ≤ lx6.toInt := i10; have t2 : 4 ≤ lx5.toInt := b21; omega)), (show lx6.toInt ≤ t0_0.toInt + 4 from (by have t1 : lx5.toInt ≤ 4 := i7; have t2 : lx6.toInt ≤ lx5.toInt + t0_0.toInt := i9; omega))⟩) d_11_4_25
  ·
    have b22 : q_F (lx5.toInt < 4) := (q_nleI c20)
    refine lv_aload_n hx hb d_11_4_10 rfl (lv_at hl 1 rfl) ?_
    refine lv_aload_n hx hb d_11_4_11 rfl (lv_at hl 2 rfl) ?_
    refine lv_iload_n hx hb d_11_4_12 rfl (lv_at hl 0 rfl) ?_
    refine q_goi V (q_runVs (As := [.int lx5]) (rest := [.ref (q k1)]) (d := 4) (mc := 0) (ms := 0) (i := 27) C0 V rfl LV_She_30 (T_jStr_charAt_27 l D g q w12  lx5 hI  (by have t1 : t0_0.toInt ≤ lx5.toInt + lx6.toInt := i8; have t2 : lx6.toInt ≤ lx5.toInt + t0_0.toInt := i9; omega) (by have t1 : lx5.toInt < 4 := b22; omega) _) rfl rfl rfl hl.1 rfl (Nat.le_of_ble_eq_true rfl) ⟨by decide, by decide⟩ ⟨Nat.le_of_ble_eq_true rfl, Nat.le_of_ble_eq_true rfl⟩ d_11_4_13) (fun a25 u23 H locs hp24 V => ?_)
    obtain ⟨rfl, b26, b27⟩ := hp24
    replace b26 : q_F (0 ≤ a25.toInt) := b26
    replace b27 : q_F (a25.toInt ≤ 255) := b27
    refine q_gov V (q_runV (As := [.int a25]) (rest := []) (d := 1) (mc := 0) (ms := 0) (ci := 1) C0 V rfl LV_She_34 (T_She_add l D g q w12 k1 R N K hB1 a25 hI lx6 hO13 (by have t1 : t0_0.toInt + 20 ≤ K.toInt := pre0; have t2 : lx5.toInt ≤ 4 := i7; have t3 : lx6.toInt ≤ lx5.toInt + t0_0.toInt := i9; omega) _) rfl rfl hO13 rfl hl.1 rfl (Nat.le_of_ble_eq_true rfl) ⟨by decide, by decide⟩ ⟨Nat.le_of_ble_eq_true rfl, Nat.le_of_ble_eq_true rfl⟩ d_11_4_16) (fun u29 H locs hp30 V => ?_)
    obtain ⟨hI, hu36, y32, hO31, b33, b34⟩ := hp30
    replace hO31 : u29[k1]? = (some (q k1, .inr (1, [.ref (q (k1 + 1)), .int R, .int y32])) : Option (Nat × va_E)) := hO31
    replace b33 : q_F (lx6.toInt + 1 ≤ y32.toInt) := b33
    replace b34 : q_F (y32.toInt ≤ lx6.toInt + 1) := b34
    replace hF := q_uc hF hu36 (by simp)
    obtain ⟨a37, e38⟩ := q_nm (lx5 + 1 : Int32)
    have b39 : q_F (a37.toInt = lx5.toInt + 1) := (by rw [← e38]; exact q_addI (y := 1) rfl (by decide) (by have t1 : t0_0.toInt ≤ lx5.toInt + lx6.toInt := i8; have t2 : lx6.toInt ≤ lx5.toInt + t0_0.toInt := i9; have t3 : lx5.toInt ≤ 4 := i7; omega) (by have t1 : t0_0.toInt ≤ lx5.toInt + lx6.toInt := i8; have t2 : lx6.toInt ≤ lx5.toInt + t0_0.toInt := i9; have t3 : lx5.toInt ≤ 4 := i7; omega))
    refine lv_iinc (v := a37) (lv' := [(2, .int a37), (0, .ref (q k1)), (1, .ref (g (8 + 2 * 27)))]) hx hb d_11_4_19 hl (k := 0) rfl (e38) (by decide) rfl (fun ls hl => ?_)
    refine lv_goto (tgt := 2) hx hb d_11_4_22 (by decide) ?_
    exact ih11 ((a37 : Int32), (y32 : Int32)) _ _ _ _ (show (4 - a37.toInt).toNat < (4 - lx5.toInt).toNat from by have t1 : a37.toInt = lx5.toInt + 1 := b39; have t2 : lx5.toInt ≤ 4 := i7; have t3 : lx5.toInt < 4 := b22; omega) ⟨(show q_F (a37.toInt ≤ 4) from (show a37.toInt ≤ 4 from by have t1 : lx5.toInt < 4 := b22; have t2 : a37.toInt = lx5.toInt + 1 := b39; omega)), (show q_F (t0_0.toInt ≤ a37.toInt + y32.toInt) from (show t0_0.toInt ≤ a37.toInt + y32.toInt from by have t1 : t0_0.toInt ≤ lx5.toInt + lx6.toInt := i8; have t2 : lx6.toInt + 1 ≤ y32.toInt := b33; have t3 : a37.toInt = lx5.toInt + 1 := b39; omega)), (show q_F (y32.toInt ≤ a37.toInt + t0_0.toInt) from (show y32.toInt ≤ a37.toInt + t0_0.toInt from by have t1 : lx6.toInt ≤ lx5.toInt + t0_0.toInt := i9; have t2 : y32.toInt ≤ lx6.toInt + 1 := b34; have t3 : a37.toInt = lx5.toInt + 1 := b39; omega)), (show q_F (a37.toInt + t0_0.toInt ≤ y32.toInt) from (show a37.toInt + t0_0.toInt ≤ y32.toInt from by have t1 : lx5.toInt + t0_0.toInt ≤ lx6.toInt := i10; have t2 : lx6.toInt + 1 ≤ y32.toInt := b33; have t3 : a37.toInt = lx5.toInt + 1 := b39; omega)), V, q_lw hl (q_lw1 0 rfl (q_lw1 1 rfl (q_lw1 2 rfl q_lw0))), hI, hF, hO31⟩
set_option maxRecDepth 100000 in
set_option maxHeartbeats 4000000 in
theorem T_She_addText_28 (l : Launch) (D : va_G) (g : Nat → ClassId) (q : Nat → Nat) (ws : va_W) (k1 : Nat) (R N K : Int32) (hB1 : q_isShe (nsh g q) g q k1 R N K) (hI : q_I (nsh g q) q ws) (t0_0 : Int32) (hT0 : ws[k1]? = (some (q k1, .inr (1, [.ref (q (k1 + 1)), .int R, .int t0_0])) : Option (Nat × va_E))) (pre0 : t0_0.toInt + 20 ≤ K.toInt) : q_mV l y_She_addText prog_11_method_4_code 3 5 0 0 D g [.ref (q k1), .ref (g (8 + 2 * 28))] ws (fun u => q_I (nsh g q) q u ∧ q_un ws u [k1, k1 + 1] ∧ ∃ (u0_0 : Int32), u[k1]? = (some (q k1, .inr (1, [.ref (q (k1 + 1)), .int R, .int u0_0])) : Option (Nat × va_E)) ∧ (t0_0.toInt + 4 ≤ u0_0.toInt) ∧ (u0_0.toInt ≤ t0_0.toInt + 4)) := by
  intro sz
  refine q_into (by decide) (Nat.le_of_ble_eq_true rfl) ?_
  intro p e s m below meth c ls hsz C0 V hl
  have hx := C0.1
  have hb := C0.2.1
  have hfk10 : q_F (0 ≤ R.toInt ∧ R.toInt ≤ 8 * N.toInt ∧ 0 ≤ N.toInt ∧ N.toInt ≤ 1376 ∧ 64 ≤ R.toInt ∧ 64 ≤ K.toInt ∧ K.toInt ≤ 1000000) := hB1.2.2.1
  obtain ⟨yy0_0, hh0, btt0_0⟩ := n_shO hI hB1
  obtain ⟨rfl⟩ : t0_0 = yy0_0 := by have z := Option.some.inj (hT0.symm.trans hh0); simpa using z
  replace btt0_0 : q_F (0 ≤ t0_0.toInt ∧ t0_0.toInt ≤ K.toInt) := btt0_0
  replace pre0 : q_F (t0_0.toInt + 20 ≤ K.toInt) := pre0
  have hF : q_un ws ws [k1, k1 + 1] := q_u0
  have hl : lv_has ls 3 [(0, .ref (q k1)), (1, .ref (g (8 + 2 * 28)))] := hl
  refine lv_iconst (v := 0) hx hb d_11_4_0 (by decide) ?_
  refine lv_istore_n (lv' := [(2, .int 0), (0, .ref (q k1)), (1, .ref (g (8 + 2 * 28)))]) hx hb d_11_4_1 rfl hl (by decide) rfl (fun ls hl => ?_)
  refine q_loop (X := Int32 × Int32) (fun z H locs ls w12 => q_F (z.1.toInt ≤ 4) ∧ q_F (t0_0.toInt ≤ z.1.toInt + z.2.toInt) ∧ q_F (z.2.toInt ≤ z.1.toInt + t0_0.toInt) ∧ q_F (z.1.toInt + t0_0.toInt ≤ z.2.toInt) ∧ q_Wd D g (va_A ws sz) s w12 H locs ∧ lv_has ls 3 [(2, .int z.1), (0, .ref (q k1)), (1, .ref (g (8 + 2 * 28)))] ∧ q_I (nsh g q) q w12 ∧ q_un ws w12 [k1, k1 + 1] ∧ w12[k1]? = (some (q k1, .inr (1, [.ref (q (k1 + 1)), .int R, .int z.2])) : Option (Nat × va_E))) (fun z => (4 - z.1.toInt).toNat) ?_ ((0 : Int32), (t0_0 : Int32)) _ _ _ ws ⟨(show q_F (0 ≤ 4) from (show 0 ≤ 4 from by omega)), (show q_F (t0_0.toInt ≤ 0 + t0_0.toInt) from (show t0_0.toInt ≤ 0 + t0_0.toInt from by omega)), (show q_F (t0_0.toInt ≤ 0 + t0_0.toInt) from (show t0_0.toInt ≤ 0 + t0_0.toInt from by omega)), (show q_F (0 + t0_0.toInt ≤ t0_0.toInt) from (show 0 + t0_0.toInt ≤ t0_0.toInt from by omega)), V, q_lw hl (q_lw1 0 rfl (q_lw1 1 rfl (q_lw1 2 rfl q_lw0))), hI, hF, hT0⟩
  rintro ⟨lx5, lx6⟩ H locs ls w12 ⟨i7, i8, i9, i10, V, hl, hI, hF, hO13⟩ ih11
  replace i7 : q_F (lx5.toInt ≤ 4) := i7
  replace i8 : q_F (t0_0.toInt ≤ lx5.toInt + lx6.toInt) := i8
  replace i9 : q_F (lx6.toInt ≤ lx5.toInt + t0_0.toInt) := i9
  replace i10 : q_F (lx5.toInt + t0_0.toInt ≤ lx6.toInt) := i10
  replace hl : lv_has ls 3 [(2, .int lx5), (0, .ref (q k1)), (1, .ref (g (8 + 2 * 28)))] := hl
  replace hO13 : w12[k1]? = (some (q k1, .inr (1, [.ref (q (k1 + 1)), .int R, .int lx6])) : Option (Nat × va_E)) := hO13
  refine lv_iload_n hx hb d_11_4_2 rfl (lv_at hl 0 rfl) ?_
  refine lv_aload_n hx hb d_11_4_3 rfl (lv_at hl 2 rfl) ?_
  refine q_goi V (q_runVs (As := []) (rest := [.int lx5]) (d := 2) (mc := 0) (ms := 0) (i := 28) C0 V rfl LV_She_24 (T_jStr_length_28 l D g q w12   hI   _) rfl rfl rfl hl.1 rfl (Nat.le_of_ble_eq_true rfl) ⟨by decide, by decide⟩ ⟨Nat.le_of_ble_eq_true rfl, Nat.le_of_ble_eq_true rfl⟩ d_11_4_4) (fun a16 u14 H locs hp15 V => ?_)
  obtain ⟨rfl, b17, b18⟩ := hp15
  replace b17 : q_F (4 ≤ a16.toInt) := b17
  replace b18 : q_F (a16.toInt ≤ 4) := b18
  obtain rfl : a16 = (4 : Int32) := q_Ieq (x := a16.toInt) (y := 4) rfl (by decide) (by have t1 : 4 ≤ a16.toInt := b17; have t2 : a16.toInt ≤ 4 := b18; omega)
  refine lv_icmp_ge (tgt := 25) hx hb d_11_4_7 (by decide) (fun c20 => ?_) (fun c20 => ?_)
  ·
    have b21 : q_F (4 ≤ lx5.toInt) := (q_leI c20)
    exact q_retv C0 V (⟨hI, hF, lx6, hO13, (show t0_0.toInt + 4 ≤ lx6.toInt from (by have t1 : lx5.toInt + t0_0.toInt ≤ lx6.toInt := i10; have t2 : 4 ≤ lx5.toInt := b21; omega)), (show lx6.toInt ≤ t0_0.toInt + 4 from (by have t1 : lx5.toInt ≤ 4 := i7; have t2 : lx6.toInt ≤ lx5.toInt + t0_0.toInt := i9; omega))⟩) d_11_4_25
  ·
    have b22 : q_F (lx5.toInt < 4) := (q_nleI c20)
    refine lv_aload_n hx hb d_11_4_10 rfl (lv_at hl 1 rfl) ?_
    refine lv_aload_n hx hb d_11_4_11 rfl (lv_at hl 2 rfl) ?_
    refine lv_iload_n hx hb d_11_4_12 rfl (lv_at hl 0 rfl) ?_
    refine q_goi V (q_runVs (As := [.int lx5]) (rest := [.ref (q k1)]) (d := 4) (mc := 0) (ms := 0) (i := 28) C0 V rfl LV_She_30 (T_jStr_charAt_28 l D g q w12  lx5 hI  (by have t1 : t0_0.toInt ≤ lx5.toInt + lx6.toInt := i8; have t2 : lx6.toInt ≤ lx5.toInt + t0_0.toInt := i9; omega) (by have t1 : lx5.toInt < 4 := b22; omega) _) rfl rfl rfl hl.1 rfl (Nat.le_of_ble_eq_true rfl) ⟨by decide, by decide⟩ ⟨Nat.le_of_ble_eq_true rfl, Nat.le_of_ble_eq_true rfl⟩ d_11_4_13) (fun a25 u23 H locs hp24 V => ?_)
    obtain ⟨rfl, b26, b27⟩ := hp24
    replace b26 : q_F (0 ≤ a25.toInt) := b26
    replace b27 : q_F (a25.toInt ≤ 255) := b27
    refine q_gov V (q_runV (As := [.int a25]) (rest := []) (d := 1) (mc := 0) (ms := 0) (ci := 1) C0 V rfl LV_She_34 (T_She_add l D g q w12 k1 R N K hB1 a25 hI lx6 hO13 (by have t1 : t0_0.toInt + 20 ≤ K.toInt := pre0; have t2 : lx5.toInt ≤ 4 := i7; have t3 : lx6.toInt ≤ lx5.toInt + t0_0.toInt := i9; omega) _) rfl rfl hO13 rfl hl.1 rfl (Nat.le_of_ble_eq_true rfl) ⟨by decide, by decide⟩ ⟨Nat.le_of_ble_eq_true rfl, Nat.le_of_ble_eq_true rfl⟩ d_11_4_16) (fun u29 H locs hp30 V => ?_)
    obtain ⟨hI, hu36, y32, hO31, b33, b34⟩ := hp30
    replace hO31 : u29[k1]? = (some (q k1, .inr (1, [.ref (q (k1 + 1)), .int R, .int y32])) : Option (Nat × va_E)) := hO31
    replace b33 : q_F (lx6.toInt + 1 ≤ y32.toInt) := b33
    replace b34 : q_F (y32.toInt ≤ lx6.toInt + 1) := b34
    replace hF := q_uc hF hu36 (by simp)
    obtain ⟨a37, e38⟩ := q_nm (lx5 + 1 : Int32)
    have b39 : q_F (a37.toInt = lx5.toInt + 1) := (by rw [← e38]; exact q_addI (y := 1) rfl (by decide) (by have t1 : t0_0.toInt ≤ lx5.toInt + lx6.toInt := i8; have t2 : lx6.toInt ≤ lx5.toInt + t0_0.toInt := i9; have t3 : lx5.toInt ≤ 4 := i7; omega) (by have t1 : t0_0.toInt ≤ lx5.toInt + lx6.toInt := i8; have t2 : lx6.toInt ≤ lx5.toInt + t0_0.toInt := i9; have t3 : lx5.toInt ≤ 4 := i7; omega))
    refine lv_iinc (v := a37) (lv' := [(2, .int a37), (0, .ref (q k1)), (1, .ref (g (8 + 2 * 28)))]) hx hb d_11_4_19 hl (k := 0) rfl (e38) (by decide) rfl (fun ls hl => ?_)
    refine lv_goto (tgt := 2) hx hb d_11_4_22 (by decide) ?_
    exact ih11 ((a37 : Int32), (y32 : Int32)) _ _ _ _ (show (4 - a37.toInt).toNat < (4 - lx5.toInt).toNat from by have t1 : a37.toInt = lx5.toInt + 1 := b39; have t2 : lx5.toInt ≤ 4 := i7; have t3 : lx5.toInt < 4 := b22; omega) ⟨(show q_F (a37.toInt ≤ 4) from (show a37.toInt ≤ 4 from by have t1 : lx5.toInt < 4 := b22; have t2 : a37.toInt = lx5.toInt + 1 := b39; omega)), (show q_F (t0_0.toInt ≤ a37.toInt + y32.toInt) from (show t0_0.toInt ≤ a37.toInt + y32.toInt from by have t1 : t0_0.toInt ≤ lx5.toInt + lx6.toInt := i8; have t2 : lx6.toInt + 1 ≤ y32.toInt := b33; have t3 : a37.toInt = lx5.toInt + 1 := b39; omega)), (show q_F (y32.toInt ≤ a37.toInt + t0_0.toInt) from (show y32.toInt ≤ a37.toInt + t0_0.toInt from by have t1 : lx6.toInt ≤ lx5.toInt + t0_0.toInt := i9; have t2 : y32.toInt ≤ lx6.toInt + 1 := b34; have t3 : a37.toInt = lx5.toInt + 1 := b39; omega)), (show q_F (a37.toInt + t0_0.toInt ≤ y32.toInt) from (show a37.toInt + t0_0.toInt ≤ y32.toInt from by have t1 : lx5.toInt + t0_0.toInt ≤ lx6.toInt := i10; have t2 : lx6.toInt + 1 ≤ y32.toInt := b33; have t3 : a37.toInt = lx5.toInt + 1 := b39; omega)), V, q_lw hl (q_lw1 0 rfl (q_lw1 1 rfl (q_lw1 2 rfl q_lw0))), hI, hF, hO31⟩
theorem d_9_16_0 : decode prog_9_method_16_code 0 = .ok (.iload_n 2, 1) := by decide +kernel
theorem d_9_16_1 : decode prog_9_method_16_code 1 = .ok (.istore 4, 2) := by decide +kernel
theorem d_9_16_3 : decode prog_9_method_16_code 3 = .ok (.iload 4, 2) := by decide +kernel
theorem d_9_16_5 : decode prog_9_method_16_code 5 = .ok (.iload_n 3, 1) := by decide +kernel
theorem d_9_16_6 : decode prog_9_method_16_code 6 = .ok (.if_icmp .ge 20, 3) := by decide +kernel
theorem d_9_16_26 : decode prog_9_method_16_code 26 = .ok (.return_, 1) := by decide +kernel
theorem d_9_16_9 : decode prog_9_method_16_code 9 = .ok (.aload_n 0, 1) := by decide +kernel
theorem d_9_16_10 : decode prog_9_method_16_code 10 = .ok (.aload_n 1, 1) := by decide +kernel
theorem d_9_16_11 : decode prog_9_method_16_code 11 = .ok (.iload 4, 2) := by decide +kernel
theorem d_9_16_13 : decode prog_9_method_16_code 13 = .ok (.i2l, 1) := by decide +kernel
theorem d_9_16_14 : decode prog_9_method_16_code 14 = .ok (.invokevirtual 93, 3) := by decide +kernel
set_option maxRecDepth 100000 in
theorem w_1720 : (Cond.methodLink "NumberHouse$Printer" (93 : Nat) ({ cls := "NumberHouse$Sheet", name := "at", desc := "(J)I" } : MethodName)) ∈ q_tbl := q_of8 40 rfl (by decide +kernel)
theorem LV_Pri_93 : q_LV "NumberHouse$Printer" 93 y_She_at prog_11_method_8_code 3 (some .int) 1 := ⟨w_482, w_2, w_1720, w_480, w_481, ⟨by decide, by decide, by decide +kernel⟩⟩
theorem d_9_16_17 : decode prog_9_method_16_code 17 = .ok (.invokevirtual 113, 3) := by decide +kernel
set_option maxRecDepth 100000 in
theorem w_1721 : (Cond.methodLink "NumberHouse$Printer" (113 : Nat) ({ cls := "NumberHouse$Sheet", name := "add", desc := "(I)V" } : MethodName)) ∈ q_tbl := q_of8 41 rfl (by decide +kernel)
theorem LV_Pri_113 : q_LV "NumberHouse$Printer" 113 y_She_add prog_11_method_3_code 3 none 1 := ⟨w_564, w_2, w_1721, w_562, w_563, ⟨by decide, by decide, by decide +kernel⟩⟩
theorem d_9_16_20 : decode prog_9_method_16_code 20 = .ok (.iinc 4 1, 3) := by decide +kernel
theorem d_9_16_23 : decode prog_9_method_16_code 23 = .ok (.goto (-20), 3) := by decide +kernel
def y_Pri_copyInto : MethodName := ⟨"NumberHouse$Printer", "copyInto", "(LNumberHouse$Sheet;LNumberHouse$Sheet;II)V"⟩
set_option maxRecDepth 100000 in
set_option maxHeartbeats 4000000 in
theorem T_Pri_copyInto (l : Launch) (D : va_G) (g : Nat → ClassId) (q : Nat → Nat) (ws : va_W) (k1 : Nat) (R N K : Int32) (hB1 : q_isShe (nsh g q) g q k1 R N K) (k2 : Nat) (R2 N2 K2 : Int32) (hB2 : q_isShe (nsh g q) g q k2 R2 N2 K2) (x3 : Int32) (x4 : Int32) (hI : q_I (nsh g q) q ws) (t0_0 : Int32) (hT0 : ws[k1]? = (some (q k1, .inr (1, [.ref (q (k1 + 1)), .int R, .int t0_0])) : Option (Nat × va_E))) (pre0 : 0 ≤ x3.toInt) (pre1 : 0 ≤ x4.toInt) (pre2 : t0_0.toInt + x4.toInt ≤ x3.toInt + K.toInt) : q_mV l y_Pri_copyInto prog_9_method_16_code 5 2 0 0 D g [.ref (q k1), .ref (q k2), .int x3, .int x4] ws (fun u => q_I (nsh g q) q u ∧ q_un ws u [k1, k1 + 1] ∧ ∃ (u0_0 : Int32), u[k1]? = (some (q k1, .inr (1, [.ref (q (k1 + 1)), .int R, .int u0_0])) : Option (Nat × va_E)) ∧ (t0_0.toInt ≤ u0_0.toInt) ∧ (u0_0.toInt ≤ K.toInt) ∧ (u0_0.toInt ≤ t0_0.toInt + x4.toInt)) := by
  intro sz
  refine q_into (by decide) (Nat.le_of_ble_eq_true rfl) ?_
  intro p e s m below meth c ls hsz C0 V hl
  have hx := C0.1
  have hb := C0.2.1
  have hfk10 : q_F (0 ≤ R.toInt ∧ R.toInt ≤ 8 * N.toInt ∧ 0 ≤ N.toInt ∧ N.toInt ≤ 1376 ∧ 64 ≤ R.toInt ∧ 64 ≤ K.toInt ∧ K.toInt ≤ 1000000) := hB1.2.2.1
  have hfk20 : q_F (0 ≤ R2.toInt ∧ R2.toInt ≤ 8 * N2.toInt ∧ 0 ≤ N2.toInt ∧ N2.toInt ≤ 1376 ∧ 64 ≤ R2.toInt ∧ 64 ≤ K2.toInt ∧ K2.toInt ≤ 1000000) := hB2.2.2.1
  obtain ⟨yy0_0, hh0, btt0_0⟩ := n_shO hI hB1
  obtain ⟨rfl⟩ : t0_0 = yy0_0 := by have z := Option.some.inj (hT0.symm.trans hh0); simpa using z
  replace btt0_0 : q_F (0 ≤ t0_0.toInt ∧ t0_0.toInt ≤ K.toInt) := btt0_0
  replace pre0 : q_F (0 ≤ x3.toInt) := pre0
  replace pre1 : q_F (0 ≤ x4.toInt) := pre1
  replace pre2 : q_F (t0_0.toInt + x4.toInt ≤ x3.toInt + K.toInt) := pre2
  have hF : q_un ws ws [k1, k1 + 1] := q_u0
  have hl : lv_has ls 5 [(0, .ref (q k1)), (1, .ref (q k2)), (2, .int x3), (3, .int x4)] := hl
  refine lv_iload_n hx hb d_9_16_0 rfl (lv_at hl 2 rfl) ?_
  refine lv_istore (lv' := [(4, .int x3), (0, .ref (q k1)), (1, .ref (q k2)), (2, .int x3), (3, .int x4)]) hx hb d_9_16_1 hl (by decide) rfl (fun ls hl => ?_)
  refine q_loop (X := Int32 × Int32) (fun z H locs ls w13 => q_F (z.2.toInt ≤ K.toInt) ∧ q_F (z.1.toInt ≤ x3.toInt + x4.toInt) ∧ q_F (x3.toInt + t0_0.toInt ≤ z.1.toInt + z.2.toInt) ∧ q_F (z.2.toInt + x3.toInt ≤ z.1.toInt + t0_0.toInt) ∧ q_F (z.1.toInt + t0_0.toInt ≤ z.2.toInt + x3.toInt) ∧ q_Wd D g (va_A ws sz) s w13 H locs ∧ lv_has ls 5 [(4, .int z.1), (0, .ref (q k1)), (1, .ref (q k2)), (3, .int x4)] ∧ q_I (nsh g q) q w13 ∧ q_un ws w13 [k1, k1 + 1] ∧ w13[k1]? = (some (q k1, .inr (1, [.ref (q (k1 + 1)), .int R, .int z.2])) : Option (Nat × va_E))) (fun z => (x4.toInt - z.1.toInt).toNat) ?_ ((x3 : Int32), (t0_0 : Int32)) _ _ _ ws ⟨(show q_F (t0_0.toInt ≤ K.toInt) from (show t0_0.toInt ≤ K.toInt from by have t1 : 0 ≤ t0_0.toInt ∧ t0_0.toInt ≤ K.toInt := btt0_0; omega)), (show q_F (x3.toInt ≤ x3.toInt + x4.toInt) from (show x3.toInt ≤ x3.toInt + x4.toInt from by have t1 : 0 ≤ x4.toInt := pre1; omega)), (show q_F (x3.toInt + t0_0.toInt ≤ x3.toInt + t0_0.toInt) from (show x3.toInt + t0_0.toInt ≤ x3.toInt + t0_0.toInt from by omega)), (show q_F (t0_0.toInt + x3.toInt ≤ x3.toInt + t0_0.toInt) from (show t0_0.toInt + x3.toInt ≤ x3.toInt + t0_0.toInt from by omega)), (show q_F (x3.toInt + t0_0.toInt ≤ t0_0.toInt + x3.toInt) from (show x3.toInt + t0_0.toInt ≤ t0_0.toInt + x3.toInt from by omega)), V, q_lw hl (q_lw1 0 rfl (q_lw1 1 rfl (q_lw1 2 rfl (q_lw1 4 rfl q_lw0)))), hI, hF, hT0⟩
  rintro ⟨lx5, lx6⟩ H locs ls w13 ⟨i7, i8, i9, i10, i11, V, hl, hI, hF, hO14⟩ ih12
  replace i7 : q_F (lx6.toInt ≤ K.toInt) := i7
  replace i8 : q_F (lx5.toInt ≤ x3.toInt + x4.toInt) := i8
  replace i9 : q_F (x3.toInt + t0_0.toInt ≤ lx5.toInt + lx6.toInt) := i9
  replace i10 : q_F (lx6.toInt + x3.toInt ≤ lx5.toInt + t0_0.toInt) := i10
  replace i11 : q_F (lx5.toInt + t0_0.toInt ≤ lx6.toInt + x3.toInt) := i11
  replace hl : lv_has ls 5 [(4, .int lx5), (0, .ref (q k1)), (1, .ref (q k2)), (3, .int x4)] := hl
  replace hO14 : w13[k1]? = (some (q k1, .inr (1, [.ref (q (k1 + 1)), .int R, .int lx6])) : Option (Nat × va_E)) := hO14
  refine lv_iload hx hb d_9_16_3 (lv_at hl 0 rfl) ?_
  refine lv_iload_n hx hb d_9_16_5 rfl (lv_at hl 3 rfl) ?_
  refine lv_icmp_ge (tgt := 26) hx hb d_9_16_6 (by decide) (fun c15 => ?_) (fun c15 => ?_)
  ·
    have b16 : q_F (x4.toInt ≤ lx5.toInt) := (q_leI c15)
    exact q_retv C0 V (⟨hI, hF, lx6, hO14, (show t0_0.toInt ≤ lx6.toInt from (by have t1 : x3.toInt + t0_0.toInt ≤ lx5.toInt + lx6.toInt := i9; have t2 : lx5.toInt + t0_0.toInt ≤ lx6.toInt + x3.toInt := i11; omega)), (show lx6.toInt ≤ K.toInt from (by have t1 : lx6.toInt ≤ K.toInt := i7; omega)), (show lx6.toInt ≤ t0_0.toInt + x4.toInt from (by have t1 : lx5.toInt ≤ x3.toInt + x4.toInt := i8; have t2 : lx6.toInt + x3.toInt ≤ lx5.toInt + t0_0.toInt := i10; omega))⟩) d_9_16_26
  ·
    have b17 : q_F (lx5.toInt < x4.toInt) := (q_nleI c15)
    refine lv_aload_n hx hb d_9_16_9 rfl (lv_at hl 1 rfl) ?_
    refine lv_aload_n hx hb d_9_16_10 rfl (lv_at hl 2 rfl) ?_
    refine lv_iload hx hb d_9_16_11 (lv_at hl 0 rfl) ?_
    refine lv_i2l hx hb d_9_16_13 rfl ?_
    obtain ⟨j18, e19⟩ := q_nm (lx5.toInt64 : Int64)
    refine q_tl (v := j18) e19 ?_
    have b20 : q_F (j18.toInt = lx5.toInt) := (by rw [← e19]; show (lx5.toInt64 : Int64).toInt = lx5.toInt; exact q_i2l rfl)
    obtain ⟨y22, hO21, b23⟩ := n_shO hI hB2
    replace b23 : q_F (0 ≤ y22.toInt ∧ y22.toInt ≤ K2.toInt) := b23
    refine q_goi V (q_runV (As := [.long j18]) (rest := [.ref (q k1)]) (d := 1) (mc := 0) (ms := 0) (ci := 1) C0 V rfl LV_Pri_93 (T_She_at l D g q w13 k2 R2 N2 K2 hB2 j18 hI   _) rfl rfl hO21 rfl hl.1 rfl (Nat.le_of_ble_eq_true rfl) ⟨by decide, by decide⟩ ⟨Nat.le_of_ble_eq_true rfl, Nat.le_of_ble_eq_true rfl⟩ d_9_16_14) (fun a26 u24 H locs hp25 V => ?_)
    obtain ⟨rfl, b27, b28, pu29⟩ := hp25
    replace b27 : q_F (0 ≤ a26.toInt) := b27
    replace b28 : q_F (a26.toInt ≤ 255) := b28
    obtain ⟨f31, hA32⟩ := n_al hI hB1.2.1
    have ne33 := q_df hA32 hO21
    refine q_gov V (q_runV (As := [.int a26]) (rest := []) (d := 1) (mc := 0) (ms := 0) (ci := 1) C0 V rfl LV_Pri_113 (T_She_add l D g q w13 k1 R N K hB1 a26 hI lx6 hO14 (by have t1 : t0_0.toInt + x4.toInt ≤ x3.toInt + K.toInt := pre2; have t2 : lx6.toInt + x3.toInt ≤ lx5.toInt + t0_0.toInt := i10; have t3 : lx5.toInt < x4.toInt := b17; omega) _) rfl rfl hO14 rfl hl.1 rfl (Nat.le_of_ble_eq_true rfl) ⟨by decide, by decide⟩ ⟨Nat.le_of_ble_eq_true rfl, Nat.le_of_ble_eq_true rfl⟩ d_9_16_17) (fun u34 H locs hp35 V => ?_)
    obtain ⟨hI, hu41, y37, hO36, b38, b39⟩ := hp35
    replace hO36 : u34[k1]? = (some (q k1, .inr (1, [.ref (q (k1 + 1)), .int R, .int y37])) : Option (Nat × va_E)) := hO36
    replace b38 : q_F (lx6.toInt + 1 ≤ y37.toInt) := b38
    replace b39 : q_F (y37.toInt ≤ lx6.toInt + 1) := b39
    replace hF := q_uc hF hu41 (by simp)
    obtain ⟨a42, e43⟩ := q_nm (lx5 + 1 : Int32)
    have b44 : q_F (a42.toInt = lx5.toInt + 1) := (by rw [← e43]; exact q_addI (y := 1) rfl (by decide) (by have _ := q_lo32 (x := lx5); have _ := q_hi32 (x := lx5); have t1 : lx5.toInt < x4.toInt := b17; have _ := q_lo32 (x := x4); have _ := q_hi32 (x := x4); omega) (by have _ := q_lo32 (x := lx5); have _ := q_hi32 (x := lx5); have t1 : lx5.toInt < x4.toInt := b17; have _ := q_lo32 (x := x4); have _ := q_hi32 (x := x4); omega))
    refine lv_iinc (v := a42) (lv' := [(4, .int a42), (0, .ref (q k1)), (1, .ref (q k2)), (3, .int x4)]) hx hb d_9_16_20 hl (k := 0) rfl (e43) (by decide) rfl (fun ls hl => ?_)
    refine lv_goto (tgt := 3) hx hb d_9_16_23 (by decide) ?_
    exact ih12 ((a42 : Int32), (y37 : Int32)) _ _ _ _ (show (x4.toInt - a42.toInt).toNat < (x4.toInt - lx5.toInt).toNat from by have t1 : a42.toInt = lx5.toInt + 1 := b44; have t2 : lx5.toInt < x4.toInt := b17; omega) ⟨(show q_F (y37.toInt ≤ K.toInt) from (show y37.toInt ≤ K.toInt from by have t1 : t0_0.toInt + x4.toInt ≤ x3.toInt + K.toInt := pre2; have t2 : lx6.toInt + x3.toInt ≤ lx5.toInt + t0_0.toInt := i10; have t3 : lx5.toInt < x4.toInt := b17; have t4 : y37.toInt ≤ lx6.toInt + 1 := b39; omega)), (show q_F (a42.toInt ≤ x3.toInt + x4.toInt) from (show a42.toInt ≤ x3.toInt + x4.toInt from by have t1 : 0 ≤ x3.toInt := pre0; have t2 : lx5.toInt < x4.toInt := b17; have t3 : a42.toInt = lx5.toInt + 1 := b44; omega)), (show q_F (x3.toInt + t0_0.toInt ≤ a42.toInt + y37.toInt) from (show x3.toInt + t0_0.toInt ≤ a42.toInt + y37.toInt from by have t1 : x3.toInt + t0_0.toInt ≤ lx5.toInt + lx6.toInt := i9; have t2 : lx6.toInt + 1 ≤ y37.toInt := b38; have t3 : a42.toInt = lx5.toInt + 1 := b44; omega)), (show q_F (y37.toInt + x3.toInt ≤ a42.toInt + t0_0.toInt) from (show y37.toInt + x3.toInt ≤ a42.toInt + t0_0.toInt from by have t1 : lx6.toInt + x3.toInt ≤ lx5.toInt + t0_0.toInt := i10; have t2 : y37.toInt ≤ lx6.toInt + 1 := b39; have t3 : a42.toInt = lx5.toInt + 1 := b44; omega)), (show q_F (a42.toInt + t0_0.toInt ≤ y37.toInt + x3.toInt) from (show a42.toInt + t0_0.toInt ≤ y37.toInt + x3.toInt from by have t1 : lx5.toInt + t0_0.toInt ≤ lx6.toInt + x3.toInt := i11; have t2 : lx6.toInt + 1 ≤ y37.toInt := b38; have t3 : a42.toInt = lx5.toInt + 1 := b44; omega)), V, q_lw hl (q_lw1 0 rfl (q_lw1 1 rfl (q_lw1 2 rfl (q_lw1 3 rfl q_lw0)))), hI, hF, hO36⟩
theorem d_9_17_0 : decode prog_9_method_17_code 0 = .ok (.iload_n 1, 1) := by decide +kernel
theorem d_9_17_1 : decode prog_9_method_17_code 1 = .ok (.istore_n 2, 1) := by decide +kernel
theorem d_9_17_2 : decode prog_9_method_17_code 2 = .ok (.iload_n 2, 1) := by decide +kernel
theorem d_9_17_3 : decode prog_9_method_17_code 3 = .ok (.aload_n 0, 1) := by decide +kernel
theorem d_9_17_4 : decode prog_9_method_17_code 4 = .ok (.getfield 73, 3) := by decide +kernel
set_option maxRecDepth 100000 in
theorem w_58 : (Cond.fieldLink "NumberHouse$Printer" (73 : Nat) "NumberHouse$Sheet" "size" "I") ∈ q_tbl := q_of1 58 rfl (by decide +kernel)
theorem d_9_17_7 : decode prog_9_method_17_code 7 = .ok (.if_icmp .ge 37, 3) := by decide +kernel
theorem d_9_17_44 : decode prog_9_method_17_code 44 = .ok (.return_, 1) := by decide +kernel
theorem d_9_17_10 : decode prog_9_method_17_code 10 = .ok (.aload_n 0, 1) := by decide +kernel
theorem d_9_17_11 : decode prog_9_method_17_code 11 = .ok (.iload_n 2, 1) := by decide +kernel
theorem d_9_17_12 : decode prog_9_method_17_code 12 = .ok (.i2l, 1) := by decide +kernel
theorem d_9_17_13 : decode prog_9_method_17_code 13 = .ok (.invokevirtual 93, 3) := by decide +kernel
theorem d_9_17_16 : decode prog_9_method_17_code 16 = .ok (.istore_n 3, 1) := by decide +kernel
theorem d_9_17_17 : decode prog_9_method_17_code 17 = .ok (.iload_n 3, 1) := by decide +kernel
theorem d_9_17_18 : decode prog_9_method_17_code 18 = .ok (.bipush 97, 2) := by decide +kernel
theorem d_9_17_20 : decode prog_9_method_17_code 20 = .ok (.if_icmp .lt 18, 3) := by decide +kernel
theorem d_9_17_38 : decode prog_9_method_17_code 38 = .ok (.iinc 2 1, 3) := by decide +kernel
theorem d_9_17_41 : decode prog_9_method_17_code 41 = .ok (.goto (-39), 3) := by decide +kernel
theorem d_9_17_23 : decode prog_9_method_17_code 23 = .ok (.iload_n 3, 1) := by decide +kernel
theorem d_9_17_24 : decode prog_9_method_17_code 24 = .ok (.bipush 122, 2) := by decide +kernel
theorem d_9_17_26 : decode prog_9_method_17_code 26 = .ok (.if_icmp .gt 12, 3) := by decide +kernel
theorem d_9_17_29 : decode prog_9_method_17_code 29 = .ok (.aload_n 0, 1) := by decide +kernel
theorem d_9_17_30 : decode prog_9_method_17_code 30 = .ok (.iload_n 2, 1) := by decide +kernel
theorem d_9_17_31 : decode prog_9_method_17_code 31 = .ok (.iload_n 3, 1) := by decide +kernel
theorem d_9_17_32 : decode prog_9_method_17_code 32 = .ok (.bipush 32, 2) := by decide +kernel
theorem d_9_17_34 : decode prog_9_method_17_code 34 = .ok (.isub, 1) := by decide +kernel
theorem d_9_17_35 : decode prog_9_method_17_code 35 = .ok (.invokevirtual 243, 3) := by decide +kernel
set_option maxRecDepth 100000 in
theorem w_1908 : (Cond.methodLink "NumberHouse$Printer" (243 : Nat) ({ cls := "NumberHouse$Sheet", name := "replace", desc := "(II)V" } : MethodName)) ∈ q_tbl := q_of8 228 rfl (by decide +kernel)
theorem LV_Pri_243 : q_LV "NumberHouse$Printer" 243 y_She_replace prog_11_method_9_code 3 none 2 := ⟨w_1560, w_2, w_1908, w_1558, w_1559, ⟨by decide, by decide, by decide +kernel⟩⟩
def y_Pri_enlarge : MethodName := ⟨"NumberHouse$Printer", "enlarge", "(LNumberHouse$Sheet;I)V"⟩
set_option maxRecDepth 100000 in
set_option maxHeartbeats 4000000 in
theorem T_Pri_enlarge (l : Launch) (D : va_G) (g : Nat → ClassId) (q : Nat → Nat) (ws : va_W) (k1 : Nat) (R N K : Int32) (hB1 : q_isShe (nsh g q) g q k1 R N K) (x2 : Int32) (hI : q_I (nsh g q) q ws) (t0_0 : Int32) (hT0 : ws[k1]? = (some (q k1, .inr (1, [.ref (q (k1 + 1)), .int R, .int t0_0])) : Option (Nat × va_E))) : q_mV l y_Pri_enlarge prog_9_method_17_code 4 3 0 0 D g [.ref (q k1), .int x2] ws (fun u => q_I (nsh g q) q u ∧ q_un ws u [k1 + 1] ∧ True) := by
  intro sz
  refine q_into (by decide) (Nat.le_of_ble_eq_true rfl) ?_
  intro p e s m below meth c ls hsz C0 V hl
  have hx := C0.1
  have hb := C0.2.1
  have hfk10 : q_F (0 ≤ R.toInt ∧ R.toInt ≤ 8 * N.toInt ∧ 0 ≤ N.toInt ∧ N.toInt ≤ 1376 ∧ 64 ≤ R.toInt ∧ 64 ≤ K.toInt ∧ K.toInt ≤ 1000000) := hB1.2.2.1
  obtain ⟨yy0_0, hh0, btt0_0⟩ := n_shO hI hB1
  obtain ⟨rfl⟩ : t0_0 = yy0_0 := by have z := Option.some.inj (hT0.symm.trans hh0); simpa using z
  replace btt0_0 : q_F (0 ≤ t0_0.toInt ∧ t0_0.toInt ≤ K.toInt) := btt0_0
  have hF : q_un ws ws [k1 + 1] := q_u0
  have hl : lv_has ls 4 [(0, .ref (q k1)), (1, .int x2)] := hl
  refine lv_iload_n hx hb d_9_17_0 rfl (lv_at hl 1 rfl) ?_
  refine lv_istore_n (lv' := [(2, .int x2), (0, .ref (q k1)), (1, .int x2)]) hx hb d_9_17_1 rfl hl (by decide) rfl (fun ls hl => ?_)
  refine q_loop (X := Int32) (fun z H locs ls w7 => q_F (x2.toInt ≤ z.toInt) ∧ q_Wd D g (va_A ws sz) s w7 H locs ∧ lv_has ls 4 [(2, .int z), (0, .ref (q k1))] ∧ q_I (nsh g q) q w7 ∧ q_un ws w7 [k1 + 1] ∧ w7[k1]? = (some (q k1, .inr (1, [.ref (q (k1 + 1)), .int R, .int t0_0])) : Option (Nat × va_E))) (fun z => (1000000 - z.toInt).toNat) ?_ ((x2 : Int32)) _ _ _ ws ⟨(show q_F (x2.toInt ≤ x2.toInt) from (show x2.toInt ≤ x2.toInt from by omega)), V, q_lw hl (q_lw1 0 rfl (q_lw1 1 rfl q_lw0)), hI, hF, hT0⟩
  rintro lx4 H locs ls w7 ⟨i5, V, hl, hI, hF, hO8⟩ ih6
  replace i5 : q_F (x2.toInt ≤ lx4.toInt) := i5
  replace hl : lv_has ls 4 [(2, .int lx4), (0, .ref (q k1))] := hl
  replace hO8 : w7[k1]? = (some (q k1, .inr (1, [.ref (q (k1 + 1)), .int R, .int t0_0])) : Option (Nat × va_E)) := hO8
  refine lv_iload_n hx hb d_9_17_2 rfl (lv_at hl 0 rfl) ?_
  refine lv_aload_n hx hb d_9_17_3 rfl (lv_at hl 1 rfl) ?_
  refine q_get (ci := 1) (j := 2) (v := .int t0_0) C0 V i_She rfl rfl hO8 (by decide) w_58 rfl d_9_17_4 ?_
  refine lv_icmp_ge (tgt := 44) hx hb d_9_17_7 (by decide) (fun c9 => ?_) (fun c9 => ?_)
  ·
    have b10 : q_F (t0_0.toInt ≤ lx4.toInt) := (q_leI c9)
    exact q_retv C0 V (⟨hI, hF, trivial⟩) d_9_17_44
  ·
    have b11 : q_F (lx4.toInt < t0_0.toInt) := (q_nleI c9)
    refine lv_aload_n hx hb d_9_17_10 rfl (lv_at hl 1 rfl) ?_
    refine lv_iload_n hx hb d_9_17_11 rfl (lv_at hl 0 rfl) ?_
    refine lv_i2l hx hb d_9_17_12 rfl ?_
    obtain ⟨j12, e13⟩ := q_nm (lx4.toInt64 : Int64)
    refine q_tl (v := j12) e13 ?_
    have b14 : q_F (j12.toInt = lx4.toInt) := (by rw [← e13]; show (lx4.toInt64 : Int64).toInt = lx4.toInt; exact q_i2l rfl)
    refine q_goi V (q_runV (As := [.long j12]) (rest := []) (d := 1) (mc := 0) (ms := 0) (ci := 1) C0 V rfl LV_Pri_93 (T_She_at l D g q w7 k1 R N K hB1 j12 hI   _) rfl rfl hO8 rfl hl.1 rfl (Nat.le_of_ble_eq_true rfl) ⟨by decide, by decide⟩ ⟨Nat.le_of_ble_eq_true rfl, Nat.le_of_ble_eq_true rfl⟩ d_9_17_13) (fun a17 u15 H locs hp16 V => ?_)
    obtain ⟨rfl, b18, b19, pu20⟩ := hp16
    replace b18 : q_F (0 ≤ a17.toInt) := b18
    replace b19 : q_F (a17.toInt ≤ 255) := b19
    refine lv_istore_n (lv' := [(3, .int a17), (2, .int lx4), (0, .ref (q k1))]) hx hb d_9_17_16 rfl hl (by decide) rfl (fun ls hl => ?_)
    refine lv_iload_n hx hb d_9_17_17 rfl (lv_at hl 0 rfl) ?_
    refine lv_bipush (v := 97) hx hb d_9_17_18 (by decide) ?_
    refine lv_icmp_lt (tgt := 38) hx hb d_9_17_20 (by decide) (fun c22 => ?_) (fun c22 => ?_)
    ·
      have b23 : q_F (a17.toInt < 97) := (q_ltI c22)
      obtain ⟨a24, e25⟩ := q_nm (lx4 + 1 : Int32)
      have b26 : q_F (a24.toInt = lx4.toInt + 1) := (by rw [← e25]; exact q_addI (y := 1) rfl (by decide) (by have _ := q_lo32 (x := lx4); have _ := q_hi32 (x := lx4); have t1 : lx4.toInt < t0_0.toInt := b11; have _ := q_lo32 (x := t0_0); have _ := q_hi32 (x := t0_0); omega) (by have _ := q_lo32 (x := lx4); have _ := q_hi32 (x := lx4); have t1 : lx4.toInt < t0_0.toInt := b11; have _ := q_lo32 (x := t0_0); have _ := q_hi32 (x := t0_0); omega))
      refine lv_iinc (v := a24) (lv' := [(2, .int a24), (3, .int a17), (0, .ref (q k1))]) hx hb d_9_17_38 hl (k := 1) rfl (e25) (by decide) rfl (fun ls hl => ?_)
      refine lv_goto (tgt := 2) hx hb d_9_17_41 (by decide) ?_
      exact ih6 ((a24 : Int32)) _ _ _ _ (show (1000000 - a24.toInt).toNat < (1000000 - lx4.toInt).toNat from by have t1 : a24.toInt = lx4.toInt + 1 := b26; have t2 : 0 ≤ R.toInt ∧ R.toInt ≤ 8 * N.toInt ∧ 0 ≤ N.toInt ∧ N.toInt ≤ 1376 ∧ 64 ≤ R.toInt ∧ 64 ≤ K.toInt ∧ K.toInt ≤ 1000000 := hfk10; have t3 : 0 ≤ t0_0.toInt ∧ t0_0.toInt ≤ K.toInt := btt0_0; have t4 : lx4.toInt < t0_0.toInt := b11; omega) ⟨(show q_F (x2.toInt ≤ a24.toInt) from (show x2.toInt ≤ a24.toInt from by have t1 : x2.toInt ≤ lx4.toInt := i5; have t2 : a24.toInt = lx4.toInt + 1 := b26; omega)), V, q_lw hl (q_lw1 0 rfl (q_lw1 2 rfl q_lw0)), hI, hF, hO8⟩
    ·
      have b27 : q_F (97 ≤ a17.toInt) := (q_nltI c22)
      refine lv_iload_n hx hb d_9_17_23 rfl (lv_at hl 0 rfl) ?_
      refine lv_bipush (v := 122) hx hb d_9_17_24 (by decide) ?_
      refine lv_icmp_gt (tgt := 38) hx hb d_9_17_26 (by decide) (fun c28 => ?_) (fun c28 => ?_)
      ·
        have b29 : q_F (122 < a17.toInt) := (q_ltI c28)
        obtain ⟨a30, e31⟩ := q_nm (lx4 + 1 : Int32)
        have b32 : q_F (a30.toInt = lx4.toInt + 1) := (by rw [← e31]; exact q_addI (y := 1) rfl (by decide) (by have _ := q_lo32 (x := lx4); have _ := q_hi32 (x := lx4); have t1 : lx4.toInt < t0_0.toInt := b11; have _ := q_lo32 (x := t0_0); have _ := q_hi32 (x := t0_0); omega) (by have _ := q_lo32 (x := lx4); have _ := q_hi32 (x := lx4); have t1 : lx4.toInt < t0_0.toInt := b11; have _ := q_lo32 (x := t0_0); have _ := q_hi32 (x := t0_0); omega))
        refine lv_iinc (v := a30) (lv' := [(2, .int a30), (3, .int a17), (0, .ref (q k1))]) hx hb d_9_17_38 hl (k := 1) rfl (e31) (by decide) rfl (fun ls hl => ?_)
        refine lv_goto (tgt := 2) hx hb d_9_17_41 (by decide) ?_
        exact ih6 ((a30 : Int32)) _ _ _ _ (show (1000000 - a30.toInt).toNat < (1000000 - lx4.toInt).toNat from by have t1 : a30.toInt = lx4.toInt + 1 := b32; have t2 : 0 ≤ R.toInt ∧ R.toInt ≤ 8 * N.toInt ∧ 0 ≤ N.toInt ∧ N.toInt ≤ 1376 ∧ 64 ≤ R.toInt ∧ 64 ≤ K.toInt ∧ K.toInt ≤ 1000000 := hfk10; have t3 : 0 ≤ t0_0.toInt ∧ t0_0.toInt ≤ K.toInt := btt0_0; have t4 : lx4.toInt < t0_0.toInt := b11; omega) ⟨(show q_F (x2.toInt ≤ a30.toInt) from (show x2.toInt ≤ a30.toInt from by have t1 : x2.toInt ≤ lx4.toInt := i5; have t2 : a30.toInt = lx4.toInt + 1 := b32; omega)), V, q_lw hl (q_lw1 0 rfl (q_lw1 2 rfl q_lw0)), hI, hF, hO8⟩
      ·
        have b33 : q_F (a17.toInt ≤ 122) := (q_nltI c28)
        refine lv_aload_n hx hb d_9_17_29 rfl (lv_at hl 2 rfl) ?_
        refine lv_iload_n hx hb d_9_17_30 rfl (lv_at hl 1 rfl) ?_
        refine lv_iload_n hx hb d_9_17_31 rfl (lv_at hl 0 rfl) ?_
        refine lv_bipush (v := 32) hx hb d_9_17_32 (by decide) ?_
        refine lv_isub hx hb d_9_17_34 ?_
        obtain ⟨a34, e35⟩ := q_nm (a17 - 32 : Int32)
        refine q_ti (v := a34) e35 ?_
        have b36 : q_F (a34.toInt = a17.toInt - 32) := (by rw [← e35]; show (a17 - 32 : Int32).toInt = a17.toInt - 32; exact q_subI (x := a17.toInt) (y := 32) rfl (by decide) (by have t1 : 0 ≤ a17.toInt := b18; have t2 : a17.toInt ≤ 255 := b19; omega) (by have t1 : 0 ≤ a17.toInt := b18; have t2 : a17.toInt ≤ 255 := b19; omega))
        refine q_gov V (q_runV (As := [.int lx4, .int a34]) (rest := []) (d := 2) (mc := 0) (ms := 0) (ci := 1) C0 V rfl LV_Pri_243 (T_She_replace l D g q w7 k1 R N K hB1 lx4 a34 hI t0_0 hO8  _) rfl rfl hO8 rfl hl.1 rfl (Nat.le_of_ble_eq_true rfl) ⟨by decide, by decide⟩ ⟨Nat.le_of_ble_eq_true rfl, Nat.le_of_ble_eq_true rfl⟩ d_9_17_35) (fun u37 H locs hp38 V => ?_)
        obtain ⟨hI, hu40, -⟩ := hp38
        replace hO8 := (hu40 _ (by have z0 := hB1.2.2.2; simp only [List.mem_cons, List.not_mem_nil, or_false, not_or]; omega)).trans hO8
        replace hF := q_uc hF hu40 (by simp)
        obtain ⟨a41, e42⟩ := q_nm (lx4 + 1 : Int32)
        have b43 : q_F (a41.toInt = lx4.toInt + 1) := (by rw [← e42]; exact q_addI (y := 1) rfl (by decide) (by have _ := q_lo32 (x := lx4); have _ := q_hi32 (x := lx4); have t1 : lx4.toInt < t0_0.toInt := b11; have _ := q_lo32 (x := t0_0); have _ := q_hi32 (x := t0_0); omega) (by have _ := q_lo32 (x := lx4); have _ := q_hi32 (x := lx4); have t1 : lx4.toInt < t0_0.toInt := b11; have _ := q_lo32 (x := t0_0); have _ := q_hi32 (x := t0_0); omega))
        refine lv_iinc (v := a41) (lv' := [(2, .int a41), (3, .int a17), (0, .ref (q k1))]) hx hb d_9_17_38 hl (k := 1) rfl (e42) (by decide) rfl (fun ls hl => ?_)
        refine lv_goto (tgt := 2) hx hb d_9_17_41 (by decide) ?_
        exact ih6 ((a41 : Int32)) _ _ _ _ (show (1000000 - a41.toInt).toNat < (1000000 - lx4.toInt).toNat from by have t1 : a41.toInt = lx4.toInt + 1 := b43; have t2 : 0 ≤ R.toInt ∧ R.toInt ≤ 8 * N.toInt ∧ 0 ≤ N.toInt ∧ N.toInt ≤ 1376 ∧ 64 ≤ R.toInt ∧ 64 ≤ K.toInt ∧ K.toInt ≤ 1000000 := hfk10; have t3 : 0 ≤ t0_0.toInt ∧ t0_0.toInt ≤ K.toInt := btt0_0; have t4 : lx4.toInt < t0_0.toInt := b11; omega) ⟨(show q_F (x2.toInt ≤ a41.toInt) from (show x2.toInt ≤ a41.toInt from by have t1 : x2.toInt ≤ lx4.toInt := i5; have t2 : a41.toInt = lx4.toInt + 1 := b43; omega)), V, q_lw hl (q_lw1 0 rfl (q_lw1 2 rfl q_lw0)), hI, hF, hO8⟩
theorem d_9_2_0 : decode prog_9_method_2_code 0 = .ok (.aload_n 1, 1) := by decide +kernel
theorem d_9_2_1 : decode prog_9_method_2_code 1 = .ok (.getfield 51, 3) := by decide +kernel
set_option maxRecDepth 100000 in
theorem w_172 : (Cond.fieldLink "NumberHouse$Printer" (51 : Nat) "NumberHouse$Dec" "number" "LNumberHouse$Big;") ∈ q_tbl := q_of1 172 rfl (by decide +kernel)
theorem d_9_2_4 : decode prog_9_method_2_code 4 = .ok (.invokevirtual 57, 3) := by decide +kernel
set_option maxRecDepth 100000 in
theorem w_1681 : (Cond.code ({ cls := "NumberHouse$Big", name := "fitsLong", desc := "()Z" } : MethodName) prog_2_method_11_code (1 : Nat) (some .boolean)) ∈ q_tbl := q_of8 1 rfl (by decide +kernel)
set_option maxRecDepth 100000 in
theorem w_1687 : (Cond.methodLink "NumberHouse$Printer" (57 : Nat) ({ cls := "NumberHouse$Big", name := "fitsLong", desc := "()Z" } : MethodName)) ∈ q_tbl := q_of8 7 rfl (by decide +kernel)
set_option maxRecDepth 100000 in
theorem w_1679 : (Cond.instanceMethod ({ cls := "NumberHouse$Big", name := "fitsLong", desc := "()Z" } : MethodName)) ∈ q_tbl := q_of7 239 rfl (by decide +kernel)
set_option maxRecDepth 100000 in
theorem w_1680 : (Cond.selects "NumberHouse$Big" ({ cls := "NumberHouse$Big", name := "fitsLong", desc := "()Z" } : MethodName) ({ cls := "NumberHouse$Big", name := "fitsLong", desc := "()Z" } : MethodName)) ∈ q_tbl := q_of8 0 rfl (by decide +kernel)
theorem LV_Pri_57 : q_LV "NumberHouse$Printer" 57 y_Big_fitsLong prog_2_method_11_code 1 (some .boolean) 0 := ⟨w_1681, w_4, w_1687, w_1679, w_1680, ⟨by decide, by decide, by decide +kernel⟩⟩
theorem d_9_2_7 : decode prog_9_method_2_code 7 = .ok (.ifCond .eq 23, 3) := by decide +kernel
theorem d_9_2_30 : decode prog_9_method_2_code 30 = .ok (.iconst 0, 1) := by decide +kernel
theorem d_9_2_31 : decode prog_9_method_2_code 31 = .ok (.ireturn, 1) := by decide +kernel
theorem d_9_2_10 : decode prog_9_method_2_code 10 = .ok (.aload_n 1, 1) := by decide +kernel
theorem d_9_2_11 : decode prog_9_method_2_code 11 = .ok (.getfield 63, 3) := by decide +kernel
set_option maxRecDepth 100000 in
theorem w_175 : (Cond.fieldLink "NumberHouse$Printer" (63 : Nat) "NumberHouse$Dec" "scale" "I") ∈ q_tbl := q_of1 175 rfl (by decide +kernel)
theorem d_9_2_14 : decode prog_9_method_2_code 14 = .ok (.ifCond .lt 16, 3) := by decide +kernel
theorem d_9_2_17 : decode prog_9_method_2_code 17 = .ok (.aload_n 1, 1) := by decide +kernel
theorem d_9_2_18 : decode prog_9_method_2_code 18 = .ok (.getfield 63, 3) := by decide +kernel
theorem d_9_2_21 : decode prog_9_method_2_code 21 = .ok (.bipush 40, 2) := by decide +kernel
theorem d_9_2_23 : decode prog_9_method_2_code 23 = .ok (.if_icmp .gt 7, 3) := by decide +kernel
theorem d_9_2_26 : decode prog_9_method_2_code 26 = .ok (.iconst 1, 1) := by decide +kernel
theorem d_9_2_27 : decode prog_9_method_2_code 27 = .ok (.goto 4, 3) := by decide +kernel
def y_Pri_canTake : MethodName := ⟨"NumberHouse$Printer", "canTake", "(LNumberHouse$Dec;)Z"⟩
set_option maxRecDepth 100000 in
set_option maxHeartbeats 4000000 in
theorem T_Pri_canTake (l : Launch) (D : va_G) (g : Nat → ClassId) (q : Nat → Nat) (ws : va_W) (k2 : Nat) (R : Int32) (hB2 : q_isDec (nsh g q) g q k2 R) (zk2 : (10 ≤ k2 ∧ k2 ≤ 31) ∨ 66 ≤ k2) (hI : q_I (nsh g q) q ws) : q_mI l y_Pri_canTake prog_9_method_2_code 2 (.boolean) 6 0 0 D g [.ref (q 40), .ref (q k2)] ws (fun r u => ws = u ∧ (0 ≤ r.toInt) ∧ (r.toInt ≤ 1)) := by
  intro sz
  refine q_into (by decide) (Nat.le_of_ble_eq_true rfl) ?_
  intro p e s m below meth c ls hsz C0 V hl
  have hx := C0.1
  have hb := C0.2.1
  have hfk20 : q_F (0 ≤ R.toInt ∧ R.toInt ≤ 220) := hB2.2.2.2
  have hl : lv_has ls 2 [(0, .ref (q 40)), (1, .ref (q k2))] := hl
  refine lv_aload_n hx hb d_9_2_0 rfl (lv_at hl 1 rfl) ?_
  obtain ⟨y2, y3, hO1, b4, b5⟩ := n_deO hI hB2
  replace b4 : q_F (-10000 ≤ y2.toInt ∧ y2.toInt ≤ 10000) := b4
  replace b5 : q_F (1 ≤ y3.toInt ∧ y3.toInt ≤ 1000) := b5
  refine q_get (ci := 3) (j := 0) (v := .ref (q (k2 + 1))) C0 V i_Dec rfl rfl hO1 (by decide) w_172 rfl d_9_2_1 ?_
  obtain ⟨y7, y8, hO6, b9, b10⟩ := q_bigO hI hB2.2
  replace b9 : q_F (0 ≤ y7.toInt ∧ y7.toInt ≤ R.toInt) := b9
  replace b10 : q_F (0 ≤ y8.toInt ∧ y8.toInt ≤ 1) := b10
  refine q_goi V (q_runV (As := []) (rest := []) (d := 5) (mc := 0) (ms := 0) (ci := 2) C0 V rfl LV_Pri_57 (S_Big_fitsLong l D g (nsh g q) q ws (k2 + 1) R hB2.2  hI   _) rfl rfl hO6 rfl hl.1 rfl (Nat.le_of_ble_eq_true rfl) ⟨by decide, by decide⟩ ⟨Nat.le_of_ble_eq_true rfl, Nat.le_of_ble_eq_true rfl⟩ d_9_2_4) (fun a13 u11 H locs hp12 V => ?_)
  obtain ⟨b14, rfl⟩ := hp12
  replace b14 : q_F (0 ≤ a13.toInt ∧ a13.toInt ≤ 1) := b14
  refine lv_if_eq (tgt := 30) hx hb d_9_2_7 (by decide) (fun c15 => ?_) (fun c15 => ?_)
  ·
    have b16 : q_F (a13.toInt = 0) := (q_eqI c15)
    refine lv_iconst (v := 0) hx hb d_9_2_30 (by decide) ?_
    exact q_retz C0 V (by decide) (⟨rfl, (show 0 ≤ (0 : Int32).toInt from (by have z1 : (0 : Int32).toInt = 0 := rfl; omega)), (show (0 : Int32).toInt ≤ 1 from (by have z1 : (0 : Int32).toInt = 0 := rfl; omega))⟩) d_9_2_31
  ·
    have b17 : q_F (a13.toInt ≠ 0) := (q_neI c15)
    refine lv_aload_n hx hb d_9_2_10 rfl (lv_at hl 1 rfl) ?_
    refine q_get (ci := 3) (j := 1) (v := .int y2) C0 V i_Dec rfl rfl hO1 (by decide) w_175 rfl d_9_2_11 ?_
    refine lv_if_lt (tgt := 30) hx hb d_9_2_14 (by decide) (fun c18 => ?_) (fun c18 => ?_)
    ·
      have b19 : q_F (y2.toInt < 0) := (q_ltI c18)
      refine lv_iconst (v := 0) hx hb d_9_2_30 (by decide) ?_
      exact q_retz C0 V (by decide) (⟨rfl, (show 0 ≤ (0 : Int32).toInt from (by have z1 : (0 : Int32).toInt = 0 := rfl; omega)), (show (0 : Int32).toInt ≤ 1 from (by have z1 : (0 : Int32).toInt = 0 := rfl; omega))⟩) d_9_2_31
    ·
      have b20 : q_F (0 ≤ y2.toInt) := (q_nltI c18)
      refine lv_aload_n hx hb d_9_2_17 rfl (lv_at hl 1 rfl) ?_
      refine q_get (ci := 3) (j := 1) (v := .int y2) C0 V i_Dec rfl rfl hO1 (by decide) w_175 rfl d_9_2_18 ?_
      refine lv_bipush (v := 40) hx hb d_9_2_21 (by decide) ?_
      refine lv_icmp_gt (tgt := 30) hx hb d_9_2_23 (by decide) (fun c21 => ?_) (fun c21 => ?_)
      ·
        have b22 : q_F (40 < y2.toInt) := (q_ltI c21)
        refine lv_iconst (v := 0) hx hb d_9_2_30 (by decide) ?_
        exact q_retz C0 V (by decide) (⟨rfl, (show 0 ≤ (0 : Int32).toInt from (by have z1 : (0 : Int32).toInt = 0 := rfl; omega)), (show (0 : Int32).toInt ≤ 1 from (by have z1 : (0 : Int32).toInt = 0 := rfl; omega))⟩) d_9_2_31
      ·
        have b23 : q_F (y2.toInt ≤ 40) := (q_nltI c21)
        refine lv_iconst (v := 1) hx hb d_9_2_26 (by decide) ?_
        refine lv_goto (tgt := 31) hx hb d_9_2_27 (by decide) ?_
        exact q_retz C0 V (by decide) (⟨rfl, (show 0 ≤ (1 : Int32).toInt from (by have z1 : (1 : Int32).toInt = 1 := rfl; omega)), (show (1 : Int32).toInt ≤ 1 from (by have z1 : (1 : Int32).toInt = 1 := rfl; omega))⟩) d_9_2_31
theorem d_9_3_0 : decode prog_9_method_3_code 0 = .ok (.aload_n 0, 1) := by decide +kernel
theorem d_9_3_1 : decode prog_9_method_3_code 1 = .ok (.getfield 67, 3) := by decide +kernel
set_option maxRecDepth 100000 in
theorem w_384 : (Cond.fieldLink "NumberHouse$Printer" (67 : Nat) "NumberHouse$Printer" "count" "I") ∈ q_tbl := q_of2 144 rfl (by decide +kernel)
theorem d_9_3_4 : decode prog_9_method_3_code 4 = .ok (.bipush 9, 2) := by decide +kernel
theorem d_9_3_6 : decode prog_9_method_3_code 6 = .ok (.if_icmp .ge 44, 3) := by decide +kernel
theorem d_9_3_50 : decode prog_9_method_3_code 50 = .ok (.return_, 1) := by decide +kernel
theorem d_9_3_9 : decode prog_9_method_3_code 9 = .ok (.aload_n 0, 1) := by decide +kernel
theorem d_9_3_10 : decode prog_9_method_3_code 10 = .ok (.getfield 11, 3) := by decide +kernel
theorem d_9_3_13 : decode prog_9_method_3_code 13 = .ok (.aload_n 0, 1) := by decide +kernel
theorem d_9_3_14 : decode prog_9_method_3_code 14 = .ok (.getfield 67, 3) := by decide +kernel
theorem d_9_3_17 : decode prog_9_method_3_code 17 = .ok (.iload_n 1, 1) := by decide +kernel
theorem d_9_3_18 : decode prog_9_method_3_code 18 = .ok (.iastore, 1) := by decide +kernel
theorem d_9_3_19 : decode prog_9_method_3_code 19 = .ok (.aload_n 0, 1) := by decide +kernel
theorem d_9_3_20 : decode prog_9_method_3_code 20 = .ok (.getfield 15, 3) := by decide +kernel
theorem d_9_3_23 : decode prog_9_method_3_code 23 = .ok (.aload_n 0, 1) := by decide +kernel
theorem d_9_3_24 : decode prog_9_method_3_code 24 = .ok (.getfield 67, 3) := by decide +kernel
theorem d_9_3_27 : decode prog_9_method_3_code 27 = .ok (.lload_n 2, 1) := by decide +kernel
theorem d_9_3_28 : decode prog_9_method_3_code 28 = .ok (.lastore, 1) := by decide +kernel
theorem d_9_3_29 : decode prog_9_method_3_code 29 = .ok (.aload_n 0, 1) := by decide +kernel
theorem d_9_3_30 : decode prog_9_method_3_code 30 = .ok (.getfield 19, 3) := by decide +kernel
theorem d_9_3_33 : decode prog_9_method_3_code 33 = .ok (.aload_n 0, 1) := by decide +kernel
theorem d_9_3_34 : decode prog_9_method_3_code 34 = .ok (.getfield 67, 3) := by decide +kernel
theorem d_9_3_37 : decode prog_9_method_3_code 37 = .ok (.iload 4, 2) := by decide +kernel
theorem d_9_3_39 : decode prog_9_method_3_code 39 = .ok (.iastore, 1) := by decide +kernel
theorem d_9_3_40 : decode prog_9_method_3_code 40 = .ok (.aload_n 0, 1) := by decide +kernel
theorem d_9_3_41 : decode prog_9_method_3_code 41 = .ok (.dup, 1) := by decide +kernel
theorem d_9_3_42 : decode prog_9_method_3_code 42 = .ok (.getfield 67, 3) := by decide +kernel
theorem d_9_3_45 : decode prog_9_method_3_code 45 = .ok (.iconst 1, 1) := by decide +kernel
theorem d_9_3_46 : decode prog_9_method_3_code 46 = .ok (.iadd, 1) := by decide +kernel
theorem d_9_3_47 : decode prog_9_method_3_code 47 = .ok (.putfield 67, 3) := by decide +kernel
def y_Pri_addNumber : MethodName := ⟨"NumberHouse$Printer", "addNumber", "(IJI)V"⟩
set_option maxRecDepth 100000 in
set_option maxHeartbeats 4000000 in
theorem T_Pri_addNumber (l : Launch) (D : va_G) (g : Nat → ClassId) (q : Nat → Nat) (ws : va_W) (x2 : Int32) (x3 : Int64) (x4 : Int32) (hI : q_I (nsh g q) q ws) (t0_0 : Int32) (t0_1 : Int32) (t0_2 : Int32) (t0_3 : Int32) (hT0 : ws[40]? = (some (q 40, .inr (11, [.int t0_0, .ref (q 41), .ref (q 42), .ref (q 43), .ref (q 44), .ref (q 1), .ref (q 47), .ref (q 36), .ref (q 45), .int t0_1, .int t0_2, .int t0_3])) : Option (Nat × va_E))) (pre0 : 0 ≤ x4.toInt + 10000) (pre1 : x4.toInt ≤ 10000) : q_mV l y_Pri_addNumber prog_9_method_3_code 5 1 0 0 D g [.ref (q 40), .int x2, .long x3, .int x4] ws (fun u => q_I (nsh g q) q u ∧ q_un ws u [40, 41, 42, 43] ∧ ∃ (u0_0 : Int32) (u0_1 : Int32) (u0_2 : Int32) (u0_3 : Int32), u[40]? = (some (q 40, .inr (11, [.int u0_0, .ref (q 41), .ref (q 42), .ref (q 43), .ref (q 44), .ref (q 1), .ref (q 47), .ref (q 36), .ref (q 45), .int u0_1, .int u0_2, .int u0_3])) : Option (Nat × va_E)) ∧ (1 ≤ u0_0.toInt) ∧ (u0_0.toInt ≤ 9) ∧ (t0_0.toInt ≤ u0_0.toInt) ∧ (u0_0.toInt ≤ t0_0.toInt + 1) ∧ (t0_1.toInt ≤ u0_1.toInt) ∧ (u0_1.toInt ≤ t0_1.toInt) ∧ (t0_2.toInt ≤ u0_2.toInt) ∧ (u0_2.toInt ≤ t0_2.toInt) ∧ (t0_3.toInt ≤ u0_3.toInt) ∧ (u0_3.toInt ≤ t0_3.toInt)) := by
  intro sz
  refine q_into (by decide) (Nat.le_of_ble_eq_true rfl) ?_
  intro p e s m below meth c ls hsz C0 V hl
  have hx := C0.1
  have hb := C0.2.1
  obtain ⟨yy0_0, yy0_1, yy0_2, yy0_3, hh0, btt0_0, btt0_1, btt0_3⟩ := n_o40 hI
  obtain ⟨rfl, rfl, rfl, rfl⟩ : t0_0 = yy0_0 ∧ t0_1 = yy0_1 ∧ t0_2 = yy0_2 ∧ t0_3 = yy0_3 := by have z := Option.some.inj (hT0.symm.trans hh0); simpa using z
  replace btt0_0 : q_F (0 ≤ t0_0.toInt ∧ t0_0.toInt ≤ 9) := btt0_0
  replace btt0_1 : q_F (-1 ≤ t0_1.toInt ∧ t0_1.toInt ≤ 1000000) := btt0_1
  replace btt0_3 : q_F (-1 ≤ t0_3.toInt ∧ t0_3.toInt ≤ 8) := btt0_3
  replace pre0 : q_F (0 ≤ x4.toInt + 10000) := pre0
  replace pre1 : q_F (x4.toInt ≤ 10000) := pre1
  have hF : q_un ws ws [40, 41, 42, 43] := q_u0
  have hl : lv_has ls 5 [(0, .ref (q 40)), (1, .int x2), (2, .long x3), (4, .int x4)] := hl
  refine lv_aload_n hx hb d_9_3_0 rfl (lv_at hl 0 rfl) ?_
  refine q_get (ci := 11) (j := 0) (v := .int t0_0) C0 V i_Pri rfl rfl hT0 (by decide) w_384 rfl d_9_3_1 ?_
  refine lv_bipush (v := 9) hx hb d_9_3_4 (by decide) ?_
  refine lv_icmp_ge (tgt := 50) hx hb d_9_3_6 (by decide) (fun c9 => ?_) (fun c9 => ?_)
  ·
    have b10 : q_F (9 ≤ t0_0.toInt) := (q_leI c9)
    exact q_retv C0 V (⟨hI, hF, t0_0, t0_1, t0_2, t0_3, hT0, (show 1 ≤ t0_0.toInt from (by have t1 : 9 ≤ t0_0.toInt := b10; omega)), (show t0_0.toInt ≤ 9 from (by have t1 : 0 ≤ t0_0.toInt ∧ t0_0.toInt ≤ 9 := btt0_0; omega)), (show t0_0.toInt ≤ t0_0.toInt from (by omega)), (show t0_0.toInt ≤ t0_0.toInt + 1 from (by omega)), (show t0_1.toInt ≤ t0_1.toInt from (by omega)), (show t0_1.toInt ≤ t0_1.toInt from (by omega)), (show t0_2.toInt ≤ t0_2.toInt from (by omega)), (show t0_2.toInt ≤ t0_2.toInt from (by omega)), (show t0_3.toInt ≤ t0_3.toInt from (by omega)), (show t0_3.toInt ≤ t0_3.toInt from (by omega))⟩) d_9_3_50
  ·
    have b11 : q_F (t0_0.toInt < 9) := (q_nleI c9)
    refine lv_aload_n hx hb d_9_3_9 rfl (lv_at hl 0 rfl) ?_
    refine q_get (ci := 11) (j := 1) (v := .ref (q 41)) C0 V i_Pri rfl rfl hT0 (by decide) w_386 rfl d_9_3_10 ?_
    refine lv_aload_n hx hb d_9_3_13 rfl (lv_at hl 0 rfl) ?_
    refine q_get (ci := 11) (j := 0) (v := .int t0_0) C0 V i_Pri rfl rfl hT0 (by decide) w_384 rfl d_9_3_14 ?_
    refine lv_iload_n hx hb d_9_3_17 rfl (lv_at hl 1 rfl) ?_
    obtain ⟨f12, hA13, bf14⟩ := n_ai hI (n_s41 g q)
    refine q_iast C0 V hA13 (q_ix (x := t0_0.toInt) rfl (by have t1 : 0 ≤ t0_0.toInt ∧ t0_0.toInt ≤ 9 := btt0_0; omega) (by have t1 : 0 ≤ t0_0.toInt ∧ t0_0.toInt ≤ 9 := btt0_0; have t2 : t0_0.toInt < 9 := b11; omega)) d_9_3_18 (fun H locs w15 hu16 hA13 V => ?_)
    replace hI := n_ai' hI (n_s41 g q) hu16 hA13 (q_updB bf14 s_bnd)
    replace hT0 := (hu16 _ (by decide)).trans hT0
    replace hF := q_us hF hu16 (by simp)
    refine lv_aload_n hx hb d_9_3_19 rfl (lv_at hl 0 rfl) ?_
    refine q_get (ci := 11) (j := 2) (v := .ref (q 42)) C0 V i_Pri rfl rfl hT0 (by decide) w_387 rfl d_9_3_20 ?_
    refine lv_aload_n hx hb d_9_3_23 rfl (lv_at hl 0 rfl) ?_
    refine q_get (ci := 11) (j := 0) (v := .int t0_0) C0 V i_Pri rfl rfl hT0 (by decide) w_384 rfl d_9_3_24 ?_
    refine lv_lload_n hx hb d_9_3_27 rfl (lv_at hl 2 rfl) ?_
    obtain ⟨f17, hA18⟩ := n_al hI (n_s42 g q)
    refine q_last C0 V hA18 (q_ix (x := t0_0.toInt) rfl (by have t1 : 0 ≤ t0_0.toInt ∧ t0_0.toInt ≤ 9 := btt0_0; omega) (by have t1 : 0 ≤ t0_0.toInt ∧ t0_0.toInt ≤ 9 := btt0_0; have t2 : t0_0.toInt < 9 := b11; omega)) d_9_3_28 (fun H locs w19 hu20 hA18 V => ?_)
    replace hI := n_al' hI (n_s42 g q) hu20 hA18
    replace hT0 := (hu20 _ (by decide)).trans hT0
    replace hF := q_us hF hu20 (by simp)
    refine lv_aload_n hx hb d_9_3_29 rfl (lv_at hl 0 rfl) ?_
    refine q_get (ci := 11) (j := 3) (v := .ref (q 43)) C0 V i_Pri rfl rfl hT0 (by decide) w_388 rfl d_9_3_30 ?_
    refine lv_aload_n hx hb d_9_3_33 rfl (lv_at hl 0 rfl) ?_
    refine q_get (ci := 11) (j := 0) (v := .int t0_0) C0 V i_Pri rfl rfl hT0 (by decide) w_384 rfl d_9_3_34 ?_
    refine lv_iload hx hb d_9_3_37 (lv_at hl 3 rfl) ?_
    obtain ⟨f21, hA22, bf23⟩ := n_ai hI (n_s43 g q)
    refine q_iast C0 V hA22 (q_ix (x := t0_0.toInt) rfl (by have t1 : 0 ≤ t0_0.toInt ∧ t0_0.toInt ≤ 9 := btt0_0; omega) (by have t1 : 0 ≤ t0_0.toInt ∧ t0_0.toInt ≤ 9 := btt0_0; have t2 : t0_0.toInt < 9 := b11; omega)) d_9_3_39 (fun H locs w24 hu25 hA22 V => ?_)
    replace hI := n_ai' hI (n_s43 g q) hu25 hA22 (q_updB bf23 ⟨(by have t1 : 0 ≤ x4.toInt + 10000 := pre0; omega), (by have t1 : x4.toInt ≤ 10000 := pre1; omega)⟩)
    replace hT0 := (hu25 _ (by decide)).trans hT0
    replace hF := q_us hF hu25 (by simp)
    refine lv_aload_n hx hb d_9_3_40 rfl (lv_at hl 0 rfl) ?_
    refine lv_dup hx hb d_9_3_41 rfl ?_
    refine q_get (ci := 11) (j := 0) (v := .int t0_0) C0 V i_Pri rfl rfl hT0 (by decide) w_384 rfl d_9_3_42 ?_
    refine lv_iconst (v := 1) hx hb d_9_3_45 (by decide) ?_
    refine lv_iadd hx hb d_9_3_46 ?_
    obtain ⟨a26, e27⟩ := q_nm (t0_0 + 1 : Int32)
    refine q_ti (v := a26) e27 ?_
    have b28 : q_F (a26.toInt = t0_0.toInt + 1) := (by rw [← e27]; show (t0_0 + 1 : Int32).toInt = t0_0.toInt + 1; exact q_addI (x := t0_0.toInt) (y := 1) rfl (by decide) (by have t1 : 0 ≤ t0_0.toInt ∧ t0_0.toInt ≤ 9 := btt0_0; omega) (by have t1 : 0 ≤ t0_0.toInt ∧ t0_0.toInt ≤ 9 := btt0_0; omega))
    refine q_put (ci := 11) (j := 0) (v := .int a26) (ty := .int) C0 V i_Pri o_Pri n_Pri rfl rfl hT0 (by decide) w_384 rfl rfl rfl rfl (Nat.le_of_ble_eq_true rfl) d_9_3_47 (fun H locs w29 hu30 hT0 V => ?_)
    replace hT0 : w29[40]? = (some (q 40, .inr (11, [.int a26, .ref (q 41), .ref (q 42), .ref (q 43), .ref (q 44), .ref (q 1), .ref (q 47), .ref (q 36), .ref (q 45), .int t0_1, .int t0_2, .int t0_3])) : Option (Nat × va_E)) := hT0
    replace hI := n_p40 hI hu30 hT0 ⟨(by have t1 : 0 ≤ t0_0.toInt ∧ t0_0.toInt ≤ 9 := btt0_0; have t2 : a26.toInt = t0_0.toInt + 1 := b28; omega), (by have t1 : t0_0.toInt < 9 := b11; have t2 : a26.toInt = t0_0.toInt + 1 := b28; omega)⟩ ⟨(by have t1 : -1 ≤ t0_1.toInt ∧ t0_1.toInt ≤ 1000000 := btt0_1; omega), (by have t1 : -1 ≤ t0_1.toInt ∧ t0_1.toInt ≤ 1000000 := btt0_1; omega)⟩ ⟨(by have t1 : -1 ≤ t0_3.toInt ∧ t0_3.toInt ≤ 8 := btt0_3; omega), (by have t1 : -1 ≤ t0_3.toInt ∧ t0_3.toInt ≤ 8 := btt0_3; omega)⟩
    replace hF := q_us hF hu30 (by simp)
    exact q_retv C0 V (⟨hI, hF, a26, t0_1, t0_2, t0_3, hT0, (show 1 ≤ a26.toInt from (by have t1 : 0 ≤ t0_0.toInt ∧ t0_0.toInt ≤ 9 := btt0_0; have t2 : a26.toInt = t0_0.toInt + 1 := b28; omega)), (show a26.toInt ≤ 9 from (by have t1 : t0_0.toInt < 9 := b11; have t2 : a26.toInt = t0_0.toInt + 1 := b28; omega)), (show t0_0.toInt ≤ a26.toInt from (by have t1 : a26.toInt = t0_0.toInt + 1 := b28; omega)), (show a26.toInt ≤ t0_0.toInt + 1 from (by have t1 : a26.toInt = t0_0.toInt + 1 := b28; omega)), (show t0_1.toInt ≤ t0_1.toInt from (by omega)), (show t0_1.toInt ≤ t0_1.toInt from (by omega)), (show t0_2.toInt ≤ t0_2.toInt from (by omega)), (show t0_2.toInt ≤ t0_2.toInt from (by omega)), (show t0_3.toInt ≤ t0_3.toInt from (by omega)), (show t0_3.toInt ≤ t0_3.toInt from (by omega))⟩) d_9_3_50
theorem d_9_4_0 : decode prog_9_method_4_code 0 = .ok (.aload_n 0, 1) := by decide +kernel
theorem d_9_4_1 : decode prog_9_method_4_code 1 = .ok (.getfield 67, 3) := by decide +kernel
theorem d_9_4_4 : decode prog_9_method_4_code 4 = .ok (.bipush 9, 2) := by decide +kernel
theorem d_9_4_6 : decode prog_9_method_4_code 6 = .ok (.if_icmp .ge 46, 3) := by decide +kernel
theorem d_9_4_52 : decode prog_9_method_4_code 52 = .ok (.return_, 1) := by decide +kernel
theorem d_9_4_9 : decode prog_9_method_4_code 9 = .ok (.aload_n 0, 1) := by decide +kernel
theorem d_9_4_10 : decode prog_9_method_4_code 10 = .ok (.getfield 24, 3) := by decide +kernel
theorem d_9_4_13 : decode prog_9_method_4_code 13 = .ok (.aload_n 0, 1) := by decide +kernel
theorem d_9_4_14 : decode prog_9_method_4_code 14 = .ok (.getfield 67, 3) := by decide +kernel
theorem d_9_4_17 : decode prog_9_method_4_code 17 = .ok (.aaload, 1) := by decide +kernel
theorem d_9_4_18 : decode prog_9_method_4_code 18 = .ok (.invokevirtual 70, 3) := by decide +kernel
set_option maxRecDepth 100000 in
theorem w_474 : (Cond.code ({ cls := "NumberHouse$Sheet", name := "clear", desc := "()V" } : MethodName) prog_11_method_2_code (1 : Nat) (none : Option ClassFile.FieldType)) ∈ q_tbl := q_of2 234 rfl (by decide +kernel)
set_option maxRecDepth 100000 in
theorem w_1716 : (Cond.methodLink "NumberHouse$Printer" (70 : Nat) ({ cls := "NumberHouse$Sheet", name := "clear", desc := "()V" } : MethodName)) ∈ q_tbl := q_of8 36 rfl (by decide +kernel)
set_option maxRecDepth 100000 in
theorem w_472 : (Cond.instanceMethod ({ cls := "NumberHouse$Sheet", name := "clear", desc := "()V" } : MethodName)) ∈ q_tbl := q_of2 232 rfl (by decide +kernel)
set_option maxRecDepth 100000 in
theorem w_473 : (Cond.selects "NumberHouse$Sheet" ({ cls := "NumberHouse$Sheet", name := "clear", desc := "()V" } : MethodName) ({ cls := "NumberHouse$Sheet", name := "clear", desc := "()V" } : MethodName)) ∈ q_tbl := q_of2 233 rfl (by decide +kernel)
theorem LV_Pri_70 : q_LV "NumberHouse$Printer" 70 y_She_clear prog_11_method_2_code 1 none 0 := ⟨w_474, w_2, w_1716, w_472, w_473, ⟨by decide, by decide, by decide +kernel⟩⟩
theorem d_9_4_21 : decode prog_9_method_4_code 21 = .ok (.aload_n 0, 1) := by decide +kernel
theorem d_9_4_22 : decode prog_9_method_4_code 22 = .ok (.getfield 24, 3) := by decide +kernel
theorem d_9_4_25 : decode prog_9_method_4_code 25 = .ok (.aload_n 0, 1) := by decide +kernel
theorem d_9_4_26 : decode prog_9_method_4_code 26 = .ok (.getfield 67, 3) := by decide +kernel
theorem d_9_4_29 : decode prog_9_method_4_code 29 = .ok (.aaload, 1) := by decide +kernel
theorem d_9_4_30 : decode prog_9_method_4_code 30 = .ok (.aload_n 0, 1) := by decide +kernel
theorem d_9_4_31 : decode prog_9_method_4_code 31 = .ok (.getfield 35, 3) := by decide +kernel
theorem d_9_4_34 : decode prog_9_method_4_code 34 = .ok (.iconst 0, 1) := by decide +kernel
theorem d_9_4_35 : decode prog_9_method_4_code 35 = .ok (.aload_n 0, 1) := by decide +kernel
theorem d_9_4_36 : decode prog_9_method_4_code 36 = .ok (.getfield 35, 3) := by decide +kernel
theorem d_9_4_39 : decode prog_9_method_4_code 39 = .ok (.getfield 73, 3) := by decide +kernel
theorem d_9_4_42 : decode prog_9_method_4_code 42 = .ok (.invokestatic 76, 3) := by decide +kernel
set_option maxRecDepth 100000 in
theorem w_1719 : (Cond.code ({ cls := "NumberHouse$Printer", name := "copyInto", desc := "(LNumberHouse$Sheet;LNumberHouse$Sheet;II)V" } : MethodName) prog_9_method_16_code (5 : Nat) (none : Option ClassFile.FieldType)) ∈ q_tbl := q_of8 39 rfl (by decide +kernel)
set_option maxRecDepth 100000 in
theorem w_1717 : (Cond.methodLink "NumberHouse$Printer" (76 : Nat) ({ cls := "NumberHouse$Printer", name := "copyInto", desc := "(LNumberHouse$Sheet;LNumberHouse$Sheet;II)V" } : MethodName)) ∈ q_tbl := q_of8 37 rfl (by decide +kernel)
set_option maxRecDepth 100000 in
theorem w_1718 : (Cond.static ({ cls := "NumberHouse$Printer", name := "copyInto", desc := "(LNumberHouse$Sheet;LNumberHouse$Sheet;II)V" } : MethodName)) ∈ q_tbl := q_of8 38 rfl (by decide +kernel)
theorem LS_Pri_76 : q_LS "NumberHouse$Printer" 76 y_Pri_copyInto prog_9_method_16_code 5 none 4 := ⟨w_1719, w_12, w_1717, w_1718, ⟨by decide, by decide, by decide +kernel⟩⟩
theorem d_9_4_45 : decode prog_9_method_4_code 45 = .ok (.aload_n 0, 1) := by decide +kernel
theorem d_9_4_46 : decode prog_9_method_4_code 46 = .ok (.iconst 4, 1) := by decide +kernel
theorem d_9_4_47 : decode prog_9_method_4_code 47 = .ok (.lconst 0, 1) := by decide +kernel
theorem d_9_4_48 : decode prog_9_method_4_code 48 = .ok (.iconst 0, 1) := by decide +kernel
theorem d_9_4_49 : decode prog_9_method_4_code 49 = .ok (.invokevirtual 80, 3) := by decide +kernel
set_option maxRecDepth 100000 in
theorem w_1711 : (Cond.code ({ cls := "NumberHouse$Printer", name := "addNumber", desc := "(IJI)V" } : MethodName) prog_9_method_3_code (5 : Nat) (none : Option ClassFile.FieldType)) ∈ q_tbl := q_of8 31 rfl (by decide +kernel)
set_option maxRecDepth 100000 in
theorem w_1722 : (Cond.methodLink "NumberHouse$Printer" (80 : Nat) ({ cls := "NumberHouse$Printer", name := "addNumber", desc := "(IJI)V" } : MethodName)) ∈ q_tbl := q_of8 42 rfl (by decide +kernel)
set_option maxRecDepth 100000 in
theorem w_1709 : (Cond.instanceMethod ({ cls := "NumberHouse$Printer", name := "addNumber", desc := "(IJI)V" } : MethodName)) ∈ q_tbl := q_of8 29 rfl (by decide +kernel)
set_option maxRecDepth 100000 in
theorem w_1710 : (Cond.selects "NumberHouse$Printer" ({ cls := "NumberHouse$Printer", name := "addNumber", desc := "(IJI)V" } : MethodName) ({ cls := "NumberHouse$Printer", name := "addNumber", desc := "(IJI)V" } : MethodName)) ∈ q_tbl := q_of8 30 rfl (by decide +kernel)
theorem LV_Pri_80 : q_LV "NumberHouse$Printer" 80 y_Pri_addNumber prog_9_method_3_code 5 none 3 := ⟨w_1711, w_12, w_1722, w_1709, w_1710, ⟨by decide, by decide, by decide +kernel⟩⟩
def y_Pri_addText : MethodName := ⟨"NumberHouse$Printer", "addText", "()V"⟩
set_option maxRecDepth 100000 in
set_option maxHeartbeats 4000000 in
theorem T_Pri_addText (l : Launch) (D : va_G) (g : Nat → ClassId) (q : Nat → Nat) (ws : va_W) (hI : q_I (nsh g q) q ws) (t0_0 : Int32) (t0_1 : Int32) (t0_2 : Int32) (t0_3 : Int32) (hT0 : ws[40]? = (some (q 40, .inr (11, [.int t0_0, .ref (q 41), .ref (q 42), .ref (q 43), .ref (q 44), .ref (q 1), .ref (q 47), .ref (q 36), .ref (q 45), .int t0_1, .int t0_2, .int t0_3])) : Option (Nat × va_E))) (t1_0 : Int32) (hT1 : ws[1]? = (some (q 1, .inr (1, [.ref (q 2), .int 4100, .int t1_0])) : Option (Nat × va_E))) (pre0 : t1_0.toInt ≤ 64) : q_mV l y_Pri_addText prog_9_method_4_code 1 3 0 0 D g [.ref (q 40)] ws (fun u => q_I (nsh g q) q u ∧ ∃ (u0_0 : Int32) (u0_1 : Int32) (u0_2 : Int32) (u0_3 : Int32) (u1_0 : Int32), u[40]? = (some (q 40, .inr (11, [.int u0_0, .ref (q 41), .ref (q 42), .ref (q 43), .ref (q 44), .ref (q 1), .ref (q 47), .ref (q 36), .ref (q 45), .int u0_1, .int u0_2, .int u0_3])) : Option (Nat × va_E)) ∧ u[1]? = (some (q 1, .inr (1, [.ref (q 2), .int 4100, .int u1_0])) : Option (Nat × va_E)) ∧ (1 ≤ u0_0.toInt) ∧ (u0_0.toInt ≤ 9) ∧ (t0_0.toInt ≤ u0_0.toInt) ∧ (u0_0.toInt ≤ t0_0.toInt + 1) ∧ (t0_1.toInt ≤ u0_1.toInt) ∧ (u0_1.toInt ≤ t0_1.toInt) ∧ (t0_2.toInt ≤ u0_2.toInt) ∧ (u0_2.toInt ≤ t0_2.toInt) ∧ (t0_3.toInt ≤ u0_3.toInt) ∧ (u0_3.toInt ≤ t0_3.toInt) ∧ (t1_0.toInt ≤ u1_0.toInt) ∧ (u1_0.toInt ≤ t1_0.toInt)) := by
  intro sz
  refine q_into (by decide) (Nat.le_of_ble_eq_true rfl) ?_
  intro p e s m below meth c ls hsz C0 V hl
  have hx := C0.1
  have hb := C0.2.1
  obtain ⟨yy0_0, yy0_1, yy0_2, yy0_3, hh0, btt0_0, btt0_1, btt0_3⟩ := n_o40 hI
  obtain ⟨rfl, rfl, rfl, rfl⟩ : t0_0 = yy0_0 ∧ t0_1 = yy0_1 ∧ t0_2 = yy0_2 ∧ t0_3 = yy0_3 := by have z := Option.some.inj (hT0.symm.trans hh0); simpa using z
  replace btt0_0 : q_F (0 ≤ t0_0.toInt ∧ t0_0.toInt ≤ 9) := btt0_0
  replace btt0_1 : q_F (-1 ≤ t0_1.toInt ∧ t0_1.toInt ≤ 1000000) := btt0_1
  replace btt0_3 : q_F (-1 ≤ t0_3.toInt ∧ t0_3.toInt ≤ 8) := btt0_3
  obtain ⟨yy1_0, hh1, btt1_0⟩ := n_shO hI (n_h1 g q)
  obtain ⟨rfl⟩ : t1_0 = yy1_0 := by have z := Option.some.inj (hT1.symm.trans hh1); simpa using z
  replace btt1_0 : q_F (0 ≤ t1_0.toInt ∧ t1_0.toInt ≤ 4100) := btt1_0
  replace pre0 : q_F (t1_0.toInt ≤ 64) := pre0
  have hl : lv_has ls 1 [(0, .ref (q 40))] := hl
  refine lv_aload_n hx hb d_9_4_0 rfl (lv_at hl 0 rfl) ?_
  refine q_get (ci := 11) (j := 0) (v := .int t0_0) C0 V i_Pri rfl rfl hT0 (by decide) w_384 rfl d_9_4_1 ?_
  refine lv_bipush (v := 9) hx hb d_9_4_4 (by decide) ?_
  refine lv_icmp_ge (tgt := 52) hx hb d_9_4_6 (by decide) (fun c12 => ?_) (fun c12 => ?_)
  ·
    have b13 : q_F (9 ≤ t0_0.toInt) := (q_leI c12)
    exact q_retv C0 V (⟨hI, t0_0, t0_1, t0_2, t0_3, t1_0, hT0, hT1, (show 1 ≤ t0_0.toInt from (by have t1 : 9 ≤ t0_0.toInt := b13; omega)), (show t0_0.toInt ≤ 9 from (by have t1 : 0 ≤ t0_0.toInt ∧ t0_0.toInt ≤ 9 := btt0_0; omega)), (show t0_0.toInt ≤ t0_0.toInt from (by omega)), (show t0_0.toInt ≤ t0_0.toInt + 1 from (by omega)), (show t0_1.toInt ≤ t0_1.toInt from (by omega)), (show t0_1.toInt ≤ t0_1.toInt from (by omega)), (show t0_2.toInt ≤ t0_2.toInt from (by omega)), (show t0_2.toInt ≤ t0_2.toInt from (by omega)), (show t0_3.toInt ≤ t0_3.toInt from (by omega)), (show t0_3.toInt ≤ t0_3.toInt from (by omega)), (show t1_0.toInt ≤ t1_0.toInt from (by omega)), (show t1_0.toInt ≤ t1_0.toInt from (by omega))⟩) d_9_4_52
  ·
    have b14 : q_F (t0_0.toInt < 9) := (q_nleI c12)
    refine lv_aload_n hx hb d_9_4_9 rfl (lv_at hl 0 rfl) ?_
    refine q_get (ci := 11) (j := 4) (v := .ref (q 44)) C0 V i_Pri rfl rfl hT0 (by decide) w_389 rfl d_9_4_10 ?_
    refine lv_aload_n hx hb d_9_4_13 rfl (lv_at hl 0 rfl) ?_
    refine q_get (ci := 11) (j := 0) (v := .int t0_0) C0 V i_Pri rfl rfl hT0 (by decide) w_384 rfl d_9_4_14 ?_
    have hX15 := n_fx hI (n_s44 g q)
    have hj16 : t0_0.toNatClampNeg < 9 := by have z := q_clI (i := t0_0) (x := t0_0.toInt) rfl (by have t1 : 0 ≤ t0_0.toInt ∧ t0_0.toInt ≤ 9 := btt0_0; omega); have t1 : 0 ≤ t0_0.toInt ∧ t0_0.toInt ≤ 9 := btt0_0; have t2 : t0_0.toInt < 9 := b14; omega
    refine q_aald (t := 6) (q := q (48 + 2 * t0_0.toNatClampNeg)) C0 V hX15 rfl (q_ix (x := t0_0.toInt) rfl (by have t1 : 0 ≤ t0_0.toInt ∧ t0_0.toInt ≤ 9 := btt0_0; omega) (by have t1 : 0 ≤ t0_0.toInt ∧ t0_0.toInt ≤ 9 := btt0_0; have t2 : t0_0.toInt < 9 := b14; omega)) (n_ftv hj16) d_9_4_17 ?_
    obtain ⟨y18, hO17, b19⟩ := n_shO hI (n_t g q hj16)
    replace b19 : q_F (0 ≤ y18.toInt ∧ y18.toInt ≤ 64) := b19
    refine q_gov V (q_runV (As := []) (rest := []) (d := 1) (mc := 0) (ms := 0) (ci := 1) C0 V rfl LV_Pri_70 (T_She_clear l D g q ws (48 + 2 * t0_0.toNatClampNeg) 64 8 64 (n_t g q hj16)  hI y18 hO17  _) rfl rfl hO17 rfl hl.1 rfl (Nat.le_of_ble_eq_true rfl) ⟨by decide, by decide⟩ ⟨Nat.le_of_ble_eq_true rfl, Nat.le_of_ble_eq_true rfl⟩ d_9_4_18) (fun u20 H locs hp21 V => ?_)
    obtain ⟨hI, hu27, y23, hO22, b24, b25⟩ := hp21
    replace hO22 : u20[48 + 2 * t0_0.toNatClampNeg]? = (some (q (48 + 2 * t0_0.toNatClampNeg), .inr (1, [.ref (q (48 + 2 * t0_0.toNatClampNeg + 1)), .int 64, .int y23])) : Option (Nat × va_E)) := hO22
    replace b24 : q_F (0 ≤ y23.toInt) := b24
    replace b25 : q_F (y23.toInt ≤ 0) := b25
    replace hT0 := (hu27 _ (by have z0 := hj16; simp only [List.mem_cons, List.not_mem_nil, or_false, not_or]; omega)).trans hT0
    replace hT1 := (hu27 _ (by have z0 := hj16; simp only [List.mem_cons, List.not_mem_nil, or_false, not_or]; omega)).trans hT1
    refine lv_aload_n hx hb d_9_4_21 rfl (lv_at hl 0 rfl) ?_
    refine q_get (ci := 11) (j := 4) (v := .ref (q 44)) C0 V i_Pri rfl rfl hT0 (by decide) w_389 rfl d_9_4_22 ?_
    refine lv_aload_n hx hb d_9_4_25 rfl (lv_at hl 0 rfl) ?_
    refine q_get (ci := 11) (j := 0) (v := .int t0_0) C0 V i_Pri rfl rfl hT0 (by decide) w_384 rfl d_9_4_26 ?_
    have hX28 := n_fx hI (n_s44 g q)
    have hj29 : t0_0.toNatClampNeg < 9 := by have z := q_clI (i := t0_0) (x := t0_0.toInt) rfl (by have t1 : 0 ≤ t0_0.toInt ∧ t0_0.toInt ≤ 9 := btt0_0; omega); have t1 : 0 ≤ t0_0.toInt ∧ t0_0.toInt ≤ 9 := btt0_0; have t2 : t0_0.toInt < 9 := b14; omega
    refine q_aald (t := 6) (q := q (48 + 2 * t0_0.toNatClampNeg)) C0 V hX28 rfl (q_ix (x := t0_0.toInt) rfl (by have t1 : 0 ≤ t0_0.toInt ∧ t0_0.toInt ≤ 9 := btt0_0; omega) (by have t1 : 0 ≤ t0_0.toInt ∧ t0_0.toInt ≤ 9 := btt0_0; have t2 : t0_0.toInt < 9 := b14; omega)) (n_ftv hj29) d_9_4_29 ?_
    refine lv_aload_n hx hb d_9_4_30 rfl (lv_at hl 0 rfl) ?_
    refine q_get (ci := 11) (j := 5) (v := .ref (q 1)) C0 V i_Pri rfl rfl hT0 (by decide) w_390 rfl d_9_4_31 ?_
    refine lv_iconst (v := 0) hx hb d_9_4_34 (by decide) ?_
    refine lv_aload_n hx hb d_9_4_35 rfl (lv_at hl 0 rfl) ?_
    refine q_get (ci := 11) (j := 5) (v := .ref (q 1)) C0 V i_Pri rfl rfl hT0 (by decide) w_390 rfl d_9_4_36 ?_
    refine q_get (ci := 1) (j := 2) (v := .int t1_0) C0 V i_She rfl rfl hT1 (by decide) w_58 rfl d_9_4_39 ?_
    refine q_gov V (q_runS (As := [.ref (q (48 + 2 * t0_0.toNatClampNeg)), .ref (q 1), .int 0, .int t1_0]) (rest := []) (d := 2) (mc := 0) (ms := 0) C0 V rfl LS_Pri_76 (T_Pri_copyInto l D g q u20 (48 + 2 * t0_0.toNatClampNeg) 64 8 64 (n_t g q hj29) 1 4100 513 4100 (n_h1 g q) 0 t1_0 hI y23 hO22 (by have y0 : (64 : Int32).toInt = 64 := rfl; have y1 : (8 : Int32).toInt = 8 := rfl; have y2 : (64 : Int32).toInt = 64 := rfl; have y3 : (4100 : Int32).toInt = 4100 := rfl; have y4 : (513 : Int32).toInt = 513 := rfl; have y5 : (4100 : Int32).toInt = 4100 := rfl; have y6 : (0 : Int32).toInt = 0 := rfl; omega) (by have y0 : (64 : Int32).toInt = 64 := rfl; have y1 : (8 : Int32).toInt = 8 := rfl; have y2 : (64 : Int32).toInt = 64 := rfl; have y3 : (4100 : Int32).toInt = 4100 := rfl; have y4 : (513 : Int32).toInt = 513 := rfl; have y5 : (4100 : Int32).toInt = 4100 := rfl; have y6 : (0 : Int32).toInt = 0 := rfl; have t1 : 0 ≤ t1_0.toInt ∧ t1_0.toInt ≤ 4100 := btt1_0; omega) (by have y0 : (64 : Int32).toInt = 64 := rfl; have y1 : (8 : Int32).toInt = 8 := rfl; have y2 : (64 : Int32).toInt = 64 := rfl; have y3 : (4100 : Int32).toInt = 4100 := rfl; have y4 : (513 : Int32).toInt = 513 := rfl; have y5 : (4100 : Int32).toInt = 4100 := rfl; have y6 : (0 : Int32).toInt = 0 := rfl; have t1 : t1_0.toInt ≤ 64 := pre0; have t2 : y23.toInt ≤ 0 := b25; omega) _) rfl hl.1 rfl (Nat.le_of_ble_eq_true rfl) ⟨by decide, by decide⟩ ⟨Nat.le_of_ble_eq_true rfl, Nat.le_of_ble_eq_true rfl⟩ d_9_4_42) (fun u30 H locs hp31 V => ?_)
    obtain ⟨hI, hu38, y33, hO32, b34, b35, b36⟩ := hp31
    replace hO32 : u30[48 + 2 * t0_0.toNatClampNeg]? = (some (q (48 + 2 * t0_0.toNatClampNeg), .inr (1, [.ref (q (48 + 2 * t0_0.toNatClampNeg + 1)), .int 64, .int y33])) : Option (Nat × va_E)) := hO32
    replace b34 : q_F (y23.toInt ≤ y33.toInt) := b34
    replace b35 : q_F (y33.toInt ≤ 64) := b35
    replace b36 : q_F (y33.toInt ≤ y23.toInt + t1_0.toInt) := b36
    replace hT0 := (hu38 _ (by have z0 := hj29; simp only [List.mem_cons, List.not_mem_nil, or_false, not_or]; omega)).trans hT0
    replace hT1 := (hu38 _ (by have z0 := hj29; simp only [List.mem_cons, List.not_mem_nil, or_false, not_or]; omega)).trans hT1
    refine lv_aload_n hx hb d_9_4_45 rfl (lv_at hl 0 rfl) ?_
    refine lv_iconst (v := 4) hx hb d_9_4_46 (by decide) ?_
    refine lv_lconst (v := 0) hx hb d_9_4_47 (by decide) ?_
    refine lv_iconst (v := 0) hx hb d_9_4_48 (by decide) ?_
    refine q_gov V (q_runV (As := [.int 4, .long 0, .int 0]) (rest := []) (d := 1) (mc := 0) (ms := 0) (ci := 11) C0 V rfl LV_Pri_80 (T_Pri_addNumber l D g q u30  4 0 0 hI t0_0 t0_1 t0_2 t0_3 hT0 (by have y0 : (4 : Int32).toInt = 4 := rfl; have y1 : (0 : Int64).toInt = 0 := rfl; have y2 : (0 : Int32).toInt = 0 := rfl; omega) (by have y0 : (4 : Int32).toInt = 4 := rfl; have y1 : (0 : Int64).toInt = 0 := rfl; have y2 : (0 : Int32).toInt = 0 := rfl; omega) _) rfl rfl hT0 rfl hl.1 rfl (Nat.le_of_ble_eq_true rfl) ⟨by decide, by decide⟩ ⟨Nat.le_of_ble_eq_true rfl, Nat.le_of_ble_eq_true rfl⟩ d_9_4_49) (fun u39 H locs hp40 V => ?_)
    obtain ⟨hI, hu57, y42, y43, y44, y45, hO41, b46, b47, b48, b49, b50, b51, b52, b53, b54, b55⟩ := hp40
    replace hO41 : u39[40]? = (some (q 40, .inr (11, [.int y42, .ref (q 41), .ref (q 42), .ref (q 43), .ref (q 44), .ref (q 1), .ref (q 47), .ref (q 36), .ref (q 45), .int y43, .int y44, .int y45])) : Option (Nat × va_E)) := hO41
    replace b46 : q_F (1 ≤ y42.toInt) := b46
    replace b47 : q_F (y42.toInt ≤ 9) := b47
    replace b48 : q_F (t0_0.toInt ≤ y42.toInt) := b48
    replace b49 : q_F (y42.toInt ≤ t0_0.toInt + 1) := b49
    replace b50 : q_F (t0_1.toInt ≤ y43.toInt) := b50
    replace b51 : q_F (y43.toInt ≤ t0_1.toInt) := b51
    replace b52 : q_F (t0_2.toInt ≤ y44.toInt) := b52
    replace b53 : q_F (y44.toInt ≤ t0_2.toInt) := b53
    replace b54 : q_F (t0_3.toInt ≤ y45.toInt) := b54
    replace b55 : q_F (y45.toInt ≤ t0_3.toInt) := b55
    replace hT1 := (hu57 _ (by decide)).trans hT1
    replace hO32 := (hu57 _ (by have z0 := hj29; simp only [List.mem_cons, List.not_mem_nil, or_false, not_or]; omega)).trans hO32
    exact q_retv C0 V (⟨hI, y42, y43, y44, y45, t1_0, hO41, hT1, (show 1 ≤ y42.toInt from (by have t1 : 1 ≤ y42.toInt := b46; omega)), (show y42.toInt ≤ 9 from (by have t1 : y42.toInt ≤ 9 := b47; omega)), (show t0_0.toInt ≤ y42.toInt from (by have t1 : t0_0.toInt ≤ y42.toInt := b48; omega)), (show y42.toInt ≤ t0_0.toInt + 1 from (by have t1 : y42.toInt ≤ t0_0.toInt + 1 := b49; omega)), (show t0_1.toInt ≤ y43.toInt from (by have t1 : t0_1.toInt ≤ y43.toInt := b50; omega)), (show y43.toInt ≤ t0_1.toInt from (by have t1 : y43.toInt ≤ t0_1.toInt := b51; omega)), (show t0_2.toInt ≤ y44.toInt from (by have t1 : t0_2.toInt ≤ y44.toInt := b52; omega)), (show y44.toInt ≤ t0_2.toInt from (by have t1 : y44.toInt ≤ t0_2.toInt := b53; omega)), (show t0_3.toInt ≤ y45.toInt from (by have t1 : t0_3.toInt ≤ y45.toInt := b54; omega)), (show y45.toInt ≤ t0_3.toInt from (by have t1 : y45.toInt ≤ t0_3.toInt := b55; omega)), (show t1_0.toInt ≤ t1_0.toInt from (by omega)), (show t1_0.toInt ≤ t1_0.toInt from (by omega))⟩) d_9_4_52
theorem d_9_7_0 : decode prog_9_method_7_code 0 = .ok (.aload_n 0, 1) := by decide +kernel
theorem d_9_7_1 : decode prog_9_method_7_code 1 = .ok (.getfield 47, 3) := by decide +kernel
theorem d_9_7_4 : decode prog_9_method_7_code 4 = .ok (.bipush 64, 2) := by decide +kernel
theorem d_9_7_6 : decode prog_9_method_7_code 6 = .ok (.invokevirtual 144, 3) := by decide +kernel
set_option maxRecDepth 100000 in
theorem w_1836 : (Cond.methodLink "NumberHouse$Printer" (144 : Nat) ({ cls := "NumberHouse$Directive", name := "has", desc := "(I)Z" } : MethodName)) ∈ q_tbl := q_of8 156 rfl (by decide +kernel)
theorem LV_Pri_144 : q_LV "NumberHouse$Printer" 144 y_Dir_has prog_6_method_8_code 2 (some .boolean) 1 := ⟨w_1807, w_13, w_1836, w_1805, w_1806, ⟨by decide, by decide, by decide +kernel⟩⟩
theorem d_9_7_9 : decode prog_9_method_7_code 9 = .ok (.ifCond .eq 8, 3) := by decide +kernel
theorem d_9_7_17 : decode prog_9_method_7_code 17 = .ok (.aload_n 0, 1) := by decide +kernel
theorem d_9_7_18 : decode prog_9_method_7_code 18 = .ok (.getfield 47, 3) := by decide +kernel
theorem d_9_7_21 : decode prog_9_method_7_code 21 = .ok (.getfield 147, 3) := by decide +kernel
set_option maxRecDepth 100000 in
theorem w_355 : (Cond.fieldLink "NumberHouse$Printer" (147 : Nat) "NumberHouse$Directive" "index" "I") ∈ q_tbl := q_of2 115 rfl (by decide +kernel)
theorem d_9_7_24 : decode prog_9_method_7_code 24 = .ok (.iconst (-1), 1) := by decide +kernel
theorem d_9_7_25 : decode prog_9_method_7_code 25 = .ok (.if_icmp .eq 13, 3) := by decide +kernel
theorem d_9_7_38 : decode prog_9_method_7_code 38 = .ok (.aload_n 0, 1) := by decide +kernel
theorem d_9_7_39 : decode prog_9_method_7_code 39 = .ok (.dup, 1) := by decide +kernel
theorem d_9_7_40 : decode prog_9_method_7_code 40 = .ok (.getfield 84, 3) := by decide +kernel
set_option maxRecDepth 100000 in
theorem w_395 : (Cond.fieldLink "NumberHouse$Printer" (84 : Nat) "NumberHouse$Printer" "ordinary" "I") ∈ q_tbl := q_of2 155 rfl (by decide +kernel)
theorem d_9_7_43 : decode prog_9_method_7_code 43 = .ok (.iconst 1, 1) := by decide +kernel
theorem d_9_7_44 : decode prog_9_method_7_code 44 = .ok (.iadd, 1) := by decide +kernel
theorem d_9_7_45 : decode prog_9_method_7_code 45 = .ok (.putfield 84, 3) := by decide +kernel
theorem d_9_7_48 : decode prog_9_method_7_code 48 = .ok (.aload_n 0, 1) := by decide +kernel
theorem d_9_7_49 : decode prog_9_method_7_code 49 = .ok (.getfield 84, 3) := by decide +kernel
theorem d_9_7_52 : decode prog_9_method_7_code 52 = .ok (.iconst 1, 1) := by decide +kernel
theorem d_9_7_53 : decode prog_9_method_7_code 53 = .ok (.isub, 1) := by decide +kernel
theorem d_9_7_54 : decode prog_9_method_7_code 54 = .ok (.ireturn, 1) := by decide +kernel
theorem d_9_7_28 : decode prog_9_method_7_code 28 = .ok (.aload_n 0, 1) := by decide +kernel
theorem d_9_7_29 : decode prog_9_method_7_code 29 = .ok (.getfield 47, 3) := by decide +kernel
theorem d_9_7_32 : decode prog_9_method_7_code 32 = .ok (.getfield 147, 3) := by decide +kernel
theorem d_9_7_35 : decode prog_9_method_7_code 35 = .ok (.iconst 1, 1) := by decide +kernel
theorem d_9_7_36 : decode prog_9_method_7_code 36 = .ok (.isub, 1) := by decide +kernel
theorem d_9_7_37 : decode prog_9_method_7_code 37 = .ok (.ireturn, 1) := by decide +kernel
theorem d_9_7_12 : decode prog_9_method_7_code 12 = .ok (.aload_n 0, 1) := by decide +kernel
theorem d_9_7_13 : decode prog_9_method_7_code 13 = .ok (.getfield 87, 3) := by decide +kernel
set_option maxRecDepth 100000 in
theorem w_396 : (Cond.fieldLink "NumberHouse$Printer" (87 : Nat) "NumberHouse$Printer" "last" "I") ∈ q_tbl := q_of2 156 rfl (by decide +kernel)
theorem d_9_7_16 : decode prog_9_method_7_code 16 = .ok (.ireturn, 1) := by decide +kernel
def y_Pri_chooseArgument : MethodName := ⟨"NumberHouse$Printer", "chooseArgument", "()I"⟩
set_option maxRecDepth 100000 in
set_option maxHeartbeats 4000000 in
theorem T_Pri_chooseArgument (l : Launch) (D : va_G) (g : Nat → ClassId) (q : Nat → Nat) (ws : va_W) (hI : q_I (nsh g q) q ws) (t0_0 : Int32) (t0_1 : Int32) (t0_2 : Int32) (t0_3 : Int32) (hT0 : ws[40]? = (some (q 40, .inr (11, [.int t0_0, .ref (q 41), .ref (q 42), .ref (q 43), .ref (q 44), .ref (q 1), .ref (q 47), .ref (q 36), .ref (q 45), .int t0_1, .int t0_2, .int t0_3])) : Option (Nat × va_E))) (t1_0 : Int32) (t1_1 : Int32) (t1_2 : Int32) (t1_3 : Int32) (t1_4 : Int32) (t1_5 : Int32) (t1_6 : Int32) (hT1 : ws[47]? = (some (q 47, .inr (10, [.int t1_0, .int t1_1, .int t1_2, .int t1_3, .int t1_4, .int t1_5, .ref (q 1), .int t1_6])) : Option (Nat × va_E))) : q_mI l y_Pri_chooseArgument prog_9_method_7_code 1 (.int) 2 0 0 D g [.ref (q 40)] ws (fun r u => q_I (nsh g q) q u ∧ q_un ws u [40] ∧ ∃ (u0_0 : Int32) (u0_1 : Int32) (u0_2 : Int32) (u0_3 : Int32), u[40]? = (some (q 40, .inr (11, [.int u0_0, .ref (q 41), .ref (q 42), .ref (q 43), .ref (q 44), .ref (q 1), .ref (q 47), .ref (q 36), .ref (q 45), .int u0_1, .int u0_2, .int u0_3])) : Option (Nat × va_E)) ∧ (t0_0.toInt ≤ u0_0.toInt) ∧ (u0_0.toInt ≤ t0_0.toInt) ∧ (t0_1.toInt ≤ u0_1.toInt) ∧ (u0_1.toInt ≤ t0_1.toInt) ∧ (t0_3.toInt ≤ u0_3.toInt) ∧ (u0_3.toInt ≤ t0_3.toInt)) := by
  intro sz
  refine q_into (by decide) (Nat.le_of_ble_eq_true rfl) ?_
  intro p e s m below meth c ls hsz C0 V hl
  have hx := C0.1
  have hb := C0.2.1
  obtain ⟨yy0_0, yy0_1, yy0_2, yy0_3, hh0, btt0_0, btt0_1, btt0_3⟩ := n_o40 hI
  obtain ⟨rfl, rfl, rfl, rfl⟩ : t0_0 = yy0_0 ∧ t0_1 = yy0_1 ∧ t0_2 = yy0_2 ∧ t0_3 = yy0_3 := by have z := Option.some.inj (hT0.symm.trans hh0); simpa using z
  replace btt0_0 : q_F (0 ≤ t0_0.toInt ∧ t0_0.toInt ≤ 9) := btt0_0
  replace btt0_1 : q_F (-1 ≤ t0_1.toInt ∧ t0_1.toInt ≤ 1000000) := btt0_1
  replace btt0_3 : q_F (-1 ≤ t0_3.toInt ∧ t0_3.toInt ≤ 8) := btt0_3
  obtain ⟨yy1_0, yy1_1, yy1_2, yy1_3, yy1_4, yy1_5, yy1_6, hh1, btt1_2, btt1_3, btt1_6⟩ := n_o47 hI
  obtain ⟨rfl, rfl, rfl, rfl, rfl, rfl, rfl⟩ : t1_0 = yy1_0 ∧ t1_1 = yy1_1 ∧ t1_2 = yy1_2 ∧ t1_3 = yy1_3 ∧ t1_4 = yy1_4 ∧ t1_5 = yy1_5 ∧ t1_6 = yy1_6 := by have z := Option.some.inj (hT1.symm.trans hh1); simpa using z
  replace btt1_2 : q_F (-1 ≤ t1_2.toInt ∧ t1_2.toInt ≤ 9999) := btt1_2
  replace btt1_3 : q_F (-1 ≤ t1_3.toInt ∧ t1_3.toInt ≤ 9999) := btt1_3
  replace btt1_6 : q_F (0 ≤ t1_6.toInt ∧ t1_6.toInt ≤ 1) := btt1_6
  have hF : q_un ws ws [40] := q_u0
  have hl : lv_has ls 1 [(0, .ref (q 40))] := hl
  refine lv_aload_n hx hb d_9_7_0 rfl (lv_at hl 0 rfl) ?_
  refine q_get (ci := 11) (j := 6) (v := .ref (q 47)) C0 V i_Pri rfl rfl hT0 (by decide) w_391 rfl d_9_7_1 ?_
  refine lv_bipush (v := 64) hx hb d_9_7_4 (by decide) ?_
  refine q_goi V (q_runV (As := [.int 64]) (rest := []) (d := 1) (mc := 0) (ms := 0) (ci := 10) C0 V rfl LV_Pri_144 (T_Dir_has l D g q ws  64 hI   _) rfl rfl hT1 rfl hl.1 rfl (Nat.le_of_ble_eq_true rfl) ⟨by decide, by decide⟩ ⟨Nat.le_of_ble_eq_true rfl, Nat.le_of_ble_eq_true rfl⟩ d_9_7_6) (fun a22 u20 H locs hp21 V => ?_)
  obtain ⟨rfl, b23, b24⟩ := hp21
  replace b23 : q_F (0 ≤ a22.toInt) := b23
  replace b24 : q_F (a22.toInt ≤ 1) := b24
  refine lv_if_eq (tgt := 17) hx hb d_9_7_9 (by decide) (fun c26 => ?_) (fun c26 => ?_)
  ·
    have b27 : q_F (a22.toInt = 0) := (q_eqI c26)
    refine lv_aload_n hx hb d_9_7_17 rfl (lv_at hl 0 rfl) ?_
    refine q_get (ci := 11) (j := 6) (v := .ref (q 47)) C0 V i_Pri rfl rfl hT0 (by decide) w_391 rfl d_9_7_18 ?_
    refine q_get (ci := 10) (j := 0) (v := .int t1_0) C0 V i_Dir rfl rfl hT1 (by decide) w_355 rfl d_9_7_21 ?_
    refine lv_iconst (v := (-1)) hx hb d_9_7_24 (by decide) ?_
    refine lv_icmp_eq (tgt := 38) hx hb d_9_7_25 (by decide) (fun c28 => ?_) (fun c28 => ?_)
    ·
      have b29 : q_F (t1_0.toInt = (-1)) := (q_eqI c28)
      refine lv_aload_n hx hb d_9_7_38 rfl (lv_at hl 0 rfl) ?_
      refine lv_dup hx hb d_9_7_39 rfl ?_
      refine q_get (ci := 11) (j := 10) (v := .int t0_2) C0 V i_Pri rfl rfl hT0 (by decide) w_395 rfl d_9_7_40 ?_
      refine lv_iconst (v := 1) hx hb d_9_7_43 (by decide) ?_
      refine lv_iadd hx hb d_9_7_44 ?_
      obtain ⟨a30, e31⟩ := q_nm (t0_2 + 1 : Int32)
      refine q_ti (v := a30) e31 ?_
      refine q_put (ci := 11) (j := 10) (v := .int a30) (ty := .int) C0 V i_Pri o_Pri n_Pri rfl rfl hT0 (by decide) w_395 rfl rfl rfl rfl (Nat.le_of_ble_eq_true rfl) d_9_7_45 (fun H locs w32 hu33 hT0 V => ?_)
      replace hT0 : w32[40]? = (some (q 40, .inr (11, [.int t0_0, .ref (q 41), .ref (q 42), .ref (q 43), .ref (q 44), .ref (q 1), .ref (q 47), .ref (q 36), .ref (q 45), .int t0_1, .int a30, .int t0_3])) : Option (Nat × va_E)) := hT0
      replace hI := n_p40 hI hu33 hT0 ⟨(by have t1 : 0 ≤ t0_0.toInt ∧ t0_0.toInt ≤ 9 := btt0_0; omega), (by have t1 : 0 ≤ t0_0.toInt ∧ t0_0.toInt ≤ 9 := btt0_0; omega)⟩ ⟨(by have t1 : -1 ≤ t0_1.toInt ∧ t0_1.toInt ≤ 1000000 := btt0_1; omega), (by have t1 : -1 ≤ t0_1.toInt ∧ t0_1.toInt ≤ 1000000 := btt0_1; omega)⟩ ⟨(by have t1 : -1 ≤ t0_3.toInt ∧ t0_3.toInt ≤ 8 := btt0_3; omega), (by have t1 : -1 ≤ t0_3.toInt ∧ t0_3.toInt ≤ 8 := btt0_3; omega)⟩
      replace hT1 := (hu33 _ (by decide)).trans hT1
      replace hF := q_us hF hu33 (by simp)
      refine lv_aload_n hx hb d_9_7_48 rfl (lv_at hl 0 rfl) ?_
      refine q_get (ci := 11) (j := 10) (v := .int a30) C0 V i_Pri rfl rfl hT0 (by decide) w_395 rfl d_9_7_49 ?_
      refine lv_iconst (v := 1) hx hb d_9_7_52 (by decide) ?_
      refine lv_isub hx hb d_9_7_53 ?_
      obtain ⟨a34, e35⟩ := q_nm (a30 - 1 : Int32)
      refine q_ti (v := a34) e35 ?_
      exact q_reti C0 V (⟨hI, hF, t0_0, t0_1, a30, t0_3, hT0, (show t0_0.toInt ≤ t0_0.toInt from (by omega)), (show t0_0.toInt ≤ t0_0.toInt from (by omega)), (show t0_1.toInt ≤ t0_1.toInt from (by omega)), (show t0_1.toInt ≤ t0_1.toInt from (by omega)), (show t0_3.toInt ≤ t0_3.toInt from (by omega)), (show t0_3.toInt ≤ t0_3.toInt from (by omega))⟩) d_9_7_54
    ·
      have b36 : q_F (t1_0.toInt ≠ (-1)) := (q_neI c28)
      refine lv_aload_n hx hb d_9_7_28 rfl (lv_at hl 0 rfl) ?_
      refine q_get (ci := 11) (j := 6) (v := .ref (q 47)) C0 V i_Pri rfl rfl hT0 (by decide) w_391 rfl d_9_7_29 ?_
      refine q_get (ci := 10) (j := 0) (v := .int t1_0) C0 V i_Dir rfl rfl hT1 (by decide) w_355 rfl d_9_7_32 ?_
      refine lv_iconst (v := 1) hx hb d_9_7_35 (by decide) ?_
      refine lv_isub hx hb d_9_7_36 ?_
      obtain ⟨a37, e38⟩ := q_nm (t1_0 - 1 : Int32)
      refine q_ti (v := a37) e38 ?_
      exact q_reti C0 V (⟨hI, hF, t0_0, t0_1, t0_2, t0_3, hT0, (show t0_0.toInt ≤ t0_0.toInt from (by omega)), (show t0_0.toInt ≤ t0_0.toInt from (by omega)), (show t0_1.toInt ≤ t0_1.toInt from (by omega)), (show t0_1.toInt ≤ t0_1.toInt from (by omega)), (show t0_3.toInt ≤ t0_3.toInt from (by omega)), (show t0_3.toInt ≤ t0_3.toInt from (by omega))⟩) d_9_7_37
  ·
    have b39 : q_F (a22.toInt ≠ 0) := (q_neI c26)
    refine lv_aload_n hx hb d_9_7_12 rfl (lv_at hl 0 rfl) ?_
    refine q_get (ci := 11) (j := 11) (v := .int t0_3) C0 V i_Pri rfl rfl hT0 (by decide) w_396 rfl d_9_7_13 ?_
    exact q_reti C0 V (⟨hI, hF, t0_0, t0_1, t0_2, t0_3, hT0, (show t0_0.toInt ≤ t0_0.toInt from (by omega)), (show t0_0.toInt ≤ t0_0.toInt from (by omega)), (show t0_1.toInt ≤ t0_1.toInt from (by omega)), (show t0_1.toInt ≤ t0_1.toInt from (by omega)), (show t0_3.toInt ≤ t0_3.toInt from (by omega)), (show t0_3.toInt ≤ t0_3.toInt from (by omega))⟩) d_9_7_16
theorem d_9_8_0 : decode prog_9_method_8_code 0 = .ok (.iload_n 1, 1) := by decide +kernel
theorem d_9_8_1 : decode prog_9_method_8_code 1 = .ok (.ifCond .eq 15, 3) := by decide +kernel
theorem d_9_8_16 : decode prog_9_method_8_code 16 = .ok (.iconst 1, 1) := by decide +kernel
theorem d_9_8_17 : decode prog_9_method_8_code 17 = .ok (.ireturn, 1) := by decide +kernel
theorem d_9_8_4 : decode prog_9_method_8_code 4 = .ok (.aload_n 0, 1) := by decide +kernel
theorem d_9_8_5 : decode prog_9_method_8_code 5 = .ok (.getfield 47, 3) := by decide +kernel
theorem d_9_8_8 : decode prog_9_method_8_code 8 = .ok (.ldc 150, 2) := by decide +kernel
theorem d_9_8_10 : decode prog_9_method_8_code 10 = .ok (.invokevirtual 133, 3) := by decide +kernel
set_option maxRecDepth 100000 in
theorem w_1831 : (Cond.methodLink "NumberHouse$Printer" (133 : Nat) ({ cls := "NumberHouse$Directive", name := "isOneOf", desc := "(Ljava/lang/String;)Z" } : MethodName)) ∈ q_tbl := q_of8 151 rfl (by decide +kernel)
theorem LV_Pri_133 : q_LV "NumberHouse$Printer" 133 y_Dir_isOneOf prog_6_method_9_code 2 (some .boolean) 1 := ⟨w_1820, w_13, w_1831, w_1818, w_1819, ⟨by decide, by decide, by decide +kernel⟩⟩
theorem d_9_8_13 : decode prog_9_method_8_code 13 = .ok (.ifCond .eq 5, 3) := by decide +kernel
theorem d_9_8_18 : decode prog_9_method_8_code 18 = .ok (.aload_n 0, 1) := by decide +kernel
theorem d_9_8_19 : decode prog_9_method_8_code 19 = .ok (.getfield 47, 3) := by decide +kernel
theorem d_9_8_22 : decode prog_9_method_8_code 22 = .ok (.ldc 152, 2) := by decide +kernel
theorem d_9_8_24 : decode prog_9_method_8_code 24 = .ok (.invokevirtual 133, 3) := by decide +kernel
theorem d_9_8_27 : decode prog_9_method_8_code 27 = .ok (.ifCond .eq 14, 3) := by decide +kernel
theorem d_9_8_41 : decode prog_9_method_8_code 41 = .ok (.iload_n 1, 1) := by decide +kernel
theorem d_9_8_42 : decode prog_9_method_8_code 42 = .ok (.aload_n 0, 1) := by decide +kernel
theorem d_9_8_43 : decode prog_9_method_8_code 43 = .ok (.getfield 47, 3) := by decide +kernel
theorem d_9_8_46 : decode prog_9_method_8_code 46 = .ok (.ldc 154, 2) := by decide +kernel
theorem d_9_8_48 : decode prog_9_method_8_code 48 = .ok (.invokevirtual 133, 3) := by decide +kernel
theorem d_9_8_51 : decode prog_9_method_8_code 51 = .ok (.ifCond .eq 7, 3) := by decide +kernel
theorem d_9_8_58 : decode prog_9_method_8_code 58 = .ok (.iconst 5, 1) := by decide +kernel
theorem d_9_8_59 : decode prog_9_method_8_code 59 = .ok (.if_icmp .ne 7, 3) := by decide +kernel
theorem d_9_8_66 : decode prog_9_method_8_code 66 = .ok (.iconst 0, 1) := by decide +kernel
theorem d_9_8_67 : decode prog_9_method_8_code 67 = .ok (.ireturn, 1) := by decide +kernel
theorem d_9_8_62 : decode prog_9_method_8_code 62 = .ok (.iconst 1, 1) := by decide +kernel
theorem d_9_8_63 : decode prog_9_method_8_code 63 = .ok (.goto 4, 3) := by decide +kernel
theorem d_9_8_54 : decode prog_9_method_8_code 54 = .ok (.iconst 3, 1) := by decide +kernel
theorem d_9_8_55 : decode prog_9_method_8_code 55 = .ok (.goto 4, 3) := by decide +kernel
theorem d_9_8_30 : decode prog_9_method_8_code 30 = .ok (.iload_n 1, 1) := by decide +kernel
theorem d_9_8_31 : decode prog_9_method_8_code 31 = .ok (.iconst 2, 1) := by decide +kernel
theorem d_9_8_32 : decode prog_9_method_8_code 32 = .ok (.if_icmp .ne 7, 3) := by decide +kernel
theorem d_9_8_39 : decode prog_9_method_8_code 39 = .ok (.iconst 0, 1) := by decide +kernel
theorem d_9_8_40 : decode prog_9_method_8_code 40 = .ok (.ireturn, 1) := by decide +kernel
theorem d_9_8_35 : decode prog_9_method_8_code 35 = .ok (.iconst 1, 1) := by decide +kernel
theorem d_9_8_36 : decode prog_9_method_8_code 36 = .ok (.goto 4, 3) := by decide +kernel
def y_Pri_takesKind : MethodName := ⟨"NumberHouse$Printer", "takesKind", "(I)Z"⟩
set_option maxRecDepth 100000 in
set_option maxHeartbeats 4000000 in
theorem T_Pri_takesKind (l : Launch) (D : va_G) (g : Nat → ClassId) (q : Nat → Nat) (ws : va_W) (x2 : Int32) (hI : q_I (nsh g q) q ws) : q_mI l y_Pri_takesKind prog_9_method_8_code 2 (.boolean) 6 0 0 D g [.ref (q 40), .int x2] ws (fun r u => ws = u ∧ (0 ≤ r.toInt) ∧ (r.toInt ≤ 1)) := by
  intro sz
  refine q_into (by decide) (Nat.le_of_ble_eq_true rfl) ?_
  intro p e s m below meth c ls hsz C0 V hl
  have hx := C0.1
  have hb := C0.2.1
  have hl : lv_has ls 2 [(0, .ref (q 40)), (1, .int x2)] := hl
  refine lv_iload_n hx hb d_9_8_0 rfl (lv_at hl 1 rfl) ?_
  refine lv_if_eq (tgt := 16) hx hb d_9_8_1 (by decide) (fun c1 => ?_) (fun c1 => ?_)
  ·
    have b2 : q_F (x2.toInt = 0) := (q_eqI c1)
    refine lv_iconst (v := 1) hx hb d_9_8_16 (by decide) ?_
    exact q_retz C0 V (by decide) (⟨rfl, (show 0 ≤ (1 : Int32).toInt from (by have z1 : (1 : Int32).toInt = 1 := rfl; omega)), (show (1 : Int32).toInt ≤ 1 from (by have z1 : (1 : Int32).toInt = 1 := rfl; omega))⟩) d_9_8_17
  ·
    have b3 : q_F (x2.toInt ≠ 0) := (q_neI c1)
    refine lv_aload_n hx hb d_9_8_4 rfl (lv_at hl 0 rfl) ?_
    obtain ⟨y5, y7, y9, y10, hO4, b6, b8, b11⟩ := n_o40 hI
    replace b6 : q_F (0 ≤ y5.toInt ∧ y5.toInt ≤ 9) := b6
    replace b8 : q_F (-1 ≤ y7.toInt ∧ y7.toInt ≤ 1000000) := b8
    replace b11 : q_F (-1 ≤ y10.toInt ∧ y10.toInt ≤ 8) := b11
    refine q_get (ci := 11) (j := 6) (v := .ref (q 47)) C0 V i_Pri rfl rfl hO4 (by decide) w_391 rfl d_9_8_5 ?_
    refine q_ldcs (i := 8) C0 V rfl rfl d_9_8_8 ?_
    obtain ⟨y13, y14, y15, y17, y19, y20, y21, hO12, b16, b18, b22⟩ := n_o47 hI
    replace b16 : q_F (-1 ≤ y15.toInt ∧ y15.toInt ≤ 9999) := b16
    replace b18 : q_F (-1 ≤ y17.toInt ∧ y17.toInt ≤ 9999) := b18
    replace b22 : q_F (0 ≤ y21.toInt ∧ y21.toInt ≤ 1) := b22
    refine q_goi V (q_runV (As := [.ref (g (8 + 2 * 8))]) (rest := []) (d := 5) (mc := 0) (ms := 0) (ci := 10) C0 V rfl LV_Pri_133 (T_Dir_isOneOf_8 l D g q ws   hI   _) rfl rfl hO12 rfl hl.1 rfl (Nat.le_of_ble_eq_true rfl) ⟨by decide, by decide⟩ ⟨Nat.le_of_ble_eq_true rfl, Nat.le_of_ble_eq_true rfl⟩ d_9_8_10) (fun a25 u23 H locs hp24 V => ?_)
    obtain ⟨rfl, b26, b27⟩ := hp24
    replace b26 : q_F (0 ≤ a25.toInt) := b26
    replace b27 : q_F (a25.toInt ≤ 1) := b27
    refine lv_if_eq (tgt := 18) hx hb d_9_8_13 (by decide) (fun c29 => ?_) (fun c29 => ?_)
    ·
      have b30 : q_F (a25.toInt = 0) := (q_eqI c29)
      refine lv_aload_n hx hb d_9_8_18 rfl (lv_at hl 0 rfl) ?_
      refine q_get (ci := 11) (j := 6) (v := .ref (q 47)) C0 V i_Pri rfl rfl hO4 (by decide) w_391 rfl d_9_8_19 ?_
      refine q_ldcs (i := 9) C0 V rfl rfl d_9_8_22 ?_
      refine q_goi V (q_runV (As := [.ref (g (8 + 2 * 9))]) (rest := []) (d := 5) (mc := 0) (ms := 0) (ci := 10) C0 V rfl LV_Pri_133 (T_Dir_isOneOf_9 l D g q ws   hI   _) rfl rfl hO12 rfl hl.1 rfl (Nat.le_of_ble_eq_true rfl) ⟨by decide, by decide⟩ ⟨Nat.le_of_ble_eq_true rfl, Nat.le_of_ble_eq_true rfl⟩ d_9_8_24) (fun a33 u31 H locs hp32 V => ?_)
      obtain ⟨rfl, b34, b35⟩ := hp32
      replace b34 : q_F (0 ≤ a33.toInt) := b34
      replace b35 : q_F (a33.toInt ≤ 1) := b35
      refine lv_if_eq (tgt := 41) hx hb d_9_8_27 (by decide) (fun c37 => ?_) (fun c37 => ?_)
      ·
        have b38 : q_F (a33.toInt = 0) := (q_eqI c37)
        refine lv_iload_n hx hb d_9_8_41 rfl (lv_at hl 1 rfl) ?_
        refine lv_aload_n hx hb d_9_8_42 rfl (lv_at hl 0 rfl) ?_
        refine q_get (ci := 11) (j := 6) (v := .ref (q 47)) C0 V i_Pri rfl rfl hO4 (by decide) w_391 rfl d_9_8_43 ?_
        refine q_ldcs (i := 10) C0 V rfl rfl d_9_8_46 ?_
        refine q_goi V (q_runV (As := [.ref (g (8 + 2 * 10))]) (rest := [.int x2]) (d := 5) (mc := 0) (ms := 0) (ci := 10) C0 V rfl LV_Pri_133 (T_Dir_isOneOf_10 l D g q ws   hI   _) rfl rfl hO12 rfl hl.1 rfl (Nat.le_of_ble_eq_true rfl) ⟨by decide, by decide⟩ ⟨Nat.le_of_ble_eq_true rfl, Nat.le_of_ble_eq_true rfl⟩ d_9_8_48) (fun a41 u39 H locs hp40 V => ?_)
        obtain ⟨rfl, b42, b43⟩ := hp40
        replace b42 : q_F (0 ≤ a41.toInt) := b42
        replace b43 : q_F (a41.toInt ≤ 1) := b43
        refine lv_if_eq (tgt := 58) hx hb d_9_8_51 (by decide) (fun c45 => ?_) (fun c45 => ?_)
        ·
          have b46 : q_F (a41.toInt = 0) := (q_eqI c45)
          refine lv_iconst (v := 5) hx hb d_9_8_58 (by decide) ?_
          refine lv_icmp_ne (tgt := 66) hx hb d_9_8_59 (by decide) (fun c47 => ?_) (fun c47 => ?_)
          ·
            have b48 : q_F (x2.toInt ≠ 5) := (q_neI c47)
            refine lv_iconst (v := 0) hx hb d_9_8_66 (by decide) ?_
            exact q_retz C0 V (by decide) (⟨rfl, (show 0 ≤ (0 : Int32).toInt from (by have z1 : (0 : Int32).toInt = 0 := rfl; omega)), (show (0 : Int32).toInt ≤ 1 from (by have z1 : (0 : Int32).toInt = 0 := rfl; omega))⟩) d_9_8_67
          ·
            have b49 : q_F (x2.toInt = 5) := (q_eqI c47)
            refine lv_iconst (v := 1) hx hb d_9_8_62 (by decide) ?_
            refine lv_goto (tgt := 67) hx hb d_9_8_63 (by decide) ?_
            exact q_retz C0 V (by decide) (⟨rfl, (show 0 ≤ (1 : Int32).toInt from (by have z1 : (1 : Int32).toInt = 1 := rfl; omega)), (show (1 : Int32).toInt ≤ 1 from (by have z1 : (1 : Int32).toInt = 1 := rfl; omega))⟩) d_9_8_67
        ·
          have b50 : q_F (a41.toInt ≠ 0) := (q_neI c45)
          refine lv_iconst (v := 3) hx hb d_9_8_54 (by decide) ?_
          refine lv_goto (tgt := 59) hx hb d_9_8_55 (by decide) ?_
          refine lv_icmp_ne (tgt := 66) hx hb d_9_8_59 (by decide) (fun c51 => ?_) (fun c51 => ?_)
          ·
            have b52 : q_F (x2.toInt ≠ 3) := (q_neI c51)
            refine lv_iconst (v := 0) hx hb d_9_8_66 (by decide) ?_
            exact q_retz C0 V (by decide) (⟨rfl, (show 0 ≤ (0 : Int32).toInt from (by have z1 : (0 : Int32).toInt = 0 := rfl; omega)), (show (0 : Int32).toInt ≤ 1 from (by have z1 : (0 : Int32).toInt = 0 := rfl; omega))⟩) d_9_8_67
          ·
            have b53 : q_F (x2.toInt = 3) := (q_eqI c51)
            refine lv_iconst (v := 1) hx hb d_9_8_62 (by decide) ?_
            refine lv_goto (tgt := 67) hx hb d_9_8_63 (by decide) ?_
            exact q_retz C0 V (by decide) (⟨rfl, (show 0 ≤ (1 : Int32).toInt from (by have z1 : (1 : Int32).toInt = 1 := rfl; omega)), (show (1 : Int32).toInt ≤ 1 from (by have z1 : (1 : Int32).toInt = 1 := rfl; omega))⟩) d_9_8_67
      ·
        have b54 : q_F (a33.toInt ≠ 0) := (q_neI c37)
        refine lv_iload_n hx hb d_9_8_30 rfl (lv_at hl 1 rfl) ?_
        refine lv_iconst (v := 2) hx hb d_9_8_31 (by decide) ?_
        refine lv_icmp_ne (tgt := 39) hx hb d_9_8_32 (by decide) (fun c55 => ?_) (fun c55 => ?_)
        ·
          have b56 : q_F (x2.toInt ≠ 2) := (q_neI c55)
          refine lv_iconst (v := 0) hx hb d_9_8_39 (by decide) ?_
          exact q_retz C0 V (by decide) (⟨rfl, (show 0 ≤ (0 : Int32).toInt from (by have z1 : (0 : Int32).toInt = 0 := rfl; omega)), (show (0 : Int32).toInt ≤ 1 from (by have z1 : (0 : Int32).toInt = 0 := rfl; omega))⟩) d_9_8_40
        ·
          have b57 : q_F (x2.toInt = 2) := (q_eqI c55)
          refine lv_iconst (v := 1) hx hb d_9_8_35 (by decide) ?_
          refine lv_goto (tgt := 40) hx hb d_9_8_36 (by decide) ?_
          exact q_retz C0 V (by decide) (⟨rfl, (show 0 ≤ (1 : Int32).toInt from (by have z1 : (1 : Int32).toInt = 1 := rfl; omega)), (show (1 : Int32).toInt ≤ 1 from (by have z1 : (1 : Int32).toInt = 1 := rfl; omega))⟩) d_9_8_40
    ·
      have b58 : q_F (a25.toInt ≠ 0) := (q_neI c29)
      refine lv_iconst (v := 1) hx hb d_9_8_16 (by decide) ?_
      exact q_retz C0 V (by decide) (⟨rfl, (show 0 ≤ (1 : Int32).toInt from (by have z1 : (1 : Int32).toInt = 1 := rfl; omega)), (show (1 : Int32).toInt ≤ 1 from (by have z1 : (1 : Int32).toInt = 1 := rfl; omega))⟩) d_9_8_17
theorem d_9_6_0 : decode prog_9_method_6_code 0 = .ok (.aload_n 0, 1) := by decide +kernel
theorem d_9_6_1 : decode prog_9_method_6_code 1 = .ok (.getfield 47, 3) := by decide +kernel
theorem d_9_6_4 : decode prog_9_method_6_code 4 = .ok (.invokevirtual 128, 3) := by decide +kernel
set_option maxRecDepth 100000 in
theorem w_1815 : (Cond.code ({ cls := "NumberHouse$Directive", name := "fault", desc := "()I" } : MethodName) prog_6_method_11_code (2 : Nat) (some .int)) ∈ q_tbl := q_of8 135 rfl (by decide +kernel)
set_option maxRecDepth 100000 in
theorem w_1812 : (Cond.methodLink "NumberHouse$Printer" (128 : Nat) ({ cls := "NumberHouse$Directive", name := "fault", desc := "()I" } : MethodName)) ∈ q_tbl := q_of8 132 rfl (by decide +kernel)
set_option maxRecDepth 100000 in
theorem w_1813 : (Cond.instanceMethod ({ cls := "NumberHouse$Directive", name := "fault", desc := "()I" } : MethodName)) ∈ q_tbl := q_of8 133 rfl (by decide +kernel)
set_option maxRecDepth 100000 in
theorem w_1814 : (Cond.selects "NumberHouse$Directive" ({ cls := "NumberHouse$Directive", name := "fault", desc := "()I" } : MethodName) ({ cls := "NumberHouse$Directive", name := "fault", desc := "()I" } : MethodName)) ∈ q_tbl := q_of8 134 rfl (by decide +kernel)
theorem LV_Pri_128 : q_LV "NumberHouse$Printer" 128 y_Dir_fault prog_6_method_11_code 2 (some .int) 0 := ⟨w_1815, w_13, w_1812, w_1813, w_1814, ⟨by decide, by decide, by decide +kernel⟩⟩
theorem d_9_6_7 : decode prog_9_method_6_code 7 = .ok (.istore_n 1, 1) := by decide +kernel
theorem d_9_6_8 : decode prog_9_method_6_code 8 = .ok (.iload_n 1, 1) := by decide +kernel
theorem d_9_6_9 : decode prog_9_method_6_code 9 = .ok (.ifCond .ne 15, 3) := by decide +kernel
theorem d_9_6_24 : decode prog_9_method_6_code 24 = .ok (.iload_n 1, 1) := by decide +kernel
theorem d_9_6_25 : decode prog_9_method_6_code 25 = .ok (.ireturn, 1) := by decide +kernel
theorem d_9_6_12 : decode prog_9_method_6_code 12 = .ok (.aload_n 0, 1) := by decide +kernel
theorem d_9_6_13 : decode prog_9_method_6_code 13 = .ok (.getfield 47, 3) := by decide +kernel
theorem d_9_6_16 : decode prog_9_method_6_code 16 = .ok (.ldc 131, 2) := by decide +kernel
theorem d_9_6_18 : decode prog_9_method_6_code 18 = .ok (.invokevirtual 133, 3) := by decide +kernel
theorem d_9_6_21 : decode prog_9_method_6_code 21 = .ok (.ifCond .eq 5, 3) := by decide +kernel
theorem d_9_6_26 : decode prog_9_method_6_code 26 = .ok (.aload_n 0, 1) := by decide +kernel
theorem d_9_6_27 : decode prog_9_method_6_code 27 = .ok (.invokevirtual 137, 3) := by decide +kernel
set_option maxRecDepth 100000 in
theorem w_1835 : (Cond.code ({ cls := "NumberHouse$Printer", name := "chooseArgument", desc := "()I" } : MethodName) prog_9_method_7_code (1 : Nat) (some .int)) ∈ q_tbl := q_of8 155 rfl (by decide +kernel)
set_option maxRecDepth 100000 in
theorem w_1832 : (Cond.methodLink "NumberHouse$Printer" (137 : Nat) ({ cls := "NumberHouse$Printer", name := "chooseArgument", desc := "()I" } : MethodName)) ∈ q_tbl := q_of8 152 rfl (by decide +kernel)
set_option maxRecDepth 100000 in
theorem w_1834 : (Cond.instanceMethod ({ cls := "NumberHouse$Printer", name := "chooseArgument", desc := "()I" } : MethodName)) ∈ q_tbl := q_of8 154 rfl (by decide +kernel)
theorem ws_51 : Cond.selects "NumberHouse$Printer" (⟨"NumberHouse$Printer", "chooseArgument", "()I"⟩ : MethodName) (⟨"NumberHouse$Printer", "chooseArgument", "()I"⟩ : MethodName) ∈ q_tbl := q_ofs 51 (by decide +kernel) (by decide +kernel)
theorem LV_Pri_137 : q_LV "NumberHouse$Printer" 137 y_Pri_chooseArgument prog_9_method_7_code 1 (some .int) 0 := ⟨w_1835, w_12, w_1832, w_1834, ws_51, ⟨by decide, by decide, by decide +kernel⟩⟩
theorem d_9_6_30 : decode prog_9_method_6_code 30 = .ok (.istore_n 2, 1) := by decide +kernel
theorem d_9_6_31 : decode prog_9_method_6_code 31 = .ok (.iload_n 2, 1) := by decide +kernel
theorem d_9_6_32 : decode prog_9_method_6_code 32 = .ok (.ifCond .lt 11, 3) := by decide +kernel
theorem d_9_6_43 : decode prog_9_method_6_code 43 = .ok (.bipush 9, 2) := by decide +kernel
theorem d_9_6_45 : decode prog_9_method_6_code 45 = .ok (.ireturn, 1) := by decide +kernel
theorem d_9_6_35 : decode prog_9_method_6_code 35 = .ok (.iload_n 2, 1) := by decide +kernel
theorem d_9_6_36 : decode prog_9_method_6_code 36 = .ok (.aload_n 0, 1) := by decide +kernel
theorem d_9_6_37 : decode prog_9_method_6_code 37 = .ok (.getfield 67, 3) := by decide +kernel
theorem d_9_6_40 : decode prog_9_method_6_code 40 = .ok (.if_icmp .lt 6, 3) := by decide +kernel
theorem d_9_6_46 : decode prog_9_method_6_code 46 = .ok (.aload_n 0, 1) := by decide +kernel
theorem d_9_6_47 : decode prog_9_method_6_code 47 = .ok (.iload_n 2, 1) := by decide +kernel
theorem d_9_6_48 : decode prog_9_method_6_code 48 = .ok (.putfield 87, 3) := by decide +kernel
theorem d_9_6_51 : decode prog_9_method_6_code 51 = .ok (.aload_n 0, 1) := by decide +kernel
theorem d_9_6_52 : decode prog_9_method_6_code 52 = .ok (.aload_n 0, 1) := by decide +kernel
theorem d_9_6_53 : decode prog_9_method_6_code 53 = .ok (.getfield 11, 3) := by decide +kernel
theorem d_9_6_56 : decode prog_9_method_6_code 56 = .ok (.iload_n 2, 1) := by decide +kernel
theorem d_9_6_57 : decode prog_9_method_6_code 57 = .ok (.iaload, 1) := by decide +kernel
theorem d_9_6_58 : decode prog_9_method_6_code 58 = .ok (.invokevirtual 140, 3) := by decide +kernel
set_option maxRecDepth 100000 in
theorem w_1840 : (Cond.code ({ cls := "NumberHouse$Printer", name := "takesKind", desc := "(I)Z" } : MethodName) prog_9_method_8_code (2 : Nat) (some .boolean)) ∈ q_tbl := q_of8 160 rfl (by decide +kernel)
set_option maxRecDepth 100000 in
theorem w_1837 : (Cond.methodLink "NumberHouse$Printer" (140 : Nat) ({ cls := "NumberHouse$Printer", name := "takesKind", desc := "(I)Z" } : MethodName)) ∈ q_tbl := q_of8 157 rfl (by decide +kernel)
set_option maxRecDepth 100000 in
theorem w_1839 : (Cond.instanceMethod ({ cls := "NumberHouse$Printer", name := "takesKind", desc := "(I)Z" } : MethodName)) ∈ q_tbl := q_of8 159 rfl (by decide +kernel)
theorem ws_52 : Cond.selects "NumberHouse$Printer" (⟨"NumberHouse$Printer", "takesKind", "(I)Z"⟩ : MethodName) (⟨"NumberHouse$Printer", "takesKind", "(I)Z"⟩ : MethodName) ∈ q_tbl := q_ofs 52 (by decide +kernel) (by decide +kernel)
theorem LV_Pri_140 : q_LV "NumberHouse$Printer" 140 y_Pri_takesKind prog_9_method_8_code 2 (some .boolean) 1 := ⟨w_1840, w_12, w_1837, w_1839, ws_52, ⟨by decide, by decide, by decide +kernel⟩⟩
theorem d_9_6_61 : decode prog_9_method_6_code 61 = .ok (.ifCond .eq 7, 3) := by decide +kernel
theorem d_9_6_68 : decode prog_9_method_6_code 68 = .ok (.bipush 10, 2) := by decide +kernel
theorem d_9_6_70 : decode prog_9_method_6_code 70 = .ok (.ireturn, 1) := by decide +kernel
theorem d_9_6_64 : decode prog_9_method_6_code 64 = .ok (.iconst 0, 1) := by decide +kernel
theorem d_9_6_65 : decode prog_9_method_6_code 65 = .ok (.goto 5, 3) := by decide +kernel
def y_Pri_findFault : MethodName := ⟨"NumberHouse$Printer", "findFault", "()I"⟩
set_option maxRecDepth 100000 in
set_option maxHeartbeats 4000000 in
theorem T_Pri_findFault (l : Launch) (D : va_G) (g : Nat → ClassId) (q : Nat → Nat) (ws : va_W) (hI : q_I (nsh g q) q ws) (t0_0 : Int32) (t0_1 : Int32) (t0_2 : Int32) (t0_3 : Int32) (hT0 : ws[40]? = (some (q 40, .inr (11, [.int t0_0, .ref (q 41), .ref (q 42), .ref (q 43), .ref (q 44), .ref (q 1), .ref (q 47), .ref (q 36), .ref (q 45), .int t0_1, .int t0_2, .int t0_3])) : Option (Nat × va_E))) (t1_0 : Int32) (t1_1 : Int32) (t1_2 : Int32) (t1_3 : Int32) (t1_4 : Int32) (t1_5 : Int32) (t1_6 : Int32) (hT1 : ws[47]? = (some (q 47, .inr (10, [.int t1_0, .int t1_1, .int t1_2, .int t1_3, .int t1_4, .int t1_5, .ref (q 1), .int t1_6])) : Option (Nat × va_E))) (gp : Int32) (hgp : gp = F_Dir_isOneOf_e_7 t1_4) : q_mI l y_Pri_findFault prog_9_method_6_code 3 (.int) 8 0 0 D g [.ref (q 40)] ws (fun r u => q_I (nsh g q) q u ∧ q_un ws u [40] ∧ ∃ (u0_0 : Int32) (u0_1 : Int32) (u0_2 : Int32) (u0_3 : Int32), u[40]? = (some (q 40, .inr (11, [.int u0_0, .ref (q 41), .ref (q 42), .ref (q 43), .ref (q 44), .ref (q 1), .ref (q 47), .ref (q 36), .ref (q 45), .int u0_1, .int u0_2, .int u0_3])) : Option (Nat × va_E)) ∧ (0 ≤ r.toInt) ∧ (r.toInt ≤ 10) ∧ (0 ≤ u0_3.toInt + 1) ∧ (u0_3.toInt ≤ 8) ∧ (t0_0.toInt ≤ u0_0.toInt) ∧ (u0_0.toInt ≤ t0_0.toInt) ∧ (t0_1.toInt ≤ u0_1.toInt) ∧ (u0_1.toInt ≤ t0_1.toInt) ∧ (t0_3.toInt ≤ u0_3.toInt + 8) ∧ (r.toInt ≤ u0_0.toInt + 9) ∧ (r.toInt ≤ u0_3.toInt + 10) ∧ (0 ≤ r.toInt + gp.toInt + u0_3.toInt) ∧ (r.toInt + gp.toInt + u0_3.toInt ≤ 18)) := by
  intro sz
  refine q_into (by decide) (Nat.le_of_ble_eq_true rfl) ?_
  intro p e s m below meth c ls hsz C0 V hl
  have hx := C0.1
  have hb := C0.2.1
  obtain ⟨yy0_0, yy0_1, yy0_2, yy0_3, hh0, btt0_0, btt0_1, btt0_3⟩ := n_o40 hI
  obtain ⟨rfl, rfl, rfl, rfl⟩ : t0_0 = yy0_0 ∧ t0_1 = yy0_1 ∧ t0_2 = yy0_2 ∧ t0_3 = yy0_3 := by have z := Option.some.inj (hT0.symm.trans hh0); simpa using z
  replace btt0_0 : q_F (0 ≤ t0_0.toInt ∧ t0_0.toInt ≤ 9) := btt0_0
  replace btt0_1 : q_F (-1 ≤ t0_1.toInt ∧ t0_1.toInt ≤ 1000000) := btt0_1
  replace btt0_3 : q_F (-1 ≤ t0_3.toInt ∧ t0_3.toInt ≤ 8) := btt0_3
  obtain ⟨yy1_0, yy1_1, yy1_2, yy1_3, yy1_4, yy1_5, yy1_6, hh1, btt1_2, btt1_3, btt1_6⟩ := n_o47 hI
  obtain ⟨rfl, rfl, rfl, rfl, rfl, rfl, rfl⟩ : t1_0 = yy1_0 ∧ t1_1 = yy1_1 ∧ t1_2 = yy1_2 ∧ t1_3 = yy1_3 ∧ t1_4 = yy1_4 ∧ t1_5 = yy1_5 ∧ t1_6 = yy1_6 := by have z := Option.some.inj (hT1.symm.trans hh1); simpa using z
  replace btt1_2 : q_F (-1 ≤ t1_2.toInt ∧ t1_2.toInt ≤ 9999) := btt1_2
  replace btt1_3 : q_F (-1 ≤ t1_3.toInt ∧ t1_3.toInt ≤ 9999) := btt1_3
  replace btt1_6 : q_F (0 ≤ t1_6.toInt ∧ t1_6.toInt ≤ 1) := btt1_6
  have hfgp : q_F (0 ≤ gp.toInt ∧ gp.toInt ≤ 1) := (by rw [hgp]; exact n_oo01)
  have hF : q_un ws ws [40] := q_u0
  have hl : lv_has ls 3 [(0, .ref (q 40))] := hl
  refine lv_aload_n hx hb d_9_6_0 rfl (lv_at hl 0 rfl) ?_
  refine q_get (ci := 11) (j := 6) (v := .ref (q 47)) C0 V i_Pri rfl rfl hT0 (by decide) w_391 rfl d_9_6_1 ?_
  refine q_goi V (q_runV (As := []) (rest := []) (d := 7) (mc := 0) (ms := 0) (ci := 10) C0 V rfl LV_Pri_128 (T_Dir_fault l D g q ws   hI   _) rfl rfl hT1 rfl hl.1 rfl (Nat.le_of_ble_eq_true rfl) ⟨by decide, by decide⟩ ⟨Nat.le_of_ble_eq_true rfl, Nat.le_of_ble_eq_true rfl⟩ d_9_6_4) (fun a22 u20 H locs hp21 V => ?_)
  obtain ⟨rfl, b23, b24⟩ := hp21
  replace b23 : q_F (0 ≤ a22.toInt) := b23
  replace b24 : q_F (a22.toInt ≤ 8) := b24
  refine lv_istore_n (lv' := [(1, .int a22), (0, .ref (q 40))]) hx hb d_9_6_7 rfl hl (by decide) rfl (fun ls hl => ?_)
  refine lv_iload_n hx hb d_9_6_8 rfl (lv_at hl 0 rfl) ?_
  refine lv_if_ne (tgt := 24) hx hb d_9_6_9 (by decide) (fun c26 => ?_) (fun c26 => ?_)
  ·
    have b27 : q_F (a22.toInt ≠ 0) := (q_neI c26)
    refine lv_iload_n hx hb d_9_6_24 rfl (lv_at hl 0 rfl) ?_
    exact q_reti C0 V (⟨hI, hF, t0_0, t0_1, t0_2, t0_3, hT0, (show 0 ≤ a22.toInt from (by have t1 : 0 ≤ a22.toInt := b23; omega)), (show a22.toInt ≤ 10 from (by have t1 : a22.toInt ≤ 8 := b24; omega)), (show 0 ≤ t0_3.toInt + 1 from (by have t1 : -1 ≤ t0_3.toInt ∧ t0_3.toInt ≤ 8 := btt0_3; omega)), (show t0_3.toInt ≤ 8 from (by have t1 : -1 ≤ t0_3.toInt ∧ t0_3.toInt ≤ 8 := btt0_3; omega)), (show t0_0.toInt ≤ t0_0.toInt from (by omega)), (show t0_0.toInt ≤ t0_0.toInt from (by omega)), (show t0_1.toInt ≤ t0_1.toInt from (by omega)), (show t0_1.toInt ≤ t0_1.toInt from (by omega)), (show t0_3.toInt ≤ t0_3.toInt + 8 from (by omega)), (show a22.toInt ≤ t0_0.toInt + 9 from (by have t1 : 0 ≤ t0_0.toInt ∧ t0_0.toInt ≤ 9 := btt0_0; have t2 : a22.toInt ≤ 8 := b24; omega)), (show a22.toInt ≤ t0_3.toInt + 10 from (by have t1 : -1 ≤ t0_3.toInt ∧ t0_3.toInt ≤ 8 := btt0_3; have t2 : a22.toInt ≤ 8 := b24; omega)), (show 0 ≤ a22.toInt + gp.toInt + t0_3.toInt from (by have t1 : -1 ≤ t0_3.toInt ∧ t0_3.toInt ≤ 8 := btt0_3; have t2 : 0 ≤ gp.toInt ∧ gp.toInt ≤ 1 := hfgp; have t3 : 0 ≤ a22.toInt := b23; have t4 : a22.toInt ≠ 0 := b27; omega)), (show a22.toInt + gp.toInt + t0_3.toInt ≤ 18 from (by have t1 : -1 ≤ t0_3.toInt ∧ t0_3.toInt ≤ 8 := btt0_3; have t2 : 0 ≤ gp.toInt ∧ gp.toInt ≤ 1 := hfgp; have t3 : a22.toInt ≤ 8 := b24; omega))⟩) d_9_6_25
  ·
    have b28 : q_F (a22.toInt = 0) := (q_eqI c26)
    refine lv_aload_n hx hb d_9_6_12 rfl (lv_at hl 1 rfl) ?_
    refine q_get (ci := 11) (j := 6) (v := .ref (q 47)) C0 V i_Pri rfl rfl hT0 (by decide) w_391 rfl d_9_6_13 ?_
    refine q_ldcs (i := 7) C0 V rfl rfl d_9_6_16 ?_
    refine q_goi V (q_runV (As := [.ref (g (8 + 2 * 7))]) (rest := []) (d := 5) (mc := 0) (ms := 0) (ci := 10) C0 V rfl LV_Pri_133 (T_Dir_isOneOf_e_7 l D g q ws   hI t1_0 t1_1 t1_2 t1_3 t1_4 t1_5 t1_6 hT1  _) rfl rfl hT1 rfl hl.1 rfl (Nat.le_of_ble_eq_true rfl) ⟨by decide, by decide⟩ ⟨Nat.le_of_ble_eq_true rfl, Nat.le_of_ble_eq_true rfl⟩ d_9_6_18) (fun a31 u29 H locs hp30 V => ?_)
    obtain ⟨rfl, b32, b33, pu34⟩ := hp30
    replace b32 : q_F (0 ≤ a31.toInt) := b32
    replace b33 : q_F (a31.toInt ≤ 1) := b33
    obtain rfl : gp = a31 := hgp.trans pu34.symm
    refine lv_if_eq (tgt := 26) hx hb d_9_6_21 (by decide) (fun c36 => ?_) (fun c36 => ?_)
    ·
      have b37 : q_F (gp.toInt = 0) := (q_eqI c36)
      refine lv_aload_n hx hb d_9_6_26 rfl (lv_at hl 1 rfl) ?_
      refine q_goi V (q_runV (As := []) (rest := []) (d := 2) (mc := 0) (ms := 0) (ci := 11) C0 V rfl LV_Pri_137 (T_Pri_chooseArgument l D g q ws   hI t0_0 t0_1 t0_2 t0_3 hT0 t1_0 t1_1 t1_2 t1_3 t1_4 t1_5 t1_6 hT1  _) rfl rfl hT0 rfl hl.1 rfl (Nat.le_of_ble_eq_true rfl) ⟨by decide, by decide⟩ ⟨Nat.le_of_ble_eq_true rfl, Nat.le_of_ble_eq_true rfl⟩ d_9_6_27) (fun a40 u38 H locs hp39 V => ?_)
      obtain ⟨hI, hu53, y42, y43, y44, y45, hO41, b46, b47, b48, b49, b50, b51⟩ := hp39
      replace hO41 : u38[40]? = (some (q 40, .inr (11, [.int y42, .ref (q 41), .ref (q 42), .ref (q 43), .ref (q 44), .ref (q 1), .ref (q 47), .ref (q 36), .ref (q 45), .int y43, .int y44, .int y45])) : Option (Nat × va_E)) := hO41
      replace b46 : q_F (t0_0.toInt ≤ y42.toInt) := b46
      replace b47 : q_F (y42.toInt ≤ t0_0.toInt) := b47
      replace b48 : q_F (t0_1.toInt ≤ y43.toInt) := b48
      replace b49 : q_F (y43.toInt ≤ t0_1.toInt) := b49
      replace b50 : q_F (t0_3.toInt ≤ y45.toInt) := b50
      replace b51 : q_F (y45.toInt ≤ t0_3.toInt) := b51
      replace hT1 := (hu53 _ (by decide)).trans hT1
      replace hF := q_uc hF hu53 (by simp)
      refine lv_istore_n (lv' := [(2, .int a40), (1, .int a22), (0, .ref (q 40))]) hx hb d_9_6_30 rfl hl (by decide) rfl (fun ls hl => ?_)
      refine lv_iload_n hx hb d_9_6_31 rfl (lv_at hl 0 rfl) ?_
      refine lv_if_lt (tgt := 43) hx hb d_9_6_32 (by decide) (fun c54 => ?_) (fun c54 => ?_)
      ·
        have b55 : q_F (a40.toInt < 0) := (q_ltI c54)
        refine lv_bipush (v := 9) hx hb d_9_6_43 (by decide) ?_
        exact q_reti C0 V (⟨hI, hF, y42, y43, y44, y45, hO41, (show 0 ≤ (9 : Int32).toInt from (by have z12 : (9 : Int32).toInt = 9 := rfl; omega)), (show (9 : Int32).toInt ≤ 10 from (by have z12 : (9 : Int32).toInt = 9 := rfl; omega)), (show 0 ≤ y45.toInt + 1 from (by have z12 : (9 : Int32).toInt = 9 := rfl; have t1 : -1 ≤ t0_3.toInt ∧ t0_3.toInt ≤ 8 := btt0_3; have t2 : t0_3.toInt ≤ y45.toInt := b50; omega)), (show y45.toInt ≤ 8 from (by have z12 : (9 : Int32).toInt = 9 := rfl; have t1 : -1 ≤ t0_3.toInt ∧ t0_3.toInt ≤ 8 := btt0_3; have t2 : y45.toInt ≤ t0_3.toInt := b51; omega)), (show t0_0.toInt ≤ y42.toInt from (by have z12 : (9 : Int32).toInt = 9 := rfl; have t1 : t0_0.toInt ≤ y42.toInt := b46; omega)), (show y42.toInt ≤ t0_0.toInt from (by have z12 : (9 : Int32).toInt = 9 := rfl; have t1 : y42.toInt ≤ t0_0.toInt := b47; omega)), (show t0_1.toInt ≤ y43.toInt from (by have z12 : (9 : Int32).toInt = 9 := rfl; have t1 : t0_1.toInt ≤ y43.toInt := b48; omega)), (show y43.toInt ≤ t0_1.toInt from (by have z12 : (9 : Int32).toInt = 9 := rfl; have t1 : y43.toInt ≤ t0_1.toInt := b49; omega)), (show t0_3.toInt ≤ y45.toInt + 8 from (by have z12 : (9 : Int32).toInt = 9 := rfl; have t1 : t0_3.toInt ≤ y45.toInt := b50; omega)), (show (9 : Int32).toInt ≤ y42.toInt + 9 from (by have z12 : (9 : Int32).toInt = 9 := rfl; have t1 : 0 ≤ t0_0.toInt ∧ t0_0.toInt ≤ 9 := btt0_0; have t2 : t0_0.toInt ≤ y42.toInt := b46; omega)), (show (9 : Int32).toInt ≤ y45.toInt + 10 from (by have z12 : (9 : Int32).toInt = 9 := rfl; have t1 : -1 ≤ t0_3.toInt ∧ t0_3.toInt ≤ 8 := btt0_3; have t2 : t0_3.toInt ≤ y45.toInt := b50; omega)), (show 0 ≤ (9 : Int32).toInt + gp.toInt + y45.toInt from (by have z12 : (9 : Int32).toInt = 9 := rfl; have t1 : -1 ≤ t0_3.toInt ∧ t0_3.toInt ≤ 8 := btt0_3; have t2 : 0 ≤ gp.toInt ∧ gp.toInt ≤ 1 := hfgp; have t3 : t0_3.toInt ≤ y45.toInt := b50; omega)), (show (9 : Int32).toInt + gp.toInt + y45.toInt ≤ 18 from (by have z12 : (9 : Int32).toInt = 9 := rfl; have t1 : -1 ≤ t0_3.toInt ∧ t0_3.toInt ≤ 8 := btt0_3; have t2 : 0 ≤ gp.toInt ∧ gp.toInt ≤ 1 := hfgp; have t3 : y45.toInt ≤ t0_3.toInt := b51; omega))⟩) d_9_6_45
      ·
        have b56 : q_F (0 ≤ a40.toInt) := (q_nltI c54)
        refine lv_iload_n hx hb d_9_6_35 rfl (lv_at hl 0 rfl) ?_
        refine lv_aload_n hx hb d_9_6_36 rfl (lv_at hl 2 rfl) ?_
        refine q_get (ci := 11) (j := 0) (v := .int y42) C0 V i_Pri rfl rfl hO41 (by decide) w_384 rfl d_9_6_37 ?_
        refine lv_icmp_lt (tgt := 46) hx hb d_9_6_40 (by decide) (fun c57 => ?_) (fun c57 => ?_)
        ·
          have b58 : q_F (a40.toInt < y42.toInt) := (q_ltI c57)
          refine lv_aload_n hx hb d_9_6_46 rfl (lv_at hl 2 rfl) ?_
          refine lv_iload_n hx hb d_9_6_47 rfl (lv_at hl 0 rfl) ?_
          refine q_put (ci := 11) (j := 11) (v := .int a40) (ty := .int) C0 V i_Pri o_Pri n_Pri rfl rfl hO41 (by decide) w_396 rfl rfl rfl rfl (Nat.le_of_ble_eq_true rfl) d_9_6_48 (fun H locs w59 hu60 hO41 V => ?_)
          replace hO41 : w59[40]? = (some (q 40, .inr (11, [.int y42, .ref (q 41), .ref (q 42), .ref (q 43), .ref (q 44), .ref (q 1), .ref (q 47), .ref (q 36), .ref (q 45), .int y43, .int y44, .int a40])) : Option (Nat × va_E)) := hO41
          replace hI := n_p40 hI hu60 hO41 ⟨(by have t1 : 0 ≤ t0_0.toInt ∧ t0_0.toInt ≤ 9 := btt0_0; have t2 : t0_0.toInt ≤ y42.toInt := b46; omega), (by have t1 : 0 ≤ t0_0.toInt ∧ t0_0.toInt ≤ 9 := btt0_0; have t2 : y42.toInt ≤ t0_0.toInt := b47; omega)⟩ ⟨(by have t1 : -1 ≤ t0_1.toInt ∧ t0_1.toInt ≤ 1000000 := btt0_1; have t2 : t0_1.toInt ≤ y43.toInt := b48; omega), (by have t1 : -1 ≤ t0_1.toInt ∧ t0_1.toInt ≤ 1000000 := btt0_1; have t2 : y43.toInt ≤ t0_1.toInt := b49; omega)⟩ ⟨(by have t1 : 0 ≤ a40.toInt := b56; omega), (by have t1 : 0 ≤ t0_0.toInt ∧ t0_0.toInt ≤ 9 := btt0_0; have t2 : y42.toInt ≤ t0_0.toInt := b47; have t3 : a40.toInt < y42.toInt := b58; omega)⟩
          replace hT1 := (hu60 _ (by decide)).trans hT1
          replace hF := q_us hF hu60 (by simp)
          refine lv_aload_n hx hb d_9_6_51 rfl (lv_at hl 2 rfl) ?_
          refine lv_aload_n hx hb d_9_6_52 rfl (lv_at hl 2 rfl) ?_
          refine q_get (ci := 11) (j := 1) (v := .ref (q 41)) C0 V i_Pri rfl rfl hO41 (by decide) w_386 rfl d_9_6_53 ?_
          refine lv_iload_n hx hb d_9_6_56 rfl (lv_at hl 0 rfl) ?_
          obtain ⟨f61, hA62, bf63⟩ := n_ai hI (n_s41 g q)
          refine q_iald C0 V hA62 (q_ix (x := a40.toInt) rfl (by have t1 : 0 ≤ a40.toInt := b56; omega) (by have t1 : 0 ≤ a40.toInt := b56; have t2 : 0 ≤ t0_0.toInt ∧ t0_0.toInt ≤ 9 := btt0_0; have t3 : y42.toInt ≤ t0_0.toInt := b47; have t4 : a40.toInt < y42.toInt := b58; omega)) d_9_6_57 ?_
          obtain ⟨a64, e65⟩ := q_nm (f61 a40.toNatClampNeg : Int32)
          refine q_ti (v := a64) e65 ?_
          refine q_goi V (q_runV (As := [.int a64]) (rest := []) (d := 6) (mc := 0) (ms := 0) (ci := 11) C0 V rfl LV_Pri_140 (T_Pri_takesKind l D g q w59  a64 hI   _) rfl rfl hO41 rfl hl.1 rfl (Nat.le_of_ble_eq_true rfl) ⟨by decide, by decide⟩ ⟨Nat.le_of_ble_eq_true rfl, Nat.le_of_ble_eq_true rfl⟩ d_9_6_58) (fun a68 u66 H locs hp67 V => ?_)
          obtain ⟨rfl, b69, b70⟩ := hp67
          replace b69 : q_F (0 ≤ a68.toInt) := b69
          replace b70 : q_F (a68.toInt ≤ 1) := b70
          refine lv_if_eq (tgt := 68) hx hb d_9_6_61 (by decide) (fun c72 => ?_) (fun c72 => ?_)
          ·
            have b73 : q_F (a68.toInt = 0) := (q_eqI c72)
            refine lv_bipush (v := 10) hx hb d_9_6_68 (by decide) ?_
            exact q_reti C0 V (⟨hI, hF, y42, y43, y44, a40, hO41, (show 0 ≤ (10 : Int32).toInt from (by have z12 : (10 : Int32).toInt = 10 := rfl; omega)), (show (10 : Int32).toInt ≤ 10 from (by have z12 : (10 : Int32).toInt = 10 := rfl; omega)), (show 0 ≤ a40.toInt + 1 from (by have z12 : (10 : Int32).toInt = 10 := rfl; have t1 : 0 ≤ a40.toInt := b56; omega)), (show a40.toInt ≤ 8 from (by have z12 : (10 : Int32).toInt = 10 := rfl; have t1 : 0 ≤ t0_0.toInt ∧ t0_0.toInt ≤ 9 := btt0_0; have t2 : y42.toInt ≤ t0_0.toInt := b47; have t3 : a40.toInt < y42.toInt := b58; omega)), (show t0_0.toInt ≤ y42.toInt from (by have z12 : (10 : Int32).toInt = 10 := rfl; have t1 : t0_0.toInt ≤ y42.toInt := b46; omega)), (show y42.toInt ≤ t0_0.toInt from (by have z12 : (10 : Int32).toInt = 10 := rfl; have t1 : y42.toInt ≤ t0_0.toInt := b47; omega)), (show t0_1.toInt ≤ y43.toInt from (by have z12 : (10 : Int32).toInt = 10 := rfl; have t1 : t0_1.toInt ≤ y43.toInt := b48; omega)), (show y43.toInt ≤ t0_1.toInt from (by have z12 : (10 : Int32).toInt = 10 := rfl; have t1 : y43.toInt ≤ t0_1.toInt := b49; omega)), (show t0_3.toInt ≤ a40.toInt + 8 from (by have z12 : (10 : Int32).toInt = 10 := rfl; have t1 : -1 ≤ t0_3.toInt ∧ t0_3.toInt ≤ 8 := btt0_3; have t2 : 0 ≤ a40.toInt := b56; omega)), (show (10 : Int32).toInt ≤ y42.toInt + 9 from (by have z12 : (10 : Int32).toInt = 10 := rfl; have t1 : 0 ≤ a40.toInt := b56; have t2 : a40.toInt < y42.toInt := b58; omega)), (show (10 : Int32).toInt ≤ a40.toInt + 10 from (by have z12 : (10 : Int32).toInt = 10 := rfl; have t1 : 0 ≤ a40.toInt := b56; omega)), (show 0 ≤ (10 : Int32).toInt + gp.toInt + a40.toInt from (by have z12 : (10 : Int32).toInt = 10 := rfl; have t1 : 0 ≤ gp.toInt ∧ gp.toInt ≤ 1 := hfgp; have t2 : 0 ≤ a40.toInt := b56; omega)), (show (10 : Int32).toInt + gp.toInt + a40.toInt ≤ 18 from (by have z12 : (10 : Int32).toInt = 10 := rfl; have t1 : 0 ≤ t0_0.toInt ∧ t0_0.toInt ≤ 9 := btt0_0; have t2 : gp.toInt = 0 := b37; have t3 : y42.toInt ≤ t0_0.toInt := b47; have t4 : a40.toInt < y42.toInt := b58; omega))⟩) d_9_6_70
          ·
            have b74 : q_F (a68.toInt ≠ 0) := (q_neI c72)
            refine lv_iconst (v := 0) hx hb d_9_6_64 (by decide) ?_
            refine lv_goto (tgt := 70) hx hb d_9_6_65 (by decide) ?_
            exact q_reti C0 V (⟨hI, hF, y42, y43, y44, a40, hO41, (show 0 ≤ (0 : Int32).toInt from (by have z12 : (0 : Int32).toInt = 0 := rfl; omega)), (show (0 : Int32).toInt ≤ 10 from (by have z12 : (0 : Int32).toInt = 0 := rfl; omega)), (show 0 ≤ a40.toInt + 1 from (by have z12 : (0 : Int32).toInt = 0 := rfl; have t1 : 0 ≤ a40.toInt := b56; omega)), (show a40.toInt ≤ 8 from (by have z12 : (0 : Int32).toInt = 0 := rfl; have t1 : 0 ≤ t0_0.toInt ∧ t0_0.toInt ≤ 9 := btt0_0; have t2 : y42.toInt ≤ t0_0.toInt := b47; have t3 : a40.toInt < y42.toInt := b58; omega)), (show t0_0.toInt ≤ y42.toInt from (by have z12 : (0 : Int32).toInt = 0 := rfl; have t1 : t0_0.toInt ≤ y42.toInt := b46; omega)), (show y42.toInt ≤ t0_0.toInt from (by have z12 : (0 : Int32).toInt = 0 := rfl; have t1 : y42.toInt ≤ t0_0.toInt := b47; omega)), (show t0_1.toInt ≤ y43.toInt from (by have z12 : (0 : Int32).toInt = 0 := rfl; have t1 : t0_1.toInt ≤ y43.toInt := b48; omega)), (show y43.toInt ≤ t0_1.toInt from (by have z12 : (0 : Int32).toInt = 0 := rfl; have t1 : y43.toInt ≤ t0_1.toInt := b49; omega)), (show t0_3.toInt ≤ a40.toInt + 8 from (by have z12 : (0 : Int32).toInt = 0 := rfl; have t1 : -1 ≤ t0_3.toInt ∧ t0_3.toInt ≤ 8 := btt0_3; have t2 : 0 ≤ a40.toInt := b56; omega)), (show (0 : Int32).toInt ≤ y42.toInt + 9 from (by have z12 : (0 : Int32).toInt = 0 := rfl; have t1 : 0 ≤ t0_0.toInt ∧ t0_0.toInt ≤ 9 := btt0_0; have t2 : t0_0.toInt ≤ y42.toInt := b46; omega)), (show (0 : Int32).toInt ≤ a40.toInt + 10 from (by have z12 : (0 : Int32).toInt = 0 := rfl; have t1 : 0 ≤ a40.toInt := b56; omega)), (show 0 ≤ (0 : Int32).toInt + gp.toInt + a40.toInt from (by have z12 : (0 : Int32).toInt = 0 := rfl; have t1 : 0 ≤ gp.toInt ∧ gp.toInt ≤ 1 := hfgp; have t2 : 0 ≤ a40.toInt := b56; omega)), (show (0 : Int32).toInt + gp.toInt + a40.toInt ≤ 18 from (by have z12 : (0 : Int32).toInt = 0 := rfl; have t1 : 0 ≤ t0_0.toInt ∧ t0_0.toInt ≤ 9 := btt0_0; have t2 : 0 ≤ gp.toInt ∧ gp.toInt ≤ 1 := hfgp; have t3 : y42.toInt ≤ t0_0.toInt := b47; have t4 : a40.toInt < y42.toInt := b58; omega))⟩) d_9_6_70
        ·
          have b75 : q_F (y42.toInt ≤ a40.toInt) := (q_nltI c57)
          refine lv_bipush (v := 9) hx hb d_9_6_43 (by decide) ?_
          exact q_reti C0 V (⟨hI, hF, y42, y43, y44, y45, hO41, (show 0 ≤ (9 : Int32).toInt from (by have z12 : (9 : Int32).toInt = 9 := rfl; omega)), (show (9 : Int32).toInt ≤ 10 from (by have z12 : (9 : Int32).toInt = 9 := rfl; omega)), (show 0 ≤ y45.toInt + 1 from (by have z12 : (9 : Int32).toInt = 9 := rfl; have t1 : -1 ≤ t0_3.toInt ∧ t0_3.toInt ≤ 8 := btt0_3; have t2 : t0_3.toInt ≤ y45.toInt := b50; omega)), (show y45.toInt ≤ 8 from (by have z12 : (9 : Int32).toInt = 9 := rfl; have t1 : -1 ≤ t0_3.toInt ∧ t0_3.toInt ≤ 8 := btt0_3; have t2 : y45.toInt ≤ t0_3.toInt := b51; omega)), (show t0_0.toInt ≤ y42.toInt from (by have z12 : (9 : Int32).toInt = 9 := rfl; have t1 : t0_0.toInt ≤ y42.toInt := b46; omega)), (show y42.toInt ≤ t0_0.toInt from (by have z12 : (9 : Int32).toInt = 9 := rfl; have t1 : y42.toInt ≤ t0_0.toInt := b47; omega)), (show t0_1.toInt ≤ y43.toInt from (by have z12 : (9 : Int32).toInt = 9 := rfl; have t1 : t0_1.toInt ≤ y43.toInt := b48; omega)), (show y43.toInt ≤ t0_1.toInt from (by have z12 : (9 : Int32).toInt = 9 := rfl; have t1 : y43.toInt ≤ t0_1.toInt := b49; omega)), (show t0_3.toInt ≤ y45.toInt + 8 from (by have z12 : (9 : Int32).toInt = 9 := rfl; have t1 : t0_3.toInt ≤ y45.toInt := b50; omega)), (show (9 : Int32).toInt ≤ y42.toInt + 9 from (by have z12 : (9 : Int32).toInt = 9 := rfl; have t1 : 0 ≤ t0_0.toInt ∧ t0_0.toInt ≤ 9 := btt0_0; have t2 : t0_0.toInt ≤ y42.toInt := b46; omega)), (show (9 : Int32).toInt ≤ y45.toInt + 10 from (by have z12 : (9 : Int32).toInt = 9 := rfl; have t1 : -1 ≤ t0_3.toInt ∧ t0_3.toInt ≤ 8 := btt0_3; have t2 : t0_3.toInt ≤ y45.toInt := b50; omega)), (show 0 ≤ (9 : Int32).toInt + gp.toInt + y45.toInt from (by have z12 : (9 : Int32).toInt = 9 := rfl; have t1 : -1 ≤ t0_3.toInt ∧ t0_3.toInt ≤ 8 := btt0_3; have t2 : 0 ≤ gp.toInt ∧ gp.toInt ≤ 1 := hfgp; have t3 : t0_3.toInt ≤ y45.toInt := b50; omega)), (show (9 : Int32).toInt + gp.toInt + y45.toInt ≤ 18 from (by have z12 : (9 : Int32).toInt = 9 := rfl; have t1 : -1 ≤ t0_3.toInt ∧ t0_3.toInt ≤ 8 := btt0_3; have t2 : 0 ≤ gp.toInt ∧ gp.toInt ≤ 1 := hfgp; have t3 : y45.toInt ≤ t0_3.toInt := b51; omega))⟩) d_9_6_45
    ·
      have b76 : q_F (gp.toInt ≠ 0) := (q_neI c36)
      refine lv_iload_n hx hb d_9_6_24 rfl (lv_at hl 0 rfl) ?_
      exact q_reti C0 V (⟨hI, hF, t0_0, t0_1, t0_2, t0_3, hT0, (show 0 ≤ a22.toInt from (by have t1 : 0 ≤ a22.toInt := b23; omega)), (show a22.toInt ≤ 10 from (by have t1 : a22.toInt ≤ 8 := b24; omega)), (show 0 ≤ t0_3.toInt + 1 from (by have t1 : -1 ≤ t0_3.toInt ∧ t0_3.toInt ≤ 8 := btt0_3; omega)), (show t0_3.toInt ≤ 8 from (by have t1 : -1 ≤ t0_3.toInt ∧ t0_3.toInt ≤ 8 := btt0_3; omega)), (show t0_0.toInt ≤ t0_0.toInt from (by omega)), (show t0_0.toInt ≤ t0_0.toInt from (by omega)), (show t0_1.toInt ≤ t0_1.toInt from (by omega)), (show t0_1.toInt ≤ t0_1.toInt from (by omega)), (show t0_3.toInt ≤ t0_3.toInt + 8 from (by omega)), (show a22.toInt ≤ t0_0.toInt + 9 from (by have t1 : 0 ≤ t0_0.toInt ∧ t0_0.toInt ≤ 9 := btt0_0; have t2 : a22.toInt ≤ 8 := b24; omega)), (show a22.toInt ≤ t0_3.toInt + 10 from (by have t1 : -1 ≤ t0_3.toInt ∧ t0_3.toInt ≤ 8 := btt0_3; have t2 : a22.toInt ≤ 8 := b24; omega)), (show 0 ≤ a22.toInt + gp.toInt + t0_3.toInt from (by have t1 : -1 ≤ t0_3.toInt ∧ t0_3.toInt ≤ 8 := btt0_3; have t2 : 0 ≤ gp.toInt ∧ gp.toInt ≤ 1 := hfgp; have t3 : 0 ≤ a22.toInt := b23; have t4 : gp.toInt ≠ 0 := b76; omega)), (show a22.toInt + gp.toInt + t0_3.toInt ≤ 18 from (by have t1 : -1 ≤ t0_3.toInt ∧ t0_3.toInt ≤ 8 := btt0_3; have t2 : 0 ≤ gp.toInt ∧ gp.toInt ≤ 1 := hfgp; have t3 : a22.toInt ≤ 8 := b24; omega))⟩) d_9_6_25
theorem d_9_10_0 : decode prog_9_method_10_code 0 = .ok (.aload_n 0, 1) := by decide +kernel
theorem d_9_10_1 : decode prog_9_method_10_code 1 = .ok (.getfield 47, 3) := by decide +kernel
theorem d_9_10_4 : decode prog_9_method_10_code 4 = .ok (.getfield 198, 3) := by decide +kernel
set_option maxRecDepth 100000 in
theorem w_360 : (Cond.fieldLink "NumberHouse$Printer" (198 : Nat) "NumberHouse$Directive" "precision" "I") ∈ q_tbl := q_of2 120 rfl (by decide +kernel)
theorem d_9_10_7 : decode prog_9_method_10_code 7 = .ok (.iconst (-1), 1) := by decide +kernel
theorem d_9_10_8 : decode prog_9_method_10_code 8 = .ok (.if_icmp .eq 17, 3) := by decide +kernel
theorem d_9_10_25 : decode prog_9_method_10_code 25 = .ok (.return_, 1) := by decide +kernel
theorem d_9_10_11 : decode prog_9_method_10_code 11 = .ok (.aload_n 0, 1) := by decide +kernel
theorem d_9_10_12 : decode prog_9_method_10_code 12 = .ok (.getfield 31, 3) := by decide +kernel
theorem d_9_10_15 : decode prog_9_method_10_code 15 = .ok (.aload_n 0, 1) := by decide +kernel
theorem d_9_10_16 : decode prog_9_method_10_code 16 = .ok (.getfield 47, 3) := by decide +kernel
theorem d_9_10_19 : decode prog_9_method_10_code 19 = .ok (.getfield 198, 3) := by decide +kernel
theorem d_9_10_22 : decode prog_9_method_10_code 22 = .ok (.invokevirtual 201, 3) := by decide +kernel
set_option maxRecDepth 100000 in
theorem w_1859 : (Cond.code ({ cls := "NumberHouse$Sheet", name := "cut", desc := "(I)V" } : MethodName) prog_11_method_10_code (2 : Nat) (none : Option ClassFile.FieldType)) ∈ q_tbl := q_of8 179 rfl (by decide +kernel)
set_option maxRecDepth 100000 in
theorem w_1856 : (Cond.methodLink "NumberHouse$Printer" (201 : Nat) ({ cls := "NumberHouse$Sheet", name := "cut", desc := "(I)V" } : MethodName)) ∈ q_tbl := q_of8 176 rfl (by decide +kernel)
set_option maxRecDepth 100000 in
theorem w_1857 : (Cond.instanceMethod ({ cls := "NumberHouse$Sheet", name := "cut", desc := "(I)V" } : MethodName)) ∈ q_tbl := q_of8 177 rfl (by decide +kernel)
set_option maxRecDepth 100000 in
theorem w_1858 : (Cond.selects "NumberHouse$Sheet" ({ cls := "NumberHouse$Sheet", name := "cut", desc := "(I)V" } : MethodName) ({ cls := "NumberHouse$Sheet", name := "cut", desc := "(I)V" } : MethodName)) ∈ q_tbl := q_of8 178 rfl (by decide +kernel)
theorem LV_Pri_201 : q_LV "NumberHouse$Printer" 201 y_She_cut prog_11_method_10_code 2 none 1 := ⟨w_1859, w_2, w_1856, w_1857, w_1858, ⟨by decide, by decide, by decide +kernel⟩⟩
def y_Pri_cutBody : MethodName := ⟨"NumberHouse$Printer", "cutBody", "()V"⟩
set_option maxRecDepth 100000 in
set_option maxHeartbeats 4000000 in
theorem T_Pri_cutBody (l : Launch) (D : va_G) (g : Nat → ClassId) (q : Nat → Nat) (ws : va_W) (hI : q_I (nsh g q) q ws) (t0_0 : Int32) (hT0 : ws[45]? = (some (q 45, .inr (1, [.ref (q 46), .int 4104, .int t0_0])) : Option (Nat × va_E))) (t1_0 : Int32) (t1_1 : Int32) (t1_2 : Int32) (t1_3 : Int32) (t1_4 : Int32) (t1_5 : Int32) (t1_6 : Int32) (hT1 : ws[47]? = (some (q 47, .inr (10, [.int t1_0, .int t1_1, .int t1_2, .int t1_3, .int t1_4, .int t1_5, .ref (q 1), .int t1_6])) : Option (Nat × va_E))) : q_mV l y_Pri_cutBody prog_9_method_10_code 1 3 0 0 D g [.ref (q 40)] ws (fun u => q_I (nsh g q) q u ∧ q_un ws u [45] ∧ ∃ (u0_0 : Int32), u[45]? = (some (q 45, .inr (1, [.ref (q 46), .int 4104, .int u0_0])) : Option (Nat × va_E)) ∧ (0 ≤ u0_0.toInt) ∧ (u0_0.toInt ≤ t0_0.toInt)) := by
  intro sz
  refine q_into (by decide) (Nat.le_of_ble_eq_true rfl) ?_
  intro p e s m below meth c ls hsz C0 V hl
  have hx := C0.1
  have hb := C0.2.1
  obtain ⟨yy0_0, hh0, btt0_0⟩ := n_shO hI (n_h45 g q)
  obtain ⟨rfl⟩ : t0_0 = yy0_0 := by have z := Option.some.inj (hT0.symm.trans hh0); simpa using z
  replace btt0_0 : q_F (0 ≤ t0_0.toInt ∧ t0_0.toInt ≤ 1000000) := btt0_0
  obtain ⟨yy1_0, yy1_1, yy1_2, yy1_3, yy1_4, yy1_5, yy1_6, hh1, btt1_2, btt1_3, btt1_6⟩ := n_o47 hI
  obtain ⟨rfl, rfl, rfl, rfl, rfl, rfl, rfl⟩ : t1_0 = yy1_0 ∧ t1_1 = yy1_1 ∧ t1_2 = yy1_2 ∧ t1_3 = yy1_3 ∧ t1_4 = yy1_4 ∧ t1_5 = yy1_5 ∧ t1_6 = yy1_6 := by have z := Option.some.inj (hT1.symm.trans hh1); simpa using z
  replace btt1_2 : q_F (-1 ≤ t1_2.toInt ∧ t1_2.toInt ≤ 9999) := btt1_2
  replace btt1_3 : q_F (-1 ≤ t1_3.toInt ∧ t1_3.toInt ≤ 9999) := btt1_3
  replace btt1_6 : q_F (0 ≤ t1_6.toInt ∧ t1_6.toInt ≤ 1) := btt1_6
  have hF : q_un ws ws [45] := q_u0
  have hl : lv_has ls 1 [(0, .ref (q 40))] := hl
  refine lv_aload_n hx hb d_9_10_0 rfl (lv_at hl 0 rfl) ?_
  obtain ⟨y16, y18, y20, y21, hO15, b17, b19, b22⟩ := n_o40 hI
  replace b17 : q_F (0 ≤ y16.toInt ∧ y16.toInt ≤ 9) := b17
  replace b19 : q_F (-1 ≤ y18.toInt ∧ y18.toInt ≤ 1000000) := b19
  replace b22 : q_F (-1 ≤ y21.toInt ∧ y21.toInt ≤ 8) := b22
  refine q_get (ci := 11) (j := 6) (v := .ref (q 47)) C0 V i_Pri rfl rfl hO15 (by decide) w_391 rfl d_9_10_1 ?_
  refine q_get (ci := 10) (j := 3) (v := .int t1_3) C0 V i_Dir rfl rfl hT1 (by decide) w_360 rfl d_9_10_4 ?_
  refine lv_iconst (v := (-1)) hx hb d_9_10_7 (by decide) ?_
  refine lv_icmp_eq (tgt := 25) hx hb d_9_10_8 (by decide) (fun c23 => ?_) (fun c23 => ?_)
  ·
    have b24 : q_F (t1_3.toInt = (-1)) := (q_eqI c23)
    exact q_retv C0 V (⟨hI, hF, t0_0, hT0, (show 0 ≤ t0_0.toInt from (by have t1 : 0 ≤ t0_0.toInt ∧ t0_0.toInt ≤ 1000000 := btt0_0; omega)), (show t0_0.toInt ≤ t0_0.toInt from (by omega))⟩) d_9_10_25
  ·
    have b25 : q_F (t1_3.toInt ≠ (-1)) := (q_neI c23)
    refine lv_aload_n hx hb d_9_10_11 rfl (lv_at hl 0 rfl) ?_
    refine q_get (ci := 11) (j := 8) (v := .ref (q 45)) C0 V i_Pri rfl rfl hO15 (by decide) w_393 rfl d_9_10_12 ?_
    refine lv_aload_n hx hb d_9_10_15 rfl (lv_at hl 0 rfl) ?_
    refine q_get (ci := 11) (j := 6) (v := .ref (q 47)) C0 V i_Pri rfl rfl hO15 (by decide) w_391 rfl d_9_10_16 ?_
    refine q_get (ci := 10) (j := 3) (v := .int t1_3) C0 V i_Dir rfl rfl hT1 (by decide) w_360 rfl d_9_10_19 ?_
    refine q_gov V (q_runV (As := [.int t1_3]) (rest := []) (d := 2) (mc := 0) (ms := 0) (ci := 1) C0 V rfl LV_Pri_201 (T_She_cut l D g q ws 45 4104 513 1000000 (n_h45 g q) t1_3 hI t0_0 hT0 (by have y0 : (4104 : Int32).toInt = 4104 := rfl; have y1 : (513 : Int32).toInt = 513 := rfl; have y2 : (1000000 : Int32).toInt = 1000000 := rfl; have t1 : -1 ≤ t1_3.toInt ∧ t1_3.toInt ≤ 9999 := btt1_3; have t2 : t1_3.toInt ≠ (-1) := b25; omega) _) rfl rfl hT0 rfl hl.1 rfl (Nat.le_of_ble_eq_true rfl) ⟨by decide, by decide⟩ ⟨Nat.le_of_ble_eq_true rfl, Nat.le_of_ble_eq_true rfl⟩ d_9_10_22) (fun u26 H locs hp27 V => ?_)
    obtain ⟨hI, hu34, y29, hO28, b30, b31, b32⟩ := hp27
    replace hO28 : u26[45]? = (some (q 45, .inr (1, [.ref (q 46), .int 4104, .int y29])) : Option (Nat × va_E)) := hO28
    replace b30 : q_F (0 ≤ y29.toInt) := b30
    replace b31 : q_F (y29.toInt ≤ t1_3.toInt) := b31
    replace b32 : q_F (y29.toInt ≤ t0_0.toInt) := b32
    replace hT1 := (hu34 _ (by decide)).trans hT1
    replace hO15 := (hu34 _ (by decide)).trans hO15
    replace hF := q_uc hF hu34 (by simp)
    exact q_retv C0 V (⟨hI, hF, y29, hO28, (show 0 ≤ y29.toInt from (by have t1 : 0 ≤ y29.toInt := b30; omega)), (show y29.toInt ≤ t0_0.toInt from (by have t1 : y29.toInt ≤ t0_0.toInt := b32; omega))⟩) d_9_10_25
theorem d_9_13_0 : decode prog_9_method_13_code 0 = .ok (.iload_n 1, 1) := by decide +kernel
theorem d_9_13_1 : decode prog_9_method_13_code 1 = .ok (.ifCond .eq 32, 3) := by decide +kernel
theorem d_9_13_33 : decode prog_9_method_13_code 33 = .ok (.aload_n 0, 1) := by decide +kernel
theorem d_9_13_34 : decode prog_9_method_13_code 34 = .ok (.getfield 47, 3) := by decide +kernel
theorem d_9_13_37 : decode prog_9_method_13_code 37 = .ok (.iconst 4, 1) := by decide +kernel
theorem d_9_13_38 : decode prog_9_method_13_code 38 = .ok (.invokevirtual 144, 3) := by decide +kernel
theorem d_9_13_41 : decode prog_9_method_13_code 41 = .ok (.ifCond .eq 15, 3) := by decide +kernel
theorem d_9_13_56 : decode prog_9_method_13_code 56 = .ok (.aload_n 0, 1) := by decide +kernel
theorem d_9_13_57 : decode prog_9_method_13_code 57 = .ok (.getfield 47, 3) := by decide +kernel
theorem d_9_13_60 : decode prog_9_method_13_code 60 = .ok (.sipush 128, 3) := by decide +kernel
theorem d_9_13_63 : decode prog_9_method_13_code 63 = .ok (.invokevirtual 144, 3) := by decide +kernel
theorem d_9_13_66 : decode prog_9_method_13_code 66 = .ok (.ifCond .eq 12, 3) := by decide +kernel
theorem d_9_13_78 : decode prog_9_method_13_code 78 = .ok (.aload_n 0, 1) := by decide +kernel
theorem d_9_13_79 : decode prog_9_method_13_code 79 = .ok (.aload_n 0, 1) := by decide +kernel
theorem d_9_13_80 : decode prog_9_method_13_code 80 = .ok (.getfield 31, 3) := by decide +kernel
theorem d_9_13_83 : decode prog_9_method_13_code 83 = .ok (.getfield 73, 3) := by decide +kernel
theorem d_9_13_86 : decode prog_9_method_13_code 86 = .ok (.putfield 90, 3) := by decide +kernel
set_option maxRecDepth 100000 in
theorem w_394 : (Cond.fieldLink "NumberHouse$Printer" (90 : Nat) "NumberHouse$Printer" "zerosAt" "I") ∈ q_tbl := q_of2 154 rfl (by decide +kernel)
theorem d_9_13_89 : decode prog_9_method_13_code 89 = .ok (.return_, 1) := by decide +kernel
theorem d_9_13_69 : decode prog_9_method_13_code 69 = .ok (.aload_n 0, 1) := by decide +kernel
theorem d_9_13_70 : decode prog_9_method_13_code 70 = .ok (.getfield 31, 3) := by decide +kernel
theorem d_9_13_73 : decode prog_9_method_13_code 73 = .ok (.bipush 32, 2) := by decide +kernel
theorem d_9_13_75 : decode prog_9_method_13_code 75 = .ok (.invokevirtual 113, 3) := by decide +kernel
theorem d_9_13_44 : decode prog_9_method_13_code 44 = .ok (.aload_n 0, 1) := by decide +kernel
theorem d_9_13_45 : decode prog_9_method_13_code 45 = .ok (.getfield 31, 3) := by decide +kernel
theorem d_9_13_48 : decode prog_9_method_13_code 48 = .ok (.bipush 43, 2) := by decide +kernel
theorem d_9_13_50 : decode prog_9_method_13_code 50 = .ok (.invokevirtual 113, 3) := by decide +kernel
theorem d_9_13_53 : decode prog_9_method_13_code 53 = .ok (.goto 25, 3) := by decide +kernel
theorem d_9_13_4 : decode prog_9_method_13_code 4 = .ok (.aload_n 0, 1) := by decide +kernel
theorem d_9_13_5 : decode prog_9_method_13_code 5 = .ok (.getfield 31, 3) := by decide +kernel
theorem d_9_13_8 : decode prog_9_method_13_code 8 = .ok (.aload_n 0, 1) := by decide +kernel
theorem d_9_13_9 : decode prog_9_method_13_code 9 = .ok (.getfield 47, 3) := by decide +kernel
theorem d_9_13_12 : decode prog_9_method_13_code 12 = .ok (.bipush 32, 2) := by decide +kernel
theorem d_9_13_14 : decode prog_9_method_13_code 14 = .ok (.invokevirtual 144, 3) := by decide +kernel
theorem d_9_13_17 : decode prog_9_method_13_code 17 = .ok (.ifCond .eq 8, 3) := by decide +kernel
theorem d_9_13_25 : decode prog_9_method_13_code 25 = .ok (.bipush 45, 2) := by decide +kernel
theorem d_9_13_27 : decode prog_9_method_13_code 27 = .ok (.invokevirtual 113, 3) := by decide +kernel
theorem d_9_13_30 : decode prog_9_method_13_code 30 = .ok (.goto 48, 3) := by decide +kernel
theorem d_9_13_20 : decode prog_9_method_13_code 20 = .ok (.bipush 40, 2) := by decide +kernel
theorem d_9_13_22 : decode prog_9_method_13_code 22 = .ok (.goto 5, 3) := by decide +kernel
def y_Pri_writeSign : MethodName := ⟨"NumberHouse$Printer", "writeSign", "(Z)V"⟩
set_option maxRecDepth 100000 in
set_option maxHeartbeats 4000000 in
theorem T_Pri_writeSign (l : Launch) (D : va_G) (g : Nat → ClassId) (q : Nat → Nat) (ws : va_W) (x2 : Int32) (hI : q_I (nsh g q) q ws) (t0_0 : Int32) (t0_1 : Int32) (t0_2 : Int32) (t0_3 : Int32) (hT0 : ws[40]? = (some (q 40, .inr (11, [.int t0_0, .ref (q 41), .ref (q 42), .ref (q 43), .ref (q 44), .ref (q 1), .ref (q 47), .ref (q 36), .ref (q 45), .int t0_1, .int t0_2, .int t0_3])) : Option (Nat × va_E))) (t1_0 : Int32) (hT1 : ws[45]? = (some (q 45, .inr (1, [.ref (q 46), .int 4104, .int t1_0])) : Option (Nat × va_E))) (t2_0 : Int32) (t2_1 : Int32) (t2_2 : Int32) (t2_3 : Int32) (t2_4 : Int32) (t2_5 : Int32) (t2_6 : Int32) (hT2 : ws[47]? = (some (q 47, .inr (10, [.int t2_0, .int t2_1, .int t2_2, .int t2_3, .int t2_4, .int t2_5, .ref (q 1), .int t2_6])) : Option (Nat × va_E))) (hzx2 : 0 ≤ x2.toInt ∧ x2.toInt ≤ 1) (pre0 : t1_0.toInt ≤ 900000) : q_mV l y_Pri_writeSign prog_9_method_13_code 2 2 0 0 D g [.ref (q 40), .int x2] ws (fun u => q_I (nsh g q) q u ∧ q_un ws u [40, 45, 46] ∧ ∃ (u0_0 : Int32) (u0_1 : Int32) (u0_2 : Int32) (u0_3 : Int32) (u1_0 : Int32), u[40]? = (some (q 40, .inr (11, [.int u0_0, .ref (q 41), .ref (q 42), .ref (q 43), .ref (q 44), .ref (q 1), .ref (q 47), .ref (q 36), .ref (q 45), .int u0_1, .int u0_2, .int u0_3])) : Option (Nat × va_E)) ∧ u[45]? = (some (q 45, .inr (1, [.ref (q 46), .int 4104, .int u1_0])) : Option (Nat × va_E)) ∧ (t0_0.toInt ≤ u0_0.toInt) ∧ (u0_0.toInt ≤ t0_0.toInt) ∧ (t0_2.toInt ≤ u0_2.toInt) ∧ (u0_2.toInt ≤ t0_2.toInt) ∧ (t0_3.toInt ≤ u0_3.toInt) ∧ (u0_3.toInt ≤ t0_3.toInt) ∧ (x2.toInt ≤ u1_0.toInt) ∧ (t1_0.toInt ≤ u1_0.toInt) ∧ (u1_0.toInt ≤ t1_0.toInt + 1) ∧ (u1_0.toInt ≤ u0_1.toInt) ∧ (u0_1.toInt ≤ u1_0.toInt)) := by
  intro sz
  refine q_into (by decide) (Nat.le_of_ble_eq_true rfl) ?_
  intro p e s m below meth c ls hsz C0 V hl
  have hx := C0.1
  have hb := C0.2.1
  replace hzx2 : q_F (0 ≤ x2.toInt ∧ x2.toInt ≤ 1) := hzx2
  obtain ⟨yy0_0, yy0_1, yy0_2, yy0_3, hh0, btt0_0, btt0_1, btt0_3⟩ := n_o40 hI
  obtain ⟨rfl, rfl, rfl, rfl⟩ : t0_0 = yy0_0 ∧ t0_1 = yy0_1 ∧ t0_2 = yy0_2 ∧ t0_3 = yy0_3 := by have z := Option.some.inj (hT0.symm.trans hh0); simpa using z
  replace btt0_0 : q_F (0 ≤ t0_0.toInt ∧ t0_0.toInt ≤ 9) := btt0_0
  replace btt0_1 : q_F (-1 ≤ t0_1.toInt ∧ t0_1.toInt ≤ 1000000) := btt0_1
  replace btt0_3 : q_F (-1 ≤ t0_3.toInt ∧ t0_3.toInt ≤ 8) := btt0_3
  obtain ⟨yy1_0, hh1, btt1_0⟩ := n_shO hI (n_h45 g q)
  obtain ⟨rfl⟩ : t1_0 = yy1_0 := by have z := Option.some.inj (hT1.symm.trans hh1); simpa using z
  replace btt1_0 : q_F (0 ≤ t1_0.toInt ∧ t1_0.toInt ≤ 1000000) := btt1_0
  obtain ⟨yy2_0, yy2_1, yy2_2, yy2_3, yy2_4, yy2_5, yy2_6, hh2, btt2_2, btt2_3, btt2_6⟩ := n_o47 hI
  obtain ⟨rfl, rfl, rfl, rfl, rfl, rfl, rfl⟩ : t2_0 = yy2_0 ∧ t2_1 = yy2_1 ∧ t2_2 = yy2_2 ∧ t2_3 = yy2_3 ∧ t2_4 = yy2_4 ∧ t2_5 = yy2_5 ∧ t2_6 = yy2_6 := by have z := Option.some.inj (hT2.symm.trans hh2); simpa using z
  replace btt2_2 : q_F (-1 ≤ t2_2.toInt ∧ t2_2.toInt ≤ 9999) := btt2_2
  replace btt2_3 : q_F (-1 ≤ t2_3.toInt ∧ t2_3.toInt ≤ 9999) := btt2_3
  replace btt2_6 : q_F (0 ≤ t2_6.toInt ∧ t2_6.toInt ≤ 1) := btt2_6
  replace pre0 : q_F (t1_0.toInt ≤ 900000) := pre0
  have hF : q_un ws ws [40, 45, 46] := q_u0
  have hl : lv_has ls 2 [(0, .ref (q 40)), (1, .int x2)] := hl
  refine lv_iload_n hx hb d_9_13_0 rfl (lv_at hl 1 rfl) ?_
  refine lv_if_eq (tgt := 33) hx hb d_9_13_1 (by decide) (fun c23 => ?_) (fun c23 => ?_)
  ·
    have b24 : q_F (x2.toInt = 0) := (q_eqI c23)
    refine lv_aload_n hx hb d_9_13_33 rfl (lv_at hl 0 rfl) ?_
    refine q_get (ci := 11) (j := 6) (v := .ref (q 47)) C0 V i_Pri rfl rfl hT0 (by decide) w_391 rfl d_9_13_34 ?_
    refine lv_iconst (v := 4) hx hb d_9_13_37 (by decide) ?_
    refine q_goi V (q_runV (As := [.int 4]) (rest := []) (d := 1) (mc := 0) (ms := 0) (ci := 10) C0 V rfl LV_Pri_144 (T_Dir_has l D g q ws  4 hI   _) rfl rfl hT2 rfl hl.1 rfl (Nat.le_of_ble_eq_true rfl) ⟨by decide, by decide⟩ ⟨Nat.le_of_ble_eq_true rfl, Nat.le_of_ble_eq_true rfl⟩ d_9_13_38) (fun a27 u25 H locs hp26 V => ?_)
    obtain ⟨rfl, b28, b29⟩ := hp26
    replace b28 : q_F (0 ≤ a27.toInt) := b28
    replace b29 : q_F (a27.toInt ≤ 1) := b29
    refine lv_if_eq (tgt := 56) hx hb d_9_13_41 (by decide) (fun c31 => ?_) (fun c31 => ?_)
    ·
      have b32 : q_F (a27.toInt = 0) := (q_eqI c31)
      refine lv_aload_n hx hb d_9_13_56 rfl (lv_at hl 0 rfl) ?_
      refine q_get (ci := 11) (j := 6) (v := .ref (q 47)) C0 V i_Pri rfl rfl hT0 (by decide) w_391 rfl d_9_13_57 ?_
      refine lv_sipush (v := 128) hx hb d_9_13_60 (by decide) ?_
      refine q_goi V (q_runV (As := [.int 128]) (rest := []) (d := 1) (mc := 0) (ms := 0) (ci := 10) C0 V rfl LV_Pri_144 (T_Dir_has l D g q ws  128 hI   _) rfl rfl hT2 rfl hl.1 rfl (Nat.le_of_ble_eq_true rfl) ⟨by decide, by decide⟩ ⟨Nat.le_of_ble_eq_true rfl, Nat.le_of_ble_eq_true rfl⟩ d_9_13_63) (fun a35 u33 H locs hp34 V => ?_)
      obtain ⟨rfl, b36, b37⟩ := hp34
      replace b36 : q_F (0 ≤ a35.toInt) := b36
      replace b37 : q_F (a35.toInt ≤ 1) := b37
      refine lv_if_eq (tgt := 78) hx hb d_9_13_66 (by decide) (fun c39 => ?_) (fun c39 => ?_)
      ·
        have b40 : q_F (a35.toInt = 0) := (q_eqI c39)
        refine lv_aload_n hx hb d_9_13_78 rfl (lv_at hl 0 rfl) ?_
        refine lv_aload_n hx hb d_9_13_79 rfl (lv_at hl 0 rfl) ?_
        refine q_get (ci := 11) (j := 8) (v := .ref (q 45)) C0 V i_Pri rfl rfl hT0 (by decide) w_393 rfl d_9_13_80 ?_
        refine q_get (ci := 1) (j := 2) (v := .int t1_0) C0 V i_She rfl rfl hT1 (by decide) w_58 rfl d_9_13_83 ?_
        refine q_put (ci := 11) (j := 9) (v := .int t1_0) (ty := .int) C0 V i_Pri o_Pri n_Pri rfl rfl hT0 (by decide) w_394 rfl rfl rfl rfl (Nat.le_of_ble_eq_true rfl) d_9_13_86 (fun H locs w41 hu42 hT0 V => ?_)
        replace hT0 : w41[40]? = (some (q 40, .inr (11, [.int t0_0, .ref (q 41), .ref (q 42), .ref (q 43), .ref (q 44), .ref (q 1), .ref (q 47), .ref (q 36), .ref (q 45), .int t1_0, .int t0_2, .int t0_3])) : Option (Nat × va_E)) := hT0
        replace hI := n_p40 hI hu42 hT0 ⟨(by have t1 : 0 ≤ t0_0.toInt ∧ t0_0.toInt ≤ 9 := btt0_0; omega), (by have t1 : 0 ≤ t0_0.toInt ∧ t0_0.toInt ≤ 9 := btt0_0; omega)⟩ ⟨(by have t1 : 0 ≤ t1_0.toInt ∧ t1_0.toInt ≤ 1000000 := btt1_0; omega), (by have t1 : 0 ≤ t1_0.toInt ∧ t1_0.toInt ≤ 1000000 := btt1_0; omega)⟩ ⟨(by have t1 : -1 ≤ t0_3.toInt ∧ t0_3.toInt ≤ 8 := btt0_3; omega), (by have t1 : -1 ≤ t0_3.toInt ∧ t0_3.toInt ≤ 8 := btt0_3; omega)⟩
        replace hT1 := (hu42 _ (by decide)).trans hT1
        replace hT2 := (hu42 _ (by decide)).trans hT2
        replace hF := q_us hF hu42 (by simp)
        exact q_retv C0 V (⟨hI, hF, t0_0, t1_0, t0_2, t0_3, t1_0, hT0, hT1, (show t0_0.toInt ≤ t0_0.toInt from (by omega)), (show t0_0.toInt ≤ t0_0.toInt from (by omega)), (show t0_2.toInt ≤ t0_2.toInt from (by omega)), (show t0_2.toInt ≤ t0_2.toInt from (by omega)), (show t0_3.toInt ≤ t0_3.toInt from (by omega)), (show t0_3.toInt ≤ t0_3.toInt from (by omega)), (show x2.toInt ≤ t1_0.toInt from (by have t1 : 0 ≤ t1_0.toInt ∧ t1_0.toInt ≤ 1000000 := btt1_0; have t2 : x2.toInt = 0 := b24; omega)), (show t1_0.toInt ≤ t1_0.toInt from (by omega)), (show t1_0.toInt ≤ t1_0.toInt + 1 from (by omega)), (show t1_0.toInt ≤ t1_0.toInt from (by omega)), (show t1_0.toInt ≤ t1_0.toInt from (by omega))⟩) d_9_13_89
      ·
        have b43 : q_F (a35.toInt ≠ 0) := (q_neI c39)
        refine lv_aload_n hx hb d_9_13_69 rfl (lv_at hl 0 rfl) ?_
        refine q_get (ci := 11) (j := 8) (v := .ref (q 45)) C0 V i_Pri rfl rfl hT0 (by decide) w_393 rfl d_9_13_70 ?_
        refine lv_bipush (v := 32) hx hb d_9_13_73 (by decide) ?_
        refine q_gov V (q_runV (As := [.int 32]) (rest := []) (d := 1) (mc := 0) (ms := 0) (ci := 1) C0 V rfl LV_Pri_113 (T_She_add l D g q ws 45 4104 513 1000000 (n_h45 g q) 32 hI t1_0 hT1 (by have y0 : (4104 : Int32).toInt = 4104 := rfl; have y1 : (513 : Int32).toInt = 513 := rfl; have y2 : (1000000 : Int32).toInt = 1000000 := rfl; have y3 : (32 : Int32).toInt = 32 := rfl; have t1 : t1_0.toInt ≤ 900000 := pre0; omega) _) rfl rfl hT1 rfl hl.1 rfl (Nat.le_of_ble_eq_true rfl) ⟨by decide, by decide⟩ ⟨Nat.le_of_ble_eq_true rfl, Nat.le_of_ble_eq_true rfl⟩ d_9_13_75) (fun u44 H locs hp45 V => ?_)
        obtain ⟨hI, hu51, y47, hO46, b48, b49⟩ := hp45
        replace hO46 : u44[45]? = (some (q 45, .inr (1, [.ref (q 46), .int 4104, .int y47])) : Option (Nat × va_E)) := hO46
        replace b48 : q_F (t1_0.toInt + 1 ≤ y47.toInt) := b48
        replace b49 : q_F (y47.toInt ≤ t1_0.toInt + 1) := b49
        replace hT0 := (hu51 _ (by decide)).trans hT0
        replace hT2 := (hu51 _ (by decide)).trans hT2
        replace hF := q_uc hF hu51 (by simp)
        refine lv_aload_n hx hb d_9_13_78 rfl (lv_at hl 0 rfl) ?_
        refine lv_aload_n hx hb d_9_13_79 rfl (lv_at hl 0 rfl) ?_
        refine q_get (ci := 11) (j := 8) (v := .ref (q 45)) C0 V i_Pri rfl rfl hT0 (by decide) w_393 rfl d_9_13_80 ?_
        refine q_get (ci := 1) (j := 2) (v := .int y47) C0 V i_She rfl rfl hO46 (by decide) w_58 rfl d_9_13_83 ?_
        refine q_put (ci := 11) (j := 9) (v := .int y47) (ty := .int) C0 V i_Pri o_Pri n_Pri rfl rfl hT0 (by decide) w_394 rfl rfl rfl rfl (Nat.le_of_ble_eq_true rfl) d_9_13_86 (fun H locs w52 hu53 hT0 V => ?_)
        replace hT0 : w52[40]? = (some (q 40, .inr (11, [.int t0_0, .ref (q 41), .ref (q 42), .ref (q 43), .ref (q 44), .ref (q 1), .ref (q 47), .ref (q 36), .ref (q 45), .int y47, .int t0_2, .int t0_3])) : Option (Nat × va_E)) := hT0
        replace hI := n_p40 hI hu53 hT0 ⟨(by have t1 : 0 ≤ t0_0.toInt ∧ t0_0.toInt ≤ 9 := btt0_0; omega), (by have t1 : 0 ≤ t0_0.toInt ∧ t0_0.toInt ≤ 9 := btt0_0; omega)⟩ ⟨(by have t1 : 0 ≤ t1_0.toInt ∧ t1_0.toInt ≤ 1000000 := btt1_0; have t2 : t1_0.toInt + 1 ≤ y47.toInt := b48; omega), (by have t1 : t1_0.toInt ≤ 900000 := pre0; have t2 : y47.toInt ≤ t1_0.toInt + 1 := b49; omega)⟩ ⟨(by have t1 : -1 ≤ t0_3.toInt ∧ t0_3.toInt ≤ 8 := btt0_3; omega), (by have t1 : -1 ≤ t0_3.toInt ∧ t0_3.toInt ≤ 8 := btt0_3; omega)⟩
        replace hO46 := (hu53 _ (by decide)).trans hO46
        replace hT2 := (hu53 _ (by decide)).trans hT2
        replace hF := q_us hF hu53 (by simp)
        exact q_retv C0 V (⟨hI, hF, t0_0, y47, t0_2, t0_3, y47, hT0, hO46, (show t0_0.toInt ≤ t0_0.toInt from (by omega)), (show t0_0.toInt ≤ t0_0.toInt from (by omega)), (show t0_2.toInt ≤ t0_2.toInt from (by omega)), (show t0_2.toInt ≤ t0_2.toInt from (by omega)), (show t0_3.toInt ≤ t0_3.toInt from (by omega)), (show t0_3.toInt ≤ t0_3.toInt from (by omega)), (show x2.toInt ≤ y47.toInt from (by have t1 : 0 ≤ x2.toInt ∧ x2.toInt ≤ 1 := hzx2; have t2 : 0 ≤ t1_0.toInt ∧ t1_0.toInt ≤ 1000000 := btt1_0; have t3 : t1_0.toInt + 1 ≤ y47.toInt := b48; omega)), (show t1_0.toInt ≤ y47.toInt from (by have t1 : t1_0.toInt + 1 ≤ y47.toInt := b48; omega)), (show y47.toInt ≤ t1_0.toInt + 1 from (by have t1 : y47.toInt ≤ t1_0.toInt + 1 := b49; omega)), (show y47.toInt ≤ y47.toInt from (by omega)), (show y47.toInt ≤ y47.toInt from (by omega))⟩) d_9_13_89
    ·
      have b54 : q_F (a27.toInt ≠ 0) := (q_neI c31)
      refine lv_aload_n hx hb d_9_13_44 rfl (lv_at hl 0 rfl) ?_
      refine q_get (ci := 11) (j := 8) (v := .ref (q 45)) C0 V i_Pri rfl rfl hT0 (by decide) w_393 rfl d_9_13_45 ?_
      refine lv_bipush (v := 43) hx hb d_9_13_48 (by decide) ?_
      refine q_gov V (q_runV (As := [.int 43]) (rest := []) (d := 1) (mc := 0) (ms := 0) (ci := 1) C0 V rfl LV_Pri_113 (T_She_add l D g q ws 45 4104 513 1000000 (n_h45 g q) 43 hI t1_0 hT1 (by have y0 : (4104 : Int32).toInt = 4104 := rfl; have y1 : (513 : Int32).toInt = 513 := rfl; have y2 : (1000000 : Int32).toInt = 1000000 := rfl; have y3 : (43 : Int32).toInt = 43 := rfl; have t1 : t1_0.toInt ≤ 900000 := pre0; omega) _) rfl rfl hT1 rfl hl.1 rfl (Nat.le_of_ble_eq_true rfl) ⟨by decide, by decide⟩ ⟨Nat.le_of_ble_eq_true rfl, Nat.le_of_ble_eq_true rfl⟩ d_9_13_50) (fun u55 H locs hp56 V => ?_)
      obtain ⟨hI, hu62, y58, hO57, b59, b60⟩ := hp56
      replace hO57 : u55[45]? = (some (q 45, .inr (1, [.ref (q 46), .int 4104, .int y58])) : Option (Nat × va_E)) := hO57
      replace b59 : q_F (t1_0.toInt + 1 ≤ y58.toInt) := b59
      replace b60 : q_F (y58.toInt ≤ t1_0.toInt + 1) := b60
      replace hT0 := (hu62 _ (by decide)).trans hT0
      replace hT2 := (hu62 _ (by decide)).trans hT2
      replace hF := q_uc hF hu62 (by simp)
      refine lv_goto (tgt := 78) hx hb d_9_13_53 (by decide) ?_
      refine lv_aload_n hx hb d_9_13_78 rfl (lv_at hl 0 rfl) ?_
      refine lv_aload_n hx hb d_9_13_79 rfl (lv_at hl 0 rfl) ?_
      refine q_get (ci := 11) (j := 8) (v := .ref (q 45)) C0 V i_Pri rfl rfl hT0 (by decide) w_393 rfl d_9_13_80 ?_
      refine q_get (ci := 1) (j := 2) (v := .int y58) C0 V i_She rfl rfl hO57 (by decide) w_58 rfl d_9_13_83 ?_
      refine q_put (ci := 11) (j := 9) (v := .int y58) (ty := .int) C0 V i_Pri o_Pri n_Pri rfl rfl hT0 (by decide) w_394 rfl rfl rfl rfl (Nat.le_of_ble_eq_true rfl) d_9_13_86 (fun H locs w63 hu64 hT0 V => ?_)
      replace hT0 : w63[40]? = (some (q 40, .inr (11, [.int t0_0, .ref (q 41), .ref (q 42), .ref (q 43), .ref (q 44), .ref (q 1), .ref (q 47), .ref (q 36), .ref (q 45), .int y58, .int t0_2, .int t0_3])) : Option (Nat × va_E)) := hT0
      replace hI := n_p40 hI hu64 hT0 ⟨(by have t1 : 0 ≤ t0_0.toInt ∧ t0_0.toInt ≤ 9 := btt0_0; omega), (by have t1 : 0 ≤ t0_0.toInt ∧ t0_0.toInt ≤ 9 := btt0_0; omega)⟩ ⟨(by have t1 : 0 ≤ t1_0.toInt ∧ t1_0.toInt ≤ 1000000 := btt1_0; have t2 : t1_0.toInt + 1 ≤ y58.toInt := b59; omega), (by have t1 : t1_0.toInt ≤ 900000 := pre0; have t2 : y58.toInt ≤ t1_0.toInt + 1 := b60; omega)⟩ ⟨(by have t1 : -1 ≤ t0_3.toInt ∧ t0_3.toInt ≤ 8 := btt0_3; omega), (by have t1 : -1 ≤ t0_3.toInt ∧ t0_3.toInt ≤ 8 := btt0_3; omega)⟩
      replace hO57 := (hu64 _ (by decide)).trans hO57
      replace hT2 := (hu64 _ (by decide)).trans hT2
      replace hF := q_us hF hu64 (by simp)
      exact q_retv C0 V (⟨hI, hF, t0_0, y58, t0_2, t0_3, y58, hT0, hO57, (show t0_0.toInt ≤ t0_0.toInt from (by omega)), (show t0_0.toInt ≤ t0_0.toInt from (by omega)), (show t0_2.toInt ≤ t0_2.toInt from (by omega)), (show t0_2.toInt ≤ t0_2.toInt from (by omega)), (show t0_3.toInt ≤ t0_3.toInt from (by omega)), (show t0_3.toInt ≤ t0_3.toInt from (by omega)), (show x2.toInt ≤ y58.toInt from (by have t1 : 0 ≤ x2.toInt ∧ x2.toInt ≤ 1 := hzx2; have t2 : 0 ≤ t1_0.toInt ∧ t1_0.toInt ≤ 1000000 := btt1_0; have t3 : t1_0.toInt + 1 ≤ y58.toInt := b59; omega)), (show t1_0.toInt ≤ y58.toInt from (by have t1 : t1_0.toInt + 1 ≤ y58.toInt := b59; omega)), (show y58.toInt ≤ t1_0.toInt + 1 from (by have t1 : y58.toInt ≤ t1_0.toInt + 1 := b60; omega)), (show y58.toInt ≤ y58.toInt from (by omega)), (show y58.toInt ≤ y58.toInt from (by omega))⟩) d_9_13_89
  ·
    have b65 : q_F (x2.toInt ≠ 0) := (q_neI c23)
    refine lv_aload_n hx hb d_9_13_4 rfl (lv_at hl 0 rfl) ?_
    refine q_get (ci := 11) (j := 8) (v := .ref (q 45)) C0 V i_Pri rfl rfl hT0 (by decide) w_393 rfl d_9_13_5 ?_
    refine lv_aload_n hx hb d_9_13_8 rfl (lv_at hl 0 rfl) ?_
    refine q_get (ci := 11) (j := 6) (v := .ref (q 47)) C0 V i_Pri rfl rfl hT0 (by decide) w_391 rfl d_9_13_9 ?_
    refine lv_bipush (v := 32) hx hb d_9_13_12 (by decide) ?_
    refine q_goi V (q_runV (As := [.int 32]) (rest := [.ref (q 45)]) (d := 1) (mc := 0) (ms := 0) (ci := 10) C0 V rfl LV_Pri_144 (T_Dir_has l D g q ws  32 hI   _) rfl rfl hT2 rfl hl.1 rfl (Nat.le_of_ble_eq_true rfl) ⟨by decide, by decide⟩ ⟨Nat.le_of_ble_eq_true rfl, Nat.le_of_ble_eq_true rfl⟩ d_9_13_14) (fun a68 u66 H locs hp67 V => ?_)
    obtain ⟨rfl, b69, b70⟩ := hp67
    replace b69 : q_F (0 ≤ a68.toInt) := b69
    replace b70 : q_F (a68.toInt ≤ 1) := b70
    refine lv_if_eq (tgt := 25) hx hb d_9_13_17 (by decide) (fun c72 => ?_) (fun c72 => ?_)
    ·
      have b73 : q_F (a68.toInt = 0) := (q_eqI c72)
      refine lv_bipush (v := 45) hx hb d_9_13_25 (by decide) ?_
      refine q_gov V (q_runV (As := [.int 45]) (rest := []) (d := 1) (mc := 0) (ms := 0) (ci := 1) C0 V rfl LV_Pri_113 (T_She_add l D g q ws 45 4104 513 1000000 (n_h45 g q) 45 hI t1_0 hT1 (by have y0 : (4104 : Int32).toInt = 4104 := rfl; have y1 : (513 : Int32).toInt = 513 := rfl; have y2 : (1000000 : Int32).toInt = 1000000 := rfl; have y3 : (45 : Int32).toInt = 45 := rfl; have t1 : t1_0.toInt ≤ 900000 := pre0; omega) _) rfl rfl hT1 rfl hl.1 rfl (Nat.le_of_ble_eq_true rfl) ⟨by decide, by decide⟩ ⟨Nat.le_of_ble_eq_true rfl, Nat.le_of_ble_eq_true rfl⟩ d_9_13_27) (fun u74 H locs hp75 V => ?_)
      obtain ⟨hI, hu81, y77, hO76, b78, b79⟩ := hp75
      replace hO76 : u74[45]? = (some (q 45, .inr (1, [.ref (q 46), .int 4104, .int y77])) : Option (Nat × va_E)) := hO76
      replace b78 : q_F (t1_0.toInt + 1 ≤ y77.toInt) := b78
      replace b79 : q_F (y77.toInt ≤ t1_0.toInt + 1) := b79
      replace hT0 := (hu81 _ (by decide)).trans hT0
      replace hT2 := (hu81 _ (by decide)).trans hT2
      replace hF := q_uc hF hu81 (by simp)
      refine lv_goto (tgt := 78) hx hb d_9_13_30 (by decide) ?_
      refine lv_aload_n hx hb d_9_13_78 rfl (lv_at hl 0 rfl) ?_
      refine lv_aload_n hx hb d_9_13_79 rfl (lv_at hl 0 rfl) ?_
      refine q_get (ci := 11) (j := 8) (v := .ref (q 45)) C0 V i_Pri rfl rfl hT0 (by decide) w_393 rfl d_9_13_80 ?_
      refine q_get (ci := 1) (j := 2) (v := .int y77) C0 V i_She rfl rfl hO76 (by decide) w_58 rfl d_9_13_83 ?_
      refine q_put (ci := 11) (j := 9) (v := .int y77) (ty := .int) C0 V i_Pri o_Pri n_Pri rfl rfl hT0 (by decide) w_394 rfl rfl rfl rfl (Nat.le_of_ble_eq_true rfl) d_9_13_86 (fun H locs w82 hu83 hT0 V => ?_)
      replace hT0 : w82[40]? = (some (q 40, .inr (11, [.int t0_0, .ref (q 41), .ref (q 42), .ref (q 43), .ref (q 44), .ref (q 1), .ref (q 47), .ref (q 36), .ref (q 45), .int y77, .int t0_2, .int t0_3])) : Option (Nat × va_E)) := hT0
      replace hI := n_p40 hI hu83 hT0 ⟨(by have t1 : 0 ≤ t0_0.toInt ∧ t0_0.toInt ≤ 9 := btt0_0; omega), (by have t1 : 0 ≤ t0_0.toInt ∧ t0_0.toInt ≤ 9 := btt0_0; omega)⟩ ⟨(by have t1 : 0 ≤ t1_0.toInt ∧ t1_0.toInt ≤ 1000000 := btt1_0; have t2 : t1_0.toInt + 1 ≤ y77.toInt := b78; omega), (by have t1 : t1_0.toInt ≤ 900000 := pre0; have t2 : y77.toInt ≤ t1_0.toInt + 1 := b79; omega)⟩ ⟨(by have t1 : -1 ≤ t0_3.toInt ∧ t0_3.toInt ≤ 8 := btt0_3; omega), (by have t1 : -1 ≤ t0_3.toInt ∧ t0_3.toInt ≤ 8 := btt0_3; omega)⟩
      replace hO76 := (hu83 _ (by decide)).trans hO76
      replace hT2 := (hu83 _ (by decide)).trans hT2
      replace hF := q_us hF hu83 (by simp)
      exact q_retv C0 V (⟨hI, hF, t0_0, y77, t0_2, t0_3, y77, hT0, hO76, (show t0_0.toInt ≤ t0_0.toInt from (by omega)), (show t0_0.toInt ≤ t0_0.toInt from (by omega)), (show t0_2.toInt ≤ t0_2.toInt from (by omega)), (show t0_2.toInt ≤ t0_2.toInt from (by omega)), (show t0_3.toInt ≤ t0_3.toInt from (by omega)), (show t0_3.toInt ≤ t0_3.toInt from (by omega)), (show x2.toInt ≤ y77.toInt from (by have t1 : 0 ≤ x2.toInt ∧ x2.toInt ≤ 1 := hzx2; have t2 : 0 ≤ t1_0.toInt ∧ t1_0.toInt ≤ 1000000 := btt1_0; have t3 : t1_0.toInt + 1 ≤ y77.toInt := b78; omega)), (show t1_0.toInt ≤ y77.toInt from (by have t1 : t1_0.toInt + 1 ≤ y77.toInt := b78; omega)), (show y77.toInt ≤ t1_0.toInt + 1 from (by have t1 : y77.toInt ≤ t1_0.toInt + 1 := b79; omega)), (show y77.toInt ≤ y77.toInt from (by omega)), (show y77.toInt ≤ y77.toInt from (by omega))⟩) d_9_13_89
    ·
      have b84 : q_F (a68.toInt ≠ 0) := (q_neI c72)
      refine lv_bipush (v := 40) hx hb d_9_13_20 (by decide) ?_
      refine lv_goto (tgt := 27) hx hb d_9_13_22 (by decide) ?_
      refine q_gov V (q_runV (As := [.int 40]) (rest := []) (d := 1) (mc := 0) (ms := 0) (ci := 1) C0 V rfl LV_Pri_113 (T_She_add l D g q ws 45 4104 513 1000000 (n_h45 g q) 40 hI t1_0 hT1 (by have y0 : (4104 : Int32).toInt = 4104 := rfl; have y1 : (513 : Int32).toInt = 513 := rfl; have y2 : (1000000 : Int32).toInt = 1000000 := rfl; have y3 : (40 : Int32).toInt = 40 := rfl; have t1 : t1_0.toInt ≤ 900000 := pre0; omega) _) rfl rfl hT1 rfl hl.1 rfl (Nat.le_of_ble_eq_true rfl) ⟨by decide, by decide⟩ ⟨Nat.le_of_ble_eq_true rfl, Nat.le_of_ble_eq_true rfl⟩ d_9_13_27) (fun u85 H locs hp86 V => ?_)
      obtain ⟨hI, hu92, y88, hO87, b89, b90⟩ := hp86
      replace hO87 : u85[45]? = (some (q 45, .inr (1, [.ref (q 46), .int 4104, .int y88])) : Option (Nat × va_E)) := hO87
      replace b89 : q_F (t1_0.toInt + 1 ≤ y88.toInt) := b89
      replace b90 : q_F (y88.toInt ≤ t1_0.toInt + 1) := b90
      replace hT0 := (hu92 _ (by decide)).trans hT0
      replace hT2 := (hu92 _ (by decide)).trans hT2
      replace hF := q_uc hF hu92 (by simp)
      refine lv_goto (tgt := 78) hx hb d_9_13_30 (by decide) ?_
      refine lv_aload_n hx hb d_9_13_78 rfl (lv_at hl 0 rfl) ?_
      refine lv_aload_n hx hb d_9_13_79 rfl (lv_at hl 0 rfl) ?_
      refine q_get (ci := 11) (j := 8) (v := .ref (q 45)) C0 V i_Pri rfl rfl hT0 (by decide) w_393 rfl d_9_13_80 ?_
      refine q_get (ci := 1) (j := 2) (v := .int y88) C0 V i_She rfl rfl hO87 (by decide) w_58 rfl d_9_13_83 ?_
      refine q_put (ci := 11) (j := 9) (v := .int y88) (ty := .int) C0 V i_Pri o_Pri n_Pri rfl rfl hT0 (by decide) w_394 rfl rfl rfl rfl (Nat.le_of_ble_eq_true rfl) d_9_13_86 (fun H locs w93 hu94 hT0 V => ?_)
      replace hT0 : w93[40]? = (some (q 40, .inr (11, [.int t0_0, .ref (q 41), .ref (q 42), .ref (q 43), .ref (q 44), .ref (q 1), .ref (q 47), .ref (q 36), .ref (q 45), .int y88, .int t0_2, .int t0_3])) : Option (Nat × va_E)) := hT0
      replace hI := n_p40 hI hu94 hT0 ⟨(by have t1 : 0 ≤ t0_0.toInt ∧ t0_0.toInt ≤ 9 := btt0_0; omega), (by have t1 : 0 ≤ t0_0.toInt ∧ t0_0.toInt ≤ 9 := btt0_0; omega)⟩ ⟨(by have t1 : 0 ≤ t1_0.toInt ∧ t1_0.toInt ≤ 1000000 := btt1_0; have t2 : t1_0.toInt + 1 ≤ y88.toInt := b89; omega), (by have t1 : t1_0.toInt ≤ 900000 := pre0; have t2 : y88.toInt ≤ t1_0.toInt + 1 := b90; omega)⟩ ⟨(by have t1 : -1 ≤ t0_3.toInt ∧ t0_3.toInt ≤ 8 := btt0_3; omega), (by have t1 : -1 ≤ t0_3.toInt ∧ t0_3.toInt ≤ 8 := btt0_3; omega)⟩
      replace hO87 := (hu94 _ (by decide)).trans hO87
      replace hT2 := (hu94 _ (by decide)).trans hT2
      replace hF := q_us hF hu94 (by simp)
      exact q_retv C0 V (⟨hI, hF, t0_0, y88, t0_2, t0_3, y88, hT0, hO87, (show t0_0.toInt ≤ t0_0.toInt from (by omega)), (show t0_0.toInt ≤ t0_0.toInt from (by omega)), (show t0_2.toInt ≤ t0_2.toInt from (by omega)), (show t0_2.toInt ≤ t0_2.toInt from (by omega)), (show t0_3.toInt ≤ t0_3.toInt from (by omega)), (show t0_3.toInt ≤ t0_3.toInt from (by omega)), (show x2.toInt ≤ y88.toInt from (by have t1 : 0 ≤ x2.toInt ∧ x2.toInt ≤ 1 := hzx2; have t2 : 0 ≤ t1_0.toInt ∧ t1_0.toInt ≤ 1000000 := btt1_0; have t3 : t1_0.toInt + 1 ≤ y88.toInt := b89; omega)), (show t1_0.toInt ≤ y88.toInt from (by have t1 : t1_0.toInt + 1 ≤ y88.toInt := b89; omega)), (show y88.toInt ≤ t1_0.toInt + 1 from (by have t1 : y88.toInt ≤ t1_0.toInt + 1 := b90; omega)), (show y88.toInt ≤ y88.toInt from (by omega)), (show y88.toInt ≤ y88.toInt from (by omega))⟩) d_9_13_89
theorem d_9_12_0 : decode prog_9_method_12_code 0 = .ok (.aload_n 0, 1) := by decide +kernel
theorem d_9_12_1 : decode prog_9_method_12_code 1 = .ok (.getfield 47, 3) := by decide +kernel
theorem d_9_12_4 : decode prog_9_method_12_code 4 = .ok (.getfield 156, 3) := by decide +kernel
set_option maxRecDepth 100000 in
theorem w_362 : (Cond.fieldLink "NumberHouse$Printer" (156 : Nat) "NumberHouse$Directive" "conversion" "I") ∈ q_tbl := q_of2 122 rfl (by decide +kernel)
theorem d_9_12_7 : decode prog_9_method_12_code 7 = .ok (.bipush 111, 2) := by decide +kernel
theorem d_9_12_17 : decode prog_9_method_12_code 17 = .ok (.istore_n 3, 1) := by decide +kernel
theorem d_9_12_18 : decode prog_9_method_12_code 18 = .ok (.aload_n 0, 1) := by decide +kernel
theorem d_9_12_19 : decode prog_9_method_12_code 19 = .ok (.getfield 47, 3) := by decide +kernel
theorem d_9_12_22 : decode prog_9_method_12_code 22 = .ok (.iconst 2, 1) := by decide +kernel
theorem d_9_12_23 : decode prog_9_method_12_code 23 = .ok (.invokevirtual 144, 3) := by decide +kernel
theorem d_9_12_47 : decode prog_9_method_12_code 47 = .ok (.aload_n 0, 1) := by decide +kernel
theorem d_9_12_48 : decode prog_9_method_12_code 48 = .ok (.aload_n 0, 1) := by decide +kernel
theorem d_9_12_49 : decode prog_9_method_12_code 49 = .ok (.getfield 31, 3) := by decide +kernel
theorem d_9_12_52 : decode prog_9_method_12_code 52 = .ok (.getfield 73, 3) := by decide +kernel
theorem d_9_12_55 : decode prog_9_method_12_code 55 = .ok (.putfield 90, 3) := by decide +kernel
theorem d_9_12_58 : decode prog_9_method_12_code 58 = .ok (.iload_n 3, 1) := by decide +kernel
theorem d_9_12_67 : decode prog_9_method_12_code 67 = .ok (.istore 4, 2) := by decide +kernel
theorem d_9_12_69 : decode prog_9_method_12_code 69 = .ok (.bipush 63, 2) := by decide +kernel
theorem d_9_12_71 : decode prog_9_method_12_code 71 = .ok (.iload 4, 2) := by decide +kernel
theorem d_9_12_73 : decode prog_9_method_12_code 73 = .ok (.idiv, 1) := by decide +kernel
theorem d_9_12_74 : decode prog_9_method_12_code 74 = .ok (.iconst 1, 1) := by decide +kernel
theorem d_9_12_75 : decode prog_9_method_12_code 75 = .ok (.iadd, 1) := by decide +kernel
theorem d_9_12_76 : decode prog_9_method_12_code 76 = .ok (.istore 5, 2) := by decide +kernel
theorem d_9_12_78 : decode prog_9_method_12_code 78 = .ok (.iload 5, 2) := by decide +kernel
theorem d_9_12_80 : decode prog_9_method_12_code 80 = .ok (.iconst 1, 1) := by decide +kernel
theorem d_9_12_104 : decode prog_9_method_12_code 104 = .ok (.iload 5, 2) := by decide +kernel
theorem d_9_12_106 : decode prog_9_method_12_code 106 = .ok (.iconst 1, 1) := by decide +kernel
theorem d_9_12_107 : decode prog_9_method_12_code 107 = .ok (.isub, 1) := by decide +kernel
theorem d_9_12_108 : decode prog_9_method_12_code 108 = .ok (.istore 6, 2) := by decide +kernel
theorem d_9_12_110 : decode prog_9_method_12_code 110 = .ok (.iload 6, 2) := by decide +kernel
theorem d_9_12_112 : decode prog_9_method_12_code 112 = .ok (.ifCond .lt 36, 3) := by decide +kernel
theorem d_9_12_148 : decode prog_9_method_12_code 148 = .ok (.return_, 1) := by decide +kernel
theorem d_9_12_115 : decode prog_9_method_12_code 115 = .ok (.aload_n 0, 1) := by decide +kernel
theorem d_9_12_116 : decode prog_9_method_12_code 116 = .ok (.getfield 31, 3) := by decide +kernel
theorem d_9_12_119 : decode prog_9_method_12_code 119 = .ok (.ldc 214, 2) := by decide +kernel
theorem d_9_12_121 : decode prog_9_method_12_code 121 = .ok (.lload_n 1, 1) := by decide +kernel
theorem d_9_12_122 : decode prog_9_method_12_code 122 = .ok (.iload 4, 2) := by decide +kernel
theorem d_9_12_124 : decode prog_9_method_12_code 124 = .ok (.iload 6, 2) := by decide +kernel
theorem d_9_12_126 : decode prog_9_method_12_code 126 = .ok (.imul, 1) := by decide +kernel
theorem d_9_12_127 : decode prog_9_method_12_code 127 = .ok (.lushr, 1) := by decide +kernel
theorem d_9_12_128 : decode prog_9_method_12_code 128 = .ok (.l2i, 1) := by decide +kernel
theorem d_9_12_129 : decode prog_9_method_12_code 129 = .ok (.iconst 1, 1) := by decide +kernel
theorem d_9_12_130 : decode prog_9_method_12_code 130 = .ok (.iload 4, 2) := by decide +kernel
theorem d_9_12_132 : decode prog_9_method_12_code 132 = .ok (.ishl, 1) := by decide +kernel
theorem d_9_12_133 : decode prog_9_method_12_code 133 = .ok (.iconst 1, 1) := by decide +kernel
theorem d_9_12_134 : decode prog_9_method_12_code 134 = .ok (.isub, 1) := by decide +kernel
theorem d_9_12_135 : decode prog_9_method_12_code 135 = .ok (.iand, 1) := by decide +kernel
theorem d_9_12_136 : decode prog_9_method_12_code 136 = .ok (.invokevirtual 216, 3) := by decide +kernel
set_option maxRecDepth 100000 in
theorem w_1877 : (Cond.methodLink "NumberHouse$Printer" (216 : Nat) ({ cls := "java/lang/String", name := "charAt", desc := "(I)C" } : MethodName)) ∈ q_tbl := q_of8 197 rfl (by decide +kernel)
theorem LV_Pri_216 : q_LV "NumberHouse$Printer" 216 y_jStr_charAt prog_31_method_56_code 2 (some .char) 1 := ⟨w_668, w_25, w_1877, w_666, w_667, ⟨by decide, by decide, by decide +kernel⟩⟩
theorem d_9_12_139 : decode prog_9_method_12_code 139 = .ok (.invokevirtual 113, 3) := by decide +kernel
theorem d_9_12_142 : decode prog_9_method_12_code 142 = .ok (.iinc 6 (-1), 3) := by decide +kernel
theorem d_9_12_145 : decode prog_9_method_12_code 145 = .ok (.goto (-35), 3) := by decide +kernel
theorem d_9_12_81 : decode prog_9_method_12_code 81 = .ok (.if_icmp .le 23, 3) := by decide +kernel
theorem d_9_12_84 : decode prog_9_method_12_code 84 = .ok (.lload_n 1, 1) := by decide +kernel
theorem d_9_12_85 : decode prog_9_method_12_code 85 = .ok (.iload 4, 2) := by decide +kernel
theorem d_9_12_87 : decode prog_9_method_12_code 87 = .ok (.iload 5, 2) := by decide +kernel
theorem d_9_12_89 : decode prog_9_method_12_code 89 = .ok (.iconst 1, 1) := by decide +kernel
theorem d_9_12_90 : decode prog_9_method_12_code 90 = .ok (.isub, 1) := by decide +kernel
theorem d_9_12_91 : decode prog_9_method_12_code 91 = .ok (.imul, 1) := by decide +kernel
theorem d_9_12_92 : decode prog_9_method_12_code 92 = .ok (.lushr, 1) := by decide +kernel
theorem d_9_12_93 : decode prog_9_method_12_code 93 = .ok (.lconst 0, 1) := by decide +kernel
theorem d_9_12_94 : decode prog_9_method_12_code 94 = .ok (.lcmp, 1) := by decide +kernel
theorem d_9_12_95 : decode prog_9_method_12_code 95 = .ok (.ifCond .ne 9, 3) := by decide +kernel
theorem d_9_12_98 : decode prog_9_method_12_code 98 = .ok (.iinc 5 (-1), 3) := by decide +kernel
theorem d_9_12_101 : decode prog_9_method_12_code 101 = .ok (.goto (-23), 3) := by decide +kernel
theorem d_9_12_59 : decode prog_9_method_12_code 59 = .ok (.ifCond .eq 7, 3) := by decide +kernel
theorem d_9_12_66 : decode prog_9_method_12_code 66 = .ok (.iconst 4, 1) := by decide +kernel
theorem d_9_12_62 : decode prog_9_method_12_code 62 = .ok (.iconst 3, 1) := by decide +kernel
theorem d_9_12_63 : decode prog_9_method_12_code 63 = .ok (.goto 4, 3) := by decide +kernel
theorem d_9_12_26 : decode prog_9_method_12_code 26 = .ok (.ifCond .eq 21, 3) := by decide +kernel
theorem d_9_12_29 : decode prog_9_method_12_code 29 = .ok (.aload_n 0, 1) := by decide +kernel
theorem d_9_12_30 : decode prog_9_method_12_code 30 = .ok (.getfield 31, 3) := by decide +kernel
theorem d_9_12_33 : decode prog_9_method_12_code 33 = .ok (.iload_n 3, 1) := by decide +kernel
theorem d_9_12_34 : decode prog_9_method_12_code 34 = .ok (.ifCond .eq 8, 3) := by decide +kernel
theorem d_9_12_42 : decode prog_9_method_12_code 42 = .ok (.ldc 210, 2) := by decide +kernel
theorem d_9_12_44 : decode prog_9_method_12_code 44 = .ok (.invokevirtual 165, 3) := by decide +kernel
set_option maxRecDepth 100000 in
theorem w_1608 : (Cond.code ({ cls := "NumberHouse$Sheet", name := "addText", desc := "(Ljava/lang/String;)V" } : MethodName) prog_11_method_4_code (3 : Nat) (none : Option ClassFile.FieldType)) ∈ q_tbl := q_of7 168 rfl (by decide +kernel)
set_option maxRecDepth 100000 in
theorem w_1851 : (Cond.methodLink "NumberHouse$Printer" (165 : Nat) ({ cls := "NumberHouse$Sheet", name := "addText", desc := "(Ljava/lang/String;)V" } : MethodName)) ∈ q_tbl := q_of8 171 rfl (by decide +kernel)
set_option maxRecDepth 100000 in
theorem w_1606 : (Cond.instanceMethod ({ cls := "NumberHouse$Sheet", name := "addText", desc := "(Ljava/lang/String;)V" } : MethodName)) ∈ q_tbl := q_of7 166 rfl (by decide +kernel)
set_option maxRecDepth 100000 in
theorem w_1607 : (Cond.selects "NumberHouse$Sheet" ({ cls := "NumberHouse$Sheet", name := "addText", desc := "(Ljava/lang/String;)V" } : MethodName) ({ cls := "NumberHouse$Sheet", name := "addText", desc := "(Ljava/lang/String;)V" } : MethodName)) ∈ q_tbl := q_of7 167 rfl (by decide +kernel)
theorem LV_Pri_165 : q_LV "NumberHouse$Printer" 165 y_She_addText prog_11_method_4_code 3 none 1 := ⟨w_1608, w_2, w_1851, w_1606, w_1607, ⟨by decide, by decide, by decide +kernel⟩⟩
theorem d_9_12_37 : decode prog_9_method_12_code 37 = .ok (.ldc 208, 2) := by decide +kernel
theorem d_9_12_39 : decode prog_9_method_12_code 39 = .ok (.goto 5, 3) := by decide +kernel
theorem d_9_12_9 : decode prog_9_method_12_code 9 = .ok (.if_icmp .ne 7, 3) := by decide +kernel
theorem d_9_12_16 : decode prog_9_method_12_code 16 = .ok (.iconst 0, 1) := by decide +kernel
theorem d_9_12_12 : decode prog_9_method_12_code 12 = .ok (.iconst 1, 1) := by decide +kernel
theorem d_9_12_13 : decode prog_9_method_12_code 13 = .ok (.goto 4, 3) := by decide +kernel
def y_Pri_writeToBase : MethodName := ⟨"NumberHouse$Printer", "writeToBase", "(J)V"⟩
set_option maxRecDepth 100000 in
set_option maxHeartbeats 4000000 in
theorem T_Pri_writeToBase (l : Launch) (D : va_G) (g : Nat → ClassId) (q : Nat → Nat) (ws : va_W) (x2 : Int64) (hI : q_I (nsh g q) q ws) (t0_0 : Int32) (t0_1 : Int32) (t0_2 : Int32) (t0_3 : Int32) (hT0 : ws[40]? = (some (q 40, .inr (11, [.int t0_0, .ref (q 41), .ref (q 42), .ref (q 43), .ref (q 44), .ref (q 1), .ref (q 47), .ref (q 36), .ref (q 45), .int t0_1, .int t0_2, .int t0_3])) : Option (Nat × va_E))) (t1_0 : Int32) (hT1 : ws[45]? = (some (q 45, .inr (1, [.ref (q 46), .int 4104, .int t1_0])) : Option (Nat × va_E))) (t2_0 : Int32) (t2_1 : Int32) (t2_2 : Int32) (t2_3 : Int32) (t2_4 : Int32) (t2_5 : Int32) (t2_6 : Int32) (hT2 : ws[47]? = (some (q 47, .inr (10, [.int t2_0, .int t2_1, .int t2_2, .int t2_3, .int t2_4, .int t2_5, .ref (q 1), .int t2_6])) : Option (Nat × va_E))) (pre0 : t1_0.toInt ≤ 900000) : q_mV l y_Pri_writeToBase prog_9_method_12_code 7 6 0 0 D g [.ref (q 40), .long x2] ws (fun u => q_I (nsh g q) q u ∧ q_un ws u [40, 45, 46] ∧ ∃ (u0_0 : Int32) (u0_1 : Int32) (u0_2 : Int32) (u0_3 : Int32) (u1_0 : Int32), u[40]? = (some (q 40, .inr (11, [.int u0_0, .ref (q 41), .ref (q 42), .ref (q 43), .ref (q 44), .ref (q 1), .ref (q 47), .ref (q 36), .ref (q 45), .int u0_1, .int u0_2, .int u0_3])) : Option (Nat × va_E)) ∧ u[45]? = (some (q 45, .inr (1, [.ref (q 46), .int 4104, .int u1_0])) : Option (Nat × va_E)) ∧ (t0_0.toInt ≤ u0_0.toInt) ∧ (u0_0.toInt ≤ t0_0.toInt) ∧ (t1_0.toInt ≤ u0_1.toInt) ∧ (u0_1.toInt ≤ t1_0.toInt + 2) ∧ (t0_2.toInt ≤ u0_2.toInt) ∧ (u0_2.toInt ≤ t0_2.toInt) ∧ (t0_3.toInt ≤ u0_3.toInt) ∧ (u0_3.toInt ≤ t0_3.toInt) ∧ (u1_0.toInt ≤ u0_1.toInt + 64) ∧ (u0_1.toInt + 1 ≤ u1_0.toInt)) := by
  intro sz
  refine q_into (by decide) (Nat.le_of_ble_eq_true rfl) ?_
  intro p e s m below meth c ls hsz C0 V hl
  have hx := C0.1
  have hb := C0.2.1
  obtain ⟨yy0_0, yy0_1, yy0_2, yy0_3, hh0, btt0_0, btt0_1, btt0_3⟩ := n_o40 hI
  obtain ⟨rfl, rfl, rfl, rfl⟩ : t0_0 = yy0_0 ∧ t0_1 = yy0_1 ∧ t0_2 = yy0_2 ∧ t0_3 = yy0_3 := by have z := Option.some.inj (hT0.symm.trans hh0); simpa using z
  replace btt0_0 : q_F (0 ≤ t0_0.toInt ∧ t0_0.toInt ≤ 9) := btt0_0
  replace btt0_1 : q_F (-1 ≤ t0_1.toInt ∧ t0_1.toInt ≤ 1000000) := btt0_1
  replace btt0_3 : q_F (-1 ≤ t0_3.toInt ∧ t0_3.toInt ≤ 8) := btt0_3
  obtain ⟨yy1_0, hh1, btt1_0⟩ := n_shO hI (n_h45 g q)
  obtain ⟨rfl⟩ : t1_0 = yy1_0 := by have z := Option.some.inj (hT1.symm.trans hh1); simpa using z
  replace btt1_0 : q_F (0 ≤ t1_0.toInt ∧ t1_0.toInt ≤ 1000000) := btt1_0
  obtain ⟨yy2_0, yy2_1, yy2_2, yy2_3, yy2_4, yy2_5, yy2_6, hh2, btt2_2, btt2_3, btt2_6⟩ := n_o47 hI
  obtain ⟨rfl, rfl, rfl, rfl, rfl, rfl, rfl⟩ : t2_0 = yy2_0 ∧ t2_1 = yy2_1 ∧ t2_2 = yy2_2 ∧ t2_3 = yy2_3 ∧ t2_4 = yy2_4 ∧ t2_5 = yy2_5 ∧ t2_6 = yy2_6 := by have z := Option.some.inj (hT2.symm.trans hh2); simpa using z
  replace btt2_2 : q_F (-1 ≤ t2_2.toInt ∧ t2_2.toInt ≤ 9999) := btt2_2
  replace btt2_3 : q_F (-1 ≤ t2_3.toInt ∧ t2_3.toInt ≤ 9999) := btt2_3
  replace btt2_6 : q_F (0 ≤ t2_6.toInt ∧ t2_6.toInt ≤ 1) := btt2_6
  replace pre0 : q_F (t1_0.toInt ≤ 900000) := pre0
  have hF : q_un ws ws [40, 45, 46] := q_u0
  have hl : lv_has ls 7 [(0, .ref (q 40)), (1, .long x2)] := hl
  refine lv_aload_n hx hb d_9_12_0 rfl (lv_at hl 0 rfl) ?_
  refine q_get (ci := 11) (j := 6) (v := .ref (q 47)) C0 V i_Pri rfl rfl hT0 (by decide) w_391 rfl d_9_12_1 ?_
  refine q_get (ci := 10) (j := 4) (v := .int t2_4) C0 V i_Dir rfl rfl hT2 (by decide) w_362 rfl d_9_12_4 ?_
  refine lv_bipush (v := 111) hx hb d_9_12_7 (by decide) ?_
  refine q_join (X := Int32) (fun z H locs ls _ => q_F (0 ≤ z.toInt) ∧ q_F (z.toInt ≤ 1) ∧ q_Wd D g (va_A ws sz) s ws H locs ∧ lv_has ls 7 [(0, .ref (q 40)), (1, .long x2)]) (fun z => [.int z]) 17 0 0 ?_ ?_
  ·
    rintro lx23 H locs ls _ ⟨i28, i29, V, hl⟩
    replace i28 : q_F (0 ≤ lx23.toInt) := i28
    replace i29 : q_F (lx23.toInt ≤ 1) := i29
    replace hl : lv_has ls 7 [(0, .ref (q 40)), (1, .long x2)] := hl
    refine lv_istore_n (lv' := [(3, .int lx23), (0, .ref (q 40)), (1, .long x2)]) hx hb d_9_12_17 rfl hl (by decide) rfl (fun ls hl => ?_)
    refine lv_aload_n hx hb d_9_12_18 rfl (lv_at hl 1 rfl) ?_
    refine q_get (ci := 11) (j := 6) (v := .ref (q 47)) C0 V i_Pri rfl rfl hT0 (by decide) w_391 rfl d_9_12_19 ?_
    refine lv_iconst (v := 2) hx hb d_9_12_22 (by decide) ?_
    refine q_goi V (q_runV (As := [.int 2]) (rest := []) (d := 1) (mc := 0) (ms := 0) (ci := 10) C0 V rfl LV_Pri_144 (T_Dir_has l D g q ws  2 hI   _) rfl rfl hT2 rfl hl.1 rfl (Nat.le_of_ble_eq_true rfl) ⟨by decide, by decide⟩ ⟨Nat.le_of_ble_eq_true rfl, Nat.le_of_ble_eq_true rfl⟩ d_9_12_23) (fun a32 u30 H locs hp31 V => ?_)
    obtain ⟨rfl, b33, b34⟩ := hp31
    replace b33 : q_F (0 ≤ a32.toInt) := b33
    replace b34 : q_F (a32.toInt ≤ 1) := b34
    refine q_join (X := Int32) (fun z H locs ls w43 => q_F (t1_0.toInt ≤ z.toInt) ∧ q_F (z.toInt ≤ t1_0.toInt + 2) ∧ q_Wd D g (va_A ws sz) s w43 H locs ∧ lv_has ls 7 [(3, .int lx23), (0, .ref (q 40)), (1, .long x2)] ∧ q_I (nsh g q) q w43 ∧ q_un ws w43 [40, 45, 46] ∧ w43[40]? = (some (q 40, .inr (11, [.int t0_0, .ref (q 41), .ref (q 42), .ref (q 43), .ref (q 44), .ref (q 1), .ref (q 47), .ref (q 36), .ref (q 45), .int t0_1, .int t0_2, .int t0_3])) : Option (Nat × va_E)) ∧ w43[45]? = (some (q 45, .inr (1, [.ref (q 46), .int 4104, .int z])) : Option (Nat × va_E)) ∧ w43[47]? = (some (q 47, .inr (10, [.int t2_0, .int t2_1, .int t2_2, .int t2_3, .int t2_4, .int t2_5, .ref (q 1), .int t2_6])) : Option (Nat × va_E))) (fun z => []) 47 0 0 ?_ ?_
    ·
      rintro lx36 H locs ls w43 ⟨i41, i42, V, hl, hI, hF, hO37, hO38, hO39⟩
      replace i41 : q_F (t1_0.toInt ≤ lx36.toInt) := i41
      replace i42 : q_F (lx36.toInt ≤ t1_0.toInt + 2) := i42
      replace hl : lv_has ls 7 [(3, .int lx23), (0, .ref (q 40)), (1, .long x2)] := hl
      replace hO37 : w43[40]? = (some (q 40, .inr (11, [.int t0_0, .ref (q 41), .ref (q 42), .ref (q 43), .ref (q 44), .ref (q 1), .ref (q 47), .ref (q 36), .ref (q 45), .int t0_1, .int t0_2, .int t0_3])) : Option (Nat × va_E)) := hO37
      replace hO38 : w43[45]? = (some (q 45, .inr (1, [.ref (q 46), .int 4104, .int lx36])) : Option (Nat × va_E)) := hO38
      replace hO39 : w43[47]? = (some (q 47, .inr (10, [.int t2_0, .int t2_1, .int t2_2, .int t2_3, .int t2_4, .int t2_5, .ref (q 1), .int t2_6])) : Option (Nat × va_E)) := hO39
      refine lv_aload_n hx hb d_9_12_47 rfl (lv_at hl 1 rfl) ?_
      refine lv_aload_n hx hb d_9_12_48 rfl (lv_at hl 1 rfl) ?_
      refine q_get (ci := 11) (j := 8) (v := .ref (q 45)) C0 V i_Pri rfl rfl hO37 (by decide) w_393 rfl d_9_12_49 ?_
      refine q_get (ci := 1) (j := 2) (v := .int lx36) C0 V i_She rfl rfl hO38 (by decide) w_58 rfl d_9_12_52 ?_
      refine q_put (ci := 11) (j := 9) (v := .int lx36) (ty := .int) C0 V i_Pri o_Pri n_Pri rfl rfl hO37 (by decide) w_394 rfl rfl rfl rfl (Nat.le_of_ble_eq_true rfl) d_9_12_55 (fun H locs w44 hu45 hO37 V => ?_)
      replace hO37 : w44[40]? = (some (q 40, .inr (11, [.int t0_0, .ref (q 41), .ref (q 42), .ref (q 43), .ref (q 44), .ref (q 1), .ref (q 47), .ref (q 36), .ref (q 45), .int lx36, .int t0_2, .int t0_3])) : Option (Nat × va_E)) := hO37
      replace hI := n_p40 hI hu45 hO37 ⟨(by have t1 : 0 ≤ t0_0.toInt ∧ t0_0.toInt ≤ 9 := btt0_0; omega), (by have t1 : 0 ≤ t0_0.toInt ∧ t0_0.toInt ≤ 9 := btt0_0; omega)⟩ ⟨(by have t1 : 0 ≤ t1_0.toInt ∧ t1_0.toInt ≤ 1000000 := btt1_0; have t2 : t1_0.toInt ≤ lx36.toInt := i41; omega), (by have t1 : t1_0.toInt ≤ 900000 := pre0; have t2 : lx36.toInt ≤ t1_0.toInt + 2 := i42; omega)⟩ ⟨(by have t1 : -1 ≤ t0_3.toInt ∧ t0_3.toInt ≤ 8 := btt0_3; omega), (by have t1 : -1 ≤ t0_3.toInt ∧ t0_3.toInt ≤ 8 := btt0_3; omega)⟩
      replace hO38 := (hu45 _ (by decide)).trans hO38
      replace hO39 := (hu45 _ (by decide)).trans hO39
      replace hF := q_us hF hu45 (by simp)
      refine lv_iload_n hx hb d_9_12_58 rfl (lv_at hl 0 rfl) ?_
      refine q_join (X := Int32) (fun z H locs ls _ => q_F (3 ≤ z.toInt) ∧ q_F (z.toInt ≤ 4) ∧ q_Wd D g (va_A ws sz) s w44 H locs ∧ lv_has ls 7 [(0, .ref (q 40)), (1, .long x2)]) (fun z => [.int z]) 67 0 0 ?_ ?_
      ·
        rintro lx46 H locs ls _ ⟨i51, i52, V, hl⟩
        replace i51 : q_F (3 ≤ lx46.toInt) := i51
        replace i52 : q_F (lx46.toInt ≤ 4) := i52
        replace hl : lv_has ls 7 [(0, .ref (q 40)), (1, .long x2)] := hl
        refine lv_istore (lv' := [(4, .int lx46), (0, .ref (q 40)), (1, .long x2)]) hx hb d_9_12_67 hl (by decide) rfl (fun ls hl => ?_)
        refine lv_bipush (v := 63) hx hb d_9_12_69 (by decide) ?_
        refine lv_iload hx hb d_9_12_71 (lv_at hl 0 rfl) ?_
        refine lv_idiv hx hb d_9_12_73 (s_nzI (by have t1 : 3 ≤ lx46.toInt := i51; omega)) ?_
        obtain ⟨a53, e54⟩ := q_nm (63 / lx46 : Int32)
        refine q_ti (v := a53) e54 ?_
        have b55 : q_F (0 ≤ a53.toInt ∧ a53.toInt ≤ 63) := (by rw [← e54]; show 0 ≤ (63 / lx46 : Int32).toInt ∧ (63 / lx46 : Int32).toInt ≤ 63; exact (by have z := q_divI (a := (63 : Int32)) (b := lx46) (x := 63) (y := lx46.toInt) (by decide) rfl (by omega) (by have t1 : 3 ≤ lx46.toInt := i51; omega); have h1 : 0 ≤ 63 / lx46.toInt := Int.ediv_nonneg (by omega) (by have t1 : 3 ≤ lx46.toInt := i51; omega); have h2 : 63 / lx46.toInt ≤ 63 := Int.ediv_le_self lx46.toInt (by omega); exact ⟨by rw [z]; exact h1, by rw [z]; exact h2⟩))
        refine lv_iconst (v := 1) hx hb d_9_12_74 (by decide) ?_
        refine lv_iadd hx hb d_9_12_75 ?_
        obtain ⟨a56, e57⟩ := q_nm (a53 + 1 : Int32)
        refine q_ti (v := a56) e57 ?_
        have b58 : q_F (a56.toInt = a53.toInt + 1) := (by rw [← e57]; show (a53 + 1 : Int32).toInt = a53.toInt + 1; exact q_addI (x := a53.toInt) (y := 1) rfl (by decide) (by have t1 : 0 ≤ a53.toInt ∧ a53.toInt ≤ 63 := b55; omega) (by have t1 : 0 ≤ a53.toInt ∧ a53.toInt ≤ 63 := b55; omega))
        refine lv_istore (lv' := [(5, .int a56), (4, .int lx46), (0, .ref (q 40)), (1, .long x2)]) hx hb d_9_12_76 hl (by decide) rfl (fun ls hl => ?_)
        refine q_loop (X := Int32) (fun z H locs ls _ => q_F (1 ≤ z.toInt) ∧ q_F (z.toInt ≤ a56.toInt) ∧ q_Wd D g (va_A ws sz) s w44 H locs ∧ lv_has ls 7 [(5, .int z), (4, .int lx46), (0, .ref (q 40)), (1, .long x2)]) (fun z => (z.toInt - ((-1))).toNat) ?_ ((a56 : Int32)) _ _ _ w44 ⟨(show q_F (1 ≤ a56.toInt) from (show 1 ≤ a56.toInt from by have t1 : 0 ≤ a53.toInt ∧ a53.toInt ≤ 63 := b55; have t2 : a56.toInt = a53.toInt + 1 := b58; omega)), (show q_F (a56.toInt ≤ a56.toInt) from (show a56.toInt ≤ a56.toInt from by omega)), V, q_lw hl (q_lw1 0 rfl (q_lw1 1 rfl (q_lw1 2 rfl (q_lw1 3 rfl q_lw0))))⟩
        rintro lx60 H locs ls _ ⟨i61, i62, V, hl⟩ ih63
        replace i61 : q_F (1 ≤ lx60.toInt) := i61
        replace i62 : q_F (lx60.toInt ≤ a56.toInt) := i62
        replace hl : lv_has ls 7 [(5, .int lx60), (4, .int lx46), (0, .ref (q 40)), (1, .long x2)] := hl
        refine lv_iload hx hb d_9_12_78 (lv_at hl 0 rfl) ?_
        refine lv_iconst (v := 1) hx hb d_9_12_80 (by decide) ?_
        refine q_join (X := Unit) (fun z H locs ls _ => q_Wd D g (va_A ws sz) s w44 H locs ∧ lv_has ls 7 [(5, .int lx60), (4, .int lx46), (0, .ref (q 40)), (1, .long x2)]) (fun z => []) 104 0 0 ?_ ?_
        ·
          rintro _ H locs ls _ ⟨V, hl⟩
          replace hl : lv_has ls 7 [(5, .int lx60), (4, .int lx46), (0, .ref (q 40)), (1, .long x2)] := hl
          refine lv_iload hx hb d_9_12_104 (lv_at hl 0 rfl) ?_
          refine lv_iconst (v := 1) hx hb d_9_12_106 (by decide) ?_
          refine lv_isub hx hb d_9_12_107 ?_
          obtain ⟨a68, e69⟩ := q_nm (lx60 - 1 : Int32)
          refine q_ti (v := a68) e69 ?_
          have b70 : q_F (a68.toInt = lx60.toInt - 1) := (by rw [← e69]; show (lx60 - 1 : Int32).toInt = lx60.toInt - 1; exact q_subI (x := lx60.toInt) (y := 1) rfl (by decide) (by have t1 : 1 ≤ lx60.toInt := i61; have t2 : lx60.toInt ≤ a56.toInt := i62; have _ := q_lo32 (x := a56); have _ := q_hi32 (x := a56); omega) (by have t1 : 1 ≤ lx60.toInt := i61; have t2 : lx60.toInt ≤ a56.toInt := i62; have _ := q_lo32 (x := a56); have _ := q_hi32 (x := a56); omega))
          refine lv_istore (lv' := [(6, .int a68), (5, .int lx60), (4, .int lx46), (0, .ref (q 40)), (1, .long x2)]) hx hb d_9_12_108 hl (by decide) rfl (fun ls hl => ?_)
          refine q_loop (X := Int32 × Int32) (fun z H locs ls w79 => q_F (0 ≤ z.1.toInt + 1) ∧ q_F (a68.toInt + lx36.toInt ≤ z.1.toInt + z.2.toInt) ∧ q_F (z.1.toInt + z.2.toInt ≤ a68.toInt + lx36.toInt) ∧ q_F (z.1.toInt + lx36.toInt ≤ z.2.toInt + a68.toInt) ∧ q_Wd D g (va_A ws sz) s w79 H locs ∧ lv_has ls 7 [(6, .int z.1), (4, .int lx46), (0, .ref (q 40)), (1, .long x2)] ∧ q_I (nsh g q) q w79 ∧ q_un ws w79 [40, 45, 46] ∧ w79[40]? = (some (q 40, .inr (11, [.int t0_0, .ref (q 41), .ref (q 42), .ref (q 43), .ref (q 44), .ref (q 1), .ref (q 47), .ref (q 36), .ref (q 45), .int lx36, .int t0_2, .int t0_3])) : Option (Nat × va_E)) ∧ w79[45]? = (some (q 45, .inr (1, [.ref (q 46), .int 4104, .int z.2])) : Option (Nat × va_E)) ∧ w79[47]? = (some (q 47, .inr (10, [.int t2_0, .int t2_1, .int t2_2, .int t2_3, .int t2_4, .int t2_5, .ref (q 1), .int t2_6])) : Option (Nat × va_E))) (fun z => (z.1.toInt - ((-1))).toNat) ?_ ((a68 : Int32), (lx36 : Int32)) _ _ _ w44 ⟨(show q_F (0 ≤ a68.toInt + 1) from (show 0 ≤ a68.toInt + 1 from by have t1 : 1 ≤ lx60.toInt := i61; have t2 : a68.toInt = lx60.toInt - 1 := b70; omega)), (show q_F (a68.toInt + lx36.toInt ≤ a68.toInt + lx36.toInt) from (show a68.toInt + lx36.toInt ≤ a68.toInt + lx36.toInt from by omega)), (show q_F (a68.toInt + lx36.toInt ≤ a68.toInt + lx36.toInt) from (show a68.toInt + lx36.toInt ≤ a68.toInt + lx36.toInt from by omega)), (show q_F (a68.toInt + lx36.toInt ≤ lx36.toInt + a68.toInt) from (show a68.toInt + lx36.toInt ≤ lx36.toInt + a68.toInt from by omega)), V, q_lw hl (q_lw1 0 rfl (q_lw1 2 rfl (q_lw1 3 rfl (q_lw1 4 rfl q_lw0)))), hI, hF, hO37, hO38, hO39⟩
          rintro ⟨lx72, lx73⟩ H locs ls w79 ⟨i74, i75, i76, i77, V, hl, hI, hF, hO80, hO81, hO82⟩ ih78
          replace i74 : q_F (0 ≤ lx72.toInt + 1) := i74
          replace i75 : q_F (a68.toInt + lx36.toInt ≤ lx72.toInt + lx73.toInt) := i75
          replace i76 : q_F (lx72.toInt + lx73.toInt ≤ a68.toInt + lx36.toInt) := i76
          replace i77 : q_F (lx72.toInt + lx36.toInt ≤ lx73.toInt + a68.toInt) := i77
          replace hl : lv_has ls 7 [(6, .int lx72), (4, .int lx46), (0, .ref (q 40)), (1, .long x2)] := hl
          replace hO80 : w79[40]? = (some (q 40, .inr (11, [.int t0_0, .ref (q 41), .ref (q 42), .ref (q 43), .ref (q 44), .ref (q 1), .ref (q 47), .ref (q 36), .ref (q 45), .int lx36, .int t0_2, .int t0_3])) : Option (Nat × va_E)) := hO80
          replace hO81 : w79[45]? = (some (q 45, .inr (1, [.ref (q 46), .int 4104, .int lx73])) : Option (Nat × va_E)) := hO81
          replace hO82 : w79[47]? = (some (q 47, .inr (10, [.int t2_0, .int t2_1, .int t2_2, .int t2_3, .int t2_4, .int t2_5, .ref (q 1), .int t2_6])) : Option (Nat × va_E)) := hO82
          refine lv_iload hx hb d_9_12_110 (lv_at hl 0 rfl) ?_
          refine lv_if_lt (tgt := 148) hx hb d_9_12_112 (by decide) (fun c83 => ?_) (fun c83 => ?_)
          ·
            have b84 : q_F (lx72.toInt < 0) := (q_ltI c83)
            exact q_retv C0 V (⟨hI, hF, t0_0, lx36, t0_2, t0_3, lx73, hO80, hO81, (show t0_0.toInt ≤ t0_0.toInt from (by omega)), (show t0_0.toInt ≤ t0_0.toInt from (by omega)), (show t1_0.toInt ≤ lx36.toInt from (by have t1 : t1_0.toInt ≤ lx36.toInt := i41; omega)), (show lx36.toInt ≤ t1_0.toInt + 2 from (by have t1 : lx36.toInt ≤ t1_0.toInt + 2 := i42; omega)), (show t0_2.toInt ≤ t0_2.toInt from (by omega)), (show t0_2.toInt ≤ t0_2.toInt from (by omega)), (show t0_3.toInt ≤ t0_3.toInt from (by omega)), (show t0_3.toInt ≤ t0_3.toInt from (by omega)), (show lx73.toInt ≤ lx36.toInt + 64 from (by have t1 : 0 ≤ a53.toInt ∧ a53.toInt ≤ 63 := b55; have t2 : a56.toInt = a53.toInt + 1 := b58; have t3 : lx60.toInt ≤ a56.toInt := i62; have t4 : a68.toInt = lx60.toInt - 1 := b70; have t5 : 0 ≤ lx72.toInt + 1 := i74; have t6 : lx72.toInt + lx73.toInt ≤ a68.toInt + lx36.toInt := i76; omega)), (show lx36.toInt + 1 ≤ lx73.toInt from (by have t1 : 1 ≤ lx60.toInt := i61; have t2 : a68.toInt = lx60.toInt - 1 := b70; have t3 : a68.toInt + lx36.toInt ≤ lx72.toInt + lx73.toInt := i75; have t4 : lx72.toInt < 0 := b84; omega))⟩) d_9_12_148
          ·
            have b85 : q_F (0 ≤ lx72.toInt) := (q_nltI c83)
            refine lv_aload_n hx hb d_9_12_115 rfl (lv_at hl 2 rfl) ?_
            refine q_get (ci := 11) (j := 8) (v := .ref (q 45)) C0 V i_Pri rfl rfl hO80 (by decide) w_393 rfl d_9_12_116 ?_
            refine q_ldcs (i := 19) C0 V rfl rfl d_9_12_119 ?_
            refine lv_lload_n hx hb d_9_12_121 rfl (lv_at hl 3 rfl) ?_
            refine lv_iload hx hb d_9_12_122 (lv_at hl 1 rfl) ?_
            refine lv_iload hx hb d_9_12_124 (lv_at hl 0 rfl) ?_
            refine lv_imul hx hb d_9_12_126 ?_
            obtain ⟨a86, e87⟩ := q_nm (lx46 * lx72 : Int32)
            refine q_ti (v := a86) e87 ?_
            refine lv_lushr hx hb d_9_12_127 rfl ?_
            obtain ⟨j88, e89⟩ := q_nm ((x2.toUInt64 >>> (a86.toInt64.toUInt64 &&& Int64.toUInt64 63)).toInt64 : Int64)
            refine q_tl (v := j88) e89 ?_
            refine lv_l2i hx hb d_9_12_128 rfl ?_
            obtain ⟨a90, e91⟩ := q_nm (j88.toInt32 : Int32)
            refine q_ti (v := a90) e91 ?_
            refine lv_iconst (v := 1) hx hb d_9_12_129 (by decide) ?_
            refine lv_iload hx hb d_9_12_130 (lv_at hl 1 rfl) ?_
            refine lv_ishl hx hb d_9_12_132 ?_
            obtain ⟨a92, e93⟩ := q_nm ((1 : Int32) <<< (lx46 &&& 31) : Int32)
            refine q_ti (v := a92) e93 ?_
            have b94 : q_F (8 ≤ a92.toInt ∧ a92.toInt ≤ 16) := (by rw [← e93]; show 8 ≤ ((1 : Int32) <<< (lx46 &&& 31) : Int32).toInt ∧ ((1 : Int32) <<< (lx46 &&& 31) : Int32).toInt ≤ 16; exact (by have hh : lx46.toInt = 3 ∨ lx46.toInt = 4 := (by have t1 : 3 ≤ lx46.toInt := i51; have t2 : lx46.toInt ≤ 4 := i52; omega); rcases hh with h | h <;> first | (rw [show lx46 = (3 : Int32) from q_Ieq (x := lx46.toInt) (y := 3) rfl (by decide) h]; decide) | (rw [show lx46 = (4 : Int32) from q_Ieq (x := lx46.toInt) (y := 4) rfl (by decide) h]; decide)))
            refine lv_iconst (v := 1) hx hb d_9_12_133 (by decide) ?_
            refine lv_isub hx hb d_9_12_134 ?_
            obtain ⟨a95, e96⟩ := q_nm (a92 - 1 : Int32)
            refine q_ti (v := a95) e96 ?_
            have b97 : q_F (a95.toInt = a92.toInt - 1) := (by rw [← e96]; show (a92 - 1 : Int32).toInt = a92.toInt - 1; exact q_subI (x := a92.toInt) (y := 1) rfl (by decide) (by have t1 : 8 ≤ a92.toInt ∧ a92.toInt ≤ 16 := b94; omega) (by have t1 : 8 ≤ a92.toInt ∧ a92.toInt ≤ 16 := b94; omega))
            refine lv_iand hx hb d_9_12_135 ?_
            obtain ⟨a98, e99⟩ := q_nm (a90 &&& a95 : Int32)
            refine q_ti (v := a98) e99 ?_
            have b100 : q_F (0 ≤ a98.toInt ∧ a98.toInt ≤ a95.toInt) := (by rw [← e99]; show 0 ≤ (a90 &&& a95 : Int32).toInt ∧ (a90 &&& a95 : Int32).toInt ≤ a95.toInt; exact s_and (m := a95) (by have t1 : 8 ≤ a92.toInt ∧ a92.toInt ≤ 16 := b94; have t2 : a95.toInt = a92.toInt - 1 := b97; omega))
            refine q_goi V (q_runVs (As := [.int a98]) (rest := [.ref (q 45)]) (d := 4) (mc := 0) (ms := 0) (i := 19) C0 V rfl LV_Pri_216 (T_jStr_charAt_19 l D g q w79  a98 hI  (by have t1 : 0 ≤ a98.toInt ∧ a98.toInt ≤ a95.toInt := b100; omega) (by have t1 : 8 ≤ a92.toInt ∧ a92.toInt ≤ 16 := b94; have t2 : a95.toInt = a92.toInt - 1 := b97; have t3 : 0 ≤ a98.toInt ∧ a98.toInt ≤ a95.toInt := b100; omega) _) rfl rfl rfl hl.1 rfl (Nat.le_of_ble_eq_true rfl) ⟨by decide, by decide⟩ ⟨Nat.le_of_ble_eq_true rfl, Nat.le_of_ble_eq_true rfl⟩ d_9_12_136) (fun a103 u101 H locs hp102 V => ?_)
            obtain ⟨rfl, b104, b105⟩ := hp102
            replace b104 : q_F (0 ≤ a103.toInt) := b104
            replace b105 : q_F (a103.toInt ≤ 255) := b105
            refine q_gov V (q_runV (As := [.int a103]) (rest := []) (d := 1) (mc := 0) (ms := 0) (ci := 1) C0 V rfl LV_Pri_113 (T_She_add l D g q w79 45 4104 513 1000000 (n_h45 g q) a103 hI lx73 hO81 (by have y0 : (4104 : Int32).toInt = 4104 := rfl; have y1 : (513 : Int32).toInt = 513 := rfl; have y2 : (1000000 : Int32).toInt = 1000000 := rfl; have t1 : t1_0.toInt ≤ 900000 := pre0; have t2 : lx36.toInt ≤ t1_0.toInt + 2 := i42; have t3 : 0 ≤ a53.toInt ∧ a53.toInt ≤ 63 := b55; have t4 : a56.toInt = a53.toInt + 1 := b58; have t5 : lx60.toInt ≤ a56.toInt := i62; have t6 : a68.toInt = lx60.toInt - 1 := b70; have t7 : 0 ≤ lx72.toInt + 1 := i74; have t8 : lx72.toInt + lx73.toInt ≤ a68.toInt + lx36.toInt := i76; omega) _) rfl rfl hO81 rfl hl.1 rfl (Nat.le_of_ble_eq_true rfl) ⟨by decide, by decide⟩ ⟨Nat.le_of_ble_eq_true rfl, Nat.le_of_ble_eq_true rfl⟩ d_9_12_139) (fun u107 H locs hp108 V => ?_)
            obtain ⟨hI, hu114, y110, hO109, b111, b112⟩ := hp108
            replace hO109 : u107[45]? = (some (q 45, .inr (1, [.ref (q 46), .int 4104, .int y110])) : Option (Nat × va_E)) := hO109
            replace b111 : q_F (lx73.toInt + 1 ≤ y110.toInt) := b111
            replace b112 : q_F (y110.toInt ≤ lx73.toInt + 1) := b112
            replace hO80 := (hu114 _ (by decide)).trans hO80
            replace hO82 := (hu114 _ (by decide)).trans hO82
            replace hF := q_uc hF hu114 (by simp)
            obtain ⟨a115, e116⟩ := q_nm (lx72 + (-1) : Int32)
            have b117 : q_F (a115.toInt = lx72.toInt + (-1)) := (by rw [← e116]; exact q_addI (y := (-1)) rfl (by decide) (by have t1 : 0 ≤ lx72.toInt + 1 := i74; have t2 : lx72.toInt + lx73.toInt ≤ a68.toInt + lx36.toInt := i76; have t3 : lx72.toInt + lx36.toInt ≤ lx73.toInt + a68.toInt := i77; have _ := q_lo32 (x := a68); have _ := q_hi32 (x := a68); omega) (by have t1 : 0 ≤ lx72.toInt + 1 := i74; have t2 : lx72.toInt + lx73.toInt ≤ a68.toInt + lx36.toInt := i76; have t3 : lx72.toInt + lx36.toInt ≤ lx73.toInt + a68.toInt := i77; have _ := q_lo32 (x := a68); have _ := q_hi32 (x := a68); omega))
            refine lv_iinc (v := a115) (lv' := [(6, .int a115), (4, .int lx46), (0, .ref (q 40)), (1, .long x2)]) hx hb d_9_12_142 hl (k := 0) rfl (e116) (by decide) rfl (fun ls hl => ?_)
            refine lv_goto (tgt := 110) hx hb d_9_12_145 (by decide) ?_
            exact ih78 ((a115 : Int32), (y110 : Int32)) _ _ _ _ (show (a115.toInt - ((-1))).toNat < (lx72.toInt - ((-1))).toNat from by have t1 : a115.toInt = lx72.toInt + (-1) := b117; have t2 : 0 ≤ lx72.toInt + 1 := i74; have t3 : 0 ≤ lx72.toInt := b85; omega) ⟨(show q_F (0 ≤ a115.toInt + 1) from (show 0 ≤ a115.toInt + 1 from by have t1 : 0 ≤ lx72.toInt := b85; have t2 : a115.toInt = lx72.toInt + (-1) := b117; omega)), (show q_F (a68.toInt + lx36.toInt ≤ a115.toInt + y110.toInt) from (show a68.toInt + lx36.toInt ≤ a115.toInt + y110.toInt from by have t1 : a68.toInt + lx36.toInt ≤ lx72.toInt + lx73.toInt := i75; have t2 : lx73.toInt + 1 ≤ y110.toInt := b111; have t3 : a115.toInt = lx72.toInt + (-1) := b117; omega)), (show q_F (a115.toInt + y110.toInt ≤ a68.toInt + lx36.toInt) from (show a115.toInt + y110.toInt ≤ a68.toInt + lx36.toInt from by have t1 : lx72.toInt + lx73.toInt ≤ a68.toInt + lx36.toInt := i76; have t2 : y110.toInt ≤ lx73.toInt + 1 := b112; have t3 : a115.toInt = lx72.toInt + (-1) := b117; omega)), (show q_F (a115.toInt + lx36.toInt ≤ y110.toInt + a68.toInt) from (show a115.toInt + lx36.toInt ≤ y110.toInt + a68.toInt from by have t1 : lx72.toInt + lx36.toInt ≤ lx73.toInt + a68.toInt := i77; have t2 : lx73.toInt + 1 ≤ y110.toInt := b111; have t3 : a115.toInt = lx72.toInt + (-1) := b117; omega)), V, q_lw hl (q_lw1 0 rfl (q_lw1 1 rfl (q_lw1 2 rfl (q_lw1 3 rfl q_lw0)))), hI, hF, hO80, hO109, hO82⟩
        ·
          intro J67
          refine lv_icmp_le (tgt := 104) hx hb d_9_12_81 (by decide) (fun c118 => ?_) (fun c118 => ?_)
          ·
            have b119 : q_F (lx60.toInt ≤ 1) := (q_leI c118)
            exact J67 (()) _ _ _ w44 ⟨V, q_lw hl (q_lw1 0 rfl (q_lw1 1 rfl (q_lw1 2 rfl (q_lw1 3 rfl q_lw0))))⟩
          ·
            have b120 : q_F (1 < lx60.toInt) := (q_nleI c118)
            refine lv_lload_n hx hb d_9_12_84 rfl (lv_at hl 3 rfl) ?_
            refine lv_iload hx hb d_9_12_85 (lv_at hl 1 rfl) ?_
            refine lv_iload hx hb d_9_12_87 (lv_at hl 0 rfl) ?_
            refine lv_iconst (v := 1) hx hb d_9_12_89 (by decide) ?_
            refine lv_isub hx hb d_9_12_90 ?_
            obtain ⟨a121, e122⟩ := q_nm (lx60 - 1 : Int32)
            refine q_ti (v := a121) e122 ?_
            have b123 : q_F (a121.toInt = lx60.toInt - 1) := (by rw [← e122]; show (lx60 - 1 : Int32).toInt = lx60.toInt - 1; exact q_subI (x := lx60.toInt) (y := 1) rfl (by decide) (by have t1 : 1 ≤ lx60.toInt := i61; have t2 : lx60.toInt ≤ a56.toInt := i62; have _ := q_lo32 (x := a56); have _ := q_hi32 (x := a56); omega) (by have t1 : 1 ≤ lx60.toInt := i61; have t2 : lx60.toInt ≤ a56.toInt := i62; have _ := q_lo32 (x := a56); have _ := q_hi32 (x := a56); omega))
            refine lv_imul hx hb d_9_12_91 ?_
            obtain ⟨a124, e125⟩ := q_nm (lx46 * a121 : Int32)
            refine q_ti (v := a124) e125 ?_
            refine lv_lushr hx hb d_9_12_92 rfl ?_
            obtain ⟨j126, e127⟩ := q_nm ((x2.toUInt64 >>> (a124.toInt64.toUInt64 &&& Int64.toUInt64 63)).toInt64 : Int64)
            refine q_tl (v := j126) e127 ?_
            refine lv_lconst (v := 0) hx hb d_9_12_93 (by decide) ?_
            refine W.lcmp hx hb d_9_12_94 ?_
            obtain ⟨a128, e129⟩ := q_nm (lg_cmp j126 0 : Int32)
            refine q_ti (v := a128) e129 ?_
            have b130 : q_F (-1 ≤ a128.toInt ∧ a128.toInt ≤ 1 ∧ ((a128.toInt = -1 ∧ j126.toInt < 0) ∨ (a128.toInt = 0 ∧ j126.toInt = 0) ∨ (a128.toInt = 1 ∧ 0 < j126.toInt))) := (by rw [← e129]; show -1 ≤ (lg_cmp j126 0 : Int32).toInt ∧ (lg_cmp j126 0 : Int32).toInt ≤ 1 ∧ (((lg_cmp j126 0 : Int32).toInt = -1 ∧ j126.toInt < 0) ∨ ((lg_cmp j126 0 : Int32).toInt = 0 ∧ j126.toInt = 0) ∨ ((lg_cmp j126 0 : Int32).toInt = 1 ∧ 0 < j126.toInt)); exact (by have y1 : (0 : Int64).toInt = 0 := rfl; have z := s_lcmp (a := j126) (b := 0); omega))
            refine lv_if_ne (tgt := 104) hx hb d_9_12_95 (by decide) (fun c131 => ?_) (fun c131 => ?_)
            ·
              have b132 : q_F (a128.toInt ≠ 0) := (q_neI c131)
              exact J67 (()) _ _ _ w44 ⟨V, q_lw hl (q_lw1 0 rfl (q_lw1 1 rfl (q_lw1 2 rfl (q_lw1 3 rfl q_lw0))))⟩
            ·
              have b133 : q_F (a128.toInt = 0) := (q_eqI c131)
              obtain ⟨a134, e135⟩ := q_nm (lx60 + (-1) : Int32)
              have b136 : q_F (a134.toInt = lx60.toInt + (-1)) := (by rw [← e135]; exact q_addI (y := (-1)) rfl (by decide) (by have t1 : 1 ≤ lx60.toInt := i61; have t2 : a121.toInt = lx60.toInt - 1 := b123; have _ := q_lo32 (x := a121); have _ := q_hi32 (x := a121); omega) (by have t1 : 1 ≤ lx60.toInt := i61; have t2 : a121.toInt = lx60.toInt - 1 := b123; have _ := q_lo32 (x := a121); have _ := q_hi32 (x := a121); omega))
              refine lv_iinc (v := a134) (lv' := [(5, .int a134), (4, .int lx46), (0, .ref (q 40)), (1, .long x2)]) hx hb d_9_12_98 hl (k := 0) rfl (e135) (by decide) rfl (fun ls hl => ?_)
              refine lv_goto (tgt := 78) hx hb d_9_12_101 (by decide) ?_
              exact ih63 ((a134 : Int32)) _ _ _ w44 (show (a134.toInt - ((-1))).toNat < (lx60.toInt - ((-1))).toNat from by have t1 : a134.toInt = lx60.toInt + (-1) := b136; have t2 : 1 ≤ lx60.toInt := i61; omega) ⟨(show q_F (1 ≤ a134.toInt) from (show 1 ≤ a134.toInt from by have t1 : 1 < lx60.toInt := b120; have t2 : a134.toInt = lx60.toInt + (-1) := b136; omega)), (show q_F (a134.toInt ≤ a56.toInt) from (show a134.toInt ≤ a56.toInt from by have t1 : lx60.toInt ≤ a56.toInt := i62; have t2 : a134.toInt = lx60.toInt + (-1) := b136; omega)), V, q_lw hl (q_lw1 0 rfl (q_lw1 1 rfl (q_lw1 2 rfl (q_lw1 3 rfl q_lw0))))⟩
      ·
        intro J50
        refine lv_if_eq (tgt := 66) hx hb d_9_12_59 (by decide) (fun c137 => ?_) (fun c137 => ?_)
        ·
          have b138 : q_F (lx23.toInt = 0) := (q_eqI c137)
          refine lv_iconst (v := 4) hx hb d_9_12_66 (by decide) ?_
          exact J50 ((4 : Int32)) _ _ _ w44 ⟨(show q_F (3 ≤ 4) from (show 3 ≤ 4 from by omega)), (show q_F (4 ≤ 4) from (show 4 ≤ 4 from by omega)), V, q_lw hl (q_lw1 1 rfl (q_lw1 2 rfl q_lw0))⟩
        ·
          have b139 : q_F (lx23.toInt ≠ 0) := (q_neI c137)
          refine lv_iconst (v := 3) hx hb d_9_12_62 (by decide) ?_
          refine lv_goto (tgt := 67) hx hb d_9_12_63 (by decide) ?_
          exact J50 ((3 : Int32)) _ _ _ w44 ⟨(show q_F (3 ≤ 3) from (show 3 ≤ 3 from by omega)), (show q_F (3 ≤ 4) from (show 3 ≤ 4 from by omega)), V, q_lw hl (q_lw1 1 rfl (q_lw1 2 rfl q_lw0))⟩
    ·
      intro J40
      refine lv_if_eq (tgt := 47) hx hb d_9_12_26 (by decide) (fun c140 => ?_) (fun c140 => ?_)
      ·
        have b141 : q_F (a32.toInt = 0) := (q_eqI c140)
        exact J40 ((t1_0 : Int32)) _ _ _ _ ⟨(show q_F (t1_0.toInt ≤ t1_0.toInt) from (show t1_0.toInt ≤ t1_0.toInt from by omega)), (show q_F (t1_0.toInt ≤ t1_0.toInt + 2) from (show t1_0.toInt ≤ t1_0.toInt + 2 from by omega)), V, q_lw hl (q_lw1 0 rfl (q_lw1 1 rfl (q_lw1 2 rfl q_lw0))), hI, hF, hT0, hT1, hT2⟩
      ·
        have b142 : q_F (a32.toInt ≠ 0) := (q_neI c140)
        refine lv_aload_n hx hb d_9_12_29 rfl (lv_at hl 1 rfl) ?_
        refine q_get (ci := 11) (j := 8) (v := .ref (q 45)) C0 V i_Pri rfl rfl hT0 (by decide) w_393 rfl d_9_12_30 ?_
        refine lv_iload_n hx hb d_9_12_33 rfl (lv_at hl 0 rfl) ?_
        refine lv_if_eq (tgt := 42) hx hb d_9_12_34 (by decide) (fun c143 => ?_) (fun c143 => ?_)
        ·
          have b144 : q_F (lx23.toInt = 0) := (q_eqI c143)
          refine q_ldcs (i := 18) C0 V rfl rfl d_9_12_42 ?_
          refine q_gov V (q_runV (As := [.ref (g (8 + 2 * 18))]) (rest := []) (d := 5) (mc := 0) (ms := 0) (ci := 1) C0 V rfl LV_Pri_165 (T_She_addText_18 l D g q ws 45 4104 513 1000000 (n_h45 g q)  hI t1_0 hT1 (by have y0 : (4104 : Int32).toInt = 4104 := rfl; have y1 : (513 : Int32).toInt = 513 := rfl; have y2 : (1000000 : Int32).toInt = 1000000 := rfl; have t1 : t1_0.toInt ≤ 900000 := pre0; omega) _) rfl rfl hT1 rfl hl.1 rfl (Nat.le_of_ble_eq_true rfl) ⟨by decide, by decide⟩ ⟨Nat.le_of_ble_eq_true rfl, Nat.le_of_ble_eq_true rfl⟩ d_9_12_44) (fun u145 H locs hp146 V => ?_)
          obtain ⟨hI, hu152, y148, hO147, b149, b150⟩ := hp146
          replace hO147 : u145[45]? = (some (q 45, .inr (1, [.ref (q 46), .int 4104, .int y148])) : Option (Nat × va_E)) := hO147
          replace b149 : q_F (t1_0.toInt + 2 ≤ y148.toInt) := b149
          replace b150 : q_F (y148.toInt ≤ t1_0.toInt + 2) := b150
          replace hT0 := (hu152 _ (by decide)).trans hT0
          replace hT2 := (hu152 _ (by decide)).trans hT2
          replace hF := q_uc hF hu152 (by simp)
          exact J40 ((y148 : Int32)) _ _ _ _ ⟨(show q_F (t1_0.toInt ≤ y148.toInt) from (show t1_0.toInt ≤ y148.toInt from by have t1 : t1_0.toInt + 2 ≤ y148.toInt := b149; omega)), (show q_F (y148.toInt ≤ t1_0.toInt + 2) from (show y148.toInt ≤ t1_0.toInt + 2 from by have t1 : y148.toInt ≤ t1_0.toInt + 2 := b150; omega)), V, q_lw hl (q_lw1 0 rfl (q_lw1 1 rfl (q_lw1 2 rfl q_lw0))), hI, hF, hT0, hO147, hT2⟩
        ·
          have b153 : q_F (lx23.toInt ≠ 0) := (q_neI c143)
          refine q_ldcs (i := 17) C0 V rfl rfl d_9_12_37 ?_
          refine lv_goto (tgt := 44) hx hb d_9_12_39 (by decide) ?_
          refine q_gov V (q_runV (As := [.ref (g (8 + 2 * 17))]) (rest := []) (d := 5) (mc := 0) (ms := 0) (ci := 1) C0 V rfl LV_Pri_165 (T_She_addText_17 l D g q ws 45 4104 513 1000000 (n_h45 g q)  hI t1_0 hT1 (by have y0 : (4104 : Int32).toInt = 4104 := rfl; have y1 : (513 : Int32).toInt = 513 := rfl; have y2 : (1000000 : Int32).toInt = 1000000 := rfl; have t1 : t1_0.toInt ≤ 900000 := pre0; omega) _) rfl rfl hT1 rfl hl.1 rfl (Nat.le_of_ble_eq_true rfl) ⟨by decide, by decide⟩ ⟨Nat.le_of_ble_eq_true rfl, Nat.le_of_ble_eq_true rfl⟩ d_9_12_44) (fun u154 H locs hp155 V => ?_)
          obtain ⟨hI, hu161, y157, hO156, b158, b159⟩ := hp155
          replace hO156 : u154[45]? = (some (q 45, .inr (1, [.ref (q 46), .int 4104, .int y157])) : Option (Nat × va_E)) := hO156
          replace b158 : q_F (t1_0.toInt + 1 ≤ y157.toInt) := b158
          replace b159 : q_F (y157.toInt ≤ t1_0.toInt + 1) := b159
          replace hT0 := (hu161 _ (by decide)).trans hT0
          replace hT2 := (hu161 _ (by decide)).trans hT2
          replace hF := q_uc hF hu161 (by simp)
          exact J40 ((y157 : Int32)) _ _ _ _ ⟨(show q_F (t1_0.toInt ≤ y157.toInt) from (show t1_0.toInt ≤ y157.toInt from by have t1 : t1_0.toInt + 1 ≤ y157.toInt := b158; omega)), (show q_F (y157.toInt ≤ t1_0.toInt + 2) from (show y157.toInt ≤ t1_0.toInt + 2 from by have t1 : y157.toInt ≤ t1_0.toInt + 1 := b159; omega)), V, q_lw hl (q_lw1 0 rfl (q_lw1 1 rfl (q_lw1 2 rfl q_lw0))), hI, hF, hT0, hO156, hT2⟩
  ·
    intro J27
    refine lv_icmp_ne (tgt := 16) hx hb d_9_12_9 (by decide) (fun c162 => ?_) (fun c162 => ?_)
    ·
      have b163 : q_F (t2_4.toInt ≠ 111) := (q_neI c162)
      refine lv_iconst (v := 0) hx hb d_9_12_16 (by decide) ?_
      exact J27 ((0 : Int32)) _ _ _ ws ⟨(show q_F (0 ≤ 0) from (show 0 ≤ 0 from by omega)), (show q_F (0 ≤ 1) from (show 0 ≤ 1 from by omega)), V, q_lw hl (q_lw1 0 rfl (q_lw1 1 rfl q_lw0))⟩
    ·
      have b164 : q_F (t2_4.toInt = 111) := (q_eqI c162)
      refine lv_iconst (v := 1) hx hb d_9_12_12 (by decide) ?_
      refine lv_goto (tgt := 17) hx hb d_9_12_13 (by decide) ?_
      exact J27 ((1 : Int32)) _ _ _ ws ⟨(show q_F (0 ≤ 1) from (show 0 ≤ 1 from by omega)), (show q_F (1 ≤ 1) from (show 1 ≤ 1 from by omega)), V, q_lw hl (q_lw1 0 rfl (q_lw1 1 rfl q_lw0))⟩
set_option maxRecDepth 100000 in
set_option maxHeartbeats 4000000 in
theorem T_Dig_stepOutwards_2 (l : Launch) (D : va_G) (g : Nat → ClassId) (q : Nat → Nat) (ws : va_W) (x2 : Int32) (hI : q_I (nsh g q) q ws) (t0_0 : Int32) (t0_1 : Int32) (hT0 : ws[36]? = (some (q 36, .inr (7, [.int t0_0, .int t0_1, .ref (q 37)])) : Option (Nat × va_E))) (pre0 : 0 ≤ x2.toInt + 200000) (pre1 : x2.toInt ≤ 200000) (pre2 : t0_1.toInt + 1 ≤ x2.toInt) (pre3 : 0 ≤ t0_1.toInt + 100000) (pre4 : t0_1.toInt ≤ 100000) : q_mV l y_Dig_stepOutwards prog_5_method_8_code 3 1 0 0 D g [.ref (q 36), .int x2] ws (fun u => q_I (nsh g q) q u ∧ q_un ws u [36, 37] ∧ ∃ (u0_0 : Int32) (u0_1 : Int32), u[36]? = (some (q 36, .inr (7, [.int u0_0, .int u0_1, .ref (q 37)])) : Option (Nat × va_E)) ∧ (1 ≤ u0_0.toInt) ∧ (u0_0.toInt ≤ 1026) ∧ (u0_1.toInt ≤ 100001) ∧ (u0_0.toInt ≤ t0_0.toInt + 1) ∧ (t0_1.toInt ≤ u0_1.toInt) ∧ (u0_1.toInt ≤ t0_1.toInt + 100000)) := by
  intro sz
  refine q_into (by decide) (Nat.le_of_ble_eq_true rfl) ?_
  intro p e s m below meth c ls hsz C0 V hl
  have hx := C0.1
  have hb := C0.2.1
  obtain ⟨yy0_0, yy0_1, hh0, btt0_0, btt0_1⟩ := n_o36 hI
  obtain ⟨rfl, rfl⟩ : t0_0 = yy0_0 ∧ t0_1 = yy0_1 := by have z := Option.some.inj (hT0.symm.trans hh0); simpa using z
  replace btt0_0 : q_F (0 ≤ t0_0.toInt ∧ t0_0.toInt ≤ 1026) := btt0_0
  replace btt0_1 : q_F (-1000000 ≤ t0_1.toInt ∧ t0_1.toInt ≤ 1000000) := btt0_1
  replace pre0 : q_F (0 ≤ x2.toInt + 200000) := pre0
  replace pre1 : q_F (x2.toInt ≤ 200000) := pre1
  replace pre2 : q_F (t0_1.toInt + 1 ≤ x2.toInt) := pre2
  replace pre3 : q_F (0 ≤ t0_1.toInt + 100000) := pre3
  replace pre4 : q_F (t0_1.toInt ≤ 100000) := pre4
  have hF : q_un ws ws [36, 37] := q_u0
  have hl : lv_has ls 3 [(0, .ref (q 36)), (1, .int x2)] := hl
  refine lv_aload_n hx hb d_5_8_0 rfl (lv_at hl 0 rfl) ?_
  refine q_get (ci := 7) (j := 0) (v := .int t0_0) C0 V i_Dig rfl rfl hT0 (by decide) w_264 rfl d_5_8_1 ?_
  refine lv_iconst (v := 1) hx hb d_5_8_4 (by decide) ?_
  refine lv_isub hx hb d_5_8_5 ?_
  obtain ⟨a6, e7⟩ := q_nm (t0_0 - 1 : Int32)
  refine q_ti (v := a6) e7 ?_
  have b8 : q_F (a6.toInt = t0_0.toInt - 1) := (by rw [← e7]; show (t0_0 - 1 : Int32).toInt = t0_0.toInt - 1; exact q_subI (x := t0_0.toInt) (y := 1) rfl (by decide) (by have t1 : 0 ≤ t0_0.toInt ∧ t0_0.toInt ≤ 1026 := btt0_0; omega) (by have t1 : 0 ≤ t0_0.toInt ∧ t0_0.toInt ≤ 1026 := btt0_0; omega))
  refine lv_istore_n (lv' := [(2, .int a6), (0, .ref (q 36)), (1, .int x2)]) hx hb d_5_8_6 rfl hl (by decide) rfl (fun ls hl => ?_)
  refine q_loop (X := Int32) (fun z H locs ls _ => q_F (0 ≤ z.toInt + 1) ∧ q_F (z.toInt + 1 ≤ t0_0.toInt) ∧ q_Wd D g (va_A ws sz) s ws H locs ∧ lv_has ls 3 [(2, .int z), (0, .ref (q 36)), (1, .int x2)]) (fun z => (z.toInt - ((-1000000))).toNat) ?_ ((a6 : Int32)) _ _ _ ws ⟨(show q_F (0 ≤ a6.toInt + 1) from (show 0 ≤ a6.toInt + 1 from by have t1 : 0 ≤ t0_0.toInt ∧ t0_0.toInt ≤ 1026 := btt0_0; have t2 : a6.toInt = t0_0.toInt - 1 := b8; omega)), (show q_F (a6.toInt + 1 ≤ t0_0.toInt) from (show a6.toInt + 1 ≤ t0_0.toInt from by have t1 : a6.toInt = t0_0.toInt - 1 := b8; omega)), V, q_lw hl (q_lw1 0 rfl (q_lw1 1 rfl (q_lw1 2 rfl q_lw0)))⟩
  rintro lx10 H locs ls _ ⟨i11, i12, V, hl⟩ ih13
  replace i11 : q_F (0 ≤ lx10.toInt + 1) := i11
  replace i12 : q_F (lx10.toInt + 1 ≤ t0_0.toInt) := i12
  replace hl : lv_has ls 3 [(2, .int lx10), (0, .ref (q 36)), (1, .int x2)] := hl
  refine lv_iload_n hx hb d_5_8_7 rfl (lv_at hl 0 rfl) ?_
  refine q_join (X := Unit) (fun z H locs ls _ => q_Wd D g (va_A ws sz) s ws H locs ∧ lv_has ls 3 [(2, .int lx10), (0, .ref (q 36)), (1, .int x2)]) (fun z => []) 28 0 0 ?_ ?_
  ·
    rintro _ H locs ls _ ⟨V, hl⟩
    replace hl : lv_has ls 3 [(2, .int lx10), (0, .ref (q 36)), (1, .int x2)] := hl
    refine lv_iload_n hx hb d_5_8_28 rfl (lv_at hl 0 rfl) ?_
    refine lv_if_lt (tgt := 51) hx hb d_5_8_29 (by decide) (fun c16 => ?_) (fun c16 => ?_)
    ·
      have b17 : q_F (lx10.toInt < 0) := (q_ltI c16)
      refine lv_aload_n hx hb d_5_8_51 rfl (lv_at hl 1 rfl) ?_
      refine lv_dup hx hb d_5_8_52 rfl ?_
      refine q_get (ci := 7) (j := 1) (v := .int t0_1) C0 V i_Dig rfl rfl hT0 (by decide) w_266 rfl d_5_8_53 ?_
      refine lv_iload_n hx hb d_5_8_56 rfl (lv_at hl 2 rfl) ?_
      refine lv_if_le (tgt := 64) hx hb d_5_8_57 (by decide) (fun c18 => ?_) (fun c18 => ?_)
      ·
        have b19 : q_F (x2.toInt ≤ 0) := (q_leI c18)
        refine lv_iconst (v := 1) hx hb d_5_8_64 (by decide) ?_
        refine lv_iload_n hx hb d_5_8_65 rfl (lv_at hl 2 rfl) ?_
        refine lv_isub hx hb d_5_8_66 ?_
        obtain ⟨a20, e21⟩ := q_nm (1 - x2 : Int32)
        refine q_ti (v := a20) e21 ?_
        have b22 : q_F (a20.toInt = 1 - x2.toInt) := (by rw [← e21]; show (1 - x2 : Int32).toInt = 1 - x2.toInt; exact q_subI (x := 1) (y := x2.toInt) (by decide) rfl (by have t1 : x2.toInt ≤ 200000 := pre1; have t2 : 0 ≤ x2.toInt + 200000 := pre0; omega) (by have t1 : x2.toInt ≤ 200000 := pre1; have t2 : 0 ≤ x2.toInt + 200000 := pre0; omega))
        refine lv_iadd hx hb d_5_8_67 ?_
        obtain ⟨a23, e24⟩ := q_nm (t0_1 + a20 : Int32)
        refine q_ti (v := a23) e24 ?_
        have b25 : q_F (a23.toInt = t0_1.toInt + a20.toInt) := (by rw [← e24]; show (t0_1 + a20 : Int32).toInt = t0_1.toInt + a20.toInt; exact q_addI (x := t0_1.toInt) (y := a20.toInt) rfl rfl (by have t1 : -1000000 ≤ t0_1.toInt ∧ t0_1.toInt ≤ 1000000 := btt0_1; have t2 : x2.toInt ≤ 200000 := pre1; have t3 : a20.toInt = 1 - x2.toInt := b22; have t4 : t0_1.toInt + 1 ≤ x2.toInt := pre2; omega) (by have t1 : -1000000 ≤ t0_1.toInt ∧ t0_1.toInt ≤ 1000000 := btt0_1; have t2 : x2.toInt ≤ 200000 := pre1; have t3 : a20.toInt = 1 - x2.toInt := b22; have t4 : t0_1.toInt + 1 ≤ x2.toInt := pre2; omega))
        refine q_put (ci := 7) (j := 1) (v := .int a23) (ty := .int) C0 V i_Dig o_Dig n_Dig rfl rfl hT0 (by decide) w_266 rfl rfl rfl rfl (Nat.le_of_ble_eq_true rfl) d_5_8_68 (fun H locs w26 hu27 hT0 V => ?_)
        replace hT0 : w26[36]? = (some (q 36, .inr (7, [.int t0_0, .int a23, .ref (q 37)])) : Option (Nat × va_E)) := hT0
        replace hI := n_p36 hI hu27 hT0 ⟨(by have t1 : 0 ≤ t0_0.toInt ∧ t0_0.toInt ≤ 1026 := btt0_0; omega), (by have t1 : 0 ≤ t0_0.toInt ∧ t0_0.toInt ≤ 1026 := btt0_0; omega)⟩ ⟨(by have t1 : x2.toInt ≤ 200000 := pre1; have t2 : 0 ≤ t0_1.toInt + 100000 := pre3; have t3 : a20.toInt = 1 - x2.toInt := b22; have t4 : a23.toInt = t0_1.toInt + a20.toInt := b25; omega), (by have t1 : t0_1.toInt + 1 ≤ x2.toInt := pre2; have t2 : a20.toInt = 1 - x2.toInt := b22; have t3 : a23.toInt = t0_1.toInt + a20.toInt := b25; omega)⟩
        replace hF := q_us hF hu27 (by simp)
        refine lv_aload_n hx hb d_5_8_71 rfl (lv_at hl 1 rfl) ?_
        refine q_get (ci := 7) (j := 2) (v := .ref (q 37)) C0 V i_Dig rfl rfl hT0 (by decide) w_269 rfl d_5_8_72 ?_
        refine lv_iconst (v := 0) hx hb d_5_8_75 (by decide) ?_
        refine lv_iconst (v := 1) hx hb d_5_8_76 (by decide) ?_
        obtain ⟨f28, hA29, bf30⟩ := n_ai hI (n_s37 g q)
        refine q_bast C0 V hA29 (q_ix (x := 0) (by decide) (by omega) (by omega)) d_5_8_77 (fun H locs w31 hu32 hA29 V => ?_)
        replace hI := n_ai' hI (n_s37 g q) hu32 hA29 (q_updB bf30 s_bnd)
        replace hT0 := (hu32 _ (by decide)).trans hT0
        replace hF := q_us hF hu32 (by simp)
        refine lv_aload_n hx hb d_5_8_78 rfl (lv_at hl 1 rfl) ?_
        refine lv_iconst (v := 1) hx hb d_5_8_79 (by decide) ?_
        refine q_put (ci := 7) (j := 0) (v := .int 1) (ty := .int) C0 V i_Dig o_Dig n_Dig rfl rfl hT0 (by decide) w_264 rfl rfl rfl rfl (Nat.le_of_ble_eq_true rfl) d_5_8_80 (fun H locs w33 hu34 hT0 V => ?_)
        replace hT0 : w33[36]? = (some (q 36, .inr (7, [.int 1, .int a23, .ref (q 37)])) : Option (Nat × va_E)) := hT0
        replace hI := n_p36 hI hu34 hT0 ⟨(by have z9 : (1 : Int32).toInt = 1 := rfl; omega), (by have z9 : (1 : Int32).toInt = 1 := rfl; omega)⟩ ⟨(by have t1 : x2.toInt ≤ 200000 := pre1; have t2 : 0 ≤ t0_1.toInt + 100000 := pre3; have t3 : a20.toInt = 1 - x2.toInt := b22; have t4 : a23.toInt = t0_1.toInt + a20.toInt := b25; omega), (by have t1 : t0_1.toInt + 1 ≤ x2.toInt := pre2; have t2 : a20.toInt = 1 - x2.toInt := b22; have t3 : a23.toInt = t0_1.toInt + a20.toInt := b25; omega)⟩
        replace hF := q_us hF hu34 (by simp)
        exact q_retv C0 V (⟨hI, hF, 1, a23, hT0, (show 1 ≤ (1 : Int32).toInt from (by have z3 : (1 : Int32).toInt = 1 := rfl; omega)), (show (1 : Int32).toInt ≤ 1026 from (by have z3 : (1 : Int32).toInt = 1 := rfl; omega)), (show a23.toInt ≤ 100001 from (by have z3 : (1 : Int32).toInt = 1 := rfl; have t1 : t0_1.toInt + 1 ≤ x2.toInt := pre2; have t2 : a20.toInt = 1 - x2.toInt := b22; have t3 : a23.toInt = t0_1.toInt + a20.toInt := b25; omega)), (show (1 : Int32).toInt ≤ t0_0.toInt + 1 from (by have z3 : (1 : Int32).toInt = 1 := rfl; have t1 : 0 ≤ t0_0.toInt ∧ t0_0.toInt ≤ 1026 := btt0_0; omega)), (show t0_1.toInt ≤ a23.toInt from (by have z3 : (1 : Int32).toInt = 1 := rfl; have t1 : x2.toInt ≤ 0 := b19; have t2 : a20.toInt = 1 - x2.toInt := b22; have t3 : a23.toInt = t0_1.toInt + a20.toInt := b25; omega)), (show a23.toInt ≤ t0_1.toInt + 100000 from (by have z3 : (1 : Int32).toInt = 1 := rfl; have t1 : t0_1.toInt + 1 ≤ x2.toInt := pre2; have t2 : 0 ≤ t0_1.toInt + 100000 := pre3; have t3 : a20.toInt = 1 - x2.toInt := b22; have t4 : a23.toInt = t0_1.toInt + a20.toInt := b25; omega))⟩) d_5_8_83
      ·
        have b35 : q_F (0 < x2.toInt) := (q_nleI c18)
        refine lv_iconst (v := 1) hx hb d_5_8_60 (by decide) ?_
        refine lv_goto (tgt := 67) hx hb d_5_8_61 (by decide) ?_
        refine lv_iadd hx hb d_5_8_67 ?_
        obtain ⟨a36, e37⟩ := q_nm (t0_1 + 1 : Int32)
        refine q_ti (v := a36) e37 ?_
        have b38 : q_F (a36.toInt = t0_1.toInt + 1) := (by rw [← e37]; show (t0_1 + 1 : Int32).toInt = t0_1.toInt + 1; exact q_addI (x := t0_1.toInt) (y := 1) rfl (by decide) (by have t1 : -1000000 ≤ t0_1.toInt ∧ t0_1.toInt ≤ 1000000 := btt0_1; omega) (by have t1 : -1000000 ≤ t0_1.toInt ∧ t0_1.toInt ≤ 1000000 := btt0_1; omega))
        refine q_put (ci := 7) (j := 1) (v := .int a36) (ty := .int) C0 V i_Dig o_Dig n_Dig rfl rfl hT0 (by decide) w_266 rfl rfl rfl rfl (Nat.le_of_ble_eq_true rfl) d_5_8_68 (fun H locs w39 hu40 hT0 V => ?_)
        replace hT0 : w39[36]? = (some (q 36, .inr (7, [.int t0_0, .int a36, .ref (q 37)])) : Option (Nat × va_E)) := hT0
        replace hI := n_p36 hI hu40 hT0 ⟨(by have t1 : 0 ≤ t0_0.toInt ∧ t0_0.toInt ≤ 1026 := btt0_0; omega), (by have t1 : 0 ≤ t0_0.toInt ∧ t0_0.toInt ≤ 1026 := btt0_0; omega)⟩ ⟨(by have t1 : -1000000 ≤ t0_1.toInt ∧ t0_1.toInt ≤ 1000000 := btt0_1; have t2 : a36.toInt = t0_1.toInt + 1 := b38; omega), (by have t1 : t0_1.toInt ≤ 100000 := pre4; have t2 : a36.toInt = t0_1.toInt + 1 := b38; omega)⟩
        replace hF := q_us hF hu40 (by simp)
        refine lv_aload_n hx hb d_5_8_71 rfl (lv_at hl 1 rfl) ?_
        refine q_get (ci := 7) (j := 2) (v := .ref (q 37)) C0 V i_Dig rfl rfl hT0 (by decide) w_269 rfl d_5_8_72 ?_
        refine lv_iconst (v := 0) hx hb d_5_8_75 (by decide) ?_
        refine lv_iconst (v := 1) hx hb d_5_8_76 (by decide) ?_
        obtain ⟨f41, hA42, bf43⟩ := n_ai hI (n_s37 g q)
        refine q_bast C0 V hA42 (q_ix (x := 0) (by decide) (by omega) (by omega)) d_5_8_77 (fun H locs w44 hu45 hA42 V => ?_)
        replace hI := n_ai' hI (n_s37 g q) hu45 hA42 (q_updB bf43 s_bnd)
        replace hT0 := (hu45 _ (by decide)).trans hT0
        replace hF := q_us hF hu45 (by simp)
        refine lv_aload_n hx hb d_5_8_78 rfl (lv_at hl 1 rfl) ?_
        refine lv_iconst (v := 1) hx hb d_5_8_79 (by decide) ?_
        refine q_put (ci := 7) (j := 0) (v := .int 1) (ty := .int) C0 V i_Dig o_Dig n_Dig rfl rfl hT0 (by decide) w_264 rfl rfl rfl rfl (Nat.le_of_ble_eq_true rfl) d_5_8_80 (fun H locs w46 hu47 hT0 V => ?_)
        replace hT0 : w46[36]? = (some (q 36, .inr (7, [.int 1, .int a36, .ref (q 37)])) : Option (Nat × va_E)) := hT0
        replace hI := n_p36 hI hu47 hT0 ⟨(by have z9 : (1 : Int32).toInt = 1 := rfl; omega), (by have z9 : (1 : Int32).toInt = 1 := rfl; omega)⟩ ⟨(by have t1 : -1000000 ≤ t0_1.toInt ∧ t0_1.toInt ≤ 1000000 := btt0_1; have t2 : a36.toInt = t0_1.toInt + 1 := b38; omega), (by have t1 : t0_1.toInt ≤ 100000 := pre4; have t2 : a36.toInt = t0_1.toInt + 1 := b38; omega)⟩
        replace hF := q_us hF hu47 (by simp)
        exact q_retv C0 V (⟨hI, hF, 1, a36, hT0, (show 1 ≤ (1 : Int32).toInt from (by have z3 : (1 : Int32).toInt = 1 := rfl; omega)), (show (1 : Int32).toInt ≤ 1026 from (by have z3 : (1 : Int32).toInt = 1 := rfl; omega)), (show a36.toInt ≤ 100001 from (by have z3 : (1 : Int32).toInt = 1 := rfl; have t1 : t0_1.toInt ≤ 100000 := pre4; have t2 : a36.toInt = t0_1.toInt + 1 := b38; omega)), (show (1 : Int32).toInt ≤ t0_0.toInt + 1 from (by have z3 : (1 : Int32).toInt = 1 := rfl; have t1 : 0 ≤ t0_0.toInt ∧ t0_0.toInt ≤ 1026 := btt0_0; omega)), (show t0_1.toInt ≤ a36.toInt from (by have z3 : (1 : Int32).toInt = 1 := rfl; have t1 : a36.toInt = t0_1.toInt + 1 := b38; omega)), (show a36.toInt ≤ t0_1.toInt + 100000 from (by have z3 : (1 : Int32).toInt = 1 := rfl; have t1 : a36.toInt = t0_1.toInt + 1 := b38; omega))⟩) d_5_8_83
    ·
      have b48 : q_F (0 ≤ lx10.toInt) := (q_nltI c16)
      refine lv_aload_n hx hb d_5_8_32 rfl (lv_at hl 1 rfl) ?_
      refine q_get (ci := 7) (j := 2) (v := .ref (q 37)) C0 V i_Dig rfl rfl hT0 (by decide) w_269 rfl d_5_8_33 ?_
      refine lv_iload_n hx hb d_5_8_36 rfl (lv_at hl 0 rfl) ?_
      refine lv_dup2_11 hx hb d_5_8_37 rfl rfl ?_
      obtain ⟨f49, hA50, bf51⟩ := n_ai hI (n_s37 g q)
      refine q_bald C0 V hA50 (q_ix (x := lx10.toInt) rfl (by have t1 : 0 ≤ lx10.toInt := b48; omega) (by have t1 : 0 ≤ lx10.toInt := b48; have t2 : 0 ≤ t0_0.toInt ∧ t0_0.toInt ≤ 1026 := btt0_0; have t3 : lx10.toInt + 1 ≤ t0_0.toInt := i12; omega)) d_5_8_38 ?_
      obtain ⟨a52, e53⟩ := q_nm (f49 lx10.toNatClampNeg : Int32)
      refine q_ti (v := a52) e53 ?_
      refine lv_iconst (v := 1) hx hb d_5_8_39 (by decide) ?_
      refine lv_iadd hx hb d_5_8_40 ?_
      obtain ⟨a54, e55⟩ := q_nm (a52 + 1 : Int32)
      refine q_ti (v := a54) e55 ?_
      refine lv_i2b hx hb d_5_8_41 rfl ?_
      obtain ⟨a56, e57⟩ := q_nm (a54.toInt8.toInt32 : Int32)
      refine q_ti (v := a56) e57 ?_
      refine q_bast C0 V hA50 (q_ix (x := lx10.toInt) rfl (by have t1 : 0 ≤ lx10.toInt := b48; omega) (by have t1 : 0 ≤ lx10.toInt := b48; have t2 : 0 ≤ t0_0.toInt ∧ t0_0.toInt ≤ 1026 := btt0_0; have t3 : lx10.toInt + 1 ≤ t0_0.toInt := i12; omega)) d_5_8_42 (fun H locs w58 hu59 hA50 V => ?_)
      replace hI := n_ai' hI (n_s37 g q) hu59 hA50 (q_updB bf51 s_bnd)
      replace hT0 := (hu59 _ (by decide)).trans hT0
      replace hF := q_us hF hu59 (by simp)
      refine lv_aload_n hx hb d_5_8_43 rfl (lv_at hl 1 rfl) ?_
      refine lv_iload_n hx hb d_5_8_44 rfl (lv_at hl 0 rfl) ?_
      refine lv_iconst (v := 1) hx hb d_5_8_45 (by decide) ?_
      refine lv_iadd hx hb d_5_8_46 ?_
      obtain ⟨a60, e61⟩ := q_nm (lx10 + 1 : Int32)
      refine q_ti (v := a60) e61 ?_
      have b62 : q_F (a60.toInt = lx10.toInt + 1) := (by rw [← e61]; show (lx10 + 1 : Int32).toInt = lx10.toInt + 1; exact q_addI (x := lx10.toInt) (y := 1) rfl (by decide) (by have t1 : 0 ≤ lx10.toInt + 1 := i11; have t2 : lx10.toInt + 1 ≤ t0_0.toInt := i12; have _ := q_lo32 (x := t0_0); have _ := q_hi32 (x := t0_0); omega) (by have t1 : 0 ≤ lx10.toInt + 1 := i11; have t2 : lx10.toInt + 1 ≤ t0_0.toInt := i12; have _ := q_lo32 (x := t0_0); have _ := q_hi32 (x := t0_0); omega))
      refine q_put (ci := 7) (j := 0) (v := .int a60) (ty := .int) C0 V i_Dig o_Dig n_Dig rfl rfl hT0 (by decide) w_264 rfl rfl rfl rfl (Nat.le_of_ble_eq_true rfl) d_5_8_47 (fun H locs w63 hu64 hT0 V => ?_)
      replace hT0 : w63[36]? = (some (q 36, .inr (7, [.int a60, .int t0_1, .ref (q 37)])) : Option (Nat × va_E)) := hT0
      replace hI := n_p36 hI hu64 hT0 ⟨(by have t1 : 0 ≤ lx10.toInt + 1 := i11; have t2 : a60.toInt = lx10.toInt + 1 := b62; omega), (by have t1 : 0 ≤ t0_0.toInt ∧ t0_0.toInt ≤ 1026 := btt0_0; have t2 : lx10.toInt + 1 ≤ t0_0.toInt := i12; have t3 : a60.toInt = lx10.toInt + 1 := b62; omega)⟩ ⟨(by have t1 : -1000000 ≤ t0_1.toInt ∧ t0_1.toInt ≤ 1000000 := btt0_1; omega), (by have t1 : -1000000 ≤ t0_1.toInt ∧ t0_1.toInt ≤ 1000000 := btt0_1; omega)⟩
      replace hF := q_us hF hu64 (by simp)
      exact q_retv C0 V (⟨hI, hF, a60, t0_1, hT0, (show 1 ≤ a60.toInt from (by have t1 : 0 ≤ lx10.toInt := b48; have t2 : a60.toInt = lx10.toInt + 1 := b62; omega)), (show a60.toInt ≤ 1026 from (by have t1 : 0 ≤ t0_0.toInt ∧ t0_0.toInt ≤ 1026 := btt0_0; have t2 : lx10.toInt + 1 ≤ t0_0.toInt := i12; have t3 : a60.toInt = lx10.toInt + 1 := b62; omega)), (show t0_1.toInt ≤ 100001 from (by have t1 : t0_1.toInt ≤ 100000 := pre4; omega)), (show a60.toInt ≤ t0_0.toInt + 1 from (by have t1 : lx10.toInt + 1 ≤ t0_0.toInt := i12; have t2 : a60.toInt = lx10.toInt + 1 := b62; omega)), (show t0_1.toInt ≤ t0_1.toInt from (by omega)), (show t0_1.toInt ≤ t0_1.toInt + 100000 from (by omega))⟩) d_5_8_50
  ·
    intro J15
    refine lv_if_lt (tgt := 28) hx hb d_5_8_8 (by decide) (fun c65 => ?_) (fun c65 => ?_)
    ·
      have b66 : q_F (lx10.toInt < 0) := (q_ltI c65)
      exact J15 (()) _ _ _ ws ⟨V, q_lw hl (q_lw1 0 rfl (q_lw1 1 rfl (q_lw1 2 rfl q_lw0)))⟩
    ·
      have b67 : q_F (0 ≤ lx10.toInt) := (q_nltI c65)
      refine lv_aload_n hx hb d_5_8_11 rfl (lv_at hl 1 rfl) ?_
      refine q_get (ci := 7) (j := 2) (v := .ref (q 37)) C0 V i_Dig rfl rfl hT0 (by decide) w_269 rfl d_5_8_12 ?_
      refine lv_iload_n hx hb d_5_8_15 rfl (lv_at hl 0 rfl) ?_
      obtain ⟨f68, hA69, bf70⟩ := n_ai hI (n_s37 g q)
      refine q_bald C0 V hA69 (q_ix (x := lx10.toInt) rfl (by have t1 : 0 ≤ lx10.toInt := b67; omega) (by have t1 : 0 ≤ lx10.toInt := b67; have t2 : 0 ≤ t0_0.toInt ∧ t0_0.toInt ≤ 1026 := btt0_0; have t3 : lx10.toInt + 1 ≤ t0_0.toInt := i12; omega)) d_5_8_16 ?_
      obtain ⟨a71, e72⟩ := q_nm (f68 lx10.toNatClampNeg : Int32)
      refine q_ti (v := a71) e72 ?_
      refine lv_bipush (v := 9) hx hb d_5_8_17 (by decide) ?_
      refine lv_icmp_ne (tgt := 28) hx hb d_5_8_19 (by decide) (fun c73 => ?_) (fun c73 => ?_)
      ·
        have b74 : q_F (a71.toInt ≠ 9) := (q_neI c73)
        exact J15 (()) _ _ _ ws ⟨V, q_lw hl (q_lw1 0 rfl (q_lw1 1 rfl (q_lw1 2 rfl q_lw0)))⟩
      ·
        have b75 : q_F (a71.toInt = 9) := (q_eqI c73)
        obtain ⟨a76, e77⟩ := q_nm (lx10 + (-1) : Int32)
        have b78 : q_F (a76.toInt = lx10.toInt + (-1)) := (by rw [← e77]; exact q_addI (y := (-1)) rfl (by decide) (by have t1 : 0 ≤ lx10.toInt + 1 := i11; have _ := q_lo32 (x := lx10); have _ := q_hi32 (x := lx10); omega) (by have t1 : 0 ≤ lx10.toInt + 1 := i11; have _ := q_lo32 (x := lx10); have _ := q_hi32 (x := lx10); omega))
        refine lv_iinc (v := a76) (lv' := [(2, .int a76), (0, .ref (q 36)), (1, .int x2)]) hx hb d_5_8_22 hl (k := 0) rfl (e77) (by decide) rfl (fun ls hl => ?_)
        refine lv_goto (tgt := 7) hx hb d_5_8_25 (by decide) ?_
        exact ih13 ((a76 : Int32)) _ _ _ ws (show (a76.toInt - ((-1000000))).toNat < (lx10.toInt - ((-1000000))).toNat from by have t1 : a76.toInt = lx10.toInt + (-1) := b78; have t2 : 0 ≤ lx10.toInt + 1 := i11; omega) ⟨(show q_F (0 ≤ a76.toInt + 1) from (show 0 ≤ a76.toInt + 1 from by have t1 : 0 ≤ lx10.toInt := b67; have t2 : a76.toInt = lx10.toInt + (-1) := b78; omega)), (show q_F (a76.toInt + 1 ≤ t0_0.toInt) from (show a76.toInt + 1 ≤ t0_0.toInt from by have t1 : lx10.toInt + 1 ≤ t0_0.toInt := i12; have t2 : a76.toInt = lx10.toInt + (-1) := b78; omega)), V, q_lw hl (q_lw1 0 rfl (q_lw1 1 rfl (q_lw1 2 rfl q_lw0)))⟩
set_option maxRecDepth 100000 in
set_option maxHeartbeats 4000000 in
theorem T_Dig_round_2 (l : Launch) (D : va_G) (g : Nat → ClassId) (q : Nat → Nat) (ws : va_W) (x2 : Int32) (x3 : Int32) (hI : q_I (nsh g q) q ws) (t0_0 : Int32) (t0_1 : Int32) (hT0 : ws[36]? = (some (q 36, .inr (7, [.int t0_0, .int t0_1, .ref (q 37)])) : Option (Nat × va_E))) (pre0 : 0 ≤ x2.toInt + 200000) (pre1 : x2.toInt ≤ 200000) (pre2 : t0_1.toInt + 1 ≤ x2.toInt) (pre3 : 0 ≤ t0_1.toInt + 100000) (pre4 : t0_1.toInt ≤ 100000) : q_mV l y_Dig_round prog_5_method_6_code 4 3 0 0 D g [.ref (q 36), .int x2, .int x3] ws (fun u => q_I (nsh g q) q u ∧ q_un ws u [36, 37] ∧ ∃ (u0_0 : Int32) (u0_1 : Int32), u[36]? = (some (q 36, .inr (7, [.int u0_0, .int u0_1, .ref (q 37)])) : Option (Nat × va_E)) ∧ (0 ≤ u0_0.toInt) ∧ (u0_0.toInt ≤ 1026) ∧ (u0_1.toInt ≤ 100001) ∧ (u0_0.toInt ≤ x2.toInt + 100000) ∧ (u0_0.toInt ≤ t0_0.toInt + 1) ∧ (u0_1.toInt ≤ t0_0.toInt + 100000) ∧ (t0_1.toInt ≤ u0_1.toInt) ∧ (u0_1.toInt ≤ t0_1.toInt + 100000) ∧ (u0_1.toInt ≤ u0_0.toInt + 100000)) := by
  intro sz
  refine q_into (by decide) (Nat.le_of_ble_eq_true rfl) ?_
  intro p e s m below meth c ls hsz C0 V hl
  have hx := C0.1
  have hb := C0.2.1
  obtain ⟨yy0_0, yy0_1, hh0, btt0_0, btt0_1⟩ := n_o36 hI
  obtain ⟨rfl, rfl⟩ : t0_0 = yy0_0 ∧ t0_1 = yy0_1 := by have z := Option.some.inj (hT0.symm.trans hh0); simpa using z
  replace btt0_0 : q_F (0 ≤ t0_0.toInt ∧ t0_0.toInt ≤ 1026) := btt0_0
  replace btt0_1 : q_F (-1000000 ≤ t0_1.toInt ∧ t0_1.toInt ≤ 1000000) := btt0_1
  replace pre0 : q_F (0 ≤ x2.toInt + 200000) := pre0
  replace pre1 : q_F (x2.toInt ≤ 200000) := pre1
  replace pre2 : q_F (t0_1.toInt + 1 ≤ x2.toInt) := pre2
  replace pre3 : q_F (0 ≤ t0_1.toInt + 100000) := pre3
  replace pre4 : q_F (t0_1.toInt ≤ 100000) := pre4
  have hF : q_un ws ws [36, 37] := q_u0
  have hl : lv_has ls 4 [(0, .ref (q 36)), (1, .int x2), (2, .int x3)] := hl
  refine lv_iload_n hx hb d_5_6_0 rfl (lv_at hl 1 rfl) ?_
  refine lv_aload_n hx hb d_5_6_1 rfl (lv_at hl 0 rfl) ?_
  refine q_get (ci := 7) (j := 0) (v := .int t0_0) C0 V i_Dig rfl rfl hT0 (by decide) w_264 rfl d_5_6_2 ?_
  refine lv_icmp_lt (tgt := 9) hx hb d_5_6_5 (by decide) (fun c6 => ?_) (fun c6 => ?_)
  ·
    have b7 : q_F (x2.toInt < t0_0.toInt) := (q_ltI c6)
    refine lv_aload_n hx hb d_5_6_9 rfl (lv_at hl 0 rfl) ?_
    refine lv_iload_n hx hb d_5_6_10 rfl (lv_at hl 1 rfl) ?_
    refine lv_iload_n hx hb d_5_6_11 rfl (lv_at hl 2 rfl) ?_
    refine q_goi V (q_runV (As := [.int x2, .int x3]) (rest := []) (d := 2) (mc := 0) (ms := 0) (ci := 7) C0 V rfl LV_Dig_36 (T_Dig_goesOutwards l D g q ws  x2 x3 hI   _) rfl rfl hT0 rfl hl.1 rfl (Nat.le_of_ble_eq_true rfl) ⟨by decide, by decide⟩ ⟨Nat.le_of_ble_eq_true rfl, Nat.le_of_ble_eq_true rfl⟩ d_5_6_12) (fun a10 u8 H locs hp9 V => ?_)
    obtain ⟨rfl, b11, b12⟩ := hp9
    replace b11 : q_F (0 ≤ a10.toInt) := b11
    replace b12 : q_F (a10.toInt ≤ 1) := b12
    refine lv_istore_n (lv' := [(3, .int a10), (0, .ref (q 36)), (1, .int x2), (2, .int x3)]) hx hb d_5_6_15 rfl hl (by decide) rfl (fun ls hl => ?_)
    refine lv_aload_n hx hb d_5_6_16 rfl (lv_at hl 1 rfl) ?_
    refine lv_iload_n hx hb d_5_6_17 rfl (lv_at hl 2 rfl) ?_
    refine lv_iconst (v := 0) hx hb d_5_6_18 (by decide) ?_
    refine q_max C0 hl.1 rfl w_1571 w_803 w_7 w_804 ⟨Nat.le_of_ble_eq_true rfl, Nat.le_of_ble_eq_true rfl⟩ ⟨Nat.le_of_ble_eq_true rfl, Nat.le_of_ble_eq_true rfl⟩ d_5_6_19 ?_
    obtain ⟨a14, e15⟩ := q_nm (if x2 < 0 then 0 else x2 : Int32)
    refine q_ti (v := a14) e15 ?_
    have b16 : q_F (x2.toInt ≤ a14.toInt ∧ 0 ≤ a14.toInt ∧ (a14.toInt = x2.toInt ∨ a14.toInt = 0)) := (by rw [← e15]; show x2.toInt ≤ (if x2 < 0 then 0 else x2 : Int32).toInt ∧ 0 ≤ (if x2 < 0 then 0 else x2 : Int32).toInt ∧ ((if x2 < 0 then 0 else x2 : Int32).toInt = x2.toInt ∨ (if x2 < 0 then 0 else x2 : Int32).toInt = 0); exact (by have y1 : (0 : Int32).toInt = 0 := rfl; have z := s_max (a := x2) (b := 0); omega))
    refine q_put (ci := 7) (j := 0) (v := .int a14) (ty := .int) C0 V i_Dig o_Dig n_Dig rfl rfl hT0 (by decide) w_264 rfl rfl rfl rfl (Nat.le_of_ble_eq_true rfl) d_5_6_22 (fun H locs w17 hu18 hT0 V => ?_)
    replace hT0 : w17[36]? = (some (q 36, .inr (7, [.int a14, .int t0_1, .ref (q 37)])) : Option (Nat × va_E)) := hT0
    replace hI := n_p36 hI hu18 hT0 ⟨(by have t1 : x2.toInt ≤ a14.toInt ∧ 0 ≤ a14.toInt ∧ (a14.toInt = x2.toInt ∨ a14.toInt = 0) := b16; omega), (by have t1 : 0 ≤ t0_0.toInt ∧ t0_0.toInt ≤ 1026 := btt0_0; have t2 : x2.toInt < t0_0.toInt := b7; have t3 : x2.toInt ≤ a14.toInt ∧ 0 ≤ a14.toInt ∧ (a14.toInt = x2.toInt ∨ a14.toInt = 0) := b16; omega)⟩ ⟨(by have t1 : -1000000 ≤ t0_1.toInt ∧ t0_1.toInt ≤ 1000000 := btt0_1; omega), (by have t1 : -1000000 ≤ t0_1.toInt ∧ t0_1.toInt ≤ 1000000 := btt0_1; omega)⟩
    replace hF := q_us hF hu18 (by simp)
    refine lv_iload_n hx hb d_5_6_25 rfl (lv_at hl 0 rfl) ?_
    refine lv_if_eq (tgt := 34) hx hb d_5_6_26 (by decide) (fun c19 => ?_) (fun c19 => ?_)
    ·
      have b20 : q_F (a10.toInt = 0) := (q_eqI c19)
      refine lv_aload_n hx hb d_5_6_34 rfl (lv_at hl 1 rfl) ?_
      refine q_get (ci := 7) (j := 0) (v := .int a14) C0 V i_Dig rfl rfl hT0 (by decide) w_264 rfl d_5_6_35 ?_
      refine lv_if_ne (tgt := 46) hx hb d_5_6_38 (by decide) (fun c21 => ?_) (fun c21 => ?_)
      ·
        have b22 : q_F (a14.toInt ≠ 0) := (q_neI c21)
        exact q_retv C0 V (⟨hI, hF, a14, t0_1, hT0, (show 0 ≤ a14.toInt from (by have t1 : x2.toInt ≤ a14.toInt ∧ 0 ≤ a14.toInt ∧ (a14.toInt = x2.toInt ∨ a14.toInt = 0) := b16; omega)), (show a14.toInt ≤ 1026 from (by have t1 : 0 ≤ t0_0.toInt ∧ t0_0.toInt ≤ 1026 := btt0_0; have t2 : x2.toInt < t0_0.toInt := b7; have t3 : x2.toInt ≤ a14.toInt ∧ 0 ≤ a14.toInt ∧ (a14.toInt = x2.toInt ∨ a14.toInt = 0) := b16; omega)), (show t0_1.toInt ≤ 100001 from (by have t1 : t0_1.toInt ≤ 100000 := pre4; omega)), (show a14.toInt ≤ x2.toInt + 100000 from (by have t1 : x2.toInt ≤ a14.toInt ∧ 0 ≤ a14.toInt ∧ (a14.toInt = x2.toInt ∨ a14.toInt = 0) := b16; have t2 : a14.toInt ≠ 0 := b22; omega)), (show a14.toInt ≤ t0_0.toInt + 1 from (by have t1 : 0 ≤ t0_0.toInt ∧ t0_0.toInt ≤ 1026 := btt0_0; have t2 : x2.toInt < t0_0.toInt := b7; have t3 : x2.toInt ≤ a14.toInt ∧ 0 ≤ a14.toInt ∧ (a14.toInt = x2.toInt ∨ a14.toInt = 0) := b16; omega)), (show t0_1.toInt ≤ t0_0.toInt + 100000 from (by have t1 : 0 ≤ t0_0.toInt ∧ t0_0.toInt ≤ 1026 := btt0_0; have t2 : t0_1.toInt ≤ 100000 := pre4; omega)), (show t0_1.toInt ≤ t0_1.toInt from (by omega)), (show t0_1.toInt ≤ t0_1.toInt + 100000 from (by omega)), (show t0_1.toInt ≤ a14.toInt + 100000 from (by have t1 : t0_1.toInt + 1 ≤ x2.toInt := pre2; have t2 : x2.toInt ≤ a14.toInt ∧ 0 ≤ a14.toInt ∧ (a14.toInt = x2.toInt ∨ a14.toInt = 0) := b16; omega))⟩) d_5_6_46
      ·
        have b23 : q_F (a14.toInt = 0) := (q_eqI c21)
        refine lv_aload_n hx hb d_5_6_41 rfl (lv_at hl 1 rfl) ?_
        refine lv_iconst (v := 0) hx hb d_5_6_42 (by decide) ?_
        refine q_put (ci := 7) (j := 1) (v := .int 0) (ty := .int) C0 V i_Dig o_Dig n_Dig rfl rfl hT0 (by decide) w_266 rfl rfl rfl rfl (Nat.le_of_ble_eq_true rfl) d_5_6_43 (fun H locs w24 hu25 hT0 V => ?_)
        replace hT0 : w24[36]? = (some (q 36, .inr (7, [.int a14, .int 0, .ref (q 37)])) : Option (Nat × va_E)) := hT0
        replace hI := n_p36 hI hu25 hT0 ⟨(by have t1 : x2.toInt ≤ a14.toInt ∧ 0 ≤ a14.toInt ∧ (a14.toInt = x2.toInt ∨ a14.toInt = 0) := b16; omega), (by have t1 : a14.toInt = 0 := b23; omega)⟩ ⟨(by have z9 : (0 : Int32).toInt = 0 := rfl; omega), (by have z9 : (0 : Int32).toInt = 0 := rfl; omega)⟩
        replace hF := q_us hF hu25 (by simp)
        exact q_retv C0 V (⟨hI, hF, a14, 0, hT0, (show 0 ≤ a14.toInt from (by have z5 : (0 : Int32).toInt = 0 := rfl; have t1 : x2.toInt ≤ a14.toInt ∧ 0 ≤ a14.toInt ∧ (a14.toInt = x2.toInt ∨ a14.toInt = 0) := b16; omega)), (show a14.toInt ≤ 1026 from (by have z5 : (0 : Int32).toInt = 0 := rfl; have t1 : a14.toInt = 0 := b23; omega)), (show (0 : Int32).toInt ≤ 100001 from (by have z5 : (0 : Int32).toInt = 0 := rfl; omega)), (show a14.toInt ≤ x2.toInt + 100000 from (by have z5 : (0 : Int32).toInt = 0 := rfl; have t1 : t0_1.toInt + 1 ≤ x2.toInt := pre2; have t2 : 0 ≤ t0_1.toInt + 100000 := pre3; have t3 : x2.toInt ≤ a14.toInt ∧ 0 ≤ a14.toInt ∧ (a14.toInt = x2.toInt ∨ a14.toInt = 0) := b16; omega)), (show a14.toInt ≤ t0_0.toInt + 1 from (by have z5 : (0 : Int32).toInt = 0 := rfl; have t1 : 0 ≤ t0_0.toInt ∧ t0_0.toInt ≤ 1026 := btt0_0; have t2 : x2.toInt < t0_0.toInt := b7; have t3 : x2.toInt ≤ a14.toInt ∧ 0 ≤ a14.toInt ∧ (a14.toInt = x2.toInt ∨ a14.toInt = 0) := b16; omega)), (show (0 : Int32).toInt ≤ t0_0.toInt + 100000 from (by have z5 : (0 : Int32).toInt = 0 := rfl; have t1 : 0 ≤ t0_0.toInt ∧ t0_0.toInt ≤ 1026 := btt0_0; omega)), (show t0_1.toInt ≤ (0 : Int32).toInt from (by have z5 : (0 : Int32).toInt = 0 := rfl; have t1 : t0_1.toInt + 1 ≤ x2.toInt := pre2; have t2 : x2.toInt ≤ a14.toInt ∧ 0 ≤ a14.toInt ∧ (a14.toInt = x2.toInt ∨ a14.toInt = 0) := b16; have t3 : a14.toInt = 0 := b23; omega)), (show (0 : Int32).toInt ≤ t0_1.toInt + 100000 from (by have z5 : (0 : Int32).toInt = 0 := rfl; have t1 : 0 ≤ t0_1.toInt + 100000 := pre3; omega)), (show (0 : Int32).toInt ≤ a14.toInt + 100000 from (by have z5 : (0 : Int32).toInt = 0 := rfl; have t1 : x2.toInt ≤ a14.toInt ∧ 0 ≤ a14.toInt ∧ (a14.toInt = x2.toInt ∨ a14.toInt = 0) := b16; omega))⟩) d_5_6_46
    ·
      have b26 : q_F (a10.toInt ≠ 0) := (q_neI c19)
      refine lv_aload_n hx hb d_5_6_29 rfl (lv_at hl 1 rfl) ?_
      refine lv_iload_n hx hb d_5_6_30 rfl (lv_at hl 2 rfl) ?_
      refine q_gov V (q_runV (As := [.int x2]) (rest := []) (d := 1) (mc := 0) (ms := 0) (ci := 7) C0 V rfl LV_Dig_46 (T_Dig_stepOutwards_2 l D g q w17  x2 hI a14 t0_1 hT0 (by have t1 : 0 ≤ x2.toInt + 200000 := pre0; omega) (by have t1 : x2.toInt ≤ 200000 := pre1; omega) (by have t1 : t0_1.toInt + 1 ≤ x2.toInt := pre2; omega) (by have t1 : 0 ≤ t0_1.toInt + 100000 := pre3; omega) (by have t1 : t0_1.toInt ≤ 100000 := pre4; omega) _) rfl rfl hT0 rfl hl.1 rfl (Nat.le_of_ble_eq_true rfl) ⟨by decide, by decide⟩ ⟨Nat.le_of_ble_eq_true rfl, Nat.le_of_ble_eq_true rfl⟩ d_5_6_31) (fun u27 H locs hp28 V => ?_)
      obtain ⟨hI, hu39, y30, y31, hO29, b32, b33, b34, b35, b36, b37⟩ := hp28
      replace hO29 : u27[36]? = (some (q 36, .inr (7, [.int y30, .int y31, .ref (q 37)])) : Option (Nat × va_E)) := hO29
      replace b32 : q_F (1 ≤ y30.toInt) := b32
      replace b33 : q_F (y30.toInt ≤ 1026) := b33
      replace b34 : q_F (y31.toInt ≤ 100001) := b34
      replace b35 : q_F (y30.toInt ≤ a14.toInt + 1) := b35
      replace b36 : q_F (t0_1.toInt ≤ y31.toInt) := b36
      replace b37 : q_F (y31.toInt ≤ t0_1.toInt + 100000) := b37
      replace hF := q_uc hF hu39 (by simp)
      refine lv_aload_n hx hb d_5_6_34 rfl (lv_at hl 1 rfl) ?_
      refine q_get (ci := 7) (j := 0) (v := .int y30) C0 V i_Dig rfl rfl hO29 (by decide) w_264 rfl d_5_6_35 ?_
      refine lv_if_ne (tgt := 46) hx hb d_5_6_38 (by decide) (fun c40 => ?_) (fun c40 => absurd (show y30.toInt = 0 from q_eqI c40) (by have t1 : 1 ≤ y30.toInt := b32; omega))
      exact q_retv C0 V (⟨hI, hF, y30, y31, hO29, (show 0 ≤ y30.toInt from (by have t1 : 1 ≤ y30.toInt := b32; omega)), (show y30.toInt ≤ 1026 from (by have t1 : y30.toInt ≤ 1026 := b33; omega)), (show y31.toInt ≤ 100001 from (by have t1 : y31.toInt ≤ 100001 := b34; omega)), (show y30.toInt ≤ x2.toInt + 100000 from (by have t1 : t0_1.toInt + 1 ≤ x2.toInt := pre2; have t2 : 0 ≤ t0_1.toInt + 100000 := pre3; have t3 : x2.toInt ≤ a14.toInt ∧ 0 ≤ a14.toInt ∧ (a14.toInt = x2.toInt ∨ a14.toInt = 0) := b16; have t4 : y30.toInt ≤ a14.toInt + 1 := b35; omega)), (show y30.toInt ≤ t0_0.toInt + 1 from (by have t1 : 0 ≤ t0_0.toInt ∧ t0_0.toInt ≤ 1026 := btt0_0; have t2 : x2.toInt < t0_0.toInt := b7; have t3 : x2.toInt ≤ a14.toInt ∧ 0 ≤ a14.toInt ∧ (a14.toInt = x2.toInt ∨ a14.toInt = 0) := b16; have t4 : y30.toInt ≤ a14.toInt + 1 := b35; omega)), (show y31.toInt ≤ t0_0.toInt + 100000 from (by have t1 : t0_1.toInt + 1 ≤ x2.toInt := pre2; have t2 : x2.toInt < t0_0.toInt := b7; have t3 : y31.toInt ≤ t0_1.toInt + 100000 := b37; omega)), (show t0_1.toInt ≤ y31.toInt from (by have t1 : t0_1.toInt ≤ y31.toInt := b36; omega)), (show y31.toInt ≤ t0_1.toInt + 100000 from (by have t1 : y31.toInt ≤ t0_1.toInt + 100000 := b37; omega)), (show y31.toInt ≤ y30.toInt + 100000 from (by have t1 : 1 ≤ y30.toInt := b32; have t2 : y31.toInt ≤ 100001 := b34; omega))⟩) d_5_6_46
  ·
    have b41 : q_F (t0_0.toInt ≤ x2.toInt) := (q_nltI c6)
    exact q_retv C0 V (⟨hI, hF, t0_0, t0_1, hT0, (show 0 ≤ t0_0.toInt from (by have t1 : 0 ≤ t0_0.toInt ∧ t0_0.toInt ≤ 1026 := btt0_0; omega)), (show t0_0.toInt ≤ 1026 from (by have t1 : 0 ≤ t0_0.toInt ∧ t0_0.toInt ≤ 1026 := btt0_0; omega)), (show t0_1.toInt ≤ 100001 from (by have t1 : t0_1.toInt ≤ 100000 := pre4; omega)), (show t0_0.toInt ≤ x2.toInt + 100000 from (by have t1 : t0_0.toInt ≤ x2.toInt := b41; omega)), (show t0_0.toInt ≤ t0_0.toInt + 1 from (by omega)), (show t0_1.toInt ≤ t0_0.toInt + 100000 from (by have t1 : 0 ≤ t0_0.toInt ∧ t0_0.toInt ≤ 1026 := btt0_0; have t2 : t0_1.toInt ≤ 100000 := pre4; omega)), (show t0_1.toInt ≤ t0_1.toInt from (by omega)), (show t0_1.toInt ≤ t0_1.toInt + 100000 from (by omega)), (show t0_1.toInt ≤ t0_0.toInt + 100000 from (by have t1 : 0 ≤ t0_0.toInt ∧ t0_0.toInt ≤ 1026 := btt0_0; have t2 : t0_1.toInt ≤ 100000 := pre4; omega))⟩) d_5_6_8
set_option maxRecDepth 100000 in
set_option maxHeartbeats 4000000 in
theorem T_Dig_stepOutwards_1 (l : Launch) (D : va_G) (g : Nat → ClassId) (q : Nat → Nat) (ws : va_W) (x2 : Int32) (hI : q_I (nsh g q) q ws) (t0_0 : Int32) (t0_1 : Int32) (hT0 : ws[36]? = (some (q 36, .inr (7, [.int t0_0, .int t0_1, .ref (q 37)])) : Option (Nat × va_E))) (pre0 : 1 ≤ x2.toInt) (pre1 : 0 ≤ t0_1.toInt + 200000) (pre2 : t0_1.toInt ≤ 200000) : q_mV l y_Dig_stepOutwards prog_5_method_8_code 3 1 0 0 D g [.ref (q 36), .int x2] ws (fun u => q_I (nsh g q) q u ∧ q_un ws u [36, 37] ∧ ∃ (u0_0 : Int32) (u0_1 : Int32), u[36]? = (some (q 36, .inr (7, [.int u0_0, .int u0_1, .ref (q 37)])) : Option (Nat × va_E)) ∧ (1 ≤ u0_0.toInt) ∧ (u0_0.toInt ≤ 1026) ∧ (u0_0.toInt ≤ t0_0.toInt + 1) ∧ (t0_1.toInt ≤ u0_1.toInt) ∧ (u0_1.toInt ≤ t0_1.toInt + 1)) := by
  intro sz
  refine q_into (by decide) (Nat.le_of_ble_eq_true rfl) ?_
  intro p e s m below meth c ls hsz C0 V hl
  have hx := C0.1
  have hb := C0.2.1
  obtain ⟨yy0_0, yy0_1, hh0, btt0_0, btt0_1⟩ := n_o36 hI
  obtain ⟨rfl, rfl⟩ : t0_0 = yy0_0 ∧ t0_1 = yy0_1 := by have z := Option.some.inj (hT0.symm.trans hh0); simpa using z
  replace btt0_0 : q_F (0 ≤ t0_0.toInt ∧ t0_0.toInt ≤ 1026) := btt0_0
  replace btt0_1 : q_F (-1000000 ≤ t0_1.toInt ∧ t0_1.toInt ≤ 1000000) := btt0_1
  replace pre0 : q_F (1 ≤ x2.toInt) := pre0
  replace pre1 : q_F (0 ≤ t0_1.toInt + 200000) := pre1
  replace pre2 : q_F (t0_1.toInt ≤ 200000) := pre2
  have hF : q_un ws ws [36, 37] := q_u0
  have hl : lv_has ls 3 [(0, .ref (q 36)), (1, .int x2)] := hl
  refine lv_aload_n hx hb d_5_8_0 rfl (lv_at hl 0 rfl) ?_
  refine q_get (ci := 7) (j := 0) (v := .int t0_0) C0 V i_Dig rfl rfl hT0 (by decide) w_264 rfl d_5_8_1 ?_
  refine lv_iconst (v := 1) hx hb d_5_8_4 (by decide) ?_
  refine lv_isub hx hb d_5_8_5 ?_
  obtain ⟨a6, e7⟩ := q_nm (t0_0 - 1 : Int32)
  refine q_ti (v := a6) e7 ?_
  have b8 : q_F (a6.toInt = t0_0.toInt - 1) := (by rw [← e7]; show (t0_0 - 1 : Int32).toInt = t0_0.toInt - 1; exact q_subI (x := t0_0.toInt) (y := 1) rfl (by decide) (by have t1 : 0 ≤ t0_0.toInt ∧ t0_0.toInt ≤ 1026 := btt0_0; omega) (by have t1 : 0 ≤ t0_0.toInt ∧ t0_0.toInt ≤ 1026 := btt0_0; omega))
  refine lv_istore_n (lv' := [(2, .int a6), (0, .ref (q 36)), (1, .int x2)]) hx hb d_5_8_6 rfl hl (by decide) rfl (fun ls hl => ?_)
  refine q_loop (X := Int32) (fun z H locs ls _ => q_F (0 ≤ z.toInt + 1) ∧ q_F (z.toInt + 1 ≤ t0_0.toInt) ∧ q_Wd D g (va_A ws sz) s ws H locs ∧ lv_has ls 3 [(2, .int z), (0, .ref (q 36)), (1, .int x2)]) (fun z => (z.toInt - ((-1000000))).toNat) ?_ ((a6 : Int32)) _ _ _ ws ⟨(show q_F (0 ≤ a6.toInt + 1) from (show 0 ≤ a6.toInt + 1 from by have t1 : 0 ≤ t0_0.toInt ∧ t0_0.toInt ≤ 1026 := btt0_0; have t2 : a6.toInt = t0_0.toInt - 1 := b8; omega)), (show q_F (a6.toInt + 1 ≤ t0_0.toInt) from (show a6.toInt + 1 ≤ t0_0.toInt from by have t1 : a6.toInt = t0_0.toInt - 1 := b8; omega)), V, q_lw hl (q_lw1 0 rfl (q_lw1 1 rfl (q_lw1 2 rfl q_lw0)))⟩
  rintro lx10 H locs ls _ ⟨i11, i12, V, hl⟩ ih13
  replace i11 : q_F (0 ≤ lx10.toInt + 1) := i11
  replace i12 : q_F (lx10.toInt + 1 ≤ t0_0.toInt) := i12
  replace hl : lv_has ls 3 [(2, .int lx10), (0, .ref (q 36)), (1, .int x2)] := hl
  refine lv_iload_n hx hb d_5_8_7 rfl (lv_at hl 0 rfl) ?_
  refine q_join (X := Unit) (fun z H locs ls _ => q_Wd D g (va_A ws sz) s ws H locs ∧ lv_has ls 3 [(2, .int lx10), (0, .ref (q 36)), (1, .int x2)]) (fun z => []) 28 0 0 ?_ ?_
  ·
    rintro _ H locs ls _ ⟨V, hl⟩
    replace hl : lv_has ls 3 [(2, .int lx10), (0, .ref (q 36)), (1, .int x2)] := hl
    refine lv_iload_n hx hb d_5_8_28 rfl (lv_at hl 0 rfl) ?_
    refine lv_if_lt (tgt := 51) hx hb d_5_8_29 (by decide) (fun c16 => ?_) (fun c16 => ?_)
    ·
      have b17 : q_F (lx10.toInt < 0) := (q_ltI c16)
      refine lv_aload_n hx hb d_5_8_51 rfl (lv_at hl 1 rfl) ?_
      refine lv_dup hx hb d_5_8_52 rfl ?_
      refine q_get (ci := 7) (j := 1) (v := .int t0_1) C0 V i_Dig rfl rfl hT0 (by decide) w_266 rfl d_5_8_53 ?_
      refine lv_iload_n hx hb d_5_8_56 rfl (lv_at hl 2 rfl) ?_
      refine lv_if_le (tgt := 64) hx hb d_5_8_57 (by decide) (fun c18 => absurd (show x2.toInt ≤ 0 from q_leI c18) (by have t1 : 1 ≤ x2.toInt := pre0; omega)) (fun c18 => ?_)
      refine lv_iconst (v := 1) hx hb d_5_8_60 (by decide) ?_
      refine lv_goto (tgt := 67) hx hb d_5_8_61 (by decide) ?_
      refine lv_iadd hx hb d_5_8_67 ?_
      obtain ⟨a19, e20⟩ := q_nm (t0_1 + 1 : Int32)
      refine q_ti (v := a19) e20 ?_
      have b21 : q_F (a19.toInt = t0_1.toInt + 1) := (by rw [← e20]; show (t0_1 + 1 : Int32).toInt = t0_1.toInt + 1; exact q_addI (x := t0_1.toInt) (y := 1) rfl (by decide) (by have t1 : -1000000 ≤ t0_1.toInt ∧ t0_1.toInt ≤ 1000000 := btt0_1; omega) (by have t1 : -1000000 ≤ t0_1.toInt ∧ t0_1.toInt ≤ 1000000 := btt0_1; omega))
      refine q_put (ci := 7) (j := 1) (v := .int a19) (ty := .int) C0 V i_Dig o_Dig n_Dig rfl rfl hT0 (by decide) w_266 rfl rfl rfl rfl (Nat.le_of_ble_eq_true rfl) d_5_8_68 (fun H locs w22 hu23 hT0 V => ?_)
      replace hT0 : w22[36]? = (some (q 36, .inr (7, [.int t0_0, .int a19, .ref (q 37)])) : Option (Nat × va_E)) := hT0
      replace hI := n_p36 hI hu23 hT0 ⟨(by have t1 : 0 ≤ t0_0.toInt ∧ t0_0.toInt ≤ 1026 := btt0_0; omega), (by have t1 : 0 ≤ t0_0.toInt ∧ t0_0.toInt ≤ 1026 := btt0_0; omega)⟩ ⟨(by have t1 : -1000000 ≤ t0_1.toInt ∧ t0_1.toInt ≤ 1000000 := btt0_1; have t2 : a19.toInt = t0_1.toInt + 1 := b21; omega), (by have t1 : t0_1.toInt ≤ 200000 := pre2; have t2 : a19.toInt = t0_1.toInt + 1 := b21; omega)⟩
      replace hF := q_us hF hu23 (by simp)
      refine lv_aload_n hx hb d_5_8_71 rfl (lv_at hl 1 rfl) ?_
      refine q_get (ci := 7) (j := 2) (v := .ref (q 37)) C0 V i_Dig rfl rfl hT0 (by decide) w_269 rfl d_5_8_72 ?_
      refine lv_iconst (v := 0) hx hb d_5_8_75 (by decide) ?_
      refine lv_iconst (v := 1) hx hb d_5_8_76 (by decide) ?_
      obtain ⟨f24, hA25, bf26⟩ := n_ai hI (n_s37 g q)
      refine q_bast C0 V hA25 (q_ix (x := 0) (by decide) (by omega) (by omega)) d_5_8_77 (fun H locs w27 hu28 hA25 V => ?_)
      replace hI := n_ai' hI (n_s37 g q) hu28 hA25 (q_updB bf26 s_bnd)
      replace hT0 := (hu28 _ (by decide)).trans hT0
      replace hF := q_us hF hu28 (by simp)
      refine lv_aload_n hx hb d_5_8_78 rfl (lv_at hl 1 rfl) ?_
      refine lv_iconst (v := 1) hx hb d_5_8_79 (by decide) ?_
      refine q_put (ci := 7) (j := 0) (v := .int 1) (ty := .int) C0 V i_Dig o_Dig n_Dig rfl rfl hT0 (by decide) w_264 rfl rfl rfl rfl (Nat.le_of_ble_eq_true rfl) d_5_8_80 (fun H locs w29 hu30 hT0 V => ?_)
      replace hT0 : w29[36]? = (some (q 36, .inr (7, [.int 1, .int a19, .ref (q 37)])) : Option (Nat × va_E)) := hT0
      replace hI := n_p36 hI hu30 hT0 ⟨(by have z9 : (1 : Int32).toInt = 1 := rfl; omega), (by have z9 : (1 : Int32).toInt = 1 := rfl; omega)⟩ ⟨(by have t1 : -1000000 ≤ t0_1.toInt ∧ t0_1.toInt ≤ 1000000 := btt0_1; have t2 : a19.toInt = t0_1.toInt + 1 := b21; omega), (by have t1 : t0_1.toInt ≤ 200000 := pre2; have t2 : a19.toInt = t0_1.toInt + 1 := b21; omega)⟩
      replace hF := q_us hF hu30 (by simp)
      exact q_retv C0 V (⟨hI, hF, 1, a19, hT0, (show 1 ≤ (1 : Int32).toInt from (by have z3 : (1 : Int32).toInt = 1 := rfl; omega)), (show (1 : Int32).toInt ≤ 1026 from (by have z3 : (1 : Int32).toInt = 1 := rfl; omega)), (show (1 : Int32).toInt ≤ t0_0.toInt + 1 from (by have z3 : (1 : Int32).toInt = 1 := rfl; have t1 : 0 ≤ t0_0.toInt ∧ t0_0.toInt ≤ 1026 := btt0_0; omega)), (show t0_1.toInt ≤ a19.toInt from (by have z3 : (1 : Int32).toInt = 1 := rfl; have t1 : a19.toInt = t0_1.toInt + 1 := b21; omega)), (show a19.toInt ≤ t0_1.toInt + 1 from (by have z3 : (1 : Int32).toInt = 1 := rfl; have t1 : a19.toInt = t0_1.toInt + 1 := b21; omega))⟩) d_5_8_83
    ·
      have b31 : q_F (0 ≤ lx10.toInt) := (q_nltI c16)
      refine lv_aload_n hx hb d_5_8_32 rfl (lv_at hl 1 rfl) ?_
      refine q_get (ci := 7) (j := 2) (v := .ref (q 37)) C0 V i_Dig rfl rfl hT0 (by decide) w_269 rfl d_5_8_33 ?_
      refine lv_iload_n hx hb d_5_8_36 rfl (lv_at hl 0 rfl) ?_
      refine lv_dup2_11 hx hb d_5_8_37 rfl rfl ?_
      obtain ⟨f32, hA33, bf34⟩ := n_ai hI (n_s37 g q)
      refine q_bald C0 V hA33 (q_ix (x := lx10.toInt) rfl (by have t1 : 0 ≤ lx10.toInt := b31; omega) (by have t1 : 0 ≤ lx10.toInt := b31; have t2 : 0 ≤ t0_0.toInt ∧ t0_0.toInt ≤ 1026 := btt0_0; have t3 : lx10.toInt + 1 ≤ t0_0.toInt := i12; omega)) d_5_8_38 ?_
      obtain ⟨a35, e36⟩ := q_nm (f32 lx10.toNatClampNeg : Int32)
      refine q_ti (v := a35) e36 ?_
      refine lv_iconst (v := 1) hx hb d_5_8_39 (by decide) ?_
      refine lv_iadd hx hb d_5_8_40 ?_
      obtain ⟨a37, e38⟩ := q_nm (a35 + 1 : Int32)
      refine q_ti (v := a37) e38 ?_
      refine lv_i2b hx hb d_5_8_41 rfl ?_
      obtain ⟨a39, e40⟩ := q_nm (a37.toInt8.toInt32 : Int32)
      refine q_ti (v := a39) e40 ?_
      refine q_bast C0 V hA33 (q_ix (x := lx10.toInt) rfl (by have t1 : 0 ≤ lx10.toInt := b31; omega) (by have t1 : 0 ≤ lx10.toInt := b31; have t2 : 0 ≤ t0_0.toInt ∧ t0_0.toInt ≤ 1026 := btt0_0; have t3 : lx10.toInt + 1 ≤ t0_0.toInt := i12; omega)) d_5_8_42 (fun H locs w41 hu42 hA33 V => ?_)
      replace hI := n_ai' hI (n_s37 g q) hu42 hA33 (q_updB bf34 s_bnd)
      replace hT0 := (hu42 _ (by decide)).trans hT0
      replace hF := q_us hF hu42 (by simp)
      refine lv_aload_n hx hb d_5_8_43 rfl (lv_at hl 1 rfl) ?_
      refine lv_iload_n hx hb d_5_8_44 rfl (lv_at hl 0 rfl) ?_
      refine lv_iconst (v := 1) hx hb d_5_8_45 (by decide) ?_
      refine lv_iadd hx hb d_5_8_46 ?_
      obtain ⟨a43, e44⟩ := q_nm (lx10 + 1 : Int32)
      refine q_ti (v := a43) e44 ?_
      have b45 : q_F (a43.toInt = lx10.toInt + 1) := (by rw [← e44]; show (lx10 + 1 : Int32).toInt = lx10.toInt + 1; exact q_addI (x := lx10.toInt) (y := 1) rfl (by decide) (by have t1 : 0 ≤ lx10.toInt + 1 := i11; have t2 : lx10.toInt + 1 ≤ t0_0.toInt := i12; have _ := q_lo32 (x := t0_0); have _ := q_hi32 (x := t0_0); omega) (by have t1 : 0 ≤ lx10.toInt + 1 := i11; have t2 : lx10.toInt + 1 ≤ t0_0.toInt := i12; have _ := q_lo32 (x := t0_0); have _ := q_hi32 (x := t0_0); omega))
      refine q_put (ci := 7) (j := 0) (v := .int a43) (ty := .int) C0 V i_Dig o_Dig n_Dig rfl rfl hT0 (by decide) w_264 rfl rfl rfl rfl (Nat.le_of_ble_eq_true rfl) d_5_8_47 (fun H locs w46 hu47 hT0 V => ?_)
      replace hT0 : w46[36]? = (some (q 36, .inr (7, [.int a43, .int t0_1, .ref (q 37)])) : Option (Nat × va_E)) := hT0
      replace hI := n_p36 hI hu47 hT0 ⟨(by have t1 : 0 ≤ lx10.toInt + 1 := i11; have t2 : a43.toInt = lx10.toInt + 1 := b45; omega), (by have t1 : 0 ≤ t0_0.toInt ∧ t0_0.toInt ≤ 1026 := btt0_0; have t2 : lx10.toInt + 1 ≤ t0_0.toInt := i12; have t3 : a43.toInt = lx10.toInt + 1 := b45; omega)⟩ ⟨(by have t1 : -1000000 ≤ t0_1.toInt ∧ t0_1.toInt ≤ 1000000 := btt0_1; omega), (by have t1 : -1000000 ≤ t0_1.toInt ∧ t0_1.toInt ≤ 1000000 := btt0_1; omega)⟩
      replace hF := q_us hF hu47 (by simp)
      exact q_retv C0 V (⟨hI, hF, a43, t0_1, hT0, (show 1 ≤ a43.toInt from (by have t1 : 0 ≤ lx10.toInt := b31; have t2 : a43.toInt = lx10.toInt + 1 := b45; omega)), (show a43.toInt ≤ 1026 from (by have t1 : 0 ≤ t0_0.toInt ∧ t0_0.toInt ≤ 1026 := btt0_0; have t2 : lx10.toInt + 1 ≤ t0_0.toInt := i12; have t3 : a43.toInt = lx10.toInt + 1 := b45; omega)), (show a43.toInt ≤ t0_0.toInt + 1 from (by have t1 : lx10.toInt + 1 ≤ t0_0.toInt := i12; have t2 : a43.toInt = lx10.toInt + 1 := b45; omega)), (show t0_1.toInt ≤ t0_1.toInt from (by omega)), (show t0_1.toInt ≤ t0_1.toInt + 1 from (by omega))⟩) d_5_8_50
  ·
    intro J15
    refine lv_if_lt (tgt := 28) hx hb d_5_8_8 (by decide) (fun c48 => ?_) (fun c48 => ?_)
    ·
      have b49 : q_F (lx10.toInt < 0) := (q_ltI c48)
      exact J15 (()) _ _ _ ws ⟨V, q_lw hl (q_lw1 0 rfl (q_lw1 1 rfl (q_lw1 2 rfl q_lw0)))⟩
    ·
      have b50 : q_F (0 ≤ lx10.toInt) := (q_nltI c48)
      refine lv_aload_n hx hb d_5_8_11 rfl (lv_at hl 1 rfl) ?_
      refine q_get (ci := 7) (j := 2) (v := .ref (q 37)) C0 V i_Dig rfl rfl hT0 (by decide) w_269 rfl d_5_8_12 ?_
      refine lv_iload_n hx hb d_5_8_15 rfl (lv_at hl 0 rfl) ?_
      obtain ⟨f51, hA52, bf53⟩ := n_ai hI (n_s37 g q)
      refine q_bald C0 V hA52 (q_ix (x := lx10.toInt) rfl (by have t1 : 0 ≤ lx10.toInt := b50; omega) (by have t1 : 0 ≤ lx10.toInt := b50; have t2 : 0 ≤ t0_0.toInt ∧ t0_0.toInt ≤ 1026 := btt0_0; have t3 : lx10.toInt + 1 ≤ t0_0.toInt := i12; omega)) d_5_8_16 ?_
      obtain ⟨a54, e55⟩ := q_nm (f51 lx10.toNatClampNeg : Int32)
      refine q_ti (v := a54) e55 ?_
      refine lv_bipush (v := 9) hx hb d_5_8_17 (by decide) ?_
      refine lv_icmp_ne (tgt := 28) hx hb d_5_8_19 (by decide) (fun c56 => ?_) (fun c56 => ?_)
      ·
        have b57 : q_F (a54.toInt ≠ 9) := (q_neI c56)
        exact J15 (()) _ _ _ ws ⟨V, q_lw hl (q_lw1 0 rfl (q_lw1 1 rfl (q_lw1 2 rfl q_lw0)))⟩
      ·
        have b58 : q_F (a54.toInt = 9) := (q_eqI c56)
        obtain ⟨a59, e60⟩ := q_nm (lx10 + (-1) : Int32)
        have b61 : q_F (a59.toInt = lx10.toInt + (-1)) := (by rw [← e60]; exact q_addI (y := (-1)) rfl (by decide) (by have t1 : 0 ≤ lx10.toInt + 1 := i11; have _ := q_lo32 (x := lx10); have _ := q_hi32 (x := lx10); omega) (by have t1 : 0 ≤ lx10.toInt + 1 := i11; have _ := q_lo32 (x := lx10); have _ := q_hi32 (x := lx10); omega))
        refine lv_iinc (v := a59) (lv' := [(2, .int a59), (0, .ref (q 36)), (1, .int x2)]) hx hb d_5_8_22 hl (k := 0) rfl (e60) (by decide) rfl (fun ls hl => ?_)
        refine lv_goto (tgt := 7) hx hb d_5_8_25 (by decide) ?_
        exact ih13 ((a59 : Int32)) _ _ _ ws (show (a59.toInt - ((-1000000))).toNat < (lx10.toInt - ((-1000000))).toNat from by have t1 : a59.toInt = lx10.toInt + (-1) := b61; have t2 : 0 ≤ lx10.toInt + 1 := i11; omega) ⟨(show q_F (0 ≤ a59.toInt + 1) from (show 0 ≤ a59.toInt + 1 from by have t1 : 0 ≤ lx10.toInt := b50; have t2 : a59.toInt = lx10.toInt + (-1) := b61; omega)), (show q_F (a59.toInt + 1 ≤ t0_0.toInt) from (show a59.toInt + 1 ≤ t0_0.toInt from by have t1 : lx10.toInt + 1 ≤ t0_0.toInt := i12; have t2 : a59.toInt = lx10.toInt + (-1) := b61; omega)), V, q_lw hl (q_lw1 0 rfl (q_lw1 1 rfl (q_lw1 2 rfl q_lw0)))⟩
set_option maxRecDepth 100000 in
set_option maxHeartbeats 4000000 in
theorem T_Dig_round_1 (l : Launch) (D : va_G) (g : Nat → ClassId) (q : Nat → Nat) (ws : va_W) (x2 : Int32) (x3 : Int32) (hI : q_I (nsh g q) q ws) (t0_0 : Int32) (t0_1 : Int32) (hT0 : ws[36]? = (some (q 36, .inr (7, [.int t0_0, .int t0_1, .ref (q 37)])) : Option (Nat × va_E))) (pre0 : 1 ≤ x2.toInt) (pre1 : 0 ≤ t0_1.toInt + 200000) (pre2 : t0_1.toInt ≤ 200000) : q_mV l y_Dig_round prog_5_method_6_code 4 3 0 0 D g [.ref (q 36), .int x2, .int x3] ws (fun u => q_I (nsh g q) q u ∧ q_un ws u [36, 37] ∧ ∃ (u0_0 : Int32) (u0_1 : Int32), u[36]? = (some (q 36, .inr (7, [.int u0_0, .int u0_1, .ref (q 37)])) : Option (Nat × va_E)) ∧ (0 ≤ u0_0.toInt) ∧ (u0_0.toInt ≤ x2.toInt + 1) ∧ (t0_0.toInt ≤ u0_0.toInt + 1025) ∧ (u0_0.toInt ≤ t0_0.toInt) ∧ (t0_1.toInt ≤ u0_1.toInt) ∧ (u0_1.toInt ≤ t0_1.toInt + 1) ∧ (u0_1.toInt ≤ u0_0.toInt + 200000)) := by
  intro sz
  refine q_into (by decide) (Nat.le_of_ble_eq_true rfl) ?_
  intro p e s m below meth c ls hsz C0 V hl
  have hx := C0.1
  have hb := C0.2.1
  obtain ⟨yy0_0, yy0_1, hh0, btt0_0, btt0_1⟩ := n_o36 hI
  obtain ⟨rfl, rfl⟩ : t0_0 = yy0_0 ∧ t0_1 = yy0_1 := by have z := Option.some.inj (hT0.symm.trans hh0); simpa using z
  replace btt0_0 : q_F (0 ≤ t0_0.toInt ∧ t0_0.toInt ≤ 1026) := btt0_0
  replace btt0_1 : q_F (-1000000 ≤ t0_1.toInt ∧ t0_1.toInt ≤ 1000000) := btt0_1
  replace pre0 : q_F (1 ≤ x2.toInt) := pre0
  replace pre1 : q_F (0 ≤ t0_1.toInt + 200000) := pre1
  replace pre2 : q_F (t0_1.toInt ≤ 200000) := pre2
  have hF : q_un ws ws [36, 37] := q_u0
  have hl : lv_has ls 4 [(0, .ref (q 36)), (1, .int x2), (2, .int x3)] := hl
  refine lv_iload_n hx hb d_5_6_0 rfl (lv_at hl 1 rfl) ?_
  refine lv_aload_n hx hb d_5_6_1 rfl (lv_at hl 0 rfl) ?_
  refine q_get (ci := 7) (j := 0) (v := .int t0_0) C0 V i_Dig rfl rfl hT0 (by decide) w_264 rfl d_5_6_2 ?_
  refine lv_icmp_lt (tgt := 9) hx hb d_5_6_5 (by decide) (fun c6 => ?_) (fun c6 => ?_)
  ·
    have b7 : q_F (x2.toInt < t0_0.toInt) := (q_ltI c6)
    refine lv_aload_n hx hb d_5_6_9 rfl (lv_at hl 0 rfl) ?_
    refine lv_iload_n hx hb d_5_6_10 rfl (lv_at hl 1 rfl) ?_
    refine lv_iload_n hx hb d_5_6_11 rfl (lv_at hl 2 rfl) ?_
    refine q_goi V (q_runV (As := [.int x2, .int x3]) (rest := []) (d := 2) (mc := 0) (ms := 0) (ci := 7) C0 V rfl LV_Dig_36 (T_Dig_goesOutwards l D g q ws  x2 x3 hI   _) rfl rfl hT0 rfl hl.1 rfl (Nat.le_of_ble_eq_true rfl) ⟨by decide, by decide⟩ ⟨Nat.le_of_ble_eq_true rfl, Nat.le_of_ble_eq_true rfl⟩ d_5_6_12) (fun a10 u8 H locs hp9 V => ?_)
    obtain ⟨rfl, b11, b12⟩ := hp9
    replace b11 : q_F (0 ≤ a10.toInt) := b11
    replace b12 : q_F (a10.toInt ≤ 1) := b12
    refine lv_istore_n (lv' := [(3, .int a10), (0, .ref (q 36)), (1, .int x2), (2, .int x3)]) hx hb d_5_6_15 rfl hl (by decide) rfl (fun ls hl => ?_)
    refine lv_aload_n hx hb d_5_6_16 rfl (lv_at hl 1 rfl) ?_
    refine lv_iload_n hx hb d_5_6_17 rfl (lv_at hl 2 rfl) ?_
    refine lv_iconst (v := 0) hx hb d_5_6_18 (by decide) ?_
    refine q_max C0 hl.1 rfl w_1571 w_803 w_7 w_804 ⟨Nat.le_of_ble_eq_true rfl, Nat.le_of_ble_eq_true rfl⟩ ⟨Nat.le_of_ble_eq_true rfl, Nat.le_of_ble_eq_true rfl⟩ d_5_6_19 ?_
    obtain ⟨a14, e15⟩ := q_nm (if x2 < 0 then 0 else x2 : Int32)
    refine q_ti (v := a14) e15 ?_
    have b16 : q_F (x2.toInt ≤ a14.toInt ∧ 0 ≤ a14.toInt ∧ (a14.toInt = x2.toInt ∨ a14.toInt = 0)) := (by rw [← e15]; show x2.toInt ≤ (if x2 < 0 then 0 else x2 : Int32).toInt ∧ 0 ≤ (if x2 < 0 then 0 else x2 : Int32).toInt ∧ ((if x2 < 0 then 0 else x2 : Int32).toInt = x2.toInt ∨ (if x2 < 0 then 0 else x2 : Int32).toInt = 0); exact (by have y1 : (0 : Int32).toInt = 0 := rfl; have z := s_max (a := x2) (b := 0); omega))
    refine q_put (ci := 7) (j := 0) (v := .int a14) (ty := .int) C0 V i_Dig o_Dig n_Dig rfl rfl hT0 (by decide) w_264 rfl rfl rfl rfl (Nat.le_of_ble_eq_true rfl) d_5_6_22 (fun H locs w17 hu18 hT0 V => ?_)
    replace hT0 : w17[36]? = (some (q 36, .inr (7, [.int a14, .int t0_1, .ref (q 37)])) : Option (Nat × va_E)) := hT0
    replace hI := n_p36 hI hu18 hT0 ⟨(by have t1 : x2.toInt ≤ a14.toInt ∧ 0 ≤ a14.toInt ∧ (a14.toInt = x2.toInt ∨ a14.toInt = 0) := b16; omega), (by have t1 : 0 ≤ t0_0.toInt ∧ t0_0.toInt ≤ 1026 := btt0_0; have t2 : x2.toInt < t0_0.toInt := b7; have t3 : x2.toInt ≤ a14.toInt ∧ 0 ≤ a14.toInt ∧ (a14.toInt = x2.toInt ∨ a14.toInt = 0) := b16; omega)⟩ ⟨(by have t1 : -1000000 ≤ t0_1.toInt ∧ t0_1.toInt ≤ 1000000 := btt0_1; omega), (by have t1 : -1000000 ≤ t0_1.toInt ∧ t0_1.toInt ≤ 1000000 := btt0_1; omega)⟩
    replace hF := q_us hF hu18 (by simp)
    refine lv_iload_n hx hb d_5_6_25 rfl (lv_at hl 0 rfl) ?_
    refine lv_if_eq (tgt := 34) hx hb d_5_6_26 (by decide) (fun c19 => ?_) (fun c19 => ?_)
    ·
      have b20 : q_F (a10.toInt = 0) := (q_eqI c19)
      refine lv_aload_n hx hb d_5_6_34 rfl (lv_at hl 1 rfl) ?_
      refine q_get (ci := 7) (j := 0) (v := .int a14) C0 V i_Dig rfl rfl hT0 (by decide) w_264 rfl d_5_6_35 ?_
      refine lv_if_ne (tgt := 46) hx hb d_5_6_38 (by decide) (fun c21 => ?_) (fun c21 => absurd (show a14.toInt = 0 from q_eqI c21) (by have t1 : 1 ≤ x2.toInt := pre0; have t2 : x2.toInt ≤ a14.toInt ∧ 0 ≤ a14.toInt ∧ (a14.toInt = x2.toInt ∨ a14.toInt = 0) := b16; omega))
      exact q_retv C0 V (⟨hI, hF, a14, t0_1, hT0, (show 0 ≤ a14.toInt from (by have t1 : x2.toInt ≤ a14.toInt ∧ 0 ≤ a14.toInt ∧ (a14.toInt = x2.toInt ∨ a14.toInt = 0) := b16; omega)), (show a14.toInt ≤ x2.toInt + 1 from (by have t1 : 1 ≤ x2.toInt := pre0; have t2 : x2.toInt ≤ a14.toInt ∧ 0 ≤ a14.toInt ∧ (a14.toInt = x2.toInt ∨ a14.toInt = 0) := b16; omega)), (show t0_0.toInt ≤ a14.toInt + 1025 from (by have t1 : 0 ≤ t0_0.toInt ∧ t0_0.toInt ≤ 1026 := btt0_0; have t2 : 1 ≤ x2.toInt := pre0; have t3 : x2.toInt ≤ a14.toInt ∧ 0 ≤ a14.toInt ∧ (a14.toInt = x2.toInt ∨ a14.toInt = 0) := b16; omega)), (show a14.toInt ≤ t0_0.toInt from (by have t1 : 0 ≤ t0_0.toInt ∧ t0_0.toInt ≤ 1026 := btt0_0; have t2 : x2.toInt < t0_0.toInt := b7; have t3 : x2.toInt ≤ a14.toInt ∧ 0 ≤ a14.toInt ∧ (a14.toInt = x2.toInt ∨ a14.toInt = 0) := b16; omega)), (show t0_1.toInt ≤ t0_1.toInt from (by omega)), (show t0_1.toInt ≤ t0_1.toInt + 1 from (by omega)), (show t0_1.toInt ≤ a14.toInt + 200000 from (by have t1 : t0_1.toInt ≤ 200000 := pre2; have t2 : x2.toInt ≤ a14.toInt ∧ 0 ≤ a14.toInt ∧ (a14.toInt = x2.toInt ∨ a14.toInt = 0) := b16; omega))⟩) d_5_6_46
    ·
      have b22 : q_F (a10.toInt ≠ 0) := (q_neI c19)
      refine lv_aload_n hx hb d_5_6_29 rfl (lv_at hl 1 rfl) ?_
      refine lv_iload_n hx hb d_5_6_30 rfl (lv_at hl 2 rfl) ?_
      refine q_gov V (q_runV (As := [.int x2]) (rest := []) (d := 1) (mc := 0) (ms := 0) (ci := 7) C0 V rfl LV_Dig_46 (T_Dig_stepOutwards_1 l D g q w17  x2 hI a14 t0_1 hT0 (by have t1 : 1 ≤ x2.toInt := pre0; omega) (by have t1 : 0 ≤ t0_1.toInt + 200000 := pre1; omega) (by have t1 : t0_1.toInt ≤ 200000 := pre2; omega) _) rfl rfl hT0 rfl hl.1 rfl (Nat.le_of_ble_eq_true rfl) ⟨by decide, by decide⟩ ⟨Nat.le_of_ble_eq_true rfl, Nat.le_of_ble_eq_true rfl⟩ d_5_6_31) (fun u23 H locs hp24 V => ?_)
      obtain ⟨hI, hu34, y26, y27, hO25, b28, b29, b30, b31, b32⟩ := hp24
      replace hO25 : u23[36]? = (some (q 36, .inr (7, [.int y26, .int y27, .ref (q 37)])) : Option (Nat × va_E)) := hO25
      replace b28 : q_F (1 ≤ y26.toInt) := b28
      replace b29 : q_F (y26.toInt ≤ 1026) := b29
      replace b30 : q_F (y26.toInt ≤ a14.toInt + 1) := b30
      replace b31 : q_F (t0_1.toInt ≤ y27.toInt) := b31
      replace b32 : q_F (y27.toInt ≤ t0_1.toInt + 1) := b32
      replace hF := q_uc hF hu34 (by simp)
      refine lv_aload_n hx hb d_5_6_34 rfl (lv_at hl 1 rfl) ?_
      refine q_get (ci := 7) (j := 0) (v := .int y26) C0 V i_Dig rfl rfl hO25 (by decide) w_264 rfl d_5_6_35 ?_
      refine lv_if_ne (tgt := 46) hx hb d_5_6_38 (by decide) (fun c35 => ?_) (fun c35 => absurd (show y26.toInt = 0 from q_eqI c35) (by have t1 : 1 ≤ y26.toInt := b28; omega))
      exact q_retv C0 V (⟨hI, hF, y26, y27, hO25, (show 0 ≤ y26.toInt from (by have t1 : 1 ≤ y26.toInt := b28; omega)), (show y26.toInt ≤ x2.toInt + 1 from (by have t1 : 1 ≤ x2.toInt := pre0; have t2 : x2.toInt ≤ a14.toInt ∧ 0 ≤ a14.toInt ∧ (a14.toInt = x2.toInt ∨ a14.toInt = 0) := b16; have t3 : y26.toInt ≤ a14.toInt + 1 := b30; omega)), (show t0_0.toInt ≤ y26.toInt + 1025 from (by have t1 : 0 ≤ t0_0.toInt ∧ t0_0.toInt ≤ 1026 := btt0_0; have t2 : 1 ≤ y26.toInt := b28; omega)), (show y26.toInt ≤ t0_0.toInt from (by have t1 : 1 ≤ x2.toInt := pre0; have t2 : x2.toInt < t0_0.toInt := b7; have t3 : x2.toInt ≤ a14.toInt ∧ 0 ≤ a14.toInt ∧ (a14.toInt = x2.toInt ∨ a14.toInt = 0) := b16; have t4 : y26.toInt ≤ a14.toInt + 1 := b30; omega)), (show t0_1.toInt ≤ y27.toInt from (by have t1 : t0_1.toInt ≤ y27.toInt := b31; omega)), (show y27.toInt ≤ t0_1.toInt + 1 from (by have t1 : y27.toInt ≤ t0_1.toInt + 1 := b32; omega)), (show y27.toInt ≤ y26.toInt + 200000 from (by have t1 : t0_1.toInt ≤ 200000 := pre2; have t2 : 1 ≤ y26.toInt := b28; have t3 : y27.toInt ≤ t0_1.toInt + 1 := b32; omega))⟩) d_5_6_46
  ·
    have b36 : q_F (t0_0.toInt ≤ x2.toInt) := (q_nltI c6)
    exact q_retv C0 V (⟨hI, hF, t0_0, t0_1, hT0, (show 0 ≤ t0_0.toInt from (by have t1 : 0 ≤ t0_0.toInt ∧ t0_0.toInt ≤ 1026 := btt0_0; omega)), (show t0_0.toInt ≤ x2.toInt + 1 from (by have t1 : t0_0.toInt ≤ x2.toInt := b36; omega)), (show t0_0.toInt ≤ t0_0.toInt + 1025 from (by omega)), (show t0_0.toInt ≤ t0_0.toInt from (by omega)), (show t0_1.toInt ≤ t0_1.toInt from (by omega)), (show t0_1.toInt ≤ t0_1.toInt + 1 from (by omega)), (show t0_1.toInt ≤ t0_0.toInt + 200000 from (by have t1 : 0 ≤ t0_0.toInt ∧ t0_0.toInt ≤ 1026 := btt0_0; have t2 : t0_1.toInt ≤ 200000 := pre2; omega))⟩) d_5_6_8
theorem d_9_14_0 : decode prog_9_method_14_code 0 = .ok (.aload_n 0, 1) := by decide +kernel
theorem d_9_14_1 : decode prog_9_method_14_code 1 = .ok (.getfield 47, 3) := by decide +kernel
theorem d_9_14_4 : decode prog_9_method_14_code 4 = .ok (.invokevirtual 222, 3) := by decide +kernel
set_option maxRecDepth 100000 in
theorem w_1889 : (Cond.code ({ cls := "NumberHouse$Directive", name := "isLarge", desc := "()Z" } : MethodName) prog_6_method_10_code (1 : Nat) (some .boolean)) ∈ q_tbl := q_of8 209 rfl (by decide +kernel)
set_option maxRecDepth 100000 in
theorem w_1886 : (Cond.methodLink "NumberHouse$Printer" (222 : Nat) ({ cls := "NumberHouse$Directive", name := "isLarge", desc := "()Z" } : MethodName)) ∈ q_tbl := q_of8 206 rfl (by decide +kernel)
set_option maxRecDepth 100000 in
theorem w_1887 : (Cond.instanceMethod ({ cls := "NumberHouse$Directive", name := "isLarge", desc := "()Z" } : MethodName)) ∈ q_tbl := q_of8 207 rfl (by decide +kernel)
set_option maxRecDepth 100000 in
theorem w_1888 : (Cond.selects "NumberHouse$Directive" ({ cls := "NumberHouse$Directive", name := "isLarge", desc := "()Z" } : MethodName) ({ cls := "NumberHouse$Directive", name := "isLarge", desc := "()Z" } : MethodName)) ∈ q_tbl := q_of8 208 rfl (by decide +kernel)
theorem LV_Pri_222 : q_LV "NumberHouse$Printer" 222 y_Dir_isLarge prog_6_method_10_code 1 (some .boolean) 0 := ⟨w_1889, w_13, w_1886, w_1887, w_1888, ⟨by decide, by decide, by decide +kernel⟩⟩
theorem d_9_14_30 : decode prog_9_method_14_code 30 = .ok (.istore_n 1, 1) := by decide +kernel
theorem d_9_14_31 : decode prog_9_method_14_code 31 = .ok (.aload_n 0, 1) := by decide +kernel
theorem d_9_14_32 : decode prog_9_method_14_code 32 = .ok (.getfield 47, 3) := by decide +kernel
theorem d_9_14_35 : decode prog_9_method_14_code 35 = .ok (.getfield 198, 3) := by decide +kernel
theorem d_9_14_38 : decode prog_9_method_14_code 38 = .ok (.iconst (-1), 1) := by decide +kernel
theorem d_9_14_54 : decode prog_9_method_14_code 54 = .ok (.istore_n 2, 1) := by decide +kernel
theorem d_9_14_55 : decode prog_9_method_14_code 55 = .ok (.iload_n 1, 1) := by decide +kernel
theorem d_9_14_56 : decode prog_9_method_14_code 56 = .ok (.bipush 100, 2) := by decide +kernel
theorem d_9_14_156 : decode prog_9_method_14_code 156 = .ok (.aload_n 0, 1) := by decide +kernel
theorem d_9_14_157 : decode prog_9_method_14_code 157 = .ok (.getfield 47, 3) := by decide +kernel
theorem d_9_14_160 : decode prog_9_method_14_code 160 = .ok (.iconst 2, 1) := by decide +kernel
theorem d_9_14_161 : decode prog_9_method_14_code 161 = .ok (.invokevirtual 144, 3) := by decide +kernel
theorem d_9_14_164 : decode prog_9_method_14_code 164 = .ok (.istore_n 3, 1) := by decide +kernel
theorem d_9_14_165 : decode prog_9_method_14_code 165 = .ok (.iload_n 1, 1) := by decide +kernel
theorem d_9_14_166 : decode prog_9_method_14_code 166 = .ok (.bipush 102, 2) := by decide +kernel
theorem d_9_14_168 : decode prog_9_method_14_code 168 = .ok (.if_icmp .ne 47, 3) := by decide +kernel
theorem d_9_14_215 : decode prog_9_method_14_code 215 = .ok (.aload_n 0, 1) := by decide +kernel
theorem d_9_14_216 : decode prog_9_method_14_code 216 = .ok (.getfield 38, 3) := by decide +kernel
theorem d_9_14_219 : decode prog_9_method_14_code 219 = .ok (.iload_n 2, 1) := by decide +kernel
theorem d_9_14_220 : decode prog_9_method_14_code 220 = .ok (.iconst 1, 1) := by decide +kernel
theorem d_9_14_221 : decode prog_9_method_14_code 221 = .ok (.iadd, 1) := by decide +kernel
theorem d_9_14_222 : decode prog_9_method_14_code 222 = .ok (.iconst 2, 1) := by decide +kernel
theorem d_9_14_223 : decode prog_9_method_14_code 223 = .ok (.invokevirtual 225, 3) := by decide +kernel
set_option maxRecDepth 100000 in
theorem w_1655 : (Cond.code ({ cls := "NumberHouse$Digits", name := "round", desc := "(II)V" } : MethodName) prog_5_method_6_code (4 : Nat) (none : Option ClassFile.FieldType)) ∈ q_tbl := q_of7 215 rfl (by decide +kernel)
set_option maxRecDepth 100000 in
theorem w_1891 : (Cond.methodLink "NumberHouse$Printer" (225 : Nat) ({ cls := "NumberHouse$Digits", name := "round", desc := "(II)V" } : MethodName)) ∈ q_tbl := q_of8 211 rfl (by decide +kernel)
set_option maxRecDepth 100000 in
theorem w_1653 : (Cond.instanceMethod ({ cls := "NumberHouse$Digits", name := "round", desc := "(II)V" } : MethodName)) ∈ q_tbl := q_of7 213 rfl (by decide +kernel)
set_option maxRecDepth 100000 in
theorem w_1654 : (Cond.selects "NumberHouse$Digits" ({ cls := "NumberHouse$Digits", name := "round", desc := "(II)V" } : MethodName) ({ cls := "NumberHouse$Digits", name := "round", desc := "(II)V" } : MethodName)) ∈ q_tbl := q_of7 214 rfl (by decide +kernel)
theorem LV_Pri_225 : q_LV "NumberHouse$Printer" 225 y_Dig_round prog_5_method_6_code 4 none 2 := ⟨w_1655, w_9, w_1891, w_1653, w_1654, ⟨by decide, by decide, by decide +kernel⟩⟩
theorem d_9_14_226 : decode prog_9_method_14_code 226 = .ok (.aload_n 0, 1) := by decide +kernel
theorem d_9_14_227 : decode prog_9_method_14_code 227 = .ok (.getfield 38, 3) := by decide +kernel
theorem d_9_14_230 : decode prog_9_method_14_code 230 = .ok (.aload_n 0, 1) := by decide +kernel
theorem d_9_14_231 : decode prog_9_method_14_code 231 = .ok (.getfield 31, 3) := by decide +kernel
theorem d_9_14_234 : decode prog_9_method_14_code 234 = .ok (.iload_n 2, 1) := by decide +kernel
theorem d_9_14_235 : decode prog_9_method_14_code 235 = .ok (.iconst 1, 1) := by decide +kernel
theorem d_9_14_236 : decode prog_9_method_14_code 236 = .ok (.iadd, 1) := by decide +kernel
theorem d_9_14_237 : decode prog_9_method_14_code 237 = .ok (.iload_n 3, 1) := by decide +kernel
theorem d_9_14_238 : decode prog_9_method_14_code 238 = .ok (.invokevirtual 232, 3) := by decide +kernel
set_option maxRecDepth 100000 in
theorem w_1667 : (Cond.code ({ cls := "NumberHouse$Digits", name := "writeScience", desc := "(LNumberHouse$Sheet;IZ)V" } : MethodName) prog_5_method_10_code (4 : Nat) (none : Option ClassFile.FieldType)) ∈ q_tbl := q_of7 227 rfl (by decide +kernel)
set_option maxRecDepth 100000 in
theorem w_1892 : (Cond.methodLink "NumberHouse$Printer" (232 : Nat) ({ cls := "NumberHouse$Digits", name := "writeScience", desc := "(LNumberHouse$Sheet;IZ)V" } : MethodName)) ∈ q_tbl := q_of8 212 rfl (by decide +kernel)
set_option maxRecDepth 100000 in
theorem w_1665 : (Cond.instanceMethod ({ cls := "NumberHouse$Digits", name := "writeScience", desc := "(LNumberHouse$Sheet;IZ)V" } : MethodName)) ∈ q_tbl := q_of7 225 rfl (by decide +kernel)
set_option maxRecDepth 100000 in
theorem w_1666 : (Cond.selects "NumberHouse$Digits" ({ cls := "NumberHouse$Digits", name := "writeScience", desc := "(LNumberHouse$Sheet;IZ)V" } : MethodName) ({ cls := "NumberHouse$Digits", name := "writeScience", desc := "(LNumberHouse$Sheet;IZ)V" } : MethodName)) ∈ q_tbl := q_of7 226 rfl (by decide +kernel)
theorem LV_Pri_232 : q_LV "NumberHouse$Printer" 232 y_Dig_writeScience prog_5_method_10_code 4 none 3 := ⟨w_1667, w_9, w_1892, w_1665, w_1666, ⟨by decide, by decide, by decide +kernel⟩⟩
theorem d_9_14_241 : decode prog_9_method_14_code 241 = .ok (.return_, 1) := by decide +kernel
theorem d_9_14_171 : decode prog_9_method_14_code 171 = .ok (.aload_n 0, 1) := by decide +kernel
theorem d_9_14_172 : decode prog_9_method_14_code 172 = .ok (.getfield 38, 3) := by decide +kernel
theorem d_9_14_175 : decode prog_9_method_14_code 175 = .ok (.aload_n 0, 1) := by decide +kernel
theorem d_9_14_176 : decode prog_9_method_14_code 176 = .ok (.getfield 38, 3) := by decide +kernel
theorem d_9_14_179 : decode prog_9_method_14_code 179 = .ok (.getfield 229, 3) := by decide +kernel
set_option maxRecDepth 100000 in
theorem w_268 : (Cond.fieldLink "NumberHouse$Printer" (229 : Nat) "NumberHouse$Digits" "power" "I") ∈ q_tbl := q_of2 28 rfl (by decide +kernel)
theorem d_9_14_182 : decode prog_9_method_14_code 182 = .ok (.iconst 1, 1) := by decide +kernel
theorem d_9_14_183 : decode prog_9_method_14_code 183 = .ok (.iadd, 1) := by decide +kernel
theorem d_9_14_184 : decode prog_9_method_14_code 184 = .ok (.iload_n 2, 1) := by decide +kernel
theorem d_9_14_185 : decode prog_9_method_14_code 185 = .ok (.iadd, 1) := by decide +kernel
theorem d_9_14_186 : decode prog_9_method_14_code 186 = .ok (.iconst 2, 1) := by decide +kernel
theorem d_9_14_187 : decode prog_9_method_14_code 187 = .ok (.invokevirtual 225, 3) := by decide +kernel
theorem d_9_14_190 : decode prog_9_method_14_code 190 = .ok (.aload_n 0, 1) := by decide +kernel
theorem d_9_14_191 : decode prog_9_method_14_code 191 = .ok (.getfield 38, 3) := by decide +kernel
theorem d_9_14_194 : decode prog_9_method_14_code 194 = .ok (.aload_n 0, 1) := by decide +kernel
theorem d_9_14_195 : decode prog_9_method_14_code 195 = .ok (.getfield 31, 3) := by decide +kernel
theorem d_9_14_198 : decode prog_9_method_14_code 198 = .ok (.iload_n 2, 1) := by decide +kernel
theorem d_9_14_199 : decode prog_9_method_14_code 199 = .ok (.aload_n 0, 1) := by decide +kernel
theorem d_9_14_200 : decode prog_9_method_14_code 200 = .ok (.getfield 47, 3) := by decide +kernel
theorem d_9_14_203 : decode prog_9_method_14_code 203 = .ok (.bipush 16, 2) := by decide +kernel
theorem d_9_14_205 : decode prog_9_method_14_code 205 = .ok (.invokevirtual 144, 3) := by decide +kernel
theorem d_9_14_208 : decode prog_9_method_14_code 208 = .ok (.iload_n 3, 1) := by decide +kernel
theorem d_9_14_209 : decode prog_9_method_14_code 209 = .ok (.invokevirtual 204, 3) := by decide +kernel
set_option maxRecDepth 100000 in
theorem w_1570 : (Cond.code ({ cls := "NumberHouse$Digits", name := "writePlain", desc := "(LNumberHouse$Sheet;IZZ)V" } : MethodName) prog_5_method_9_code (6 : Nat) (none : Option ClassFile.FieldType)) ∈ q_tbl := q_of7 130 rfl (by decide +kernel)
set_option maxRecDepth 100000 in
theorem w_1868 : (Cond.methodLink "NumberHouse$Printer" (204 : Nat) ({ cls := "NumberHouse$Digits", name := "writePlain", desc := "(LNumberHouse$Sheet;IZZ)V" } : MethodName)) ∈ q_tbl := q_of8 188 rfl (by decide +kernel)
set_option maxRecDepth 100000 in
theorem w_1568 : (Cond.instanceMethod ({ cls := "NumberHouse$Digits", name := "writePlain", desc := "(LNumberHouse$Sheet;IZZ)V" } : MethodName)) ∈ q_tbl := q_of7 128 rfl (by decide +kernel)
set_option maxRecDepth 100000 in
theorem w_1569 : (Cond.selects "NumberHouse$Digits" ({ cls := "NumberHouse$Digits", name := "writePlain", desc := "(LNumberHouse$Sheet;IZZ)V" } : MethodName) ({ cls := "NumberHouse$Digits", name := "writePlain", desc := "(LNumberHouse$Sheet;IZZ)V" } : MethodName)) ∈ q_tbl := q_of7 129 rfl (by decide +kernel)
theorem LV_Pri_204 : q_LV "NumberHouse$Printer" 204 y_Dig_writePlain prog_5_method_9_code 6 none 4 := ⟨w_1570, w_9, w_1868, w_1568, w_1569, ⟨by decide, by decide, by decide +kernel⟩⟩
theorem d_9_14_212 : decode prog_9_method_14_code 212 = .ok (.goto 29, 3) := by decide +kernel
theorem d_9_14_58 : decode prog_9_method_14_code 58 = .ok (.if_icmp .ne 11, 3) := by decide +kernel
theorem d_9_14_69 : decode prog_9_method_14_code 69 = .ok (.iload_n 1, 1) := by decide +kernel
theorem d_9_14_70 : decode prog_9_method_14_code 70 = .ok (.bipush 103, 2) := by decide +kernel
theorem d_9_14_72 : decode prog_9_method_14_code 72 = .ok (.if_icmp .ne 84, 3) := by decide +kernel
theorem d_9_14_75 : decode prog_9_method_14_code 75 = .ok (.iload_n 2, 1) := by decide +kernel
theorem d_9_14_76 : decode prog_9_method_14_code 76 = .ok (.iconst 1, 1) := by decide +kernel
theorem d_9_14_77 : decode prog_9_method_14_code 77 = .ok (.invokestatic 119, 3) := by decide +kernel
set_option maxRecDepth 100000 in
theorem w_1890 : (Cond.methodLink "NumberHouse$Printer" (119 : Nat) ({ cls := "java/lang/Math", name := "max", desc := "(II)I" } : MethodName)) ∈ q_tbl := q_of8 210 rfl (by decide +kernel)
theorem d_9_14_80 : decode prog_9_method_14_code 80 = .ok (.istore_n 3, 1) := by decide +kernel
theorem d_9_14_81 : decode prog_9_method_14_code 81 = .ok (.aload_n 0, 1) := by decide +kernel
theorem d_9_14_82 : decode prog_9_method_14_code 82 = .ok (.getfield 38, 3) := by decide +kernel
theorem d_9_14_85 : decode prog_9_method_14_code 85 = .ok (.iload_n 3, 1) := by decide +kernel
theorem d_9_14_86 : decode prog_9_method_14_code 86 = .ok (.iconst 2, 1) := by decide +kernel
theorem d_9_14_87 : decode prog_9_method_14_code 87 = .ok (.invokevirtual 225, 3) := by decide +kernel
theorem d_9_14_90 : decode prog_9_method_14_code 90 = .ok (.aload_n 0, 1) := by decide +kernel
theorem d_9_14_91 : decode prog_9_method_14_code 91 = .ok (.getfield 38, 3) := by decide +kernel
theorem d_9_14_94 : decode prog_9_method_14_code 94 = .ok (.getfield 229, 3) := by decide +kernel
theorem d_9_14_97 : decode prog_9_method_14_code 97 = .ok (.bipush (-4), 2) := by decide +kernel
theorem d_9_14_117 : decode prog_9_method_14_code 117 = .ok (.iconst 0, 1) := by decide +kernel
theorem d_9_14_118 : decode prog_9_method_14_code 118 = .ok (.istore 4, 2) := by decide +kernel
theorem d_9_14_120 : decode prog_9_method_14_code 120 = .ok (.iload 4, 2) := by decide +kernel
theorem d_9_14_122 : decode prog_9_method_14_code 122 = .ok (.ifCond .eq 8, 3) := by decide +kernel
theorem d_9_14_130 : decode prog_9_method_14_code 130 = .ok (.bipush 101, 2) := by decide +kernel
theorem d_9_14_132 : decode prog_9_method_14_code 132 = .ok (.istore_n 1, 1) := by decide +kernel
theorem d_9_14_133 : decode prog_9_method_14_code 133 = .ok (.iload 4, 2) := by decide +kernel
theorem d_9_14_135 : decode prog_9_method_14_code 135 = .ok (.ifCond .eq 17, 3) := by decide +kernel
theorem d_9_14_152 : decode prog_9_method_14_code 152 = .ok (.iload_n 3, 1) := by decide +kernel
theorem d_9_14_153 : decode prog_9_method_14_code 153 = .ok (.iconst 1, 1) := by decide +kernel
theorem d_9_14_154 : decode prog_9_method_14_code 154 = .ok (.isub, 1) := by decide +kernel
theorem d_9_14_155 : decode prog_9_method_14_code 155 = .ok (.istore_n 2, 1) := by decide +kernel
theorem d_9_14_99 : decode prog_9_method_14_code 99 = .ok (.if_icmp .lt 18, 3) := by decide +kernel
theorem d_9_14_102 : decode prog_9_method_14_code 102 = .ok (.aload_n 0, 1) := by decide +kernel
theorem d_9_14_103 : decode prog_9_method_14_code 103 = .ok (.getfield 38, 3) := by decide +kernel
theorem d_9_14_106 : decode prog_9_method_14_code 106 = .ok (.getfield 229, 3) := by decide +kernel
theorem d_9_14_109 : decode prog_9_method_14_code 109 = .ok (.iload_n 3, 1) := by decide +kernel
theorem d_9_14_110 : decode prog_9_method_14_code 110 = .ok (.if_icmp .ge 7, 3) := by decide +kernel
theorem d_9_14_113 : decode prog_9_method_14_code 113 = .ok (.iconst 1, 1) := by decide +kernel
theorem d_9_14_114 : decode prog_9_method_14_code 114 = .ok (.goto 4, 3) := by decide +kernel
theorem d_9_14_125 : decode prog_9_method_14_code 125 = .ok (.bipush 102, 2) := by decide +kernel
theorem d_9_14_127 : decode prog_9_method_14_code 127 = .ok (.goto 5, 3) := by decide +kernel
theorem d_9_14_138 : decode prog_9_method_14_code 138 = .ok (.iload_n 3, 1) := by decide +kernel
theorem d_9_14_139 : decode prog_9_method_14_code 139 = .ok (.iconst 1, 1) := by decide +kernel
theorem d_9_14_140 : decode prog_9_method_14_code 140 = .ok (.isub, 1) := by decide +kernel
theorem d_9_14_141 : decode prog_9_method_14_code 141 = .ok (.aload_n 0, 1) := by decide +kernel
theorem d_9_14_142 : decode prog_9_method_14_code 142 = .ok (.getfield 38, 3) := by decide +kernel
theorem d_9_14_145 : decode prog_9_method_14_code 145 = .ok (.getfield 229, 3) := by decide +kernel
theorem d_9_14_148 : decode prog_9_method_14_code 148 = .ok (.isub, 1) := by decide +kernel
theorem d_9_14_149 : decode prog_9_method_14_code 149 = .ok (.goto 6, 3) := by decide +kernel
theorem d_9_14_61 : decode prog_9_method_14_code 61 = .ok (.bipush 102, 2) := by decide +kernel
theorem d_9_14_63 : decode prog_9_method_14_code 63 = .ok (.istore_n 1, 1) := by decide +kernel
theorem d_9_14_64 : decode prog_9_method_14_code 64 = .ok (.iconst 0, 1) := by decide +kernel
theorem d_9_14_65 : decode prog_9_method_14_code 65 = .ok (.istore_n 2, 1) := by decide +kernel
theorem d_9_14_66 : decode prog_9_method_14_code 66 = .ok (.goto 90, 3) := by decide +kernel
theorem d_9_14_39 : decode prog_9_method_14_code 39 = .ok (.if_icmp .ne 8, 3) := by decide +kernel
theorem d_9_14_47 : decode prog_9_method_14_code 47 = .ok (.aload_n 0, 1) := by decide +kernel
theorem d_9_14_48 : decode prog_9_method_14_code 48 = .ok (.getfield 47, 3) := by decide +kernel
theorem d_9_14_51 : decode prog_9_method_14_code 51 = .ok (.getfield 198, 3) := by decide +kernel
theorem d_9_14_42 : decode prog_9_method_14_code 42 = .ok (.bipush 6, 2) := by decide +kernel
theorem d_9_14_44 : decode prog_9_method_14_code 44 = .ok (.goto 10, 3) := by decide +kernel
theorem d_9_14_7 : decode prog_9_method_14_code 7 = .ok (.ifCond .eq 16, 3) := by decide +kernel
theorem d_9_14_23 : decode prog_9_method_14_code 23 = .ok (.aload_n 0, 1) := by decide +kernel
theorem d_9_14_24 : decode prog_9_method_14_code 24 = .ok (.getfield 47, 3) := by decide +kernel
theorem d_9_14_27 : decode prog_9_method_14_code 27 = .ok (.getfield 156, 3) := by decide +kernel
theorem d_9_14_10 : decode prog_9_method_14_code 10 = .ok (.aload_n 0, 1) := by decide +kernel
theorem d_9_14_11 : decode prog_9_method_14_code 11 = .ok (.getfield 47, 3) := by decide +kernel
theorem d_9_14_14 : decode prog_9_method_14_code 14 = .ok (.getfield 156, 3) := by decide +kernel
theorem d_9_14_17 : decode prog_9_method_14_code 17 = .ok (.bipush 32, 2) := by decide +kernel
theorem d_9_14_19 : decode prog_9_method_14_code 19 = .ok (.iadd, 1) := by decide +kernel
theorem d_9_14_20 : decode prog_9_method_14_code 20 = .ok (.goto 10, 3) := by decide +kernel
def y_Pri_writeNumber : MethodName := ⟨"NumberHouse$Printer", "writeNumber", "()V"⟩
set_option maxRecDepth 100000 in
set_option maxHeartbeats 4000000 in
theorem T_Pri_writeNumber (l : Launch) (D : va_G) (g : Nat → ClassId) (q : Nat → Nat) (ws : va_W) (hI : q_I (nsh g q) q ws) (t0_0 : Int32) (t0_1 : Int32) (hT0 : ws[36]? = (some (q 36, .inr (7, [.int t0_0, .int t0_1, .ref (q 37)])) : Option (Nat × va_E))) (t1_0 : Int32) (hT1 : ws[45]? = (some (q 45, .inr (1, [.ref (q 46), .int 4104, .int t1_0])) : Option (Nat × va_E))) (t2_0 : Int32) (t2_1 : Int32) (t2_2 : Int32) (t2_3 : Int32) (t2_4 : Int32) (t2_5 : Int32) (t2_6 : Int32) (hT2 : ws[47]? = (some (q 47, .inr (10, [.int t2_0, .int t2_1, .int t2_2, .int t2_3, .int t2_4, .int t2_5, .ref (q 1), .int t2_6])) : Option (Nat × va_E))) (pre0 : 0 ≤ t0_1.toInt + 100000) (pre1 : t0_1.toInt ≤ 60000) (pre2 : t1_0.toInt ≤ 10) : q_mV l y_Pri_writeNumber prog_9_method_14_code 5 4 0 0 D g [.ref (q 40)] ws (fun u => q_I (nsh g q) q u ∧ q_un ws u [36, 37, 45, 46] ∧ ∃ (u0_0 : Int32) (u0_1 : Int32) (u1_0 : Int32), u[36]? = (some (q 36, .inr (7, [.int u0_0, .int u0_1, .ref (q 37)])) : Option (Nat × va_E)) ∧ u[45]? = (some (q 45, .inr (1, [.ref (q 46), .int 4104, .int u1_0])) : Option (Nat × va_E)) ∧ (0 ≤ u0_0.toInt) ∧ (u0_0.toInt ≤ 1026) ∧ (u0_1.toInt ≤ 100001) ∧ (u0_0.toInt ≤ t0_0.toInt + 1) ∧ (u0_1.toInt ≤ t0_0.toInt + 100000) ∧ (t0_1.toInt ≤ u0_1.toInt) ∧ (u0_1.toInt ≤ t0_1.toInt + 100001) ∧ (t0_1.toInt ≤ u1_0.toInt + 59997) ∧ (t1_0.toInt + 1 ≤ u1_0.toInt) ∧ (u1_0.toInt ≤ t1_0.toInt + 420003) ∧ (u0_1.toInt ≤ u0_0.toInt + 100000) ∧ (u0_1.toInt ≤ u1_0.toInt + 59999)) := by
  intro sz
  refine q_into (by decide) (Nat.le_of_ble_eq_true rfl) ?_
  intro p e s m below meth c ls hsz C0 V hl
  have hx := C0.1
  have hb := C0.2.1
  obtain ⟨yy0_0, yy0_1, hh0, btt0_0, btt0_1⟩ := n_o36 hI
  obtain ⟨rfl, rfl⟩ : t0_0 = yy0_0 ∧ t0_1 = yy0_1 := by have z := Option.some.inj (hT0.symm.trans hh0); simpa using z
  replace btt0_0 : q_F (0 ≤ t0_0.toInt ∧ t0_0.toInt ≤ 1026) := btt0_0
  replace btt0_1 : q_F (-1000000 ≤ t0_1.toInt ∧ t0_1.toInt ≤ 1000000) := btt0_1
  obtain ⟨yy1_0, hh1, btt1_0⟩ := n_shO hI (n_h45 g q)
  obtain ⟨rfl⟩ : t1_0 = yy1_0 := by have z := Option.some.inj (hT1.symm.trans hh1); simpa using z
  replace btt1_0 : q_F (0 ≤ t1_0.toInt ∧ t1_0.toInt ≤ 1000000) := btt1_0
  obtain ⟨yy2_0, yy2_1, yy2_2, yy2_3, yy2_4, yy2_5, yy2_6, hh2, btt2_2, btt2_3, btt2_6⟩ := n_o47 hI
  obtain ⟨rfl, rfl, rfl, rfl, rfl, rfl, rfl⟩ : t2_0 = yy2_0 ∧ t2_1 = yy2_1 ∧ t2_2 = yy2_2 ∧ t2_3 = yy2_3 ∧ t2_4 = yy2_4 ∧ t2_5 = yy2_5 ∧ t2_6 = yy2_6 := by have z := Option.some.inj (hT2.symm.trans hh2); simpa using z
  replace btt2_2 : q_F (-1 ≤ t2_2.toInt ∧ t2_2.toInt ≤ 9999) := btt2_2
  replace btt2_3 : q_F (-1 ≤ t2_3.toInt ∧ t2_3.toInt ≤ 9999) := btt2_3
  replace btt2_6 : q_F (0 ≤ t2_6.toInt ∧ t2_6.toInt ≤ 1) := btt2_6
  replace pre0 : q_F (0 ≤ t0_1.toInt + 100000) := pre0
  replace pre1 : q_F (t0_1.toInt ≤ 60000) := pre1
  replace pre2 : q_F (t1_0.toInt ≤ 10) := pre2
  have hF : q_un ws ws [36, 37, 45, 46] := q_u0
  have hl : lv_has ls 5 [(0, .ref (q 40))] := hl
  refine lv_aload_n hx hb d_9_14_0 rfl (lv_at hl 0 rfl) ?_
  obtain ⟨y21, y23, y25, y26, hO20, b22, b24, b27⟩ := n_o40 hI
  replace b22 : q_F (0 ≤ y21.toInt ∧ y21.toInt ≤ 9) := b22
  replace b24 : q_F (-1 ≤ y23.toInt ∧ y23.toInt ≤ 1000000) := b24
  replace b27 : q_F (-1 ≤ y26.toInt ∧ y26.toInt ≤ 8) := b27
  refine q_get (ci := 11) (j := 6) (v := .ref (q 47)) C0 V i_Pri rfl rfl hO20 (by decide) w_391 rfl d_9_14_1 ?_
  refine q_goi V (q_runV (As := []) (rest := []) (d := 1) (mc := 0) (ms := 0) (ci := 10) C0 V rfl LV_Pri_222 (T_Dir_isLarge l D g q ws   hI   _) rfl rfl hT2 rfl hl.1 rfl (Nat.le_of_ble_eq_true rfl) ⟨by decide, by decide⟩ ⟨Nat.le_of_ble_eq_true rfl, Nat.le_of_ble_eq_true rfl⟩ d_9_14_4) (fun a30 u28 H locs hp29 V => ?_)
  obtain ⟨rfl, b31, b32⟩ := hp29
  replace b31 : q_F (0 ≤ a30.toInt) := b31
  replace b32 : q_F (a30.toInt ≤ 1) := b32
  refine q_join (X := Int32) (fun z H locs ls _ => q_Wd D g (va_A ws sz) s ws H locs ∧ lv_has ls 5 [(0, .ref (q 40))]) (fun z => [.int z]) 30 0 0 ?_ ?_
  ·
    rintro lx34 H locs ls _ ⟨V, hl⟩
    replace hl : lv_has ls 5 [(0, .ref (q 40))] := hl
    refine lv_istore_n (lv' := [(1, .int lx34), (0, .ref (q 40))]) hx hb d_9_14_30 rfl hl (by decide) rfl (fun ls hl => ?_)
    refine lv_aload_n hx hb d_9_14_31 rfl (lv_at hl 1 rfl) ?_
    refine q_get (ci := 11) (j := 6) (v := .ref (q 47)) C0 V i_Pri rfl rfl hO20 (by decide) w_391 rfl d_9_14_32 ?_
    refine q_get (ci := 10) (j := 3) (v := .int t2_3) C0 V i_Dir rfl rfl hT2 (by decide) w_360 rfl d_9_14_35 ?_
    refine lv_iconst (v := (-1)) hx hb d_9_14_38 (by decide) ?_
    refine q_join (X := Int32) (fun z H locs ls _ => q_F (0 ≤ z.toInt) ∧ q_F (z.toInt ≤ 9999) ∧ q_F (t2_3.toInt ≤ z.toInt) ∧ q_F (z.toInt ≤ t2_3.toInt + 7) ∧ q_Wd D g (va_A ws sz) s ws H locs ∧ lv_has ls 5 [(1, .int lx34), (0, .ref (q 40))]) (fun z => [.int z]) 54 0 0 ?_ ?_
    ·
      rintro lx39 H locs ls _ ⟨i44, i45, i46, i47, V, hl⟩
      replace i44 : q_F (0 ≤ lx39.toInt) := i44
      replace i45 : q_F (lx39.toInt ≤ 9999) := i45
      replace i46 : q_F (t2_3.toInt ≤ lx39.toInt) := i46
      replace i47 : q_F (lx39.toInt ≤ t2_3.toInt + 7) := i47
      replace hl : lv_has ls 5 [(1, .int lx34), (0, .ref (q 40))] := hl
      refine lv_istore_n (lv' := [(2, .int lx39), (1, .int lx34), (0, .ref (q 40))]) hx hb d_9_14_54 rfl hl (by decide) rfl (fun ls hl => ?_)
      refine lv_iload_n hx hb d_9_14_55 rfl (lv_at hl 1 rfl) ?_
      refine lv_bipush (v := 100) hx hb d_9_14_56 (by decide) ?_
      refine q_join (X := Int32 × Int32 × Int32 × Int32) (fun z H locs ls w69 => q_F (0 ≤ z.1.toInt) ∧ q_F (z.1.toInt ≤ 10002) ∧ q_F (0 ≤ z.2.2.1.toInt) ∧ q_F (z.1.toInt ≤ lx39.toInt + 4) ∧ q_F (z.1.toInt ≤ t0_1.toInt + 109999) ∧ q_F (z.1.toInt ≤ t2_3.toInt + 10) ∧ q_F (lx34.toInt ≤ z.2.1.toInt + 2) ∧ q_F (z.2.1.toInt ≤ lx34.toInt + 2) ∧ q_F (t0_0.toInt ≤ z.2.2.1.toInt + 1025) ∧ q_F (z.2.2.1.toInt ≤ t0_0.toInt) ∧ q_F (t0_1.toInt ≤ z.2.2.2.toInt) ∧ q_F (z.2.2.2.toInt ≤ t0_1.toInt + 1) ∧ q_F (z.1.toInt + z.2.2.2.toInt ≤ 69999) ∧ q_Wd D g (va_A ws sz) s w69 H locs ∧ lv_has ls 5 [(2, .int z.1), (1, .int z.2.1), (0, .ref (q 40))] ∧ q_I (nsh g q) q w69 ∧ q_un ws w69 [36, 37, 45, 46] ∧ w69[36]? = (some (q 36, .inr (7, [.int z.2.2.1, .int z.2.2.2, .ref (q 37)])) : Option (Nat × va_E)) ∧ w69[45]? = (some (q 45, .inr (1, [.ref (q 46), .int 4104, .int t1_0])) : Option (Nat × va_E)) ∧ w69[47]? = (some (q 47, .inr (10, [.int t2_0, .int t2_1, .int t2_2, .int t2_3, .int t2_4, .int t2_5, .ref (q 1), .int t2_6])) : Option (Nat × va_E))) (fun z => []) 156 0 0 ?_ ?_
      ·
        rintro ⟨lx48, lx49, lx50, lx51⟩ H locs ls w69 ⟨i56, i57, i58, i59, i60, i61, i62, i63, i64, i65, i66, i67, i68, V, hl, hI, hF, hO52, hO53, hO54⟩
        replace i56 : q_F (0 ≤ lx48.toInt) := i56
        replace i57 : q_F (lx48.toInt ≤ 10002) := i57
        replace i58 : q_F (0 ≤ lx50.toInt) := i58
        replace i59 : q_F (lx48.toInt ≤ lx39.toInt + 4) := i59
        replace i60 : q_F (lx48.toInt ≤ t0_1.toInt + 109999) := i60
        replace i61 : q_F (lx48.toInt ≤ t2_3.toInt + 10) := i61
        replace i62 : q_F (lx34.toInt ≤ lx49.toInt + 2) := i62
        replace i63 : q_F (lx49.toInt ≤ lx34.toInt + 2) := i63
        replace i64 : q_F (t0_0.toInt ≤ lx50.toInt + 1025) := i64
        replace i65 : q_F (lx50.toInt ≤ t0_0.toInt) := i65
        replace i66 : q_F (t0_1.toInt ≤ lx51.toInt) := i66
        replace i67 : q_F (lx51.toInt ≤ t0_1.toInt + 1) := i67
        replace i68 : q_F (lx48.toInt + lx51.toInt ≤ 69999) := i68
        replace hl : lv_has ls 5 [(2, .int lx48), (1, .int lx49), (0, .ref (q 40))] := hl
        replace hO52 : w69[36]? = (some (q 36, .inr (7, [.int lx50, .int lx51, .ref (q 37)])) : Option (Nat × va_E)) := hO52
        replace hO53 : w69[45]? = (some (q 45, .inr (1, [.ref (q 46), .int 4104, .int t1_0])) : Option (Nat × va_E)) := hO53
        replace hO54 : w69[47]? = (some (q 47, .inr (10, [.int t2_0, .int t2_1, .int t2_2, .int t2_3, .int t2_4, .int t2_5, .ref (q 1), .int t2_6])) : Option (Nat × va_E)) := hO54
        refine lv_aload_n hx hb d_9_14_156 rfl (lv_at hl 2 rfl) ?_
        obtain ⟨y71, y73, y75, y76, hO70, b72, b74, b77⟩ := n_o40 hI
        replace b72 : q_F (0 ≤ y71.toInt ∧ y71.toInt ≤ 9) := b72
        replace b74 : q_F (-1 ≤ y73.toInt ∧ y73.toInt ≤ 1000000) := b74
        replace b77 : q_F (-1 ≤ y76.toInt ∧ y76.toInt ≤ 8) := b77
        refine q_get (ci := 11) (j := 6) (v := .ref (q 47)) C0 V i_Pri rfl rfl hO70 (by decide) w_391 rfl d_9_14_157 ?_
        refine lv_iconst (v := 2) hx hb d_9_14_160 (by decide) ?_
        refine q_goi V (q_runV (As := [.int 2]) (rest := []) (d := 1) (mc := 0) (ms := 0) (ci := 10) C0 V rfl LV_Pri_144 (T_Dir_has l D g q w69  2 hI   _) rfl rfl hO54 rfl hl.1 rfl (Nat.le_of_ble_eq_true rfl) ⟨by decide, by decide⟩ ⟨Nat.le_of_ble_eq_true rfl, Nat.le_of_ble_eq_true rfl⟩ d_9_14_161) (fun a80 u78 H locs hp79 V => ?_)
        obtain ⟨rfl, b81, b82⟩ := hp79
        replace b81 : q_F (0 ≤ a80.toInt) := b81
        replace b82 : q_F (a80.toInt ≤ 1) := b82
        refine lv_istore_n (lv' := [(3, .int a80), (2, .int lx48), (1, .int lx49), (0, .ref (q 40))]) hx hb d_9_14_164 rfl hl (by decide) rfl (fun ls hl => ?_)
        refine lv_iload_n hx hb d_9_14_165 rfl (lv_at hl 2 rfl) ?_
        refine lv_bipush (v := 102) hx hb d_9_14_166 (by decide) ?_
        refine lv_icmp_ne (tgt := 215) hx hb d_9_14_168 (by decide) (fun c84 => ?_) (fun c84 => ?_)
        ·
          have b85 : q_F (lx49.toInt ≠ 102) := (q_neI c84)
          refine lv_aload_n hx hb d_9_14_215 rfl (lv_at hl 3 rfl) ?_
          refine q_get (ci := 11) (j := 7) (v := .ref (q 36)) C0 V i_Pri rfl rfl hO70 (by decide) w_392 rfl d_9_14_216 ?_
          refine lv_iload_n hx hb d_9_14_219 rfl (lv_at hl 1 rfl) ?_
          refine lv_iconst (v := 1) hx hb d_9_14_220 (by decide) ?_
          refine lv_iadd hx hb d_9_14_221 ?_
          obtain ⟨a86, e87⟩ := q_nm (lx48 + 1 : Int32)
          refine q_ti (v := a86) e87 ?_
          have b88 : q_F (a86.toInt = lx48.toInt + 1) := (by rw [← e87]; show (lx48 + 1 : Int32).toInt = lx48.toInt + 1; exact q_addI (x := lx48.toInt) (y := 1) rfl (by decide) (by have t1 : 0 ≤ lx48.toInt := i56; have t2 : lx48.toInt ≤ 10002 := i57; omega) (by have t1 : 0 ≤ lx48.toInt := i56; have t2 : lx48.toInt ≤ 10002 := i57; omega))
          refine lv_iconst (v := 2) hx hb d_9_14_222 (by decide) ?_
          refine q_gov V (q_runV (As := [.int a86, .int 2]) (rest := []) (d := 3) (mc := 0) (ms := 0) (ci := 7) C0 V rfl LV_Pri_225 (T_Dig_round_1 l D g q w69  a86 2 hI lx50 lx51 hO52 (by have y0 : (2 : Int32).toInt = 2 := rfl; have t1 : 0 ≤ lx48.toInt := i56; have t2 : a86.toInt = lx48.toInt + 1 := b88; omega) (by have y0 : (2 : Int32).toInt = 2 := rfl; have t1 : 0 ≤ t0_1.toInt + 100000 := pre0; have t2 : t0_1.toInt ≤ lx51.toInt := i66; omega) (by have y0 : (2 : Int32).toInt = 2 := rfl; have t1 : t0_1.toInt ≤ 60000 := pre1; have t2 : lx51.toInt ≤ t0_1.toInt + 1 := i67; omega) _) rfl rfl hO52 rfl hl.1 rfl (Nat.le_of_ble_eq_true rfl) ⟨by decide, by decide⟩ ⟨Nat.le_of_ble_eq_true rfl, Nat.le_of_ble_eq_true rfl⟩ d_9_14_223) (fun u89 H locs hp90 V => ?_)
          obtain ⟨hI, hu102, y92, y93, hO91, b94, b95, b96, b97, b98, b99, b100⟩ := hp90
          replace hO91 : u89[36]? = (some (q 36, .inr (7, [.int y92, .int y93, .ref (q 37)])) : Option (Nat × va_E)) := hO91
          replace b94 : q_F (0 ≤ y92.toInt) := b94
          replace b95 : q_F (y92.toInt ≤ a86.toInt + 1) := b95
          replace b96 : q_F (lx50.toInt ≤ y92.toInt + 1025) := b96
          replace b97 : q_F (y92.toInt ≤ lx50.toInt) := b97
          replace b98 : q_F (lx51.toInt ≤ y93.toInt) := b98
          replace b99 : q_F (y93.toInt ≤ lx51.toInt + 1) := b99
          replace b100 : q_F (y93.toInt ≤ y92.toInt + 200000) := b100
          replace hO53 := (hu102 _ (by decide)).trans hO53
          replace hO54 := (hu102 _ (by decide)).trans hO54
          replace hO70 := (hu102 _ (by decide)).trans hO70
          replace hF := q_uc hF hu102 (by simp)
          refine lv_aload_n hx hb d_9_14_226 rfl (lv_at hl 3 rfl) ?_
          refine q_get (ci := 11) (j := 7) (v := .ref (q 36)) C0 V i_Pri rfl rfl hO70 (by decide) w_392 rfl d_9_14_227 ?_
          refine lv_aload_n hx hb d_9_14_230 rfl (lv_at hl 3 rfl) ?_
          refine q_get (ci := 11) (j := 8) (v := .ref (q 45)) C0 V i_Pri rfl rfl hO70 (by decide) w_393 rfl d_9_14_231 ?_
          refine lv_iload_n hx hb d_9_14_234 rfl (lv_at hl 1 rfl) ?_
          refine lv_iconst (v := 1) hx hb d_9_14_235 (by decide) ?_
          refine lv_iadd hx hb d_9_14_236 ?_
          obtain ⟨a103, e104⟩ := q_nm (lx48 + 1 : Int32)
          refine q_ti (v := a103) e104 ?_
          have b105 : q_F (a103.toInt = lx48.toInt + 1) := (by rw [← e104]; show (lx48 + 1 : Int32).toInt = lx48.toInt + 1; exact q_addI (x := lx48.toInt) (y := 1) rfl (by decide) (by have t1 : 0 ≤ lx48.toInt := i56; have t2 : lx48.toInt ≤ 10002 := i57; omega) (by have t1 : 0 ≤ lx48.toInt := i56; have t2 : lx48.toInt ≤ 10002 := i57; omega))
          refine lv_iload_n hx hb d_9_14_237 rfl (lv_at hl 0 rfl) ?_
          refine q_gov V (q_runV (As := [.ref (q 45), .int a103, .int a80]) (rest := []) (d := 3) (mc := 0) (ms := 0) (ci := 7) C0 V rfl LV_Pri_232 (T_Dig_writeScience l D g q u89 45 4104 513 1000000 (n_h45 g q) a103 a80 hI y92 y93 hO91 t1_0 hO53 ⟨(by have y0 : (4104 : Int32).toInt = 4104 := rfl; have y1 : (513 : Int32).toInt = 513 := rfl; have y2 : (1000000 : Int32).toInt = 1000000 := rfl; have t1 : 0 ≤ a80.toInt := b81; omega), (by have y0 : (4104 : Int32).toInt = 4104 := rfl; have y1 : (513 : Int32).toInt = 513 := rfl; have y2 : (1000000 : Int32).toInt = 1000000 := rfl; have t1 : a80.toInt ≤ 1 := b82; omega)⟩ (by have y0 : (4104 : Int32).toInt = 4104 := rfl; have y1 : (513 : Int32).toInt = 513 := rfl; have y2 : (1000000 : Int32).toInt = 1000000 := rfl; have t1 : lx48.toInt ≤ 10002 := i57; have t2 : a103.toInt = lx48.toInt + 1 := b105; omega) (by have y0 : (4104 : Int32).toInt = 4104 := rfl; have y1 : (513 : Int32).toInt = 513 := rfl; have y2 : (1000000 : Int32).toInt = 1000000 := rfl; have t1 : t1_0.toInt ≤ 10 := pre2; omega) (by have y0 : (4104 : Int32).toInt = 4104 := rfl; have y1 : (513 : Int32).toInt = 513 := rfl; have y2 : (1000000 : Int32).toInt = 1000000 := rfl; omega) _) rfl rfl hO91 rfl hl.1 rfl (Nat.le_of_ble_eq_true rfl) ⟨by decide, by decide⟩ ⟨Nat.le_of_ble_eq_true rfl, Nat.le_of_ble_eq_true rfl⟩ d_9_14_238) (fun u106 H locs hp107 V => ?_)
          obtain ⟨hI, hu115, y109, hO108, b110, b111, b112, b113⟩ := hp107
          replace hO108 : u106[45]? = (some (q 45, .inr (1, [.ref (q 46), .int 4104, .int y109])) : Option (Nat × va_E)) := hO108
          replace b110 : q_F (a103.toInt + 2 ≤ y109.toInt) := b110
          replace b111 : q_F (a80.toInt + 3 ≤ y109.toInt) := b111
          replace b112 : q_F (t1_0.toInt + 3 ≤ y109.toInt) := b112
          replace b113 : q_F (y109.toInt ≤ t1_0.toInt + 20008) := b113
          replace hO91 := (hu115 _ (by decide)).trans hO91
          replace hO54 := (hu115 _ (by decide)).trans hO54
          replace hO70 := (hu115 _ (by decide)).trans hO70
          replace hF := q_uc hF hu115 (by simp)
          exact q_retv C0 V (⟨hI, hF, y92, y93, y109, hO91, hO108, (show 0 ≤ y92.toInt from (by have t1 : 0 ≤ y92.toInt := b94; omega)), (show y92.toInt ≤ 1026 from (by have t1 : 0 ≤ t0_0.toInt ∧ t0_0.toInt ≤ 1026 := btt0_0; have t2 : lx50.toInt ≤ t0_0.toInt := i65; have t3 : y92.toInt ≤ lx50.toInt := b97; omega)), (show y93.toInt ≤ 100001 from (by have t1 : t0_1.toInt ≤ 60000 := pre1; have t2 : lx51.toInt ≤ t0_1.toInt + 1 := i67; have t3 : y93.toInt ≤ lx51.toInt + 1 := b99; omega)), (show y92.toInt ≤ t0_0.toInt + 1 from (by have t1 : lx50.toInt ≤ t0_0.toInt := i65; have t2 : y92.toInt ≤ lx50.toInt := b97; omega)), (show y93.toInt ≤ t0_0.toInt + 100000 from (by have t1 : 0 ≤ t0_0.toInt ∧ t0_0.toInt ≤ 1026 := btt0_0; have t2 : t0_1.toInt ≤ 60000 := pre1; have t3 : lx51.toInt ≤ t0_1.toInt + 1 := i67; have t4 : y93.toInt ≤ lx51.toInt + 1 := b99; omega)), (show t0_1.toInt ≤ y93.toInt from (by have t1 : t0_1.toInt ≤ lx51.toInt := i66; have t2 : lx51.toInt ≤ y93.toInt := b98; omega)), (show y93.toInt ≤ t0_1.toInt + 100001 from (by have t1 : lx51.toInt ≤ t0_1.toInt + 1 := i67; have t2 : y93.toInt ≤ lx51.toInt + 1 := b99; omega)), (show t0_1.toInt ≤ y109.toInt + 59997 from (by have t1 : t0_1.toInt ≤ 60000 := pre1; have t2 : 0 ≤ lx48.toInt := i56; have t3 : a103.toInt = lx48.toInt + 1 := b105; have t4 : a103.toInt + 2 ≤ y109.toInt := b110; omega)), (show t1_0.toInt + 1 ≤ y109.toInt from (by have t1 : t1_0.toInt + 3 ≤ y109.toInt := b112; omega)), (show y109.toInt ≤ t1_0.toInt + 420003 from (by have t1 : y109.toInt ≤ t1_0.toInt + 20008 := b113; omega)), (show y93.toInt ≤ y92.toInt + 100000 from (by have t1 : lx48.toInt + lx51.toInt ≤ 69999 := i68; have t2 : a86.toInt = lx48.toInt + 1 := b88; have t3 : 0 ≤ y92.toInt := b94; have t4 : y92.toInt ≤ a86.toInt + 1 := b95; have t5 : y93.toInt ≤ lx51.toInt + 1 := b99; omega)), (show y93.toInt ≤ y109.toInt + 59999 from (by have t1 : t0_1.toInt ≤ 60000 := pre1; have t2 : 0 ≤ lx48.toInt := i56; have t3 : lx51.toInt ≤ t0_1.toInt + 1 := i67; have t4 : y93.toInt ≤ lx51.toInt + 1 := b99; have t5 : a103.toInt = lx48.toInt + 1 := b105; have t6 : a103.toInt + 2 ≤ y109.toInt := b110; omega))⟩) d_9_14_241
        ·
          have b116 : q_F (lx49.toInt = 102) := (q_eqI c84)
          refine lv_aload_n hx hb d_9_14_171 rfl (lv_at hl 3 rfl) ?_
          refine q_get (ci := 11) (j := 7) (v := .ref (q 36)) C0 V i_Pri rfl rfl hO70 (by decide) w_392 rfl d_9_14_172 ?_
          refine lv_aload_n hx hb d_9_14_175 rfl (lv_at hl 3 rfl) ?_
          refine q_get (ci := 11) (j := 7) (v := .ref (q 36)) C0 V i_Pri rfl rfl hO70 (by decide) w_392 rfl d_9_14_176 ?_
          refine q_get (ci := 7) (j := 1) (v := .int lx51) C0 V i_Dig rfl rfl hO52 (by decide) w_268 rfl d_9_14_179 ?_
          refine lv_iconst (v := 1) hx hb d_9_14_182 (by decide) ?_
          refine lv_iadd hx hb d_9_14_183 ?_
          obtain ⟨a117, e118⟩ := q_nm (lx51 + 1 : Int32)
          refine q_ti (v := a117) e118 ?_
          have b119 : q_F (a117.toInt = lx51.toInt + 1) := (by rw [← e118]; show (lx51 + 1 : Int32).toInt = lx51.toInt + 1; exact q_addI (x := lx51.toInt) (y := 1) rfl (by decide) (by have _ := q_lo32 (x := lx51); have _ := q_hi32 (x := lx51); have t1 : -1000000 ≤ t0_1.toInt ∧ t0_1.toInt ≤ 1000000 := btt0_1; have t2 : lx51.toInt ≤ t0_1.toInt + 1 := i67; omega) (by have _ := q_lo32 (x := lx51); have _ := q_hi32 (x := lx51); have t1 : -1000000 ≤ t0_1.toInt ∧ t0_1.toInt ≤ 1000000 := btt0_1; have t2 : lx51.toInt ≤ t0_1.toInt + 1 := i67; omega))
          refine lv_iload_n hx hb d_9_14_184 rfl (lv_at hl 1 rfl) ?_
          refine lv_iadd hx hb d_9_14_185 ?_
          obtain ⟨a120, e121⟩ := q_nm (a117 + lx48 : Int32)
          refine q_ti (v := a120) e121 ?_
          have b122 : q_F (a120.toInt = a117.toInt + lx48.toInt) := (by rw [← e121]; show (a117 + lx48 : Int32).toInt = a117.toInt + lx48.toInt; exact q_addI (x := a117.toInt) (y := lx48.toInt) rfl rfl (by have t1 : 0 ≤ lx48.toInt := i56; have _ := q_lo32 (x := a117); have _ := q_hi32 (x := a117); have t2 : lx48.toInt + lx51.toInt ≤ 69999 := i68; have t3 : a117.toInt = lx51.toInt + 1 := b119; omega) (by have t1 : 0 ≤ lx48.toInt := i56; have _ := q_lo32 (x := a117); have _ := q_hi32 (x := a117); have t2 : lx48.toInt + lx51.toInt ≤ 69999 := i68; have t3 : a117.toInt = lx51.toInt + 1 := b119; omega))
          refine lv_iconst (v := 2) hx hb d_9_14_186 (by decide) ?_
          refine q_gov V (q_runV (As := [.int a120, .int 2]) (rest := []) (d := 3) (mc := 0) (ms := 0) (ci := 7) C0 V rfl LV_Pri_225 (T_Dig_round_2 l D g q w69  a120 2 hI lx50 lx51 hO52 (by have y0 : (2 : Int32).toInt = 2 := rfl; have t1 : 0 ≤ t0_1.toInt + 100000 := pre0; have t2 : 0 ≤ lx48.toInt := i56; have t3 : t0_1.toInt ≤ lx51.toInt := i66; have t4 : a117.toInt = lx51.toInt + 1 := b119; have t5 : a120.toInt = a117.toInt + lx48.toInt := b122; omega) (by have y0 : (2 : Int32).toInt = 2 := rfl; have t1 : lx48.toInt + lx51.toInt ≤ 69999 := i68; have t2 : a117.toInt = lx51.toInt + 1 := b119; have t3 : a120.toInt = a117.toInt + lx48.toInt := b122; omega) (by have y0 : (2 : Int32).toInt = 2 := rfl; have t1 : 0 ≤ lx48.toInt := i56; have t2 : a117.toInt = lx51.toInt + 1 := b119; have t3 : a120.toInt = a117.toInt + lx48.toInt := b122; omega) (by have y0 : (2 : Int32).toInt = 2 := rfl; have t1 : 0 ≤ t0_1.toInt + 100000 := pre0; have t2 : t0_1.toInt ≤ lx51.toInt := i66; omega) (by have y0 : (2 : Int32).toInt = 2 := rfl; have t1 : t0_1.toInt ≤ 60000 := pre1; have t2 : lx51.toInt ≤ t0_1.toInt + 1 := i67; omega) _) rfl rfl hO52 rfl hl.1 rfl (Nat.le_of_ble_eq_true rfl) ⟨by decide, by decide⟩ ⟨Nat.le_of_ble_eq_true rfl, Nat.le_of_ble_eq_true rfl⟩ d_9_14_187) (fun u123 H locs hp124 V => ?_)
          obtain ⟨hI, hu138, y126, y127, hO125, b128, b129, b130, b131, b132, b133, b134, b135, b136⟩ := hp124
          replace hO125 : u123[36]? = (some (q 36, .inr (7, [.int y126, .int y127, .ref (q 37)])) : Option (Nat × va_E)) := hO125
          replace b128 : q_F (0 ≤ y126.toInt) := b128
          replace b129 : q_F (y126.toInt ≤ 1026) := b129
          replace b130 : q_F (y127.toInt ≤ 100001) := b130
          replace b131 : q_F (y126.toInt ≤ a120.toInt + 100000) := b131
          replace b132 : q_F (y126.toInt ≤ lx50.toInt + 1) := b132
          replace b133 : q_F (y127.toInt ≤ lx50.toInt + 100000) := b133
          replace b134 : q_F (lx51.toInt ≤ y127.toInt) := b134
          replace b135 : q_F (y127.toInt ≤ lx51.toInt + 100000) := b135
          replace b136 : q_F (y127.toInt ≤ y126.toInt + 100000) := b136
          replace hO53 := (hu138 _ (by decide)).trans hO53
          replace hO54 := (hu138 _ (by decide)).trans hO54
          replace hO70 := (hu138 _ (by decide)).trans hO70
          replace hF := q_uc hF hu138 (by simp)
          refine lv_aload_n hx hb d_9_14_190 rfl (lv_at hl 3 rfl) ?_
          refine q_get (ci := 11) (j := 7) (v := .ref (q 36)) C0 V i_Pri rfl rfl hO70 (by decide) w_392 rfl d_9_14_191 ?_
          refine lv_aload_n hx hb d_9_14_194 rfl (lv_at hl 3 rfl) ?_
          refine q_get (ci := 11) (j := 8) (v := .ref (q 45)) C0 V i_Pri rfl rfl hO70 (by decide) w_393 rfl d_9_14_195 ?_
          refine lv_iload_n hx hb d_9_14_198 rfl (lv_at hl 1 rfl) ?_
          refine lv_aload_n hx hb d_9_14_199 rfl (lv_at hl 3 rfl) ?_
          refine q_get (ci := 11) (j := 6) (v := .ref (q 47)) C0 V i_Pri rfl rfl hO70 (by decide) w_391 rfl d_9_14_200 ?_
          refine lv_bipush (v := 16) hx hb d_9_14_203 (by decide) ?_
          refine q_goi V (q_runV (As := [.int 16]) (rest := [.int lx48, .ref (q 45), .ref (q 36)]) (d := 1) (mc := 0) (ms := 0) (ci := 10) C0 V rfl LV_Pri_144 (T_Dir_has l D g q u123  16 hI   _) rfl rfl hO54 rfl hl.1 rfl (Nat.le_of_ble_eq_true rfl) ⟨by decide, by decide⟩ ⟨Nat.le_of_ble_eq_true rfl, Nat.le_of_ble_eq_true rfl⟩ d_9_14_205) (fun a141 u139 H locs hp140 V => ?_)
          obtain ⟨rfl, b142, b143⟩ := hp140
          replace b142 : q_F (0 ≤ a141.toInt) := b142
          replace b143 : q_F (a141.toInt ≤ 1) := b143
          refine lv_iload_n hx hb d_9_14_208 rfl (lv_at hl 0 rfl) ?_
          refine q_gov V (q_runV (As := [.ref (q 45), .int lx48, .int a141, .int a80]) (rest := []) (d := 2) (mc := 0) (ms := 0) (ci := 7) C0 V rfl LV_Pri_204 (T_Dig_writePlain l D g q u123 45 4104 513 1000000 (n_h45 g q) lx48 a141 a80 hI y126 y127 hO125 t1_0 hO53 ⟨(by have y0 : (4104 : Int32).toInt = 4104 := rfl; have y1 : (513 : Int32).toInt = 513 := rfl; have y2 : (1000000 : Int32).toInt = 1000000 := rfl; have t1 : 0 ≤ a141.toInt := b142; omega), (by have y0 : (4104 : Int32).toInt = 4104 := rfl; have y1 : (513 : Int32).toInt = 513 := rfl; have y2 : (1000000 : Int32).toInt = 1000000 := rfl; have t1 : a141.toInt ≤ 1 := b143; omega)⟩ ⟨(by have y0 : (4104 : Int32).toInt = 4104 := rfl; have y1 : (513 : Int32).toInt = 513 := rfl; have y2 : (1000000 : Int32).toInt = 1000000 := rfl; have t1 : 0 ≤ a80.toInt := b81; omega), (by have y0 : (4104 : Int32).toInt = 4104 := rfl; have y1 : (513 : Int32).toInt = 513 := rfl; have y2 : (1000000 : Int32).toInt = 1000000 := rfl; have t1 : a80.toInt ≤ 1 := b82; omega)⟩ (by have y0 : (4104 : Int32).toInt = 4104 := rfl; have y1 : (513 : Int32).toInt = 513 := rfl; have y2 : (1000000 : Int32).toInt = 1000000 := rfl; have t1 : y127.toInt ≤ 100001 := b130; omega) (by have y0 : (4104 : Int32).toInt = 4104 := rfl; have y1 : (513 : Int32).toInt = 513 := rfl; have y2 : (1000000 : Int32).toInt = 1000000 := rfl; have t1 : lx48.toInt ≤ 10002 := i57; omega) (by have y0 : (4104 : Int32).toInt = 4104 := rfl; have y1 : (513 : Int32).toInt = 513 := rfl; have y2 : (1000000 : Int32).toInt = 1000000 := rfl; have t1 : t1_0.toInt ≤ 10 := pre2; omega) (by have y0 : (4104 : Int32).toInt = 4104 := rfl; have y1 : (513 : Int32).toInt = 513 := rfl; have y2 : (1000000 : Int32).toInt = 1000000 := rfl; omega) _) rfl rfl hO125 rfl hl.1 rfl (Nat.le_of_ble_eq_true rfl) ⟨by decide, by decide⟩ ⟨Nat.le_of_ble_eq_true rfl, Nat.le_of_ble_eq_true rfl⟩ d_9_14_209) (fun u145 H locs hp146 V => ?_)
          obtain ⟨hI, hu156, y148, hO147, b149, b150, b151, b152, b153, b154⟩ := hp146
          replace hO147 : u145[45]? = (some (q 45, .inr (1, [.ref (q 46), .int 4104, .int y148])) : Option (Nat × va_E)) := hO147
          replace b149 : q_F (lx48.toInt + 1 ≤ y148.toInt) := b149
          replace b150 : q_F (a80.toInt + 1 ≤ y148.toInt) := b150
          replace b151 : q_F (y127.toInt + 1 ≤ y148.toInt) := b151
          replace b152 : q_F (y148.toInt ≤ y127.toInt + 1420003) := b152
          replace b153 : q_F (t1_0.toInt + 1 ≤ y148.toInt) := b153
          replace b154 : q_F (y148.toInt ≤ t1_0.toInt + 420003) := b154
          replace hO125 := (hu156 _ (by decide)).trans hO125
          replace hO54 := (hu156 _ (by decide)).trans hO54
          replace hO70 := (hu156 _ (by decide)).trans hO70
          replace hF := q_uc hF hu156 (by simp)
          refine lv_goto (tgt := 241) hx hb d_9_14_212 (by decide) ?_
          exact q_retv C0 V (⟨hI, hF, y126, y127, y148, hO125, hO147, (show 0 ≤ y126.toInt from (by have t1 : 0 ≤ y126.toInt := b128; omega)), (show y126.toInt ≤ 1026 from (by have t1 : y126.toInt ≤ 1026 := b129; omega)), (show y127.toInt ≤ 100001 from (by have t1 : y127.toInt ≤ 100001 := b130; omega)), (show y126.toInt ≤ t0_0.toInt + 1 from (by have t1 : lx50.toInt ≤ t0_0.toInt := i65; have t2 : y126.toInt ≤ lx50.toInt + 1 := b132; omega)), (show y127.toInt ≤ t0_0.toInt + 100000 from (by have t1 : lx50.toInt ≤ t0_0.toInt := i65; have t2 : y127.toInt ≤ lx50.toInt + 100000 := b133; omega)), (show t0_1.toInt ≤ y127.toInt from (by have t1 : t0_1.toInt ≤ lx51.toInt := i66; have t2 : lx51.toInt ≤ y127.toInt := b134; omega)), (show y127.toInt ≤ t0_1.toInt + 100001 from (by have t1 : lx51.toInt ≤ t0_1.toInt + 1 := i67; have t2 : y127.toInt ≤ lx51.toInt + 100000 := b135; omega)), (show t0_1.toInt ≤ y148.toInt + 59997 from (by have t1 : t0_1.toInt ≤ lx51.toInt := i66; have t2 : lx51.toInt ≤ y127.toInt := b134; have t3 : y127.toInt + 1 ≤ y148.toInt := b151; omega)), (show t1_0.toInt + 1 ≤ y148.toInt from (by have t1 : t1_0.toInt + 1 ≤ y148.toInt := b153; omega)), (show y148.toInt ≤ t1_0.toInt + 420003 from (by have t1 : y148.toInt ≤ t1_0.toInt + 420003 := b154; omega)), (show y127.toInt ≤ y126.toInt + 100000 from (by have t1 : y127.toInt ≤ y126.toInt + 100000 := b136; omega)), (show y127.toInt ≤ y148.toInt + 59999 from (by have t1 : y127.toInt + 1 ≤ y148.toInt := b151; omega))⟩) d_9_14_241
      ·
        intro J55
        refine lv_icmp_ne (tgt := 69) hx hb d_9_14_58 (by decide) (fun c157 => ?_) (fun c157 => ?_)
        ·
          have b158 : q_F (lx34.toInt ≠ 100) := (q_neI c157)
          refine lv_iload_n hx hb d_9_14_69 rfl (lv_at hl 1 rfl) ?_
          refine lv_bipush (v := 103) hx hb d_9_14_70 (by decide) ?_
          refine lv_icmp_ne (tgt := 156) hx hb d_9_14_72 (by decide) (fun c159 => ?_) (fun c159 => ?_)
          ·
            have b160 : q_F (lx34.toInt ≠ 103) := (q_neI c159)
            exact J55 ((lx39 : Int32), (lx34 : Int32), (t0_0 : Int32), (t0_1 : Int32)) _ _ _ _ ⟨(show q_F (0 ≤ lx39.toInt) from (show 0 ≤ lx39.toInt from by have t1 : 0 ≤ lx39.toInt := i44; omega)), (show q_F (lx39.toInt ≤ 10002) from (show lx39.toInt ≤ 10002 from by have t1 : lx39.toInt ≤ 9999 := i45; omega)), (show q_F (0 ≤ t0_0.toInt) from (show 0 ≤ t0_0.toInt from by have t1 : 0 ≤ t0_0.toInt ∧ t0_0.toInt ≤ 1026 := btt0_0; omega)), (show q_F (lx39.toInt ≤ lx39.toInt + 4) from (show lx39.toInt ≤ lx39.toInt + 4 from by omega)), (show q_F (lx39.toInt ≤ t0_1.toInt + 109999) from (show lx39.toInt ≤ t0_1.toInt + 109999 from by have t1 : 0 ≤ t0_1.toInt + 100000 := pre0; have t2 : lx39.toInt ≤ 9999 := i45; omega)), (show q_F (lx39.toInt ≤ t2_3.toInt + 10) from (show lx39.toInt ≤ t2_3.toInt + 10 from by have t1 : lx39.toInt ≤ t2_3.toInt + 7 := i47; omega)), (show q_F (lx34.toInt ≤ lx34.toInt + 2) from (show lx34.toInt ≤ lx34.toInt + 2 from by omega)), (show q_F (lx34.toInt ≤ lx34.toInt + 2) from (show lx34.toInt ≤ lx34.toInt + 2 from by omega)), (show q_F (t0_0.toInt ≤ t0_0.toInt + 1025) from (show t0_0.toInt ≤ t0_0.toInt + 1025 from by omega)), (show q_F (t0_0.toInt ≤ t0_0.toInt) from (show t0_0.toInt ≤ t0_0.toInt from by omega)), (show q_F (t0_1.toInt ≤ t0_1.toInt) from (show t0_1.toInt ≤ t0_1.toInt from by omega)), (show q_F (t0_1.toInt ≤ t0_1.toInt + 1) from (show t0_1.toInt ≤ t0_1.toInt + 1 from by omega)), (show q_F (lx39.toInt + t0_1.toInt ≤ 69999) from (show lx39.toInt + t0_1.toInt ≤ 69999 from by have t1 : t0_1.toInt ≤ 60000 := pre1; have t2 : lx39.toInt ≤ 9999 := i45; omega)), V, q_lw hl (q_lw1 0 rfl (q_lw1 1 rfl (q_lw1 2 rfl q_lw0))), hI, hF, hT0, hT1, hT2⟩
          ·
            have b161 : q_F (lx34.toInt = 103) := (q_eqI c159)
            refine lv_iload_n hx hb d_9_14_75 rfl (lv_at hl 0 rfl) ?_
            refine lv_iconst (v := 1) hx hb d_9_14_76 (by decide) ?_
            refine q_max C0 hl.1 rfl w_1890 w_803 w_7 w_804 ⟨Nat.le_of_ble_eq_true rfl, Nat.le_of_ble_eq_true rfl⟩ ⟨Nat.le_of_ble_eq_true rfl, Nat.le_of_ble_eq_true rfl⟩ d_9_14_77 ?_
            obtain ⟨a162, e163⟩ := q_nm (if lx39 < 1 then 1 else lx39 : Int32)
            refine q_ti (v := a162) e163 ?_
            have b164 : q_F (lx39.toInt ≤ a162.toInt ∧ 1 ≤ a162.toInt ∧ (a162.toInt = lx39.toInt ∨ a162.toInt = 1)) := (by rw [← e163]; show lx39.toInt ≤ (if lx39 < 1 then 1 else lx39 : Int32).toInt ∧ 1 ≤ (if lx39 < 1 then 1 else lx39 : Int32).toInt ∧ ((if lx39 < 1 then 1 else lx39 : Int32).toInt = lx39.toInt ∨ (if lx39 < 1 then 1 else lx39 : Int32).toInt = 1); exact (by have y1 : (1 : Int32).toInt = 1 := rfl; have z := s_max (a := lx39) (b := 1); omega))
            refine lv_istore_n (lv' := [(3, .int a162), (2, .int lx39), (1, .int lx34), (0, .ref (q 40))]) hx hb d_9_14_80 rfl hl (by decide) rfl (fun ls hl => ?_)
            refine lv_aload_n hx hb d_9_14_81 rfl (lv_at hl 3 rfl) ?_
            refine q_get (ci := 11) (j := 7) (v := .ref (q 36)) C0 V i_Pri rfl rfl hO20 (by decide) w_392 rfl d_9_14_82 ?_
            refine lv_iload_n hx hb d_9_14_85 rfl (lv_at hl 0 rfl) ?_
            refine lv_iconst (v := 2) hx hb d_9_14_86 (by decide) ?_
            refine q_gov V (q_runV (As := [.int a162, .int 2]) (rest := []) (d := 3) (mc := 0) (ms := 0) (ci := 7) C0 V rfl LV_Pri_225 (T_Dig_round_1 l D g q ws  a162 2 hI t0_0 t0_1 hT0 (by have y0 : (2 : Int32).toInt = 2 := rfl; have t1 : lx39.toInt ≤ a162.toInt ∧ 1 ≤ a162.toInt ∧ (a162.toInt = lx39.toInt ∨ a162.toInt = 1) := b164; omega) (by have y0 : (2 : Int32).toInt = 2 := rfl; have t1 : 0 ≤ t0_1.toInt + 100000 := pre0; omega) (by have y0 : (2 : Int32).toInt = 2 := rfl; have t1 : t0_1.toInt ≤ 60000 := pre1; omega) _) rfl rfl hT0 rfl hl.1 rfl (Nat.le_of_ble_eq_true rfl) ⟨by decide, by decide⟩ ⟨Nat.le_of_ble_eq_true rfl, Nat.le_of_ble_eq_true rfl⟩ d_9_14_87) (fun u165 H locs hp166 V => ?_)
            obtain ⟨hI, hu178, y168, y169, hO167, b170, b171, b172, b173, b174, b175, b176⟩ := hp166
            replace hO167 : u165[36]? = (some (q 36, .inr (7, [.int y168, .int y169, .ref (q 37)])) : Option (Nat × va_E)) := hO167
            replace b170 : q_F (0 ≤ y168.toInt) := b170
            replace b171 : q_F (y168.toInt ≤ a162.toInt + 1) := b171
            replace b172 : q_F (t0_0.toInt ≤ y168.toInt + 1025) := b172
            replace b173 : q_F (y168.toInt ≤ t0_0.toInt) := b173
            replace b174 : q_F (t0_1.toInt ≤ y169.toInt) := b174
            replace b175 : q_F (y169.toInt ≤ t0_1.toInt + 1) := b175
            replace b176 : q_F (y169.toInt ≤ y168.toInt + 200000) := b176
            replace hT1 := (hu178 _ (by decide)).trans hT1
            replace hT2 := (hu178 _ (by decide)).trans hT2
            replace hO20 := (hu178 _ (by decide)).trans hO20
            replace hF := q_uc hF hu178 (by simp)
            refine lv_aload_n hx hb d_9_14_90 rfl (lv_at hl 3 rfl) ?_
            refine q_get (ci := 11) (j := 7) (v := .ref (q 36)) C0 V i_Pri rfl rfl hO20 (by decide) w_392 rfl d_9_14_91 ?_
            refine q_get (ci := 7) (j := 1) (v := .int y169) C0 V i_Dig rfl rfl hO167 (by decide) w_268 rfl d_9_14_94 ?_
            refine lv_bipush (v := (-4)) hx hb d_9_14_97 (by decide) ?_
            refine q_join (X := Unit) (fun z H locs ls _ => q_Wd D g (va_A ws sz) s u165 H locs ∧ lv_has ls 5 [(3, .int a162), (0, .ref (q 40))]) (fun z => []) 117 0 0 ?_ ?_
            ·
              rintro _ H locs ls _ ⟨V, hl⟩
              replace hl : lv_has ls 5 [(3, .int a162), (0, .ref (q 40))] := hl
              refine lv_iconst (v := 0) hx hb d_9_14_117 (by decide) ?_
              refine lv_istore (lv' := [(4, .int 0), (3, .int a162), (0, .ref (q 40))]) hx hb d_9_14_118 hl (by decide) rfl (fun ls hl => ?_)
              refine lv_iload hx hb d_9_14_120 (lv_at hl 0 rfl) ?_
              refine lv_if_eq (tgt := 130) hx hb d_9_14_122 (by decide) (fun c183 => ?_) (fun c183 => absurd (by decide) c183)
              refine lv_bipush (v := 101) hx hb d_9_14_130 (by decide) ?_
              refine lv_istore_n (lv' := [(1, .int 101), (4, .int 0), (3, .int a162), (0, .ref (q 40))]) hx hb d_9_14_132 rfl hl (by decide) rfl (fun ls hl => ?_)
              refine lv_iload hx hb d_9_14_133 (lv_at hl 1 rfl) ?_
              refine lv_if_eq (tgt := 152) hx hb d_9_14_135 (by decide) (fun c184 => ?_) (fun c184 => absurd (by decide) c184)
              refine lv_iload_n hx hb d_9_14_152 rfl (lv_at hl 2 rfl) ?_
              refine lv_iconst (v := 1) hx hb d_9_14_153 (by decide) ?_
              refine lv_isub hx hb d_9_14_154 ?_
              obtain ⟨a185, e186⟩ := q_nm (a162 - 1 : Int32)
              refine q_ti (v := a185) e186 ?_
              have b187 : q_F (a185.toInt = a162.toInt - 1) := (by rw [← e186]; show (a162 - 1 : Int32).toInt = a162.toInt - 1; exact q_subI (x := a162.toInt) (y := 1) rfl (by decide) (by have t1 : lx39.toInt ≤ a162.toInt ∧ 1 ≤ a162.toInt ∧ (a162.toInt = lx39.toInt ∨ a162.toInt = 1) := b164; have _ := q_lo32 (x := a162); have _ := q_hi32 (x := a162); omega) (by have t1 : lx39.toInt ≤ a162.toInt ∧ 1 ≤ a162.toInt ∧ (a162.toInt = lx39.toInt ∨ a162.toInt = 1) := b164; have _ := q_lo32 (x := a162); have _ := q_hi32 (x := a162); omega))
              refine lv_istore_n (lv' := [(2, .int a185), (1, .int 101), (4, .int 0), (3, .int a162), (0, .ref (q 40))]) hx hb d_9_14_155 rfl hl (by decide) rfl (fun ls hl => ?_)
              exact J55 ((a185 : Int32), (101 : Int32), (y168 : Int32), (y169 : Int32)) _ _ _ _ ⟨(show q_F (0 ≤ a185.toInt) from (show 0 ≤ a185.toInt from by have t1 : lx39.toInt ≤ a162.toInt ∧ 1 ≤ a162.toInt ∧ (a162.toInt = lx39.toInt ∨ a162.toInt = 1) := b164; have t2 : a185.toInt = a162.toInt - 1 := b187; omega)), (show q_F (a185.toInt ≤ 10002) from (show a185.toInt ≤ 10002 from by have t1 : lx39.toInt ≤ 9999 := i45; have t2 : lx39.toInt ≤ a162.toInt ∧ 1 ≤ a162.toInt ∧ (a162.toInt = lx39.toInt ∨ a162.toInt = 1) := b164; have t3 : a185.toInt = a162.toInt - 1 := b187; omega)), (show q_F (0 ≤ y168.toInt) from (show 0 ≤ y168.toInt from by have t1 : 0 ≤ y168.toInt := b170; omega)), (show q_F (a185.toInt ≤ lx39.toInt + 4) from (show a185.toInt ≤ lx39.toInt + 4 from by have t1 : 0 ≤ lx39.toInt := i44; have t2 : lx39.toInt ≤ a162.toInt ∧ 1 ≤ a162.toInt ∧ (a162.toInt = lx39.toInt ∨ a162.toInt = 1) := b164; have t3 : a185.toInt = a162.toInt - 1 := b187; omega)), (show q_F (a185.toInt ≤ t0_1.toInt + 109999) from (show a185.toInt ≤ t0_1.toInt + 109999 from by have t1 : 0 ≤ t0_1.toInt + 100000 := pre0; have t2 : lx39.toInt ≤ 9999 := i45; have t3 : lx39.toInt ≤ a162.toInt ∧ 1 ≤ a162.toInt ∧ (a162.toInt = lx39.toInt ∨ a162.toInt = 1) := b164; have t4 : a185.toInt = a162.toInt - 1 := b187; omega)), (show q_F (a185.toInt ≤ t2_3.toInt + 10) from (show a185.toInt ≤ t2_3.toInt + 10 from by have t1 : -1 ≤ t2_3.toInt ∧ t2_3.toInt ≤ 9999 := btt2_3; have t2 : lx39.toInt ≤ t2_3.toInt + 7 := i47; have t3 : lx39.toInt ≤ a162.toInt ∧ 1 ≤ a162.toInt ∧ (a162.toInt = lx39.toInt ∨ a162.toInt = 1) := b164; have t4 : a185.toInt = a162.toInt - 1 := b187; omega)), (show q_F (lx34.toInt ≤ 101 + 2) from (show lx34.toInt ≤ 101 + 2 from by have t1 : lx34.toInt = 103 := b161; omega)), (show q_F (101 ≤ lx34.toInt + 2) from (show 101 ≤ lx34.toInt + 2 from by have t1 : lx34.toInt = 103 := b161; omega)), (show q_F (t0_0.toInt ≤ y168.toInt + 1025) from (show t0_0.toInt ≤ y168.toInt + 1025 from by have t1 : t0_0.toInt ≤ y168.toInt + 1025 := b172; omega)), (show q_F (y168.toInt ≤ t0_0.toInt) from (show y168.toInt ≤ t0_0.toInt from by have t1 : y168.toInt ≤ t0_0.toInt := b173; omega)), (show q_F (t0_1.toInt ≤ y169.toInt) from (show t0_1.toInt ≤ y169.toInt from by have t1 : t0_1.toInt ≤ y169.toInt := b174; omega)), (show q_F (y169.toInt ≤ t0_1.toInt + 1) from (show y169.toInt ≤ t0_1.toInt + 1 from by have t1 : y169.toInt ≤ t0_1.toInt + 1 := b175; omega)), (show q_F (a185.toInt + y169.toInt ≤ 69999) from (show a185.toInt + y169.toInt ≤ 69999 from by have t1 : t0_1.toInt ≤ 60000 := pre1; have t2 : lx39.toInt ≤ 9999 := i45; have t3 : lx39.toInt ≤ a162.toInt ∧ 1 ≤ a162.toInt ∧ (a162.toInt = lx39.toInt ∨ a162.toInt = 1) := b164; have t4 : y169.toInt ≤ t0_1.toInt + 1 := b175; have t5 : a185.toInt = a162.toInt - 1 := b187; omega)), V, q_lw hl (q_lw1 0 rfl (q_lw1 1 rfl (q_lw1 4 rfl q_lw0))), hI, hF, hO167, hT1, hT2⟩
            ·
              intro J182
              refine lv_icmp_lt (tgt := 117) hx hb d_9_14_99 (by decide) (fun c188 => ?_) (fun c188 => ?_)
              ·
                have b189 : q_F (y169.toInt < (-4)) := (q_ltI c188)
                exact J182 (()) _ _ _ u165 ⟨V, q_lw hl (q_lw1 0 rfl (q_lw1 3 rfl q_lw0))⟩
              ·
                have b190 : q_F ((-4) ≤ y169.toInt) := (q_nltI c188)
                refine lv_aload_n hx hb d_9_14_102 rfl (lv_at hl 3 rfl) ?_
                refine q_get (ci := 11) (j := 7) (v := .ref (q 36)) C0 V i_Pri rfl rfl hO20 (by decide) w_392 rfl d_9_14_103 ?_
                refine q_get (ci := 7) (j := 1) (v := .int y169) C0 V i_Dig rfl rfl hO167 (by decide) w_268 rfl d_9_14_106 ?_
                refine lv_iload_n hx hb d_9_14_109 rfl (lv_at hl 0 rfl) ?_
                refine lv_icmp_ge (tgt := 117) hx hb d_9_14_110 (by decide) (fun c191 => ?_) (fun c191 => ?_)
                ·
                  have b192 : q_F (a162.toInt ≤ y169.toInt) := (q_leI c191)
                  exact J182 (()) _ _ _ u165 ⟨V, q_lw hl (q_lw1 0 rfl (q_lw1 3 rfl q_lw0))⟩
                ·
                  have b193 : q_F (y169.toInt < a162.toInt) := (q_nleI c191)
                  refine lv_iconst (v := 1) hx hb d_9_14_113 (by decide) ?_
                  refine lv_goto (tgt := 118) hx hb d_9_14_114 (by decide) ?_
                  refine lv_istore (lv' := [(4, .int 1), (3, .int a162), (2, .int lx39), (1, .int lx34), (0, .ref (q 40))]) hx hb d_9_14_118 hl (by decide) rfl (fun ls hl => ?_)
                  refine lv_iload hx hb d_9_14_120 (lv_at hl 0 rfl) ?_
                  refine lv_if_eq (tgt := 130) hx hb d_9_14_122 (by decide) (fun c194 => absurd c194 (by decide)) (fun c194 => ?_)
                  refine lv_bipush (v := 102) hx hb d_9_14_125 (by decide) ?_
                  refine lv_goto (tgt := 132) hx hb d_9_14_127 (by decide) ?_
                  refine lv_istore_n (lv' := [(1, .int 102), (4, .int 1), (3, .int a162), (2, .int lx39), (0, .ref (q 40))]) hx hb d_9_14_132 rfl hl (by decide) rfl (fun ls hl => ?_)
                  refine lv_iload hx hb d_9_14_133 (lv_at hl 1 rfl) ?_
                  refine lv_if_eq (tgt := 152) hx hb d_9_14_135 (by decide) (fun c195 => absurd c195 (by decide)) (fun c195 => ?_)
                  refine lv_iload_n hx hb d_9_14_138 rfl (lv_at hl 2 rfl) ?_
                  refine lv_iconst (v := 1) hx hb d_9_14_139 (by decide) ?_
                  refine lv_isub hx hb d_9_14_140 ?_
                  obtain ⟨a196, e197⟩ := q_nm (a162 - 1 : Int32)
                  refine q_ti (v := a196) e197 ?_
                  have b198 : q_F (a196.toInt = a162.toInt - 1) := (by rw [← e197]; show (a162 - 1 : Int32).toInt = a162.toInt - 1; exact q_subI (x := a162.toInt) (y := 1) rfl (by decide) (by have t1 : lx39.toInt ≤ a162.toInt ∧ 1 ≤ a162.toInt ∧ (a162.toInt = lx39.toInt ∨ a162.toInt = 1) := b164; have _ := q_lo32 (x := a162); have _ := q_hi32 (x := a162); omega) (by have t1 : lx39.toInt ≤ a162.toInt ∧ 1 ≤ a162.toInt ∧ (a162.toInt = lx39.toInt ∨ a162.toInt = 1) := b164; have _ := q_lo32 (x := a162); have _ := q_hi32 (x := a162); omega))
                  refine lv_aload_n hx hb d_9_14_141 rfl (lv_at hl 4 rfl) ?_
                  refine q_get (ci := 11) (j := 7) (v := .ref (q 36)) C0 V i_Pri rfl rfl hO20 (by decide) w_392 rfl d_9_14_142 ?_
                  refine q_get (ci := 7) (j := 1) (v := .int y169) C0 V i_Dig rfl rfl hO167 (by decide) w_268 rfl d_9_14_145 ?_
                  refine lv_isub hx hb d_9_14_148 ?_
                  obtain ⟨a199, e200⟩ := q_nm (a196 - y169 : Int32)
                  refine q_ti (v := a199) e200 ?_
                  have b201 : q_F (a199.toInt = a196.toInt - y169.toInt) := (by rw [← e200]; show (a196 - y169 : Int32).toInt = a196.toInt - y169.toInt; exact q_subI (x := a196.toInt) (y := y169.toInt) rfl rfl (by have t1 : y169.toInt < a162.toInt := b193; have t2 : a196.toInt = a162.toInt - 1 := b198; have t3 : -1000000 ≤ t0_1.toInt ∧ t0_1.toInt ≤ 1000000 := btt0_1; have t4 : lx39.toInt ≤ 9999 := i45; have t5 : lx39.toInt ≤ a162.toInt ∧ 1 ≤ a162.toInt ∧ (a162.toInt = lx39.toInt ∨ a162.toInt = 1) := b164; have t6 : t0_1.toInt ≤ y169.toInt := b174; omega) (by have t1 : y169.toInt < a162.toInt := b193; have t2 : a196.toInt = a162.toInt - 1 := b198; have t3 : -1000000 ≤ t0_1.toInt ∧ t0_1.toInt ≤ 1000000 := btt0_1; have t4 : lx39.toInt ≤ 9999 := i45; have t5 : lx39.toInt ≤ a162.toInt ∧ 1 ≤ a162.toInt ∧ (a162.toInt = lx39.toInt ∨ a162.toInt = 1) := b164; have t6 : t0_1.toInt ≤ y169.toInt := b174; omega))
                  refine lv_goto (tgt := 155) hx hb d_9_14_149 (by decide) ?_
                  refine lv_istore_n (lv' := [(2, .int a199), (1, .int 102), (4, .int 1), (3, .int a162), (0, .ref (q 40))]) hx hb d_9_14_155 rfl hl (by decide) rfl (fun ls hl => ?_)
                  exact J55 ((a199 : Int32), (102 : Int32), (y168 : Int32), (y169 : Int32)) _ _ _ _ ⟨(show q_F (0 ≤ a199.toInt) from (show 0 ≤ a199.toInt from by have t1 : y169.toInt < a162.toInt := b193; have t2 : a196.toInt = a162.toInt - 1 := b198; have t3 : a199.toInt = a196.toInt - y169.toInt := b201; omega)), (show q_F (a199.toInt ≤ 10002) from (show a199.toInt ≤ 10002 from by have t1 : lx39.toInt ≤ 9999 := i45; have t2 : lx39.toInt ≤ a162.toInt ∧ 1 ≤ a162.toInt ∧ (a162.toInt = lx39.toInt ∨ a162.toInt = 1) := b164; have t3 : (-4) ≤ y169.toInt := b190; have t4 : a196.toInt = a162.toInt - 1 := b198; have t5 : a199.toInt = a196.toInt - y169.toInt := b201; omega)), (show q_F (0 ≤ y168.toInt) from (show 0 ≤ y168.toInt from by have t1 : 0 ≤ y168.toInt := b170; omega)), (show q_F (a199.toInt ≤ lx39.toInt + 4) from (show a199.toInt ≤ lx39.toInt + 4 from by have t1 : 0 ≤ lx39.toInt := i44; have t2 : lx39.toInt ≤ a162.toInt ∧ 1 ≤ a162.toInt ∧ (a162.toInt = lx39.toInt ∨ a162.toInt = 1) := b164; have t3 : (-4) ≤ y169.toInt := b190; have t4 : a196.toInt = a162.toInt - 1 := b198; have t5 : a199.toInt = a196.toInt - y169.toInt := b201; omega)), (show q_F (a199.toInt ≤ t0_1.toInt + 109999) from (show a199.toInt ≤ t0_1.toInt + 109999 from by have t1 : lx39.toInt ≤ 9999 := i45; have t2 : lx39.toInt ≤ a162.toInt ∧ 1 ≤ a162.toInt ∧ (a162.toInt = lx39.toInt ∨ a162.toInt = 1) := b164; have t3 : y169.toInt ≤ t0_1.toInt + 1 := b175; have t4 : (-4) ≤ y169.toInt := b190; have t5 : a196.toInt = a162.toInt - 1 := b198; have t6 : a199.toInt = a196.toInt - y169.toInt := b201; omega)), (show q_F (a199.toInt ≤ t2_3.toInt + 10) from (show a199.toInt ≤ t2_3.toInt + 10 from by have t1 : -1 ≤ t2_3.toInt ∧ t2_3.toInt ≤ 9999 := btt2_3; have t2 : lx39.toInt ≤ t2_3.toInt + 7 := i47; have t3 : lx39.toInt ≤ a162.toInt ∧ 1 ≤ a162.toInt ∧ (a162.toInt = lx39.toInt ∨ a162.toInt = 1) := b164; have t4 : (-4) ≤ y169.toInt := b190; have t5 : a196.toInt = a162.toInt - 1 := b198; have t6 : a199.toInt = a196.toInt - y169.toInt := b201; omega)), (show q_F (lx34.toInt ≤ 102 + 2) from (show lx34.toInt ≤ 102 + 2 from by have t1 : lx34.toInt = 103 := b161; omega)), (show q_F (102 ≤ lx34.toInt + 2) from (show 102 ≤ lx34.toInt + 2 from by have t1 : lx34.toInt = 103 := b161; omega)), (show q_F (t0_0.toInt ≤ y168.toInt + 1025) from (show t0_0.toInt ≤ y168.toInt + 1025 from by have t1 : t0_0.toInt ≤ y168.toInt + 1025 := b172; omega)), (show q_F (y168.toInt ≤ t0_0.toInt) from (show y168.toInt ≤ t0_0.toInt from by have t1 : y168.toInt ≤ t0_0.toInt := b173; omega)), (show q_F (t0_1.toInt ≤ y169.toInt) from (show t0_1.toInt ≤ y169.toInt from by have t1 : t0_1.toInt ≤ y169.toInt := b174; omega)), (show q_F (y169.toInt ≤ t0_1.toInt + 1) from (show y169.toInt ≤ t0_1.toInt + 1 from by have t1 : y169.toInt ≤ t0_1.toInt + 1 := b175; omega)), (show q_F (a199.toInt + y169.toInt ≤ 69999) from (show a199.toInt + y169.toInt ≤ 69999 from by have t1 : lx39.toInt ≤ 9999 := i45; have t2 : lx39.toInt ≤ a162.toInt ∧ 1 ≤ a162.toInt ∧ (a162.toInt = lx39.toInt ∨ a162.toInt = 1) := b164; have t3 : a196.toInt = a162.toInt - 1 := b198; have t4 : a199.toInt = a196.toInt - y169.toInt := b201; omega)), V, q_lw hl (q_lw1 0 rfl (q_lw1 1 rfl (q_lw1 4 rfl q_lw0))), hI, hF, hO167, hT1, hT2⟩
        ·
          have b202 : q_F (lx34.toInt = 100) := (q_eqI c157)
          refine lv_bipush (v := 102) hx hb d_9_14_61 (by decide) ?_
          refine lv_istore_n (lv' := [(1, .int 102), (2, .int lx39), (0, .ref (q 40))]) hx hb d_9_14_63 rfl hl (by decide) rfl (fun ls hl => ?_)
          refine lv_iconst (v := 0) hx hb d_9_14_64 (by decide) ?_
          refine lv_istore_n (lv' := [(2, .int 0), (1, .int 102), (0, .ref (q 40))]) hx hb d_9_14_65 rfl hl (by decide) rfl (fun ls hl => ?_)
          refine lv_goto (tgt := 156) hx hb d_9_14_66 (by decide) ?_
          exact J55 ((0 : Int32), (102 : Int32), (t0_0 : Int32), (t0_1 : Int32)) _ _ _ _ ⟨(show q_F (0 ≤ 0) from (show 0 ≤ 0 from by omega)), (show q_F (0 ≤ 10002) from (show 0 ≤ 10002 from by omega)), (show q_F (0 ≤ t0_0.toInt) from (show 0 ≤ t0_0.toInt from by have t1 : 0 ≤ t0_0.toInt ∧ t0_0.toInt ≤ 1026 := btt0_0; omega)), (show q_F (0 ≤ lx39.toInt + 4) from (show 0 ≤ lx39.toInt + 4 from by have t1 : 0 ≤ lx39.toInt := i44; omega)), (show q_F (0 ≤ t0_1.toInt + 109999) from (show 0 ≤ t0_1.toInt + 109999 from by have t1 : 0 ≤ t0_1.toInt + 100000 := pre0; omega)), (show q_F (0 ≤ t2_3.toInt + 10) from (show 0 ≤ t2_3.toInt + 10 from by have t1 : -1 ≤ t2_3.toInt ∧ t2_3.toInt ≤ 9999 := btt2_3; omega)), (show q_F (lx34.toInt ≤ 102 + 2) from (show lx34.toInt ≤ 102 + 2 from by have t1 : lx34.toInt = 100 := b202; omega)), (show q_F (102 ≤ lx34.toInt + 2) from (show 102 ≤ lx34.toInt + 2 from by have t1 : lx34.toInt = 100 := b202; omega)), (show q_F (t0_0.toInt ≤ t0_0.toInt + 1025) from (show t0_0.toInt ≤ t0_0.toInt + 1025 from by omega)), (show q_F (t0_0.toInt ≤ t0_0.toInt) from (show t0_0.toInt ≤ t0_0.toInt from by omega)), (show q_F (t0_1.toInt ≤ t0_1.toInt) from (show t0_1.toInt ≤ t0_1.toInt from by omega)), (show q_F (t0_1.toInt ≤ t0_1.toInt + 1) from (show t0_1.toInt ≤ t0_1.toInt + 1 from by omega)), (show q_F (0 + t0_1.toInt ≤ 69999) from (show 0 + t0_1.toInt ≤ 69999 from by have t1 : t0_1.toInt ≤ 60000 := pre1; omega)), V, q_lw hl (q_lw1 0 rfl (q_lw1 1 rfl (q_lw1 2 rfl q_lw0))), hI, hF, hT0, hT1, hT2⟩
    ·
      intro J43
      refine lv_icmp_ne (tgt := 47) hx hb d_9_14_39 (by decide) (fun c203 => ?_) (fun c203 => ?_)
      ·
        have b204 : q_F (t2_3.toInt ≠ (-1)) := (q_neI c203)
        refine lv_aload_n hx hb d_9_14_47 rfl (lv_at hl 1 rfl) ?_
        refine q_get (ci := 11) (j := 6) (v := .ref (q 47)) C0 V i_Pri rfl rfl hO20 (by decide) w_391 rfl d_9_14_48 ?_
        refine q_get (ci := 10) (j := 3) (v := .int t2_3) C0 V i_Dir rfl rfl hT2 (by decide) w_360 rfl d_9_14_51 ?_
        exact J43 ((t2_3 : Int32)) _ _ _ ws ⟨(show q_F (0 ≤ t2_3.toInt) from (show 0 ≤ t2_3.toInt from by have t1 : -1 ≤ t2_3.toInt ∧ t2_3.toInt ≤ 9999 := btt2_3; have t2 : t2_3.toInt ≠ (-1) := b204; omega)), (show q_F (t2_3.toInt ≤ 9999) from (show t2_3.toInt ≤ 9999 from by have t1 : -1 ≤ t2_3.toInt ∧ t2_3.toInt ≤ 9999 := btt2_3; omega)), (show q_F (t2_3.toInt ≤ t2_3.toInt) from (show t2_3.toInt ≤ t2_3.toInt from by omega)), (show q_F (t2_3.toInt ≤ t2_3.toInt + 7) from (show t2_3.toInt ≤ t2_3.toInt + 7 from by omega)), V, q_lw hl (q_lw1 0 rfl (q_lw1 1 rfl q_lw0))⟩
      ·
        have b205 : q_F (t2_3.toInt = (-1)) := (q_eqI c203)
        refine lv_bipush (v := 6) hx hb d_9_14_42 (by decide) ?_
        refine lv_goto (tgt := 54) hx hb d_9_14_44 (by decide) ?_
        exact J43 ((6 : Int32)) _ _ _ ws ⟨(show q_F (0 ≤ 6) from (show 0 ≤ 6 from by omega)), (show q_F (6 ≤ 9999) from (show 6 ≤ 9999 from by omega)), (show q_F (t2_3.toInt ≤ 6) from (show t2_3.toInt ≤ 6 from by have t1 : t2_3.toInt = (-1) := b205; omega)), (show q_F (6 ≤ t2_3.toInt + 7) from (show 6 ≤ t2_3.toInt + 7 from by have t1 : -1 ≤ t2_3.toInt ∧ t2_3.toInt ≤ 9999 := btt2_3; omega)), V, q_lw hl (q_lw1 0 rfl (q_lw1 1 rfl q_lw0))⟩
  ·
    intro J38
    refine lv_if_eq (tgt := 23) hx hb d_9_14_7 (by decide) (fun c206 => ?_) (fun c206 => ?_)
    ·
      have b207 : q_F (a30.toInt = 0) := (q_eqI c206)
      refine lv_aload_n hx hb d_9_14_23 rfl (lv_at hl 0 rfl) ?_
      refine q_get (ci := 11) (j := 6) (v := .ref (q 47)) C0 V i_Pri rfl rfl hO20 (by decide) w_391 rfl d_9_14_24 ?_
      refine q_get (ci := 10) (j := 4) (v := .int t2_4) C0 V i_Dir rfl rfl hT2 (by decide) w_362 rfl d_9_14_27 ?_
      exact J38 ((t2_4 : Int32)) _ _ _ ws ⟨V, q_lw hl (q_lw1 0 rfl q_lw0)⟩
    ·
      have b208 : q_F (a30.toInt ≠ 0) := (q_neI c206)
      refine lv_aload_n hx hb d_9_14_10 rfl (lv_at hl 0 rfl) ?_
      refine q_get (ci := 11) (j := 6) (v := .ref (q 47)) C0 V i_Pri rfl rfl hO20 (by decide) w_391 rfl d_9_14_11 ?_
      refine q_get (ci := 10) (j := 4) (v := .int t2_4) C0 V i_Dir rfl rfl hT2 (by decide) w_362 rfl d_9_14_14 ?_
      refine lv_bipush (v := 32) hx hb d_9_14_17 (by decide) ?_
      refine lv_iadd hx hb d_9_14_19 ?_
      obtain ⟨a209, e210⟩ := q_nm (t2_4 + 32 : Int32)
      refine q_ti (v := a209) e210 ?_
      refine lv_goto (tgt := 30) hx hb d_9_14_20 (by decide) ?_
      exact J38 ((a209 : Int32)) _ _ _ ws ⟨V, q_lw hl (q_lw1 0 rfl q_lw0)⟩
theorem d_9_11_0 : decode prog_9_method_11_code 0 = .ok (.aload_n 0, 1) := by decide +kernel
theorem d_9_11_1 : decode prog_9_method_11_code 1 = .ok (.getfield 11, 3) := by decide +kernel
theorem d_9_11_4 : decode prog_9_method_11_code 4 = .ok (.iload_n 1, 1) := by decide +kernel
theorem d_9_11_5 : decode prog_9_method_11_code 5 = .ok (.iaload, 1) := by decide +kernel
theorem d_9_11_6 : decode prog_9_method_11_code 6 = .ok (.tableswitch 117 0 4 #[34, 46, 74, 117, 91], 34) := by decide +kernel
theorem d_9_11_40 : decode prog_9_method_11_code 40 = .ok (.aload_n 0, 1) := by decide +kernel
theorem d_9_11_41 : decode prog_9_method_11_code 41 = .ok (.getfield 31, 3) := by decide +kernel
theorem d_9_11_44 : decode prog_9_method_11_code 44 = .ok (.ldc 177, 2) := by decide +kernel
theorem d_9_11_46 : decode prog_9_method_11_code 46 = .ok (.invokevirtual 165, 3) := by decide +kernel
theorem d_9_11_49 : decode prog_9_method_11_code 49 = .ok (.goto 132, 3) := by decide +kernel
theorem d_9_11_181 : decode prog_9_method_11_code 181 = .ok (.return_, 1) := by decide +kernel
theorem d_9_11_52 : decode prog_9_method_11_code 52 = .ok (.aload_n 0, 1) := by decide +kernel
theorem d_9_11_53 : decode prog_9_method_11_code 53 = .ok (.getfield 31, 3) := by decide +kernel
theorem d_9_11_56 : decode prog_9_method_11_code 56 = .ok (.aload_n 0, 1) := by decide +kernel
theorem d_9_11_57 : decode prog_9_method_11_code 57 = .ok (.getfield 15, 3) := by decide +kernel
theorem d_9_11_60 : decode prog_9_method_11_code 60 = .ok (.iload_n 1, 1) := by decide +kernel
theorem d_9_11_61 : decode prog_9_method_11_code 61 = .ok (.laload, 1) := by decide +kernel
theorem d_9_11_62 : decode prog_9_method_11_code 62 = .ok (.lconst 0, 1) := by decide +kernel
theorem d_9_11_63 : decode prog_9_method_11_code 63 = .ok (.lcmp, 1) := by decide +kernel
theorem d_9_11_64 : decode prog_9_method_11_code 64 = .ok (.ifCond .ne 8, 3) := by decide +kernel
theorem d_9_11_72 : decode prog_9_method_11_code 72 = .ok (.ldc 163, 2) := by decide +kernel
theorem d_9_11_74 : decode prog_9_method_11_code 74 = .ok (.invokevirtual 165, 3) := by decide +kernel
theorem d_9_11_77 : decode prog_9_method_11_code 77 = .ok (.goto 104, 3) := by decide +kernel
theorem d_9_11_67 : decode prog_9_method_11_code 67 = .ok (.ldc 161, 2) := by decide +kernel
theorem d_9_11_69 : decode prog_9_method_11_code 69 = .ok (.goto 5, 3) := by decide +kernel
theorem d_9_11_80 : decode prog_9_method_11_code 80 = .ok (.aload_n 0, 1) := by decide +kernel
theorem d_9_11_81 : decode prog_9_method_11_code 81 = .ok (.getfield 31, 3) := by decide +kernel
theorem d_9_11_84 : decode prog_9_method_11_code 84 = .ok (.aload_n 0, 1) := by decide +kernel
theorem d_9_11_85 : decode prog_9_method_11_code 85 = .ok (.getfield 15, 3) := by decide +kernel
theorem d_9_11_88 : decode prog_9_method_11_code 88 = .ok (.iload_n 1, 1) := by decide +kernel
theorem d_9_11_89 : decode prog_9_method_11_code 89 = .ok (.laload, 1) := by decide +kernel
theorem d_9_11_90 : decode prog_9_method_11_code 90 = .ok (.l2i, 1) := by decide +kernel
theorem d_9_11_91 : decode prog_9_method_11_code 91 = .ok (.invokevirtual 113, 3) := by decide +kernel
theorem d_9_11_94 : decode prog_9_method_11_code 94 = .ok (.goto 87, 3) := by decide +kernel
theorem d_9_11_123 : decode prog_9_method_11_code 123 = .ok (.aload_n 0, 1) := by decide +kernel
theorem d_9_11_124 : decode prog_9_method_11_code 124 = .ok (.getfield 15, 3) := by decide +kernel
theorem d_9_11_127 : decode prog_9_method_11_code 127 = .ok (.iload_n 1, 1) := by decide +kernel
theorem d_9_11_128 : decode prog_9_method_11_code 128 = .ok (.laload, 1) := by decide +kernel
theorem d_9_11_129 : decode prog_9_method_11_code 129 = .ok (.lconst 0, 1) := by decide +kernel
theorem d_9_11_130 : decode prog_9_method_11_code 130 = .ok (.lcmp, 1) := by decide +kernel
theorem d_9_11_143 : decode prog_9_method_11_code 143 = .ok (.aload_n 0, 1) := by decide +kernel
theorem d_9_11_144 : decode prog_9_method_11_code 144 = .ok (.getfield 38, 3) := by decide +kernel
theorem d_9_11_147 : decode prog_9_method_11_code 147 = .ok (.aload_n 0, 1) := by decide +kernel
theorem d_9_11_148 : decode prog_9_method_11_code 148 = .ok (.getfield 15, 3) := by decide +kernel
theorem d_9_11_151 : decode prog_9_method_11_code 151 = .ok (.iload_n 1, 1) := by decide +kernel
theorem d_9_11_152 : decode prog_9_method_11_code 152 = .ok (.laload, 1) := by decide +kernel
theorem d_9_11_153 : decode prog_9_method_11_code 153 = .ok (.aload_n 0, 1) := by decide +kernel
theorem d_9_11_154 : decode prog_9_method_11_code 154 = .ok (.getfield 19, 3) := by decide +kernel
theorem d_9_11_157 : decode prog_9_method_11_code 157 = .ok (.iload_n 1, 1) := by decide +kernel
theorem d_9_11_158 : decode prog_9_method_11_code 158 = .ok (.iaload, 1) := by decide +kernel
theorem d_9_11_159 : decode prog_9_method_11_code 159 = .ok (.invokevirtual 189, 3) := by decide +kernel
set_option maxRecDepth 100000 in
theorem w_1638 : (Cond.code ({ cls := "NumberHouse$Digits", name := "fillLong", desc := "(JI)V" } : MethodName) prog_5_method_3_code (7 : Nat) (none : Option ClassFile.FieldType)) ∈ q_tbl := q_of7 198 rfl (by decide +kernel)
set_option maxRecDepth 100000 in
theorem w_1867 : (Cond.methodLink "NumberHouse$Printer" (189 : Nat) ({ cls := "NumberHouse$Digits", name := "fillLong", desc := "(JI)V" } : MethodName)) ∈ q_tbl := q_of8 187 rfl (by decide +kernel)
set_option maxRecDepth 100000 in
theorem w_1636 : (Cond.instanceMethod ({ cls := "NumberHouse$Digits", name := "fillLong", desc := "(JI)V" } : MethodName)) ∈ q_tbl := q_of7 196 rfl (by decide +kernel)
set_option maxRecDepth 100000 in
theorem w_1637 : (Cond.selects "NumberHouse$Digits" ({ cls := "NumberHouse$Digits", name := "fillLong", desc := "(JI)V" } : MethodName) ({ cls := "NumberHouse$Digits", name := "fillLong", desc := "(JI)V" } : MethodName)) ∈ q_tbl := q_of7 197 rfl (by decide +kernel)
theorem LV_Pri_189 : q_LV "NumberHouse$Printer" 189 y_Dig_fillLong prog_5_method_3_code 7 none 2 := ⟨w_1638, w_9, w_1867, w_1636, w_1637, ⟨by decide, by decide, by decide +kernel⟩⟩
theorem d_9_11_162 : decode prog_9_method_11_code 162 = .ok (.aload_n 0, 1) := by decide +kernel
theorem d_9_11_163 : decode prog_9_method_11_code 163 = .ok (.getfield 38, 3) := by decide +kernel
theorem d_9_11_166 : decode prog_9_method_11_code 166 = .ok (.aload_n 0, 1) := by decide +kernel
theorem d_9_11_167 : decode prog_9_method_11_code 167 = .ok (.getfield 31, 3) := by decide +kernel
theorem d_9_11_170 : decode prog_9_method_11_code 170 = .ok (.aload_n 0, 1) := by decide +kernel
theorem d_9_11_171 : decode prog_9_method_11_code 171 = .ok (.getfield 19, 3) := by decide +kernel
theorem d_9_11_174 : decode prog_9_method_11_code 174 = .ok (.iload_n 1, 1) := by decide +kernel
theorem d_9_11_175 : decode prog_9_method_11_code 175 = .ok (.iaload, 1) := by decide +kernel
theorem d_9_11_176 : decode prog_9_method_11_code 176 = .ok (.iconst 0, 1) := by decide +kernel
theorem d_9_11_177 : decode prog_9_method_11_code 177 = .ok (.iconst 0, 1) := by decide +kernel
theorem d_9_11_178 : decode prog_9_method_11_code 178 = .ok (.invokevirtual 204, 3) := by decide +kernel
theorem d_9_11_131 : decode prog_9_method_11_code 131 = .ok (.ifCond .ge 12, 3) := by decide +kernel
theorem d_9_11_134 : decode prog_9_method_11_code 134 = .ok (.aload_n 0, 1) := by decide +kernel
theorem d_9_11_135 : decode prog_9_method_11_code 135 = .ok (.getfield 31, 3) := by decide +kernel
theorem d_9_11_138 : decode prog_9_method_11_code 138 = .ok (.bipush 45, 2) := by decide +kernel
theorem d_9_11_140 : decode prog_9_method_11_code 140 = .ok (.invokevirtual 113, 3) := by decide +kernel
theorem d_9_11_97 : decode prog_9_method_11_code 97 = .ok (.aload_n 0, 1) := by decide +kernel
theorem d_9_11_98 : decode prog_9_method_11_code 98 = .ok (.getfield 31, 3) := by decide +kernel
theorem d_9_11_101 : decode prog_9_method_11_code 101 = .ok (.aload_n 0, 1) := by decide +kernel
theorem d_9_11_102 : decode prog_9_method_11_code 102 = .ok (.getfield 24, 3) := by decide +kernel
theorem d_9_11_105 : decode prog_9_method_11_code 105 = .ok (.iload_n 1, 1) := by decide +kernel
theorem d_9_11_106 : decode prog_9_method_11_code 106 = .ok (.aaload, 1) := by decide +kernel
theorem d_9_11_107 : decode prog_9_method_11_code 107 = .ok (.iconst 0, 1) := by decide +kernel
theorem d_9_11_108 : decode prog_9_method_11_code 108 = .ok (.aload_n 0, 1) := by decide +kernel
theorem d_9_11_109 : decode prog_9_method_11_code 109 = .ok (.getfield 24, 3) := by decide +kernel
theorem d_9_11_112 : decode prog_9_method_11_code 112 = .ok (.iload_n 1, 1) := by decide +kernel
theorem d_9_11_113 : decode prog_9_method_11_code 113 = .ok (.aaload, 1) := by decide +kernel
theorem d_9_11_114 : decode prog_9_method_11_code 114 = .ok (.getfield 73, 3) := by decide +kernel
theorem d_9_11_117 : decode prog_9_method_11_code 117 = .ok (.invokestatic 76, 3) := by decide +kernel
theorem d_9_11_120 : decode prog_9_method_11_code 120 = .ok (.goto 61, 3) := by decide +kernel
def y_Pri_writeAnything : MethodName := ⟨"NumberHouse$Printer", "writeAnything", "(I)V"⟩
set_option maxRecDepth 100000 in
set_option maxHeartbeats 4000000 in
theorem T_Pri_writeAnything (l : Launch) (D : va_G) (g : Nat → ClassId) (q : Nat → Nat) (ws : va_W) (x2 : Int32) (hI : q_I (nsh g q) q ws) (t0_0 : Int32) (t0_1 : Int32) (t0_2 : Int32) (t0_3 : Int32) (hT0 : ws[40]? = (some (q 40, .inr (11, [.int t0_0, .ref (q 41), .ref (q 42), .ref (q 43), .ref (q 44), .ref (q 1), .ref (q 47), .ref (q 36), .ref (q 45), .int t0_1, .int t0_2, .int t0_3])) : Option (Nat × va_E))) (t1_0 : Int32) (hT1 : ws[45]? = (some (q 45, .inr (1, [.ref (q 46), .int 4104, .int t1_0])) : Option (Nat × va_E))) (pre0 : 0 ≤ x2.toInt) (pre1 : x2.toInt ≤ 8) (pre2 : t1_0.toInt ≤ 10) : q_mV l y_Pri_writeAnything prog_9_method_11_code 2 6 0 0 D g [.ref (q 40), .int x2] ws (fun u => q_I (nsh g q) q u ∧ q_un ws u [36, 37, 45, 46] ∧ ∃ (u1_0 : Int32), u[45]? = (some (q 45, .inr (1, [.ref (q 46), .int 4104, .int u1_0])) : Option (Nat × va_E)) ∧ (t1_0.toInt ≤ u1_0.toInt) ∧ (u1_0.toInt ≤ t1_0.toInt + 420004)) := by
  intro sz
  refine q_into (by decide) (Nat.le_of_ble_eq_true rfl) ?_
  intro p e s m below meth c ls hsz C0 V hl
  have hx := C0.1
  have hb := C0.2.1
  obtain ⟨yy0_0, yy0_1, yy0_2, yy0_3, hh0, btt0_0, btt0_1, btt0_3⟩ := n_o40 hI
  obtain ⟨rfl, rfl, rfl, rfl⟩ : t0_0 = yy0_0 ∧ t0_1 = yy0_1 ∧ t0_2 = yy0_2 ∧ t0_3 = yy0_3 := by have z := Option.some.inj (hT0.symm.trans hh0); simpa using z
  replace btt0_0 : q_F (0 ≤ t0_0.toInt ∧ t0_0.toInt ≤ 9) := btt0_0
  replace btt0_1 : q_F (-1 ≤ t0_1.toInt ∧ t0_1.toInt ≤ 1000000) := btt0_1
  replace btt0_3 : q_F (-1 ≤ t0_3.toInt ∧ t0_3.toInt ≤ 8) := btt0_3
  obtain ⟨yy1_0, hh1, btt1_0⟩ := n_shO hI (n_h45 g q)
  obtain ⟨rfl⟩ : t1_0 = yy1_0 := by have z := Option.some.inj (hT1.symm.trans hh1); simpa using z
  replace btt1_0 : q_F (0 ≤ t1_0.toInt ∧ t1_0.toInt ≤ 1000000) := btt1_0
  replace pre0 : q_F (0 ≤ x2.toInt) := pre0
  replace pre1 : q_F (x2.toInt ≤ 8) := pre1
  replace pre2 : q_F (t1_0.toInt ≤ 10) := pre2
  have hF : q_un ws ws [36, 37, 45, 46] := q_u0
  have hl : lv_has ls 2 [(0, .ref (q 40)), (1, .int x2)] := hl
  refine lv_aload_n hx hb d_9_11_0 rfl (lv_at hl 0 rfl) ?_
  refine q_get (ci := 11) (j := 1) (v := .ref (q 41)) C0 V i_Pri rfl rfl hT0 (by decide) w_386 rfl d_9_11_1 ?_
  refine lv_iload_n hx hb d_9_11_4 rfl (lv_at hl 1 rfl) ?_
  obtain ⟨f12, hA13, bf14⟩ := n_ai hI (n_s41 g q)
  refine q_iald C0 V hA13 (q_ix (x := x2.toInt) rfl (by have t1 : 0 ≤ x2.toInt := pre0; omega) (by have t1 : 0 ≤ x2.toInt := pre0; have t2 : x2.toInt ≤ 8 := pre1; omega)) d_9_11_5 ?_
  obtain ⟨a15, e16⟩ := q_nm (f12 x2.toNatClampNeg : Int32)
  refine q_ti (v := a15) e16 ?_
  by_cases c17 : a15 = 0
  ·
    have b18 : q_F (a15.toInt = 0) := (q_eqI c17)
    refine q_ti (v := 0) c17 ?_
    refine lv_tableIn (tgt := 40) (off := 34) hx hb d_9_11_6 (by decide) (by decide) (by decide) (by decide) ?_
    refine lv_aload_n hx hb d_9_11_40 rfl (lv_at hl 0 rfl) ?_
    refine q_get (ci := 11) (j := 8) (v := .ref (q 45)) C0 V i_Pri rfl rfl hT0 (by decide) w_393 rfl d_9_11_41 ?_
    refine q_ldcs (i := 15) C0 V rfl rfl d_9_11_44 ?_
    refine q_gov V (q_runV (As := [.ref (g (8 + 2 * 15))]) (rest := []) (d := 5) (mc := 0) (ms := 0) (ci := 1) C0 V rfl LV_Pri_165 (T_She_addText_15 l D g q ws 45 4104 513 1000000 (n_h45 g q)  hI t1_0 hT1 (by have y0 : (4104 : Int32).toInt = 4104 := rfl; have y1 : (513 : Int32).toInt = 513 := rfl; have y2 : (1000000 : Int32).toInt = 1000000 := rfl; have t1 : t1_0.toInt ≤ 10 := pre2; omega) _) rfl rfl hT1 rfl hl.1 rfl (Nat.le_of_ble_eq_true rfl) ⟨by decide, by decide⟩ ⟨Nat.le_of_ble_eq_true rfl, Nat.le_of_ble_eq_true rfl⟩ d_9_11_46) (fun u19 H locs hp20 V => ?_)
    obtain ⟨hI, hu26, y22, hO21, b23, b24⟩ := hp20
    replace hO21 : u19[45]? = (some (q 45, .inr (1, [.ref (q 46), .int 4104, .int y22])) : Option (Nat × va_E)) := hO21
    replace b23 : q_F (t1_0.toInt + 4 ≤ y22.toInt) := b23
    replace b24 : q_F (y22.toInt ≤ t1_0.toInt + 4) := b24
    replace hT0 := (hu26 _ (by decide)).trans hT0
    replace hA13 := (hu26 _ (by decide)).trans hA13
    replace hF := q_uc hF hu26 (by simp)
    refine lv_goto (tgt := 181) hx hb d_9_11_49 (by decide) ?_
    exact q_retv C0 V (⟨hI, hF, y22, hO21, (show t1_0.toInt ≤ y22.toInt from (by have t1 : t1_0.toInt + 4 ≤ y22.toInt := b23; omega)), (show y22.toInt ≤ t1_0.toInt + 420004 from (by have t1 : y22.toInt ≤ t1_0.toInt + 4 := b24; omega))⟩) d_9_11_181
  have b27 : q_F (a15.toInt ≠ 0) := (q_neI c17)
  by_cases c28 : a15 = 1
  ·
    have b29 : q_F (a15.toInt = 1) := (q_eqI c28)
    refine q_ti (v := 1) c28 ?_
    refine lv_tableIn (tgt := 52) (off := 46) hx hb d_9_11_6 (by decide) (by decide) (by decide) (by decide) ?_
    refine lv_aload_n hx hb d_9_11_52 rfl (lv_at hl 0 rfl) ?_
    refine q_get (ci := 11) (j := 8) (v := .ref (q 45)) C0 V i_Pri rfl rfl hT0 (by decide) w_393 rfl d_9_11_53 ?_
    refine lv_aload_n hx hb d_9_11_56 rfl (lv_at hl 0 rfl) ?_
    refine q_get (ci := 11) (j := 2) (v := .ref (q 42)) C0 V i_Pri rfl rfl hT0 (by decide) w_387 rfl d_9_11_57 ?_
    refine lv_iload_n hx hb d_9_11_60 rfl (lv_at hl 1 rfl) ?_
    obtain ⟨f30, hA31⟩ := n_al hI (n_s42 g q)
    refine q_lald C0 V hA31 (q_ix (x := x2.toInt) rfl (by have t1 : 0 ≤ x2.toInt := pre0; omega) (by have t1 : 0 ≤ x2.toInt := pre0; have t2 : x2.toInt ≤ 8 := pre1; omega)) d_9_11_61 ?_
    obtain ⟨j32, e33⟩ := q_nm (f30 x2.toNatClampNeg : Int64)
    refine q_tl (v := j32) e33 ?_
    refine lv_lconst (v := 0) hx hb d_9_11_62 (by decide) ?_
    refine W.lcmp hx hb d_9_11_63 ?_
    obtain ⟨a34, e35⟩ := q_nm (lg_cmp j32 0 : Int32)
    refine q_ti (v := a34) e35 ?_
    have b36 : q_F (-1 ≤ a34.toInt ∧ a34.toInt ≤ 1 ∧ ((a34.toInt = -1 ∧ j32.toInt < 0) ∨ (a34.toInt = 0 ∧ j32.toInt = 0) ∨ (a34.toInt = 1 ∧ 0 < j32.toInt))) := (by rw [← e35]; show -1 ≤ (lg_cmp j32 0 : Int32).toInt ∧ (lg_cmp j32 0 : Int32).toInt ≤ 1 ∧ (((lg_cmp j32 0 : Int32).toInt = -1 ∧ j32.toInt < 0) ∨ ((lg_cmp j32 0 : Int32).toInt = 0 ∧ j32.toInt = 0) ∨ ((lg_cmp j32 0 : Int32).toInt = 1 ∧ 0 < j32.toInt)); exact (by have y1 : (0 : Int64).toInt = 0 := rfl; have z := s_lcmp (a := j32) (b := 0); omega))
    refine lv_if_ne (tgt := 72) hx hb d_9_11_64 (by decide) (fun c37 => ?_) (fun c37 => ?_)
    ·
      have b38 : q_F (a34.toInt ≠ 0) := (q_neI c37)
      refine q_ldcs (i := 13) C0 V rfl rfl d_9_11_72 ?_
      refine q_gov V (q_runV (As := [.ref (g (8 + 2 * 13))]) (rest := []) (d := 5) (mc := 0) (ms := 0) (ci := 1) C0 V rfl LV_Pri_165 (T_She_addText_13 l D g q ws 45 4104 513 1000000 (n_h45 g q)  hI t1_0 hT1 (by have y0 : (4104 : Int32).toInt = 4104 := rfl; have y1 : (513 : Int32).toInt = 513 := rfl; have y2 : (1000000 : Int32).toInt = 1000000 := rfl; have t1 : t1_0.toInt ≤ 10 := pre2; omega) _) rfl rfl hT1 rfl hl.1 rfl (Nat.le_of_ble_eq_true rfl) ⟨by decide, by decide⟩ ⟨Nat.le_of_ble_eq_true rfl, Nat.le_of_ble_eq_true rfl⟩ d_9_11_74) (fun u39 H locs hp40 V => ?_)
      obtain ⟨hI, hu46, y42, hO41, b43, b44⟩ := hp40
      replace hO41 : u39[45]? = (some (q 45, .inr (1, [.ref (q 46), .int 4104, .int y42])) : Option (Nat × va_E)) := hO41
      replace b43 : q_F (t1_0.toInt + 4 ≤ y42.toInt) := b43
      replace b44 : q_F (y42.toInt ≤ t1_0.toInt + 4) := b44
      replace hT0 := (hu46 _ (by decide)).trans hT0
      replace hA13 := (hu46 _ (by decide)).trans hA13
      replace hA31 := (hu46 _ (by decide)).trans hA31
      replace hF := q_uc hF hu46 (by simp)
      refine lv_goto (tgt := 181) hx hb d_9_11_77 (by decide) ?_
      exact q_retv C0 V (⟨hI, hF, y42, hO41, (show t1_0.toInt ≤ y42.toInt from (by have t1 : t1_0.toInt + 4 ≤ y42.toInt := b43; omega)), (show y42.toInt ≤ t1_0.toInt + 420004 from (by have t1 : y42.toInt ≤ t1_0.toInt + 4 := b44; omega))⟩) d_9_11_181
    ·
      have b47 : q_F (a34.toInt = 0) := (q_eqI c37)
      refine q_ldcs (i := 12) C0 V rfl rfl d_9_11_67 ?_
      refine lv_goto (tgt := 74) hx hb d_9_11_69 (by decide) ?_
      refine q_gov V (q_runV (As := [.ref (g (8 + 2 * 12))]) (rest := []) (d := 5) (mc := 0) (ms := 0) (ci := 1) C0 V rfl LV_Pri_165 (T_She_addText_12 l D g q ws 45 4104 513 1000000 (n_h45 g q)  hI t1_0 hT1 (by have y0 : (4104 : Int32).toInt = 4104 := rfl; have y1 : (513 : Int32).toInt = 513 := rfl; have y2 : (1000000 : Int32).toInt = 1000000 := rfl; have t1 : t1_0.toInt ≤ 10 := pre2; omega) _) rfl rfl hT1 rfl hl.1 rfl (Nat.le_of_ble_eq_true rfl) ⟨by decide, by decide⟩ ⟨Nat.le_of_ble_eq_true rfl, Nat.le_of_ble_eq_true rfl⟩ d_9_11_74) (fun u48 H locs hp49 V => ?_)
      obtain ⟨hI, hu55, y51, hO50, b52, b53⟩ := hp49
      replace hO50 : u48[45]? = (some (q 45, .inr (1, [.ref (q 46), .int 4104, .int y51])) : Option (Nat × va_E)) := hO50
      replace b52 : q_F (t1_0.toInt + 5 ≤ y51.toInt) := b52
      replace b53 : q_F (y51.toInt ≤ t1_0.toInt + 5) := b53
      replace hT0 := (hu55 _ (by decide)).trans hT0
      replace hA13 := (hu55 _ (by decide)).trans hA13
      replace hA31 := (hu55 _ (by decide)).trans hA31
      replace hF := q_uc hF hu55 (by simp)
      refine lv_goto (tgt := 181) hx hb d_9_11_77 (by decide) ?_
      exact q_retv C0 V (⟨hI, hF, y51, hO50, (show t1_0.toInt ≤ y51.toInt from (by have t1 : t1_0.toInt + 5 ≤ y51.toInt := b52; omega)), (show y51.toInt ≤ t1_0.toInt + 420004 from (by have t1 : y51.toInt ≤ t1_0.toInt + 5 := b53; omega))⟩) d_9_11_181
  have b56 : q_F (a15.toInt ≠ 1) := (q_neI c28)
  by_cases c57 : a15 = 2
  ·
    have b58 : q_F (a15.toInt = 2) := (q_eqI c57)
    refine q_ti (v := 2) c57 ?_
    refine lv_tableIn (tgt := 80) (off := 74) hx hb d_9_11_6 (by decide) (by decide) (by decide) (by decide) ?_
    refine lv_aload_n hx hb d_9_11_80 rfl (lv_at hl 0 rfl) ?_
    refine q_get (ci := 11) (j := 8) (v := .ref (q 45)) C0 V i_Pri rfl rfl hT0 (by decide) w_393 rfl d_9_11_81 ?_
    refine lv_aload_n hx hb d_9_11_84 rfl (lv_at hl 0 rfl) ?_
    refine q_get (ci := 11) (j := 2) (v := .ref (q 42)) C0 V i_Pri rfl rfl hT0 (by decide) w_387 rfl d_9_11_85 ?_
    refine lv_iload_n hx hb d_9_11_88 rfl (lv_at hl 1 rfl) ?_
    obtain ⟨f59, hA60⟩ := n_al hI (n_s42 g q)
    refine q_lald C0 V hA60 (q_ix (x := x2.toInt) rfl (by have t1 : 0 ≤ x2.toInt := pre0; omega) (by have t1 : 0 ≤ x2.toInt := pre0; have t2 : x2.toInt ≤ 8 := pre1; omega)) d_9_11_89 ?_
    obtain ⟨j61, e62⟩ := q_nm (f59 x2.toNatClampNeg : Int64)
    refine q_tl (v := j61) e62 ?_
    refine lv_l2i hx hb d_9_11_90 rfl ?_
    obtain ⟨a63, e64⟩ := q_nm (j61.toInt32 : Int32)
    refine q_ti (v := a63) e64 ?_
    refine q_gov V (q_runV (As := [.int a63]) (rest := []) (d := 1) (mc := 0) (ms := 0) (ci := 1) C0 V rfl LV_Pri_113 (T_She_add l D g q ws 45 4104 513 1000000 (n_h45 g q) a63 hI t1_0 hT1 (by have y0 : (4104 : Int32).toInt = 4104 := rfl; have y1 : (513 : Int32).toInt = 513 := rfl; have y2 : (1000000 : Int32).toInt = 1000000 := rfl; have t1 : t1_0.toInt ≤ 10 := pre2; omega) _) rfl rfl hT1 rfl hl.1 rfl (Nat.le_of_ble_eq_true rfl) ⟨by decide, by decide⟩ ⟨Nat.le_of_ble_eq_true rfl, Nat.le_of_ble_eq_true rfl⟩ d_9_11_91) (fun u65 H locs hp66 V => ?_)
    obtain ⟨hI, hu72, y68, hO67, b69, b70⟩ := hp66
    replace hO67 : u65[45]? = (some (q 45, .inr (1, [.ref (q 46), .int 4104, .int y68])) : Option (Nat × va_E)) := hO67
    replace b69 : q_F (t1_0.toInt + 1 ≤ y68.toInt) := b69
    replace b70 : q_F (y68.toInt ≤ t1_0.toInt + 1) := b70
    replace hT0 := (hu72 _ (by decide)).trans hT0
    replace hA13 := (hu72 _ (by decide)).trans hA13
    replace hA60 := (hu72 _ (by decide)).trans hA60
    replace hF := q_uc hF hu72 (by simp)
    refine lv_goto (tgt := 181) hx hb d_9_11_94 (by decide) ?_
    exact q_retv C0 V (⟨hI, hF, y68, hO67, (show t1_0.toInt ≤ y68.toInt from (by have t1 : t1_0.toInt + 1 ≤ y68.toInt := b69; omega)), (show y68.toInt ≤ t1_0.toInt + 420004 from (by have t1 : y68.toInt ≤ t1_0.toInt + 1 := b70; omega))⟩) d_9_11_181
  have b73 : q_F (a15.toInt ≠ 2) := (q_neI c57)
  by_cases c74 : a15 = 3
  ·
    have b75 : q_F (a15.toInt = 3) := (q_eqI c74)
    refine q_ti (v := 3) c74 ?_
    refine lv_tableIn (tgt := 123) (off := 117) hx hb d_9_11_6 (by decide) (by decide) (by decide) (by decide) ?_
    refine lv_aload_n hx hb d_9_11_123 rfl (lv_at hl 0 rfl) ?_
    refine q_get (ci := 11) (j := 2) (v := .ref (q 42)) C0 V i_Pri rfl rfl hT0 (by decide) w_387 rfl d_9_11_124 ?_
    refine lv_iload_n hx hb d_9_11_127 rfl (lv_at hl 1 rfl) ?_
    obtain ⟨f76, hA77⟩ := n_al hI (n_s42 g q)
    refine q_lald C0 V hA77 (q_ix (x := x2.toInt) rfl (by have t1 : 0 ≤ x2.toInt := pre0; omega) (by have t1 : 0 ≤ x2.toInt := pre0; have t2 : x2.toInt ≤ 8 := pre1; omega)) d_9_11_128 ?_
    obtain ⟨j78, e79⟩ := q_nm (f76 x2.toNatClampNeg : Int64)
    refine q_tl (v := j78) e79 ?_
    refine lv_lconst (v := 0) hx hb d_9_11_129 (by decide) ?_
    refine W.lcmp hx hb d_9_11_130 ?_
    obtain ⟨a80, e81⟩ := q_nm (lg_cmp j78 0 : Int32)
    refine q_ti (v := a80) e81 ?_
    have b82 : q_F (-1 ≤ a80.toInt ∧ a80.toInt ≤ 1 ∧ ((a80.toInt = -1 ∧ j78.toInt < 0) ∨ (a80.toInt = 0 ∧ j78.toInt = 0) ∨ (a80.toInt = 1 ∧ 0 < j78.toInt))) := (by rw [← e81]; show -1 ≤ (lg_cmp j78 0 : Int32).toInt ∧ (lg_cmp j78 0 : Int32).toInt ≤ 1 ∧ (((lg_cmp j78 0 : Int32).toInt = -1 ∧ j78.toInt < 0) ∨ ((lg_cmp j78 0 : Int32).toInt = 0 ∧ j78.toInt = 0) ∨ ((lg_cmp j78 0 : Int32).toInt = 1 ∧ 0 < j78.toInt)); exact (by have y1 : (0 : Int64).toInt = 0 := rfl; have z := s_lcmp (a := j78) (b := 0); omega))
    refine q_join (X := Int32) (fun z H locs ls w89 => q_F (t1_0.toInt ≤ z.toInt) ∧ q_F (z.toInt ≤ t1_0.toInt + 1) ∧ q_Wd D g (va_A ws sz) s w89 H locs ∧ lv_has ls 2 [(0, .ref (q 40)), (1, .int x2)] ∧ q_I (nsh g q) q w89 ∧ q_un ws w89 [36, 37, 45, 46] ∧ w89[40]? = (some (q 40, .inr (11, [.int t0_0, .ref (q 41), .ref (q 42), .ref (q 43), .ref (q 44), .ref (q 1), .ref (q 47), .ref (q 36), .ref (q 45), .int t0_1, .int t0_2, .int t0_3])) : Option (Nat × va_E)) ∧ w89[45]? = (some (q 45, .inr (1, [.ref (q 46), .int 4104, .int z])) : Option (Nat × va_E))) (fun z => []) 143 0 0 ?_ ?_
    ·
      rintro lx83 H locs ls w89 ⟨i87, i88, V, hl, hI, hF, hO84, hO85⟩
      replace i87 : q_F (t1_0.toInt ≤ lx83.toInt) := i87
      replace i88 : q_F (lx83.toInt ≤ t1_0.toInt + 1) := i88
      replace hl : lv_has ls 2 [(0, .ref (q 40)), (1, .int x2)] := hl
      replace hO84 : w89[40]? = (some (q 40, .inr (11, [.int t0_0, .ref (q 41), .ref (q 42), .ref (q 43), .ref (q 44), .ref (q 1), .ref (q 47), .ref (q 36), .ref (q 45), .int t0_1, .int t0_2, .int t0_3])) : Option (Nat × va_E)) := hO84
      replace hO85 : w89[45]? = (some (q 45, .inr (1, [.ref (q 46), .int 4104, .int lx83])) : Option (Nat × va_E)) := hO85
      refine lv_aload_n hx hb d_9_11_143 rfl (lv_at hl 0 rfl) ?_
      refine q_get (ci := 11) (j := 7) (v := .ref (q 36)) C0 V i_Pri rfl rfl hO84 (by decide) w_392 rfl d_9_11_144 ?_
      refine lv_aload_n hx hb d_9_11_147 rfl (lv_at hl 0 rfl) ?_
      refine q_get (ci := 11) (j := 2) (v := .ref (q 42)) C0 V i_Pri rfl rfl hO84 (by decide) w_387 rfl d_9_11_148 ?_
      refine lv_iload_n hx hb d_9_11_151 rfl (lv_at hl 1 rfl) ?_
      obtain ⟨f90, hA91⟩ := n_al hI (n_s42 g q)
      refine q_lald C0 V hA91 (q_ix (x := x2.toInt) rfl (by have t1 : 0 ≤ x2.toInt := pre0; omega) (by have t1 : 0 ≤ x2.toInt := pre0; have t2 : x2.toInt ≤ 8 := pre1; omega)) d_9_11_152 ?_
      obtain ⟨j92, e93⟩ := q_nm (f90 x2.toNatClampNeg : Int64)
      refine q_tl (v := j92) e93 ?_
      refine lv_aload_n hx hb d_9_11_153 rfl (lv_at hl 0 rfl) ?_
      refine q_get (ci := 11) (j := 3) (v := .ref (q 43)) C0 V i_Pri rfl rfl hO84 (by decide) w_388 rfl d_9_11_154 ?_
      refine lv_iload_n hx hb d_9_11_157 rfl (lv_at hl 1 rfl) ?_
      obtain ⟨f94, hA95, bf96⟩ := n_ai hI (n_s43 g q)
      refine q_iald C0 V hA95 (q_ix (x := x2.toInt) rfl (by have t1 : 0 ≤ x2.toInt := pre0; omega) (by have t1 : 0 ≤ x2.toInt := pre0; have t2 : x2.toInt ≤ 8 := pre1; omega)) d_9_11_158 ?_
      obtain ⟨a97, e98⟩ := q_nm (f94 x2.toNatClampNeg : Int32)
      refine q_ti (v := a97) e98 ?_
      have b99 : q_F (-10000 ≤ a97.toInt ∧ a97.toInt ≤ 10000) := (by rw [← e98]; show -10000 ≤ (f94 x2.toNatClampNeg : Int32).toInt ∧ (f94 x2.toNatClampNeg : Int32).toInt ≤ 10000; exact bf96 _)
      obtain ⟨y101, y103, hO100, b102, b104⟩ := n_o36 hI
      replace b102 : q_F (0 ≤ y101.toInt ∧ y101.toInt ≤ 1026) := b102
      replace b104 : q_F (-1000000 ≤ y103.toInt ∧ y103.toInt ≤ 1000000) := b104
      refine q_gov V (q_runV (As := [.long j92, .int a97]) (rest := []) (d := 2) (mc := 0) (ms := 0) (ci := 7) C0 V rfl LV_Pri_189 (T_Dig_fillLong l D g q w89  j92 a97 hI y101 y103 hO100 (by have t1 : -10000 ≤ a97.toInt ∧ a97.toInt ≤ 10000 := b99; omega) (by have t1 : -10000 ≤ a97.toInt ∧ a97.toInt ≤ 10000 := b99; omega) _) rfl rfl hO100 rfl hl.1 rfl (Nat.le_of_ble_eq_true rfl) ⟨by decide, by decide⟩ ⟨Nat.le_of_ble_eq_true rfl, Nat.le_of_ble_eq_true rfl⟩ d_9_11_159) (fun u105 H locs hp106 V => ?_)
      obtain ⟨hI, hu116, y108, y109, hO107, b110, b111, b112, b113, b114⟩ := hp106
      replace hO107 : u105[36]? = (some (q 36, .inr (7, [.int y108, .int y109, .ref (q 37)])) : Option (Nat × va_E)) := hO107
      replace b110 : q_F (0 ≤ y108.toInt) := b110
      replace b111 : q_F (y108.toInt ≤ 20) := b111
      replace b112 : q_F (0 ≤ y109.toInt + 20000) := b112
      replace b113 : q_F (y109.toInt ≤ y108.toInt + 19999) := b113
      replace b114 : q_F (y108.toInt ≤ y109.toInt + 20001) := b114
      replace hO84 := (hu116 _ (by decide)).trans hO84
      replace hO85 := (hu116 _ (by decide)).trans hO85
      replace hA91 := (hu116 _ (by decide)).trans hA91
      replace hA95 := (hu116 _ (by decide)).trans hA95
      replace hF := q_uc hF hu116 (by simp)
      refine lv_aload_n hx hb d_9_11_162 rfl (lv_at hl 0 rfl) ?_
      refine q_get (ci := 11) (j := 7) (v := .ref (q 36)) C0 V i_Pri rfl rfl hO84 (by decide) w_392 rfl d_9_11_163 ?_
      refine lv_aload_n hx hb d_9_11_166 rfl (lv_at hl 0 rfl) ?_
      refine q_get (ci := 11) (j := 8) (v := .ref (q 45)) C0 V i_Pri rfl rfl hO84 (by decide) w_393 rfl d_9_11_167 ?_
      refine lv_aload_n hx hb d_9_11_170 rfl (lv_at hl 0 rfl) ?_
      refine q_get (ci := 11) (j := 3) (v := .ref (q 43)) C0 V i_Pri rfl rfl hO84 (by decide) w_388 rfl d_9_11_171 ?_
      refine lv_iload_n hx hb d_9_11_174 rfl (lv_at hl 1 rfl) ?_
      refine q_iald C0 V hA95 (q_ix (x := x2.toInt) rfl (by have t1 : 0 ≤ x2.toInt := pre0; omega) (by have t1 : 0 ≤ x2.toInt := pre0; have t2 : x2.toInt ≤ 8 := pre1; omega)) d_9_11_175 ?_
      obtain ⟨a117, e118⟩ := q_nm (f94 x2.toNatClampNeg : Int32)
      refine q_ti (v := a117) e118 ?_
      have b119 : q_F (-10000 ≤ a117.toInt ∧ a117.toInt ≤ 10000) := (by rw [← e118]; show -10000 ≤ (f94 x2.toNatClampNeg : Int32).toInt ∧ (f94 x2.toNatClampNeg : Int32).toInt ≤ 10000; exact bf96 _)
      refine lv_iconst (v := 0) hx hb d_9_11_176 (by decide) ?_
      refine lv_iconst (v := 0) hx hb d_9_11_177 (by decide) ?_
      refine q_gov V (q_runV (As := [.ref (q 45), .int a117, .int 0, .int 0]) (rest := []) (d := 2) (mc := 0) (ms := 0) (ci := 7) C0 V rfl LV_Pri_204 (T_Dig_writePlain l D g q u105 45 4104 513 1000000 (n_h45 g q) a117 0 0 hI y108 y109 hO107 lx83 hO85 ⟨(by have y0 : (4104 : Int32).toInt = 4104 := rfl; have y1 : (513 : Int32).toInt = 513 := rfl; have y2 : (1000000 : Int32).toInt = 1000000 := rfl; have y3 : (0 : Int32).toInt = 0 := rfl; have y4 : (0 : Int32).toInt = 0 := rfl; omega), (by have y0 : (4104 : Int32).toInt = 4104 := rfl; have y1 : (513 : Int32).toInt = 513 := rfl; have y2 : (1000000 : Int32).toInt = 1000000 := rfl; have y3 : (0 : Int32).toInt = 0 := rfl; have y4 : (0 : Int32).toInt = 0 := rfl; omega)⟩ ⟨(by have y0 : (4104 : Int32).toInt = 4104 := rfl; have y1 : (513 : Int32).toInt = 513 := rfl; have y2 : (1000000 : Int32).toInt = 1000000 := rfl; have y3 : (0 : Int32).toInt = 0 := rfl; have y4 : (0 : Int32).toInt = 0 := rfl; omega), (by have y0 : (4104 : Int32).toInt = 4104 := rfl; have y1 : (513 : Int32).toInt = 513 := rfl; have y2 : (1000000 : Int32).toInt = 1000000 := rfl; have y3 : (0 : Int32).toInt = 0 := rfl; have y4 : (0 : Int32).toInt = 0 := rfl; omega)⟩ (by have y0 : (4104 : Int32).toInt = 4104 := rfl; have y1 : (513 : Int32).toInt = 513 := rfl; have y2 : (1000000 : Int32).toInt = 1000000 := rfl; have y3 : (0 : Int32).toInt = 0 := rfl; have y4 : (0 : Int32).toInt = 0 := rfl; have t1 : y108.toInt ≤ 20 := b111; have t2 : y109.toInt ≤ y108.toInt + 19999 := b113; omega) (by have y0 : (4104 : Int32).toInt = 4104 := rfl; have y1 : (513 : Int32).toInt = 513 := rfl; have y2 : (1000000 : Int32).toInt = 1000000 := rfl; have y3 : (0 : Int32).toInt = 0 := rfl; have y4 : (0 : Int32).toInt = 0 := rfl; have t1 : -10000 ≤ a117.toInt ∧ a117.toInt ≤ 10000 := b119; omega) (by have y0 : (4104 : Int32).toInt = 4104 := rfl; have y1 : (513 : Int32).toInt = 513 := rfl; have y2 : (1000000 : Int32).toInt = 1000000 := rfl; have y3 : (0 : Int32).toInt = 0 := rfl; have y4 : (0 : Int32).toInt = 0 := rfl; have t1 : t1_0.toInt ≤ 10 := pre2; have t2 : lx83.toInt ≤ t1_0.toInt + 1 := i88; omega) (by have y0 : (4104 : Int32).toInt = 4104 := rfl; have y1 : (513 : Int32).toInt = 513 := rfl; have y2 : (1000000 : Int32).toInt = 1000000 := rfl; have y3 : (0 : Int32).toInt = 0 := rfl; have y4 : (0 : Int32).toInt = 0 := rfl; omega) _) rfl rfl hO107 rfl hl.1 rfl (Nat.le_of_ble_eq_true rfl) ⟨by decide, by decide⟩ ⟨Nat.le_of_ble_eq_true rfl, Nat.le_of_ble_eq_true rfl⟩ d_9_11_178) (fun u120 H locs hp121 V => ?_)
      obtain ⟨hI, hu131, y123, hO122, b124, b125, b126, b127, b128, b129⟩ := hp121
      replace hO122 : u120[45]? = (some (q 45, .inr (1, [.ref (q 46), .int 4104, .int y123])) : Option (Nat × va_E)) := hO122
      replace b124 : q_F (a117.toInt + 1 ≤ y123.toInt) := b124
      replace b125 : q_F (0 + 1 ≤ y123.toInt) := b125
      replace b126 : q_F (y109.toInt + 1 ≤ y123.toInt) := b126
      replace b127 : q_F (y123.toInt ≤ y109.toInt + 1420003) := b127
      replace b128 : q_F (lx83.toInt + 1 ≤ y123.toInt) := b128
      replace b129 : q_F (y123.toInt ≤ lx83.toInt + 420003) := b129
      replace hO84 := (hu131 _ (by decide)).trans hO84
      replace hA91 := (hu131 _ (by decide)).trans hA91
      replace hA95 := (hu131 _ (by decide)).trans hA95
      replace hO107 := (hu131 _ (by decide)).trans hO107
      replace hF := q_uc hF hu131 (by simp)
      exact q_retv C0 V (⟨hI, hF, y123, hO122, (show t1_0.toInt ≤ y123.toInt from (by have t1 : t1_0.toInt ≤ lx83.toInt := i87; have t2 : lx83.toInt + 1 ≤ y123.toInt := b128; omega)), (show y123.toInt ≤ t1_0.toInt + 420004 from (by have t1 : lx83.toInt ≤ t1_0.toInt + 1 := i88; have t2 : y123.toInt ≤ lx83.toInt + 420003 := b129; omega))⟩) d_9_11_181
    ·
      intro J86
      refine lv_if_ge (tgt := 143) hx hb d_9_11_131 (by decide) (fun c132 => ?_) (fun c132 => ?_)
      ·
        have b133 : q_F (0 ≤ a80.toInt) := (q_leI c132)
        exact J86 ((t1_0 : Int32)) _ _ _ _ ⟨(show q_F (t1_0.toInt ≤ t1_0.toInt) from (show t1_0.toInt ≤ t1_0.toInt from by omega)), (show q_F (t1_0.toInt ≤ t1_0.toInt + 1) from (show t1_0.toInt ≤ t1_0.toInt + 1 from by omega)), V, q_lw hl (q_lw1 0 rfl (q_lw1 1 rfl q_lw0)), hI, hF, hT0, hT1⟩
      ·
        have b134 : q_F (a80.toInt < 0) := (q_nleI c132)
        refine lv_aload_n hx hb d_9_11_134 rfl (lv_at hl 0 rfl) ?_
        refine q_get (ci := 11) (j := 8) (v := .ref (q 45)) C0 V i_Pri rfl rfl hT0 (by decide) w_393 rfl d_9_11_135 ?_
        refine lv_bipush (v := 45) hx hb d_9_11_138 (by decide) ?_
        refine q_gov V (q_runV (As := [.int 45]) (rest := []) (d := 1) (mc := 0) (ms := 0) (ci := 1) C0 V rfl LV_Pri_113 (T_She_add l D g q ws 45 4104 513 1000000 (n_h45 g q) 45 hI t1_0 hT1 (by have y0 : (4104 : Int32).toInt = 4104 := rfl; have y1 : (513 : Int32).toInt = 513 := rfl; have y2 : (1000000 : Int32).toInt = 1000000 := rfl; have y3 : (45 : Int32).toInt = 45 := rfl; have t1 : t1_0.toInt ≤ 10 := pre2; omega) _) rfl rfl hT1 rfl hl.1 rfl (Nat.le_of_ble_eq_true rfl) ⟨by decide, by decide⟩ ⟨Nat.le_of_ble_eq_true rfl, Nat.le_of_ble_eq_true rfl⟩ d_9_11_140) (fun u135 H locs hp136 V => ?_)
        obtain ⟨hI, hu142, y138, hO137, b139, b140⟩ := hp136
        replace hO137 : u135[45]? = (some (q 45, .inr (1, [.ref (q 46), .int 4104, .int y138])) : Option (Nat × va_E)) := hO137
        replace b139 : q_F (t1_0.toInt + 1 ≤ y138.toInt) := b139
        replace b140 : q_F (y138.toInt ≤ t1_0.toInt + 1) := b140
        replace hT0 := (hu142 _ (by decide)).trans hT0
        replace hA13 := (hu142 _ (by decide)).trans hA13
        replace hA77 := (hu142 _ (by decide)).trans hA77
        replace hF := q_uc hF hu142 (by simp)
        exact J86 ((y138 : Int32)) _ _ _ _ ⟨(show q_F (t1_0.toInt ≤ y138.toInt) from (show t1_0.toInt ≤ y138.toInt from by have t1 : t1_0.toInt + 1 ≤ y138.toInt := b139; omega)), (show q_F (y138.toInt ≤ t1_0.toInt + 1) from (show y138.toInt ≤ t1_0.toInt + 1 from by have t1 : y138.toInt ≤ t1_0.toInt + 1 := b140; omega)), V, q_lw hl (q_lw1 0 rfl (q_lw1 1 rfl q_lw0)), hI, hF, hT0, hO137⟩
  have b143 : q_F (a15.toInt ≠ 3) := (q_neI c74)
  by_cases c144 : a15 = 4
  ·
    have b145 : q_F (a15.toInt = 4) := (q_eqI c144)
    refine q_ti (v := 4) c144 ?_
    refine lv_tableIn (tgt := 97) (off := 91) hx hb d_9_11_6 (by decide) (by decide) (by decide) (by decide) ?_
    refine lv_aload_n hx hb d_9_11_97 rfl (lv_at hl 0 rfl) ?_
    refine q_get (ci := 11) (j := 8) (v := .ref (q 45)) C0 V i_Pri rfl rfl hT0 (by decide) w_393 rfl d_9_11_98 ?_
    refine lv_aload_n hx hb d_9_11_101 rfl (lv_at hl 0 rfl) ?_
    refine q_get (ci := 11) (j := 4) (v := .ref (q 44)) C0 V i_Pri rfl rfl hT0 (by decide) w_389 rfl d_9_11_102 ?_
    refine lv_iload_n hx hb d_9_11_105 rfl (lv_at hl 1 rfl) ?_
    have hX146 := n_fx hI (n_s44 g q)
    have hj147 : x2.toNatClampNeg < 9 := by have z := q_clI (i := x2) (x := x2.toInt) rfl (by have t1 : 0 ≤ x2.toInt := pre0; omega); have t1 : 0 ≤ x2.toInt := pre0; have t2 : x2.toInt ≤ 8 := pre1; omega
    refine q_aald (t := 6) (q := q (48 + 2 * x2.toNatClampNeg)) C0 V hX146 rfl (q_ix (x := x2.toInt) rfl (by have t1 : 0 ≤ x2.toInt := pre0; omega) (by have t1 : 0 ≤ x2.toInt := pre0; have t2 : x2.toInt ≤ 8 := pre1; omega)) (n_ftv hj147) d_9_11_106 ?_
    refine lv_iconst (v := 0) hx hb d_9_11_107 (by decide) ?_
    refine lv_aload_n hx hb d_9_11_108 rfl (lv_at hl 0 rfl) ?_
    refine q_get (ci := 11) (j := 4) (v := .ref (q 44)) C0 V i_Pri rfl rfl hT0 (by decide) w_389 rfl d_9_11_109 ?_
    refine lv_iload_n hx hb d_9_11_112 rfl (lv_at hl 1 rfl) ?_
    have hX148 := n_fx hI (n_s44 g q)
    have hj149 : x2.toNatClampNeg < 9 := by have z := q_clI (i := x2) (x := x2.toInt) rfl (by have t1 : 0 ≤ x2.toInt := pre0; omega); have t1 : 0 ≤ x2.toInt := pre0; have t2 : x2.toInt ≤ 8 := pre1; omega
    refine q_aald (t := 6) (q := q (48 + 2 * x2.toNatClampNeg)) C0 V hX148 rfl (q_ix (x := x2.toInt) rfl (by have t1 : 0 ≤ x2.toInt := pre0; omega) (by have t1 : 0 ≤ x2.toInt := pre0; have t2 : x2.toInt ≤ 8 := pre1; omega)) (n_ftv hj149) d_9_11_113 ?_
    obtain ⟨y151, hO150, b152⟩ := n_shO hI (n_t g q hj149)
    replace b152 : q_F (0 ≤ y151.toInt ∧ y151.toInt ≤ 64) := b152
    refine q_get (ci := 1) (j := 2) (v := .int y151) C0 V i_She rfl rfl hO150 (by decide) w_58 rfl d_9_11_114 ?_
    refine q_gov V (q_runS (As := [.ref (q 45), .ref (q (48 + 2 * x2.toNatClampNeg)), .int 0, .int y151]) (rest := []) (d := 2) (mc := 0) (ms := 0) C0 V rfl LS_Pri_76 (T_Pri_copyInto l D g q ws 45 4104 513 1000000 (n_h45 g q) (48 + 2 * x2.toNatClampNeg) 64 8 64 (n_t g q hj147) 0 y151 hI t1_0 hT1 (by have y0 : (4104 : Int32).toInt = 4104 := rfl; have y1 : (513 : Int32).toInt = 513 := rfl; have y2 : (1000000 : Int32).toInt = 1000000 := rfl; have y3 : (64 : Int32).toInt = 64 := rfl; have y4 : (8 : Int32).toInt = 8 := rfl; have y5 : (64 : Int32).toInt = 64 := rfl; have y6 : (0 : Int32).toInt = 0 := rfl; omega) (by have y0 : (4104 : Int32).toInt = 4104 := rfl; have y1 : (513 : Int32).toInt = 513 := rfl; have y2 : (1000000 : Int32).toInt = 1000000 := rfl; have y3 : (64 : Int32).toInt = 64 := rfl; have y4 : (8 : Int32).toInt = 8 := rfl; have y5 : (64 : Int32).toInt = 64 := rfl; have y6 : (0 : Int32).toInt = 0 := rfl; have t1 : 0 ≤ y151.toInt ∧ y151.toInt ≤ 64 := b152; omega) (by have y0 : (4104 : Int32).toInt = 4104 := rfl; have y1 : (513 : Int32).toInt = 513 := rfl; have y2 : (1000000 : Int32).toInt = 1000000 := rfl; have y3 : (64 : Int32).toInt = 64 := rfl; have y4 : (8 : Int32).toInt = 8 := rfl; have y5 : (64 : Int32).toInt = 64 := rfl; have y6 : (0 : Int32).toInt = 0 := rfl; have t1 : t1_0.toInt ≤ 10 := pre2; have t2 : 0 ≤ y151.toInt ∧ y151.toInt ≤ 64 := b152; omega) _) rfl hl.1 rfl (Nat.le_of_ble_eq_true rfl) ⟨by decide, by decide⟩ ⟨Nat.le_of_ble_eq_true rfl, Nat.le_of_ble_eq_true rfl⟩ d_9_11_117) (fun u153 H locs hp154 V => ?_)
    obtain ⟨hI, hu161, y156, hO155, b157, b158, b159⟩ := hp154
    replace hO155 : u153[45]? = (some (q 45, .inr (1, [.ref (q 46), .int 4104, .int y156])) : Option (Nat × va_E)) := hO155
    replace b157 : q_F (t1_0.toInt ≤ y156.toInt) := b157
    replace b158 : q_F (y156.toInt ≤ 1000000) := b158
    replace b159 : q_F (y156.toInt ≤ t1_0.toInt + y151.toInt) := b159
    replace hT0 := (hu161 _ (by decide)).trans hT0
    replace hA13 := (hu161 _ (by decide)).trans hA13
    replace hO150 := (hu161 _ (by have z0 := hj149; simp only [List.mem_cons, List.not_mem_nil, or_false, not_or]; omega)).trans hO150
    replace hF := q_uc hF hu161 (by simp)
    refine lv_goto (tgt := 181) hx hb d_9_11_120 (by decide) ?_
    exact q_retv C0 V (⟨hI, hF, y156, hO155, (show t1_0.toInt ≤ y156.toInt from (by have t1 : t1_0.toInt ≤ y156.toInt := b157; omega)), (show y156.toInt ≤ t1_0.toInt + 420004 from (by have t1 : 0 ≤ y151.toInt ∧ y151.toInt ≤ 64 := b152; have t2 : y156.toInt ≤ t1_0.toInt + y151.toInt := b159; omega))⟩) d_9_11_181
  have b162 : q_F (a15.toInt ≠ 4) := (q_neI c144)
  refine lv_tableOut (tgt := 123) hx hb d_9_11_6 (by have z0 : a15.toInt ≠ 0 := q_neI c17; have z1 : a15.toInt ≠ 1 := q_neI c28; have z2 : a15.toInt ≠ 2 := q_neI c57; have z3 : a15.toInt ≠ 3 := q_neI c74; have z4 : a15.toInt ≠ 4 := q_neI c144; omega) (by decide) ?_
  refine lv_aload_n hx hb d_9_11_123 rfl (lv_at hl 0 rfl) ?_
  refine q_get (ci := 11) (j := 2) (v := .ref (q 42)) C0 V i_Pri rfl rfl hT0 (by decide) w_387 rfl d_9_11_124 ?_
  refine lv_iload_n hx hb d_9_11_127 rfl (lv_at hl 1 rfl) ?_
  obtain ⟨f163, hA164⟩ := n_al hI (n_s42 g q)
  refine q_lald C0 V hA164 (q_ix (x := x2.toInt) rfl (by have t1 : 0 ≤ x2.toInt := pre0; omega) (by have t1 : 0 ≤ x2.toInt := pre0; have t2 : x2.toInt ≤ 8 := pre1; omega)) d_9_11_128 ?_
  obtain ⟨j165, e166⟩ := q_nm (f163 x2.toNatClampNeg : Int64)
  refine q_tl (v := j165) e166 ?_
  refine lv_lconst (v := 0) hx hb d_9_11_129 (by decide) ?_
  refine W.lcmp hx hb d_9_11_130 ?_
  obtain ⟨a167, e168⟩ := q_nm (lg_cmp j165 0 : Int32)
  refine q_ti (v := a167) e168 ?_
  have b169 : q_F (-1 ≤ a167.toInt ∧ a167.toInt ≤ 1 ∧ ((a167.toInt = -1 ∧ j165.toInt < 0) ∨ (a167.toInt = 0 ∧ j165.toInt = 0) ∨ (a167.toInt = 1 ∧ 0 < j165.toInt))) := (by rw [← e168]; show -1 ≤ (lg_cmp j165 0 : Int32).toInt ∧ (lg_cmp j165 0 : Int32).toInt ≤ 1 ∧ (((lg_cmp j165 0 : Int32).toInt = -1 ∧ j165.toInt < 0) ∨ ((lg_cmp j165 0 : Int32).toInt = 0 ∧ j165.toInt = 0) ∨ ((lg_cmp j165 0 : Int32).toInt = 1 ∧ 0 < j165.toInt)); exact (by have y1 : (0 : Int64).toInt = 0 := rfl; have z := s_lcmp (a := j165) (b := 0); omega))
  refine q_join (X := Int32) (fun z H locs ls w176 => q_F (t1_0.toInt ≤ z.toInt) ∧ q_F (z.toInt ≤ t1_0.toInt + 1) ∧ q_Wd D g (va_A ws sz) s w176 H locs ∧ lv_has ls 2 [(0, .ref (q 40)), (1, .int x2)] ∧ q_I (nsh g q) q w176 ∧ q_un ws w176 [36, 37, 45, 46] ∧ w176[40]? = (some (q 40, .inr (11, [.int t0_0, .ref (q 41), .ref (q 42), .ref (q 43), .ref (q 44), .ref (q 1), .ref (q 47), .ref (q 36), .ref (q 45), .int t0_1, .int t0_2, .int t0_3])) : Option (Nat × va_E)) ∧ w176[45]? = (some (q 45, .inr (1, [.ref (q 46), .int 4104, .int z])) : Option (Nat × va_E))) (fun z => []) 143 0 0 ?_ ?_
  ·
    rintro lx170 H locs ls w176 ⟨i174, i175, V, hl, hI, hF, hO171, hO172⟩
    replace i174 : q_F (t1_0.toInt ≤ lx170.toInt) := i174
    replace i175 : q_F (lx170.toInt ≤ t1_0.toInt + 1) := i175
    replace hl : lv_has ls 2 [(0, .ref (q 40)), (1, .int x2)] := hl
    replace hO171 : w176[40]? = (some (q 40, .inr (11, [.int t0_0, .ref (q 41), .ref (q 42), .ref (q 43), .ref (q 44), .ref (q 1), .ref (q 47), .ref (q 36), .ref (q 45), .int t0_1, .int t0_2, .int t0_3])) : Option (Nat × va_E)) := hO171
    replace hO172 : w176[45]? = (some (q 45, .inr (1, [.ref (q 46), .int 4104, .int lx170])) : Option (Nat × va_E)) := hO172
    refine lv_aload_n hx hb d_9_11_143 rfl (lv_at hl 0 rfl) ?_
    refine q_get (ci := 11) (j := 7) (v := .ref (q 36)) C0 V i_Pri rfl rfl hO171 (by decide) w_392 rfl d_9_11_144 ?_
    refine lv_aload_n hx hb d_9_11_147 rfl (lv_at hl 0 rfl) ?_
    refine q_get (ci := 11) (j := 2) (v := .ref (q 42)) C0 V i_Pri rfl rfl hO171 (by decide) w_387 rfl d_9_11_148 ?_
    refine lv_iload_n hx hb d_9_11_151 rfl (lv_at hl 1 rfl) ?_
    obtain ⟨f177, hA178⟩ := n_al hI (n_s42 g q)
    refine q_lald C0 V hA178 (q_ix (x := x2.toInt) rfl (by have t1 : 0 ≤ x2.toInt := pre0; omega) (by have t1 : 0 ≤ x2.toInt := pre0; have t2 : x2.toInt ≤ 8 := pre1; omega)) d_9_11_152 ?_
    obtain ⟨j179, e180⟩ := q_nm (f177 x2.toNatClampNeg : Int64)
    refine q_tl (v := j179) e180 ?_
    refine lv_aload_n hx hb d_9_11_153 rfl (lv_at hl 0 rfl) ?_
    refine q_get (ci := 11) (j := 3) (v := .ref (q 43)) C0 V i_Pri rfl rfl hO171 (by decide) w_388 rfl d_9_11_154 ?_
    refine lv_iload_n hx hb d_9_11_157 rfl (lv_at hl 1 rfl) ?_
    obtain ⟨f181, hA182, bf183⟩ := n_ai hI (n_s43 g q)
    refine q_iald C0 V hA182 (q_ix (x := x2.toInt) rfl (by have t1 : 0 ≤ x2.toInt := pre0; omega) (by have t1 : 0 ≤ x2.toInt := pre0; have t2 : x2.toInt ≤ 8 := pre1; omega)) d_9_11_158 ?_
    obtain ⟨a184, e185⟩ := q_nm (f181 x2.toNatClampNeg : Int32)
    refine q_ti (v := a184) e185 ?_
    have b186 : q_F (-10000 ≤ a184.toInt ∧ a184.toInt ≤ 10000) := (by rw [← e185]; show -10000 ≤ (f181 x2.toNatClampNeg : Int32).toInt ∧ (f181 x2.toNatClampNeg : Int32).toInt ≤ 10000; exact bf183 _)
    obtain ⟨y188, y190, hO187, b189, b191⟩ := n_o36 hI
    replace b189 : q_F (0 ≤ y188.toInt ∧ y188.toInt ≤ 1026) := b189
    replace b191 : q_F (-1000000 ≤ y190.toInt ∧ y190.toInt ≤ 1000000) := b191
    refine q_gov V (q_runV (As := [.long j179, .int a184]) (rest := []) (d := 2) (mc := 0) (ms := 0) (ci := 7) C0 V rfl LV_Pri_189 (T_Dig_fillLong l D g q w176  j179 a184 hI y188 y190 hO187 (by have t1 : -10000 ≤ a184.toInt ∧ a184.toInt ≤ 10000 := b186; omega) (by have t1 : -10000 ≤ a184.toInt ∧ a184.toInt ≤ 10000 := b186; omega) _) rfl rfl hO187 rfl hl.1 rfl (Nat.le_of_ble_eq_true rfl) ⟨by decide, by decide⟩ ⟨Nat.le_of_ble_eq_true rfl, Nat.le_of_ble_eq_true rfl⟩ d_9_11_159) (fun u192 H locs hp193 V => ?_)
    obtain ⟨hI, hu203, y195, y196, hO194, b197, b198, b199, b200, b201⟩ := hp193
    replace hO194 : u192[36]? = (some (q 36, .inr (7, [.int y195, .int y196, .ref (q 37)])) : Option (Nat × va_E)) := hO194
    replace b197 : q_F (0 ≤ y195.toInt) := b197
    replace b198 : q_F (y195.toInt ≤ 20) := b198
    replace b199 : q_F (0 ≤ y196.toInt + 20000) := b199
    replace b200 : q_F (y196.toInt ≤ y195.toInt + 19999) := b200
    replace b201 : q_F (y195.toInt ≤ y196.toInt + 20001) := b201
    replace hO171 := (hu203 _ (by decide)).trans hO171
    replace hO172 := (hu203 _ (by decide)).trans hO172
    replace hA178 := (hu203 _ (by decide)).trans hA178
    replace hA182 := (hu203 _ (by decide)).trans hA182
    replace hF := q_uc hF hu203 (by simp)
    refine lv_aload_n hx hb d_9_11_162 rfl (lv_at hl 0 rfl) ?_
    refine q_get (ci := 11) (j := 7) (v := .ref (q 36)) C0 V i_Pri rfl rfl hO171 (by decide) w_392 rfl d_9_11_163 ?_
    refine lv_aload_n hx hb d_9_11_166 rfl (lv_at hl 0 rfl) ?_
    refine q_get (ci := 11) (j := 8) (v := .ref (q 45)) C0 V i_Pri rfl rfl hO171 (by decide) w_393 rfl d_9_11_167 ?_
    refine lv_aload_n hx hb d_9_11_170 rfl (lv_at hl 0 rfl) ?_
    refine q_get (ci := 11) (j := 3) (v := .ref (q 43)) C0 V i_Pri rfl rfl hO171 (by decide) w_388 rfl d_9_11_171 ?_
    refine lv_iload_n hx hb d_9_11_174 rfl (lv_at hl 1 rfl) ?_
    refine q_iald C0 V hA182 (q_ix (x := x2.toInt) rfl (by have t1 : 0 ≤ x2.toInt := pre0; omega) (by have t1 : 0 ≤ x2.toInt := pre0; have t2 : x2.toInt ≤ 8 := pre1; omega)) d_9_11_175 ?_
    obtain ⟨a204, e205⟩ := q_nm (f181 x2.toNatClampNeg : Int32)
    refine q_ti (v := a204) e205 ?_
    have b206 : q_F (-10000 ≤ a204.toInt ∧ a204.toInt ≤ 10000) := (by rw [← e205]; show -10000 ≤ (f181 x2.toNatClampNeg : Int32).toInt ∧ (f181 x2.toNatClampNeg : Int32).toInt ≤ 10000; exact bf183 _)
    refine lv_iconst (v := 0) hx hb d_9_11_176 (by decide) ?_
    refine lv_iconst (v := 0) hx hb d_9_11_177 (by decide) ?_
    refine q_gov V (q_runV (As := [.ref (q 45), .int a204, .int 0, .int 0]) (rest := []) (d := 2) (mc := 0) (ms := 0) (ci := 7) C0 V rfl LV_Pri_204 (T_Dig_writePlain l D g q u192 45 4104 513 1000000 (n_h45 g q) a204 0 0 hI y195 y196 hO194 lx170 hO172 ⟨(by have y0 : (4104 : Int32).toInt = 4104 := rfl; have y1 : (513 : Int32).toInt = 513 := rfl; have y2 : (1000000 : Int32).toInt = 1000000 := rfl; have y3 : (0 : Int32).toInt = 0 := rfl; have y4 : (0 : Int32).toInt = 0 := rfl; omega), (by have y0 : (4104 : Int32).toInt = 4104 := rfl; have y1 : (513 : Int32).toInt = 513 := rfl; have y2 : (1000000 : Int32).toInt = 1000000 := rfl; have y3 : (0 : Int32).toInt = 0 := rfl; have y4 : (0 : Int32).toInt = 0 := rfl; omega)⟩ ⟨(by have y0 : (4104 : Int32).toInt = 4104 := rfl; have y1 : (513 : Int32).toInt = 513 := rfl; have y2 : (1000000 : Int32).toInt = 1000000 := rfl; have y3 : (0 : Int32).toInt = 0 := rfl; have y4 : (0 : Int32).toInt = 0 := rfl; omega), (by have y0 : (4104 : Int32).toInt = 4104 := rfl; have y1 : (513 : Int32).toInt = 513 := rfl; have y2 : (1000000 : Int32).toInt = 1000000 := rfl; have y3 : (0 : Int32).toInt = 0 := rfl; have y4 : (0 : Int32).toInt = 0 := rfl; omega)⟩ (by have y0 : (4104 : Int32).toInt = 4104 := rfl; have y1 : (513 : Int32).toInt = 513 := rfl; have y2 : (1000000 : Int32).toInt = 1000000 := rfl; have y3 : (0 : Int32).toInt = 0 := rfl; have y4 : (0 : Int32).toInt = 0 := rfl; have t1 : y195.toInt ≤ 20 := b198; have t2 : y196.toInt ≤ y195.toInt + 19999 := b200; omega) (by have y0 : (4104 : Int32).toInt = 4104 := rfl; have y1 : (513 : Int32).toInt = 513 := rfl; have y2 : (1000000 : Int32).toInt = 1000000 := rfl; have y3 : (0 : Int32).toInt = 0 := rfl; have y4 : (0 : Int32).toInt = 0 := rfl; have t1 : -10000 ≤ a204.toInt ∧ a204.toInt ≤ 10000 := b206; omega) (by have y0 : (4104 : Int32).toInt = 4104 := rfl; have y1 : (513 : Int32).toInt = 513 := rfl; have y2 : (1000000 : Int32).toInt = 1000000 := rfl; have y3 : (0 : Int32).toInt = 0 := rfl; have y4 : (0 : Int32).toInt = 0 := rfl; have t1 : t1_0.toInt ≤ 10 := pre2; have t2 : lx170.toInt ≤ t1_0.toInt + 1 := i175; omega) (by have y0 : (4104 : Int32).toInt = 4104 := rfl; have y1 : (513 : Int32).toInt = 513 := rfl; have y2 : (1000000 : Int32).toInt = 1000000 := rfl; have y3 : (0 : Int32).toInt = 0 := rfl; have y4 : (0 : Int32).toInt = 0 := rfl; omega) _) rfl rfl hO194 rfl hl.1 rfl (Nat.le_of_ble_eq_true rfl) ⟨by decide, by decide⟩ ⟨Nat.le_of_ble_eq_true rfl, Nat.le_of_ble_eq_true rfl⟩ d_9_11_178) (fun u207 H locs hp208 V => ?_)
    obtain ⟨hI, hu218, y210, hO209, b211, b212, b213, b214, b215, b216⟩ := hp208
    replace hO209 : u207[45]? = (some (q 45, .inr (1, [.ref (q 46), .int 4104, .int y210])) : Option (Nat × va_E)) := hO209
    replace b211 : q_F (a204.toInt + 1 ≤ y210.toInt) := b211
    replace b212 : q_F (0 + 1 ≤ y210.toInt) := b212
    replace b213 : q_F (y196.toInt + 1 ≤ y210.toInt) := b213
    replace b214 : q_F (y210.toInt ≤ y196.toInt + 1420003) := b214
    replace b215 : q_F (lx170.toInt + 1 ≤ y210.toInt) := b215
    replace b216 : q_F (y210.toInt ≤ lx170.toInt + 420003) := b216
    replace hO171 := (hu218 _ (by decide)).trans hO171
    replace hA178 := (hu218 _ (by decide)).trans hA178
    replace hA182 := (hu218 _ (by decide)).trans hA182
    replace hO194 := (hu218 _ (by decide)).trans hO194
    replace hF := q_uc hF hu218 (by simp)
    exact q_retv C0 V (⟨hI, hF, y210, hO209, (show t1_0.toInt ≤ y210.toInt from (by have t1 : t1_0.toInt ≤ lx170.toInt := i174; have t2 : lx170.toInt + 1 ≤ y210.toInt := b215; omega)), (show y210.toInt ≤ t1_0.toInt + 420004 from (by have t1 : lx170.toInt ≤ t1_0.toInt + 1 := i175; have t2 : y210.toInt ≤ lx170.toInt + 420003 := b216; omega))⟩) d_9_11_181
  ·
    intro J173
    refine lv_if_ge (tgt := 143) hx hb d_9_11_131 (by decide) (fun c219 => ?_) (fun c219 => ?_)
    ·
      have b220 : q_F (0 ≤ a167.toInt) := (q_leI c219)
      exact J173 ((t1_0 : Int32)) _ _ _ _ ⟨(show q_F (t1_0.toInt ≤ t1_0.toInt) from (show t1_0.toInt ≤ t1_0.toInt from by omega)), (show q_F (t1_0.toInt ≤ t1_0.toInt + 1) from (show t1_0.toInt ≤ t1_0.toInt + 1 from by omega)), V, q_lw hl (q_lw1 0 rfl (q_lw1 1 rfl q_lw0)), hI, hF, hT0, hT1⟩
    ·
      have b221 : q_F (a167.toInt < 0) := (q_nleI c219)
      refine lv_aload_n hx hb d_9_11_134 rfl (lv_at hl 0 rfl) ?_
      refine q_get (ci := 11) (j := 8) (v := .ref (q 45)) C0 V i_Pri rfl rfl hT0 (by decide) w_393 rfl d_9_11_135 ?_
      refine lv_bipush (v := 45) hx hb d_9_11_138 (by decide) ?_
      refine q_gov V (q_runV (As := [.int 45]) (rest := []) (d := 1) (mc := 0) (ms := 0) (ci := 1) C0 V rfl LV_Pri_113 (T_She_add l D g q ws 45 4104 513 1000000 (n_h45 g q) 45 hI t1_0 hT1 (by have y0 : (4104 : Int32).toInt = 4104 := rfl; have y1 : (513 : Int32).toInt = 513 := rfl; have y2 : (1000000 : Int32).toInt = 1000000 := rfl; have y3 : (45 : Int32).toInt = 45 := rfl; have t1 : t1_0.toInt ≤ 10 := pre2; omega) _) rfl rfl hT1 rfl hl.1 rfl (Nat.le_of_ble_eq_true rfl) ⟨by decide, by decide⟩ ⟨Nat.le_of_ble_eq_true rfl, Nat.le_of_ble_eq_true rfl⟩ d_9_11_140) (fun u222 H locs hp223 V => ?_)
      obtain ⟨hI, hu229, y225, hO224, b226, b227⟩ := hp223
      replace hO224 : u222[45]? = (some (q 45, .inr (1, [.ref (q 46), .int 4104, .int y225])) : Option (Nat × va_E)) := hO224
      replace b226 : q_F (t1_0.toInt + 1 ≤ y225.toInt) := b226
      replace b227 : q_F (y225.toInt ≤ t1_0.toInt + 1) := b227
      replace hT0 := (hu229 _ (by decide)).trans hT0
      replace hA13 := (hu229 _ (by decide)).trans hA13
      replace hA164 := (hu229 _ (by decide)).trans hA164
      replace hF := q_uc hF hu229 (by simp)
      exact J173 ((y225 : Int32)) _ _ _ _ ⟨(show q_F (t1_0.toInt ≤ y225.toInt) from (show t1_0.toInt ≤ y225.toInt from by have t1 : t1_0.toInt + 1 ≤ y225.toInt := b226; omega)), (show q_F (y225.toInt ≤ t1_0.toInt + 1) from (show y225.toInt ≤ t1_0.toInt + 1 from by have t1 : y225.toInt ≤ t1_0.toInt + 1 := b227; omega)), V, q_lw hl (q_lw1 0 rfl (q_lw1 1 rfl q_lw0)), hI, hF, hT0, hO224⟩
theorem d_9_9_0 : decode prog_9_method_9_code 0 = .ok (.aload_n 0, 1) := by decide +kernel
theorem d_9_9_1 : decode prog_9_method_9_code 1 = .ok (.getfield 47, 3) := by decide +kernel
theorem d_9_9_4 : decode prog_9_method_9_code 4 = .ok (.ldc 131, 2) := by decide +kernel
theorem d_9_9_6 : decode prog_9_method_9_code 6 = .ok (.invokevirtual 133, 3) := by decide +kernel
theorem d_9_9_9 : decode prog_9_method_9_code 9 = .ok (.ifCond .eq 30, 3) := by decide +kernel
theorem d_9_9_39 : decode prog_9_method_9_code 39 = .ok (.aload_n 0, 1) := by decide +kernel
theorem d_9_9_40 : decode prog_9_method_9_code 40 = .ok (.getfield 11, 3) := by decide +kernel
theorem d_9_9_43 : decode prog_9_method_9_code 43 = .ok (.aload_n 0, 1) := by decide +kernel
theorem d_9_9_44 : decode prog_9_method_9_code 44 = .ok (.getfield 87, 3) := by decide +kernel
theorem d_9_9_47 : decode prog_9_method_9_code 47 = .ok (.iaload, 1) := by decide +kernel
theorem d_9_9_48 : decode prog_9_method_9_code 48 = .ok (.istore_n 1, 1) := by decide +kernel
theorem d_9_9_49 : decode prog_9_method_9_code 49 = .ok (.aload_n 0, 1) := by decide +kernel
theorem d_9_9_50 : decode prog_9_method_9_code 50 = .ok (.getfield 47, 3) := by decide +kernel
theorem d_9_9_53 : decode prog_9_method_9_code 53 = .ok (.ldc 159, 2) := by decide +kernel
theorem d_9_9_55 : decode prog_9_method_9_code 55 = .ok (.invokevirtual 133, 3) := by decide +kernel
theorem d_9_9_58 : decode prog_9_method_9_code 58 = .ok (.ifCond .eq 57, 3) := by decide +kernel
theorem d_9_9_115 : decode prog_9_method_9_code 115 = .ok (.aload_n 0, 1) := by decide +kernel
theorem d_9_9_116 : decode prog_9_method_9_code 116 = .ok (.getfield 47, 3) := by decide +kernel
theorem d_9_9_119 : decode prog_9_method_9_code 119 = .ok (.ldc 172, 2) := by decide +kernel
theorem d_9_9_121 : decode prog_9_method_9_code 121 = .ok (.invokevirtual 133, 3) := by decide +kernel
theorem d_9_9_124 : decode prog_9_method_9_code 124 = .ok (.ifCond .eq 18, 3) := by decide +kernel
theorem d_9_9_142 : decode prog_9_method_9_code 142 = .ok (.iload_n 1, 1) := by decide +kernel
theorem d_9_9_143 : decode prog_9_method_9_code 143 = .ok (.ifCond .ne 15, 3) := by decide +kernel
theorem d_9_9_158 : decode prog_9_method_9_code 158 = .ok (.iload_n 1, 1) := by decide +kernel
theorem d_9_9_159 : decode prog_9_method_9_code 159 = .ok (.iconst 2, 1) := by decide +kernel
theorem d_9_9_160 : decode prog_9_method_9_code 160 = .ok (.if_icmp .ne 23, 3) := by decide +kernel
theorem d_9_9_183 : decode prog_9_method_9_code 183 = .ok (.aload_n 0, 1) := by decide +kernel
theorem d_9_9_184 : decode prog_9_method_9_code 184 = .ok (.getfield 47, 3) := by decide +kernel
theorem d_9_9_187 : decode prog_9_method_9_code 187 = .ok (.ldc 179, 2) := by decide +kernel
theorem d_9_9_189 : decode prog_9_method_9_code 189 = .ok (.invokevirtual 133, 3) := by decide +kernel
theorem d_9_9_192 : decode prog_9_method_9_code 192 = .ok (.ifCond .eq 19, 3) := by decide +kernel
theorem d_9_9_211 : decode prog_9_method_9_code 211 = .ok (.aload_n 0, 1) := by decide +kernel
theorem d_9_9_212 : decode prog_9_method_9_code 212 = .ok (.aload_n 0, 1) := by decide +kernel
theorem d_9_9_213 : decode prog_9_method_9_code 213 = .ok (.getfield 15, 3) := by decide +kernel
theorem d_9_9_216 : decode prog_9_method_9_code 216 = .ok (.aload_n 0, 1) := by decide +kernel
theorem d_9_9_217 : decode prog_9_method_9_code 217 = .ok (.getfield 87, 3) := by decide +kernel
theorem d_9_9_220 : decode prog_9_method_9_code 220 = .ok (.laload, 1) := by decide +kernel
theorem d_9_9_221 : decode prog_9_method_9_code 221 = .ok (.lconst 0, 1) := by decide +kernel
theorem d_9_9_222 : decode prog_9_method_9_code 222 = .ok (.lcmp, 1) := by decide +kernel
theorem d_9_9_231 : decode prog_9_method_9_code 231 = .ok (.invokevirtual 185, 3) := by decide +kernel
set_option maxRecDepth 100000 in
theorem w_1881 : (Cond.code ({ cls := "NumberHouse$Printer", name := "writeSign", desc := "(Z)V" } : MethodName) prog_9_method_13_code (2 : Nat) (none : Option ClassFile.FieldType)) ∈ q_tbl := q_of8 201 rfl (by decide +kernel)
set_option maxRecDepth 100000 in
theorem w_1878 : (Cond.methodLink "NumberHouse$Printer" (185 : Nat) ({ cls := "NumberHouse$Printer", name := "writeSign", desc := "(Z)V" } : MethodName)) ∈ q_tbl := q_of8 198 rfl (by decide +kernel)
set_option maxRecDepth 100000 in
theorem w_1880 : (Cond.instanceMethod ({ cls := "NumberHouse$Printer", name := "writeSign", desc := "(Z)V" } : MethodName)) ∈ q_tbl := q_of8 200 rfl (by decide +kernel)
theorem ws_57 : Cond.selects "NumberHouse$Printer" (⟨"NumberHouse$Printer", "writeSign", "(Z)V"⟩ : MethodName) (⟨"NumberHouse$Printer", "writeSign", "(Z)V"⟩ : MethodName) ∈ q_tbl := q_ofs 57 (by decide +kernel) (by decide +kernel)
theorem LV_Pri_185 : q_LV "NumberHouse$Printer" 185 y_Pri_writeSign prog_9_method_13_code 2 none 1 := ⟨w_1881, w_12, w_1878, w_1880, ws_57, ⟨by decide, by decide, by decide +kernel⟩⟩
theorem d_9_9_234 : decode prog_9_method_9_code 234 = .ok (.aload_n 0, 1) := by decide +kernel
theorem d_9_9_235 : decode prog_9_method_9_code 235 = .ok (.getfield 38, 3) := by decide +kernel
theorem d_9_9_238 : decode prog_9_method_9_code 238 = .ok (.aload_n 0, 1) := by decide +kernel
theorem d_9_9_239 : decode prog_9_method_9_code 239 = .ok (.getfield 15, 3) := by decide +kernel
theorem d_9_9_242 : decode prog_9_method_9_code 242 = .ok (.aload_n 0, 1) := by decide +kernel
theorem d_9_9_243 : decode prog_9_method_9_code 243 = .ok (.getfield 87, 3) := by decide +kernel
theorem d_9_9_246 : decode prog_9_method_9_code 246 = .ok (.laload, 1) := by decide +kernel
theorem d_9_9_247 : decode prog_9_method_9_code 247 = .ok (.aload_n 0, 1) := by decide +kernel
theorem d_9_9_248 : decode prog_9_method_9_code 248 = .ok (.getfield 19, 3) := by decide +kernel
theorem d_9_9_251 : decode prog_9_method_9_code 251 = .ok (.aload_n 0, 1) := by decide +kernel
theorem d_9_9_252 : decode prog_9_method_9_code 252 = .ok (.getfield 87, 3) := by decide +kernel
theorem d_9_9_255 : decode prog_9_method_9_code 255 = .ok (.iaload, 1) := by decide +kernel
theorem d_9_9_256 : decode prog_9_method_9_code 256 = .ok (.invokevirtual 189, 3) := by decide +kernel
theorem d_9_9_259 : decode prog_9_method_9_code 259 = .ok (.aload_n 0, 1) := by decide +kernel
theorem d_9_9_260 : decode prog_9_method_9_code 260 = .ok (.invokevirtual 195, 3) := by decide +kernel
set_option maxRecDepth 100000 in
theorem w_1885 : (Cond.code ({ cls := "NumberHouse$Printer", name := "writeNumber", desc := "()V" } : MethodName) prog_9_method_14_code (5 : Nat) (none : Option ClassFile.FieldType)) ∈ q_tbl := q_of8 205 rfl (by decide +kernel)
set_option maxRecDepth 100000 in
theorem w_1882 : (Cond.methodLink "NumberHouse$Printer" (195 : Nat) ({ cls := "NumberHouse$Printer", name := "writeNumber", desc := "()V" } : MethodName)) ∈ q_tbl := q_of8 202 rfl (by decide +kernel)
set_option maxRecDepth 100000 in
theorem w_1884 : (Cond.instanceMethod ({ cls := "NumberHouse$Printer", name := "writeNumber", desc := "()V" } : MethodName)) ∈ q_tbl := q_of8 204 rfl (by decide +kernel)
theorem ws_58 : Cond.selects "NumberHouse$Printer" (⟨"NumberHouse$Printer", "writeNumber", "()V"⟩ : MethodName) (⟨"NumberHouse$Printer", "writeNumber", "()V"⟩ : MethodName) ∈ q_tbl := q_ofs 58 (by decide +kernel) (by decide +kernel)
theorem LV_Pri_195 : q_LV "NumberHouse$Printer" 195 y_Pri_writeNumber prog_9_method_14_code 5 none 0 := ⟨w_1885, w_12, w_1882, w_1884, ws_58, ⟨by decide, by decide, by decide +kernel⟩⟩
theorem d_9_9_263 : decode prog_9_method_9_code 263 = .ok (.aload_n 0, 1) := by decide +kernel
theorem d_9_9_264 : decode prog_9_method_9_code 264 = .ok (.getfield 15, 3) := by decide +kernel
theorem d_9_9_267 : decode prog_9_method_9_code 267 = .ok (.aload_n 0, 1) := by decide +kernel
theorem d_9_9_268 : decode prog_9_method_9_code 268 = .ok (.getfield 87, 3) := by decide +kernel
theorem d_9_9_271 : decode prog_9_method_9_code 271 = .ok (.laload, 1) := by decide +kernel
theorem d_9_9_272 : decode prog_9_method_9_code 272 = .ok (.lconst 0, 1) := by decide +kernel
theorem d_9_9_273 : decode prog_9_method_9_code 273 = .ok (.lcmp, 1) := by decide +kernel
theorem d_9_9_274 : decode prog_9_method_9_code 274 = .ok (.ifCond .ge 24, 3) := by decide +kernel
theorem d_9_9_298 : decode prog_9_method_9_code 298 = .ok (.return_, 1) := by decide +kernel
theorem d_9_9_277 : decode prog_9_method_9_code 277 = .ok (.aload_n 0, 1) := by decide +kernel
theorem d_9_9_278 : decode prog_9_method_9_code 278 = .ok (.getfield 47, 3) := by decide +kernel
theorem d_9_9_281 : decode prog_9_method_9_code 281 = .ok (.bipush 32, 2) := by decide +kernel
theorem d_9_9_283 : decode prog_9_method_9_code 283 = .ok (.invokevirtual 144, 3) := by decide +kernel
theorem d_9_9_286 : decode prog_9_method_9_code 286 = .ok (.ifCond .eq 12, 3) := by decide +kernel
theorem d_9_9_289 : decode prog_9_method_9_code 289 = .ok (.aload_n 0, 1) := by decide +kernel
theorem d_9_9_290 : decode prog_9_method_9_code 290 = .ok (.getfield 31, 3) := by decide +kernel
theorem d_9_9_293 : decode prog_9_method_9_code 293 = .ok (.bipush 41, 2) := by decide +kernel
theorem d_9_9_295 : decode prog_9_method_9_code 295 = .ok (.invokevirtual 113, 3) := by decide +kernel
theorem d_9_9_223 : decode prog_9_method_9_code 223 = .ok (.ifCond .ge 7, 3) := by decide +kernel
theorem d_9_9_230 : decode prog_9_method_9_code 230 = .ok (.iconst 0, 1) := by decide +kernel
theorem d_9_9_226 : decode prog_9_method_9_code 226 = .ok (.iconst 1, 1) := by decide +kernel
theorem d_9_9_227 : decode prog_9_method_9_code 227 = .ok (.goto 4, 3) := by decide +kernel
theorem d_9_9_195 : decode prog_9_method_9_code 195 = .ok (.aload_n 0, 1) := by decide +kernel
theorem d_9_9_196 : decode prog_9_method_9_code 196 = .ok (.aload_n 0, 1) := by decide +kernel
theorem d_9_9_197 : decode prog_9_method_9_code 197 = .ok (.getfield 15, 3) := by decide +kernel
theorem d_9_9_200 : decode prog_9_method_9_code 200 = .ok (.aload_n 0, 1) := by decide +kernel
theorem d_9_9_201 : decode prog_9_method_9_code 201 = .ok (.getfield 87, 3) := by decide +kernel
theorem d_9_9_204 : decode prog_9_method_9_code 204 = .ok (.laload, 1) := by decide +kernel
theorem d_9_9_205 : decode prog_9_method_9_code 205 = .ok (.invokevirtual 181, 3) := by decide +kernel
set_option maxRecDepth 100000 in
theorem w_1873 : (Cond.code ({ cls := "NumberHouse$Printer", name := "writeToBase", desc := "(J)V" } : MethodName) prog_9_method_12_code (7 : Nat) (none : Option ClassFile.FieldType)) ∈ q_tbl := q_of8 193 rfl (by decide +kernel)
set_option maxRecDepth 100000 in
theorem w_1870 : (Cond.methodLink "NumberHouse$Printer" (181 : Nat) ({ cls := "NumberHouse$Printer", name := "writeToBase", desc := "(J)V" } : MethodName)) ∈ q_tbl := q_of8 190 rfl (by decide +kernel)
set_option maxRecDepth 100000 in
theorem w_1872 : (Cond.instanceMethod ({ cls := "NumberHouse$Printer", name := "writeToBase", desc := "(J)V" } : MethodName)) ∈ q_tbl := q_of8 192 rfl (by decide +kernel)
theorem ws_56 : Cond.selects "NumberHouse$Printer" (⟨"NumberHouse$Printer", "writeToBase", "(J)V"⟩ : MethodName) (⟨"NumberHouse$Printer", "writeToBase", "(J)V"⟩ : MethodName) ∈ q_tbl := q_ofs 56 (by decide +kernel) (by decide +kernel)
theorem LV_Pri_181 : q_LV "NumberHouse$Printer" 181 y_Pri_writeToBase prog_9_method_12_code 7 none 1 := ⟨w_1873, w_12, w_1870, w_1872, ws_56, ⟨by decide, by decide, by decide +kernel⟩⟩
theorem d_9_9_208 : decode prog_9_method_9_code 208 = .ok (.goto 90, 3) := by decide +kernel
theorem d_9_9_163 : decode prog_9_method_9_code 163 = .ok (.aload_n 0, 1) := by decide +kernel
theorem d_9_9_164 : decode prog_9_method_9_code 164 = .ok (.getfield 31, 3) := by decide +kernel
theorem d_9_9_167 : decode prog_9_method_9_code 167 = .ok (.aload_n 0, 1) := by decide +kernel
theorem d_9_9_168 : decode prog_9_method_9_code 168 = .ok (.getfield 15, 3) := by decide +kernel
theorem d_9_9_171 : decode prog_9_method_9_code 171 = .ok (.aload_n 0, 1) := by decide +kernel
theorem d_9_9_172 : decode prog_9_method_9_code 172 = .ok (.getfield 87, 3) := by decide +kernel
theorem d_9_9_175 : decode prog_9_method_9_code 175 = .ok (.laload, 1) := by decide +kernel
theorem d_9_9_176 : decode prog_9_method_9_code 176 = .ok (.l2i, 1) := by decide +kernel
theorem d_9_9_177 : decode prog_9_method_9_code 177 = .ok (.invokevirtual 113, 3) := by decide +kernel
theorem d_9_9_180 : decode prog_9_method_9_code 180 = .ok (.goto 118, 3) := by decide +kernel
theorem d_9_9_146 : decode prog_9_method_9_code 146 = .ok (.aload_n 0, 1) := by decide +kernel
theorem d_9_9_147 : decode prog_9_method_9_code 147 = .ok (.getfield 31, 3) := by decide +kernel
theorem d_9_9_150 : decode prog_9_method_9_code 150 = .ok (.ldc 177, 2) := by decide +kernel
theorem d_9_9_152 : decode prog_9_method_9_code 152 = .ok (.invokevirtual 165, 3) := by decide +kernel
theorem d_9_9_155 : decode prog_9_method_9_code 155 = .ok (.goto 143, 3) := by decide +kernel
theorem d_9_9_127 : decode prog_9_method_9_code 127 = .ok (.aload_n 0, 1) := by decide +kernel
theorem d_9_9_128 : decode prog_9_method_9_code 128 = .ok (.aload_n 0, 1) := by decide +kernel
theorem d_9_9_129 : decode prog_9_method_9_code 129 = .ok (.getfield 87, 3) := by decide +kernel
theorem d_9_9_132 : decode prog_9_method_9_code 132 = .ok (.invokevirtual 174, 3) := by decide +kernel
set_option maxRecDepth 100000 in
theorem w_1865 : (Cond.code ({ cls := "NumberHouse$Printer", name := "writeAnything", desc := "(I)V" } : MethodName) prog_9_method_11_code (2 : Nat) (none : Option ClassFile.FieldType)) ∈ q_tbl := q_of8 185 rfl (by decide +kernel)
set_option maxRecDepth 100000 in
theorem w_1862 : (Cond.methodLink "NumberHouse$Printer" (174 : Nat) ({ cls := "NumberHouse$Printer", name := "writeAnything", desc := "(I)V" } : MethodName)) ∈ q_tbl := q_of8 182 rfl (by decide +kernel)
set_option maxRecDepth 100000 in
theorem w_1864 : (Cond.instanceMethod ({ cls := "NumberHouse$Printer", name := "writeAnything", desc := "(I)V" } : MethodName)) ∈ q_tbl := q_of8 184 rfl (by decide +kernel)
theorem ws_55 : Cond.selects "NumberHouse$Printer" (⟨"NumberHouse$Printer", "writeAnything", "(I)V"⟩ : MethodName) (⟨"NumberHouse$Printer", "writeAnything", "(I)V"⟩ : MethodName) ∈ q_tbl := q_ofs 55 (by decide +kernel) (by decide +kernel)
theorem LV_Pri_174 : q_LV "NumberHouse$Printer" 174 y_Pri_writeAnything prog_9_method_11_code 2 none 1 := ⟨w_1865, w_12, w_1862, w_1864, ws_55, ⟨by decide, by decide, by decide +kernel⟩⟩
theorem d_9_9_135 : decode prog_9_method_9_code 135 = .ok (.aload_n 0, 1) := by decide +kernel
theorem d_9_9_136 : decode prog_9_method_9_code 136 = .ok (.invokevirtual 169, 3) := by decide +kernel
set_option maxRecDepth 100000 in
theorem w_1855 : (Cond.code ({ cls := "NumberHouse$Printer", name := "cutBody", desc := "()V" } : MethodName) prog_9_method_10_code (1 : Nat) (none : Option ClassFile.FieldType)) ∈ q_tbl := q_of8 175 rfl (by decide +kernel)
set_option maxRecDepth 100000 in
theorem w_1852 : (Cond.methodLink "NumberHouse$Printer" (169 : Nat) ({ cls := "NumberHouse$Printer", name := "cutBody", desc := "()V" } : MethodName)) ∈ q_tbl := q_of8 172 rfl (by decide +kernel)
set_option maxRecDepth 100000 in
theorem w_1854 : (Cond.instanceMethod ({ cls := "NumberHouse$Printer", name := "cutBody", desc := "()V" } : MethodName)) ∈ q_tbl := q_of8 174 rfl (by decide +kernel)
theorem ws_54 : Cond.selects "NumberHouse$Printer" (⟨"NumberHouse$Printer", "cutBody", "()V"⟩ : MethodName) (⟨"NumberHouse$Printer", "cutBody", "()V"⟩ : MethodName) ∈ q_tbl := q_ofs 54 (by decide +kernel) (by decide +kernel)
theorem LV_Pri_169 : q_LV "NumberHouse$Printer" 169 y_Pri_cutBody prog_9_method_10_code 1 none 0 := ⟨w_1855, w_12, w_1852, w_1854, ws_54, ⟨by decide, by decide, by decide +kernel⟩⟩
theorem d_9_9_139 : decode prog_9_method_9_code 139 = .ok (.goto 159, 3) := by decide +kernel
theorem d_9_9_61 : decode prog_9_method_9_code 61 = .ok (.iload_n 1, 1) := by decide +kernel
theorem d_9_9_89 : decode prog_9_method_9_code 89 = .ok (.istore_n 2, 1) := by decide +kernel
theorem d_9_9_90 : decode prog_9_method_9_code 90 = .ok (.aload_n 0, 1) := by decide +kernel
theorem d_9_9_91 : decode prog_9_method_9_code 91 = .ok (.getfield 31, 3) := by decide +kernel
theorem d_9_9_94 : decode prog_9_method_9_code 94 = .ok (.iload_n 2, 1) := by decide +kernel
theorem d_9_9_95 : decode prog_9_method_9_code 95 = .ok (.ifCond .eq 8, 3) := by decide +kernel
theorem d_9_9_103 : decode prog_9_method_9_code 103 = .ok (.ldc 163, 2) := by decide +kernel
theorem d_9_9_105 : decode prog_9_method_9_code 105 = .ok (.invokevirtual 165, 3) := by decide +kernel
theorem d_9_9_108 : decode prog_9_method_9_code 108 = .ok (.aload_n 0, 1) := by decide +kernel
theorem d_9_9_109 : decode prog_9_method_9_code 109 = .ok (.invokevirtual 169, 3) := by decide +kernel
theorem d_9_9_112 : decode prog_9_method_9_code 112 = .ok (.goto 186, 3) := by decide +kernel
theorem d_9_9_98 : decode prog_9_method_9_code 98 = .ok (.ldc 161, 2) := by decide +kernel
theorem d_9_9_100 : decode prog_9_method_9_code 100 = .ok (.goto 5, 3) := by decide +kernel
theorem d_9_9_84 : decode prog_9_method_9_code 84 = .ok (.iconst 1, 1) := by decide +kernel
theorem d_9_9_85 : decode prog_9_method_9_code 85 = .ok (.goto 4, 3) := by decide +kernel
theorem d_9_9_62 : decode prog_9_method_9_code 62 = .ok (.ifCond .eq 22, 3) := by decide +kernel
theorem d_9_9_65 : decode prog_9_method_9_code 65 = .ok (.iload_n 1, 1) := by decide +kernel
theorem d_9_9_66 : decode prog_9_method_9_code 66 = .ok (.iconst 1, 1) := by decide +kernel
theorem d_9_9_88 : decode prog_9_method_9_code 88 = .ok (.iconst 0, 1) := by decide +kernel
theorem d_9_9_67 : decode prog_9_method_9_code 67 = .ok (.if_icmp .ne 21, 3) := by decide +kernel
theorem d_9_9_70 : decode prog_9_method_9_code 70 = .ok (.aload_n 0, 1) := by decide +kernel
theorem d_9_9_71 : decode prog_9_method_9_code 71 = .ok (.getfield 15, 3) := by decide +kernel
theorem d_9_9_74 : decode prog_9_method_9_code 74 = .ok (.aload_n 0, 1) := by decide +kernel
theorem d_9_9_75 : decode prog_9_method_9_code 75 = .ok (.getfield 87, 3) := by decide +kernel
theorem d_9_9_78 : decode prog_9_method_9_code 78 = .ok (.laload, 1) := by decide +kernel
theorem d_9_9_79 : decode prog_9_method_9_code 79 = .ok (.lconst 0, 1) := by decide +kernel
theorem d_9_9_80 : decode prog_9_method_9_code 80 = .ok (.lcmp, 1) := by decide +kernel
theorem d_9_9_81 : decode prog_9_method_9_code 81 = .ok (.ifCond .ne 7, 3) := by decide +kernel
theorem d_9_9_12 : decode prog_9_method_9_code 12 = .ok (.aload_n 0, 1) := by decide +kernel
theorem d_9_9_13 : decode prog_9_method_9_code 13 = .ok (.getfield 31, 3) := by decide +kernel
theorem d_9_9_16 : decode prog_9_method_9_code 16 = .ok (.aload_n 0, 1) := by decide +kernel
theorem d_9_9_17 : decode prog_9_method_9_code 17 = .ok (.getfield 47, 3) := by decide +kernel
theorem d_9_9_20 : decode prog_9_method_9_code 20 = .ok (.getfield 156, 3) := by decide +kernel
theorem d_9_9_23 : decode prog_9_method_9_code 23 = .ok (.bipush 110, 2) := by decide +kernel
theorem d_9_9_25 : decode prog_9_method_9_code 25 = .ok (.if_icmp .ne 8, 3) := by decide +kernel
theorem d_9_9_33 : decode prog_9_method_9_code 33 = .ok (.bipush 37, 2) := by decide +kernel
theorem d_9_9_35 : decode prog_9_method_9_code 35 = .ok (.invokevirtual 113, 3) := by decide +kernel
theorem d_9_9_38 : decode prog_9_method_9_code 38 = .ok (.return_, 1) := by decide +kernel
theorem d_9_9_28 : decode prog_9_method_9_code 28 = .ok (.bipush 10, 2) := by decide +kernel
theorem d_9_9_30 : decode prog_9_method_9_code 30 = .ok (.goto 5, 3) := by decide +kernel
def y_Pri_writeBody : MethodName := ⟨"NumberHouse$Printer", "writeBody", "()V"⟩
set_option maxRecDepth 100000 in
set_option maxHeartbeats 4000000 in
theorem T_Pri_writeBody (l : Launch) (D : va_G) (g : Nat → ClassId) (q : Nat → Nat) (ws : va_W) (hI : q_I (nsh g q) q ws) (t0_0 : Int32) (t0_1 : Int32) (t0_2 : Int32) (t0_3 : Int32) (hT0 : ws[40]? = (some (q 40, .inr (11, [.int t0_0, .ref (q 41), .ref (q 42), .ref (q 43), .ref (q 44), .ref (q 1), .ref (q 47), .ref (q 36), .ref (q 45), .int t0_1, .int t0_2, .int t0_3])) : Option (Nat × va_E))) (t1_0 : Int32) (hT1 : ws[45]? = (some (q 45, .inr (1, [.ref (q 46), .int 4104, .int t1_0])) : Option (Nat × va_E))) (t2_0 : Int32) (t2_1 : Int32) (t2_2 : Int32) (t2_3 : Int32) (t2_4 : Int32) (t2_5 : Int32) (t2_6 : Int32) (hT2 : ws[47]? = (some (q 47, .inr (10, [.int t2_0, .int t2_1, .int t2_2, .int t2_3, .int t2_4, .int t2_5, .ref (q 1), .int t2_6])) : Option (Nat × va_E))) (gp : Int32) (hgp : gp = F_Dir_isOneOf_e_7 t2_4) (pre0 : 0 ≤ gp.toInt + t0_3.toInt) (pre1 : t1_0.toInt ≤ 0) : q_mV l y_Pri_writeBody prog_9_method_9_code 3 7 0 0 D g [.ref (q 40)] ws (fun u => q_I (nsh g q) q u ∧ q_un ws u [36, 37, 40, 45, 46] ∧ ∃ (u0_0 : Int32) (u0_1 : Int32) (u0_2 : Int32) (u0_3 : Int32) (u1_0 : Int32), u[40]? = (some (q 40, .inr (11, [.int u0_0, .ref (q 41), .ref (q 42), .ref (q 43), .ref (q 44), .ref (q 1), .ref (q 47), .ref (q 36), .ref (q 45), .int u0_1, .int u0_2, .int u0_3])) : Option (Nat × va_E)) ∧ u[45]? = (some (q 45, .inr (1, [.ref (q 46), .int 4104, .int u1_0])) : Option (Nat × va_E)) ∧ (t0_0.toInt ≤ u0_0.toInt) ∧ (u0_0.toInt ≤ t0_0.toInt) ∧ (t0_1.toInt ≤ u0_1.toInt + 1000000) ∧ (u0_1.toInt ≤ t0_1.toInt + 3) ∧ (t1_0.toInt ≤ u0_1.toInt + 1) ∧ (u0_1.toInt ≤ t1_0.toInt + 1000000) ∧ (t0_2.toInt ≤ u0_2.toInt) ∧ (u0_2.toInt ≤ t0_2.toInt) ∧ (t0_3.toInt ≤ u0_3.toInt) ∧ (u0_3.toInt ≤ t0_3.toInt) ∧ (t1_0.toInt ≤ u1_0.toInt) ∧ (u1_0.toInt ≤ t1_0.toInt + 420005) ∧ (u1_0.toInt ≤ u0_1.toInt + 420005) ∧ (u1_0.toInt ≤ u0_3.toInt + 420005)) := by
  intro sz
  refine q_into (by decide) (Nat.le_of_ble_eq_true rfl) ?_
  intro p e s m below meth c ls hsz C0 V hl
  have hx := C0.1
  have hb := C0.2.1
  obtain ⟨yy0_0, yy0_1, yy0_2, yy0_3, hh0, btt0_0, btt0_1, btt0_3⟩ := n_o40 hI
  obtain ⟨rfl, rfl, rfl, rfl⟩ : t0_0 = yy0_0 ∧ t0_1 = yy0_1 ∧ t0_2 = yy0_2 ∧ t0_3 = yy0_3 := by have z := Option.some.inj (hT0.symm.trans hh0); simpa using z
  replace btt0_0 : q_F (0 ≤ t0_0.toInt ∧ t0_0.toInt ≤ 9) := btt0_0
  replace btt0_1 : q_F (-1 ≤ t0_1.toInt ∧ t0_1.toInt ≤ 1000000) := btt0_1
  replace btt0_3 : q_F (-1 ≤ t0_3.toInt ∧ t0_3.toInt ≤ 8) := btt0_3
  obtain ⟨yy1_0, hh1, btt1_0⟩ := n_shO hI (n_h45 g q)
  obtain ⟨rfl⟩ : t1_0 = yy1_0 := by have z := Option.some.inj (hT1.symm.trans hh1); simpa using z
  replace btt1_0 : q_F (0 ≤ t1_0.toInt ∧ t1_0.toInt ≤ 1000000) := btt1_0
  obtain ⟨yy2_0, yy2_1, yy2_2, yy2_3, yy2_4, yy2_5, yy2_6, hh2, btt2_2, btt2_3, btt2_6⟩ := n_o47 hI
  obtain ⟨rfl, rfl, rfl, rfl, rfl, rfl, rfl⟩ : t2_0 = yy2_0 ∧ t2_1 = yy2_1 ∧ t2_2 = yy2_2 ∧ t2_3 = yy2_3 ∧ t2_4 = yy2_4 ∧ t2_5 = yy2_5 ∧ t2_6 = yy2_6 := by have z := Option.some.inj (hT2.symm.trans hh2); simpa using z
  replace btt2_2 : q_F (-1 ≤ t2_2.toInt ∧ t2_2.toInt ≤ 9999) := btt2_2
  replace btt2_3 : q_F (-1 ≤ t2_3.toInt ∧ t2_3.toInt ≤ 9999) := btt2_3
  replace btt2_6 : q_F (0 ≤ t2_6.toInt ∧ t2_6.toInt ≤ 1) := btt2_6
  have hfgp : q_F (0 ≤ gp.toInt ∧ gp.toInt ≤ 1) := (by rw [hgp]; exact n_oo01)
  replace pre0 : q_F (0 ≤ gp.toInt + t0_3.toInt) := pre0
  replace pre1 : q_F (t1_0.toInt ≤ 0) := pre1
  have hF : q_un ws ws [36, 37, 40, 45, 46] := q_u0
  have hl : lv_has ls 3 [(0, .ref (q 40))] := hl
  refine lv_aload_n hx hb d_9_9_0 rfl (lv_at hl 0 rfl) ?_
  refine q_get (ci := 11) (j := 6) (v := .ref (q 47)) C0 V i_Pri rfl rfl hT0 (by decide) w_391 rfl d_9_9_1 ?_
  refine q_ldcs (i := 7) C0 V rfl rfl d_9_9_4 ?_
  refine q_goi V (q_runV (As := [.ref (g (8 + 2 * 7))]) (rest := []) (d := 5) (mc := 0) (ms := 0) (ci := 10) C0 V rfl LV_Pri_133 (T_Dir_isOneOf_e_7 l D g q ws   hI t2_0 t2_1 t2_2 t2_3 t2_4 t2_5 t2_6 hT2  _) rfl rfl hT2 rfl hl.1 rfl (Nat.le_of_ble_eq_true rfl) ⟨by decide, by decide⟩ ⟨Nat.le_of_ble_eq_true rfl, Nat.le_of_ble_eq_true rfl⟩ d_9_9_6) (fun a25 u23 H locs hp24 V => ?_)
  obtain ⟨rfl, b26, b27, pu28⟩ := hp24
  replace b26 : q_F (0 ≤ a25.toInt) := b26
  replace b27 : q_F (a25.toInt ≤ 1) := b27
  obtain rfl : gp = a25 := hgp.trans pu28.symm
  refine lv_if_eq (tgt := 39) hx hb d_9_9_9 (by decide) (fun c30 => ?_) (fun c30 => ?_)
  ·
    have b31 : q_F (gp.toInt = 0) := (q_eqI c30)
    refine lv_aload_n hx hb d_9_9_39 rfl (lv_at hl 0 rfl) ?_
    refine q_get (ci := 11) (j := 1) (v := .ref (q 41)) C0 V i_Pri rfl rfl hT0 (by decide) w_386 rfl d_9_9_40 ?_
    refine lv_aload_n hx hb d_9_9_43 rfl (lv_at hl 0 rfl) ?_
    refine q_get (ci := 11) (j := 11) (v := .int t0_3) C0 V i_Pri rfl rfl hT0 (by decide) w_396 rfl d_9_9_44 ?_
    obtain ⟨f32, hA33, bf34⟩ := n_ai hI (n_s41 g q)
    refine q_iald C0 V hA33 (q_ix (x := t0_3.toInt) rfl (by have t1 : 0 ≤ gp.toInt + t0_3.toInt := pre0; have t2 : gp.toInt = 0 := b31; omega) (by have t1 : 0 ≤ gp.toInt + t0_3.toInt := pre0; have t2 : gp.toInt = 0 := b31; have t3 : -1 ≤ t0_3.toInt ∧ t0_3.toInt ≤ 8 := btt0_3; omega)) d_9_9_47 ?_
    obtain ⟨a35, e36⟩ := q_nm (f32 t0_3.toNatClampNeg : Int32)
    refine q_ti (v := a35) e36 ?_
    refine lv_istore_n (lv' := [(1, .int a35), (0, .ref (q 40))]) hx hb d_9_9_48 rfl hl (by decide) rfl (fun ls hl => ?_)
    refine lv_aload_n hx hb d_9_9_49 rfl (lv_at hl 1 rfl) ?_
    refine q_get (ci := 11) (j := 6) (v := .ref (q 47)) C0 V i_Pri rfl rfl hT0 (by decide) w_391 rfl d_9_9_50 ?_
    refine q_ldcs (i := 11) C0 V rfl rfl d_9_9_53 ?_
    refine q_goi V (q_runV (As := [.ref (g (8 + 2 * 11))]) (rest := []) (d := 5) (mc := 0) (ms := 0) (ci := 10) C0 V rfl LV_Pri_133 (T_Dir_isOneOf_11 l D g q ws   hI   _) rfl rfl hT2 rfl hl.1 rfl (Nat.le_of_ble_eq_true rfl) ⟨by decide, by decide⟩ ⟨Nat.le_of_ble_eq_true rfl, Nat.le_of_ble_eq_true rfl⟩ d_9_9_55) (fun a39 u37 H locs hp38 V => ?_)
    obtain ⟨rfl, b40, b41⟩ := hp38
    replace b40 : q_F (0 ≤ a39.toInt) := b40
    replace b41 : q_F (a39.toInt ≤ 1) := b41
    refine lv_if_eq (tgt := 115) hx hb d_9_9_58 (by decide) (fun c43 => ?_) (fun c43 => ?_)
    ·
      have b44 : q_F (a39.toInt = 0) := (q_eqI c43)
      refine lv_aload_n hx hb d_9_9_115 rfl (lv_at hl 1 rfl) ?_
      refine q_get (ci := 11) (j := 6) (v := .ref (q 47)) C0 V i_Pri rfl rfl hT0 (by decide) w_391 rfl d_9_9_116 ?_
      refine q_ldcs (i := 14) C0 V rfl rfl d_9_9_119 ?_
      refine q_goi V (q_runV (As := [.ref (g (8 + 2 * 14))]) (rest := []) (d := 5) (mc := 0) (ms := 0) (ci := 10) C0 V rfl LV_Pri_133 (T_Dir_isOneOf_14 l D g q ws   hI   _) rfl rfl hT2 rfl hl.1 rfl (Nat.le_of_ble_eq_true rfl) ⟨by decide, by decide⟩ ⟨Nat.le_of_ble_eq_true rfl, Nat.le_of_ble_eq_true rfl⟩ d_9_9_121) (fun a47 u45 H locs hp46 V => ?_)
      obtain ⟨rfl, b48, b49⟩ := hp46
      replace b48 : q_F (0 ≤ a47.toInt) := b48
      replace b49 : q_F (a47.toInt ≤ 1) := b49
      refine lv_if_eq (tgt := 142) hx hb d_9_9_124 (by decide) (fun c51 => ?_) (fun c51 => ?_)
      ·
        have b52 : q_F (a47.toInt = 0) := (q_eqI c51)
        refine lv_iload_n hx hb d_9_9_142 rfl (lv_at hl 0 rfl) ?_
        refine lv_if_ne (tgt := 158) hx hb d_9_9_143 (by decide) (fun c53 => ?_) (fun c53 => ?_)
        ·
          have b54 : q_F (a35.toInt ≠ 0) := (q_neI c53)
          refine lv_iload_n hx hb d_9_9_158 rfl (lv_at hl 0 rfl) ?_
          refine lv_iconst (v := 2) hx hb d_9_9_159 (by decide) ?_
          refine lv_icmp_ne (tgt := 183) hx hb d_9_9_160 (by decide) (fun c55 => ?_) (fun c55 => ?_)
          ·
            have b56 : q_F (a35.toInt ≠ 2) := (q_neI c55)
            refine lv_aload_n hx hb d_9_9_183 rfl (lv_at hl 1 rfl) ?_
            refine q_get (ci := 11) (j := 6) (v := .ref (q 47)) C0 V i_Pri rfl rfl hT0 (by decide) w_391 rfl d_9_9_184 ?_
            refine q_ldcs (i := 16) C0 V rfl rfl d_9_9_187 ?_
            refine q_goi V (q_runV (As := [.ref (g (8 + 2 * 16))]) (rest := []) (d := 5) (mc := 0) (ms := 0) (ci := 10) C0 V rfl LV_Pri_133 (T_Dir_isOneOf_16 l D g q ws   hI   _) rfl rfl hT2 rfl hl.1 rfl (Nat.le_of_ble_eq_true rfl) ⟨by decide, by decide⟩ ⟨Nat.le_of_ble_eq_true rfl, Nat.le_of_ble_eq_true rfl⟩ d_9_9_189) (fun a59 u57 H locs hp58 V => ?_)
            obtain ⟨rfl, b60, b61⟩ := hp58
            replace b60 : q_F (0 ≤ a59.toInt) := b60
            replace b61 : q_F (a59.toInt ≤ 1) := b61
            refine lv_if_eq (tgt := 211) hx hb d_9_9_192 (by decide) (fun c63 => ?_) (fun c63 => ?_)
            ·
              have b64 : q_F (a59.toInt = 0) := (q_eqI c63)
              refine lv_aload_n hx hb d_9_9_211 rfl (lv_at hl 1 rfl) ?_
              refine lv_aload_n hx hb d_9_9_212 rfl (lv_at hl 1 rfl) ?_
              refine q_get (ci := 11) (j := 2) (v := .ref (q 42)) C0 V i_Pri rfl rfl hT0 (by decide) w_387 rfl d_9_9_213 ?_
              refine lv_aload_n hx hb d_9_9_216 rfl (lv_at hl 1 rfl) ?_
              refine q_get (ci := 11) (j := 11) (v := .int t0_3) C0 V i_Pri rfl rfl hT0 (by decide) w_396 rfl d_9_9_217 ?_
              obtain ⟨f65, hA66⟩ := n_al hI (n_s42 g q)
              refine q_lald C0 V hA66 (q_ix (x := t0_3.toInt) rfl (by have t1 : 0 ≤ gp.toInt + t0_3.toInt := pre0; have t2 : gp.toInt = 0 := b31; omega) (by have t1 : 0 ≤ gp.toInt + t0_3.toInt := pre0; have t2 : gp.toInt = 0 := b31; have t3 : -1 ≤ t0_3.toInt ∧ t0_3.toInt ≤ 8 := btt0_3; omega)) d_9_9_220 ?_
              obtain ⟨j67, e68⟩ := q_nm (f65 t0_3.toNatClampNeg : Int64)
              refine q_tl (v := j67) e68 ?_
              refine lv_lconst (v := 0) hx hb d_9_9_221 (by decide) ?_
              refine W.lcmp hx hb d_9_9_222 ?_
              obtain ⟨a69, e70⟩ := q_nm (lg_cmp j67 0 : Int32)
              refine q_ti (v := a69) e70 ?_
              have b71 : q_F (-1 ≤ a69.toInt ∧ a69.toInt ≤ 1 ∧ ((a69.toInt = -1 ∧ j67.toInt < 0) ∨ (a69.toInt = 0 ∧ j67.toInt = 0) ∨ (a69.toInt = 1 ∧ 0 < j67.toInt))) := (by rw [← e70]; show -1 ≤ (lg_cmp j67 0 : Int32).toInt ∧ (lg_cmp j67 0 : Int32).toInt ≤ 1 ∧ (((lg_cmp j67 0 : Int32).toInt = -1 ∧ j67.toInt < 0) ∨ ((lg_cmp j67 0 : Int32).toInt = 0 ∧ j67.toInt = 0) ∨ ((lg_cmp j67 0 : Int32).toInt = 1 ∧ 0 < j67.toInt)); exact (by have y1 : (0 : Int64).toInt = 0 := rfl; have z := s_lcmp (a := j67) (b := 0); omega))
              refine q_join (X := Int32) (fun z H locs ls _ => q_F (t1_0.toInt ≤ z.toInt) ∧ q_F (z.toInt ≤ t1_0.toInt + 1) ∧ q_Wd D g (va_A ws sz) s ws H locs ∧ lv_has ls 3 [(0, .ref (q 40))]) (fun z => [.int z, .ref (q 40)]) 231 0 0 ?_ ?_
              ·
                rintro lx72 H locs ls _ ⟨i77, i78, V, hl⟩
                replace i77 : q_F (t1_0.toInt ≤ lx72.toInt) := i77
                replace i78 : q_F (lx72.toInt ≤ t1_0.toInt + 1) := i78
                replace hl : lv_has ls 3 [(0, .ref (q 40))] := hl
                refine q_gov V (q_runV (As := [.int lx72]) (rest := []) (d := 2) (mc := 0) (ms := 0) (ci := 11) C0 V rfl LV_Pri_185 (T_Pri_writeSign l D g q ws  lx72 hI t0_0 t0_1 t0_2 t0_3 hT0 t1_0 hT1 t2_0 t2_1 t2_2 t2_3 t2_4 t2_5 t2_6 hT2 ⟨(by have t1 : 0 ≤ t1_0.toInt ∧ t1_0.toInt ≤ 1000000 := btt1_0; have t2 : t1_0.toInt ≤ lx72.toInt := i77; omega), (by have t1 : t1_0.toInt ≤ 0 := pre1; have t2 : lx72.toInt ≤ t1_0.toInt + 1 := i78; omega)⟩ (by have t1 : t1_0.toInt ≤ 0 := pre1; omega) _) rfl rfl hT0 rfl hl.1 rfl (Nat.le_of_ble_eq_true rfl) ⟨by decide, by decide⟩ ⟨Nat.le_of_ble_eq_true rfl, Nat.le_of_ble_eq_true rfl⟩ d_9_9_231) (fun u79 H locs hp80 V => ?_)
                obtain ⟨hI, hu100, y82, y83, y84, y85, y87, hO81, hO86, b88, b89, b90, b91, b92, b93, b94, b95, b96, b97, b98⟩ := hp80
                replace hO81 : u79[40]? = (some (q 40, .inr (11, [.int y82, .ref (q 41), .ref (q 42), .ref (q 43), .ref (q 44), .ref (q 1), .ref (q 47), .ref (q 36), .ref (q 45), .int y83, .int y84, .int y85])) : Option (Nat × va_E)) := hO81
                replace hO86 : u79[45]? = (some (q 45, .inr (1, [.ref (q 46), .int 4104, .int y87])) : Option (Nat × va_E)) := hO86
                replace b88 : q_F (t0_0.toInt ≤ y82.toInt) := b88
                replace b89 : q_F (y82.toInt ≤ t0_0.toInt) := b89
                replace b90 : q_F (t0_2.toInt ≤ y84.toInt) := b90
                replace b91 : q_F (y84.toInt ≤ t0_2.toInt) := b91
                replace b92 : q_F (t0_3.toInt ≤ y85.toInt) := b92
                replace b93 : q_F (y85.toInt ≤ t0_3.toInt) := b93
                replace b94 : q_F (lx72.toInt ≤ y87.toInt) := b94
                replace b95 : q_F (t1_0.toInt ≤ y87.toInt) := b95
                replace b96 : q_F (y87.toInt ≤ t1_0.toInt + 1) := b96
                replace b97 : q_F (y87.toInt ≤ y83.toInt) := b97
                replace b98 : q_F (y83.toInt ≤ y87.toInt) := b98
                replace hT2 := (hu100 _ (by decide)).trans hT2
                replace hA33 := (hu100 _ (by decide)).trans hA33
                replace hA66 := (hu100 _ (by decide)).trans hA66
                replace hF := q_uc hF hu100 (by simp)
                refine lv_aload_n hx hb d_9_9_234 rfl (lv_at hl 0 rfl) ?_
                refine q_get (ci := 11) (j := 7) (v := .ref (q 36)) C0 V i_Pri rfl rfl hO81 (by decide) w_392 rfl d_9_9_235 ?_
                refine lv_aload_n hx hb d_9_9_238 rfl (lv_at hl 0 rfl) ?_
                refine q_get (ci := 11) (j := 2) (v := .ref (q 42)) C0 V i_Pri rfl rfl hO81 (by decide) w_387 rfl d_9_9_239 ?_
                refine lv_aload_n hx hb d_9_9_242 rfl (lv_at hl 0 rfl) ?_
                refine q_get (ci := 11) (j := 11) (v := .int y85) C0 V i_Pri rfl rfl hO81 (by decide) w_396 rfl d_9_9_243 ?_
                refine q_lald C0 V hA66 (q_ix (x := y85.toInt) rfl (by have t1 : 0 ≤ gp.toInt + t0_3.toInt := pre0; have t2 : gp.toInt = 0 := b31; have t3 : t0_3.toInt ≤ y85.toInt := b92; omega) (by have t1 : 0 ≤ gp.toInt + t0_3.toInt := pre0; have t2 : gp.toInt = 0 := b31; have t3 : t0_3.toInt ≤ y85.toInt := b92; have t4 : -1 ≤ t0_3.toInt ∧ t0_3.toInt ≤ 8 := btt0_3; have t5 : y85.toInt ≤ t0_3.toInt := b93; omega)) d_9_9_246 ?_
                obtain ⟨j101, e102⟩ := q_nm (f65 y85.toNatClampNeg : Int64)
                refine q_tl (v := j101) e102 ?_
                refine lv_aload_n hx hb d_9_9_247 rfl (lv_at hl 0 rfl) ?_
                refine q_get (ci := 11) (j := 3) (v := .ref (q 43)) C0 V i_Pri rfl rfl hO81 (by decide) w_388 rfl d_9_9_248 ?_
                refine lv_aload_n hx hb d_9_9_251 rfl (lv_at hl 0 rfl) ?_
                refine q_get (ci := 11) (j := 11) (v := .int y85) C0 V i_Pri rfl rfl hO81 (by decide) w_396 rfl d_9_9_252 ?_
                obtain ⟨f103, hA104, bf105⟩ := n_ai hI (n_s43 g q)
                refine q_iald C0 V hA104 (q_ix (x := y85.toInt) rfl (by have t1 : 0 ≤ gp.toInt + t0_3.toInt := pre0; have t2 : gp.toInt = 0 := b31; have t3 : t0_3.toInt ≤ y85.toInt := b92; omega) (by have t1 : 0 ≤ gp.toInt + t0_3.toInt := pre0; have t2 : gp.toInt = 0 := b31; have t3 : t0_3.toInt ≤ y85.toInt := b92; have t4 : -1 ≤ t0_3.toInt ∧ t0_3.toInt ≤ 8 := btt0_3; have t5 : y85.toInt ≤ t0_3.toInt := b93; omega)) d_9_9_255 ?_
                obtain ⟨a106, e107⟩ := q_nm (f103 y85.toNatClampNeg : Int32)
                refine q_ti (v := a106) e107 ?_
                have b108 : q_F (-10000 ≤ a106.toInt ∧ a106.toInt ≤ 10000) := (by rw [← e107]; show -10000 ≤ (f103 y85.toNatClampNeg : Int32).toInt ∧ (f103 y85.toNatClampNeg : Int32).toInt ≤ 10000; exact bf105 _)
                obtain ⟨y110, y112, hO109, b111, b113⟩ := n_o36 hI
                replace b111 : q_F (0 ≤ y110.toInt ∧ y110.toInt ≤ 1026) := b111
                replace b113 : q_F (-1000000 ≤ y112.toInt ∧ y112.toInt ≤ 1000000) := b113
                refine q_gov V (q_runV (As := [.long j101, .int a106]) (rest := []) (d := 2) (mc := 0) (ms := 0) (ci := 7) C0 V rfl LV_Pri_189 (T_Dig_fillLong l D g q u79  j101 a106 hI y110 y112 hO109 (by have t1 : -10000 ≤ a106.toInt ∧ a106.toInt ≤ 10000 := b108; omega) (by have t1 : -10000 ≤ a106.toInt ∧ a106.toInt ≤ 10000 := b108; omega) _) rfl rfl hO109 rfl hl.1 rfl (Nat.le_of_ble_eq_true rfl) ⟨by decide, by decide⟩ ⟨Nat.le_of_ble_eq_true rfl, Nat.le_of_ble_eq_true rfl⟩ d_9_9_256) (fun u114 H locs hp115 V => ?_)
                obtain ⟨hI, hu125, y117, y118, hO116, b119, b120, b121, b122, b123⟩ := hp115
                replace hO116 : u114[36]? = (some (q 36, .inr (7, [.int y117, .int y118, .ref (q 37)])) : Option (Nat × va_E)) := hO116
                replace b119 : q_F (0 ≤ y117.toInt) := b119
                replace b120 : q_F (y117.toInt ≤ 20) := b120
                replace b121 : q_F (0 ≤ y118.toInt + 20000) := b121
                replace b122 : q_F (y118.toInt ≤ y117.toInt + 19999) := b122
                replace b123 : q_F (y117.toInt ≤ y118.toInt + 20001) := b123
                replace hO81 := (hu125 _ (by decide)).trans hO81
                replace hO86 := (hu125 _ (by decide)).trans hO86
                replace hT2 := (hu125 _ (by decide)).trans hT2
                replace hA33 := (hu125 _ (by decide)).trans hA33
                replace hA66 := (hu125 _ (by decide)).trans hA66
                replace hA104 := (hu125 _ (by decide)).trans hA104
                replace hF := q_uc hF hu125 (by simp)
                refine lv_aload_n hx hb d_9_9_259 rfl (lv_at hl 0 rfl) ?_
                refine q_gov V (q_runV (As := []) (rest := []) (d := 4) (mc := 0) (ms := 0) (ci := 11) C0 V rfl LV_Pri_195 (T_Pri_writeNumber l D g q u114   hI y117 y118 hO116 y87 hO86 t2_0 t2_1 t2_2 t2_3 t2_4 t2_5 t2_6 hT2 (by have t1 : 0 ≤ y118.toInt + 20000 := b121; omega) (by have t1 : y117.toInt ≤ 20 := b120; have t2 : y118.toInt ≤ y117.toInt + 19999 := b122; omega) (by have t1 : t1_0.toInt ≤ 0 := pre1; have t2 : y87.toInt ≤ t1_0.toInt + 1 := b96; omega) _) rfl rfl hO81 rfl hl.1 rfl (Nat.le_of_ble_eq_true rfl) ⟨by decide, by decide⟩ ⟨Nat.le_of_ble_eq_true rfl, Nat.le_of_ble_eq_true rfl⟩ d_9_9_260) (fun u126 H locs hp127 V => ?_)
                obtain ⟨hI, hu146, y129, y130, y132, hO128, hO131, b133, b134, b135, b136, b137, b138, b139, b140, b141, b142, b143, b144⟩ := hp127
                replace hO128 : u126[36]? = (some (q 36, .inr (7, [.int y129, .int y130, .ref (q 37)])) : Option (Nat × va_E)) := hO128
                replace hO131 : u126[45]? = (some (q 45, .inr (1, [.ref (q 46), .int 4104, .int y132])) : Option (Nat × va_E)) := hO131
                replace b133 : q_F (0 ≤ y129.toInt) := b133
                replace b134 : q_F (y129.toInt ≤ 1026) := b134
                replace b135 : q_F (y130.toInt ≤ 100001) := b135
                replace b136 : q_F (y129.toInt ≤ y117.toInt + 1) := b136
                replace b137 : q_F (y130.toInt ≤ y117.toInt + 100000) := b137
                replace b138 : q_F (y118.toInt ≤ y130.toInt) := b138
                replace b139 : q_F (y130.toInt ≤ y118.toInt + 100001) := b139
                replace b140 : q_F (y118.toInt ≤ y132.toInt + 59997) := b140
                replace b141 : q_F (y87.toInt + 1 ≤ y132.toInt) := b141
                replace b142 : q_F (y132.toInt ≤ y87.toInt + 420003) := b142
                replace b143 : q_F (y130.toInt ≤ y129.toInt + 100000) := b143
                replace b144 : q_F (y130.toInt ≤ y132.toInt + 59999) := b144
                replace hO81 := (hu146 _ (by decide)).trans hO81
                replace hT2 := (hu146 _ (by decide)).trans hT2
                replace hA33 := (hu146 _ (by decide)).trans hA33
                replace hA66 := (hu146 _ (by decide)).trans hA66
                replace hA104 := (hu146 _ (by decide)).trans hA104
                replace hF := q_uc hF hu146 (by simp)
                refine lv_aload_n hx hb d_9_9_263 rfl (lv_at hl 0 rfl) ?_
                refine q_get (ci := 11) (j := 2) (v := .ref (q 42)) C0 V i_Pri rfl rfl hO81 (by decide) w_387 rfl d_9_9_264 ?_
                refine lv_aload_n hx hb d_9_9_267 rfl (lv_at hl 0 rfl) ?_
                refine q_get (ci := 11) (j := 11) (v := .int y85) C0 V i_Pri rfl rfl hO81 (by decide) w_396 rfl d_9_9_268 ?_
                refine q_lald C0 V hA66 (q_ix (x := y85.toInt) rfl (by have t1 : 0 ≤ gp.toInt + t0_3.toInt := pre0; have t2 : gp.toInt = 0 := b31; have t3 : t0_3.toInt ≤ y85.toInt := b92; omega) (by have t1 : 0 ≤ gp.toInt + t0_3.toInt := pre0; have t2 : gp.toInt = 0 := b31; have t3 : t0_3.toInt ≤ y85.toInt := b92; have t4 : -1 ≤ t0_3.toInt ∧ t0_3.toInt ≤ 8 := btt0_3; have t5 : y85.toInt ≤ t0_3.toInt := b93; omega)) d_9_9_271 ?_
                obtain ⟨j147, e148⟩ := q_nm (f65 y85.toNatClampNeg : Int64)
                refine q_tl (v := j147) e148 ?_
                refine lv_lconst (v := 0) hx hb d_9_9_272 (by decide) ?_
                refine W.lcmp hx hb d_9_9_273 ?_
                obtain ⟨a149, e150⟩ := q_nm (lg_cmp j147 0 : Int32)
                refine q_ti (v := a149) e150 ?_
                have b151 : q_F (-1 ≤ a149.toInt ∧ a149.toInt ≤ 1 ∧ ((a149.toInt = -1 ∧ j147.toInt < 0) ∨ (a149.toInt = 0 ∧ j147.toInt = 0) ∨ (a149.toInt = 1 ∧ 0 < j147.toInt))) := (by rw [← e150]; show -1 ≤ (lg_cmp j147 0 : Int32).toInt ∧ (lg_cmp j147 0 : Int32).toInt ≤ 1 ∧ (((lg_cmp j147 0 : Int32).toInt = -1 ∧ j147.toInt < 0) ∨ ((lg_cmp j147 0 : Int32).toInt = 0 ∧ j147.toInt = 0) ∨ ((lg_cmp j147 0 : Int32).toInt = 1 ∧ 0 < j147.toInt)); exact (by have y1 : (0 : Int64).toInt = 0 := rfl; have z := s_lcmp (a := j147) (b := 0); omega))
                refine lv_if_ge (tgt := 298) hx hb d_9_9_274 (by decide) (fun c152 => ?_) (fun c152 => ?_)
                ·
                  have b153 : q_F (0 ≤ a149.toInt) := (q_leI c152)
                  exact q_retv C0 V (⟨hI, hF, y82, y83, y84, y85, y132, hO81, hO131, (show t0_0.toInt ≤ y82.toInt from (by have t1 : t0_0.toInt ≤ y82.toInt := b88; omega)), (show y82.toInt ≤ t0_0.toInt from (by have t1 : y82.toInt ≤ t0_0.toInt := b89; omega)), (show t0_1.toInt ≤ y83.toInt + 1000000 from (by have t1 : -1 ≤ t0_1.toInt ∧ t0_1.toInt ≤ 1000000 := btt0_1; have t2 : 0 ≤ t1_0.toInt ∧ t1_0.toInt ≤ 1000000 := btt1_0; have t3 : t1_0.toInt ≤ lx72.toInt := i77; have t4 : lx72.toInt ≤ y87.toInt := b94; have t5 : y87.toInt ≤ y83.toInt := b97; omega)), (show y83.toInt ≤ t0_1.toInt + 3 from (by have t1 : -1 ≤ t0_1.toInt ∧ t0_1.toInt ≤ 1000000 := btt0_1; have t2 : t1_0.toInt ≤ 0 := pre1; have t3 : y87.toInt ≤ t1_0.toInt + 1 := b96; have t4 : y83.toInt ≤ y87.toInt := b98; omega)), (show t1_0.toInt ≤ y83.toInt + 1 from (by have t1 : t1_0.toInt ≤ y87.toInt := b95; have t2 : y87.toInt ≤ y83.toInt := b97; omega)), (show y83.toInt ≤ t1_0.toInt + 1000000 from (by have t1 : y87.toInt ≤ t1_0.toInt + 1 := b96; have t2 : y83.toInt ≤ y87.toInt := b98; omega)), (show t0_2.toInt ≤ y84.toInt from (by have t1 : t0_2.toInt ≤ y84.toInt := b90; omega)), (show y84.toInt ≤ t0_2.toInt from (by have t1 : y84.toInt ≤ t0_2.toInt := b91; omega)), (show t0_3.toInt ≤ y85.toInt from (by have t1 : t0_3.toInt ≤ y85.toInt := b92; omega)), (show y85.toInt ≤ t0_3.toInt from (by have t1 : y85.toInt ≤ t0_3.toInt := b93; omega)), (show t1_0.toInt ≤ y132.toInt from (by have t1 : t1_0.toInt ≤ y87.toInt := b95; have t2 : y87.toInt + 1 ≤ y132.toInt := b141; omega)), (show y132.toInt ≤ t1_0.toInt + 420005 from (by have t1 : y87.toInt ≤ t1_0.toInt + 1 := b96; have t2 : y132.toInt ≤ y87.toInt + 420003 := b142; omega)), (show y132.toInt ≤ y83.toInt + 420005 from (by have t1 : y87.toInt ≤ y83.toInt := b97; have t2 : y132.toInt ≤ y87.toInt + 420003 := b142; omega)), (show y132.toInt ≤ y85.toInt + 420005 from (by have t1 : -1 ≤ t0_3.toInt ∧ t0_3.toInt ≤ 8 := btt0_3; have t2 : t1_0.toInt ≤ 0 := pre1; have t3 : t0_3.toInt ≤ y85.toInt := b92; have t4 : y87.toInt ≤ t1_0.toInt + 1 := b96; have t5 : y132.toInt ≤ y87.toInt + 420003 := b142; omega))⟩) d_9_9_298
                ·
                  have b154 : q_F (a149.toInt < 0) := (q_nleI c152)
                  refine lv_aload_n hx hb d_9_9_277 rfl (lv_at hl 0 rfl) ?_
                  refine q_get (ci := 11) (j := 6) (v := .ref (q 47)) C0 V i_Pri rfl rfl hO81 (by decide) w_391 rfl d_9_9_278 ?_
                  refine lv_bipush (v := 32) hx hb d_9_9_281 (by decide) ?_
                  refine q_goi V (q_runV (As := [.int 32]) (rest := []) (d := 1) (mc := 0) (ms := 0) (ci := 10) C0 V rfl LV_Pri_144 (T_Dir_has l D g q u126  32 hI   _) rfl rfl hT2 rfl hl.1 rfl (Nat.le_of_ble_eq_true rfl) ⟨by decide, by decide⟩ ⟨Nat.le_of_ble_eq_true rfl, Nat.le_of_ble_eq_true rfl⟩ d_9_9_283) (fun a157 u155 H locs hp156 V => ?_)
                  obtain ⟨rfl, b158, b159⟩ := hp156
                  replace b158 : q_F (0 ≤ a157.toInt) := b158
                  replace b159 : q_F (a157.toInt ≤ 1) := b159
                  refine lv_if_eq (tgt := 298) hx hb d_9_9_286 (by decide) (fun c161 => ?_) (fun c161 => ?_)
                  ·
                    have b162 : q_F (a157.toInt = 0) := (q_eqI c161)
                    exact q_retv C0 V (⟨hI, hF, y82, y83, y84, y85, y132, hO81, hO131, (show t0_0.toInt ≤ y82.toInt from (by have t1 : t0_0.toInt ≤ y82.toInt := b88; omega)), (show y82.toInt ≤ t0_0.toInt from (by have t1 : y82.toInt ≤ t0_0.toInt := b89; omega)), (show t0_1.toInt ≤ y83.toInt + 1000000 from (by have t1 : -1 ≤ t0_1.toInt ∧ t0_1.toInt ≤ 1000000 := btt0_1; have t2 : 0 ≤ t1_0.toInt ∧ t1_0.toInt ≤ 1000000 := btt1_0; have t3 : t1_0.toInt ≤ lx72.toInt := i77; have t4 : lx72.toInt ≤ y87.toInt := b94; have t5 : y87.toInt ≤ y83.toInt := b97; omega)), (show y83.toInt ≤ t0_1.toInt + 3 from (by have t1 : -1 ≤ t0_1.toInt ∧ t0_1.toInt ≤ 1000000 := btt0_1; have t2 : t1_0.toInt ≤ 0 := pre1; have t3 : y87.toInt ≤ t1_0.toInt + 1 := b96; have t4 : y83.toInt ≤ y87.toInt := b98; omega)), (show t1_0.toInt ≤ y83.toInt + 1 from (by have t1 : t1_0.toInt ≤ y87.toInt := b95; have t2 : y87.toInt ≤ y83.toInt := b97; omega)), (show y83.toInt ≤ t1_0.toInt + 1000000 from (by have t1 : y87.toInt ≤ t1_0.toInt + 1 := b96; have t2 : y83.toInt ≤ y87.toInt := b98; omega)), (show t0_2.toInt ≤ y84.toInt from (by have t1 : t0_2.toInt ≤ y84.toInt := b90; omega)), (show y84.toInt ≤ t0_2.toInt from (by have t1 : y84.toInt ≤ t0_2.toInt := b91; omega)), (show t0_3.toInt ≤ y85.toInt from (by have t1 : t0_3.toInt ≤ y85.toInt := b92; omega)), (show y85.toInt ≤ t0_3.toInt from (by have t1 : y85.toInt ≤ t0_3.toInt := b93; omega)), (show t1_0.toInt ≤ y132.toInt from (by have t1 : t1_0.toInt ≤ y87.toInt := b95; have t2 : y87.toInt + 1 ≤ y132.toInt := b141; omega)), (show y132.toInt ≤ t1_0.toInt + 420005 from (by have t1 : y87.toInt ≤ t1_0.toInt + 1 := b96; have t2 : y132.toInt ≤ y87.toInt + 420003 := b142; omega)), (show y132.toInt ≤ y83.toInt + 420005 from (by have t1 : y87.toInt ≤ y83.toInt := b97; have t2 : y132.toInt ≤ y87.toInt + 420003 := b142; omega)), (show y132.toInt ≤ y85.toInt + 420005 from (by have t1 : -1 ≤ t0_3.toInt ∧ t0_3.toInt ≤ 8 := btt0_3; have t2 : t1_0.toInt ≤ 0 := pre1; have t3 : t0_3.toInt ≤ y85.toInt := b92; have t4 : y87.toInt ≤ t1_0.toInt + 1 := b96; have t5 : y132.toInt ≤ y87.toInt + 420003 := b142; omega))⟩) d_9_9_298
                  ·
                    have b163 : q_F (a157.toInt ≠ 0) := (q_neI c161)
                    refine lv_aload_n hx hb d_9_9_289 rfl (lv_at hl 0 rfl) ?_
                    refine q_get (ci := 11) (j := 8) (v := .ref (q 45)) C0 V i_Pri rfl rfl hO81 (by decide) w_393 rfl d_9_9_290 ?_
                    refine lv_bipush (v := 41) hx hb d_9_9_293 (by decide) ?_
                    refine q_gov V (q_runV (As := [.int 41]) (rest := []) (d := 1) (mc := 0) (ms := 0) (ci := 1) C0 V rfl LV_Pri_113 (T_She_add l D g q u126 45 4104 513 1000000 (n_h45 g q) 41 hI y132 hO131 (by have y0 : (4104 : Int32).toInt = 4104 := rfl; have y1 : (513 : Int32).toInt = 513 := rfl; have y2 : (1000000 : Int32).toInt = 1000000 := rfl; have y3 : (41 : Int32).toInt = 41 := rfl; have t1 : t1_0.toInt ≤ 0 := pre1; have t2 : y87.toInt ≤ t1_0.toInt + 1 := b96; have t3 : y132.toInt ≤ y87.toInt + 420003 := b142; omega) _) rfl rfl hO131 rfl hl.1 rfl (Nat.le_of_ble_eq_true rfl) ⟨by decide, by decide⟩ ⟨Nat.le_of_ble_eq_true rfl, Nat.le_of_ble_eq_true rfl⟩ d_9_9_295) (fun u164 H locs hp165 V => ?_)
                    obtain ⟨hI, hu171, y167, hO166, b168, b169⟩ := hp165
                    replace hO166 : u164[45]? = (some (q 45, .inr (1, [.ref (q 46), .int 4104, .int y167])) : Option (Nat × va_E)) := hO166
                    replace b168 : q_F (y132.toInt + 1 ≤ y167.toInt) := b168
                    replace b169 : q_F (y167.toInt ≤ y132.toInt + 1) := b169
                    replace hO81 := (hu171 _ (by decide)).trans hO81
                    replace hT2 := (hu171 _ (by decide)).trans hT2
                    replace hA33 := (hu171 _ (by decide)).trans hA33
                    replace hA66 := (hu171 _ (by decide)).trans hA66
                    replace hA104 := (hu171 _ (by decide)).trans hA104
                    replace hO128 := (hu171 _ (by decide)).trans hO128
                    replace hF := q_uc hF hu171 (by simp)
                    exact q_retv C0 V (⟨hI, hF, y82, y83, y84, y85, y167, hO81, hO166, (show t0_0.toInt ≤ y82.toInt from (by have t1 : t0_0.toInt ≤ y82.toInt := b88; omega)), (show y82.toInt ≤ t0_0.toInt from (by have t1 : y82.toInt ≤ t0_0.toInt := b89; omega)), (show t0_1.toInt ≤ y83.toInt + 1000000 from (by have t1 : -1 ≤ t0_1.toInt ∧ t0_1.toInt ≤ 1000000 := btt0_1; have t2 : 0 ≤ t1_0.toInt ∧ t1_0.toInt ≤ 1000000 := btt1_0; have t3 : t1_0.toInt ≤ lx72.toInt := i77; have t4 : lx72.toInt ≤ y87.toInt := b94; have t5 : y87.toInt ≤ y83.toInt := b97; omega)), (show y83.toInt ≤ t0_1.toInt + 3 from (by have t1 : -1 ≤ t0_1.toInt ∧ t0_1.toInt ≤ 1000000 := btt0_1; have t2 : t1_0.toInt ≤ 0 := pre1; have t3 : y87.toInt ≤ t1_0.toInt + 1 := b96; have t4 : y83.toInt ≤ y87.toInt := b98; omega)), (show t1_0.toInt ≤ y83.toInt + 1 from (by have t1 : t1_0.toInt ≤ y87.toInt := b95; have t2 : y87.toInt ≤ y83.toInt := b97; omega)), (show y83.toInt ≤ t1_0.toInt + 1000000 from (by have t1 : y87.toInt ≤ t1_0.toInt + 1 := b96; have t2 : y83.toInt ≤ y87.toInt := b98; omega)), (show t0_2.toInt ≤ y84.toInt from (by have t1 : t0_2.toInt ≤ y84.toInt := b90; omega)), (show y84.toInt ≤ t0_2.toInt from (by have t1 : y84.toInt ≤ t0_2.toInt := b91; omega)), (show t0_3.toInt ≤ y85.toInt from (by have t1 : t0_3.toInt ≤ y85.toInt := b92; omega)), (show y85.toInt ≤ t0_3.toInt from (by have t1 : y85.toInt ≤ t0_3.toInt := b93; omega)), (show t1_0.toInt ≤ y167.toInt from (by have t1 : t1_0.toInt ≤ lx72.toInt := i77; have t2 : lx72.toInt ≤ y87.toInt := b94; have t3 : y87.toInt + 1 ≤ y132.toInt := b141; have t4 : y132.toInt + 1 ≤ y167.toInt := b168; omega)), (show y167.toInt ≤ t1_0.toInt + 420005 from (by have t1 : y87.toInt ≤ t1_0.toInt + 1 := b96; have t2 : y132.toInt ≤ y87.toInt + 420003 := b142; have t3 : y167.toInt ≤ y132.toInt + 1 := b169; omega)), (show y167.toInt ≤ y83.toInt + 420005 from (by have t1 : y87.toInt ≤ y83.toInt := b97; have t2 : y132.toInt ≤ y87.toInt + 420003 := b142; have t3 : y167.toInt ≤ y132.toInt + 1 := b169; omega)), (show y167.toInt ≤ y85.toInt + 420005 from (by have t1 : 0 ≤ gp.toInt + t0_3.toInt := pre0; have t2 : t1_0.toInt ≤ 0 := pre1; have t3 : gp.toInt = 0 := b31; have t4 : t0_3.toInt ≤ y85.toInt := b92; have t5 : y87.toInt ≤ t1_0.toInt + 1 := b96; have t6 : y132.toInt ≤ y87.toInt + 420003 := b142; have t7 : y167.toInt ≤ y132.toInt + 1 := b169; omega))⟩) d_9_9_298
              ·
                intro J76
                refine lv_if_ge (tgt := 230) hx hb d_9_9_223 (by decide) (fun c172 => ?_) (fun c172 => ?_)
                ·
                  have b173 : q_F (0 ≤ a69.toInt) := (q_leI c172)
                  refine lv_iconst (v := 0) hx hb d_9_9_230 (by decide) ?_
                  exact J76 ((0 : Int32)) _ _ _ ws ⟨(show q_F (t1_0.toInt ≤ 0) from (show t1_0.toInt ≤ 0 from by have t1 : t1_0.toInt ≤ 0 := pre1; omega)), (show q_F (0 ≤ t1_0.toInt + 1) from (show 0 ≤ t1_0.toInt + 1 from by have t1 : 0 ≤ t1_0.toInt ∧ t1_0.toInt ≤ 1000000 := btt1_0; omega)), V, q_lw hl (q_lw1 1 rfl q_lw0)⟩
                ·
                  have b174 : q_F (a69.toInt < 0) := (q_nleI c172)
                  refine lv_iconst (v := 1) hx hb d_9_9_226 (by decide) ?_
                  refine lv_goto (tgt := 231) hx hb d_9_9_227 (by decide) ?_
                  exact J76 ((1 : Int32)) _ _ _ ws ⟨(show q_F (t1_0.toInt ≤ 1) from (show t1_0.toInt ≤ 1 from by have t1 : t1_0.toInt ≤ 0 := pre1; omega)), (show q_F (1 ≤ t1_0.toInt + 1) from (show 1 ≤ t1_0.toInt + 1 from by have t1 : 0 ≤ t1_0.toInt ∧ t1_0.toInt ≤ 1000000 := btt1_0; omega)), V, q_lw hl (q_lw1 1 rfl q_lw0)⟩
            ·
              have b175 : q_F (a59.toInt ≠ 0) := (q_neI c63)
              refine lv_aload_n hx hb d_9_9_195 rfl (lv_at hl 1 rfl) ?_
              refine lv_aload_n hx hb d_9_9_196 rfl (lv_at hl 1 rfl) ?_
              refine q_get (ci := 11) (j := 2) (v := .ref (q 42)) C0 V i_Pri rfl rfl hT0 (by decide) w_387 rfl d_9_9_197 ?_
              refine lv_aload_n hx hb d_9_9_200 rfl (lv_at hl 1 rfl) ?_
              refine q_get (ci := 11) (j := 11) (v := .int t0_3) C0 V i_Pri rfl rfl hT0 (by decide) w_396 rfl d_9_9_201 ?_
              obtain ⟨f176, hA177⟩ := n_al hI (n_s42 g q)
              refine q_lald C0 V hA177 (q_ix (x := t0_3.toInt) rfl (by have t1 : 0 ≤ gp.toInt + t0_3.toInt := pre0; have t2 : gp.toInt = 0 := b31; omega) (by have t1 : 0 ≤ gp.toInt + t0_3.toInt := pre0; have t2 : gp.toInt = 0 := b31; have t3 : -1 ≤ t0_3.toInt ∧ t0_3.toInt ≤ 8 := btt0_3; omega)) d_9_9_204 ?_
              obtain ⟨j178, e179⟩ := q_nm (f176 t0_3.toNatClampNeg : Int64)
              refine q_tl (v := j178) e179 ?_
              refine q_gov V (q_runV (As := [.long j178]) (rest := []) (d := 6) (mc := 0) (ms := 0) (ci := 11) C0 V rfl LV_Pri_181 (T_Pri_writeToBase l D g q ws  j178 hI t0_0 t0_1 t0_2 t0_3 hT0 t1_0 hT1 t2_0 t2_1 t2_2 t2_3 t2_4 t2_5 t2_6 hT2 (by have t1 : t1_0.toInt ≤ 0 := pre1; omega) _) rfl rfl hT0 rfl hl.1 rfl (Nat.le_of_ble_eq_true rfl) ⟨by decide, by decide⟩ ⟨Nat.le_of_ble_eq_true rfl, Nat.le_of_ble_eq_true rfl⟩ d_9_9_205) (fun u180 H locs hp181 V => ?_)
              obtain ⟨hI, hu200, y183, y184, y185, y186, y188, hO182, hO187, b189, b190, b191, b192, b193, b194, b195, b196, b197, b198⟩ := hp181
              replace hO182 : u180[40]? = (some (q 40, .inr (11, [.int y183, .ref (q 41), .ref (q 42), .ref (q 43), .ref (q 44), .ref (q 1), .ref (q 47), .ref (q 36), .ref (q 45), .int y184, .int y185, .int y186])) : Option (Nat × va_E)) := hO182
              replace hO187 : u180[45]? = (some (q 45, .inr (1, [.ref (q 46), .int 4104, .int y188])) : Option (Nat × va_E)) := hO187
              replace b189 : q_F (t0_0.toInt ≤ y183.toInt) := b189
              replace b190 : q_F (y183.toInt ≤ t0_0.toInt) := b190
              replace b191 : q_F (t1_0.toInt ≤ y184.toInt) := b191
              replace b192 : q_F (y184.toInt ≤ t1_0.toInt + 2) := b192
              replace b193 : q_F (t0_2.toInt ≤ y185.toInt) := b193
              replace b194 : q_F (y185.toInt ≤ t0_2.toInt) := b194
              replace b195 : q_F (t0_3.toInt ≤ y186.toInt) := b195
              replace b196 : q_F (y186.toInt ≤ t0_3.toInt) := b196
              replace b197 : q_F (y188.toInt ≤ y184.toInt + 64) := b197
              replace b198 : q_F (y184.toInt + 1 ≤ y188.toInt) := b198
              replace hT2 := (hu200 _ (by decide)).trans hT2
              replace hA33 := (hu200 _ (by decide)).trans hA33
              replace hA177 := (hu200 _ (by decide)).trans hA177
              replace hF := q_uc hF hu200 (by simp)
              refine lv_goto (tgt := 298) hx hb d_9_9_208 (by decide) ?_
              exact q_retv C0 V (⟨hI, hF, y183, y184, y185, y186, y188, hO182, hO187, (show t0_0.toInt ≤ y183.toInt from (by have t1 : t0_0.toInt ≤ y183.toInt := b189; omega)), (show y183.toInt ≤ t0_0.toInt from (by have t1 : y183.toInt ≤ t0_0.toInt := b190; omega)), (show t0_1.toInt ≤ y184.toInt + 1000000 from (by have t1 : -1 ≤ t0_1.toInt ∧ t0_1.toInt ≤ 1000000 := btt0_1; have t2 : 0 ≤ t1_0.toInt ∧ t1_0.toInt ≤ 1000000 := btt1_0; have t3 : t1_0.toInt ≤ y184.toInt := b191; omega)), (show y184.toInt ≤ t0_1.toInt + 3 from (by have t1 : -1 ≤ t0_1.toInt ∧ t0_1.toInt ≤ 1000000 := btt0_1; have t2 : t1_0.toInt ≤ 0 := pre1; have t3 : y184.toInt ≤ t1_0.toInt + 2 := b192; omega)), (show t1_0.toInt ≤ y184.toInt + 1 from (by have t1 : t1_0.toInt ≤ y184.toInt := b191; omega)), (show y184.toInt ≤ t1_0.toInt + 1000000 from (by have t1 : y184.toInt ≤ t1_0.toInt + 2 := b192; omega)), (show t0_2.toInt ≤ y185.toInt from (by have t1 : t0_2.toInt ≤ y185.toInt := b193; omega)), (show y185.toInt ≤ t0_2.toInt from (by have t1 : y185.toInt ≤ t0_2.toInt := b194; omega)), (show t0_3.toInt ≤ y186.toInt from (by have t1 : t0_3.toInt ≤ y186.toInt := b195; omega)), (show y186.toInt ≤ t0_3.toInt from (by have t1 : y186.toInt ≤ t0_3.toInt := b196; omega)), (show t1_0.toInt ≤ y188.toInt from (by have t1 : t1_0.toInt ≤ y184.toInt := b191; have t2 : y184.toInt + 1 ≤ y188.toInt := b198; omega)), (show y188.toInt ≤ t1_0.toInt + 420005 from (by have t1 : y184.toInt ≤ t1_0.toInt + 2 := b192; have t2 : y188.toInt ≤ y184.toInt + 64 := b197; omega)), (show y188.toInt ≤ y184.toInt + 420005 from (by have t1 : y188.toInt ≤ y184.toInt + 64 := b197; omega)), (show y188.toInt ≤ y186.toInt + 420005 from (by have t1 : -1 ≤ t0_3.toInt ∧ t0_3.toInt ≤ 8 := btt0_3; have t2 : t1_0.toInt ≤ 0 := pre1; have t3 : y184.toInt ≤ t1_0.toInt + 2 := b192; have t4 : t0_3.toInt ≤ y186.toInt := b195; have t5 : y188.toInt ≤ y184.toInt + 64 := b197; omega))⟩) d_9_9_298
          ·
            have b201 : q_F (a35.toInt = 2) := (q_eqI c55)
            refine lv_aload_n hx hb d_9_9_163 rfl (lv_at hl 1 rfl) ?_
            refine q_get (ci := 11) (j := 8) (v := .ref (q 45)) C0 V i_Pri rfl rfl hT0 (by decide) w_393 rfl d_9_9_164 ?_
            refine lv_aload_n hx hb d_9_9_167 rfl (lv_at hl 1 rfl) ?_
            refine q_get (ci := 11) (j := 2) (v := .ref (q 42)) C0 V i_Pri rfl rfl hT0 (by decide) w_387 rfl d_9_9_168 ?_
            refine lv_aload_n hx hb d_9_9_171 rfl (lv_at hl 1 rfl) ?_
            refine q_get (ci := 11) (j := 11) (v := .int t0_3) C0 V i_Pri rfl rfl hT0 (by decide) w_396 rfl d_9_9_172 ?_
            obtain ⟨f202, hA203⟩ := n_al hI (n_s42 g q)
            refine q_lald C0 V hA203 (q_ix (x := t0_3.toInt) rfl (by have t1 : 0 ≤ gp.toInt + t0_3.toInt := pre0; have t2 : gp.toInt = 0 := b31; omega) (by have t1 : 0 ≤ gp.toInt + t0_3.toInt := pre0; have t2 : gp.toInt = 0 := b31; have t3 : -1 ≤ t0_3.toInt ∧ t0_3.toInt ≤ 8 := btt0_3; omega)) d_9_9_175 ?_
            obtain ⟨j204, e205⟩ := q_nm (f202 t0_3.toNatClampNeg : Int64)
            refine q_tl (v := j204) e205 ?_
            refine lv_l2i hx hb d_9_9_176 rfl ?_
            obtain ⟨a206, e207⟩ := q_nm (j204.toInt32 : Int32)
            refine q_ti (v := a206) e207 ?_
            refine q_gov V (q_runV (As := [.int a206]) (rest := []) (d := 1) (mc := 0) (ms := 0) (ci := 1) C0 V rfl LV_Pri_113 (T_She_add l D g q ws 45 4104 513 1000000 (n_h45 g q) a206 hI t1_0 hT1 (by have y0 : (4104 : Int32).toInt = 4104 := rfl; have y1 : (513 : Int32).toInt = 513 := rfl; have y2 : (1000000 : Int32).toInt = 1000000 := rfl; have t1 : t1_0.toInt ≤ 0 := pre1; omega) _) rfl rfl hT1 rfl hl.1 rfl (Nat.le_of_ble_eq_true rfl) ⟨by decide, by decide⟩ ⟨Nat.le_of_ble_eq_true rfl, Nat.le_of_ble_eq_true rfl⟩ d_9_9_177) (fun u208 H locs hp209 V => ?_)
            obtain ⟨hI, hu215, y211, hO210, b212, b213⟩ := hp209
            replace hO210 : u208[45]? = (some (q 45, .inr (1, [.ref (q 46), .int 4104, .int y211])) : Option (Nat × va_E)) := hO210
            replace b212 : q_F (t1_0.toInt + 1 ≤ y211.toInt) := b212
            replace b213 : q_F (y211.toInt ≤ t1_0.toInt + 1) := b213
            replace hT0 := (hu215 _ (by decide)).trans hT0
            replace hT2 := (hu215 _ (by decide)).trans hT2
            replace hA33 := (hu215 _ (by decide)).trans hA33
            replace hA203 := (hu215 _ (by decide)).trans hA203
            replace hF := q_uc hF hu215 (by simp)
            refine lv_goto (tgt := 298) hx hb d_9_9_180 (by decide) ?_
            exact q_retv C0 V (⟨hI, hF, t0_0, t0_1, t0_2, t0_3, y211, hT0, hO210, (show t0_0.toInt ≤ t0_0.toInt from (by omega)), (show t0_0.toInt ≤ t0_0.toInt from (by omega)), (show t0_1.toInt ≤ t0_1.toInt + 1000000 from (by omega)), (show t0_1.toInt ≤ t0_1.toInt + 3 from (by omega)), (show t1_0.toInt ≤ t0_1.toInt + 1 from (by have t1 : -1 ≤ t0_1.toInt ∧ t0_1.toInt ≤ 1000000 := btt0_1; have t2 : t1_0.toInt ≤ 0 := pre1; omega)), (show t0_1.toInt ≤ t1_0.toInt + 1000000 from (by have t1 : -1 ≤ t0_1.toInt ∧ t0_1.toInt ≤ 1000000 := btt0_1; have t2 : 0 ≤ t1_0.toInt ∧ t1_0.toInt ≤ 1000000 := btt1_0; omega)), (show t0_2.toInt ≤ t0_2.toInt from (by omega)), (show t0_2.toInt ≤ t0_2.toInt from (by omega)), (show t0_3.toInt ≤ t0_3.toInt from (by omega)), (show t0_3.toInt ≤ t0_3.toInt from (by omega)), (show t1_0.toInt ≤ y211.toInt from (by have t1 : t1_0.toInt + 1 ≤ y211.toInt := b212; omega)), (show y211.toInt ≤ t1_0.toInt + 420005 from (by have t1 : y211.toInt ≤ t1_0.toInt + 1 := b213; omega)), (show y211.toInt ≤ t0_1.toInt + 420005 from (by have t1 : -1 ≤ t0_1.toInt ∧ t0_1.toInt ≤ 1000000 := btt0_1; have t2 : t1_0.toInt ≤ 0 := pre1; have t3 : y211.toInt ≤ t1_0.toInt + 1 := b213; omega)), (show y211.toInt ≤ t0_3.toInt + 420005 from (by have t1 : -1 ≤ t0_3.toInt ∧ t0_3.toInt ≤ 8 := btt0_3; have t2 : t1_0.toInt ≤ 0 := pre1; have t3 : y211.toInt ≤ t1_0.toInt + 1 := b213; omega))⟩) d_9_9_298
        ·
          have b216 : q_F (a35.toInt = 0) := (q_eqI c53)
          refine lv_aload_n hx hb d_9_9_146 rfl (lv_at hl 1 rfl) ?_
          refine q_get (ci := 11) (j := 8) (v := .ref (q 45)) C0 V i_Pri rfl rfl hT0 (by decide) w_393 rfl d_9_9_147 ?_
          refine q_ldcs (i := 15) C0 V rfl rfl d_9_9_150 ?_
          refine q_gov V (q_runV (As := [.ref (g (8 + 2 * 15))]) (rest := []) (d := 5) (mc := 0) (ms := 0) (ci := 1) C0 V rfl LV_Pri_165 (T_She_addText_15 l D g q ws 45 4104 513 1000000 (n_h45 g q)  hI t1_0 hT1 (by have y0 : (4104 : Int32).toInt = 4104 := rfl; have y1 : (513 : Int32).toInt = 513 := rfl; have y2 : (1000000 : Int32).toInt = 1000000 := rfl; have t1 : t1_0.toInt ≤ 0 := pre1; omega) _) rfl rfl hT1 rfl hl.1 rfl (Nat.le_of_ble_eq_true rfl) ⟨by decide, by decide⟩ ⟨Nat.le_of_ble_eq_true rfl, Nat.le_of_ble_eq_true rfl⟩ d_9_9_152) (fun u217 H locs hp218 V => ?_)
          obtain ⟨hI, hu224, y220, hO219, b221, b222⟩ := hp218
          replace hO219 : u217[45]? = (some (q 45, .inr (1, [.ref (q 46), .int 4104, .int y220])) : Option (Nat × va_E)) := hO219
          replace b221 : q_F (t1_0.toInt + 4 ≤ y220.toInt) := b221
          replace b222 : q_F (y220.toInt ≤ t1_0.toInt + 4) := b222
          replace hT0 := (hu224 _ (by decide)).trans hT0
          replace hT2 := (hu224 _ (by decide)).trans hT2
          replace hA33 := (hu224 _ (by decide)).trans hA33
          replace hF := q_uc hF hu224 (by simp)
          refine lv_goto (tgt := 298) hx hb d_9_9_155 (by decide) ?_
          exact q_retv C0 V (⟨hI, hF, t0_0, t0_1, t0_2, t0_3, y220, hT0, hO219, (show t0_0.toInt ≤ t0_0.toInt from (by omega)), (show t0_0.toInt ≤ t0_0.toInt from (by omega)), (show t0_1.toInt ≤ t0_1.toInt + 1000000 from (by omega)), (show t0_1.toInt ≤ t0_1.toInt + 3 from (by omega)), (show t1_0.toInt ≤ t0_1.toInt + 1 from (by have t1 : -1 ≤ t0_1.toInt ∧ t0_1.toInt ≤ 1000000 := btt0_1; have t2 : t1_0.toInt ≤ 0 := pre1; omega)), (show t0_1.toInt ≤ t1_0.toInt + 1000000 from (by have t1 : -1 ≤ t0_1.toInt ∧ t0_1.toInt ≤ 1000000 := btt0_1; have t2 : 0 ≤ t1_0.toInt ∧ t1_0.toInt ≤ 1000000 := btt1_0; omega)), (show t0_2.toInt ≤ t0_2.toInt from (by omega)), (show t0_2.toInt ≤ t0_2.toInt from (by omega)), (show t0_3.toInt ≤ t0_3.toInt from (by omega)), (show t0_3.toInt ≤ t0_3.toInt from (by omega)), (show t1_0.toInt ≤ y220.toInt from (by have t1 : t1_0.toInt + 4 ≤ y220.toInt := b221; omega)), (show y220.toInt ≤ t1_0.toInt + 420005 from (by have t1 : y220.toInt ≤ t1_0.toInt + 4 := b222; omega)), (show y220.toInt ≤ t0_1.toInt + 420005 from (by have t1 : -1 ≤ t0_1.toInt ∧ t0_1.toInt ≤ 1000000 := btt0_1; have t2 : t1_0.toInt ≤ 0 := pre1; have t3 : y220.toInt ≤ t1_0.toInt + 4 := b222; omega)), (show y220.toInt ≤ t0_3.toInt + 420005 from (by have t1 : -1 ≤ t0_3.toInt ∧ t0_3.toInt ≤ 8 := btt0_3; have t2 : t1_0.toInt ≤ 0 := pre1; have t3 : y220.toInt ≤ t1_0.toInt + 4 := b222; omega))⟩) d_9_9_298
      ·
        have b225 : q_F (a47.toInt ≠ 0) := (q_neI c51)
        refine lv_aload_n hx hb d_9_9_127 rfl (lv_at hl 1 rfl) ?_
        refine lv_aload_n hx hb d_9_9_128 rfl (lv_at hl 1 rfl) ?_
        refine q_get (ci := 11) (j := 11) (v := .int t0_3) C0 V i_Pri rfl rfl hT0 (by decide) w_396 rfl d_9_9_129 ?_
        refine q_gov V (q_runV (As := [.int t0_3]) (rest := []) (d := 6) (mc := 0) (ms := 0) (ci := 11) C0 V rfl LV_Pri_174 (T_Pri_writeAnything l D g q ws  t0_3 hI t0_0 t0_1 t0_2 t0_3 hT0 t1_0 hT1 (by have t1 : 0 ≤ gp.toInt + t0_3.toInt := pre0; have t2 : gp.toInt = 0 := b31; omega) (by have t1 : -1 ≤ t0_3.toInt ∧ t0_3.toInt ≤ 8 := btt0_3; omega) (by have t1 : t1_0.toInt ≤ 0 := pre1; omega) _) rfl rfl hT0 rfl hl.1 rfl (Nat.le_of_ble_eq_true rfl) ⟨by decide, by decide⟩ ⟨Nat.le_of_ble_eq_true rfl, Nat.le_of_ble_eq_true rfl⟩ d_9_9_132) (fun u226 H locs hp227 V => ?_)
        obtain ⟨hI, hu233, y229, hO228, b230, b231⟩ := hp227
        replace hO228 : u226[45]? = (some (q 45, .inr (1, [.ref (q 46), .int 4104, .int y229])) : Option (Nat × va_E)) := hO228
        replace b230 : q_F (t1_0.toInt ≤ y229.toInt) := b230
        replace b231 : q_F (y229.toInt ≤ t1_0.toInt + 420004) := b231
        replace hT0 := (hu233 _ (by decide)).trans hT0
        replace hT2 := (hu233 _ (by decide)).trans hT2
        replace hA33 := (hu233 _ (by decide)).trans hA33
        replace hF := q_uc hF hu233 (by simp)
        refine lv_aload_n hx hb d_9_9_135 rfl (lv_at hl 1 rfl) ?_
        refine q_gov V (q_runV (As := []) (rest := []) (d := 3) (mc := 0) (ms := 0) (ci := 11) C0 V rfl LV_Pri_169 (T_Pri_cutBody l D g q u226   hI y229 hO228 t2_0 t2_1 t2_2 t2_3 t2_4 t2_5 t2_6 hT2  _) rfl rfl hT0 rfl hl.1 rfl (Nat.le_of_ble_eq_true rfl) ⟨by decide, by decide⟩ ⟨Nat.le_of_ble_eq_true rfl, Nat.le_of_ble_eq_true rfl⟩ d_9_9_136) (fun u234 H locs hp235 V => ?_)
        obtain ⟨hI, hu241, y237, hO236, b238, b239⟩ := hp235
        replace hO236 : u234[45]? = (some (q 45, .inr (1, [.ref (q 46), .int 4104, .int y237])) : Option (Nat × va_E)) := hO236
        replace b238 : q_F (0 ≤ y237.toInt) := b238
        replace b239 : q_F (y237.toInt ≤ y229.toInt) := b239
        replace hT0 := (hu241 _ (by decide)).trans hT0
        replace hT2 := (hu241 _ (by decide)).trans hT2
        replace hA33 := (hu241 _ (by decide)).trans hA33
        replace hF := q_uc hF hu241 (by simp)
        refine lv_goto (tgt := 298) hx hb d_9_9_139 (by decide) ?_
        exact q_retv C0 V (⟨hI, hF, t0_0, t0_1, t0_2, t0_3, y237, hT0, hO236, (show t0_0.toInt ≤ t0_0.toInt from (by omega)), (show t0_0.toInt ≤ t0_0.toInt from (by omega)), (show t0_1.toInt ≤ t0_1.toInt + 1000000 from (by omega)), (show t0_1.toInt ≤ t0_1.toInt + 3 from (by omega)), (show t1_0.toInt ≤ t0_1.toInt + 1 from (by have t1 : -1 ≤ t0_1.toInt ∧ t0_1.toInt ≤ 1000000 := btt0_1; have t2 : t1_0.toInt ≤ 0 := pre1; omega)), (show t0_1.toInt ≤ t1_0.toInt + 1000000 from (by have t1 : -1 ≤ t0_1.toInt ∧ t0_1.toInt ≤ 1000000 := btt0_1; have t2 : 0 ≤ t1_0.toInt ∧ t1_0.toInt ≤ 1000000 := btt1_0; omega)), (show t0_2.toInt ≤ t0_2.toInt from (by omega)), (show t0_2.toInt ≤ t0_2.toInt from (by omega)), (show t0_3.toInt ≤ t0_3.toInt from (by omega)), (show t0_3.toInt ≤ t0_3.toInt from (by omega)), (show t1_0.toInt ≤ y237.toInt from (by have t1 : t1_0.toInt ≤ 0 := pre1; have t2 : 0 ≤ y237.toInt := b238; omega)), (show y237.toInt ≤ t1_0.toInt + 420005 from (by have t1 : y229.toInt ≤ t1_0.toInt + 420004 := b231; have t2 : y237.toInt ≤ y229.toInt := b239; omega)), (show y237.toInt ≤ t0_1.toInt + 420005 from (by have t1 : -1 ≤ t0_1.toInt ∧ t0_1.toInt ≤ 1000000 := btt0_1; have t2 : t1_0.toInt ≤ 0 := pre1; have t3 : y229.toInt ≤ t1_0.toInt + 420004 := b231; have t4 : y237.toInt ≤ y229.toInt := b239; omega)), (show y237.toInt ≤ t0_3.toInt + 420005 from (by have t1 : -1 ≤ t0_3.toInt ∧ t0_3.toInt ≤ 8 := btt0_3; have t2 : t1_0.toInt ≤ 0 := pre1; have t3 : y229.toInt ≤ t1_0.toInt + 420004 := b231; have t4 : y237.toInt ≤ y229.toInt := b239; omega))⟩) d_9_9_298
    ·
      have b242 : q_F (a39.toInt ≠ 0) := (q_neI c43)
      refine lv_iload_n hx hb d_9_9_61 rfl (lv_at hl 0 rfl) ?_
      refine q_join (X := Int32) (fun z H locs ls _ => q_F (t1_0.toInt ≤ z.toInt) ∧ q_F (z.toInt ≤ t1_0.toInt + 1) ∧ q_Wd D g (va_A ws sz) s ws H locs ∧ lv_has ls 3 [(0, .ref (q 40))]) (fun z => [.int z]) 89 0 0 ?_ ?_
      ·
        rintro lx243 H locs ls _ ⟨i248, i249, V, hl⟩
        replace i248 : q_F (t1_0.toInt ≤ lx243.toInt) := i248
        replace i249 : q_F (lx243.toInt ≤ t1_0.toInt + 1) := i249
        replace hl : lv_has ls 3 [(0, .ref (q 40))] := hl
        refine lv_istore_n (lv' := [(2, .int lx243), (0, .ref (q 40))]) hx hb d_9_9_89 rfl hl (by decide) rfl (fun ls hl => ?_)
        refine lv_aload_n hx hb d_9_9_90 rfl (lv_at hl 1 rfl) ?_
        refine q_get (ci := 11) (j := 8) (v := .ref (q 45)) C0 V i_Pri rfl rfl hT0 (by decide) w_393 rfl d_9_9_91 ?_
        refine lv_iload_n hx hb d_9_9_94 rfl (lv_at hl 0 rfl) ?_
        refine lv_if_eq (tgt := 103) hx hb d_9_9_95 (by decide) (fun c250 => ?_) (fun c250 => ?_)
        ·
          have b251 : q_F (lx243.toInt = 0) := (q_eqI c250)
          refine q_ldcs (i := 13) C0 V rfl rfl d_9_9_103 ?_
          refine q_gov V (q_runV (As := [.ref (g (8 + 2 * 13))]) (rest := []) (d := 5) (mc := 0) (ms := 0) (ci := 1) C0 V rfl LV_Pri_165 (T_She_addText_13 l D g q ws 45 4104 513 1000000 (n_h45 g q)  hI t1_0 hT1 (by have y0 : (4104 : Int32).toInt = 4104 := rfl; have y1 : (513 : Int32).toInt = 513 := rfl; have y2 : (1000000 : Int32).toInt = 1000000 := rfl; have t1 : t1_0.toInt ≤ 0 := pre1; omega) _) rfl rfl hT1 rfl hl.1 rfl (Nat.le_of_ble_eq_true rfl) ⟨by decide, by decide⟩ ⟨Nat.le_of_ble_eq_true rfl, Nat.le_of_ble_eq_true rfl⟩ d_9_9_105) (fun u252 H locs hp253 V => ?_)
          obtain ⟨hI, hu259, y255, hO254, b256, b257⟩ := hp253
          replace hO254 : u252[45]? = (some (q 45, .inr (1, [.ref (q 46), .int 4104, .int y255])) : Option (Nat × va_E)) := hO254
          replace b256 : q_F (t1_0.toInt + 4 ≤ y255.toInt) := b256
          replace b257 : q_F (y255.toInt ≤ t1_0.toInt + 4) := b257
          replace hT0 := (hu259 _ (by decide)).trans hT0
          replace hT2 := (hu259 _ (by decide)).trans hT2
          replace hA33 := (hu259 _ (by decide)).trans hA33
          replace hF := q_uc hF hu259 (by simp)
          refine lv_aload_n hx hb d_9_9_108 rfl (lv_at hl 1 rfl) ?_
          refine q_gov V (q_runV (As := []) (rest := []) (d := 3) (mc := 0) (ms := 0) (ci := 11) C0 V rfl LV_Pri_169 (T_Pri_cutBody l D g q u252   hI y255 hO254 t2_0 t2_1 t2_2 t2_3 t2_4 t2_5 t2_6 hT2  _) rfl rfl hT0 rfl hl.1 rfl (Nat.le_of_ble_eq_true rfl) ⟨by decide, by decide⟩ ⟨Nat.le_of_ble_eq_true rfl, Nat.le_of_ble_eq_true rfl⟩ d_9_9_109) (fun u260 H locs hp261 V => ?_)
          obtain ⟨hI, hu267, y263, hO262, b264, b265⟩ := hp261
          replace hO262 : u260[45]? = (some (q 45, .inr (1, [.ref (q 46), .int 4104, .int y263])) : Option (Nat × va_E)) := hO262
          replace b264 : q_F (0 ≤ y263.toInt) := b264
          replace b265 : q_F (y263.toInt ≤ y255.toInt) := b265
          replace hT0 := (hu267 _ (by decide)).trans hT0
          replace hT2 := (hu267 _ (by decide)).trans hT2
          replace hA33 := (hu267 _ (by decide)).trans hA33
          replace hF := q_uc hF hu267 (by simp)
          refine lv_goto (tgt := 298) hx hb d_9_9_112 (by decide) ?_
          exact q_retv C0 V (⟨hI, hF, t0_0, t0_1, t0_2, t0_3, y263, hT0, hO262, (show t0_0.toInt ≤ t0_0.toInt from (by omega)), (show t0_0.toInt ≤ t0_0.toInt from (by omega)), (show t0_1.toInt ≤ t0_1.toInt + 1000000 from (by omega)), (show t0_1.toInt ≤ t0_1.toInt + 3 from (by omega)), (show t1_0.toInt ≤ t0_1.toInt + 1 from (by have t1 : -1 ≤ t0_1.toInt ∧ t0_1.toInt ≤ 1000000 := btt0_1; have t2 : t1_0.toInt ≤ 0 := pre1; omega)), (show t0_1.toInt ≤ t1_0.toInt + 1000000 from (by have t1 : -1 ≤ t0_1.toInt ∧ t0_1.toInt ≤ 1000000 := btt0_1; have t2 : 0 ≤ t1_0.toInt ∧ t1_0.toInt ≤ 1000000 := btt1_0; omega)), (show t0_2.toInt ≤ t0_2.toInt from (by omega)), (show t0_2.toInt ≤ t0_2.toInt from (by omega)), (show t0_3.toInt ≤ t0_3.toInt from (by omega)), (show t0_3.toInt ≤ t0_3.toInt from (by omega)), (show t1_0.toInt ≤ y263.toInt from (by have t1 : t1_0.toInt ≤ 0 := pre1; have t2 : 0 ≤ y263.toInt := b264; omega)), (show y263.toInt ≤ t1_0.toInt + 420005 from (by have t1 : y255.toInt ≤ t1_0.toInt + 4 := b257; have t2 : y263.toInt ≤ y255.toInt := b265; omega)), (show y263.toInt ≤ t0_1.toInt + 420005 from (by have t1 : -1 ≤ t0_1.toInt ∧ t0_1.toInt ≤ 1000000 := btt0_1; have t2 : t1_0.toInt ≤ 0 := pre1; have t3 : y255.toInt ≤ t1_0.toInt + 4 := b257; have t4 : y263.toInt ≤ y255.toInt := b265; omega)), (show y263.toInt ≤ t0_3.toInt + 420005 from (by have t1 : -1 ≤ t0_3.toInt ∧ t0_3.toInt ≤ 8 := btt0_3; have t2 : t1_0.toInt ≤ 0 := pre1; have t3 : y255.toInt ≤ t1_0.toInt + 4 := b257; have t4 : y263.toInt ≤ y255.toInt := b265; omega))⟩) d_9_9_298
        ·
          have b268 : q_F (lx243.toInt ≠ 0) := (q_neI c250)
          refine q_ldcs (i := 12) C0 V rfl rfl d_9_9_98 ?_
          refine lv_goto (tgt := 105) hx hb d_9_9_100 (by decide) ?_
          refine q_gov V (q_runV (As := [.ref (g (8 + 2 * 12))]) (rest := []) (d := 5) (mc := 0) (ms := 0) (ci := 1) C0 V rfl LV_Pri_165 (T_She_addText_12 l D g q ws 45 4104 513 1000000 (n_h45 g q)  hI t1_0 hT1 (by have y0 : (4104 : Int32).toInt = 4104 := rfl; have y1 : (513 : Int32).toInt = 513 := rfl; have y2 : (1000000 : Int32).toInt = 1000000 := rfl; have t1 : t1_0.toInt ≤ 0 := pre1; omega) _) rfl rfl hT1 rfl hl.1 rfl (Nat.le_of_ble_eq_true rfl) ⟨by decide, by decide⟩ ⟨Nat.le_of_ble_eq_true rfl, Nat.le_of_ble_eq_true rfl⟩ d_9_9_105) (fun u269 H locs hp270 V => ?_)
          obtain ⟨hI, hu276, y272, hO271, b273, b274⟩ := hp270
          replace hO271 : u269[45]? = (some (q 45, .inr (1, [.ref (q 46), .int 4104, .int y272])) : Option (Nat × va_E)) := hO271
          replace b273 : q_F (t1_0.toInt + 5 ≤ y272.toInt) := b273
          replace b274 : q_F (y272.toInt ≤ t1_0.toInt + 5) := b274
          replace hT0 := (hu276 _ (by decide)).trans hT0
          replace hT2 := (hu276 _ (by decide)).trans hT2
          replace hA33 := (hu276 _ (by decide)).trans hA33
          replace hF := q_uc hF hu276 (by simp)
          refine lv_aload_n hx hb d_9_9_108 rfl (lv_at hl 1 rfl) ?_
          refine q_gov V (q_runV (As := []) (rest := []) (d := 3) (mc := 0) (ms := 0) (ci := 11) C0 V rfl LV_Pri_169 (T_Pri_cutBody l D g q u269   hI y272 hO271 t2_0 t2_1 t2_2 t2_3 t2_4 t2_5 t2_6 hT2  _) rfl rfl hT0 rfl hl.1 rfl (Nat.le_of_ble_eq_true rfl) ⟨by decide, by decide⟩ ⟨Nat.le_of_ble_eq_true rfl, Nat.le_of_ble_eq_true rfl⟩ d_9_9_109) (fun u277 H locs hp278 V => ?_)
          obtain ⟨hI, hu284, y280, hO279, b281, b282⟩ := hp278
          replace hO279 : u277[45]? = (some (q 45, .inr (1, [.ref (q 46), .int 4104, .int y280])) : Option (Nat × va_E)) := hO279
          replace b281 : q_F (0 ≤ y280.toInt) := b281
          replace b282 : q_F (y280.toInt ≤ y272.toInt) := b282
          replace hT0 := (hu284 _ (by decide)).trans hT0
          replace hT2 := (hu284 _ (by decide)).trans hT2
          replace hA33 := (hu284 _ (by decide)).trans hA33
          replace hF := q_uc hF hu284 (by simp)
          refine lv_goto (tgt := 298) hx hb d_9_9_112 (by decide) ?_
          exact q_retv C0 V (⟨hI, hF, t0_0, t0_1, t0_2, t0_3, y280, hT0, hO279, (show t0_0.toInt ≤ t0_0.toInt from (by omega)), (show t0_0.toInt ≤ t0_0.toInt from (by omega)), (show t0_1.toInt ≤ t0_1.toInt + 1000000 from (by omega)), (show t0_1.toInt ≤ t0_1.toInt + 3 from (by omega)), (show t1_0.toInt ≤ t0_1.toInt + 1 from (by have t1 : -1 ≤ t0_1.toInt ∧ t0_1.toInt ≤ 1000000 := btt0_1; have t2 : t1_0.toInt ≤ 0 := pre1; omega)), (show t0_1.toInt ≤ t1_0.toInt + 1000000 from (by have t1 : -1 ≤ t0_1.toInt ∧ t0_1.toInt ≤ 1000000 := btt0_1; have t2 : 0 ≤ t1_0.toInt ∧ t1_0.toInt ≤ 1000000 := btt1_0; omega)), (show t0_2.toInt ≤ t0_2.toInt from (by omega)), (show t0_2.toInt ≤ t0_2.toInt from (by omega)), (show t0_3.toInt ≤ t0_3.toInt from (by omega)), (show t0_3.toInt ≤ t0_3.toInt from (by omega)), (show t1_0.toInt ≤ y280.toInt from (by have t1 : t1_0.toInt ≤ 0 := pre1; have t2 : 0 ≤ y280.toInt := b281; omega)), (show y280.toInt ≤ t1_0.toInt + 420005 from (by have t1 : y272.toInt ≤ t1_0.toInt + 5 := b274; have t2 : y280.toInt ≤ y272.toInt := b282; omega)), (show y280.toInt ≤ t0_1.toInt + 420005 from (by have t1 : -1 ≤ t0_1.toInt ∧ t0_1.toInt ≤ 1000000 := btt0_1; have t2 : t1_0.toInt ≤ 0 := pre1; have t3 : y272.toInt ≤ t1_0.toInt + 5 := b274; have t4 : y280.toInt ≤ y272.toInt := b282; omega)), (show y280.toInt ≤ t0_3.toInt + 420005 from (by have t1 : -1 ≤ t0_3.toInt ∧ t0_3.toInt ≤ 8 := btt0_3; have t2 : t1_0.toInt ≤ 0 := pre1; have t3 : y272.toInt ≤ t1_0.toInt + 5 := b274; have t4 : y280.toInt ≤ y272.toInt := b282; omega))⟩) d_9_9_298
      ·
        intro J247
        refine q_join (X := Unit) (fun z H locs ls _ => q_Wd D g (va_A ws sz) s ws H locs ∧ lv_has ls 3 [(0, .ref (q 40))]) (fun z => []) 84 0 0 ?_ ?_
        ·
          rintro _ H locs ls _ ⟨V, hl⟩
          replace hl : lv_has ls 3 [(0, .ref (q 40))] := hl
          refine lv_iconst (v := 1) hx hb d_9_9_84 (by decide) ?_
          refine lv_goto (tgt := 89) hx hb d_9_9_85 (by decide) ?_
          exact J247 ((1 : Int32)) _ _ _ ws ⟨(show q_F (t1_0.toInt ≤ 1) from (show t1_0.toInt ≤ 1 from by have t1 : t1_0.toInt ≤ 0 := pre1; omega)), (show q_F (1 ≤ t1_0.toInt + 1) from (show 1 ≤ t1_0.toInt + 1 from by have t1 : 0 ≤ t1_0.toInt ∧ t1_0.toInt ≤ 1000000 := btt1_0; omega)), V, q_lw hl (q_lw1 0 rfl q_lw0)⟩
        ·
          intro J288
          refine lv_if_eq (tgt := 84) hx hb d_9_9_62 (by decide) (fun c289 => ?_) (fun c289 => ?_)
          ·
            have b290 : q_F (a35.toInt = 0) := (q_eqI c289)
            exact J288 (()) _ _ _ ws ⟨V, q_lw hl (q_lw1 1 rfl q_lw0)⟩
          ·
            have b291 : q_F (a35.toInt ≠ 0) := (q_neI c289)
            refine lv_iload_n hx hb d_9_9_65 rfl (lv_at hl 0 rfl) ?_
            refine lv_iconst (v := 1) hx hb d_9_9_66 (by decide) ?_
            refine q_join (X := Unit) (fun z H locs ls _ => q_Wd D g (va_A ws sz) s ws H locs ∧ lv_has ls 3 [(0, .ref (q 40))]) (fun z => []) 88 0 0 ?_ ?_
            ·
              rintro _ H locs ls _ ⟨V, hl⟩
              replace hl : lv_has ls 3 [(0, .ref (q 40))] := hl
              refine lv_iconst (v := 0) hx hb d_9_9_88 (by decide) ?_
              exact J247 ((0 : Int32)) _ _ _ ws ⟨(show q_F (t1_0.toInt ≤ 0) from (show t1_0.toInt ≤ 0 from by have t1 : t1_0.toInt ≤ 0 := pre1; omega)), (show q_F (0 ≤ t1_0.toInt + 1) from (show 0 ≤ t1_0.toInt + 1 from by have t1 : 0 ≤ t1_0.toInt ∧ t1_0.toInt ≤ 1000000 := btt1_0; omega)), V, q_lw hl (q_lw1 0 rfl q_lw0)⟩
            ·
              intro J295
              refine lv_icmp_ne (tgt := 88) hx hb d_9_9_67 (by decide) (fun c296 => ?_) (fun c296 => ?_)
              ·
                have b297 : q_F (a35.toInt ≠ 1) := (q_neI c296)
                exact J295 (()) _ _ _ ws ⟨V, q_lw hl (q_lw1 1 rfl q_lw0)⟩
              ·
                have b298 : q_F (a35.toInt = 1) := (q_eqI c296)
                refine lv_aload_n hx hb d_9_9_70 rfl (lv_at hl 1 rfl) ?_
                refine q_get (ci := 11) (j := 2) (v := .ref (q 42)) C0 V i_Pri rfl rfl hT0 (by decide) w_387 rfl d_9_9_71 ?_
                refine lv_aload_n hx hb d_9_9_74 rfl (lv_at hl 1 rfl) ?_
                refine q_get (ci := 11) (j := 11) (v := .int t0_3) C0 V i_Pri rfl rfl hT0 (by decide) w_396 rfl d_9_9_75 ?_
                obtain ⟨f299, hA300⟩ := n_al hI (n_s42 g q)
                refine q_lald C0 V hA300 (q_ix (x := t0_3.toInt) rfl (by have t1 : 0 ≤ gp.toInt + t0_3.toInt := pre0; have t2 : gp.toInt = 0 := b31; omega) (by have t1 : 0 ≤ gp.toInt + t0_3.toInt := pre0; have t2 : gp.toInt = 0 := b31; have t3 : -1 ≤ t0_3.toInt ∧ t0_3.toInt ≤ 8 := btt0_3; omega)) d_9_9_78 ?_
                obtain ⟨j301, e302⟩ := q_nm (f299 t0_3.toNatClampNeg : Int64)
                refine q_tl (v := j301) e302 ?_
                refine lv_lconst (v := 0) hx hb d_9_9_79 (by decide) ?_
                refine W.lcmp hx hb d_9_9_80 ?_
                obtain ⟨a303, e304⟩ := q_nm (lg_cmp j301 0 : Int32)
                refine q_ti (v := a303) e304 ?_
                have b305 : q_F (-1 ≤ a303.toInt ∧ a303.toInt ≤ 1 ∧ ((a303.toInt = -1 ∧ j301.toInt < 0) ∨ (a303.toInt = 0 ∧ j301.toInt = 0) ∨ (a303.toInt = 1 ∧ 0 < j301.toInt))) := (by rw [← e304]; show -1 ≤ (lg_cmp j301 0 : Int32).toInt ∧ (lg_cmp j301 0 : Int32).toInt ≤ 1 ∧ (((lg_cmp j301 0 : Int32).toInt = -1 ∧ j301.toInt < 0) ∨ ((lg_cmp j301 0 : Int32).toInt = 0 ∧ j301.toInt = 0) ∨ ((lg_cmp j301 0 : Int32).toInt = 1 ∧ 0 < j301.toInt)); exact (by have y1 : (0 : Int64).toInt = 0 := rfl; have z := s_lcmp (a := j301) (b := 0); omega))
                refine lv_if_ne (tgt := 88) hx hb d_9_9_81 (by decide) (fun c306 => ?_) (fun c306 => ?_)
                ·
                  have b307 : q_F (a303.toInt ≠ 0) := (q_neI c306)
                  exact J295 (()) _ _ _ ws ⟨V, q_lw hl (q_lw1 1 rfl q_lw0)⟩
                ·
                  have b308 : q_F (a303.toInt = 0) := (q_eqI c306)
                  exact J288 (()) _ _ _ ws ⟨V, q_lw hl (q_lw1 1 rfl q_lw0)⟩
  ·
    have b309 : q_F (gp.toInt ≠ 0) := (q_neI c30)
    refine lv_aload_n hx hb d_9_9_12 rfl (lv_at hl 0 rfl) ?_
    refine q_get (ci := 11) (j := 8) (v := .ref (q 45)) C0 V i_Pri rfl rfl hT0 (by decide) w_393 rfl d_9_9_13 ?_
    refine lv_aload_n hx hb d_9_9_16 rfl (lv_at hl 0 rfl) ?_
    refine q_get (ci := 11) (j := 6) (v := .ref (q 47)) C0 V i_Pri rfl rfl hT0 (by decide) w_391 rfl d_9_9_17 ?_
    refine q_get (ci := 10) (j := 4) (v := .int t2_4) C0 V i_Dir rfl rfl hT2 (by decide) w_362 rfl d_9_9_20 ?_
    refine lv_bipush (v := 110) hx hb d_9_9_23 (by decide) ?_
    refine lv_icmp_ne (tgt := 33) hx hb d_9_9_25 (by decide) (fun c310 => ?_) (fun c310 => ?_)
    ·
      have b311 : q_F (t2_4.toInt ≠ 110) := (q_neI c310)
      refine lv_bipush (v := 37) hx hb d_9_9_33 (by decide) ?_
      refine q_gov V (q_runV (As := [.int 37]) (rest := []) (d := 1) (mc := 0) (ms := 0) (ci := 1) C0 V rfl LV_Pri_113 (T_She_add l D g q ws 45 4104 513 1000000 (n_h45 g q) 37 hI t1_0 hT1 (by have y0 : (4104 : Int32).toInt = 4104 := rfl; have y1 : (513 : Int32).toInt = 513 := rfl; have y2 : (1000000 : Int32).toInt = 1000000 := rfl; have y3 : (37 : Int32).toInt = 37 := rfl; have t1 : t1_0.toInt ≤ 0 := pre1; omega) _) rfl rfl hT1 rfl hl.1 rfl (Nat.le_of_ble_eq_true rfl) ⟨by decide, by decide⟩ ⟨Nat.le_of_ble_eq_true rfl, Nat.le_of_ble_eq_true rfl⟩ d_9_9_35) (fun u312 H locs hp313 V => ?_)
      obtain ⟨hI, hu319, y315, hO314, b316, b317⟩ := hp313
      replace hO314 : u312[45]? = (some (q 45, .inr (1, [.ref (q 46), .int 4104, .int y315])) : Option (Nat × va_E)) := hO314
      replace b316 : q_F (t1_0.toInt + 1 ≤ y315.toInt) := b316
      replace b317 : q_F (y315.toInt ≤ t1_0.toInt + 1) := b317
      replace hT0 := (hu319 _ (by decide)).trans hT0
      replace hT2 := (hu319 _ (by decide)).trans hT2
      replace hF := q_uc hF hu319 (by simp)
      exact q_retv C0 V (⟨hI, hF, t0_0, t0_1, t0_2, t0_3, y315, hT0, hO314, (show t0_0.toInt ≤ t0_0.toInt from (by omega)), (show t0_0.toInt ≤ t0_0.toInt from (by omega)), (show t0_1.toInt ≤ t0_1.toInt + 1000000 from (by omega)), (show t0_1.toInt ≤ t0_1.toInt + 3 from (by omega)), (show t1_0.toInt ≤ t0_1.toInt + 1 from (by have t1 : -1 ≤ t0_1.toInt ∧ t0_1.toInt ≤ 1000000 := btt0_1; have t2 : t1_0.toInt ≤ 0 := pre1; omega)), (show t0_1.toInt ≤ t1_0.toInt + 1000000 from (by have t1 : -1 ≤ t0_1.toInt ∧ t0_1.toInt ≤ 1000000 := btt0_1; have t2 : 0 ≤ t1_0.toInt ∧ t1_0.toInt ≤ 1000000 := btt1_0; omega)), (show t0_2.toInt ≤ t0_2.toInt from (by omega)), (show t0_2.toInt ≤ t0_2.toInt from (by omega)), (show t0_3.toInt ≤ t0_3.toInt from (by omega)), (show t0_3.toInt ≤ t0_3.toInt from (by omega)), (show t1_0.toInt ≤ y315.toInt from (by have t1 : t1_0.toInt + 1 ≤ y315.toInt := b316; omega)), (show y315.toInt ≤ t1_0.toInt + 420005 from (by have t1 : y315.toInt ≤ t1_0.toInt + 1 := b317; omega)), (show y315.toInt ≤ t0_1.toInt + 420005 from (by have t1 : -1 ≤ t0_1.toInt ∧ t0_1.toInt ≤ 1000000 := btt0_1; have t2 : t1_0.toInt ≤ 0 := pre1; have t3 : y315.toInt ≤ t1_0.toInt + 1 := b317; omega)), (show y315.toInt ≤ t0_3.toInt + 420005 from (by have t1 : -1 ≤ t0_3.toInt ∧ t0_3.toInt ≤ 8 := btt0_3; have t2 : t1_0.toInt ≤ 0 := pre1; have t3 : y315.toInt ≤ t1_0.toInt + 1 := b317; omega))⟩) d_9_9_38
    ·
      have b320 : q_F (t2_4.toInt = 110) := (q_eqI c310)
      refine lv_bipush (v := 10) hx hb d_9_9_28 (by decide) ?_
      refine lv_goto (tgt := 35) hx hb d_9_9_30 (by decide) ?_
      refine q_gov V (q_runV (As := [.int 10]) (rest := []) (d := 1) (mc := 0) (ms := 0) (ci := 1) C0 V rfl LV_Pri_113 (T_She_add l D g q ws 45 4104 513 1000000 (n_h45 g q) 10 hI t1_0 hT1 (by have y0 : (4104 : Int32).toInt = 4104 := rfl; have y1 : (513 : Int32).toInt = 513 := rfl; have y2 : (1000000 : Int32).toInt = 1000000 := rfl; have y3 : (10 : Int32).toInt = 10 := rfl; have t1 : t1_0.toInt ≤ 0 := pre1; omega) _) rfl rfl hT1 rfl hl.1 rfl (Nat.le_of_ble_eq_true rfl) ⟨by decide, by decide⟩ ⟨Nat.le_of_ble_eq_true rfl, Nat.le_of_ble_eq_true rfl⟩ d_9_9_35) (fun u321 H locs hp322 V => ?_)
      obtain ⟨hI, hu328, y324, hO323, b325, b326⟩ := hp322
      replace hO323 : u321[45]? = (some (q 45, .inr (1, [.ref (q 46), .int 4104, .int y324])) : Option (Nat × va_E)) := hO323
      replace b325 : q_F (t1_0.toInt + 1 ≤ y324.toInt) := b325
      replace b326 : q_F (y324.toInt ≤ t1_0.toInt + 1) := b326
      replace hT0 := (hu328 _ (by decide)).trans hT0
      replace hT2 := (hu328 _ (by decide)).trans hT2
      replace hF := q_uc hF hu328 (by simp)
      exact q_retv C0 V (⟨hI, hF, t0_0, t0_1, t0_2, t0_3, y324, hT0, hO323, (show t0_0.toInt ≤ t0_0.toInt from (by omega)), (show t0_0.toInt ≤ t0_0.toInt from (by omega)), (show t0_1.toInt ≤ t0_1.toInt + 1000000 from (by omega)), (show t0_1.toInt ≤ t0_1.toInt + 3 from (by omega)), (show t1_0.toInt ≤ t0_1.toInt + 1 from (by have t1 : -1 ≤ t0_1.toInt ∧ t0_1.toInt ≤ 1000000 := btt0_1; have t2 : t1_0.toInt ≤ 0 := pre1; omega)), (show t0_1.toInt ≤ t1_0.toInt + 1000000 from (by have t1 : -1 ≤ t0_1.toInt ∧ t0_1.toInt ≤ 1000000 := btt0_1; have t2 : 0 ≤ t1_0.toInt ∧ t1_0.toInt ≤ 1000000 := btt1_0; omega)), (show t0_2.toInt ≤ t0_2.toInt from (by omega)), (show t0_2.toInt ≤ t0_2.toInt from (by omega)), (show t0_3.toInt ≤ t0_3.toInt from (by omega)), (show t0_3.toInt ≤ t0_3.toInt from (by omega)), (show t1_0.toInt ≤ y324.toInt from (by have t1 : t1_0.toInt + 1 ≤ y324.toInt := b325; omega)), (show y324.toInt ≤ t1_0.toInt + 420005 from (by have t1 : y324.toInt ≤ t1_0.toInt + 1 := b326; omega)), (show y324.toInt ≤ t0_1.toInt + 420005 from (by have t1 : -1 ≤ t0_1.toInt ∧ t0_1.toInt ≤ 1000000 := btt0_1; have t2 : t1_0.toInt ≤ 0 := pre1; have t3 : y324.toInt ≤ t1_0.toInt + 1 := b326; omega)), (show y324.toInt ≤ t0_3.toInt + 420005 from (by have t1 : -1 ≤ t0_3.toInt ∧ t0_3.toInt ≤ 8 := btt0_3; have t2 : t1_0.toInt ≤ 0 := pre1; have t3 : y324.toInt ≤ t1_0.toInt + 1 := b326; omega))⟩) d_9_9_38
theorem d_9_15_0 : decode prog_9_method_15_code 0 = .ok (.aload_n 1, 1) := by decide +kernel
theorem d_9_15_1 : decode prog_9_method_15_code 1 = .ok (.getfield 73, 3) := by decide +kernel
theorem d_9_15_4 : decode prog_9_method_15_code 4 = .ok (.istore_n 2, 1) := by decide +kernel
theorem d_9_15_5 : decode prog_9_method_15_code 5 = .ok (.aload_n 0, 1) := by decide +kernel
theorem d_9_15_6 : decode prog_9_method_15_code 6 = .ok (.getfield 47, 3) := by decide +kernel
theorem d_9_15_9 : decode prog_9_method_15_code 9 = .ok (.getfield 116, 3) := by decide +kernel
set_option maxRecDepth 100000 in
theorem w_358 : (Cond.fieldLink "NumberHouse$Printer" (116 : Nat) "NumberHouse$Directive" "width" "I") ∈ q_tbl := q_of2 118 rfl (by decide +kernel)
theorem d_9_15_12 : decode prog_9_method_15_code 12 = .ok (.aload_n 0, 1) := by decide +kernel
theorem d_9_15_13 : decode prog_9_method_15_code 13 = .ok (.getfield 31, 3) := by decide +kernel
theorem d_9_15_16 : decode prog_9_method_15_code 16 = .ok (.getfield 73, 3) := by decide +kernel
theorem d_9_15_19 : decode prog_9_method_15_code 19 = .ok (.isub, 1) := by decide +kernel
theorem d_9_15_20 : decode prog_9_method_15_code 20 = .ok (.istore_n 3, 1) := by decide +kernel
theorem d_9_15_21 : decode prog_9_method_15_code 21 = .ok (.aload_n 0, 1) := by decide +kernel
theorem d_9_15_22 : decode prog_9_method_15_code 22 = .ok (.getfield 47, 3) := by decide +kernel
theorem d_9_15_25 : decode prog_9_method_15_code 25 = .ok (.bipush 8, 2) := by decide +kernel
theorem d_9_15_27 : decode prog_9_method_15_code 27 = .ok (.invokevirtual 144, 3) := by decide +kernel
theorem d_9_15_83 : decode prog_9_method_15_code 83 = .ok (.aload_n 0, 1) := by decide +kernel
theorem d_9_15_84 : decode prog_9_method_15_code 84 = .ok (.getfield 47, 3) := by decide +kernel
theorem d_9_15_87 : decode prog_9_method_15_code 87 = .ok (.iconst 1, 1) := by decide +kernel
theorem d_9_15_88 : decode prog_9_method_15_code 88 = .ok (.invokevirtual 144, 3) := by decide +kernel
theorem d_9_15_91 : decode prog_9_method_15_code 91 = .ok (.ifCond .eq 29, 3) := by decide +kernel
theorem d_9_15_120 : decode prog_9_method_15_code 120 = .ok (.aload_n 1, 1) := by decide +kernel
theorem d_9_15_121 : decode prog_9_method_15_code 121 = .ok (.bipush 32, 2) := by decide +kernel
theorem d_9_15_123 : decode prog_9_method_15_code 123 = .ok (.iload_n 3, 1) := by decide +kernel
theorem d_9_15_124 : decode prog_9_method_15_code 124 = .ok (.invokevirtual 236, 3) := by decide +kernel
set_option maxRecDepth 100000 in
theorem w_1904 : (Cond.code ({ cls := "NumberHouse$Sheet", name := "addTimes", desc := "(II)V" } : MethodName) prog_11_method_5_code (4 : Nat) (none : Option ClassFile.FieldType)) ∈ q_tbl := q_of8 224 rfl (by decide +kernel)
set_option maxRecDepth 100000 in
theorem w_1901 : (Cond.methodLink "NumberHouse$Printer" (236 : Nat) ({ cls := "NumberHouse$Sheet", name := "addTimes", desc := "(II)V" } : MethodName)) ∈ q_tbl := q_of8 221 rfl (by decide +kernel)
set_option maxRecDepth 100000 in
theorem w_1902 : (Cond.instanceMethod ({ cls := "NumberHouse$Sheet", name := "addTimes", desc := "(II)V" } : MethodName)) ∈ q_tbl := q_of8 222 rfl (by decide +kernel)
set_option maxRecDepth 100000 in
theorem w_1903 : (Cond.selects "NumberHouse$Sheet" ({ cls := "NumberHouse$Sheet", name := "addTimes", desc := "(II)V" } : MethodName) ({ cls := "NumberHouse$Sheet", name := "addTimes", desc := "(II)V" } : MethodName)) ∈ q_tbl := q_of8 223 rfl (by decide +kernel)
theorem LV_Pri_236 : q_LV "NumberHouse$Printer" 236 y_She_addTimes prog_11_method_5_code 4 none 2 := ⟨w_1904, w_2, w_1901, w_1902, w_1903, ⟨by decide, by decide, by decide +kernel⟩⟩
theorem d_9_15_127 : decode prog_9_method_15_code 127 = .ok (.aload_n 1, 1) := by decide +kernel
theorem d_9_15_128 : decode prog_9_method_15_code 128 = .ok (.aload_n 0, 1) := by decide +kernel
theorem d_9_15_129 : decode prog_9_method_15_code 129 = .ok (.getfield 31, 3) := by decide +kernel
theorem d_9_15_132 : decode prog_9_method_15_code 132 = .ok (.iconst 0, 1) := by decide +kernel
theorem d_9_15_133 : decode prog_9_method_15_code 133 = .ok (.aload_n 0, 1) := by decide +kernel
theorem d_9_15_134 : decode prog_9_method_15_code 134 = .ok (.getfield 31, 3) := by decide +kernel
theorem d_9_15_137 : decode prog_9_method_15_code 137 = .ok (.getfield 73, 3) := by decide +kernel
theorem d_9_15_140 : decode prog_9_method_15_code 140 = .ok (.invokestatic 76, 3) := by decide +kernel
theorem d_9_15_143 : decode prog_9_method_15_code 143 = .ok (.aload_n 0, 1) := by decide +kernel
theorem d_9_15_144 : decode prog_9_method_15_code 144 = .ok (.getfield 47, 3) := by decide +kernel
theorem d_9_15_147 : decode prog_9_method_15_code 147 = .ok (.invokevirtual 222, 3) := by decide +kernel
theorem d_9_15_150 : decode prog_9_method_15_code 150 = .ok (.ifCond .eq 8, 3) := by decide +kernel
theorem d_9_15_158 : decode prog_9_method_15_code 158 = .ok (.return_, 1) := by decide +kernel
theorem d_9_15_153 : decode prog_9_method_15_code 153 = .ok (.aload_n 1, 1) := by decide +kernel
theorem d_9_15_154 : decode prog_9_method_15_code 154 = .ok (.iload_n 2, 1) := by decide +kernel
theorem d_9_15_155 : decode prog_9_method_15_code 155 = .ok (.invokestatic 239, 3) := by decide +kernel
set_option maxRecDepth 100000 in
theorem w_1907 : (Cond.code ({ cls := "NumberHouse$Printer", name := "enlarge", desc := "(LNumberHouse$Sheet;I)V" } : MethodName) prog_9_method_17_code (4 : Nat) (none : Option ClassFile.FieldType)) ∈ q_tbl := q_of8 227 rfl (by decide +kernel)
set_option maxRecDepth 100000 in
theorem w_1905 : (Cond.methodLink "NumberHouse$Printer" (239 : Nat) ({ cls := "NumberHouse$Printer", name := "enlarge", desc := "(LNumberHouse$Sheet;I)V" } : MethodName)) ∈ q_tbl := q_of8 225 rfl (by decide +kernel)
set_option maxRecDepth 100000 in
theorem w_1906 : (Cond.static ({ cls := "NumberHouse$Printer", name := "enlarge", desc := "(LNumberHouse$Sheet;I)V" } : MethodName)) ∈ q_tbl := q_of8 226 rfl (by decide +kernel)
theorem LS_Pri_239 : q_LS "NumberHouse$Printer" 239 y_Pri_enlarge prog_9_method_17_code 4 none 2 := ⟨w_1907, w_12, w_1905, w_1906, ⟨by decide, by decide, by decide +kernel⟩⟩
theorem d_9_15_94 : decode prog_9_method_15_code 94 = .ok (.aload_n 1, 1) := by decide +kernel
theorem d_9_15_95 : decode prog_9_method_15_code 95 = .ok (.aload_n 0, 1) := by decide +kernel
theorem d_9_15_96 : decode prog_9_method_15_code 96 = .ok (.getfield 31, 3) := by decide +kernel
theorem d_9_15_99 : decode prog_9_method_15_code 99 = .ok (.iconst 0, 1) := by decide +kernel
theorem d_9_15_100 : decode prog_9_method_15_code 100 = .ok (.aload_n 0, 1) := by decide +kernel
theorem d_9_15_101 : decode prog_9_method_15_code 101 = .ok (.getfield 31, 3) := by decide +kernel
theorem d_9_15_104 : decode prog_9_method_15_code 104 = .ok (.getfield 73, 3) := by decide +kernel
theorem d_9_15_107 : decode prog_9_method_15_code 107 = .ok (.invokestatic 76, 3) := by decide +kernel
theorem d_9_15_110 : decode prog_9_method_15_code 110 = .ok (.aload_n 1, 1) := by decide +kernel
theorem d_9_15_111 : decode prog_9_method_15_code 111 = .ok (.bipush 32, 2) := by decide +kernel
theorem d_9_15_113 : decode prog_9_method_15_code 113 = .ok (.iload_n 3, 1) := by decide +kernel
theorem d_9_15_114 : decode prog_9_method_15_code 114 = .ok (.invokevirtual 236, 3) := by decide +kernel
theorem d_9_15_117 : decode prog_9_method_15_code 117 = .ok (.goto 26, 3) := by decide +kernel
theorem d_9_15_30 : decode prog_9_method_15_code 30 = .ok (.ifCond .eq 53, 3) := by decide +kernel
theorem d_9_15_33 : decode prog_9_method_15_code 33 = .ok (.aload_n 0, 1) := by decide +kernel
theorem d_9_15_34 : decode prog_9_method_15_code 34 = .ok (.getfield 90, 3) := by decide +kernel
theorem d_9_15_37 : decode prog_9_method_15_code 37 = .ok (.iconst (-1), 1) := by decide +kernel
theorem d_9_15_38 : decode prog_9_method_15_code 38 = .ok (.if_icmp .eq 45, 3) := by decide +kernel
theorem d_9_15_41 : decode prog_9_method_15_code 41 = .ok (.aload_n 1, 1) := by decide +kernel
theorem d_9_15_42 : decode prog_9_method_15_code 42 = .ok (.aload_n 0, 1) := by decide +kernel
theorem d_9_15_43 : decode prog_9_method_15_code 43 = .ok (.getfield 31, 3) := by decide +kernel
theorem d_9_15_46 : decode prog_9_method_15_code 46 = .ok (.iconst 0, 1) := by decide +kernel
theorem d_9_15_47 : decode prog_9_method_15_code 47 = .ok (.aload_n 0, 1) := by decide +kernel
theorem d_9_15_48 : decode prog_9_method_15_code 48 = .ok (.getfield 90, 3) := by decide +kernel
theorem d_9_15_51 : decode prog_9_method_15_code 51 = .ok (.invokestatic 76, 3) := by decide +kernel
theorem d_9_15_54 : decode prog_9_method_15_code 54 = .ok (.aload_n 1, 1) := by decide +kernel
theorem d_9_15_55 : decode prog_9_method_15_code 55 = .ok (.bipush 48, 2) := by decide +kernel
theorem d_9_15_57 : decode prog_9_method_15_code 57 = .ok (.iload_n 3, 1) := by decide +kernel
theorem d_9_15_58 : decode prog_9_method_15_code 58 = .ok (.invokevirtual 236, 3) := by decide +kernel
theorem d_9_15_61 : decode prog_9_method_15_code 61 = .ok (.aload_n 1, 1) := by decide +kernel
theorem d_9_15_62 : decode prog_9_method_15_code 62 = .ok (.aload_n 0, 1) := by decide +kernel
theorem d_9_15_63 : decode prog_9_method_15_code 63 = .ok (.getfield 31, 3) := by decide +kernel
theorem d_9_15_66 : decode prog_9_method_15_code 66 = .ok (.aload_n 0, 1) := by decide +kernel
theorem d_9_15_67 : decode prog_9_method_15_code 67 = .ok (.getfield 90, 3) := by decide +kernel
theorem d_9_15_70 : decode prog_9_method_15_code 70 = .ok (.aload_n 0, 1) := by decide +kernel
theorem d_9_15_71 : decode prog_9_method_15_code 71 = .ok (.getfield 31, 3) := by decide +kernel
theorem d_9_15_74 : decode prog_9_method_15_code 74 = .ok (.getfield 73, 3) := by decide +kernel
theorem d_9_15_77 : decode prog_9_method_15_code 77 = .ok (.invokestatic 76, 3) := by decide +kernel
theorem d_9_15_80 : decode prog_9_method_15_code 80 = .ok (.goto 63, 3) := by decide +kernel
def y_Pri_widen : MethodName := ⟨"NumberHouse$Printer", "widen", "(LNumberHouse$Sheet;)V"⟩
set_option maxRecDepth 100000 in
set_option maxHeartbeats 4000000 in
theorem T_Pri_widen (l : Launch) (D : va_G) (g : Nat → ClassId) (q : Nat → Nat) (ws : va_W) (hI : q_I (nsh g q) q ws) (t0_0 : Int32) (t0_1 : Int32) (t0_2 : Int32) (t0_3 : Int32) (hT0 : ws[40]? = (some (q 40, .inr (11, [.int t0_0, .ref (q 41), .ref (q 42), .ref (q 43), .ref (q 44), .ref (q 1), .ref (q 47), .ref (q 36), .ref (q 45), .int t0_1, .int t0_2, .int t0_3])) : Option (Nat × va_E))) (t1_0 : Int32) (hT1 : ws[45]? = (some (q 45, .inr (1, [.ref (q 46), .int 4104, .int t1_0])) : Option (Nat × va_E))) (t2_0 : Int32) (t2_1 : Int32) (t2_2 : Int32) (t2_3 : Int32) (t2_4 : Int32) (t2_5 : Int32) (t2_6 : Int32) (hT2 : ws[47]? = (some (q 47, .inr (10, [.int t2_0, .int t2_1, .int t2_2, .int t2_3, .int t2_4, .int t2_5, .ref (q 1), .int t2_6])) : Option (Nat × va_E))) (t3_0 : Int32) (hT3 : ws[3]? = (some (q 3, .inr (1, [.ref (q 4), .int 11008, .int t3_0])) : Option (Nat × va_E))) (pre0 : t3_0.toInt ≤ 20000) (pre1 : t1_0.toInt ≤ 450000) (pre2 : t0_1.toInt ≤ 300000) : q_mV l y_Pri_widen prog_9_method_15_code 4 4 0 0 D g [.ref (q 40), .ref (q 3)] ws (fun u => q_I (nsh g q) q u ∧ q_un ws u [3, 4] ∧ ∃ (u3_0 : Int32), u[3]? = (some (q 3, .inr (1, [.ref (q 4), .int 11008, .int u3_0])) : Option (Nat × va_E)) ∧ (u3_0.toInt ≤ t0_1.toInt + 490001) ∧ (u3_0.toInt ≤ t1_0.toInt + 340000) ∧ (t3_0.toInt ≤ u3_0.toInt) ∧ (u3_0.toInt ≤ t3_0.toInt + 770000)) := by
  intro sz
  refine q_into (by decide) (Nat.le_of_ble_eq_true rfl) ?_
  intro p e s m below meth c ls hsz C0 V hl
  have hx := C0.1
  have hb := C0.2.1
  obtain ⟨yy0_0, yy0_1, yy0_2, yy0_3, hh0, btt0_0, btt0_1, btt0_3⟩ := n_o40 hI
  obtain ⟨rfl, rfl, rfl, rfl⟩ : t0_0 = yy0_0 ∧ t0_1 = yy0_1 ∧ t0_2 = yy0_2 ∧ t0_3 = yy0_3 := by have z := Option.some.inj (hT0.symm.trans hh0); simpa using z
  replace btt0_0 : q_F (0 ≤ t0_0.toInt ∧ t0_0.toInt ≤ 9) := btt0_0
  replace btt0_1 : q_F (-1 ≤ t0_1.toInt ∧ t0_1.toInt ≤ 1000000) := btt0_1
  replace btt0_3 : q_F (-1 ≤ t0_3.toInt ∧ t0_3.toInt ≤ 8) := btt0_3
  obtain ⟨yy1_0, hh1, btt1_0⟩ := n_shO hI (n_h45 g q)
  obtain ⟨rfl⟩ : t1_0 = yy1_0 := by have z := Option.some.inj (hT1.symm.trans hh1); simpa using z
  replace btt1_0 : q_F (0 ≤ t1_0.toInt ∧ t1_0.toInt ≤ 1000000) := btt1_0
  obtain ⟨yy2_0, yy2_1, yy2_2, yy2_3, yy2_4, yy2_5, yy2_6, hh2, btt2_2, btt2_3, btt2_6⟩ := n_o47 hI
  obtain ⟨rfl, rfl, rfl, rfl, rfl, rfl, rfl⟩ : t2_0 = yy2_0 ∧ t2_1 = yy2_1 ∧ t2_2 = yy2_2 ∧ t2_3 = yy2_3 ∧ t2_4 = yy2_4 ∧ t2_5 = yy2_5 ∧ t2_6 = yy2_6 := by have z := Option.some.inj (hT2.symm.trans hh2); simpa using z
  replace btt2_2 : q_F (-1 ≤ t2_2.toInt ∧ t2_2.toInt ≤ 9999) := btt2_2
  replace btt2_3 : q_F (-1 ≤ t2_3.toInt ∧ t2_3.toInt ≤ 9999) := btt2_3
  replace btt2_6 : q_F (0 ≤ t2_6.toInt ∧ t2_6.toInt ≤ 1) := btt2_6
  obtain ⟨yy3_0, hh3, btt3_0⟩ := n_shO hI (n_h3 g q)
  obtain ⟨rfl⟩ : t3_0 = yy3_0 := by have z := Option.some.inj (hT3.symm.trans hh3); simpa using z
  replace btt3_0 : q_F (0 ≤ t3_0.toInt ∧ t3_0.toInt ≤ 1000000) := btt3_0
  replace pre0 : q_F (t3_0.toInt ≤ 20000) := pre0
  replace pre1 : q_F (t1_0.toInt ≤ 450000) := pre1
  replace pre2 : q_F (t0_1.toInt ≤ 300000) := pre2
  have hF : q_un ws ws [3, 4] := q_u0
  have hl : lv_has ls 4 [(0, .ref (q 40)), (1, .ref (q 3))] := hl
  refine lv_aload_n hx hb d_9_15_0 rfl (lv_at hl 1 rfl) ?_
  refine q_get (ci := 1) (j := 2) (v := .int t3_0) C0 V i_She rfl rfl hT3 (by decide) w_58 rfl d_9_15_1 ?_
  refine lv_istore_n (lv' := [(2, .int t3_0), (0, .ref (q 40)), (1, .ref (q 3))]) hx hb d_9_15_4 rfl hl (by decide) rfl (fun ls hl => ?_)
  refine lv_aload_n hx hb d_9_15_5 rfl (lv_at hl 1 rfl) ?_
  refine q_get (ci := 11) (j := 6) (v := .ref (q 47)) C0 V i_Pri rfl rfl hT0 (by decide) w_391 rfl d_9_15_6 ?_
  refine q_get (ci := 10) (j := 2) (v := .int t2_2) C0 V i_Dir rfl rfl hT2 (by decide) w_358 rfl d_9_15_9 ?_
  refine lv_aload_n hx hb d_9_15_12 rfl (lv_at hl 1 rfl) ?_
  refine q_get (ci := 11) (j := 8) (v := .ref (q 45)) C0 V i_Pri rfl rfl hT0 (by decide) w_393 rfl d_9_15_13 ?_
  refine q_get (ci := 1) (j := 2) (v := .int t1_0) C0 V i_She rfl rfl hT1 (by decide) w_58 rfl d_9_15_16 ?_
  refine lv_isub hx hb d_9_15_19 ?_
  obtain ⟨a26, e27⟩ := q_nm (t2_2 - t1_0 : Int32)
  refine q_ti (v := a26) e27 ?_
  have b28 : q_F (a26.toInt = t2_2.toInt - t1_0.toInt) := (by rw [← e27]; show (t2_2 - t1_0 : Int32).toInt = t2_2.toInt - t1_0.toInt; exact q_subI (x := t2_2.toInt) (y := t1_0.toInt) rfl rfl (by have t1 : 0 ≤ t1_0.toInt ∧ t1_0.toInt ≤ 1000000 := btt1_0; have t2 : -1 ≤ t2_2.toInt ∧ t2_2.toInt ≤ 9999 := btt2_2; omega) (by have t1 : 0 ≤ t1_0.toInt ∧ t1_0.toInt ≤ 1000000 := btt1_0; have t2 : -1 ≤ t2_2.toInt ∧ t2_2.toInt ≤ 9999 := btt2_2; omega))
  refine lv_istore_n (lv' := [(3, .int a26), (2, .int t3_0), (0, .ref (q 40)), (1, .ref (q 3))]) hx hb d_9_15_20 rfl hl (by decide) rfl (fun ls hl => ?_)
  refine lv_aload_n hx hb d_9_15_21 rfl (lv_at hl 2 rfl) ?_
  refine q_get (ci := 11) (j := 6) (v := .ref (q 47)) C0 V i_Pri rfl rfl hT0 (by decide) w_391 rfl d_9_15_22 ?_
  refine lv_bipush (v := 8) hx hb d_9_15_25 (by decide) ?_
  refine q_goi V (q_runV (As := [.int 8]) (rest := []) (d := 1) (mc := 0) (ms := 0) (ci := 10) C0 V rfl LV_Pri_144 (T_Dir_has l D g q ws  8 hI   _) rfl rfl hT2 rfl hl.1 rfl (Nat.le_of_ble_eq_true rfl) ⟨by decide, by decide⟩ ⟨Nat.le_of_ble_eq_true rfl, Nat.le_of_ble_eq_true rfl⟩ d_9_15_27) (fun a31 u29 H locs hp30 V => ?_)
  obtain ⟨rfl, b32, b33⟩ := hp30
  replace b32 : q_F (0 ≤ a31.toInt) := b32
  replace b33 : q_F (a31.toInt ≤ 1) := b33
  refine q_join (X := Unit) (fun z H locs ls _ => q_Wd D g (va_A ws sz) s ws H locs ∧ lv_has ls 4 [(3, .int a26), (2, .int t3_0), (0, .ref (q 40)), (1, .ref (q 3))]) (fun z => []) 83 0 0 ?_ ?_
  ·
    rintro _ H locs ls _ ⟨V, hl⟩
    replace hl : lv_has ls 4 [(3, .int a26), (2, .int t3_0), (0, .ref (q 40)), (1, .ref (q 3))] := hl
    refine lv_aload_n hx hb d_9_15_83 rfl (lv_at hl 2 rfl) ?_
    refine q_get (ci := 11) (j := 6) (v := .ref (q 47)) C0 V i_Pri rfl rfl hT0 (by decide) w_391 rfl d_9_15_84 ?_
    refine lv_iconst (v := 1) hx hb d_9_15_87 (by decide) ?_
    refine q_goi V (q_runV (As := [.int 1]) (rest := []) (d := 1) (mc := 0) (ms := 0) (ci := 10) C0 V rfl LV_Pri_144 (T_Dir_has l D g q ws  1 hI   _) rfl rfl hT2 rfl hl.1 rfl (Nat.le_of_ble_eq_true rfl) ⟨by decide, by decide⟩ ⟨Nat.le_of_ble_eq_true rfl, Nat.le_of_ble_eq_true rfl⟩ d_9_15_88) (fun a42 u40 H locs hp41 V => ?_)
    obtain ⟨rfl, b43, b44⟩ := hp41
    replace b43 : q_F (0 ≤ a42.toInt) := b43
    replace b44 : q_F (a42.toInt ≤ 1) := b44
    refine lv_if_eq (tgt := 120) hx hb d_9_15_91 (by decide) (fun c46 => ?_) (fun c46 => ?_)
    ·
      have b47 : q_F (a42.toInt = 0) := (q_eqI c46)
      refine lv_aload_n hx hb d_9_15_120 rfl (lv_at hl 3 rfl) ?_
      refine lv_bipush (v := 32) hx hb d_9_15_121 (by decide) ?_
      refine lv_iload_n hx hb d_9_15_123 rfl (lv_at hl 0 rfl) ?_
      refine q_gov V (q_runV (As := [.int 32, .int a26]) (rest := []) (d := 2) (mc := 0) (ms := 0) (ci := 1) C0 V rfl LV_Pri_236 (T_She_addTimes l D g q ws 3 11008 1376 1000000 (n_h3 g q) 32 a26 hI t3_0 hT3 (by have y0 : (11008 : Int32).toInt = 11008 := rfl; have y1 : (1376 : Int32).toInt = 1376 := rfl; have y2 : (1000000 : Int32).toInt = 1000000 := rfl; have y3 : (32 : Int32).toInt = 32 := rfl; have t1 : t3_0.toInt ≤ 20000 := pre0; omega) (by have y0 : (11008 : Int32).toInt = 11008 := rfl; have y1 : (1376 : Int32).toInt = 1376 := rfl; have y2 : (1000000 : Int32).toInt = 1000000 := rfl; have y3 : (32 : Int32).toInt = 32 := rfl; have t1 : 0 ≤ t1_0.toInt ∧ t1_0.toInt ≤ 1000000 := btt1_0; have t2 : -1 ≤ t2_2.toInt ∧ t2_2.toInt ≤ 9999 := btt2_2; have t3 : a26.toInt = t2_2.toInt - t1_0.toInt := b28; omega) _) rfl rfl hT3 rfl hl.1 rfl (Nat.le_of_ble_eq_true rfl) ⟨by decide, by decide⟩ ⟨Nat.le_of_ble_eq_true rfl, Nat.le_of_ble_eq_true rfl⟩ d_9_15_124) (fun u48 H locs hp49 V => ?_)
      obtain ⟨hI, hu56, y51, hO50, b52, b53, b54⟩ := hp49
      replace hO50 : u48[3]? = (some (q 3, .inr (1, [.ref (q 4), .int 11008, .int y51])) : Option (Nat × va_E)) := hO50
      replace b52 : q_F (a26.toInt ≤ y51.toInt) := b52
      replace b53 : q_F (t3_0.toInt ≤ y51.toInt) := b53
      replace b54 : q_F (y51.toInt ≤ t3_0.toInt + 20000) := b54
      replace hT0 := (hu56 _ (by decide)).trans hT0
      replace hT1 := (hu56 _ (by decide)).trans hT1
      replace hT2 := (hu56 _ (by decide)).trans hT2
      replace hF := q_uc hF hu56 (by simp)
      refine lv_aload_n hx hb d_9_15_127 rfl (lv_at hl 3 rfl) ?_
      refine lv_aload_n hx hb d_9_15_128 rfl (lv_at hl 2 rfl) ?_
      refine q_get (ci := 11) (j := 8) (v := .ref (q 45)) C0 V i_Pri rfl rfl hT0 (by decide) w_393 rfl d_9_15_129 ?_
      refine lv_iconst (v := 0) hx hb d_9_15_132 (by decide) ?_
      refine lv_aload_n hx hb d_9_15_133 rfl (lv_at hl 2 rfl) ?_
      refine q_get (ci := 11) (j := 8) (v := .ref (q 45)) C0 V i_Pri rfl rfl hT0 (by decide) w_393 rfl d_9_15_134 ?_
      refine q_get (ci := 1) (j := 2) (v := .int t1_0) C0 V i_She rfl rfl hT1 (by decide) w_58 rfl d_9_15_137 ?_
      refine q_gov V (q_runS (As := [.ref (q 3), .ref (q 45), .int 0, .int t1_0]) (rest := []) (d := 2) (mc := 0) (ms := 0) C0 V rfl LS_Pri_76 (T_Pri_copyInto l D g q u48 3 11008 1376 1000000 (n_h3 g q) 45 4104 513 1000000 (n_h45 g q) 0 t1_0 hI y51 hO50 (by have y0 : (11008 : Int32).toInt = 11008 := rfl; have y1 : (1376 : Int32).toInt = 1376 := rfl; have y2 : (1000000 : Int32).toInt = 1000000 := rfl; have y3 : (4104 : Int32).toInt = 4104 := rfl; have y4 : (513 : Int32).toInt = 513 := rfl; have y5 : (1000000 : Int32).toInt = 1000000 := rfl; have y6 : (0 : Int32).toInt = 0 := rfl; omega) (by have y0 : (11008 : Int32).toInt = 11008 := rfl; have y1 : (1376 : Int32).toInt = 1376 := rfl; have y2 : (1000000 : Int32).toInt = 1000000 := rfl; have y3 : (4104 : Int32).toInt = 4104 := rfl; have y4 : (513 : Int32).toInt = 513 := rfl; have y5 : (1000000 : Int32).toInt = 1000000 := rfl; have y6 : (0 : Int32).toInt = 0 := rfl; have t1 : 0 ≤ t1_0.toInt ∧ t1_0.toInt ≤ 1000000 := btt1_0; omega) (by have y0 : (11008 : Int32).toInt = 11008 := rfl; have y1 : (1376 : Int32).toInt = 1376 := rfl; have y2 : (1000000 : Int32).toInt = 1000000 := rfl; have y3 : (4104 : Int32).toInt = 4104 := rfl; have y4 : (513 : Int32).toInt = 513 := rfl; have y5 : (1000000 : Int32).toInt = 1000000 := rfl; have y6 : (0 : Int32).toInt = 0 := rfl; have t1 : t3_0.toInt ≤ 20000 := pre0; have t2 : t1_0.toInt ≤ 450000 := pre1; have t3 : y51.toInt ≤ t3_0.toInt + 20000 := b54; omega) _) rfl hl.1 rfl (Nat.le_of_ble_eq_true rfl) ⟨by decide, by decide⟩ ⟨Nat.le_of_ble_eq_true rfl, Nat.le_of_ble_eq_true rfl⟩ d_9_15_140) (fun u57 H locs hp58 V => ?_)
      obtain ⟨hI, hu65, y60, hO59, b61, b62, b63⟩ := hp58
      replace hO59 : u57[3]? = (some (q 3, .inr (1, [.ref (q 4), .int 11008, .int y60])) : Option (Nat × va_E)) := hO59
      replace b61 : q_F (y51.toInt ≤ y60.toInt) := b61
      replace b62 : q_F (y60.toInt ≤ 1000000) := b62
      replace b63 : q_F (y60.toInt ≤ y51.toInt + t1_0.toInt) := b63
      replace hT0 := (hu65 _ (by decide)).trans hT0
      replace hT1 := (hu65 _ (by decide)).trans hT1
      replace hT2 := (hu65 _ (by decide)).trans hT2
      replace hF := q_uc hF hu65 (by simp)
      refine lv_aload_n hx hb d_9_15_143 rfl (lv_at hl 2 rfl) ?_
      refine q_get (ci := 11) (j := 6) (v := .ref (q 47)) C0 V i_Pri rfl rfl hT0 (by decide) w_391 rfl d_9_15_144 ?_
      refine q_goi V (q_runV (As := []) (rest := []) (d := 1) (mc := 0) (ms := 0) (ci := 10) C0 V rfl LV_Pri_222 (T_Dir_isLarge l D g q u57   hI   _) rfl rfl hT2 rfl hl.1 rfl (Nat.le_of_ble_eq_true rfl) ⟨by decide, by decide⟩ ⟨Nat.le_of_ble_eq_true rfl, Nat.le_of_ble_eq_true rfl⟩ d_9_15_147) (fun a68 u66 H locs hp67 V => ?_)
      obtain ⟨rfl, b69, b70⟩ := hp67
      replace b69 : q_F (0 ≤ a68.toInt) := b69
      replace b70 : q_F (a68.toInt ≤ 1) := b70
      refine lv_if_eq (tgt := 158) hx hb d_9_15_150 (by decide) (fun c72 => ?_) (fun c72 => ?_)
      ·
        have b73 : q_F (a68.toInt = 0) := (q_eqI c72)
        exact q_retv C0 V (⟨hI, hF, y60, hO59, (show y60.toInt ≤ t0_1.toInt + 490001 from (by have t1 : -1 ≤ t0_1.toInt ∧ t0_1.toInt ≤ 1000000 := btt0_1; have t2 : t3_0.toInt ≤ 20000 := pre0; have t3 : t1_0.toInt ≤ 450000 := pre1; have t4 : y51.toInt ≤ t3_0.toInt + 20000 := b54; have t5 : y60.toInt ≤ y51.toInt + t1_0.toInt := b63; omega)), (show y60.toInt ≤ t1_0.toInt + 340000 from (by have t1 : t3_0.toInt ≤ 20000 := pre0; have t2 : y51.toInt ≤ t3_0.toInt + 20000 := b54; have t3 : y60.toInt ≤ y51.toInt + t1_0.toInt := b63; omega)), (show t3_0.toInt ≤ y60.toInt from (by have t1 : t3_0.toInt ≤ y51.toInt := b53; have t2 : y51.toInt ≤ y60.toInt := b61; omega)), (show y60.toInt ≤ t3_0.toInt + 770000 from (by have t1 : t1_0.toInt ≤ 450000 := pre1; have t2 : y51.toInt ≤ t3_0.toInt + 20000 := b54; have t3 : y60.toInt ≤ y51.toInt + t1_0.toInt := b63; omega))⟩) d_9_15_158
      ·
        have b74 : q_F (a68.toInt ≠ 0) := (q_neI c72)
        refine lv_aload_n hx hb d_9_15_153 rfl (lv_at hl 3 rfl) ?_
        refine lv_iload_n hx hb d_9_15_154 rfl (lv_at hl 1 rfl) ?_
        refine q_gov V (q_runS (As := [.ref (q 3), .int t3_0]) (rest := []) (d := 3) (mc := 0) (ms := 0) C0 V rfl LS_Pri_239 (T_Pri_enlarge l D g q u57 3 11008 1376 1000000 (n_h3 g q) t3_0 hI y60 hO59  _) rfl hl.1 rfl (Nat.le_of_ble_eq_true rfl) ⟨by decide, by decide⟩ ⟨Nat.le_of_ble_eq_true rfl, Nat.le_of_ble_eq_true rfl⟩ d_9_15_155) (fun u75 H locs hp76 V => ?_)
        obtain ⟨hI, hu78, -⟩ := hp76
        replace hT0 := (hu78 _ (by decide)).trans hT0
        replace hT1 := (hu78 _ (by decide)).trans hT1
        replace hT2 := (hu78 _ (by decide)).trans hT2
        replace hO59 := (hu78 _ (by decide)).trans hO59
        replace hF := q_uc hF hu78 (by simp)
        exact q_retv C0 V (⟨hI, hF, y60, hO59, (show y60.toInt ≤ t0_1.toInt + 490001 from (by have t1 : -1 ≤ t0_1.toInt ∧ t0_1.toInt ≤ 1000000 := btt0_1; have t2 : t3_0.toInt ≤ 20000 := pre0; have t3 : t1_0.toInt ≤ 450000 := pre1; have t4 : y51.toInt ≤ t3_0.toInt + 20000 := b54; have t5 : y60.toInt ≤ y51.toInt + t1_0.toInt := b63; omega)), (show y60.toInt ≤ t1_0.toInt + 340000 from (by have t1 : t3_0.toInt ≤ 20000 := pre0; have t2 : y51.toInt ≤ t3_0.toInt + 20000 := b54; have t3 : y60.toInt ≤ y51.toInt + t1_0.toInt := b63; omega)), (show t3_0.toInt ≤ y60.toInt from (by have t1 : t3_0.toInt ≤ y51.toInt := b53; have t2 : y51.toInt ≤ y60.toInt := b61; omega)), (show y60.toInt ≤ t3_0.toInt + 770000 from (by have t1 : t1_0.toInt ≤ 450000 := pre1; have t2 : y51.toInt ≤ t3_0.toInt + 20000 := b54; have t3 : y60.toInt ≤ y51.toInt + t1_0.toInt := b63; omega))⟩) d_9_15_158
    ·
      have b79 : q_F (a42.toInt ≠ 0) := (q_neI c46)
      refine lv_aload_n hx hb d_9_15_94 rfl (lv_at hl 3 rfl) ?_
      refine lv_aload_n hx hb d_9_15_95 rfl (lv_at hl 2 rfl) ?_
      refine q_get (ci := 11) (j := 8) (v := .ref (q 45)) C0 V i_Pri rfl rfl hT0 (by decide) w_393 rfl d_9_15_96 ?_
      refine lv_iconst (v := 0) hx hb d_9_15_99 (by decide) ?_
      refine lv_aload_n hx hb d_9_15_100 rfl (lv_at hl 2 rfl) ?_
      refine q_get (ci := 11) (j := 8) (v := .ref (q 45)) C0 V i_Pri rfl rfl hT0 (by decide) w_393 rfl d_9_15_101 ?_
      refine q_get (ci := 1) (j := 2) (v := .int t1_0) C0 V i_She rfl rfl hT1 (by decide) w_58 rfl d_9_15_104 ?_
      refine q_gov V (q_runS (As := [.ref (q 3), .ref (q 45), .int 0, .int t1_0]) (rest := []) (d := 2) (mc := 0) (ms := 0) C0 V rfl LS_Pri_76 (T_Pri_copyInto l D g q ws 3 11008 1376 1000000 (n_h3 g q) 45 4104 513 1000000 (n_h45 g q) 0 t1_0 hI t3_0 hT3 (by have y0 : (11008 : Int32).toInt = 11008 := rfl; have y1 : (1376 : Int32).toInt = 1376 := rfl; have y2 : (1000000 : Int32).toInt = 1000000 := rfl; have y3 : (4104 : Int32).toInt = 4104 := rfl; have y4 : (513 : Int32).toInt = 513 := rfl; have y5 : (1000000 : Int32).toInt = 1000000 := rfl; have y6 : (0 : Int32).toInt = 0 := rfl; omega) (by have y0 : (11008 : Int32).toInt = 11008 := rfl; have y1 : (1376 : Int32).toInt = 1376 := rfl; have y2 : (1000000 : Int32).toInt = 1000000 := rfl; have y3 : (4104 : Int32).toInt = 4104 := rfl; have y4 : (513 : Int32).toInt = 513 := rfl; have y5 : (1000000 : Int32).toInt = 1000000 := rfl; have y6 : (0 : Int32).toInt = 0 := rfl; have t1 : 0 ≤ t1_0.toInt ∧ t1_0.toInt ≤ 1000000 := btt1_0; omega) (by have y0 : (11008 : Int32).toInt = 11008 := rfl; have y1 : (1376 : Int32).toInt = 1376 := rfl; have y2 : (1000000 : Int32).toInt = 1000000 := rfl; have y3 : (4104 : Int32).toInt = 4104 := rfl; have y4 : (513 : Int32).toInt = 513 := rfl; have y5 : (1000000 : Int32).toInt = 1000000 := rfl; have y6 : (0 : Int32).toInt = 0 := rfl; have t1 : t3_0.toInt ≤ 20000 := pre0; have t2 : t1_0.toInt ≤ 450000 := pre1; omega) _) rfl hl.1 rfl (Nat.le_of_ble_eq_true rfl) ⟨by decide, by decide⟩ ⟨Nat.le_of_ble_eq_true rfl, Nat.le_of_ble_eq_true rfl⟩ d_9_15_107) (fun u80 H locs hp81 V => ?_)
      obtain ⟨hI, hu88, y83, hO82, b84, b85, b86⟩ := hp81
      replace hO82 : u80[3]? = (some (q 3, .inr (1, [.ref (q 4), .int 11008, .int y83])) : Option (Nat × va_E)) := hO82
      replace b84 : q_F (t3_0.toInt ≤ y83.toInt) := b84
      replace b85 : q_F (y83.toInt ≤ 1000000) := b85
      replace b86 : q_F (y83.toInt ≤ t3_0.toInt + t1_0.toInt) := b86
      replace hT0 := (hu88 _ (by decide)).trans hT0
      replace hT1 := (hu88 _ (by decide)).trans hT1
      replace hT2 := (hu88 _ (by decide)).trans hT2
      replace hF := q_uc hF hu88 (by simp)
      refine lv_aload_n hx hb d_9_15_110 rfl (lv_at hl 3 rfl) ?_
      refine lv_bipush (v := 32) hx hb d_9_15_111 (by decide) ?_
      refine lv_iload_n hx hb d_9_15_113 rfl (lv_at hl 0 rfl) ?_
      refine q_gov V (q_runV (As := [.int 32, .int a26]) (rest := []) (d := 2) (mc := 0) (ms := 0) (ci := 1) C0 V rfl LV_Pri_236 (T_She_addTimes l D g q u80 3 11008 1376 1000000 (n_h3 g q) 32 a26 hI y83 hO82 (by have y0 : (11008 : Int32).toInt = 11008 := rfl; have y1 : (1376 : Int32).toInt = 1376 := rfl; have y2 : (1000000 : Int32).toInt = 1000000 := rfl; have y3 : (32 : Int32).toInt = 32 := rfl; have t1 : t3_0.toInt ≤ 20000 := pre0; have t2 : t1_0.toInt ≤ 450000 := pre1; have t3 : y83.toInt ≤ t3_0.toInt + t1_0.toInt := b86; omega) (by have y0 : (11008 : Int32).toInt = 11008 := rfl; have y1 : (1376 : Int32).toInt = 1376 := rfl; have y2 : (1000000 : Int32).toInt = 1000000 := rfl; have y3 : (32 : Int32).toInt = 32 := rfl; have t1 : 0 ≤ t1_0.toInt ∧ t1_0.toInt ≤ 1000000 := btt1_0; have t2 : -1 ≤ t2_2.toInt ∧ t2_2.toInt ≤ 9999 := btt2_2; have t3 : a26.toInt = t2_2.toInt - t1_0.toInt := b28; omega) _) rfl rfl hO82 rfl hl.1 rfl (Nat.le_of_ble_eq_true rfl) ⟨by decide, by decide⟩ ⟨Nat.le_of_ble_eq_true rfl, Nat.le_of_ble_eq_true rfl⟩ d_9_15_114) (fun u89 H locs hp90 V => ?_)
      obtain ⟨hI, hu97, y92, hO91, b93, b94, b95⟩ := hp90
      replace hO91 : u89[3]? = (some (q 3, .inr (1, [.ref (q 4), .int 11008, .int y92])) : Option (Nat × va_E)) := hO91
      replace b93 : q_F (a26.toInt ≤ y92.toInt) := b93
      replace b94 : q_F (y83.toInt ≤ y92.toInt) := b94
      replace b95 : q_F (y92.toInt ≤ y83.toInt + 20000) := b95
      replace hT0 := (hu97 _ (by decide)).trans hT0
      replace hT1 := (hu97 _ (by decide)).trans hT1
      replace hT2 := (hu97 _ (by decide)).trans hT2
      replace hF := q_uc hF hu97 (by simp)
      refine lv_goto (tgt := 143) hx hb d_9_15_117 (by decide) ?_
      refine lv_aload_n hx hb d_9_15_143 rfl (lv_at hl 2 rfl) ?_
      refine q_get (ci := 11) (j := 6) (v := .ref (q 47)) C0 V i_Pri rfl rfl hT0 (by decide) w_391 rfl d_9_15_144 ?_
      refine q_goi V (q_runV (As := []) (rest := []) (d := 1) (mc := 0) (ms := 0) (ci := 10) C0 V rfl LV_Pri_222 (T_Dir_isLarge l D g q u89   hI   _) rfl rfl hT2 rfl hl.1 rfl (Nat.le_of_ble_eq_true rfl) ⟨by decide, by decide⟩ ⟨Nat.le_of_ble_eq_true rfl, Nat.le_of_ble_eq_true rfl⟩ d_9_15_147) (fun a100 u98 H locs hp99 V => ?_)
      obtain ⟨rfl, b101, b102⟩ := hp99
      replace b101 : q_F (0 ≤ a100.toInt) := b101
      replace b102 : q_F (a100.toInt ≤ 1) := b102
      refine lv_if_eq (tgt := 158) hx hb d_9_15_150 (by decide) (fun c104 => ?_) (fun c104 => ?_)
      ·
        have b105 : q_F (a100.toInt = 0) := (q_eqI c104)
        exact q_retv C0 V (⟨hI, hF, y92, hO91, (show y92.toInt ≤ t0_1.toInt + 490001 from (by have t1 : -1 ≤ t0_1.toInt ∧ t0_1.toInt ≤ 1000000 := btt0_1; have t2 : t3_0.toInt ≤ 20000 := pre0; have t3 : t1_0.toInt ≤ 450000 := pre1; have t4 : y83.toInt ≤ t3_0.toInt + t1_0.toInt := b86; have t5 : y92.toInt ≤ y83.toInt + 20000 := b95; omega)), (show y92.toInt ≤ t1_0.toInt + 340000 from (by have t1 : t3_0.toInt ≤ 20000 := pre0; have t2 : y83.toInt ≤ t3_0.toInt + t1_0.toInt := b86; have t3 : y92.toInt ≤ y83.toInt + 20000 := b95; omega)), (show t3_0.toInt ≤ y92.toInt from (by have t1 : t3_0.toInt ≤ y83.toInt := b84; have t2 : y83.toInt ≤ y92.toInt := b94; omega)), (show y92.toInt ≤ t3_0.toInt + 770000 from (by have t1 : t1_0.toInt ≤ 450000 := pre1; have t2 : y83.toInt ≤ t3_0.toInt + t1_0.toInt := b86; have t3 : y92.toInt ≤ y83.toInt + 20000 := b95; omega))⟩) d_9_15_158
      ·
        have b106 : q_F (a100.toInt ≠ 0) := (q_neI c104)
        refine lv_aload_n hx hb d_9_15_153 rfl (lv_at hl 3 rfl) ?_
        refine lv_iload_n hx hb d_9_15_154 rfl (lv_at hl 1 rfl) ?_
        refine q_gov V (q_runS (As := [.ref (q 3), .int t3_0]) (rest := []) (d := 3) (mc := 0) (ms := 0) C0 V rfl LS_Pri_239 (T_Pri_enlarge l D g q u89 3 11008 1376 1000000 (n_h3 g q) t3_0 hI y92 hO91  _) rfl hl.1 rfl (Nat.le_of_ble_eq_true rfl) ⟨by decide, by decide⟩ ⟨Nat.le_of_ble_eq_true rfl, Nat.le_of_ble_eq_true rfl⟩ d_9_15_155) (fun u107 H locs hp108 V => ?_)
        obtain ⟨hI, hu110, -⟩ := hp108
        replace hT0 := (hu110 _ (by decide)).trans hT0
        replace hT1 := (hu110 _ (by decide)).trans hT1
        replace hT2 := (hu110 _ (by decide)).trans hT2
        replace hO91 := (hu110 _ (by decide)).trans hO91
        replace hF := q_uc hF hu110 (by simp)
        exact q_retv C0 V (⟨hI, hF, y92, hO91, (show y92.toInt ≤ t0_1.toInt + 490001 from (by have t1 : -1 ≤ t0_1.toInt ∧ t0_1.toInt ≤ 1000000 := btt0_1; have t2 : t3_0.toInt ≤ 20000 := pre0; have t3 : t1_0.toInt ≤ 450000 := pre1; have t4 : y83.toInt ≤ t3_0.toInt + t1_0.toInt := b86; have t5 : y92.toInt ≤ y83.toInt + 20000 := b95; omega)), (show y92.toInt ≤ t1_0.toInt + 340000 from (by have t1 : t3_0.toInt ≤ 20000 := pre0; have t2 : y83.toInt ≤ t3_0.toInt + t1_0.toInt := b86; have t3 : y92.toInt ≤ y83.toInt + 20000 := b95; omega)), (show t3_0.toInt ≤ y92.toInt from (by have t1 : t3_0.toInt ≤ y83.toInt := b84; have t2 : y83.toInt ≤ y92.toInt := b94; omega)), (show y92.toInt ≤ t3_0.toInt + 770000 from (by have t1 : t1_0.toInt ≤ 450000 := pre1; have t2 : y83.toInt ≤ t3_0.toInt + t1_0.toInt := b86; have t3 : y92.toInt ≤ y83.toInt + 20000 := b95; omega))⟩) d_9_15_158
  ·
    intro J39
    refine lv_if_eq (tgt := 83) hx hb d_9_15_30 (by decide) (fun c111 => ?_) (fun c111 => ?_)
    ·
      have b112 : q_F (a31.toInt = 0) := (q_eqI c111)
      exact J39 (()) _ _ _ ws ⟨V, q_lw hl (q_lw1 0 rfl (q_lw1 1 rfl (q_lw1 2 rfl (q_lw1 3 rfl q_lw0))))⟩
    ·
      have b113 : q_F (a31.toInt ≠ 0) := (q_neI c111)
      refine lv_aload_n hx hb d_9_15_33 rfl (lv_at hl 2 rfl) ?_
      refine q_get (ci := 11) (j := 9) (v := .int t0_1) C0 V i_Pri rfl rfl hT0 (by decide) w_394 rfl d_9_15_34 ?_
      refine lv_iconst (v := (-1)) hx hb d_9_15_37 (by decide) ?_
      refine lv_icmp_eq (tgt := 83) hx hb d_9_15_38 (by decide) (fun c114 => ?_) (fun c114 => ?_)
      ·
        have b115 : q_F (t0_1.toInt = (-1)) := (q_eqI c114)
        exact J39 (()) _ _ _ ws ⟨V, q_lw hl (q_lw1 0 rfl (q_lw1 1 rfl (q_lw1 2 rfl (q_lw1 3 rfl q_lw0))))⟩
      ·
        have b116 : q_F (t0_1.toInt ≠ (-1)) := (q_neI c114)
        refine lv_aload_n hx hb d_9_15_41 rfl (lv_at hl 3 rfl) ?_
        refine lv_aload_n hx hb d_9_15_42 rfl (lv_at hl 2 rfl) ?_
        refine q_get (ci := 11) (j := 8) (v := .ref (q 45)) C0 V i_Pri rfl rfl hT0 (by decide) w_393 rfl d_9_15_43 ?_
        refine lv_iconst (v := 0) hx hb d_9_15_46 (by decide) ?_
        refine lv_aload_n hx hb d_9_15_47 rfl (lv_at hl 2 rfl) ?_
        refine q_get (ci := 11) (j := 9) (v := .int t0_1) C0 V i_Pri rfl rfl hT0 (by decide) w_394 rfl d_9_15_48 ?_
        refine q_gov V (q_runS (As := [.ref (q 3), .ref (q 45), .int 0, .int t0_1]) (rest := []) (d := 2) (mc := 0) (ms := 0) C0 V rfl LS_Pri_76 (T_Pri_copyInto l D g q ws 3 11008 1376 1000000 (n_h3 g q) 45 4104 513 1000000 (n_h45 g q) 0 t0_1 hI t3_0 hT3 (by have y0 : (11008 : Int32).toInt = 11008 := rfl; have y1 : (1376 : Int32).toInt = 1376 := rfl; have y2 : (1000000 : Int32).toInt = 1000000 := rfl; have y3 : (4104 : Int32).toInt = 4104 := rfl; have y4 : (513 : Int32).toInt = 513 := rfl; have y5 : (1000000 : Int32).toInt = 1000000 := rfl; have y6 : (0 : Int32).toInt = 0 := rfl; omega) (by have y0 : (11008 : Int32).toInt = 11008 := rfl; have y1 : (1376 : Int32).toInt = 1376 := rfl; have y2 : (1000000 : Int32).toInt = 1000000 := rfl; have y3 : (4104 : Int32).toInt = 4104 := rfl; have y4 : (513 : Int32).toInt = 513 := rfl; have y5 : (1000000 : Int32).toInt = 1000000 := rfl; have y6 : (0 : Int32).toInt = 0 := rfl; have t1 : -1 ≤ t0_1.toInt ∧ t0_1.toInt ≤ 1000000 := btt0_1; have t2 : t0_1.toInt ≠ (-1) := b116; omega) (by have y0 : (11008 : Int32).toInt = 11008 := rfl; have y1 : (1376 : Int32).toInt = 1376 := rfl; have y2 : (1000000 : Int32).toInt = 1000000 := rfl; have y3 : (4104 : Int32).toInt = 4104 := rfl; have y4 : (513 : Int32).toInt = 513 := rfl; have y5 : (1000000 : Int32).toInt = 1000000 := rfl; have y6 : (0 : Int32).toInt = 0 := rfl; have t1 : t3_0.toInt ≤ 20000 := pre0; have t2 : t0_1.toInt ≤ 300000 := pre2; omega) _) rfl hl.1 rfl (Nat.le_of_ble_eq_true rfl) ⟨by decide, by decide⟩ ⟨Nat.le_of_ble_eq_true rfl, Nat.le_of_ble_eq_true rfl⟩ d_9_15_51) (fun u117 H locs hp118 V => ?_)
        obtain ⟨hI, hu125, y120, hO119, b121, b122, b123⟩ := hp118
        replace hO119 : u117[3]? = (some (q 3, .inr (1, [.ref (q 4), .int 11008, .int y120])) : Option (Nat × va_E)) := hO119
        replace b121 : q_F (t3_0.toInt ≤ y120.toInt) := b121
        replace b122 : q_F (y120.toInt ≤ 1000000) := b122
        replace b123 : q_F (y120.toInt ≤ t3_0.toInt + t0_1.toInt) := b123
        replace hT0 := (hu125 _ (by decide)).trans hT0
        replace hT1 := (hu125 _ (by decide)).trans hT1
        replace hT2 := (hu125 _ (by decide)).trans hT2
        replace hF := q_uc hF hu125 (by simp)
        refine lv_aload_n hx hb d_9_15_54 rfl (lv_at hl 3 rfl) ?_
        refine lv_bipush (v := 48) hx hb d_9_15_55 (by decide) ?_
        refine lv_iload_n hx hb d_9_15_57 rfl (lv_at hl 0 rfl) ?_
        refine q_gov V (q_runV (As := [.int 48, .int a26]) (rest := []) (d := 2) (mc := 0) (ms := 0) (ci := 1) C0 V rfl LV_Pri_236 (T_She_addTimes l D g q u117 3 11008 1376 1000000 (n_h3 g q) 48 a26 hI y120 hO119 (by have y0 : (11008 : Int32).toInt = 11008 := rfl; have y1 : (1376 : Int32).toInt = 1376 := rfl; have y2 : (1000000 : Int32).toInt = 1000000 := rfl; have y3 : (48 : Int32).toInt = 48 := rfl; have t1 : t3_0.toInt ≤ 20000 := pre0; have t2 : t0_1.toInt ≤ 300000 := pre2; have t3 : y120.toInt ≤ t3_0.toInt + t0_1.toInt := b123; omega) (by have y0 : (11008 : Int32).toInt = 11008 := rfl; have y1 : (1376 : Int32).toInt = 1376 := rfl; have y2 : (1000000 : Int32).toInt = 1000000 := rfl; have y3 : (48 : Int32).toInt = 48 := rfl; have t1 : 0 ≤ t1_0.toInt ∧ t1_0.toInt ≤ 1000000 := btt1_0; have t2 : -1 ≤ t2_2.toInt ∧ t2_2.toInt ≤ 9999 := btt2_2; have t3 : a26.toInt = t2_2.toInt - t1_0.toInt := b28; omega) _) rfl rfl hO119 rfl hl.1 rfl (Nat.le_of_ble_eq_true rfl) ⟨by decide, by decide⟩ ⟨Nat.le_of_ble_eq_true rfl, Nat.le_of_ble_eq_true rfl⟩ d_9_15_58) (fun u126 H locs hp127 V => ?_)
        obtain ⟨hI, hu134, y129, hO128, b130, b131, b132⟩ := hp127
        replace hO128 : u126[3]? = (some (q 3, .inr (1, [.ref (q 4), .int 11008, .int y129])) : Option (Nat × va_E)) := hO128
        replace b130 : q_F (a26.toInt ≤ y129.toInt) := b130
        replace b131 : q_F (y120.toInt ≤ y129.toInt) := b131
        replace b132 : q_F (y129.toInt ≤ y120.toInt + 20000) := b132
        replace hT0 := (hu134 _ (by decide)).trans hT0
        replace hT1 := (hu134 _ (by decide)).trans hT1
        replace hT2 := (hu134 _ (by decide)).trans hT2
        replace hF := q_uc hF hu134 (by simp)
        refine lv_aload_n hx hb d_9_15_61 rfl (lv_at hl 3 rfl) ?_
        refine lv_aload_n hx hb d_9_15_62 rfl (lv_at hl 2 rfl) ?_
        refine q_get (ci := 11) (j := 8) (v := .ref (q 45)) C0 V i_Pri rfl rfl hT0 (by decide) w_393 rfl d_9_15_63 ?_
        refine lv_aload_n hx hb d_9_15_66 rfl (lv_at hl 2 rfl) ?_
        refine q_get (ci := 11) (j := 9) (v := .int t0_1) C0 V i_Pri rfl rfl hT0 (by decide) w_394 rfl d_9_15_67 ?_
        refine lv_aload_n hx hb d_9_15_70 rfl (lv_at hl 2 rfl) ?_
        refine q_get (ci := 11) (j := 8) (v := .ref (q 45)) C0 V i_Pri rfl rfl hT0 (by decide) w_393 rfl d_9_15_71 ?_
        refine q_get (ci := 1) (j := 2) (v := .int t1_0) C0 V i_She rfl rfl hT1 (by decide) w_58 rfl d_9_15_74 ?_
        refine q_gov V (q_runS (As := [.ref (q 3), .ref (q 45), .int t0_1, .int t1_0]) (rest := []) (d := 2) (mc := 0) (ms := 0) C0 V rfl LS_Pri_76 (T_Pri_copyInto l D g q u126 3 11008 1376 1000000 (n_h3 g q) 45 4104 513 1000000 (n_h45 g q) t0_1 t1_0 hI y129 hO128 (by have y0 : (11008 : Int32).toInt = 11008 := rfl; have y1 : (1376 : Int32).toInt = 1376 := rfl; have y2 : (1000000 : Int32).toInt = 1000000 := rfl; have y3 : (4104 : Int32).toInt = 4104 := rfl; have y4 : (513 : Int32).toInt = 513 := rfl; have y5 : (1000000 : Int32).toInt = 1000000 := rfl; have t1 : -1 ≤ t0_1.toInt ∧ t0_1.toInt ≤ 1000000 := btt0_1; have t2 : t0_1.toInt ≠ (-1) := b116; omega) (by have y0 : (11008 : Int32).toInt = 11008 := rfl; have y1 : (1376 : Int32).toInt = 1376 := rfl; have y2 : (1000000 : Int32).toInt = 1000000 := rfl; have y3 : (4104 : Int32).toInt = 4104 := rfl; have y4 : (513 : Int32).toInt = 513 := rfl; have y5 : (1000000 : Int32).toInt = 1000000 := rfl; have t1 : 0 ≤ t1_0.toInt ∧ t1_0.toInt ≤ 1000000 := btt1_0; omega) (by have y0 : (11008 : Int32).toInt = 11008 := rfl; have y1 : (1376 : Int32).toInt = 1376 := rfl; have y2 : (1000000 : Int32).toInt = 1000000 := rfl; have y3 : (4104 : Int32).toInt = 4104 := rfl; have y4 : (513 : Int32).toInt = 513 := rfl; have y5 : (1000000 : Int32).toInt = 1000000 := rfl; have t1 : t3_0.toInt ≤ 20000 := pre0; have t2 : t1_0.toInt ≤ 450000 := pre1; have t3 : y120.toInt ≤ t3_0.toInt + t0_1.toInt := b123; have t4 : y129.toInt ≤ y120.toInt + 20000 := b132; omega) _) rfl hl.1 rfl (Nat.le_of_ble_eq_true rfl) ⟨by decide, by decide⟩ ⟨Nat.le_of_ble_eq_true rfl, Nat.le_of_ble_eq_true rfl⟩ d_9_15_77) (fun u135 H locs hp136 V => ?_)
        obtain ⟨hI, hu143, y138, hO137, b139, b140, b141⟩ := hp136
        replace hO137 : u135[3]? = (some (q 3, .inr (1, [.ref (q 4), .int 11008, .int y138])) : Option (Nat × va_E)) := hO137
        replace b139 : q_F (y129.toInt ≤ y138.toInt) := b139
        replace b140 : q_F (y138.toInt ≤ 1000000) := b140
        replace b141 : q_F (y138.toInt ≤ y129.toInt + t1_0.toInt) := b141
        replace hT0 := (hu143 _ (by decide)).trans hT0
        replace hT1 := (hu143 _ (by decide)).trans hT1
        replace hT2 := (hu143 _ (by decide)).trans hT2
        replace hF := q_uc hF hu143 (by simp)
        refine lv_goto (tgt := 143) hx hb d_9_15_80 (by decide) ?_
        refine lv_aload_n hx hb d_9_15_143 rfl (lv_at hl 2 rfl) ?_
        refine q_get (ci := 11) (j := 6) (v := .ref (q 47)) C0 V i_Pri rfl rfl hT0 (by decide) w_391 rfl d_9_15_144 ?_
        refine q_goi V (q_runV (As := []) (rest := []) (d := 1) (mc := 0) (ms := 0) (ci := 10) C0 V rfl LV_Pri_222 (T_Dir_isLarge l D g q u135   hI   _) rfl rfl hT2 rfl hl.1 rfl (Nat.le_of_ble_eq_true rfl) ⟨by decide, by decide⟩ ⟨Nat.le_of_ble_eq_true rfl, Nat.le_of_ble_eq_true rfl⟩ d_9_15_147) (fun a146 u144 H locs hp145 V => ?_)
        obtain ⟨rfl, b147, b148⟩ := hp145
        replace b147 : q_F (0 ≤ a146.toInt) := b147
        replace b148 : q_F (a146.toInt ≤ 1) := b148
        refine lv_if_eq (tgt := 158) hx hb d_9_15_150 (by decide) (fun c150 => ?_) (fun c150 => ?_)
        ·
          have b151 : q_F (a146.toInt = 0) := (q_eqI c150)
          exact q_retv C0 V (⟨hI, hF, y138, hO137, (show y138.toInt ≤ t0_1.toInt + 490001 from (by have t1 : t3_0.toInt ≤ 20000 := pre0; have t2 : t1_0.toInt ≤ 450000 := pre1; have t3 : y120.toInt ≤ t3_0.toInt + t0_1.toInt := b123; have t4 : y129.toInt ≤ y120.toInt + 20000 := b132; have t5 : y138.toInt ≤ y129.toInt + t1_0.toInt := b141; omega)), (show y138.toInt ≤ t1_0.toInt + 340000 from (by have t1 : t3_0.toInt ≤ 20000 := pre0; have t2 : t0_1.toInt ≤ 300000 := pre2; have t3 : y120.toInt ≤ t3_0.toInt + t0_1.toInt := b123; have t4 : y129.toInt ≤ y120.toInt + 20000 := b132; have t5 : y138.toInt ≤ y129.toInt + t1_0.toInt := b141; omega)), (show t3_0.toInt ≤ y138.toInt from (by have t1 : t3_0.toInt ≤ y120.toInt := b121; have t2 : y120.toInt ≤ y129.toInt := b131; have t3 : y129.toInt ≤ y138.toInt := b139; omega)), (show y138.toInt ≤ t3_0.toInt + 770000 from (by have t1 : t1_0.toInt ≤ 450000 := pre1; have t2 : t0_1.toInt ≤ 300000 := pre2; have t3 : y120.toInt ≤ t3_0.toInt + t0_1.toInt := b123; have t4 : y129.toInt ≤ y120.toInt + 20000 := b132; have t5 : y138.toInt ≤ y129.toInt + t1_0.toInt := b141; omega))⟩) d_9_15_158
        ·
          have b152 : q_F (a146.toInt ≠ 0) := (q_neI c150)
          refine lv_aload_n hx hb d_9_15_153 rfl (lv_at hl 3 rfl) ?_
          refine lv_iload_n hx hb d_9_15_154 rfl (lv_at hl 1 rfl) ?_
          refine q_gov V (q_runS (As := [.ref (q 3), .int t3_0]) (rest := []) (d := 3) (mc := 0) (ms := 0) C0 V rfl LS_Pri_239 (T_Pri_enlarge l D g q u135 3 11008 1376 1000000 (n_h3 g q) t3_0 hI y138 hO137  _) rfl hl.1 rfl (Nat.le_of_ble_eq_true rfl) ⟨by decide, by decide⟩ ⟨Nat.le_of_ble_eq_true rfl, Nat.le_of_ble_eq_true rfl⟩ d_9_15_155) (fun u153 H locs hp154 V => ?_)
          obtain ⟨hI, hu156, -⟩ := hp154
          replace hT0 := (hu156 _ (by decide)).trans hT0
          replace hT1 := (hu156 _ (by decide)).trans hT1
          replace hT2 := (hu156 _ (by decide)).trans hT2
          replace hO137 := (hu156 _ (by decide)).trans hO137
          replace hF := q_uc hF hu156 (by simp)
          exact q_retv C0 V (⟨hI, hF, y138, hO137, (show y138.toInt ≤ t0_1.toInt + 490001 from (by have t1 : t3_0.toInt ≤ 20000 := pre0; have t2 : t1_0.toInt ≤ 450000 := pre1; have t3 : y120.toInt ≤ t3_0.toInt + t0_1.toInt := b123; have t4 : y129.toInt ≤ y120.toInt + 20000 := b132; have t5 : y138.toInt ≤ y129.toInt + t1_0.toInt := b141; omega)), (show y138.toInt ≤ t1_0.toInt + 340000 from (by have t1 : t3_0.toInt ≤ 20000 := pre0; have t2 : t0_1.toInt ≤ 300000 := pre2; have t3 : y120.toInt ≤ t3_0.toInt + t0_1.toInt := b123; have t4 : y129.toInt ≤ y120.toInt + 20000 := b132; have t5 : y138.toInt ≤ y129.toInt + t1_0.toInt := b141; omega)), (show t3_0.toInt ≤ y138.toInt from (by have t1 : t3_0.toInt ≤ y120.toInt := b121; have t2 : y120.toInt ≤ y129.toInt := b131; have t3 : y129.toInt ≤ y138.toInt := b139; omega)), (show y138.toInt ≤ t3_0.toInt + 770000 from (by have t1 : t1_0.toInt ≤ 450000 := pre1; have t2 : t0_1.toInt ≤ 300000 := pre2; have t3 : y120.toInt ≤ t3_0.toInt + t0_1.toInt := b123; have t4 : y129.toInt ≤ y120.toInt + 20000 := b132; have t5 : y138.toInt ≤ y129.toInt + t1_0.toInt := b141; omega))⟩) d_9_15_158
theorem d_9_5_0 : decode prog_9_method_5_code 0 = .ok (.aload_n 1, 1) := by decide +kernel
theorem d_9_5_1 : decode prog_9_method_5_code 1 = .ok (.invokevirtual 70, 3) := by decide +kernel
theorem d_9_5_4 : decode prog_9_method_5_code 4 = .ok (.aload_n 0, 1) := by decide +kernel
theorem d_9_5_5 : decode prog_9_method_5_code 5 = .ok (.iconst 0, 1) := by decide +kernel
theorem d_9_5_6 : decode prog_9_method_5_code 6 = .ok (.putfield 84, 3) := by decide +kernel
theorem d_9_5_9 : decode prog_9_method_5_code 9 = .ok (.aload_n 0, 1) := by decide +kernel
theorem d_9_5_10 : decode prog_9_method_5_code 10 = .ok (.iconst (-1), 1) := by decide +kernel
theorem d_9_5_11 : decode prog_9_method_5_code 11 = .ok (.putfield 87, 3) := by decide +kernel
theorem d_9_5_14 : decode prog_9_method_5_code 14 = .ok (.iconst 0, 1) := by decide +kernel
theorem d_9_5_15 : decode prog_9_method_5_code 15 = .ok (.istore_n 2, 1) := by decide +kernel
theorem d_9_5_16 : decode prog_9_method_5_code 16 = .ok (.iconst 0, 1) := by decide +kernel
theorem d_9_5_17 : decode prog_9_method_5_code 17 = .ok (.istore_n 3, 1) := by decide +kernel
theorem d_9_5_18 : decode prog_9_method_5_code 18 = .ok (.iload_n 3, 1) := by decide +kernel
theorem d_9_5_19 : decode prog_9_method_5_code 19 = .ok (.sipush 256, 3) := by decide +kernel
theorem d_9_5_22 : decode prog_9_method_5_code 22 = .ok (.if_icmp .gt 175, 3) := by decide +kernel
theorem d_9_5_197 : decode prog_9_method_5_code 197 = .ok (.aload_n 1, 1) := by decide +kernel
theorem d_9_5_198 : decode prog_9_method_5_code 198 = .ok (.getfield 73, 3) := by decide +kernel
theorem d_9_5_201 : decode prog_9_method_5_code 201 = .ok (.ireturn, 1) := by decide +kernel
theorem d_9_5_25 : decode prog_9_method_5_code 25 = .ok (.iload_n 2, 1) := by decide +kernel
theorem d_9_5_26 : decode prog_9_method_5_code 26 = .ok (.aload_n 0, 1) := by decide +kernel
theorem d_9_5_27 : decode prog_9_method_5_code 27 = .ok (.getfield 35, 3) := by decide +kernel
theorem d_9_5_30 : decode prog_9_method_5_code 30 = .ok (.getfield 73, 3) := by decide +kernel
theorem d_9_5_33 : decode prog_9_method_5_code 33 = .ok (.if_icmp .ge 164, 3) := by decide +kernel
theorem d_9_5_36 : decode prog_9_method_5_code 36 = .ok (.aload_n 0, 1) := by decide +kernel
theorem d_9_5_37 : decode prog_9_method_5_code 37 = .ok (.getfield 31, 3) := by decide +kernel
theorem d_9_5_40 : decode prog_9_method_5_code 40 = .ok (.invokevirtual 70, 3) := by decide +kernel
theorem d_9_5_43 : decode prog_9_method_5_code 43 = .ok (.aload_n 0, 1) := by decide +kernel
theorem d_9_5_44 : decode prog_9_method_5_code 44 = .ok (.iconst (-1), 1) := by decide +kernel
theorem d_9_5_45 : decode prog_9_method_5_code 45 = .ok (.putfield 90, 3) := by decide +kernel
theorem d_9_5_48 : decode prog_9_method_5_code 48 = .ok (.iload_n 2, 1) := by decide +kernel
theorem d_9_5_49 : decode prog_9_method_5_code 49 = .ok (.iconst 1, 1) := by decide +kernel
theorem d_9_5_50 : decode prog_9_method_5_code 50 = .ok (.iadd, 1) := by decide +kernel
theorem d_9_5_51 : decode prog_9_method_5_code 51 = .ok (.istore 4, 2) := by decide +kernel
theorem d_9_5_53 : decode prog_9_method_5_code 53 = .ok (.iconst 0, 1) := by decide +kernel
theorem d_9_5_54 : decode prog_9_method_5_code 54 = .ok (.istore 5, 2) := by decide +kernel
theorem d_9_5_56 : decode prog_9_method_5_code 56 = .ok (.aload_n 0, 1) := by decide +kernel
theorem d_9_5_57 : decode prog_9_method_5_code 57 = .ok (.getfield 35, 3) := by decide +kernel
theorem d_9_5_60 : decode prog_9_method_5_code 60 = .ok (.iload_n 2, 1) := by decide +kernel
theorem d_9_5_61 : decode prog_9_method_5_code 61 = .ok (.i2l, 1) := by decide +kernel
theorem d_9_5_62 : decode prog_9_method_5_code 62 = .ok (.invokevirtual 93, 3) := by decide +kernel
theorem d_9_5_65 : decode prog_9_method_5_code 65 = .ok (.bipush 37, 2) := by decide +kernel
theorem d_9_5_128 : decode prog_9_method_5_code 128 = .ok (.iload 5, 2) := by decide +kernel
theorem d_9_5_130 : decode prog_9_method_5_code 130 = .ok (.ifCond .ne 35, 3) := by decide +kernel
theorem d_9_5_165 : decode prog_9_method_5_code 165 = .ok (.iload 5, 2) := by decide +kernel
theorem d_9_5_167 : decode prog_9_method_5_code 167 = .ok (.ifCond .eq 16, 3) := by decide +kernel
theorem d_9_5_170 : decode prog_9_method_5_code 170 = .ok (.aload_n 1, 1) := by decide +kernel
theorem d_9_5_171 : decode prog_9_method_5_code 171 = .ok (.invokevirtual 70, 3) := by decide +kernel
theorem d_9_5_174 : decode prog_9_method_5_code 174 = .ok (.sipush (-1000), 3) := by decide +kernel
theorem d_9_5_177 : decode prog_9_method_5_code 177 = .ok (.iload 5, 2) := by decide +kernel
theorem d_9_5_179 : decode prog_9_method_5_code 179 = .ok (.imul, 1) := by decide +kernel
theorem d_9_5_180 : decode prog_9_method_5_code 180 = .ok (.iload_n 2, 1) := by decide +kernel
theorem d_9_5_181 : decode prog_9_method_5_code 181 = .ok (.isub, 1) := by decide +kernel
theorem d_9_5_182 : decode prog_9_method_5_code 182 = .ok (.ireturn, 1) := by decide +kernel
theorem d_9_5_133 : decode prog_9_method_5_code 133 = .ok (.aload_n 1, 1) := by decide +kernel
theorem d_9_5_134 : decode prog_9_method_5_code 134 = .ok (.getfield 73, 3) := by decide +kernel
theorem d_9_5_137 : decode prog_9_method_5_code 137 = .ok (.aload_n 0, 1) := by decide +kernel
theorem d_9_5_138 : decode prog_9_method_5_code 138 = .ok (.getfield 31, 3) := by decide +kernel
theorem d_9_5_141 : decode prog_9_method_5_code 141 = .ok (.getfield 73, 3) := by decide +kernel
theorem d_9_5_144 : decode prog_9_method_5_code 144 = .ok (.aload_n 0, 1) := by decide +kernel
theorem d_9_5_145 : decode prog_9_method_5_code 145 = .ok (.getfield 47, 3) := by decide +kernel
theorem d_9_5_148 : decode prog_9_method_5_code 148 = .ok (.getfield 116, 3) := by decide +kernel
theorem d_9_5_151 : decode prog_9_method_5_code 151 = .ok (.invokestatic 119, 3) := by decide +kernel
theorem d_9_5_154 : decode prog_9_method_5_code 154 = .ok (.iadd, 1) := by decide +kernel
theorem d_9_5_155 : decode prog_9_method_5_code 155 = .ok (.sipush 4096, 3) := by decide +kernel
theorem d_9_5_158 : decode prog_9_method_5_code 158 = .ok (.if_icmp .le 7, 3) := by decide +kernel
theorem d_9_5_183 : decode prog_9_method_5_code 183 = .ok (.aload_n 0, 1) := by decide +kernel
theorem d_9_5_184 : decode prog_9_method_5_code 184 = .ok (.aload_n 1, 1) := by decide +kernel
theorem d_9_5_185 : decode prog_9_method_5_code 185 = .ok (.invokevirtual 125, 3) := by decide +kernel
set_option maxRecDepth 100000 in
theorem w_1900 : (Cond.code ({ cls := "NumberHouse$Printer", name := "widen", desc := "(LNumberHouse$Sheet;)V" } : MethodName) prog_9_method_15_code (4 : Nat) (none : Option ClassFile.FieldType)) ∈ q_tbl := q_of8 220 rfl (by decide +kernel)
set_option maxRecDepth 100000 in
theorem w_1897 : (Cond.methodLink "NumberHouse$Printer" (125 : Nat) ({ cls := "NumberHouse$Printer", name := "widen", desc := "(LNumberHouse$Sheet;)V" } : MethodName)) ∈ q_tbl := q_of8 217 rfl (by decide +kernel)
set_option maxRecDepth 100000 in
theorem w_1899 : (Cond.instanceMethod ({ cls := "NumberHouse$Printer", name := "widen", desc := "(LNumberHouse$Sheet;)V" } : MethodName)) ∈ q_tbl := q_of8 219 rfl (by decide +kernel)
theorem ws_59 : Cond.selects "NumberHouse$Printer" (⟨"NumberHouse$Printer", "widen", "(LNumberHouse$Sheet;)V"⟩ : MethodName) (⟨"NumberHouse$Printer", "widen", "(LNumberHouse$Sheet;)V"⟩ : MethodName) ∈ q_tbl := q_ofs 59 (by decide +kernel) (by decide +kernel)
theorem LV_Pri_125 : q_LV "NumberHouse$Printer" 125 y_Pri_widen prog_9_method_15_code 4 none 1 := ⟨w_1900, w_12, w_1897, w_1899, ws_59, ⟨by decide, by decide, by decide +kernel⟩⟩
theorem d_9_5_188 : decode prog_9_method_5_code 188 = .ok (.iload 4, 2) := by decide +kernel
theorem d_9_5_190 : decode prog_9_method_5_code 190 = .ok (.istore_n 2, 1) := by decide +kernel
theorem d_9_5_191 : decode prog_9_method_5_code 191 = .ok (.iinc 3 1, 3) := by decide +kernel
theorem d_9_5_194 : decode prog_9_method_5_code 194 = .ok (.goto (-176), 3) := by decide +kernel
theorem d_9_5_161 : decode prog_9_method_5_code 161 = .ok (.bipush 12, 2) := by decide +kernel
theorem d_9_5_163 : decode prog_9_method_5_code 163 = .ok (.istore 5, 2) := by decide +kernel
theorem d_9_5_67 : decode prog_9_method_5_code 67 = .ok (.if_icmp .ne 38, 3) := by decide +kernel
theorem d_9_5_105 : decode prog_9_method_5_code 105 = .ok (.aload_n 0, 1) := by decide +kernel
theorem d_9_5_106 : decode prog_9_method_5_code 106 = .ok (.getfield 47, 3) := by decide +kernel
theorem d_9_5_109 : decode prog_9_method_5_code 109 = .ok (.invokevirtual 110, 3) := by decide +kernel
set_option maxRecDepth 100000 in
theorem w_1896 : (Cond.code ({ cls := "NumberHouse$Directive", name := "setPlain", desc := "()V" } : MethodName) prog_6_method_3_code (1 : Nat) (none : Option ClassFile.FieldType)) ∈ q_tbl := q_of8 216 rfl (by decide +kernel)
set_option maxRecDepth 100000 in
theorem w_1893 : (Cond.methodLink "NumberHouse$Printer" (110 : Nat) ({ cls := "NumberHouse$Directive", name := "setPlain", desc := "()V" } : MethodName)) ∈ q_tbl := q_of8 213 rfl (by decide +kernel)
set_option maxRecDepth 100000 in
theorem w_1894 : (Cond.instanceMethod ({ cls := "NumberHouse$Directive", name := "setPlain", desc := "()V" } : MethodName)) ∈ q_tbl := q_of8 214 rfl (by decide +kernel)
set_option maxRecDepth 100000 in
theorem w_1895 : (Cond.selects "NumberHouse$Directive" ({ cls := "NumberHouse$Directive", name := "setPlain", desc := "()V" } : MethodName) ({ cls := "NumberHouse$Directive", name := "setPlain", desc := "()V" } : MethodName)) ∈ q_tbl := q_of8 215 rfl (by decide +kernel)
theorem LV_Pri_110 : q_LV "NumberHouse$Printer" 110 y_Dir_setPlain prog_6_method_3_code 1 none 0 := ⟨w_1896, w_13, w_1893, w_1894, w_1895, ⟨by decide, by decide, by decide +kernel⟩⟩
theorem d_9_5_112 : decode prog_9_method_5_code 112 = .ok (.aload_n 0, 1) := by decide +kernel
theorem d_9_5_113 : decode prog_9_method_5_code 113 = .ok (.getfield 31, 3) := by decide +kernel
theorem d_9_5_116 : decode prog_9_method_5_code 116 = .ok (.aload_n 0, 1) := by decide +kernel
theorem d_9_5_117 : decode prog_9_method_5_code 117 = .ok (.getfield 35, 3) := by decide +kernel
theorem d_9_5_120 : decode prog_9_method_5_code 120 = .ok (.iload_n 2, 1) := by decide +kernel
theorem d_9_5_121 : decode prog_9_method_5_code 121 = .ok (.i2l, 1) := by decide +kernel
theorem d_9_5_122 : decode prog_9_method_5_code 122 = .ok (.invokevirtual 93, 3) := by decide +kernel
theorem d_9_5_125 : decode prog_9_method_5_code 125 = .ok (.invokevirtual 113, 3) := by decide +kernel
theorem d_9_5_70 : decode prog_9_method_5_code 70 = .ok (.aload_n 0, 1) := by decide +kernel
theorem d_9_5_71 : decode prog_9_method_5_code 71 = .ok (.getfield 47, 3) := by decide +kernel
theorem d_9_5_74 : decode prog_9_method_5_code 74 = .ok (.iload_n 2, 1) := by decide +kernel
theorem d_9_5_75 : decode prog_9_method_5_code 75 = .ok (.invokevirtual 97, 3) := by decide +kernel
set_option maxRecDepth 100000 in
theorem w_1738 : (Cond.code ({ cls := "NumberHouse$Directive", name := "parse", desc := "(I)V" } : MethodName) prog_6_method_2_code (2 : Nat) (none : Option ClassFile.FieldType)) ∈ q_tbl := q_of8 58 rfl (by decide +kernel)
set_option maxRecDepth 100000 in
theorem w_1735 : (Cond.methodLink "NumberHouse$Printer" (97 : Nat) ({ cls := "NumberHouse$Directive", name := "parse", desc := "(I)V" } : MethodName)) ∈ q_tbl := q_of8 55 rfl (by decide +kernel)
set_option maxRecDepth 100000 in
theorem w_1736 : (Cond.instanceMethod ({ cls := "NumberHouse$Directive", name := "parse", desc := "(I)V" } : MethodName)) ∈ q_tbl := q_of8 56 rfl (by decide +kernel)
set_option maxRecDepth 100000 in
theorem w_1737 : (Cond.selects "NumberHouse$Directive" ({ cls := "NumberHouse$Directive", name := "parse", desc := "(I)V" } : MethodName) ({ cls := "NumberHouse$Directive", name := "parse", desc := "(I)V" } : MethodName)) ∈ q_tbl := q_of8 57 rfl (by decide +kernel)
theorem LV_Pri_97 : q_LV "NumberHouse$Printer" 97 y_Dir_parse prog_6_method_2_code 2 none 1 := ⟨w_1738, w_13, w_1735, w_1736, w_1737, ⟨by decide, by decide, by decide +kernel⟩⟩
theorem d_9_5_78 : decode prog_9_method_5_code 78 = .ok (.aload_n 0, 1) := by decide +kernel
theorem d_9_5_79 : decode prog_9_method_5_code 79 = .ok (.getfield 47, 3) := by decide +kernel
theorem d_9_5_82 : decode prog_9_method_5_code 82 = .ok (.getfield 100, 3) := by decide +kernel
set_option maxRecDepth 100000 in
theorem w_364 : (Cond.fieldLink "NumberHouse$Printer" (100 : Nat) "NumberHouse$Directive" "place" "I") ∈ q_tbl := q_of2 124 rfl (by decide +kernel)
theorem d_9_5_85 : decode prog_9_method_5_code 85 = .ok (.istore 4, 2) := by decide +kernel
theorem d_9_5_87 : decode prog_9_method_5_code 87 = .ok (.aload_n 0, 1) := by decide +kernel
theorem d_9_5_88 : decode prog_9_method_5_code 88 = .ok (.invokevirtual 103, 3) := by decide +kernel
set_option maxRecDepth 100000 in
theorem w_1811 : (Cond.code ({ cls := "NumberHouse$Printer", name := "findFault", desc := "()I" } : MethodName) prog_9_method_6_code (3 : Nat) (some .int)) ∈ q_tbl := q_of8 131 rfl (by decide +kernel)
set_option maxRecDepth 100000 in
theorem w_1808 : (Cond.methodLink "NumberHouse$Printer" (103 : Nat) ({ cls := "NumberHouse$Printer", name := "findFault", desc := "()I" } : MethodName)) ∈ q_tbl := q_of8 128 rfl (by decide +kernel)
set_option maxRecDepth 100000 in
theorem w_1810 : (Cond.instanceMethod ({ cls := "NumberHouse$Printer", name := "findFault", desc := "()I" } : MethodName)) ∈ q_tbl := q_of8 130 rfl (by decide +kernel)
theorem ws_49 : Cond.selects "NumberHouse$Printer" (⟨"NumberHouse$Printer", "findFault", "()I"⟩ : MethodName) (⟨"NumberHouse$Printer", "findFault", "()I"⟩ : MethodName) ∈ q_tbl := q_ofs 49 (by decide +kernel) (by decide +kernel)
theorem LV_Pri_103 : q_LV "NumberHouse$Printer" 103 y_Pri_findFault prog_9_method_6_code 3 (some .int) 0 := ⟨w_1811, w_12, w_1808, w_1810, ws_49, ⟨by decide, by decide, by decide +kernel⟩⟩
theorem d_9_5_91 : decode prog_9_method_5_code 91 = .ok (.istore 5, 2) := by decide +kernel
theorem d_9_5_93 : decode prog_9_method_5_code 93 = .ok (.iload 5, 2) := by decide +kernel
theorem d_9_5_95 : decode prog_9_method_5_code 95 = .ok (.ifCond .ne 33, 3) := by decide +kernel
theorem d_9_5_98 : decode prog_9_method_5_code 98 = .ok (.aload_n 0, 1) := by decide +kernel
theorem d_9_5_99 : decode prog_9_method_5_code 99 = .ok (.invokevirtual 107, 3) := by decide +kernel
set_option maxRecDepth 100000 in
theorem w_1847 : (Cond.code ({ cls := "NumberHouse$Printer", name := "writeBody", desc := "()V" } : MethodName) prog_9_method_9_code (3 : Nat) (none : Option ClassFile.FieldType)) ∈ q_tbl := q_of8 167 rfl (by decide +kernel)
set_option maxRecDepth 100000 in
theorem w_1844 : (Cond.methodLink "NumberHouse$Printer" (107 : Nat) ({ cls := "NumberHouse$Printer", name := "writeBody", desc := "()V" } : MethodName)) ∈ q_tbl := q_of8 164 rfl (by decide +kernel)
set_option maxRecDepth 100000 in
theorem w_1846 : (Cond.instanceMethod ({ cls := "NumberHouse$Printer", name := "writeBody", desc := "()V" } : MethodName)) ∈ q_tbl := q_of8 166 rfl (by decide +kernel)
theorem ws_53 : Cond.selects "NumberHouse$Printer" (⟨"NumberHouse$Printer", "writeBody", "()V"⟩ : MethodName) (⟨"NumberHouse$Printer", "writeBody", "()V"⟩ : MethodName) ∈ q_tbl := q_ofs 53 (by decide +kernel) (by decide +kernel)
theorem LV_Pri_107 : q_LV "NumberHouse$Printer" 107 y_Pri_writeBody prog_9_method_9_code 3 none 0 := ⟨w_1847, w_12, w_1844, w_1846, ws_53, ⟨by decide, by decide, by decide +kernel⟩⟩
theorem d_9_5_102 : decode prog_9_method_5_code 102 = .ok (.goto 26, 3) := by decide +kernel
def y_Pri_run : MethodName := ⟨"NumberHouse$Printer", "run", "(LNumberHouse$Sheet;)I"⟩
set_option maxRecDepth 100000 in
set_option maxHeartbeats 4000000 in
theorem T_Pri_run (l : Launch) (D : va_G) (g : Nat → ClassId) (q : Nat → Nat) (ws : va_W) (hI : q_I (nsh g q) q ws) (t0_0 : Int32) (hT0 : ws[1]? = (some (q 1, .inr (1, [.ref (q 2), .int 4100, .int t0_0])) : Option (Nat × va_E))) (t1_0 : Int32) (hT1 : ws[3]? = (some (q 3, .inr (1, [.ref (q 4), .int 11008, .int t1_0])) : Option (Nat × va_E))) (t2_0 : Int32) (t2_1 : Int32) (t2_2 : Int32) (t2_3 : Int32) (hT2 : ws[40]? = (some (q 40, .inr (11, [.int t2_0, .ref (q 41), .ref (q 42), .ref (q 43), .ref (q 44), .ref (q 1), .ref (q 47), .ref (q 36), .ref (q 45), .int t2_1, .int t2_2, .int t2_3])) : Option (Nat × va_E))) (t3_0 : Int32) (hT3 : ws[45]? = (some (q 45, .inr (1, [.ref (q 46), .int 4104, .int t3_0])) : Option (Nat × va_E))) (t4_0 : Int32) (t4_1 : Int32) (t4_2 : Int32) (t4_3 : Int32) (t4_4 : Int32) (t4_5 : Int32) (t4_6 : Int32) (hT4 : ws[47]? = (some (q 47, .inr (10, [.int t4_0, .int t4_1, .int t4_2, .int t4_3, .int t4_4, .int t4_5, .ref (q 1), .int t4_6])) : Option (Nat × va_E))) (pre0 : t0_0.toInt ≤ 256) : q_mI l y_Pri_run prog_9_method_5_code 6 (.int) 9 0 0 D g [.ref (q 40), .ref (q 3)] ws (fun r u => q_I (nsh g q) q u ∧ q_un ws u [3, 4, 36, 37, 40, 45, 46, 47] ∧ ∃ (u1_0 : Int32) (u2_0 : Int32) (u2_1 : Int32) (u2_2 : Int32) (u2_3 : Int32) (u3_0 : Int32) (u4_0 : Int32) (u4_1 : Int32) (u4_2 : Int32) (u4_3 : Int32) (u4_4 : Int32) (u4_5 : Int32) (u4_6 : Int32), u[3]? = (some (q 3, .inr (1, [.ref (q 4), .int 11008, .int u1_0])) : Option (Nat × va_E)) ∧ u[40]? = (some (q 40, .inr (11, [.int u2_0, .ref (q 41), .ref (q 42), .ref (q 43), .ref (q 44), .ref (q 1), .ref (q 47), .ref (q 36), .ref (q 45), .int u2_1, .int u2_2, .int u2_3])) : Option (Nat × va_E)) ∧ u[45]? = (some (q 45, .inr (1, [.ref (q 46), .int 4104, .int u3_0])) : Option (Nat × va_E)) ∧ u[47]? = (some (q 47, .inr (10, [.int u4_0, .int u4_1, .int u4_2, .int u4_3, .int u4_4, .int u4_5, .ref (q 1), .int u4_6])) : Option (Nat × va_E)) ∧ (r.toInt ≤ 2147482648) ∧ (0 ≤ u1_0.toInt) ∧ (u1_0.toInt ≤ 1000000) ∧ (0 ≤ u2_1.toInt + 1) ∧ (u2_1.toInt ≤ 1000000) ∧ (0 ≤ u2_3.toInt + 1) ∧ (u2_3.toInt ≤ 8) ∧ (0 ≤ u3_0.toInt) ∧ (u3_0.toInt ≤ 1000000) ∧ (0 ≤ u4_2.toInt + 1) ∧ (u4_2.toInt ≤ 9999) ∧ (0 ≤ u4_3.toInt + 1) ∧ (u4_3.toInt ≤ 9999) ∧ (0 ≤ u4_6.toInt) ∧ (u4_6.toInt ≤ 1) ∧ (t2_0.toInt ≤ u2_0.toInt) ∧ (u2_0.toInt ≤ t2_0.toInt) ∧ (u1_0.toInt ≤ r.toInt + 12255) ∧ (u2_1.toInt ≤ r.toInt + 1000000) ∧ (u3_0.toInt ≤ r.toInt + 1000000)) := by
  intro sz
  refine q_into (by decide) (Nat.le_of_ble_eq_true rfl) ?_
  intro p e s m below meth c ls hsz C0 V hl
  have hx := C0.1
  have hb := C0.2.1
  obtain ⟨yy0_0, hh0, btt0_0⟩ := n_shO hI (n_h1 g q)
  obtain ⟨rfl⟩ : t0_0 = yy0_0 := by have z := Option.some.inj (hT0.symm.trans hh0); simpa using z
  replace btt0_0 : q_F (0 ≤ t0_0.toInt ∧ t0_0.toInt ≤ 4100) := btt0_0
  obtain ⟨yy1_0, hh1, btt1_0⟩ := n_shO hI (n_h3 g q)
  obtain ⟨rfl⟩ : t1_0 = yy1_0 := by have z := Option.some.inj (hT1.symm.trans hh1); simpa using z
  replace btt1_0 : q_F (0 ≤ t1_0.toInt ∧ t1_0.toInt ≤ 1000000) := btt1_0
  obtain ⟨yy2_0, yy2_1, yy2_2, yy2_3, hh2, btt2_0, btt2_1, btt2_3⟩ := n_o40 hI
  obtain ⟨rfl, rfl, rfl, rfl⟩ : t2_0 = yy2_0 ∧ t2_1 = yy2_1 ∧ t2_2 = yy2_2 ∧ t2_3 = yy2_3 := by have z := Option.some.inj (hT2.symm.trans hh2); simpa using z
  replace btt2_0 : q_F (0 ≤ t2_0.toInt ∧ t2_0.toInt ≤ 9) := btt2_0
  replace btt2_1 : q_F (-1 ≤ t2_1.toInt ∧ t2_1.toInt ≤ 1000000) := btt2_1
  replace btt2_3 : q_F (-1 ≤ t2_3.toInt ∧ t2_3.toInt ≤ 8) := btt2_3
  obtain ⟨yy3_0, hh3, btt3_0⟩ := n_shO hI (n_h45 g q)
  obtain ⟨rfl⟩ : t3_0 = yy3_0 := by have z := Option.some.inj (hT3.symm.trans hh3); simpa using z
  replace btt3_0 : q_F (0 ≤ t3_0.toInt ∧ t3_0.toInt ≤ 1000000) := btt3_0
  obtain ⟨yy4_0, yy4_1, yy4_2, yy4_3, yy4_4, yy4_5, yy4_6, hh4, btt4_2, btt4_3, btt4_6⟩ := n_o47 hI
  obtain ⟨rfl, rfl, rfl, rfl, rfl, rfl, rfl⟩ : t4_0 = yy4_0 ∧ t4_1 = yy4_1 ∧ t4_2 = yy4_2 ∧ t4_3 = yy4_3 ∧ t4_4 = yy4_4 ∧ t4_5 = yy4_5 ∧ t4_6 = yy4_6 := by have z := Option.some.inj (hT4.symm.trans hh4); simpa using z
  replace btt4_2 : q_F (-1 ≤ t4_2.toInt ∧ t4_2.toInt ≤ 9999) := btt4_2
  replace btt4_3 : q_F (-1 ≤ t4_3.toInt ∧ t4_3.toInt ≤ 9999) := btt4_3
  replace btt4_6 : q_F (0 ≤ t4_6.toInt ∧ t4_6.toInt ≤ 1) := btt4_6
  replace pre0 : q_F (t0_0.toInt ≤ 256) := pre0
  have hF : q_un ws ws [3, 4, 36, 37, 40, 45, 46, 47] := q_u0
  have hl : lv_has ls 6 [(0, .ref (q 40)), (1, .ref (q 3))] := hl
  refine lv_aload_n hx hb d_9_5_0 rfl (lv_at hl 1 rfl) ?_
  refine q_gov V (q_runV (As := []) (rest := []) (d := 1) (mc := 0) (ms := 0) (ci := 1) C0 V rfl LV_Pri_70 (T_She_clear l D g q ws 3 11008 1376 1000000 (n_h3 g q)  hI t1_0 hT1  _) rfl rfl hT1 rfl hl.1 rfl (Nat.le_of_ble_eq_true rfl) ⟨by decide, by decide⟩ ⟨Nat.le_of_ble_eq_true rfl, Nat.le_of_ble_eq_true rfl⟩ d_9_5_1) (fun u29 H locs hp30 V => ?_)
  obtain ⟨hI, hu36, y32, hO31, b33, b34⟩ := hp30
  replace hO31 : u29[3]? = (some (q 3, .inr (1, [.ref (q 4), .int 11008, .int y32])) : Option (Nat × va_E)) := hO31
  replace b33 : q_F (0 ≤ y32.toInt) := b33
  replace b34 : q_F (y32.toInt ≤ 0) := b34
  replace hT0 := (hu36 _ (by decide)).trans hT0
  replace hT2 := (hu36 _ (by decide)).trans hT2
  replace hT3 := (hu36 _ (by decide)).trans hT3
  replace hT4 := (hu36 _ (by decide)).trans hT4
  replace hF := q_uc hF hu36 (by simp)
  refine lv_aload_n hx hb d_9_5_4 rfl (lv_at hl 0 rfl) ?_
  refine lv_iconst (v := 0) hx hb d_9_5_5 (by decide) ?_
  refine q_put (ci := 11) (j := 10) (v := .int 0) (ty := .int) C0 V i_Pri o_Pri n_Pri rfl rfl hT2 (by decide) w_395 rfl rfl rfl rfl (Nat.le_of_ble_eq_true rfl) d_9_5_6 (fun H locs w37 hu38 hT2 V => ?_)
  replace hT2 : w37[40]? = (some (q 40, .inr (11, [.int t2_0, .ref (q 41), .ref (q 42), .ref (q 43), .ref (q 44), .ref (q 1), .ref (q 47), .ref (q 36), .ref (q 45), .int t2_1, .int 0, .int t2_3])) : Option (Nat × va_E)) := hT2
  replace hI := n_p40 hI hu38 hT2 ⟨(by have t1 : 0 ≤ t2_0.toInt ∧ t2_0.toInt ≤ 9 := btt2_0; omega), (by have t1 : 0 ≤ t2_0.toInt ∧ t2_0.toInt ≤ 9 := btt2_0; omega)⟩ ⟨(by have t1 : -1 ≤ t2_1.toInt ∧ t2_1.toInt ≤ 1000000 := btt2_1; omega), (by have t1 : -1 ≤ t2_1.toInt ∧ t2_1.toInt ≤ 1000000 := btt2_1; omega)⟩ ⟨(by have t1 : -1 ≤ t2_3.toInt ∧ t2_3.toInt ≤ 8 := btt2_3; omega), (by have t1 : -1 ≤ t2_3.toInt ∧ t2_3.toInt ≤ 8 := btt2_3; omega)⟩
  replace hT0 := (hu38 _ (by decide)).trans hT0
  replace hO31 := (hu38 _ (by decide)).trans hO31
  replace hT3 := (hu38 _ (by decide)).trans hT3
  replace hT4 := (hu38 _ (by decide)).trans hT4
  replace hF := q_us hF hu38 (by simp)
  refine lv_aload_n hx hb d_9_5_9 rfl (lv_at hl 0 rfl) ?_
  refine lv_iconst (v := (-1)) hx hb d_9_5_10 (by decide) ?_
  refine q_put (ci := 11) (j := 11) (v := .int (-1)) (ty := .int) C0 V i_Pri o_Pri n_Pri rfl rfl hT2 (by decide) w_396 rfl rfl rfl rfl (Nat.le_of_ble_eq_true rfl) d_9_5_11 (fun H locs w39 hu40 hT2 V => ?_)
  replace hT2 : w39[40]? = (some (q 40, .inr (11, [.int t2_0, .ref (q 41), .ref (q 42), .ref (q 43), .ref (q 44), .ref (q 1), .ref (q 47), .ref (q 36), .ref (q 45), .int t2_1, .int 0, .int (-1)])) : Option (Nat × va_E)) := hT2
  replace hI := n_p40 hI hu40 hT2 ⟨(by have t1 : 0 ≤ t2_0.toInt ∧ t2_0.toInt ≤ 9 := btt2_0; omega), (by have t1 : 0 ≤ t2_0.toInt ∧ t2_0.toInt ≤ 9 := btt2_0; omega)⟩ ⟨(by have t1 : -1 ≤ t2_1.toInt ∧ t2_1.toInt ≤ 1000000 := btt2_1; omega), (by have t1 : -1 ≤ t2_1.toInt ∧ t2_1.toInt ≤ 1000000 := btt2_1; omega)⟩ ⟨(by have z9 : (-1 : Int32).toInt = -1 := rfl; omega), (by have z9 : (-1 : Int32).toInt = -1 := rfl; omega)⟩
  replace hT0 := (hu40 _ (by decide)).trans hT0
  replace hO31 := (hu40 _ (by decide)).trans hO31
  replace hT3 := (hu40 _ (by decide)).trans hT3
  replace hT4 := (hu40 _ (by decide)).trans hT4
  replace hF := q_us hF hu40 (by simp)
  refine lv_iconst (v := 0) hx hb d_9_5_14 (by decide) ?_
  refine lv_istore_n (lv' := [(2, .int 0), (0, .ref (q 40)), (1, .ref (q 3))]) hx hb d_9_5_15 rfl hl (by decide) rfl (fun ls hl => ?_)
  refine lv_iconst (v := 0) hx hb d_9_5_16 (by decide) ?_
  refine lv_istore_n (lv' := [(3, .int 0), (2, .int 0), (0, .ref (q 40)), (1, .ref (q 3))]) hx hb d_9_5_17 rfl hl (by decide) rfl (fun ls hl => ?_)
  refine q_loop (X := Int32 × Int32 × Int32 × Int32 × Int32 × Int32 × Int32 × Int32 × Int32 × Int32 × Int32 × Int32 × Int32 × Int32 × Int32) (fun z H locs ls w94 => q_F (z.1.toInt ≤ 257) ∧ q_F (z.2.2.1.toInt ≤ 1000000) ∧ q_F (0 ≤ z.2.2.2.2.1.toInt + 1) ∧ q_F (z.2.2.2.2.1.toInt ≤ 1000000) ∧ q_F (0 ≤ z.2.2.2.2.2.2.1.toInt + 1) ∧ q_F (z.2.2.2.2.2.2.1.toInt ≤ 8) ∧ q_F (0 ≤ z.2.2.2.2.2.2.2.1.toInt) ∧ q_F (z.2.2.2.2.2.2.2.1.toInt ≤ 1000000) ∧ q_F (0 ≤ z.2.2.2.2.2.2.2.2.2.2.1.toInt + 1) ∧ q_F (z.2.2.2.2.2.2.2.2.2.2.1.toInt ≤ 9999) ∧ q_F (0 ≤ z.2.2.2.2.2.2.2.2.2.2.2.1.toInt + 1) ∧ q_F (z.2.2.2.2.2.2.2.2.2.2.2.1.toInt ≤ 9999) ∧ q_F (0 ≤ z.2.2.2.2.2.2.2.2.2.2.2.2.2.2.toInt) ∧ q_F (z.2.2.2.2.2.2.2.2.2.2.2.2.2.2.toInt ≤ 1) ∧ q_F (y32.toInt ≤ z.2.2.1.toInt) ∧ q_F (t2_0.toInt ≤ z.2.2.2.1.toInt) ∧ q_F (z.2.2.2.1.toInt ≤ t2_0.toInt) ∧ q_F (t4_6.toInt ≤ z.1.toInt + z.2.2.2.2.2.2.2.2.2.2.2.2.2.2.toInt) ∧ q_F (z.2.2.2.2.2.2.2.2.2.2.2.2.2.2.toInt ≤ z.1.toInt + t4_6.toInt) ∧ q_F (z.2.2.2.2.2.2.1.toInt + 1 ≤ 9 * z.1.toInt) ∧ q_Wd D g (va_A ws sz) s w94 H locs ∧ lv_has ls 6 [(3, .int z.1), (2, .int z.2.1), (0, .ref (q 40)), (1, .ref (q 3))] ∧ q_I (nsh g q) q w94 ∧ q_un ws w94 [3, 4, 36, 37, 40, 45, 46, 47] ∧ w94[1]? = (some (q 1, .inr (1, [.ref (q 2), .int 4100, .int t0_0])) : Option (Nat × va_E)) ∧ w94[3]? = (some (q 3, .inr (1, [.ref (q 4), .int 11008, .int z.2.2.1])) : Option (Nat × va_E)) ∧ w94[40]? = (some (q 40, .inr (11, [.int z.2.2.2.1, .ref (q 41), .ref (q 42), .ref (q 43), .ref (q 44), .ref (q 1), .ref (q 47), .ref (q 36), .ref (q 45), .int z.2.2.2.2.1, .int z.2.2.2.2.2.1, .int z.2.2.2.2.2.2.1])) : Option (Nat × va_E)) ∧ w94[45]? = (some (q 45, .inr (1, [.ref (q 46), .int 4104, .int z.2.2.2.2.2.2.2.1])) : Option (Nat × va_E)) ∧ w94[47]? = (some (q 47, .inr (10, [.int z.2.2.2.2.2.2.2.2.1, .int z.2.2.2.2.2.2.2.2.2.1, .int z.2.2.2.2.2.2.2.2.2.2.1, .int z.2.2.2.2.2.2.2.2.2.2.2.1, .int z.2.2.2.2.2.2.2.2.2.2.2.2.1, .int z.2.2.2.2.2.2.2.2.2.2.2.2.2.1, .ref (q 1), .int z.2.2.2.2.2.2.2.2.2.2.2.2.2.2])) : Option (Nat × va_E))) (fun z => (257 - z.1.toInt).toNat) ?_ ((0 : Int32), (0 : Int32), (y32 : Int32), (t2_0 : Int32), (t2_1 : Int32), (0 : Int32), ((-1) : Int32), (t3_0 : Int32), (t4_0 : Int32), (t4_1 : Int32), (t4_2 : Int32), (t4_3 : Int32), (t4_4 : Int32), (t4_5 : Int32), (t4_6 : Int32)) _ _ _ w39 ⟨(show q_F (0 ≤ 257) from (show 0 ≤ 257 from by omega)), (show q_F (y32.toInt ≤ 1000000) from (show y32.toInt ≤ 1000000 from by have t1 : y32.toInt ≤ 0 := b34; omega)), (show q_F (0 ≤ t2_1.toInt + 1) from (show 0 ≤ t2_1.toInt + 1 from by have t1 : -1 ≤ t2_1.toInt ∧ t2_1.toInt ≤ 1000000 := btt2_1; omega)), (show q_F (t2_1.toInt ≤ 1000000) from (show t2_1.toInt ≤ 1000000 from by have t1 : -1 ≤ t2_1.toInt ∧ t2_1.toInt ≤ 1000000 := btt2_1; omega)), (show q_F (0 ≤ (-1) + 1) from (show 0 ≤ (-1) + 1 from by omega)), (show q_F ((-1) ≤ 8) from (show (-1) ≤ 8 from by omega)), (show q_F (0 ≤ t3_0.toInt) from (show 0 ≤ t3_0.toInt from by have t1 : 0 ≤ t3_0.toInt ∧ t3_0.toInt ≤ 1000000 := btt3_0; omega)), (show q_F (t3_0.toInt ≤ 1000000) from (show t3_0.toInt ≤ 1000000 from by have t1 : 0 ≤ t3_0.toInt ∧ t3_0.toInt ≤ 1000000 := btt3_0; omega)), (show q_F (0 ≤ t4_2.toInt + 1) from (show 0 ≤ t4_2.toInt + 1 from by have t1 : -1 ≤ t4_2.toInt ∧ t4_2.toInt ≤ 9999 := btt4_2; omega)), (show q_F (t4_2.toInt ≤ 9999) from (show t4_2.toInt ≤ 9999 from by have t1 : -1 ≤ t4_2.toInt ∧ t4_2.toInt ≤ 9999 := btt4_2; omega)), (show q_F (0 ≤ t4_3.toInt + 1) from (show 0 ≤ t4_3.toInt + 1 from by have t1 : -1 ≤ t4_3.toInt ∧ t4_3.toInt ≤ 9999 := btt4_3; omega)), (show q_F (t4_3.toInt ≤ 9999) from (show t4_3.toInt ≤ 9999 from by have t1 : -1 ≤ t4_3.toInt ∧ t4_3.toInt ≤ 9999 := btt4_3; omega)), (show q_F (0 ≤ t4_6.toInt) from (show 0 ≤ t4_6.toInt from by have t1 : 0 ≤ t4_6.toInt ∧ t4_6.toInt ≤ 1 := btt4_6; omega)), (show q_F (t4_6.toInt ≤ 1) from (show t4_6.toInt ≤ 1 from by have t1 : 0 ≤ t4_6.toInt ∧ t4_6.toInt ≤ 1 := btt4_6; omega)), (show q_F (y32.toInt ≤ y32.toInt) from (show y32.toInt ≤ y32.toInt from by omega)), (show q_F (t2_0.toInt ≤ t2_0.toInt) from (show t2_0.toInt ≤ t2_0.toInt from by omega)), (show q_F (t2_0.toInt ≤ t2_0.toInt) from (show t2_0.toInt ≤ t2_0.toInt from by omega)), (show q_F (t4_6.toInt ≤ 0 + t4_6.toInt) from (show t4_6.toInt ≤ 0 + t4_6.toInt from by omega)), (show q_F (t4_6.toInt ≤ 0 + t4_6.toInt) from (show t4_6.toInt ≤ 0 + t4_6.toInt from by omega)), (show q_F ((-1) + 1 ≤ 9 * 0) from (show (-1) + 1 ≤ 9 * 0 from by omega)), V, q_lw hl (q_lw1 0 rfl (q_lw1 1 rfl (q_lw1 2 rfl (q_lw1 3 rfl q_lw0)))), hI, hF, hT0, hO31, hT2, hT3, hT4⟩
  rintro ⟨lx58, lx59, lx60, lx61, lx62, lx63, lx64, lx65, lx66, lx67, lx68, lx69, lx70, lx71, lx72⟩ H locs ls w94 ⟨i73, i74, i75, i76, i77, i78, i79, i80, i81, i82, i83, i84, i85, i86, i87, i88, i89, i90, i91, i92, V, hl, hI, hF, hO95, hO96, hO97, hO98, hO99⟩ ih93
  replace i73 : q_F (lx58.toInt ≤ 257) := i73
  replace i74 : q_F (lx60.toInt ≤ 1000000) := i74
  replace i75 : q_F (0 ≤ lx62.toInt + 1) := i75
  replace i76 : q_F (lx62.toInt ≤ 1000000) := i76
  replace i77 : q_F (0 ≤ lx64.toInt + 1) := i77
  replace i78 : q_F (lx64.toInt ≤ 8) := i78
  replace i79 : q_F (0 ≤ lx65.toInt) := i79
  replace i80 : q_F (lx65.toInt ≤ 1000000) := i80
  replace i81 : q_F (0 ≤ lx68.toInt + 1) := i81
  replace i82 : q_F (lx68.toInt ≤ 9999) := i82
  replace i83 : q_F (0 ≤ lx69.toInt + 1) := i83
  replace i84 : q_F (lx69.toInt ≤ 9999) := i84
  replace i85 : q_F (0 ≤ lx72.toInt) := i85
  replace i86 : q_F (lx72.toInt ≤ 1) := i86
  replace i87 : q_F (y32.toInt ≤ lx60.toInt) := i87
  replace i88 : q_F (t2_0.toInt ≤ lx61.toInt) := i88
  replace i89 : q_F (lx61.toInt ≤ t2_0.toInt) := i89
  replace i90 : q_F (t4_6.toInt ≤ lx58.toInt + lx72.toInt) := i90
  replace i91 : q_F (lx72.toInt ≤ lx58.toInt + t4_6.toInt) := i91
  replace i92 : q_F (lx64.toInt + 1 ≤ 9 * lx58.toInt) := i92
  replace hl : lv_has ls 6 [(3, .int lx58), (2, .int lx59), (0, .ref (q 40)), (1, .ref (q 3))] := hl
  replace hO95 : w94[1]? = (some (q 1, .inr (1, [.ref (q 2), .int 4100, .int t0_0])) : Option (Nat × va_E)) := hO95
  replace hO96 : w94[3]? = (some (q 3, .inr (1, [.ref (q 4), .int 11008, .int lx60])) : Option (Nat × va_E)) := hO96
  replace hO97 : w94[40]? = (some (q 40, .inr (11, [.int lx61, .ref (q 41), .ref (q 42), .ref (q 43), .ref (q 44), .ref (q 1), .ref (q 47), .ref (q 36), .ref (q 45), .int lx62, .int lx63, .int lx64])) : Option (Nat × va_E)) := hO97
  replace hO98 : w94[45]? = (some (q 45, .inr (1, [.ref (q 46), .int 4104, .int lx65])) : Option (Nat × va_E)) := hO98
  replace hO99 : w94[47]? = (some (q 47, .inr (10, [.int lx66, .int lx67, .int lx68, .int lx69, .int lx70, .int lx71, .ref (q 1), .int lx72])) : Option (Nat × va_E)) := hO99
  refine lv_iload_n hx hb d_9_5_18 rfl (lv_at hl 0 rfl) ?_
  refine lv_sipush (v := 256) hx hb d_9_5_19 (by decide) ?_
  refine lv_icmp_gt (tgt := 197) hx hb d_9_5_22 (by decide) (fun c100 => ?_) (fun c100 => ?_)
  ·
    have b101 : q_F (256 < lx58.toInt) := (q_ltI c100)
    refine lv_aload_n hx hb d_9_5_197 rfl (lv_at hl 3 rfl) ?_
    refine q_get (ci := 1) (j := 2) (v := .int lx60) C0 V i_She rfl rfl hO96 (by decide) w_58 rfl d_9_5_198 ?_
    exact q_reti C0 V (⟨hI, hF, lx60, lx61, lx62, lx63, lx64, lx65, lx66, lx67, lx68, lx69, lx70, lx71, lx72, hO96, hO97, hO98, hO99, (show lx60.toInt ≤ 2147482648 from (by have t1 : lx60.toInt ≤ 1000000 := i74; omega)), (show 0 ≤ lx60.toInt from (by have t1 : 0 ≤ y32.toInt := b33; have t2 : y32.toInt ≤ lx60.toInt := i87; omega)), (show lx60.toInt ≤ 1000000 from (by have t1 : lx60.toInt ≤ 1000000 := i74; omega)), (show 0 ≤ lx62.toInt + 1 from (by have t1 : 0 ≤ lx62.toInt + 1 := i75; omega)), (show lx62.toInt ≤ 1000000 from (by have t1 : lx62.toInt ≤ 1000000 := i76; omega)), (show 0 ≤ lx64.toInt + 1 from (by have t1 : 0 ≤ lx64.toInt + 1 := i77; omega)), (show lx64.toInt ≤ 8 from (by have t1 : lx64.toInt ≤ 8 := i78; omega)), (show 0 ≤ lx65.toInt from (by have t1 : 0 ≤ lx65.toInt := i79; omega)), (show lx65.toInt ≤ 1000000 from (by have t1 : lx65.toInt ≤ 1000000 := i80; omega)), (show 0 ≤ lx68.toInt + 1 from (by have t1 : 0 ≤ lx68.toInt + 1 := i81; omega)), (show lx68.toInt ≤ 9999 from (by have t1 : lx68.toInt ≤ 9999 := i82; omega)), (show 0 ≤ lx69.toInt + 1 from (by have t1 : 0 ≤ lx69.toInt + 1 := i83; omega)), (show lx69.toInt ≤ 9999 from (by have t1 : lx69.toInt ≤ 9999 := i84; omega)), (show 0 ≤ lx72.toInt from (by have t1 : 0 ≤ lx72.toInt := i85; omega)), (show lx72.toInt ≤ 1 from (by have t1 : lx72.toInt ≤ 1 := i86; omega)), (show t2_0.toInt ≤ lx61.toInt from (by have t1 : t2_0.toInt ≤ lx61.toInt := i88; omega)), (show lx61.toInt ≤ t2_0.toInt from (by have t1 : lx61.toInt ≤ t2_0.toInt := i89; omega)), (show lx60.toInt ≤ lx60.toInt + 12255 from (by omega)), (show lx62.toInt ≤ lx60.toInt + 1000000 from (by have t1 : 0 ≤ y32.toInt := b33; have t2 : lx62.toInt ≤ 1000000 := i76; have t3 : y32.toInt ≤ lx60.toInt := i87; omega)), (show lx65.toInt ≤ lx60.toInt + 1000000 from (by have t1 : 0 ≤ y32.toInt := b33; have t2 : lx65.toInt ≤ 1000000 := i80; have t3 : y32.toInt ≤ lx60.toInt := i87; omega))⟩) d_9_5_201
  ·
    have b102 : q_F (lx58.toInt ≤ 256) := (q_nltI c100)
    refine lv_iload_n hx hb d_9_5_25 rfl (lv_at hl 1 rfl) ?_
    refine lv_aload_n hx hb d_9_5_26 rfl (lv_at hl 2 rfl) ?_
    refine q_get (ci := 11) (j := 5) (v := .ref (q 1)) C0 V i_Pri rfl rfl hO97 (by decide) w_390 rfl d_9_5_27 ?_
    refine q_get (ci := 1) (j := 2) (v := .int t0_0) C0 V i_She rfl rfl hO95 (by decide) w_58 rfl d_9_5_30 ?_
    refine lv_icmp_ge (tgt := 197) hx hb d_9_5_33 (by decide) (fun c103 => ?_) (fun c103 => ?_)
    ·
      have b104 : q_F (t0_0.toInt ≤ lx59.toInt) := (q_leI c103)
      refine lv_aload_n hx hb d_9_5_197 rfl (lv_at hl 3 rfl) ?_
      refine q_get (ci := 1) (j := 2) (v := .int lx60) C0 V i_She rfl rfl hO96 (by decide) w_58 rfl d_9_5_198 ?_
      exact q_reti C0 V (⟨hI, hF, lx60, lx61, lx62, lx63, lx64, lx65, lx66, lx67, lx68, lx69, lx70, lx71, lx72, hO96, hO97, hO98, hO99, (show lx60.toInt ≤ 2147482648 from (by have t1 : lx60.toInt ≤ 1000000 := i74; omega)), (show 0 ≤ lx60.toInt from (by have t1 : 0 ≤ y32.toInt := b33; have t2 : y32.toInt ≤ lx60.toInt := i87; omega)), (show lx60.toInt ≤ 1000000 from (by have t1 : lx60.toInt ≤ 1000000 := i74; omega)), (show 0 ≤ lx62.toInt + 1 from (by have t1 : 0 ≤ lx62.toInt + 1 := i75; omega)), (show lx62.toInt ≤ 1000000 from (by have t1 : lx62.toInt ≤ 1000000 := i76; omega)), (show 0 ≤ lx64.toInt + 1 from (by have t1 : 0 ≤ lx64.toInt + 1 := i77; omega)), (show lx64.toInt ≤ 8 from (by have t1 : lx64.toInt ≤ 8 := i78; omega)), (show 0 ≤ lx65.toInt from (by have t1 : 0 ≤ lx65.toInt := i79; omega)), (show lx65.toInt ≤ 1000000 from (by have t1 : lx65.toInt ≤ 1000000 := i80; omega)), (show 0 ≤ lx68.toInt + 1 from (by have t1 : 0 ≤ lx68.toInt + 1 := i81; omega)), (show lx68.toInt ≤ 9999 from (by have t1 : lx68.toInt ≤ 9999 := i82; omega)), (show 0 ≤ lx69.toInt + 1 from (by have t1 : 0 ≤ lx69.toInt + 1 := i83; omega)), (show lx69.toInt ≤ 9999 from (by have t1 : lx69.toInt ≤ 9999 := i84; omega)), (show 0 ≤ lx72.toInt from (by have t1 : 0 ≤ lx72.toInt := i85; omega)), (show lx72.toInt ≤ 1 from (by have t1 : lx72.toInt ≤ 1 := i86; omega)), (show t2_0.toInt ≤ lx61.toInt from (by have t1 : t2_0.toInt ≤ lx61.toInt := i88; omega)), (show lx61.toInt ≤ t2_0.toInt from (by have t1 : lx61.toInt ≤ t2_0.toInt := i89; omega)), (show lx60.toInt ≤ lx60.toInt + 12255 from (by omega)), (show lx62.toInt ≤ lx60.toInt + 1000000 from (by have t1 : 0 ≤ y32.toInt := b33; have t2 : lx62.toInt ≤ 1000000 := i76; have t3 : y32.toInt ≤ lx60.toInt := i87; omega)), (show lx65.toInt ≤ lx60.toInt + 1000000 from (by have t1 : 0 ≤ y32.toInt := b33; have t2 : lx65.toInt ≤ 1000000 := i80; have t3 : y32.toInt ≤ lx60.toInt := i87; omega))⟩) d_9_5_201
    ·
      have b105 : q_F (lx59.toInt < t0_0.toInt) := (q_nleI c103)
      refine lv_aload_n hx hb d_9_5_36 rfl (lv_at hl 2 rfl) ?_
      refine q_get (ci := 11) (j := 8) (v := .ref (q 45)) C0 V i_Pri rfl rfl hO97 (by decide) w_393 rfl d_9_5_37 ?_
      refine q_gov V (q_runV (As := []) (rest := []) (d := 1) (mc := 0) (ms := 0) (ci := 1) C0 V rfl LV_Pri_70 (T_She_clear l D g q w94 45 4104 513 1000000 (n_h45 g q)  hI lx65 hO98  _) rfl rfl hO98 rfl hl.1 rfl (Nat.le_of_ble_eq_true rfl) ⟨by decide, by decide⟩ ⟨Nat.le_of_ble_eq_true rfl, Nat.le_of_ble_eq_true rfl⟩ d_9_5_40) (fun u106 H locs hp107 V => ?_)
      obtain ⟨hI, hu113, y109, hO108, b110, b111⟩ := hp107
      replace hO108 : u106[45]? = (some (q 45, .inr (1, [.ref (q 46), .int 4104, .int y109])) : Option (Nat × va_E)) := hO108
      replace b110 : q_F (0 ≤ y109.toInt) := b110
      replace b111 : q_F (y109.toInt ≤ 0) := b111
      replace hO95 := (hu113 _ (by decide)).trans hO95
      replace hO96 := (hu113 _ (by decide)).trans hO96
      replace hO97 := (hu113 _ (by decide)).trans hO97
      replace hO99 := (hu113 _ (by decide)).trans hO99
      replace hF := q_uc hF hu113 (by simp)
      refine lv_aload_n hx hb d_9_5_43 rfl (lv_at hl 2 rfl) ?_
      refine lv_iconst (v := (-1)) hx hb d_9_5_44 (by decide) ?_
      refine q_put (ci := 11) (j := 9) (v := .int (-1)) (ty := .int) C0 V i_Pri o_Pri n_Pri rfl rfl hO97 (by decide) w_394 rfl rfl rfl rfl (Nat.le_of_ble_eq_true rfl) d_9_5_45 (fun H locs w114 hu115 hO97 V => ?_)
      replace hO97 : w114[40]? = (some (q 40, .inr (11, [.int lx61, .ref (q 41), .ref (q 42), .ref (q 43), .ref (q 44), .ref (q 1), .ref (q 47), .ref (q 36), .ref (q 45), .int (-1), .int lx63, .int lx64])) : Option (Nat × va_E)) := hO97
      replace hI := n_p40 hI hu115 hO97 ⟨(by have t1 : 0 ≤ t2_0.toInt ∧ t2_0.toInt ≤ 9 := btt2_0; have t2 : t2_0.toInt ≤ lx61.toInt := i88; omega), (by have t1 : 0 ≤ t2_0.toInt ∧ t2_0.toInt ≤ 9 := btt2_0; have t2 : lx61.toInt ≤ t2_0.toInt := i89; omega)⟩ ⟨(by have z9 : (-1 : Int32).toInt = -1 := rfl; omega), (by have z9 : (-1 : Int32).toInt = -1 := rfl; omega)⟩ ⟨(by have t1 : 0 ≤ lx64.toInt + 1 := i77; omega), (by have t1 : lx64.toInt ≤ 8 := i78; omega)⟩
      replace hO95 := (hu115 _ (by decide)).trans hO95
      replace hO96 := (hu115 _ (by decide)).trans hO96
      replace hO108 := (hu115 _ (by decide)).trans hO108
      replace hO99 := (hu115 _ (by decide)).trans hO99
      replace hF := q_us hF hu115 (by simp)
      refine lv_iload_n hx hb d_9_5_48 rfl (lv_at hl 1 rfl) ?_
      refine lv_iconst (v := 1) hx hb d_9_5_49 (by decide) ?_
      refine lv_iadd hx hb d_9_5_50 ?_
      obtain ⟨a116, e117⟩ := q_nm (lx59 + 1 : Int32)
      refine q_ti (v := a116) e117 ?_
      have b118 : q_F (a116.toInt = lx59.toInt + 1) := (by rw [← e117]; show (lx59 + 1 : Int32).toInt = lx59.toInt + 1; exact q_addI (x := lx59.toInt) (y := 1) rfl (by decide) (by have _ := q_lo32 (x := lx59); have _ := q_hi32 (x := lx59); have t1 : lx59.toInt < t0_0.toInt := b105; have _ := q_lo32 (x := t0_0); have _ := q_hi32 (x := t0_0); omega) (by have _ := q_lo32 (x := lx59); have _ := q_hi32 (x := lx59); have t1 : lx59.toInt < t0_0.toInt := b105; have _ := q_lo32 (x := t0_0); have _ := q_hi32 (x := t0_0); omega))
      refine lv_istore (lv' := [(4, .int a116), (3, .int lx58), (2, .int lx59), (0, .ref (q 40)), (1, .ref (q 3))]) hx hb d_9_5_51 hl (by decide) rfl (fun ls hl => ?_)
      refine lv_iconst (v := 0) hx hb d_9_5_53 (by decide) ?_
      refine lv_istore (lv' := [(5, .int 0), (4, .int a116), (3, .int lx58), (2, .int lx59), (0, .ref (q 40)), (1, .ref (q 3))]) hx hb d_9_5_54 hl (by decide) rfl (fun ls hl => ?_)
      refine lv_aload_n hx hb d_9_5_56 rfl (lv_at hl 4 rfl) ?_
      refine q_get (ci := 11) (j := 5) (v := .ref (q 1)) C0 V i_Pri rfl rfl hO97 (by decide) w_390 rfl d_9_5_57 ?_
      refine lv_iload_n hx hb d_9_5_60 rfl (lv_at hl 3 rfl) ?_
      refine lv_i2l hx hb d_9_5_61 rfl ?_
      obtain ⟨j119, e120⟩ := q_nm (lx59.toInt64 : Int64)
      refine q_tl (v := j119) e120 ?_
      have b121 : q_F (j119.toInt = lx59.toInt) := (by rw [← e120]; show (lx59.toInt64 : Int64).toInt = lx59.toInt; exact q_i2l rfl)
      refine q_goi V (q_runV (As := [.long j119]) (rest := []) (d := 1) (mc := 0) (ms := 0) (ci := 1) C0 V rfl LV_Pri_93 (T_She_at l D g q w114 1 4100 513 4100 (n_h1 g q) j119 hI   _) rfl rfl hO95 rfl hl.1 rfl (Nat.le_of_ble_eq_true rfl) ⟨by decide, by decide⟩ ⟨Nat.le_of_ble_eq_true rfl, Nat.le_of_ble_eq_true rfl⟩ d_9_5_62) (fun a124 u122 H locs hp123 V => ?_)
      obtain ⟨rfl, b125, b126, pu127⟩ := hp123
      replace b125 : q_F (0 ≤ a124.toInt) := b125
      replace b126 : q_F (a124.toInt ≤ 255) := b126
      refine lv_bipush (v := 37) hx hb d_9_5_65 (by decide) ?_
      refine q_join (X := Int32 × Int32 × Int32 × Int32 × Int32 × Int32 × Int32 × Int32 × Int32 × Int32 × Int32 × Int32 × Int32 × Int32) (fun z H locs ls w168 => q_F (0 ≤ z.1.toInt) ∧ q_F (z.1.toInt ≤ 10) ∧ q_F (0 ≤ z.2.2.2.1.toInt + 1) ∧ q_F (z.2.2.2.1.toInt ≤ 2) ∧ q_F (0 ≤ z.2.2.2.2.2.1.toInt + 1) ∧ q_F (z.2.2.2.2.2.1.toInt ≤ 8) ∧ q_F (0 ≤ z.2.2.2.2.2.2.2.2.2.1.toInt + 1) ∧ q_F (z.2.2.2.2.2.2.2.2.2.1.toInt ≤ 9999) ∧ q_F (0 ≤ z.2.2.2.2.2.2.2.2.2.2.1.toInt + 1) ∧ q_F (z.2.2.2.2.2.2.2.2.2.2.1.toInt ≤ 9999) ∧ q_F (0 ≤ z.2.2.2.2.2.2.2.2.2.2.2.1.toInt + 1) ∧ q_F (z.2.2.2.2.2.2.2.2.2.2.2.1.toInt ≤ 255) ∧ q_F (0 ≤ z.2.2.2.2.2.2.2.2.2.2.2.2.2.toInt) ∧ q_F (z.2.2.2.2.2.2.2.2.2.2.2.2.2.toInt ≤ 1) ∧ q_F (lx61.toInt ≤ z.2.2.1.toInt) ∧ q_F (z.2.2.1.toInt ≤ lx61.toInt) ∧ q_F (lx64.toInt ≤ z.2.2.2.2.2.1.toInt + 8) ∧ q_F (y109.toInt ≤ z.2.2.2.2.2.2.1.toInt) ∧ q_F (z.2.2.2.2.2.2.1.toInt ≤ y109.toInt + 420005) ∧ q_Wd D g (va_A ws sz) s w168 H locs ∧ lv_has ls 6 [(5, .int z.1), (4, .int z.2.1), (3, .int lx58), (2, .int lx59), (0, .ref (q 40)), (1, .ref (q 3))] ∧ q_I (nsh g q) q w168 ∧ q_un ws w168 [3, 4, 36, 37, 40, 45, 46, 47] ∧ w168[1]? = (some (q 1, .inr (1, [.ref (q 2), .int 4100, .int t0_0])) : Option (Nat × va_E)) ∧ w168[3]? = (some (q 3, .inr (1, [.ref (q 4), .int 11008, .int lx60])) : Option (Nat × va_E)) ∧ w168[40]? = (some (q 40, .inr (11, [.int z.2.2.1, .ref (q 41), .ref (q 42), .ref (q 43), .ref (q 44), .ref (q 1), .ref (q 47), .ref (q 36), .ref (q 45), .int z.2.2.2.1, .int z.2.2.2.2.1, .int z.2.2.2.2.2.1])) : Option (Nat × va_E)) ∧ w168[45]? = (some (q 45, .inr (1, [.ref (q 46), .int 4104, .int z.2.2.2.2.2.2.1])) : Option (Nat × va_E)) ∧ w168[47]? = (some (q 47, .inr (10, [.int z.2.2.2.2.2.2.2.1, .int z.2.2.2.2.2.2.2.2.1, .int z.2.2.2.2.2.2.2.2.2.1, .int z.2.2.2.2.2.2.2.2.2.2.1, .int z.2.2.2.2.2.2.2.2.2.2.2.1, .int z.2.2.2.2.2.2.2.2.2.2.2.2.1, .ref (q 1), .int z.2.2.2.2.2.2.2.2.2.2.2.2.2])) : Option (Nat × va_E))) (fun z => []) 128 0 0 ?_ ?_
      ·
        rintro ⟨lx129, lx130, lx131, lx132, lx133, lx134, lx135, lx136, lx137, lx138, lx139, lx140, lx141, lx142⟩ H locs ls w168 ⟨i149, i150, i151, i152, i153, i154, i155, i156, i157, i158, i159, i160, i161, i162, i163, i164, i165, i166, i167, V, hl, hI, hF, hO143, hO144, hO145, hO146, hO147⟩
        replace i149 : q_F (0 ≤ lx129.toInt) := i149
        replace i150 : q_F (lx129.toInt ≤ 10) := i150
        replace i151 : q_F (0 ≤ lx132.toInt + 1) := i151
        replace i152 : q_F (lx132.toInt ≤ 2) := i152
        replace i153 : q_F (0 ≤ lx134.toInt + 1) := i153
        replace i154 : q_F (lx134.toInt ≤ 8) := i154
        replace i155 : q_F (0 ≤ lx138.toInt + 1) := i155
        replace i156 : q_F (lx138.toInt ≤ 9999) := i156
        replace i157 : q_F (0 ≤ lx139.toInt + 1) := i157
        replace i158 : q_F (lx139.toInt ≤ 9999) := i158
        replace i159 : q_F (0 ≤ lx140.toInt + 1) := i159
        replace i160 : q_F (lx140.toInt ≤ 255) := i160
        replace i161 : q_F (0 ≤ lx142.toInt) := i161
        replace i162 : q_F (lx142.toInt ≤ 1) := i162
        replace i163 : q_F (lx61.toInt ≤ lx131.toInt) := i163
        replace i164 : q_F (lx131.toInt ≤ lx61.toInt) := i164
        replace i165 : q_F (lx64.toInt ≤ lx134.toInt + 8) := i165
        replace i166 : q_F (y109.toInt ≤ lx135.toInt) := i166
        replace i167 : q_F (lx135.toInt ≤ y109.toInt + 420005) := i167
        replace hl : lv_has ls 6 [(5, .int lx129), (4, .int lx130), (3, .int lx58), (2, .int lx59), (0, .ref (q 40)), (1, .ref (q 3))] := hl
        replace hO143 : w168[1]? = (some (q 1, .inr (1, [.ref (q 2), .int 4100, .int t0_0])) : Option (Nat × va_E)) := hO143
        replace hO144 : w168[3]? = (some (q 3, .inr (1, [.ref (q 4), .int 11008, .int lx60])) : Option (Nat × va_E)) := hO144
        replace hO145 : w168[40]? = (some (q 40, .inr (11, [.int lx131, .ref (q 41), .ref (q 42), .ref (q 43), .ref (q 44), .ref (q 1), .ref (q 47), .ref (q 36), .ref (q 45), .int lx132, .int lx133, .int lx134])) : Option (Nat × va_E)) := hO145
        replace hO146 : w168[45]? = (some (q 45, .inr (1, [.ref (q 46), .int 4104, .int lx135])) : Option (Nat × va_E)) := hO146
        replace hO147 : w168[47]? = (some (q 47, .inr (10, [.int lx136, .int lx137, .int lx138, .int lx139, .int lx140, .int lx141, .ref (q 1), .int lx142])) : Option (Nat × va_E)) := hO147
        refine lv_iload hx hb d_9_5_128 (lv_at hl 0 rfl) ?_
        refine lv_if_ne (tgt := 165) hx hb d_9_5_130 (by decide) (fun c169 => ?_) (fun c169 => ?_)
        ·
          have b170 : q_F (lx129.toInt ≠ 0) := (q_neI c169)
          refine lv_iload hx hb d_9_5_165 (lv_at hl 0 rfl) ?_
          refine lv_if_eq (tgt := 183) hx hb d_9_5_167 (by decide) (fun c171 => absurd (show lx129.toInt = 0 from q_eqI c171) (by have t1 : lx129.toInt ≠ 0 := b170; omega)) (fun c171 => ?_)
          refine lv_aload_n hx hb d_9_5_170 rfl (lv_at hl 5 rfl) ?_
          refine q_gov V (q_runV (As := []) (rest := []) (d := 1) (mc := 0) (ms := 0) (ci := 1) C0 V rfl LV_Pri_70 (T_She_clear l D g q w168 3 11008 1376 1000000 (n_h3 g q)  hI lx60 hO144  _) rfl rfl hO144 rfl hl.1 rfl (Nat.le_of_ble_eq_true rfl) ⟨by decide, by decide⟩ ⟨Nat.le_of_ble_eq_true rfl, Nat.le_of_ble_eq_true rfl⟩ d_9_5_171) (fun u172 H locs hp173 V => ?_)
          obtain ⟨hI, hu179, y175, hO174, b176, b177⟩ := hp173
          replace hO174 : u172[3]? = (some (q 3, .inr (1, [.ref (q 4), .int 11008, .int y175])) : Option (Nat × va_E)) := hO174
          replace b176 : q_F (0 ≤ y175.toInt) := b176
          replace b177 : q_F (y175.toInt ≤ 0) := b177
          replace hO143 := (hu179 _ (by decide)).trans hO143
          replace hO145 := (hu179 _ (by decide)).trans hO145
          replace hO146 := (hu179 _ (by decide)).trans hO146
          replace hO147 := (hu179 _ (by decide)).trans hO147
          replace hF := q_uc hF hu179 (by simp)
          refine lv_sipush (v := (-1000)) hx hb d_9_5_174 (by decide) ?_
          refine lv_iload hx hb d_9_5_177 (lv_at hl 0 rfl) ?_
          refine lv_imul hx hb d_9_5_179 ?_
          obtain ⟨a180, e181⟩ := q_nm ((-1000) * lx129 : Int32)
          refine q_ti (v := a180) e181 ?_
          have b182 : q_F (a180.toInt = (-1000) * lx129.toInt) := (by rw [← e181]; show ((-1000) * lx129 : Int32).toInt = (-1000) * lx129.toInt; exact q_mulI (x := (-1000)) (y := lx129.toInt) (by decide) rfl (by have t1 : lx129.toInt ≤ 10 := i150; have t2 : 0 ≤ lx129.toInt := i149; omega) (by have t1 : lx129.toInt ≤ 10 := i150; have t2 : 0 ≤ lx129.toInt := i149; omega))
          refine lv_iload_n hx hb d_9_5_180 rfl (lv_at hl 3 rfl) ?_
          refine lv_isub hx hb d_9_5_181 ?_
          obtain ⟨a183, e184⟩ := q_nm (a180 - lx59 : Int32)
          refine q_ti (v := a183) e184 ?_
          have b185 : q_F (a183.toInt = a180.toInt - lx59.toInt) := (by rw [← e184]; show (a180 - lx59 : Int32).toInt = a180.toInt - lx59.toInt; exact q_subI (x := a180.toInt) (y := lx59.toInt) rfl rfl (by have t1 : 0 ≤ t0_0.toInt ∧ t0_0.toInt ≤ 4100 := btt0_0; have t2 : lx59.toInt < t0_0.toInt := b105; have t3 : lx129.toInt ≤ 10 := i150; have t4 : a180.toInt = (-1000) * lx129.toInt := b182; have t5 : a116.toInt = lx59.toInt + 1 := b118; have t6 : 0 ≤ lx129.toInt := i149; have t7 : lx129.toInt ≠ 0 := b170; have _ := q_lo32 (x := a116); have _ := q_hi32 (x := a116); omega) (by have t1 : 0 ≤ t0_0.toInt ∧ t0_0.toInt ≤ 4100 := btt0_0; have t2 : lx59.toInt < t0_0.toInt := b105; have t3 : lx129.toInt ≤ 10 := i150; have t4 : a180.toInt = (-1000) * lx129.toInt := b182; have t5 : a116.toInt = lx59.toInt + 1 := b118; have t6 : 0 ≤ lx129.toInt := i149; have t7 : lx129.toInt ≠ 0 := b170; have _ := q_lo32 (x := a116); have _ := q_hi32 (x := a116); omega))
          exact q_reti C0 V (⟨hI, hF, y175, lx131, lx132, lx133, lx134, lx135, lx136, lx137, lx138, lx139, lx140, lx141, lx142, hO174, hO145, hO146, hO147, (show a183.toInt ≤ 2147482648 from (by have t1 : 0 ≤ lx129.toInt := i149; have t2 : lx129.toInt ≠ 0 := b170; have t3 : a180.toInt = (-1000) * lx129.toInt := b182; have t4 : a183.toInt = a180.toInt - lx59.toInt := b185; have _ := q_lo32 (x := lx59); have _ := q_hi32 (x := lx59); omega)), (show 0 ≤ y175.toInt from (by have t1 : 0 ≤ y175.toInt := b176; omega)), (show y175.toInt ≤ 1000000 from (by have t1 : y175.toInt ≤ 0 := b177; omega)), (show 0 ≤ lx132.toInt + 1 from (by have t1 : 0 ≤ lx132.toInt + 1 := i151; omega)), (show lx132.toInt ≤ 1000000 from (by have t1 : lx132.toInt ≤ 2 := i152; omega)), (show 0 ≤ lx134.toInt + 1 from (by have t1 : 0 ≤ lx134.toInt + 1 := i153; omega)), (show lx134.toInt ≤ 8 from (by have t1 : lx134.toInt ≤ 8 := i154; omega)), (show 0 ≤ lx135.toInt from (by have t1 : 0 ≤ y109.toInt := b110; have t2 : y109.toInt ≤ lx135.toInt := i166; omega)), (show lx135.toInt ≤ 1000000 from (by have t1 : y109.toInt ≤ 0 := b111; have t2 : lx135.toInt ≤ y109.toInt + 420005 := i167; omega)), (show 0 ≤ lx138.toInt + 1 from (by have t1 : 0 ≤ lx138.toInt + 1 := i155; omega)), (show lx138.toInt ≤ 9999 from (by have t1 : lx138.toInt ≤ 9999 := i156; omega)), (show 0 ≤ lx139.toInt + 1 from (by have t1 : 0 ≤ lx139.toInt + 1 := i157; omega)), (show lx139.toInt ≤ 9999 from (by have t1 : lx139.toInt ≤ 9999 := i158; omega)), (show 0 ≤ lx142.toInt from (by have t1 : 0 ≤ lx142.toInt := i161; omega)), (show lx142.toInt ≤ 1 from (by have t1 : lx142.toInt ≤ 1 := i162; omega)), (show t2_0.toInt ≤ lx131.toInt from (by have t1 : t2_0.toInt ≤ lx61.toInt := i88; have t2 : lx61.toInt ≤ lx131.toInt := i163; omega)), (show lx131.toInt ≤ t2_0.toInt from (by have t1 : lx61.toInt ≤ t2_0.toInt := i89; have t2 : lx131.toInt ≤ lx61.toInt := i164; omega)), (show y175.toInt ≤ a183.toInt + 12255 from (by have t1 : t0_0.toInt ≤ 256 := pre0; have t2 : lx59.toInt < t0_0.toInt := b105; have t3 : lx129.toInt ≤ 10 := i150; have t4 : y175.toInt ≤ 0 := b177; have t5 : a180.toInt = (-1000) * lx129.toInt := b182; have t6 : a183.toInt = a180.toInt - lx59.toInt := b185; omega)), (show lx132.toInt ≤ a183.toInt + 1000000 from (by have t1 : 0 ≤ t0_0.toInt ∧ t0_0.toInt ≤ 4100 := btt0_0; have t2 : lx59.toInt < t0_0.toInt := b105; have t3 : lx129.toInt ≤ 10 := i150; have t4 : lx132.toInt ≤ 2 := i152; have t5 : a180.toInt = (-1000) * lx129.toInt := b182; have t6 : a183.toInt = a180.toInt - lx59.toInt := b185; omega)), (show lx135.toInt ≤ a183.toInt + 1000000 from (by have t1 : 0 ≤ t0_0.toInt ∧ t0_0.toInt ≤ 4100 := btt0_0; have t2 : lx59.toInt < t0_0.toInt := b105; have t3 : y109.toInt ≤ 0 := b111; have t4 : lx129.toInt ≤ 10 := i150; have t5 : lx135.toInt ≤ y109.toInt + 420005 := i167; have t6 : a180.toInt = (-1000) * lx129.toInt := b182; have t7 : a183.toInt = a180.toInt - lx59.toInt := b185; omega))⟩) d_9_5_182
        ·
          have b186 : q_F (lx129.toInt = 0) := (q_eqI c169)
          refine lv_aload_n hx hb d_9_5_133 rfl (lv_at hl 5 rfl) ?_
          refine q_get (ci := 1) (j := 2) (v := .int lx60) C0 V i_She rfl rfl hO144 (by decide) w_58 rfl d_9_5_134 ?_
          refine lv_aload_n hx hb d_9_5_137 rfl (lv_at hl 4 rfl) ?_
          refine q_get (ci := 11) (j := 8) (v := .ref (q 45)) C0 V i_Pri rfl rfl hO145 (by decide) w_393 rfl d_9_5_138 ?_
          refine q_get (ci := 1) (j := 2) (v := .int lx135) C0 V i_She rfl rfl hO146 (by decide) w_58 rfl d_9_5_141 ?_
          refine lv_aload_n hx hb d_9_5_144 rfl (lv_at hl 4 rfl) ?_
          refine q_get (ci := 11) (j := 6) (v := .ref (q 47)) C0 V i_Pri rfl rfl hO145 (by decide) w_391 rfl d_9_5_145 ?_
          refine q_get (ci := 10) (j := 2) (v := .int lx138) C0 V i_Dir rfl rfl hO147 (by decide) w_358 rfl d_9_5_148 ?_
          refine q_max C0 hl.1 rfl w_1890 w_803 w_7 w_804 ⟨Nat.le_of_ble_eq_true rfl, Nat.le_of_ble_eq_true rfl⟩ ⟨Nat.le_of_ble_eq_true rfl, Nat.le_of_ble_eq_true rfl⟩ d_9_5_151 ?_
          obtain ⟨a187, e188⟩ := q_nm (if lx135 < lx138 then lx138 else lx135 : Int32)
          refine q_ti (v := a187) e188 ?_
          have b189 : q_F (lx135.toInt ≤ a187.toInt ∧ lx138.toInt ≤ a187.toInt ∧ (a187.toInt = lx135.toInt ∨ a187.toInt = lx138.toInt)) := (by rw [← e188]; show lx135.toInt ≤ (if lx135 < lx138 then lx138 else lx135 : Int32).toInt ∧ lx138.toInt ≤ (if lx135 < lx138 then lx138 else lx135 : Int32).toInt ∧ ((if lx135 < lx138 then lx138 else lx135 : Int32).toInt = lx135.toInt ∨ (if lx135 < lx138 then lx138 else lx135 : Int32).toInt = lx138.toInt); exact s_max (a := lx135) (b := lx138))
          refine lv_iadd hx hb d_9_5_154 ?_
          obtain ⟨a190, e191⟩ := q_nm (lx60 + a187 : Int32)
          refine q_ti (v := a190) e191 ?_
          have b192 : q_F (a190.toInt = lx60.toInt + a187.toInt) := (by rw [← e191]; show (lx60 + a187 : Int32).toInt = lx60.toInt + a187.toInt; exact q_addI (x := lx60.toInt) (y := a187.toInt) rfl rfl (by have t1 : 0 ≤ y32.toInt := b33; have t2 : y32.toInt ≤ lx60.toInt := i87; have t3 : 0 ≤ lx138.toInt + 1 := i155; have t4 : lx135.toInt ≤ a187.toInt ∧ lx138.toInt ≤ a187.toInt ∧ (a187.toInt = lx135.toInt ∨ a187.toInt = lx138.toInt) := b189; have t5 : lx60.toInt ≤ 1000000 := i74; have t6 : y109.toInt ≤ 0 := b111; have t7 : lx138.toInt ≤ 9999 := i156; have t8 : lx135.toInt ≤ y109.toInt + 420005 := i167; omega) (by have t1 : 0 ≤ y32.toInt := b33; have t2 : y32.toInt ≤ lx60.toInt := i87; have t3 : 0 ≤ lx138.toInt + 1 := i155; have t4 : lx135.toInt ≤ a187.toInt ∧ lx138.toInt ≤ a187.toInt ∧ (a187.toInt = lx135.toInt ∨ a187.toInt = lx138.toInt) := b189; have t5 : lx60.toInt ≤ 1000000 := i74; have t6 : y109.toInt ≤ 0 := b111; have t7 : lx138.toInt ≤ 9999 := i156; have t8 : lx135.toInt ≤ y109.toInt + 420005 := i167; omega))
          refine lv_sipush (v := 4096) hx hb d_9_5_155 (by decide) ?_
          refine lv_icmp_le (tgt := 165) hx hb d_9_5_158 (by decide) (fun c193 => ?_) (fun c193 => ?_)
          ·
            have b194 : q_F (a190.toInt ≤ 4096) := (q_leI c193)
            refine lv_iload hx hb d_9_5_165 (lv_at hl 0 rfl) ?_
            refine lv_if_eq (tgt := 183) hx hb d_9_5_167 (by decide) (fun c195 => ?_) (fun c195 => absurd (show lx129.toInt ≠ 0 from q_neI c195) (by have t1 : 0 ≤ lx129.toInt := i149; have t2 : lx129.toInt = 0 := b186; omega))
            refine lv_aload_n hx hb d_9_5_183 rfl (lv_at hl 4 rfl) ?_
            refine lv_aload_n hx hb d_9_5_184 rfl (lv_at hl 5 rfl) ?_
            refine q_gov V (q_runV (As := [.ref (q 3)]) (rest := []) (d := 4) (mc := 0) (ms := 0) (ci := 11) C0 V rfl LV_Pri_125 (T_Pri_widen l D g q w168   hI lx131 lx132 lx133 lx134 hO145 lx135 hO146 lx136 lx137 lx138 lx139 lx140 lx141 lx142 hO147 lx60 hO144 (by have t1 : 0 ≤ lx138.toInt + 1 := i155; have t2 : lx135.toInt ≤ a187.toInt ∧ lx138.toInt ≤ a187.toInt ∧ (a187.toInt = lx135.toInt ∨ a187.toInt = lx138.toInt) := b189; have t3 : a190.toInt = lx60.toInt + a187.toInt := b192; have t4 : a190.toInt ≤ 4096 := b194; omega) (by have t1 : y109.toInt ≤ 0 := b111; have t2 : lx135.toInt ≤ y109.toInt + 420005 := i167; omega) (by have t1 : lx132.toInt ≤ 2 := i152; omega) _) rfl rfl hO145 rfl hl.1 rfl (Nat.le_of_ble_eq_true rfl) ⟨by decide, by decide⟩ ⟨Nat.le_of_ble_eq_true rfl, Nat.le_of_ble_eq_true rfl⟩ d_9_5_185) (fun u196 H locs hp197 V => ?_)
            obtain ⟨hI, hu205, y199, hO198, b200, b201, b202, b203⟩ := hp197
            replace hO198 : u196[3]? = (some (q 3, .inr (1, [.ref (q 4), .int 11008, .int y199])) : Option (Nat × va_E)) := hO198
            replace b200 : q_F (y199.toInt ≤ lx132.toInt + 490001) := b200
            replace b201 : q_F (y199.toInt ≤ lx135.toInt + 340000) := b201
            replace b202 : q_F (lx60.toInt ≤ y199.toInt) := b202
            replace b203 : q_F (y199.toInt ≤ lx60.toInt + 770000) := b203
            replace hO143 := (hu205 _ (by decide)).trans hO143
            replace hO145 := (hu205 _ (by decide)).trans hO145
            replace hO146 := (hu205 _ (by decide)).trans hO146
            replace hO147 := (hu205 _ (by decide)).trans hO147
            replace hF := q_uc hF hu205 (by simp)
            refine lv_iload hx hb d_9_5_188 (lv_at hl 1 rfl) ?_
            refine lv_istore_n (lv' := [(2, .int lx130), (5, .int lx129), (4, .int lx130), (3, .int lx58), (0, .ref (q 40)), (1, .ref (q 3))]) hx hb d_9_5_190 rfl hl (by decide) rfl (fun ls hl => ?_)
            obtain ⟨a206, e207⟩ := q_nm (lx58 + 1 : Int32)
            have b208 : q_F (a206.toInt = lx58.toInt + 1) := (by rw [← e207]; exact q_addI (y := 1) rfl (by decide) (by have t1 : t4_6.toInt ≤ lx58.toInt + lx72.toInt := i90; have t2 : lx72.toInt ≤ lx58.toInt + t4_6.toInt := i91; have t3 : lx58.toInt ≤ 257 := i73; omega) (by have t1 : t4_6.toInt ≤ lx58.toInt + lx72.toInt := i90; have t2 : lx72.toInt ≤ lx58.toInt + t4_6.toInt := i91; have t3 : lx58.toInt ≤ 257 := i73; omega))
            refine lv_iinc (v := a206) (lv' := [(3, .int a206), (2, .int lx130), (5, .int lx129), (4, .int lx130), (0, .ref (q 40)), (1, .ref (q 3))]) hx hb d_9_5_191 hl (k := 3) rfl (e207) (by decide) rfl (fun ls hl => ?_)
            refine lv_goto (tgt := 18) hx hb d_9_5_194 (by decide) ?_
            exact ih93 ((a206 : Int32), (lx130 : Int32), (y199 : Int32), (lx131 : Int32), (lx132 : Int32), (lx133 : Int32), (lx134 : Int32), (lx135 : Int32), (lx136 : Int32), (lx137 : Int32), (lx138 : Int32), (lx139 : Int32), (lx140 : Int32), (lx141 : Int32), (lx142 : Int32)) _ _ _ _ (show (257 - a206.toInt).toNat < (257 - lx58.toInt).toNat from by have t1 : a206.toInt = lx58.toInt + 1 := b208; have t2 : lx58.toInt ≤ 257 := i73; have t3 : lx58.toInt ≤ 256 := b102; omega) ⟨(show q_F (a206.toInt ≤ 257) from (show a206.toInt ≤ 257 from by have t1 : lx58.toInt ≤ 256 := b102; have t2 : a206.toInt = lx58.toInt + 1 := b208; omega)), (show q_F (y199.toInt ≤ 1000000) from (show y199.toInt ≤ 1000000 from by have t1 : lx132.toInt ≤ 2 := i152; have t2 : y199.toInt ≤ lx132.toInt + 490001 := b200; omega)), (show q_F (0 ≤ lx132.toInt + 1) from (show 0 ≤ lx132.toInt + 1 from by have t1 : 0 ≤ lx132.toInt + 1 := i151; omega)), (show q_F (lx132.toInt ≤ 1000000) from (show lx132.toInt ≤ 1000000 from by have t1 : lx132.toInt ≤ 2 := i152; omega)), (show q_F (0 ≤ lx134.toInt + 1) from (show 0 ≤ lx134.toInt + 1 from by have t1 : 0 ≤ lx134.toInt + 1 := i153; omega)), (show q_F (lx134.toInt ≤ 8) from (show lx134.toInt ≤ 8 from by have t1 : lx134.toInt ≤ 8 := i154; omega)), (show q_F (0 ≤ lx135.toInt) from (show 0 ≤ lx135.toInt from by have t1 : 0 ≤ y109.toInt := b110; have t2 : y109.toInt ≤ lx135.toInt := i166; omega)), (show q_F (lx135.toInt ≤ 1000000) from (show lx135.toInt ≤ 1000000 from by have t1 : y109.toInt ≤ 0 := b111; have t2 : lx135.toInt ≤ y109.toInt + 420005 := i167; omega)), (show q_F (0 ≤ lx138.toInt + 1) from (show 0 ≤ lx138.toInt + 1 from by have t1 : 0 ≤ lx138.toInt + 1 := i155; omega)), (show q_F (lx138.toInt ≤ 9999) from (show lx138.toInt ≤ 9999 from by have t1 : lx138.toInt ≤ 9999 := i156; omega)), (show q_F (0 ≤ lx139.toInt + 1) from (show 0 ≤ lx139.toInt + 1 from by have t1 : 0 ≤ lx139.toInt + 1 := i157; omega)), (show q_F (lx139.toInt ≤ 9999) from (show lx139.toInt ≤ 9999 from by have t1 : lx139.toInt ≤ 9999 := i158; omega)), (show q_F (0 ≤ lx142.toInt) from (show 0 ≤ lx142.toInt from by have t1 : 0 ≤ lx142.toInt := i161; omega)), (show q_F (lx142.toInt ≤ 1) from (show lx142.toInt ≤ 1 from by have t1 : lx142.toInt ≤ 1 := i162; omega)), (show q_F (y32.toInt ≤ y199.toInt) from (show y32.toInt ≤ y199.toInt from by have t1 : y32.toInt ≤ lx60.toInt := i87; have t2 : lx60.toInt ≤ y199.toInt := b202; omega)), (show q_F (t2_0.toInt ≤ lx131.toInt) from (show t2_0.toInt ≤ lx131.toInt from by have t1 : t2_0.toInt ≤ lx61.toInt := i88; have t2 : lx61.toInt ≤ lx131.toInt := i163; omega)), (show q_F (lx131.toInt ≤ t2_0.toInt) from (show lx131.toInt ≤ t2_0.toInt from by have t1 : lx61.toInt ≤ t2_0.toInt := i89; have t2 : lx131.toInt ≤ lx61.toInt := i164; omega)), (show q_F (t4_6.toInt ≤ a206.toInt + lx142.toInt) from (show t4_6.toInt ≤ a206.toInt + lx142.toInt from by have t1 : 0 ≤ t4_6.toInt ∧ t4_6.toInt ≤ 1 := btt4_6; have t2 : t4_6.toInt ≤ lx58.toInt + lx72.toInt := i90; have t3 : lx72.toInt ≤ lx58.toInt + t4_6.toInt := i91; have t4 : 0 ≤ lx142.toInt := i161; have t5 : a206.toInt = lx58.toInt + 1 := b208; omega)), (show q_F (lx142.toInt ≤ a206.toInt + t4_6.toInt) from (show lx142.toInt ≤ a206.toInt + t4_6.toInt from by have t1 : 0 ≤ t4_6.toInt ∧ t4_6.toInt ≤ 1 := btt4_6; have t2 : t4_6.toInt ≤ lx58.toInt + lx72.toInt := i90; have t3 : lx72.toInt ≤ lx58.toInt + t4_6.toInt := i91; have t4 : lx142.toInt ≤ 1 := i162; have t5 : a206.toInt = lx58.toInt + 1 := b208; omega)), (show q_F (lx134.toInt + 1 ≤ 9 * a206.toInt) from (show lx134.toInt + 1 ≤ 9 * a206.toInt from by have t1 : t4_6.toInt ≤ lx58.toInt + lx72.toInt := i90; have t2 : lx72.toInt ≤ lx58.toInt + t4_6.toInt := i91; have t3 : lx134.toInt ≤ 8 := i154; have t4 : a206.toInt = lx58.toInt + 1 := b208; omega)), V, q_lw hl (q_lw1 0 rfl (q_lw1 1 rfl (q_lw1 4 rfl (q_lw1 5 rfl q_lw0)))), hI, hF, hO143, hO198, hO145, hO146, hO147⟩
          ·
            have b209 : q_F (4096 < a190.toInt) := (q_nleI c193)
            refine lv_bipush (v := 12) hx hb d_9_5_161 (by decide) ?_
            refine lv_istore (lv' := [(5, .int 12), (4, .int lx130), (3, .int lx58), (2, .int lx59), (0, .ref (q 40)), (1, .ref (q 3))]) hx hb d_9_5_163 hl (by decide) rfl (fun ls hl => ?_)
            refine lv_iload hx hb d_9_5_165 (lv_at hl 0 rfl) ?_
            refine lv_if_eq (tgt := 183) hx hb d_9_5_167 (by decide) (fun c210 => absurd c210 (by decide)) (fun c210 => ?_)
            refine lv_aload_n hx hb d_9_5_170 rfl (lv_at hl 5 rfl) ?_
            refine q_gov V (q_runV (As := []) (rest := []) (d := 1) (mc := 0) (ms := 0) (ci := 1) C0 V rfl LV_Pri_70 (T_She_clear l D g q w168 3 11008 1376 1000000 (n_h3 g q)  hI lx60 hO144  _) rfl rfl hO144 rfl hl.1 rfl (Nat.le_of_ble_eq_true rfl) ⟨by decide, by decide⟩ ⟨Nat.le_of_ble_eq_true rfl, Nat.le_of_ble_eq_true rfl⟩ d_9_5_171) (fun u211 H locs hp212 V => ?_)
            obtain ⟨hI, hu218, y214, hO213, b215, b216⟩ := hp212
            replace hO213 : u211[3]? = (some (q 3, .inr (1, [.ref (q 4), .int 11008, .int y214])) : Option (Nat × va_E)) := hO213
            replace b215 : q_F (0 ≤ y214.toInt) := b215
            replace b216 : q_F (y214.toInt ≤ 0) := b216
            replace hO143 := (hu218 _ (by decide)).trans hO143
            replace hO145 := (hu218 _ (by decide)).trans hO145
            replace hO146 := (hu218 _ (by decide)).trans hO146
            replace hO147 := (hu218 _ (by decide)).trans hO147
            replace hF := q_uc hF hu218 (by simp)
            refine lv_sipush (v := (-1000)) hx hb d_9_5_174 (by decide) ?_
            refine lv_iload hx hb d_9_5_177 (lv_at hl 0 rfl) ?_
            refine lv_imul hx hb d_9_5_179 ?_
            refine q_ti (v := (-12000)) (by decide) ?_
            refine lv_iload_n hx hb d_9_5_180 rfl (lv_at hl 3 rfl) ?_
            refine lv_isub hx hb d_9_5_181 ?_
            obtain ⟨a219, e220⟩ := q_nm ((-12000) - lx59 : Int32)
            refine q_ti (v := a219) e220 ?_
            have b221 : q_F (a219.toInt = (-12000) - lx59.toInt) := (by rw [← e220]; show ((-12000) - lx59 : Int32).toInt = (-12000) - lx59.toInt; exact q_subI (x := (-12000)) (y := lx59.toInt) (by decide) rfl (by have t1 : 0 ≤ t0_0.toInt ∧ t0_0.toInt ≤ 4100 := btt0_0; have t2 : lx59.toInt < t0_0.toInt := b105; have t3 : a116.toInt = lx59.toInt + 1 := b118; have _ := q_lo32 (x := a116); have _ := q_hi32 (x := a116); omega) (by have t1 : 0 ≤ t0_0.toInt ∧ t0_0.toInt ≤ 4100 := btt0_0; have t2 : lx59.toInt < t0_0.toInt := b105; have t3 : a116.toInt = lx59.toInt + 1 := b118; have _ := q_lo32 (x := a116); have _ := q_hi32 (x := a116); omega))
            exact q_reti C0 V (⟨hI, hF, y214, lx131, lx132, lx133, lx134, lx135, lx136, lx137, lx138, lx139, lx140, lx141, lx142, hO213, hO145, hO146, hO147, (show a219.toInt ≤ 2147482648 from (by have t1 : a219.toInt = (-12000) - lx59.toInt := b221; have _ := q_lo32 (x := lx59); have _ := q_hi32 (x := lx59); omega)), (show 0 ≤ y214.toInt from (by have t1 : 0 ≤ y214.toInt := b215; omega)), (show y214.toInt ≤ 1000000 from (by have t1 : y214.toInt ≤ 0 := b216; omega)), (show 0 ≤ lx132.toInt + 1 from (by have t1 : 0 ≤ lx132.toInt + 1 := i151; omega)), (show lx132.toInt ≤ 1000000 from (by have t1 : lx132.toInt ≤ 2 := i152; omega)), (show 0 ≤ lx134.toInt + 1 from (by have t1 : 0 ≤ lx134.toInt + 1 := i153; omega)), (show lx134.toInt ≤ 8 from (by have t1 : lx134.toInt ≤ 8 := i154; omega)), (show 0 ≤ lx135.toInt from (by have t1 : 0 ≤ y109.toInt := b110; have t2 : y109.toInt ≤ lx135.toInt := i166; omega)), (show lx135.toInt ≤ 1000000 from (by have t1 : y109.toInt ≤ 0 := b111; have t2 : lx135.toInt ≤ y109.toInt + 420005 := i167; omega)), (show 0 ≤ lx138.toInt + 1 from (by have t1 : 0 ≤ lx138.toInt + 1 := i155; omega)), (show lx138.toInt ≤ 9999 from (by have t1 : lx138.toInt ≤ 9999 := i156; omega)), (show 0 ≤ lx139.toInt + 1 from (by have t1 : 0 ≤ lx139.toInt + 1 := i157; omega)), (show lx139.toInt ≤ 9999 from (by have t1 : lx139.toInt ≤ 9999 := i158; omega)), (show 0 ≤ lx142.toInt from (by have t1 : 0 ≤ lx142.toInt := i161; omega)), (show lx142.toInt ≤ 1 from (by have t1 : lx142.toInt ≤ 1 := i162; omega)), (show t2_0.toInt ≤ lx131.toInt from (by have t1 : t2_0.toInt ≤ lx61.toInt := i88; have t2 : lx61.toInt ≤ lx131.toInt := i163; omega)), (show lx131.toInt ≤ t2_0.toInt from (by have t1 : lx61.toInt ≤ t2_0.toInt := i89; have t2 : lx131.toInt ≤ lx61.toInt := i164; omega)), (show y214.toInt ≤ a219.toInt + 12255 from (by have t1 : t0_0.toInt ≤ 256 := pre0; have t2 : lx59.toInt < t0_0.toInt := b105; have t3 : y214.toInt ≤ 0 := b216; have t4 : a219.toInt = (-12000) - lx59.toInt := b221; omega)), (show lx132.toInt ≤ a219.toInt + 1000000 from (by have t1 : 0 ≤ t0_0.toInt ∧ t0_0.toInt ≤ 4100 := btt0_0; have t2 : lx59.toInt < t0_0.toInt := b105; have t3 : lx132.toInt ≤ 2 := i152; have t4 : a219.toInt = (-12000) - lx59.toInt := b221; omega)), (show lx135.toInt ≤ a219.toInt + 1000000 from (by have t1 : 0 ≤ t0_0.toInt ∧ t0_0.toInt ≤ 4100 := btt0_0; have t2 : lx59.toInt < t0_0.toInt := b105; have t3 : y109.toInt ≤ 0 := b111; have t4 : lx135.toInt ≤ y109.toInt + 420005 := i167; have t5 : a219.toInt = (-12000) - lx59.toInt := b221; omega))⟩) d_9_5_182
      ·
        intro J148
        refine lv_icmp_ne (tgt := 105) hx hb d_9_5_67 (by decide) (fun c222 => ?_) (fun c222 => ?_)
        ·
          have b223 : q_F (a124.toInt ≠ 37) := (q_neI c222)
          refine lv_aload_n hx hb d_9_5_105 rfl (lv_at hl 4 rfl) ?_
          refine q_get (ci := 11) (j := 6) (v := .ref (q 47)) C0 V i_Pri rfl rfl hO97 (by decide) w_391 rfl d_9_5_106 ?_
          refine q_gov V (q_runV (As := []) (rest := []) (d := 1) (mc := 0) (ms := 0) (ci := 10) C0 V rfl LV_Pri_110 (T_Dir_setPlain l D g q w114   hI lx66 lx67 lx68 lx69 lx70 lx71 lx72 hO99 t0_0 hO95  _) rfl rfl hO99 rfl hl.1 rfl (Nat.le_of_ble_eq_true rfl) ⟨by decide, by decide⟩ ⟨Nat.le_of_ble_eq_true rfl, Nat.le_of_ble_eq_true rfl⟩ d_9_5_109) (fun u224 H locs hp225 V => ?_)
          obtain ⟨hI, hu249, y227, y228, y229, y230, y231, y232, y233, hO226, b234, b235, b236, b237, b238, b239, b240, b241, b242, b243, b244, b245, b246, b247⟩ := hp225
          replace hO226 : u224[47]? = (some (q 47, .inr (10, [.int y227, .int y228, .int y229, .int y230, .int y231, .int y232, .ref (q 1), .int y233])) : Option (Nat × va_E)) := hO226
          replace b234 : q_F (0 ≤ y231.toInt + 1) := b234
          replace b235 : q_F (y231.toInt + 1 ≤ 0) := b235
          replace b236 : q_F (lx66.toInt ≤ y227.toInt) := b236
          replace b237 : q_F (y227.toInt ≤ lx66.toInt) := b237
          replace b238 : q_F (lx69.toInt ≤ y230.toInt) := b238
          replace b239 : q_F (y230.toInt ≤ lx69.toInt) := b239
          replace b240 : q_F (lx71.toInt ≤ y232.toInt) := b240
          replace b241 : q_F (y232.toInt ≤ lx71.toInt) := b241
          replace b242 : q_F (lx72.toInt ≤ y233.toInt) := b242
          replace b243 : q_F (y233.toInt ≤ lx72.toInt) := b243
          replace b244 : q_F (y231.toInt + 1 ≤ y228.toInt) := b244
          replace b245 : q_F (y228.toInt ≤ y231.toInt + 1) := b245
          replace b246 : q_F (y231.toInt ≤ y229.toInt) := b246
          replace b247 : q_F (y229.toInt ≤ y231.toInt) := b247
          replace hO95 := (hu249 _ (by decide)).trans hO95
          replace hO96 := (hu249 _ (by decide)).trans hO96
          replace hO97 := (hu249 _ (by decide)).trans hO97
          replace hO108 := (hu249 _ (by decide)).trans hO108
          replace hF := q_uc hF hu249 (by simp)
          refine lv_aload_n hx hb d_9_5_112 rfl (lv_at hl 4 rfl) ?_
          refine q_get (ci := 11) (j := 8) (v := .ref (q 45)) C0 V i_Pri rfl rfl hO97 (by decide) w_393 rfl d_9_5_113 ?_
          refine lv_aload_n hx hb d_9_5_116 rfl (lv_at hl 4 rfl) ?_
          refine q_get (ci := 11) (j := 5) (v := .ref (q 1)) C0 V i_Pri rfl rfl hO97 (by decide) w_390 rfl d_9_5_117 ?_
          refine lv_iload_n hx hb d_9_5_120 rfl (lv_at hl 3 rfl) ?_
          refine lv_i2l hx hb d_9_5_121 rfl ?_
          obtain ⟨j250, e251⟩ := q_nm (lx59.toInt64 : Int64)
          refine q_tl (v := j250) e251 ?_
          have b252 : q_F (j250.toInt = lx59.toInt) := (by rw [← e251]; show (lx59.toInt64 : Int64).toInt = lx59.toInt; exact q_i2l rfl)
          refine q_goi V (q_runV (As := [.long j250]) (rest := [.ref (q 45)]) (d := 1) (mc := 0) (ms := 0) (ci := 1) C0 V rfl LV_Pri_93 (T_She_at l D g q u224 1 4100 513 4100 (n_h1 g q) j250 hI   _) rfl rfl hO95 rfl hl.1 rfl (Nat.le_of_ble_eq_true rfl) ⟨by decide, by decide⟩ ⟨Nat.le_of_ble_eq_true rfl, Nat.le_of_ble_eq_true rfl⟩ d_9_5_122) (fun a255 u253 H locs hp254 V => ?_)
          obtain ⟨rfl, b256, b257, pu258⟩ := hp254
          replace b256 : q_F (0 ≤ a255.toInt) := b256
          replace b257 : q_F (a255.toInt ≤ 255) := b257
          refine q_gov V (q_runV (As := [.int a255]) (rest := []) (d := 1) (mc := 0) (ms := 0) (ci := 1) C0 V rfl LV_Pri_113 (T_She_add l D g q u224 45 4104 513 1000000 (n_h45 g q) a255 hI y109 hO108 (by have y0 : (4104 : Int32).toInt = 4104 := rfl; have y1 : (513 : Int32).toInt = 513 := rfl; have y2 : (1000000 : Int32).toInt = 1000000 := rfl; have t1 : y109.toInt ≤ 0 := b111; omega) _) rfl rfl hO108 rfl hl.1 rfl (Nat.le_of_ble_eq_true rfl) ⟨by decide, by decide⟩ ⟨Nat.le_of_ble_eq_true rfl, Nat.le_of_ble_eq_true rfl⟩ d_9_5_125) (fun u260 H locs hp261 V => ?_)
          obtain ⟨hI, hu267, y263, hO262, b264, b265⟩ := hp261
          replace hO262 : u260[45]? = (some (q 45, .inr (1, [.ref (q 46), .int 4104, .int y263])) : Option (Nat × va_E)) := hO262
          replace b264 : q_F (y109.toInt + 1 ≤ y263.toInt) := b264
          replace b265 : q_F (y263.toInt ≤ y109.toInt + 1) := b265
          replace hO95 := (hu267 _ (by decide)).trans hO95
          replace hO96 := (hu267 _ (by decide)).trans hO96
          replace hO97 := (hu267 _ (by decide)).trans hO97
          replace hO226 := (hu267 _ (by decide)).trans hO226
          replace hF := q_uc hF hu267 (by simp)
          exact J148 ((0 : Int32), (a116 : Int32), (lx61 : Int32), ((-1) : Int32), (lx63 : Int32), (lx64 : Int32), (y263 : Int32), (y227 : Int32), (y228 : Int32), (y229 : Int32), (y230 : Int32), (y231 : Int32), (y232 : Int32), (y233 : Int32)) _ _ _ _ ⟨(show q_F (0 ≤ 0) from (show 0 ≤ 0 from by omega)), (show q_F (0 ≤ 10) from (show 0 ≤ 10 from by omega)), (show q_F (0 ≤ (-1) + 1) from (show 0 ≤ (-1) + 1 from by omega)), (show q_F ((-1) ≤ 2) from (show (-1) ≤ 2 from by omega)), (show q_F (0 ≤ lx64.toInt + 1) from (show 0 ≤ lx64.toInt + 1 from by have t1 : 0 ≤ lx64.toInt + 1 := i77; omega)), (show q_F (lx64.toInt ≤ 8) from (show lx64.toInt ≤ 8 from by have t1 : lx64.toInt ≤ 8 := i78; omega)), (show q_F (0 ≤ y229.toInt + 1) from (show 0 ≤ y229.toInt + 1 from by have t1 : 0 ≤ y231.toInt + 1 := b234; have t2 : y231.toInt ≤ y229.toInt := b246; omega)), (show q_F (y229.toInt ≤ 9999) from (show y229.toInt ≤ 9999 from by have t1 : y231.toInt + 1 ≤ 0 := b235; have t2 : y229.toInt ≤ y231.toInt := b247; omega)), (show q_F (0 ≤ y230.toInt + 1) from (show 0 ≤ y230.toInt + 1 from by have t1 : 0 ≤ lx69.toInt + 1 := i83; have t2 : lx69.toInt ≤ y230.toInt := b238; omega)), (show q_F (y230.toInt ≤ 9999) from (show y230.toInt ≤ 9999 from by have t1 : lx69.toInt ≤ 9999 := i84; have t2 : y230.toInt ≤ lx69.toInt := b239; omega)), (show q_F (0 ≤ y231.toInt + 1) from (show 0 ≤ y231.toInt + 1 from by have t1 : 0 ≤ y231.toInt + 1 := b234; omega)), (show q_F (y231.toInt ≤ 255) from (show y231.toInt ≤ 255 from by have t1 : y231.toInt + 1 ≤ 0 := b235; omega)), (show q_F (0 ≤ y233.toInt) from (show 0 ≤ y233.toInt from by have t1 : 0 ≤ lx72.toInt := i85; have t2 : lx72.toInt ≤ y233.toInt := b242; omega)), (show q_F (y233.toInt ≤ 1) from (show y233.toInt ≤ 1 from by have t1 : lx72.toInt ≤ 1 := i86; have t2 : y233.toInt ≤ lx72.toInt := b243; omega)), (show q_F (lx61.toInt ≤ lx61.toInt) from (show lx61.toInt ≤ lx61.toInt from by omega)), (show q_F (lx61.toInt ≤ lx61.toInt) from (show lx61.toInt ≤ lx61.toInt from by omega)), (show q_F (lx64.toInt ≤ lx64.toInt + 8) from (show lx64.toInt ≤ lx64.toInt + 8 from by omega)), (show q_F (y109.toInt ≤ y263.toInt) from (show y109.toInt ≤ y263.toInt from by have t1 : y109.toInt + 1 ≤ y263.toInt := b264; omega)), (show q_F (y263.toInt ≤ y109.toInt + 420005) from (show y263.toInt ≤ y109.toInt + 420005 from by have t1 : y263.toInt ≤ y109.toInt + 1 := b265; omega)), V, q_lw hl (q_lw1 0 rfl (q_lw1 1 rfl (q_lw1 2 rfl (q_lw1 3 rfl (q_lw1 4 rfl (q_lw1 5 rfl q_lw0)))))), hI, hF, hO95, hO96, hO97, hO262, hO226⟩
        ·
          have b268 : q_F (a124.toInt = 37) := (q_eqI c222)
          refine lv_aload_n hx hb d_9_5_70 rfl (lv_at hl 4 rfl) ?_
          refine q_get (ci := 11) (j := 6) (v := .ref (q 47)) C0 V i_Pri rfl rfl hO97 (by decide) w_391 rfl d_9_5_71 ?_
          refine lv_iload_n hx hb d_9_5_74 rfl (lv_at hl 3 rfl) ?_
          refine q_gov V (q_runV (As := [.int lx59]) (rest := []) (d := 6) (mc := 0) (ms := 0) (ci := 10) C0 V rfl LV_Pri_97 (T_Dir_parse l D g q w114  lx59 hI lx66 lx67 lx68 lx69 lx70 lx71 lx72 hO99 t0_0 hO95  _) rfl rfl hO99 rfl hl.1 rfl (Nat.le_of_ble_eq_true rfl) ⟨by decide, by decide⟩ ⟨Nat.le_of_ble_eq_true rfl, Nat.le_of_ble_eq_true rfl⟩ d_9_5_75) (fun u269 H locs hp270 V => ?_)
          obtain ⟨hI, hu290, y272, y273, y274, y275, y276, y277, y278, hO271, b279, b280, b281, b282, b283, b284, b285, b286, b287, b288⟩ := hp270
          replace hO271 : u269[47]? = (some (q 47, .inr (10, [.int y272, .int y273, .int y274, .int y275, .int y276, .int y277, .ref (q 1), .int y278])) : Option (Nat × va_E)) := hO271
          replace b279 : q_F (0 ≤ y272.toInt + 1) := b279
          replace b280 : q_F (y272.toInt ≤ 9999) := b280
          replace b281 : q_F (0 ≤ y274.toInt + 1) := b281
          replace b282 : q_F (y274.toInt ≤ 9999) := b282
          replace b283 : q_F (0 ≤ y275.toInt + 1) := b283
          replace b284 : q_F (y275.toInt ≤ 9999) := b284
          replace b285 : q_F (0 ≤ y276.toInt + 1) := b285
          replace b286 : q_F (y276.toInt ≤ 255) := b286
          replace b287 : q_F (0 ≤ y278.toInt) := b287
          replace b288 : q_F (y278.toInt ≤ 1) := b288
          replace hO95 := (hu290 _ (by decide)).trans hO95
          replace hO96 := (hu290 _ (by decide)).trans hO96
          replace hO97 := (hu290 _ (by decide)).trans hO97
          replace hO108 := (hu290 _ (by decide)).trans hO108
          replace hF := q_uc hF hu290 (by simp)
          refine lv_aload_n hx hb d_9_5_78 rfl (lv_at hl 4 rfl) ?_
          refine q_get (ci := 11) (j := 6) (v := .ref (q 47)) C0 V i_Pri rfl rfl hO97 (by decide) w_391 rfl d_9_5_79 ?_
          refine q_get (ci := 10) (j := 5) (v := .int y277) C0 V i_Dir rfl rfl hO271 (by decide) w_364 rfl d_9_5_82 ?_
          refine lv_istore (lv' := [(4, .int y277), (5, .int 0), (3, .int lx58), (2, .int lx59), (0, .ref (q 40)), (1, .ref (q 3))]) hx hb d_9_5_85 hl (by decide) rfl (fun ls hl => ?_)
          refine lv_aload_n hx hb d_9_5_87 rfl (lv_at hl 4 rfl) ?_
          obtain ⟨gq291, hg292⟩ : ∃ z, z = F_Dir_isOneOf_e_7 y276 := ⟨_, rfl⟩
          have b293 : q_F (0 ≤ gq291.toInt ∧ gq291.toInt ≤ 1) := (by rw [hg292]; exact n_oo01)
          refine q_goi V (q_runV (As := []) (rest := []) (d := 8) (mc := 0) (ms := 0) (ci := 11) C0 V rfl LV_Pri_103 (T_Pri_findFault l D g q u269   hI lx61 (-1) lx63 lx64 hO97 y272 y273 y274 y275 y276 y277 y278 hO271 gq291 hg292  _) rfl rfl hO97 rfl hl.1 rfl (Nat.le_of_ble_eq_true rfl) ⟨by decide, by decide⟩ ⟨Nat.le_of_ble_eq_true rfl, Nat.le_of_ble_eq_true rfl⟩ d_9_5_88) (fun a296 u294 H locs hp295 V => ?_)
          obtain ⟨hI, hu316, y298, y299, y300, y301, hO297, b302, b303, b304, b305, b306, b307, b308, b309, b310, b311, b312, b313, b314⟩ := hp295
          replace hO297 : u294[40]? = (some (q 40, .inr (11, [.int y298, .ref (q 41), .ref (q 42), .ref (q 43), .ref (q 44), .ref (q 1), .ref (q 47), .ref (q 36), .ref (q 45), .int y299, .int y300, .int y301])) : Option (Nat × va_E)) := hO297
          replace b302 : q_F (0 ≤ a296.toInt) := b302
          replace b303 : q_F (a296.toInt ≤ 10) := b303
          replace b304 : q_F (0 ≤ y301.toInt + 1) := b304
          replace b305 : q_F (y301.toInt ≤ 8) := b305
          replace b306 : q_F (lx61.toInt ≤ y298.toInt) := b306
          replace b307 : q_F (y298.toInt ≤ lx61.toInt) := b307
          replace b308 : q_F ((-1) ≤ y299.toInt) := b308
          replace b309 : q_F (y299.toInt ≤ (-1)) := b309
          replace b310 : q_F (lx64.toInt ≤ y301.toInt + 8) := b310
          replace b311 : q_F (a296.toInt ≤ y298.toInt + 9) := b311
          replace b312 : q_F (a296.toInt ≤ y301.toInt + 10) := b312
          replace b313 : q_F (0 ≤ a296.toInt + gq291.toInt + y301.toInt) := b313
          replace b314 : q_F (a296.toInt + gq291.toInt + y301.toInt ≤ 18) := b314
          replace hO95 := (hu316 _ (by decide)).trans hO95
          replace hO96 := (hu316 _ (by decide)).trans hO96
          replace hO108 := (hu316 _ (by decide)).trans hO108
          replace hO271 := (hu316 _ (by decide)).trans hO271
          replace hF := q_uc hF hu316 (by simp)
          refine lv_istore (lv' := [(5, .int a296), (4, .int y277), (3, .int lx58), (2, .int lx59), (0, .ref (q 40)), (1, .ref (q 3))]) hx hb d_9_5_91 hl (by decide) rfl (fun ls hl => ?_)
          refine lv_iload hx hb d_9_5_93 (lv_at hl 0 rfl) ?_
          refine lv_if_ne (tgt := 128) hx hb d_9_5_95 (by decide) (fun c317 => ?_) (fun c317 => ?_)
          ·
            have b318 : q_F (a296.toInt ≠ 0) := (q_neI c317)
            exact J148 ((a296 : Int32), (y277 : Int32), (y298 : Int32), (y299 : Int32), (y300 : Int32), (y301 : Int32), (y109 : Int32), (y272 : Int32), (y273 : Int32), (y274 : Int32), (y275 : Int32), (y276 : Int32), (y277 : Int32), (y278 : Int32)) _ _ _ _ ⟨(show q_F (0 ≤ a296.toInt) from (show 0 ≤ a296.toInt from by have t1 : 0 ≤ a296.toInt := b302; omega)), (show q_F (a296.toInt ≤ 10) from (show a296.toInt ≤ 10 from by have t1 : a296.toInt ≤ 10 := b303; omega)), (show q_F (0 ≤ y299.toInt + 1) from (show 0 ≤ y299.toInt + 1 from by have t1 : (-1) ≤ y299.toInt := b308; omega)), (show q_F (y299.toInt ≤ 2) from (show y299.toInt ≤ 2 from by have t1 : y299.toInt ≤ (-1) := b309; omega)), (show q_F (0 ≤ y301.toInt + 1) from (show 0 ≤ y301.toInt + 1 from by have t1 : 0 ≤ y301.toInt + 1 := b304; omega)), (show q_F (y301.toInt ≤ 8) from (show y301.toInt ≤ 8 from by have t1 : y301.toInt ≤ 8 := b305; omega)), (show q_F (0 ≤ y274.toInt + 1) from (show 0 ≤ y274.toInt + 1 from by have t1 : 0 ≤ y274.toInt + 1 := b281; omega)), (show q_F (y274.toInt ≤ 9999) from (show y274.toInt ≤ 9999 from by have t1 : y274.toInt ≤ 9999 := b282; omega)), (show q_F (0 ≤ y275.toInt + 1) from (show 0 ≤ y275.toInt + 1 from by have t1 : 0 ≤ y275.toInt + 1 := b283; omega)), (show q_F (y275.toInt ≤ 9999) from (show y275.toInt ≤ 9999 from by have t1 : y275.toInt ≤ 9999 := b284; omega)), (show q_F (0 ≤ y276.toInt + 1) from (show 0 ≤ y276.toInt + 1 from by have t1 : 0 ≤ y276.toInt + 1 := b285; omega)), (show q_F (y276.toInt ≤ 255) from (show y276.toInt ≤ 255 from by have t1 : y276.toInt ≤ 255 := b286; omega)), (show q_F (0 ≤ y278.toInt) from (show 0 ≤ y278.toInt from by have t1 : 0 ≤ y278.toInt := b287; omega)), (show q_F (y278.toInt ≤ 1) from (show y278.toInt ≤ 1 from by have t1 : y278.toInt ≤ 1 := b288; omega)), (show q_F (lx61.toInt ≤ y298.toInt) from (show lx61.toInt ≤ y298.toInt from by have t1 : lx61.toInt ≤ y298.toInt := b306; omega)), (show q_F (y298.toInt ≤ lx61.toInt) from (show y298.toInt ≤ lx61.toInt from by have t1 : y298.toInt ≤ lx61.toInt := b307; omega)), (show q_F (lx64.toInt ≤ y301.toInt + 8) from (show lx64.toInt ≤ y301.toInt + 8 from by have t1 : lx64.toInt ≤ y301.toInt + 8 := b310; omega)), (show q_F (y109.toInt ≤ y109.toInt) from (show y109.toInt ≤ y109.toInt from by omega)), (show q_F (y109.toInt ≤ y109.toInt + 420005) from (show y109.toInt ≤ y109.toInt + 420005 from by omega)), V, q_lw hl (q_lw1 0 rfl (q_lw1 1 rfl (q_lw1 2 rfl (q_lw1 3 rfl (q_lw1 4 rfl (q_lw1 5 rfl q_lw0)))))), hI, hF, hO95, hO96, hO297, hO108, hO271⟩
          ·
            have b319 : q_F (a296.toInt = 0) := (q_eqI c317)
            refine lv_aload_n hx hb d_9_5_98 rfl (lv_at hl 4 rfl) ?_
            refine q_gov V (q_runV (As := []) (rest := []) (d := 7) (mc := 0) (ms := 0) (ci := 11) C0 V rfl LV_Pri_107 (T_Pri_writeBody l D g q u294   hI y298 y299 y300 y301 hO297 y109 hO108 y272 y273 y274 y275 y276 y277 y278 hO271 gq291 hg292 (by have t1 : 0 ≤ a296.toInt + gq291.toInt + y301.toInt := b313; have t2 : a296.toInt = 0 := b319; omega) (by have t1 : y109.toInt ≤ 0 := b111; omega) _) rfl rfl hO297 rfl hl.1 rfl (Nat.le_of_ble_eq_true rfl) ⟨by decide, by decide⟩ ⟨Nat.le_of_ble_eq_true rfl, Nat.le_of_ble_eq_true rfl⟩ d_9_5_99) (fun u320 H locs hp321 V => ?_)
            obtain ⟨hI, hu344, y323, y324, y325, y326, y328, hO322, hO327, b329, b330, b331, b332, b333, b334, b335, b336, b337, b338, b339, b340, b341, b342⟩ := hp321
            replace hO322 : u320[40]? = (some (q 40, .inr (11, [.int y323, .ref (q 41), .ref (q 42), .ref (q 43), .ref (q 44), .ref (q 1), .ref (q 47), .ref (q 36), .ref (q 45), .int y324, .int y325, .int y326])) : Option (Nat × va_E)) := hO322
            replace hO327 : u320[45]? = (some (q 45, .inr (1, [.ref (q 46), .int 4104, .int y328])) : Option (Nat × va_E)) := hO327
            replace b329 : q_F (y298.toInt ≤ y323.toInt) := b329
            replace b330 : q_F (y323.toInt ≤ y298.toInt) := b330
            replace b331 : q_F (y299.toInt ≤ y324.toInt + 1000000) := b331
            replace b332 : q_F (y324.toInt ≤ y299.toInt + 3) := b332
            replace b333 : q_F (y109.toInt ≤ y324.toInt + 1) := b333
            replace b334 : q_F (y324.toInt ≤ y109.toInt + 1000000) := b334
            replace b335 : q_F (y300.toInt ≤ y325.toInt) := b335
            replace b336 : q_F (y325.toInt ≤ y300.toInt) := b336
            replace b337 : q_F (y301.toInt ≤ y326.toInt) := b337
            replace b338 : q_F (y326.toInt ≤ y301.toInt) := b338
            replace b339 : q_F (y109.toInt ≤ y328.toInt) := b339
            replace b340 : q_F (y328.toInt ≤ y109.toInt + 420005) := b340
            replace b341 : q_F (y328.toInt ≤ y324.toInt + 420005) := b341
            replace b342 : q_F (y328.toInt ≤ y326.toInt + 420005) := b342
            replace hO95 := (hu344 _ (by decide)).trans hO95
            replace hO96 := (hu344 _ (by decide)).trans hO96
            replace hO271 := (hu344 _ (by decide)).trans hO271
            replace hF := q_uc hF hu344 (by simp)
            refine lv_goto (tgt := 128) hx hb d_9_5_102 (by decide) ?_
            exact J148 ((a296 : Int32), (y277 : Int32), (y323 : Int32), (y324 : Int32), (y325 : Int32), (y326 : Int32), (y328 : Int32), (y272 : Int32), (y273 : Int32), (y274 : Int32), (y275 : Int32), (y276 : Int32), (y277 : Int32), (y278 : Int32)) _ _ _ _ ⟨(show q_F (0 ≤ a296.toInt) from (show 0 ≤ a296.toInt from by have t1 : 0 ≤ a296.toInt := b302; omega)), (show q_F (a296.toInt ≤ 10) from (show a296.toInt ≤ 10 from by have t1 : a296.toInt ≤ 10 := b303; omega)), (show q_F (0 ≤ y324.toInt + 1) from (show 0 ≤ y324.toInt + 1 from by have t1 : 0 ≤ y109.toInt := b110; have t2 : y109.toInt ≤ y324.toInt + 1 := b333; omega)), (show q_F (y324.toInt ≤ 2) from (show y324.toInt ≤ 2 from by have t1 : y299.toInt ≤ (-1) := b309; have t2 : y324.toInt ≤ y299.toInt + 3 := b332; omega)), (show q_F (0 ≤ y326.toInt + 1) from (show 0 ≤ y326.toInt + 1 from by have t1 : 0 ≤ y301.toInt + 1 := b304; have t2 : y301.toInt ≤ y326.toInt := b337; omega)), (show q_F (y326.toInt ≤ 8) from (show y326.toInt ≤ 8 from by have t1 : y301.toInt ≤ 8 := b305; have t2 : y326.toInt ≤ y301.toInt := b338; omega)), (show q_F (0 ≤ y274.toInt + 1) from (show 0 ≤ y274.toInt + 1 from by have t1 : 0 ≤ y274.toInt + 1 := b281; omega)), (show q_F (y274.toInt ≤ 9999) from (show y274.toInt ≤ 9999 from by have t1 : y274.toInt ≤ 9999 := b282; omega)), (show q_F (0 ≤ y275.toInt + 1) from (show 0 ≤ y275.toInt + 1 from by have t1 : 0 ≤ y275.toInt + 1 := b283; omega)), (show q_F (y275.toInt ≤ 9999) from (show y275.toInt ≤ 9999 from by have t1 : y275.toInt ≤ 9999 := b284; omega)), (show q_F (0 ≤ y276.toInt + 1) from (show 0 ≤ y276.toInt + 1 from by have t1 : 0 ≤ y276.toInt + 1 := b285; omega)), (show q_F (y276.toInt ≤ 255) from (show y276.toInt ≤ 255 from by have t1 : y276.toInt ≤ 255 := b286; omega)), (show q_F (0 ≤ y278.toInt) from (show 0 ≤ y278.toInt from by have t1 : 0 ≤ y278.toInt := b287; omega)), (show q_F (y278.toInt ≤ 1) from (show y278.toInt ≤ 1 from by have t1 : y278.toInt ≤ 1 := b288; omega)), (show q_F (lx61.toInt ≤ y323.toInt) from (show lx61.toInt ≤ y323.toInt from by have t1 : lx61.toInt ≤ y298.toInt := b306; have t2 : y298.toInt ≤ y323.toInt := b329; omega)), (show q_F (y323.toInt ≤ lx61.toInt) from (show y323.toInt ≤ lx61.toInt from by have t1 : y298.toInt ≤ lx61.toInt := b307; have t2 : y323.toInt ≤ y298.toInt := b330; omega)), (show q_F (lx64.toInt ≤ y326.toInt + 8) from (show lx64.toInt ≤ y326.toInt + 8 from by have t1 : lx64.toInt ≤ y301.toInt + 8 := b310; have t2 : y301.toInt ≤ y326.toInt := b337; omega)), (show q_F (y109.toInt ≤ y328.toInt) from (show y109.toInt ≤ y328.toInt from by have t1 : y109.toInt ≤ y328.toInt := b339; omega)), (show q_F (y328.toInt ≤ y109.toInt + 420005) from (show y328.toInt ≤ y109.toInt + 420005 from by have t1 : y328.toInt ≤ y109.toInt + 420005 := b340; omega)), V, q_lw hl (q_lw1 0 rfl (q_lw1 1 rfl (q_lw1 2 rfl (q_lw1 3 rfl (q_lw1 4 rfl (q_lw1 5 rfl q_lw0)))))), hI, hF, hO95, hO96, hO322, hO327, hO271⟩
