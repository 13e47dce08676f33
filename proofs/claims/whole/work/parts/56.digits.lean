/-! Digits -/
theorem n_negL {a : Int64} {x : Int} (ha : a.toInt = x) (h : -9223372036854775808 < x) : (-a).toInt = -x := by
  have h1 := Int64.toInt_lt a
  rw [Int64.toInt_neg, ha]
  exact q_bmL (by omega) (by omega)
theorem d_29_59_0 : decode prog_29_method_59_code 0 = .ok (.iload_n 0, 1) := by decide +kernel
theorem d_29_59_1 : decode prog_29_method_59_code 1 = .ok (.ifCond .ge 8, 3) := by decide +kernel
theorem d_29_59_9 : decode prog_29_method_59_code 9 = .ok (.iload_n 0, 1) := by decide +kernel
theorem d_29_59_10 : decode prog_29_method_59_code 10 = .ok (.ireturn, 1) := by decide +kernel
theorem d_29_59_4 : decode prog_29_method_59_code 4 = .ok (.iload_n 0, 1) := by decide +kernel
theorem d_29_59_5 : decode prog_29_method_59_code 5 = .ok (.ineg, 1) := by decide +kernel
theorem d_29_59_6 : decode prog_29_method_59_code 6 = .ok (.goto 4, 3) := by decide +kernel
def y_jMath_abs_II : MethodName := ⟨"java/lang/Math", "abs", "(I)I"⟩
set_option maxRecDepth 100000 in
set_option maxHeartbeats 4000000 in
theorem T_jMath_abs_II (l : Launch) (D : va_G) (g : Nat → ClassId) (q : Nat → Nat) (ws : va_W) (x1 : Int32) (hI : q_I (nsh g q) q ws) : q_mI l y_jMath_abs_II prog_29_method_59_code 1 (.int) 1 0 0 D g [.int x1] ws (fun r u => ws = u ∧ True) := by
  intro sz
  refine q_intoF (by decide +kernel) (Nat.le_of_ble_eq_true rfl) ?_
  intro p e s m below meth c ls hsz C0 V hl
  have hx := C0.1
  have hb := C0.2.1
  have hl : lv_has ls 1 [(0, .int x1)] := hl
  refine lv_iload_n hx hb d_29_59_0 rfl (lv_at hl 0 rfl) ?_
  refine lv_if_ge (tgt := 9) hx hb d_29_59_1 (by decide) (fun c1 => ?_) (fun c1 => ?_)
  ·
    have b2 : q_F (0 ≤ x1.toInt) := (q_leI c1)
    refine lv_iload_n hx hb d_29_59_9 rfl (lv_at hl 0 rfl) ?_
    exact q_reti C0 V (⟨rfl, trivial⟩) d_29_59_10
  ·
    have b3 : q_F (x1.toInt < 0) := (q_nleI c1)
    refine lv_iload_n hx hb d_29_59_4 rfl (lv_at hl 0 rfl) ?_
    refine lv_ineg hx hb d_29_59_5 ?_
    obtain ⟨a4, e5⟩ := q_nm (-x1 : Int32)
    refine q_ti (v := a4) e5 ?_
    refine lv_goto (tgt := 10) hx hb d_29_59_6 (by decide) ?_
    exact q_reti C0 V (⟨rfl, trivial⟩) d_29_59_10
theorem d_11_6_0 : decode prog_11_method_6_code 0 = .ok (.iload_n 1, 1) := by decide +kernel
theorem d_11_6_1 : decode prog_11_method_6_code 1 = .ok (.invokestatic 38, 3) := by decide +kernel
set_option maxRecDepth 100000 in
theorem w_1384 : (Cond.code ({ cls := "java/lang/Math", name := "abs", desc := "(I)I" } : MethodName) prog_29_method_59_code (1 : Nat) (some .int)) ∈ q_tbl := q_of6 184 rfl (by decide +kernel)
set_option maxRecDepth 100000 in
theorem w_1586 : (Cond.methodLink "NumberHouse$Sheet" (38 : Nat) ({ cls := "java/lang/Math", name := "abs", desc := "(I)I" } : MethodName)) ∈ q_tbl := q_of7 146 rfl (by decide +kernel)
set_option maxRecDepth 100000 in
theorem w_1383 : (Cond.static ({ cls := "java/lang/Math", name := "abs", desc := "(I)I" } : MethodName)) ∈ q_tbl := q_of6 183 rfl (by decide +kernel)
theorem LS_She_38 : q_LS "NumberHouse$Sheet" 38 y_jMath_abs_II prog_29_method_59_code 1 (some .int) 1 := ⟨w_1384, w_7, w_1586, w_1383, ⟨by decide, by decide, by decide +kernel⟩⟩
theorem d_11_6_4 : decode prog_11_method_6_code 4 = .ok (.istore_n 3, 1) := by decide +kernel
theorem d_11_6_5 : decode prog_11_method_6_code 5 = .ok (.sipush 10000, 3) := by decide +kernel
theorem d_11_6_8 : decode prog_11_method_6_code 8 = .ok (.istore 4, 2) := by decide +kernel
theorem d_11_6_10 : decode prog_11_method_6_code 10 = .ok (.iconst 5, 1) := by decide +kernel
theorem d_11_6_11 : decode prog_11_method_6_code 11 = .ok (.istore 5, 2) := by decide +kernel
theorem d_11_6_13 : decode prog_11_method_6_code 13 = .ok (.iload 5, 2) := by decide +kernel
theorem d_11_6_15 : decode prog_11_method_6_code 15 = .ok (.ifCond .le 46, 3) := by decide +kernel
theorem d_11_6_61 : decode prog_11_method_6_code 61 = .ok (.return_, 1) := by decide +kernel
theorem d_11_6_18 : decode prog_11_method_6_code 18 = .ok (.iload 5, 2) := by decide +kernel
theorem d_11_6_20 : decode prog_11_method_6_code 20 = .ok (.iload_n 2, 1) := by decide +kernel
theorem d_11_6_30 : decode prog_11_method_6_code 30 = .ok (.aload_n 0, 1) := by decide +kernel
theorem d_11_6_31 : decode prog_11_method_6_code 31 = .ok (.bipush 48, 2) := by decide +kernel
theorem d_11_6_33 : decode prog_11_method_6_code 33 = .ok (.iload_n 3, 1) := by decide +kernel
theorem d_11_6_34 : decode prog_11_method_6_code 34 = .ok (.iload 4, 2) := by decide +kernel
theorem d_11_6_36 : decode prog_11_method_6_code 36 = .ok (.idiv, 1) := by decide +kernel
theorem d_11_6_37 : decode prog_11_method_6_code 37 = .ok (.bipush 10, 2) := by decide +kernel
theorem d_11_6_39 : decode prog_11_method_6_code 39 = .ok (.irem, 1) := by decide +kernel
theorem d_11_6_40 : decode prog_11_method_6_code 40 = .ok (.iadd, 1) := by decide +kernel
theorem d_11_6_41 : decode prog_11_method_6_code 41 = .ok (.invokevirtual 34, 3) := by decide +kernel
theorem d_11_6_44 : decode prog_11_method_6_code 44 = .ok (.iload 4, 2) := by decide +kernel
theorem d_11_6_46 : decode prog_11_method_6_code 46 = .ok (.bipush 10, 2) := by decide +kernel
theorem d_11_6_48 : decode prog_11_method_6_code 48 = .ok (.idiv, 1) := by decide +kernel
theorem d_11_6_49 : decode prog_11_method_6_code 49 = .ok (.iconst 1, 1) := by decide +kernel
theorem d_11_6_50 : decode prog_11_method_6_code 50 = .ok (.invokestatic 44, 3) := by decide +kernel
set_option maxRecDepth 100000 in
theorem w_1588 : (Cond.methodLink "NumberHouse$Sheet" (44 : Nat) ({ cls := "java/lang/Math", name := "max", desc := "(II)I" } : MethodName)) ∈ q_tbl := q_of7 148 rfl (by decide +kernel)
theorem d_11_6_53 : decode prog_11_method_6_code 53 = .ok (.istore 4, 2) := by decide +kernel
theorem d_11_6_55 : decode prog_11_method_6_code 55 = .ok (.iinc 5 (-1), 3) := by decide +kernel
theorem d_11_6_58 : decode prog_11_method_6_code 58 = .ok (.goto (-45), 3) := by decide +kernel
theorem d_11_6_21 : decode prog_11_method_6_code 21 = .ok (.if_icmp .le 9, 3) := by decide +kernel
theorem d_11_6_24 : decode prog_11_method_6_code 24 = .ok (.iload_n 3, 1) := by decide +kernel
theorem d_11_6_25 : decode prog_11_method_6_code 25 = .ok (.iload 4, 2) := by decide +kernel
theorem d_11_6_27 : decode prog_11_method_6_code 27 = .ok (.if_icmp .lt 17, 3) := by decide +kernel
def y_She_addPower : MethodName := ⟨"NumberHouse$Sheet", "addPower", "(II)V"⟩
set_option maxRecDepth 100000 in
set_option maxHeartbeats 4000000 in
theorem T_She_addPower (l : Launch) (D : va_G) (g : Nat → ClassId) (q : Nat → Nat) (ws : va_W) (k1 : Nat) (R N K : Int32) (hB1 : q_isShe (nsh g q) g q k1 R N K) (x2 : Int32) (x3 : Int32) (hI : q_I (nsh g q) q ws) (t0_0 : Int32) (hT0 : ws[k1]? = (some (q k1, .inr (1, [.ref (q (k1 + 1)), .int R, .int t0_0])) : Option (Nat × va_E))) (pre0 : t0_0.toInt + 10 ≤ K.toInt) : q_mV l y_She_addPower prog_11_method_6_code 6 2 0 0 D g [.ref (q k1), .int x2, .int x3] ws (fun u => q_I (nsh g q) q u ∧ q_un ws u [k1, k1 + 1] ∧ ∃ (u0_0 : Int32), u[k1]? = (some (q k1, .inr (1, [.ref (q (k1 + 1)), .int R, .int u0_0])) : Option (Nat × va_E)) ∧ (t0_0.toInt ≤ u0_0.toInt) ∧ (u0_0.toInt ≤ t0_0.toInt + 5)) := by
  intro sz
  refine q_into (by decide) (Nat.le_of_ble_eq_true rfl) ?_
  intro p e s m below meth c ls hsz C0 V hl
  have hx := C0.1
  have hb := C0.2.1
  have hfk10 : q_F (0 ≤ R.toInt ∧ R.toInt ≤ 8 * N.toInt ∧ 0 ≤ N.toInt ∧ N.toInt ≤ 1376 ∧ 64 ≤ R.toInt ∧ 64 ≤ K.toInt ∧ K.toInt ≤ 1000000) := hB1.2.2.1
  obtain ⟨yy0_0, hh0, btt0_0⟩ := n_shO hI hB1
  obtain ⟨rfl⟩ : t0_0 = yy0_0 := by have z := Option.some.inj (hT0.symm.trans hh0); simpa using z
  replace btt0_0 : q_F (0 ≤ t0_0.toInt ∧ t0_0.toInt ≤ K.toInt) := btt0_0
  replace pre0 : q_F (t0_0.toInt + 10 ≤ K.toInt) := pre0
  have hF : q_un ws ws [k1, k1 + 1] := q_u0
  have hl : lv_has ls 6 [(0, .ref (q k1)), (1, .int x2), (2, .int x3)] := hl
  refine lv_iload_n hx hb d_11_6_0 rfl (lv_at hl 1 rfl) ?_
  refine q_goi V (q_runS (As := [.int x2]) (rest := []) (d := 1) (mc := 0) (ms := 0) C0 V rfl LS_She_38 (T_jMath_abs_II l D g q ws  x2 hI   _) rfl hl.1 rfl (Nat.le_of_ble_eq_true rfl) ⟨by decide, by decide⟩ ⟨Nat.le_of_ble_eq_true rfl, Nat.le_of_ble_eq_true rfl⟩ d_11_6_1) (fun a6 u4 H locs hp5 V => ?_)
  obtain ⟨rfl, -⟩ := hp5
  refine lv_istore_n (lv' := [(3, .int a6), (0, .ref (q k1)), (1, .int x2), (2, .int x3)]) hx hb d_11_6_4 rfl hl (by decide) rfl (fun ls hl => ?_)
  refine lv_sipush (v := 10000) hx hb d_11_6_5 (by decide) ?_
  refine lv_istore (lv' := [(4, .int 10000), (3, .int a6), (0, .ref (q k1)), (1, .int x2), (2, .int x3)]) hx hb d_11_6_8 hl (by decide) rfl (fun ls hl => ?_)
  refine lv_iconst (v := 5) hx hb d_11_6_10 (by decide) ?_
  refine lv_istore (lv' := [(5, .int 5), (4, .int 10000), (3, .int a6), (0, .ref (q k1)), (1, .int x2), (2, .int x3)]) hx hb d_11_6_11 hl (by decide) rfl (fun ls hl => ?_)
  refine q_loop (X := Int32 × Int32 × Int32) (fun z H locs ls w18 => q_F (0 ≤ z.1.toInt) ∧ q_F (1 ≤ z.2.1.toInt) ∧ q_F (t0_0.toInt ≤ z.2.2.toInt) ∧ q_F (z.2.1.toInt ≤ z.1.toInt + 9995) ∧ q_F (z.1.toInt + z.2.2.toInt ≤ t0_0.toInt + 5) ∧ q_Wd D g (va_A ws sz) s w18 H locs ∧ lv_has ls 6 [(5, .int z.1), (4, .int z.2.1), (3, .int a6), (0, .ref (q k1)), (2, .int x3)] ∧ q_I (nsh g q) q w18 ∧ q_un ws w18 [k1, k1 + 1] ∧ w18[k1]? = (some (q k1, .inr (1, [.ref (q (k1 + 1)), .int R, .int z.2.2])) : Option (Nat × va_E))) (fun z => (z.1.toInt - ((-1))).toNat) ?_ ((5 : Int32), (10000 : Int32), (t0_0 : Int32)) _ _ _ ws ⟨(show q_F (0 ≤ 5) from (show 0 ≤ 5 from by omega)), (show q_F (1 ≤ 10000) from (show 1 ≤ 10000 from by omega)), (show q_F (t0_0.toInt ≤ t0_0.toInt) from (show t0_0.toInt ≤ t0_0.toInt from by omega)), (show q_F (10000 ≤ 5 + 9995) from (show 10000 ≤ 5 + 9995 from by omega)), (show q_F (5 + t0_0.toInt ≤ t0_0.toInt + 5) from (show 5 + t0_0.toInt ≤ t0_0.toInt + 5 from by omega)), V, q_lw hl (q_lw1 0 rfl (q_lw1 1 rfl (q_lw1 2 rfl (q_lw1 3 rfl (q_lw1 5 rfl q_lw0))))), hI, hF, hT0⟩
  rintro ⟨lx9, lx10, lx11⟩ H locs ls w18 ⟨i12, i13, i14, i15, i16, V, hl, hI, hF, hO19⟩ ih17
  replace i12 : q_F (0 ≤ lx9.toInt) := i12
  replace i13 : q_F (1 ≤ lx10.toInt) := i13
  replace i14 : q_F (t0_0.toInt ≤ lx11.toInt) := i14
  replace i15 : q_F (lx10.toInt ≤ lx9.toInt + 9995) := i15
  replace i16 : q_F (lx9.toInt + lx11.toInt ≤ t0_0.toInt + 5) := i16
  replace hl : lv_has ls 6 [(5, .int lx9), (4, .int lx10), (3, .int a6), (0, .ref (q k1)), (2, .int x3)] := hl
  replace hO19 : w18[k1]? = (some (q k1, .inr (1, [.ref (q (k1 + 1)), .int R, .int lx11])) : Option (Nat × va_E)) := hO19
  refine lv_iload hx hb d_11_6_13 (lv_at hl 0 rfl) ?_
  refine lv_if_le (tgt := 61) hx hb d_11_6_15 (by decide) (fun c20 => ?_) (fun c20 => ?_)
  ·
    have b21 : q_F (lx9.toInt ≤ 0) := (q_leI c20)
    exact q_retv C0 V (⟨hI, hF, lx11, hO19, (show t0_0.toInt ≤ lx11.toInt from (by have t1 : t0_0.toInt ≤ lx11.toInt := i14; omega)), (show lx11.toInt ≤ t0_0.toInt + 5 from (by have t1 : 0 ≤ lx9.toInt := i12; have t2 : lx9.toInt + lx11.toInt ≤ t0_0.toInt + 5 := i16; omega))⟩) d_11_6_61
  ·
    have b22 : q_F (0 < lx9.toInt) := (q_nleI c20)
    refine lv_iload hx hb d_11_6_18 (lv_at hl 0 rfl) ?_
    refine lv_iload_n hx hb d_11_6_20 rfl (lv_at hl 4 rfl) ?_
    refine q_join (X := Unit) (fun z H locs ls _ => q_Wd D g (va_A ws sz) s w18 H locs ∧ lv_has ls 6 [(5, .int lx9), (4, .int lx10), (3, .int a6), (0, .ref (q k1)), (2, .int x3)]) (fun z => []) 30 0 0 ?_ ?_
    ·
      rintro _ H locs ls _ ⟨V, hl⟩
      replace hl : lv_has ls 6 [(5, .int lx9), (4, .int lx10), (3, .int a6), (0, .ref (q k1)), (2, .int x3)] := hl
      refine lv_aload_n hx hb d_11_6_30 rfl (lv_at hl 3 rfl) ?_
      refine lv_bipush (v := 48) hx hb d_11_6_31 (by decide) ?_
      refine lv_iload_n hx hb d_11_6_33 rfl (lv_at hl 2 rfl) ?_
      refine lv_iload hx hb d_11_6_34 (lv_at hl 1 rfl) ?_
      refine lv_idiv hx hb d_11_6_36 (s_nzI (by have t1 : 1 ≤ lx10.toInt := i13; omega)) ?_
      obtain ⟨a25, e26⟩ := q_nm (a6 / lx10 : Int32)
      refine q_ti (v := a25) e26 ?_
      refine lv_bipush (v := 10) hx hb d_11_6_37 (by decide) ?_
      refine lv_irem hx hb d_11_6_39 (by decide) ?_
      obtain ⟨a27, e28⟩ := q_nm (a25 - a25 / 10 * 10 : Int32)
      refine q_ti (v := a27) e28 ?_
      refine lv_iadd hx hb d_11_6_40 ?_
      obtain ⟨a29, e30⟩ := q_nm (48 + a27 : Int32)
      refine q_ti (v := a29) e30 ?_
      refine q_gov V (q_runV (As := [.int a29]) (rest := []) (d := 1) (mc := 0) (ms := 0) (ci := 1) C0 V rfl LV_She_34 (T_She_add l D g q w18 k1 R N K hB1 a29 hI lx11 hO19 (by have t1 : t0_0.toInt + 10 ≤ K.toInt := pre0; have t2 : 0 ≤ lx9.toInt := i12; have t3 : lx9.toInt + lx11.toInt ≤ t0_0.toInt + 5 := i16; omega) _) rfl rfl hO19 rfl hl.1 rfl (Nat.le_of_ble_eq_true rfl) ⟨by decide, by decide⟩ ⟨Nat.le_of_ble_eq_true rfl, Nat.le_of_ble_eq_true rfl⟩ d_11_6_41) (fun u31 H locs hp32 V => ?_)
      obtain ⟨hI, hu37, y34, hO33, b35, b36⟩ := hp32
      replace hO33 : u31[k1]? = (some (q k1, .inr (1, [.ref (q (k1 + 1)), .int R, .int y34])) : Option (Nat × va_E)) := hO33
      replace b35 : q_F (lx11.toInt + 1 ≤ y34.toInt) := b35
      replace b36 : q_F (y34.toInt ≤ lx11.toInt + 1) := b36
      replace hF := q_uc hF hu37 (by simp)
      refine lv_iload hx hb d_11_6_44 (lv_at hl 1 rfl) ?_
      refine lv_bipush (v := 10) hx hb d_11_6_46 (by decide) ?_
      refine lv_idiv hx hb d_11_6_48 (by decide) ?_
      obtain ⟨a38, e39⟩ := q_nm (lx10 / 10 : Int32)
      refine q_ti (v := a38) e39 ?_
      have b40 : q_F (10 * a38.toInt ≤ lx10.toInt ∧ lx10.toInt ≤ 10 * a38.toInt + 9) := (by rw [← e39]; show 10 * (lx10 / 10 : Int32).toInt ≤ lx10.toInt ∧ lx10.toInt ≤ 10 * (lx10 / 10 : Int32).toInt + 9; exact (by have z := q_divI (y := 10) (rfl : lx10.toInt = _) (by decide : (10 : Int32).toInt = 10) (by have t1 : 1 ≤ lx10.toInt := i13; omega) (by decide); omega))
      refine lv_iconst (v := 1) hx hb d_11_6_49 (by decide) ?_
      refine q_max C0 hl.1 rfl w_1588 w_803 w_7 w_804 ⟨Nat.le_of_ble_eq_true rfl, Nat.le_of_ble_eq_true rfl⟩ ⟨Nat.le_of_ble_eq_true rfl, Nat.le_of_ble_eq_true rfl⟩ d_11_6_50 ?_
      obtain ⟨a41, e42⟩ := q_nm (if a38 < 1 then 1 else a38 : Int32)
      refine q_ti (v := a41) e42 ?_
      have b43 : q_F (a38.toInt ≤ a41.toInt ∧ 1 ≤ a41.toInt ∧ (a41.toInt = a38.toInt ∨ a41.toInt = 1)) := (by rw [← e42]; show a38.toInt ≤ (if a38 < 1 then 1 else a38 : Int32).toInt ∧ 1 ≤ (if a38 < 1 then 1 else a38 : Int32).toInt ∧ ((if a38 < 1 then 1 else a38 : Int32).toInt = a38.toInt ∨ (if a38 < 1 then 1 else a38 : Int32).toInt = 1); exact (by have y1 : (1 : Int32).toInt = 1 := rfl; have z := s_max (a := a38) (b := 1); omega))
      refine lv_istore (lv' := [(4, .int a41), (5, .int lx9), (3, .int a6), (0, .ref (q k1)), (2, .int x3)]) hx hb d_11_6_53 hl (by decide) rfl (fun ls hl => ?_)
      obtain ⟨a44, e45⟩ := q_nm (lx9 + (-1) : Int32)
      have b46 : q_F (a44.toInt = lx9.toInt + (-1)) := (by rw [← e45]; exact q_addI (y := (-1)) rfl (by decide) (by have t1 : 0 ≤ lx9.toInt := i12; have _ := q_lo32 (x := lx9); have _ := q_hi32 (x := lx9); omega) (by have t1 : 0 ≤ lx9.toInt := i12; have _ := q_lo32 (x := lx9); have _ := q_hi32 (x := lx9); omega))
      refine lv_iinc (v := a44) (lv' := [(5, .int a44), (4, .int a41), (3, .int a6), (0, .ref (q k1)), (2, .int x3)]) hx hb d_11_6_55 hl (k := 1) rfl (e45) (by decide) rfl (fun ls hl => ?_)
      refine lv_goto (tgt := 13) hx hb d_11_6_58 (by decide) ?_
      exact ih17 ((a44 : Int32), (a41 : Int32), (y34 : Int32)) _ _ _ _ (show (a44.toInt - ((-1))).toNat < (lx9.toInt - ((-1))).toNat from by have t1 : a44.toInt = lx9.toInt + (-1) := b46; have t2 : 0 ≤ lx9.toInt := i12; omega) ⟨(show q_F (0 ≤ a44.toInt) from (show 0 ≤ a44.toInt from by have t1 : 0 < lx9.toInt := b22; have t2 : a44.toInt = lx9.toInt + (-1) := b46; omega)), (show q_F (1 ≤ a41.toInt) from (show 1 ≤ a41.toInt from by have t1 : a38.toInt ≤ a41.toInt ∧ 1 ≤ a41.toInt ∧ (a41.toInt = a38.toInt ∨ a41.toInt = 1) := b43; omega)), (show q_F (t0_0.toInt ≤ y34.toInt) from (show t0_0.toInt ≤ y34.toInt from by have t1 : t0_0.toInt ≤ lx11.toInt := i14; have t2 : lx11.toInt + 1 ≤ y34.toInt := b35; omega)), (show q_F (a41.toInt ≤ a44.toInt + 9995) from (show a41.toInt ≤ a44.toInt + 9995 from by have t1 : 0 ≤ lx9.toInt := i12; have t2 : lx10.toInt ≤ lx9.toInt + 9995 := i15; have t3 : 10 * a38.toInt ≤ lx10.toInt ∧ lx10.toInt ≤ 10 * a38.toInt + 9 := b40; have t4 : a38.toInt ≤ a41.toInt ∧ 1 ≤ a41.toInt ∧ (a41.toInt = a38.toInt ∨ a41.toInt = 1) := b43; have t5 : a44.toInt = lx9.toInt + (-1) := b46; omega)), (show q_F (a44.toInt + y34.toInt ≤ t0_0.toInt + 5) from (show a44.toInt + y34.toInt ≤ t0_0.toInt + 5 from by have t1 : lx9.toInt + lx11.toInt ≤ t0_0.toInt + 5 := i16; have t2 : y34.toInt ≤ lx11.toInt + 1 := b36; have t3 : a44.toInt = lx9.toInt + (-1) := b46; omega)), V, q_lw hl (q_lw1 0 rfl (q_lw1 1 rfl (q_lw1 2 rfl (q_lw1 3 rfl (q_lw1 4 rfl q_lw0))))), hI, hF, hO33⟩
    ·
      intro J24
      refine lv_icmp_le (tgt := 30) hx hb d_11_6_21 (by decide) (fun c47 => ?_) (fun c47 => ?_)
      ·
        have b48 : q_F (lx9.toInt ≤ x3.toInt) := (q_leI c47)
        exact J24 (()) _ _ _ w18 ⟨V, q_lw hl (q_lw1 0 rfl (q_lw1 1 rfl (q_lw1 2 rfl (q_lw1 3 rfl (q_lw1 4 rfl q_lw0)))))⟩
      ·
        have b49 : q_F (x3.toInt < lx9.toInt) := (q_nleI c47)
        refine lv_iload_n hx hb d_11_6_24 rfl (lv_at hl 2 rfl) ?_
        refine lv_iload hx hb d_11_6_25 (lv_at hl 1 rfl) ?_
        refine lv_icmp_lt (tgt := 44) hx hb d_11_6_27 (by decide) (fun c50 => ?_) (fun c50 => ?_)
        ·
          have b51 : q_F (a6.toInt < lx10.toInt) := (q_ltI c50)
          refine lv_iload hx hb d_11_6_44 (lv_at hl 1 rfl) ?_
          refine lv_bipush (v := 10) hx hb d_11_6_46 (by decide) ?_
          refine lv_idiv hx hb d_11_6_48 (by decide) ?_
          obtain ⟨a52, e53⟩ := q_nm (lx10 / 10 : Int32)
          refine q_ti (v := a52) e53 ?_
          have b54 : q_F (10 * a52.toInt ≤ lx10.toInt ∧ lx10.toInt ≤ 10 * a52.toInt + 9) := (by rw [← e53]; show 10 * (lx10 / 10 : Int32).toInt ≤ lx10.toInt ∧ lx10.toInt ≤ 10 * (lx10 / 10 : Int32).toInt + 9; exact (by have z := q_divI (y := 10) (rfl : lx10.toInt = _) (by decide : (10 : Int32).toInt = 10) (by have t1 : 1 ≤ lx10.toInt := i13; omega) (by decide); omega))
          refine lv_iconst (v := 1) hx hb d_11_6_49 (by decide) ?_
          refine q_max C0 hl.1 rfl w_1588 w_803 w_7 w_804 ⟨Nat.le_of_ble_eq_true rfl, Nat.le_of_ble_eq_true rfl⟩ ⟨Nat.le_of_ble_eq_true rfl, Nat.le_of_ble_eq_true rfl⟩ d_11_6_50 ?_
          obtain ⟨a55, e56⟩ := q_nm (if a52 < 1 then 1 else a52 : Int32)
          refine q_ti (v := a55) e56 ?_
          have b57 : q_F (a52.toInt ≤ a55.toInt ∧ 1 ≤ a55.toInt ∧ (a55.toInt = a52.toInt ∨ a55.toInt = 1)) := (by rw [← e56]; show a52.toInt ≤ (if a52 < 1 then 1 else a52 : Int32).toInt ∧ 1 ≤ (if a52 < 1 then 1 else a52 : Int32).toInt ∧ ((if a52 < 1 then 1 else a52 : Int32).toInt = a52.toInt ∨ (if a52 < 1 then 1 else a52 : Int32).toInt = 1); exact (by have y1 : (1 : Int32).toInt = 1 := rfl; have z := s_max (a := a52) (b := 1); omega))
          refine lv_istore (lv' := [(4, .int a55), (5, .int lx9), (3, .int a6), (0, .ref (q k1)), (2, .int x3)]) hx hb d_11_6_53 hl (by decide) rfl (fun ls hl => ?_)
          obtain ⟨a58, e59⟩ := q_nm (lx9 + (-1) : Int32)
          have b60 : q_F (a58.toInt = lx9.toInt + (-1)) := (by rw [← e59]; exact q_addI (y := (-1)) rfl (by decide) (by have t1 : 0 ≤ lx9.toInt := i12; have _ := q_lo32 (x := lx9); have _ := q_hi32 (x := lx9); omega) (by have t1 : 0 ≤ lx9.toInt := i12; have _ := q_lo32 (x := lx9); have _ := q_hi32 (x := lx9); omega))
          refine lv_iinc (v := a58) (lv' := [(5, .int a58), (4, .int a55), (3, .int a6), (0, .ref (q k1)), (2, .int x3)]) hx hb d_11_6_55 hl (k := 1) rfl (e59) (by decide) rfl (fun ls hl => ?_)
          refine lv_goto (tgt := 13) hx hb d_11_6_58 (by decide) ?_
          exact ih17 ((a58 : Int32), (a55 : Int32), (lx11 : Int32)) _ _ _ _ (show (a58.toInt - ((-1))).toNat < (lx9.toInt - ((-1))).toNat from by have t1 : a58.toInt = lx9.toInt + (-1) := b60; have t2 : 0 ≤ lx9.toInt := i12; omega) ⟨(show q_F (0 ≤ a58.toInt) from (show 0 ≤ a58.toInt from by have t1 : 0 < lx9.toInt := b22; have t2 : a58.toInt = lx9.toInt + (-1) := b60; omega)), (show q_F (1 ≤ a55.toInt) from (show 1 ≤ a55.toInt from by have t1 : a52.toInt ≤ a55.toInt ∧ 1 ≤ a55.toInt ∧ (a55.toInt = a52.toInt ∨ a55.toInt = 1) := b57; omega)), (show q_F (t0_0.toInt ≤ lx11.toInt) from (show t0_0.toInt ≤ lx11.toInt from by have t1 : t0_0.toInt ≤ lx11.toInt := i14; omega)), (show q_F (a55.toInt ≤ a58.toInt + 9995) from (show a55.toInt ≤ a58.toInt + 9995 from by have t1 : 0 ≤ lx9.toInt := i12; have t2 : lx10.toInt ≤ lx9.toInt + 9995 := i15; have t3 : 10 * a52.toInt ≤ lx10.toInt ∧ lx10.toInt ≤ 10 * a52.toInt + 9 := b54; have t4 : a52.toInt ≤ a55.toInt ∧ 1 ≤ a55.toInt ∧ (a55.toInt = a52.toInt ∨ a55.toInt = 1) := b57; have t5 : a58.toInt = lx9.toInt + (-1) := b60; omega)), (show q_F (a58.toInt + lx11.toInt ≤ t0_0.toInt + 5) from (show a58.toInt + lx11.toInt ≤ t0_0.toInt + 5 from by have t1 : lx9.toInt + lx11.toInt ≤ t0_0.toInt + 5 := i16; have t2 : a58.toInt = lx9.toInt + (-1) := b60; omega)), V, q_lw hl (q_lw1 0 rfl (q_lw1 1 rfl (q_lw1 2 rfl (q_lw1 3 rfl (q_lw1 4 rfl q_lw0))))), hI, hF, hO19⟩
        ·
          have b61 : q_F (lx10.toInt ≤ a6.toInt) := (q_nltI c50)
          exact J24 (()) _ _ _ w18 ⟨V, q_lw hl (q_lw1 0 rfl (q_lw1 1 rfl (q_lw1 2 rfl (q_lw1 3 rfl (q_lw1 4 rfl q_lw0)))))⟩
theorem d_5_5_0 : decode prog_5_method_5_code 0 = .ok (.iload_n 1, 1) := by decide +kernel
theorem d_5_5_1 : decode prog_5_method_5_code 1 = .ok (.ifCond .lt 20, 3) := by decide +kernel
theorem d_5_5_21 : decode prog_5_method_5_code 21 = .ok (.iconst 0, 1) := by decide +kernel
theorem d_5_5_22 : decode prog_5_method_5_code 22 = .ok (.ireturn, 1) := by decide +kernel
theorem d_5_5_4 : decode prog_5_method_5_code 4 = .ok (.iload_n 1, 1) := by decide +kernel
theorem d_5_5_5 : decode prog_5_method_5_code 5 = .ok (.aload_n 0, 1) := by decide +kernel
theorem d_5_5_6 : decode prog_5_method_5_code 6 = .ok (.getfield 13, 3) := by decide +kernel
set_option maxRecDepth 100000 in
theorem w_264 : (Cond.fieldLink "NumberHouse$Digits" (13 : Nat) "NumberHouse$Digits" "count" "I") ∈ q_tbl := q_of2 24 rfl (by decide +kernel)
theorem d_5_5_9 : decode prog_5_method_5_code 9 = .ok (.if_icmp .ge 12, 3) := by decide +kernel
theorem d_5_5_12 : decode prog_5_method_5_code 12 = .ok (.aload_n 0, 1) := by decide +kernel
theorem d_5_5_13 : decode prog_5_method_5_code 13 = .ok (.getfield 9, 3) := by decide +kernel
theorem d_5_5_16 : decode prog_5_method_5_code 16 = .ok (.iload_n 1, 1) := by decide +kernel
theorem d_5_5_17 : decode prog_5_method_5_code 17 = .ok (.baload, 1) := by decide +kernel
theorem d_5_5_18 : decode prog_5_method_5_code 18 = .ok (.goto 4, 3) := by decide +kernel
def y_Dig_figure : MethodName := ⟨"NumberHouse$Digits", "figure", "(I)I"⟩
set_option maxRecDepth 100000 in
set_option maxHeartbeats 4000000 in
theorem T_Dig_figure (l : Launch) (D : va_G) (g : Nat → ClassId) (q : Nat → Nat) (ws : va_W) (x2 : Int32) (hI : q_I (nsh g q) q ws) : q_mI l y_Dig_figure prog_5_method_5_code 2 (.int) 1 0 0 D g [.ref (q 36), .int x2] ws (fun r u => ws = u ∧ True) := by
  intro sz
  refine q_into (by decide) (Nat.le_of_ble_eq_true rfl) ?_
  intro p e s m below meth c ls hsz C0 V hl
  have hx := C0.1
  have hb := C0.2.1
  have hl : lv_has ls 2 [(0, .ref (q 36)), (1, .int x2)] := hl
  refine lv_iload_n hx hb d_5_5_0 rfl (lv_at hl 1 rfl) ?_
  refine lv_if_lt (tgt := 21) hx hb d_5_5_1 (by decide) (fun c1 => ?_) (fun c1 => ?_)
  ·
    have b2 : q_F (x2.toInt < 0) := (q_ltI c1)
    refine lv_iconst (v := 0) hx hb d_5_5_21 (by decide) ?_
    exact q_reti C0 V (⟨rfl, trivial⟩) d_5_5_22
  ·
    have b3 : q_F (0 ≤ x2.toInt) := (q_nltI c1)
    refine lv_iload_n hx hb d_5_5_4 rfl (lv_at hl 1 rfl) ?_
    refine lv_aload_n hx hb d_5_5_5 rfl (lv_at hl 0 rfl) ?_
    obtain ⟨y5, y7, hO4, b6, b8⟩ := n_o36 hI
    replace b6 : q_F (0 ≤ y5.toInt ∧ y5.toInt ≤ 1026) := b6
    replace b8 : q_F (-1000000 ≤ y7.toInt ∧ y7.toInt ≤ 1000000) := b8
    refine q_get (ci := 7) (j := 0) (v := .int y5) C0 V i_Dig rfl rfl hO4 (by decide) w_264 rfl d_5_5_6 ?_
    refine lv_icmp_ge (tgt := 21) hx hb d_5_5_9 (by decide) (fun c9 => ?_) (fun c9 => ?_)
    ·
      have b10 : q_F (y5.toInt ≤ x2.toInt) := (q_leI c9)
      refine lv_iconst (v := 0) hx hb d_5_5_21 (by decide) ?_
      exact q_reti C0 V (⟨rfl, trivial⟩) d_5_5_22
    ·
      have b11 : q_F (x2.toInt < y5.toInt) := (q_nleI c9)
      refine lv_aload_n hx hb d_5_5_12 rfl (lv_at hl 0 rfl) ?_
      refine q_get (ci := 7) (j := 2) (v := .ref (q 37)) C0 V i_Dig rfl rfl hO4 (by decide) w_269 rfl d_5_5_13 ?_
      refine lv_iload_n hx hb d_5_5_16 rfl (lv_at hl 1 rfl) ?_
      obtain ⟨f12, hA13, bf14⟩ := n_ai hI (n_s37 g q)
      refine q_bald C0 V hA13 (q_ix (x := x2.toInt) rfl (by have t1 : 0 ≤ x2.toInt := b3; omega) (by have t1 : 0 ≤ x2.toInt := b3; have t2 : 0 ≤ y5.toInt ∧ y5.toInt ≤ 1026 := b6; have t3 : x2.toInt < y5.toInt := b11; omega)) d_5_5_17 ?_
      obtain ⟨a15, e16⟩ := q_nm (f12 x2.toNatClampNeg : Int32)
      refine q_ti (v := a15) e16 ?_
      refine lv_goto (tgt := 22) hx hb d_5_5_18 (by decide) ?_
      exact q_reti C0 V (⟨rfl, trivial⟩) d_5_5_22
theorem d_5_4_0 : decode prog_5_method_4_code 0 = .ok (.aload_n 0, 1) := by decide +kernel
theorem d_5_4_1 : decode prog_5_method_4_code 1 = .ok (.getfield 13, 3) := by decide +kernel
theorem d_5_4_34 : decode prog_5_method_4_code 34 = .ok (.iconst 0, 1) := by decide +kernel
theorem d_5_4_35 : decode prog_5_method_4_code 35 = .ok (.istore_n 2, 1) := by decide +kernel
theorem d_5_4_36 : decode prog_5_method_4_code 36 = .ok (.aload_n 0, 1) := by decide +kernel
theorem d_5_4_37 : decode prog_5_method_4_code 37 = .ok (.getfield 13, 3) := by decide +kernel
theorem d_5_4_40 : decode prog_5_method_4_code 40 = .ok (.iconst 1, 1) := by decide +kernel
theorem d_5_4_41 : decode prog_5_method_4_code 41 = .ok (.isub, 1) := by decide +kernel
theorem d_5_4_42 : decode prog_5_method_4_code 42 = .ok (.istore_n 3, 1) := by decide +kernel
theorem d_5_4_43 : decode prog_5_method_4_code 43 = .ok (.iload_n 2, 1) := by decide +kernel
theorem d_5_4_44 : decode prog_5_method_4_code 44 = .ok (.iload_n 3, 1) := by decide +kernel
theorem d_5_4_45 : decode prog_5_method_4_code 45 = .ok (.if_icmp .ge 40, 3) := by decide +kernel
theorem d_5_4_85 : decode prog_5_method_4_code 85 = .ok (.aload_n 0, 1) := by decide +kernel
theorem d_5_4_86 : decode prog_5_method_4_code 86 = .ok (.aload_n 0, 1) := by decide +kernel
theorem d_5_4_87 : decode prog_5_method_4_code 87 = .ok (.getfield 13, 3) := by decide +kernel
theorem d_5_4_90 : decode prog_5_method_4_code 90 = .ok (.ifCond .ne 7, 3) := by decide +kernel
theorem d_5_4_97 : decode prog_5_method_4_code 97 = .ok (.aload_n 0, 1) := by decide +kernel
theorem d_5_4_98 : decode prog_5_method_4_code 98 = .ok (.getfield 13, 3) := by decide +kernel
theorem d_5_4_101 : decode prog_5_method_4_code 101 = .ok (.iconst 1, 1) := by decide +kernel
theorem d_5_4_102 : decode prog_5_method_4_code 102 = .ok (.isub, 1) := by decide +kernel
theorem d_5_4_103 : decode prog_5_method_4_code 103 = .ok (.iload_n 1, 1) := by decide +kernel
theorem d_5_4_104 : decode prog_5_method_4_code 104 = .ok (.isub, 1) := by decide +kernel
theorem d_5_4_105 : decode prog_5_method_4_code 105 = .ok (.putfield 33, 3) := by decide +kernel
set_option maxRecDepth 100000 in
theorem w_266 : (Cond.fieldLink "NumberHouse$Digits" (33 : Nat) "NumberHouse$Digits" "power" "I") ∈ q_tbl := q_of2 26 rfl (by decide +kernel)
theorem d_5_4_108 : decode prog_5_method_4_code 108 = .ok (.return_, 1) := by decide +kernel
theorem d_5_4_93 : decode prog_5_method_4_code 93 = .ok (.iconst 0, 1) := by decide +kernel
theorem d_5_4_94 : decode prog_5_method_4_code 94 = .ok (.goto 11, 3) := by decide +kernel
theorem d_5_4_48 : decode prog_5_method_4_code 48 = .ok (.aload_n 0, 1) := by decide +kernel
theorem d_5_4_49 : decode prog_5_method_4_code 49 = .ok (.getfield 9, 3) := by decide +kernel
theorem d_5_4_52 : decode prog_5_method_4_code 52 = .ok (.iload_n 2, 1) := by decide +kernel
theorem d_5_4_53 : decode prog_5_method_4_code 53 = .ok (.baload, 1) := by decide +kernel
theorem d_5_4_54 : decode prog_5_method_4_code 54 = .ok (.istore 4, 2) := by decide +kernel
theorem d_5_4_56 : decode prog_5_method_4_code 56 = .ok (.aload_n 0, 1) := by decide +kernel
theorem d_5_4_57 : decode prog_5_method_4_code 57 = .ok (.getfield 9, 3) := by decide +kernel
theorem d_5_4_60 : decode prog_5_method_4_code 60 = .ok (.iload_n 2, 1) := by decide +kernel
theorem d_5_4_61 : decode prog_5_method_4_code 61 = .ok (.aload_n 0, 1) := by decide +kernel
theorem d_5_4_62 : decode prog_5_method_4_code 62 = .ok (.getfield 9, 3) := by decide +kernel
theorem d_5_4_65 : decode prog_5_method_4_code 65 = .ok (.iload_n 3, 1) := by decide +kernel
theorem d_5_4_66 : decode prog_5_method_4_code 66 = .ok (.baload, 1) := by decide +kernel
theorem d_5_4_67 : decode prog_5_method_4_code 67 = .ok (.bastore, 1) := by decide +kernel
theorem d_5_4_68 : decode prog_5_method_4_code 68 = .ok (.aload_n 0, 1) := by decide +kernel
theorem d_5_4_69 : decode prog_5_method_4_code 69 = .ok (.getfield 9, 3) := by decide +kernel
theorem d_5_4_72 : decode prog_5_method_4_code 72 = .ok (.iload_n 3, 1) := by decide +kernel
theorem d_5_4_73 : decode prog_5_method_4_code 73 = .ok (.iload 4, 2) := by decide +kernel
theorem d_5_4_75 : decode prog_5_method_4_code 75 = .ok (.bastore, 1) := by decide +kernel
theorem d_5_4_76 : decode prog_5_method_4_code 76 = .ok (.iinc 2 1, 3) := by decide +kernel
theorem d_5_4_79 : decode prog_5_method_4_code 79 = .ok (.iinc 3 (-1), 3) := by decide +kernel
theorem d_5_4_82 : decode prog_5_method_4_code 82 = .ok (.goto (-39), 3) := by decide +kernel
theorem d_5_4_4 : decode prog_5_method_4_code 4 = .ok (.ifCond .le 30, 3) := by decide +kernel
theorem d_5_4_7 : decode prog_5_method_4_code 7 = .ok (.aload_n 0, 1) := by decide +kernel
theorem d_5_4_8 : decode prog_5_method_4_code 8 = .ok (.getfield 9, 3) := by decide +kernel
theorem d_5_4_11 : decode prog_5_method_4_code 11 = .ok (.aload_n 0, 1) := by decide +kernel
theorem d_5_4_12 : decode prog_5_method_4_code 12 = .ok (.getfield 13, 3) := by decide +kernel
theorem d_5_4_15 : decode prog_5_method_4_code 15 = .ok (.iconst 1, 1) := by decide +kernel
theorem d_5_4_16 : decode prog_5_method_4_code 16 = .ok (.isub, 1) := by decide +kernel
theorem d_5_4_17 : decode prog_5_method_4_code 17 = .ok (.baload, 1) := by decide +kernel
theorem d_5_4_18 : decode prog_5_method_4_code 18 = .ok (.ifCond .ne 16, 3) := by decide +kernel
theorem d_5_4_21 : decode prog_5_method_4_code 21 = .ok (.aload_n 0, 1) := by decide +kernel
theorem d_5_4_22 : decode prog_5_method_4_code 22 = .ok (.dup, 1) := by decide +kernel
theorem d_5_4_23 : decode prog_5_method_4_code 23 = .ok (.getfield 13, 3) := by decide +kernel
theorem d_5_4_26 : decode prog_5_method_4_code 26 = .ok (.iconst 1, 1) := by decide +kernel
theorem d_5_4_27 : decode prog_5_method_4_code 27 = .ok (.isub, 1) := by decide +kernel
theorem d_5_4_28 : decode prog_5_method_4_code 28 = .ok (.putfield 13, 3) := by decide +kernel
theorem d_5_4_31 : decode prog_5_method_4_code 31 = .ok (.goto (-31), 3) := by decide +kernel
def y_Dig_turn : MethodName := ⟨"NumberHouse$Digits", "turn", "(I)V"⟩
set_option maxRecDepth 100000 in
set_option maxHeartbeats 4000000 in
theorem T_Dig_turn (l : Launch) (D : va_G) (g : Nat → ClassId) (q : Nat → Nat) (ws : va_W) (x2 : Int32) (hI : q_I (nsh g q) q ws) (t0_0 : Int32) (t0_1 : Int32) (hT0 : ws[36]? = (some (q 36, .inr (7, [.int t0_0, .int t0_1, .ref (q 37)])) : Option (Nat × va_E))) (pre0 : 0 ≤ x2.toInt + 20000) (pre1 : x2.toInt ≤ 20000) : q_mV l y_Dig_turn prog_5_method_4_code 5 1 0 0 D g [.ref (q 36), .int x2] ws (fun u => q_I (nsh g q) q u ∧ q_un ws u [36, 37] ∧ ∃ (u0_0 : Int32) (u0_1 : Int32), u[36]? = (some (q 36, .inr (7, [.int u0_0, .int u0_1, .ref (q 37)])) : Option (Nat × va_E)) ∧ (0 ≤ u0_0.toInt) ∧ (0 ≤ u0_1.toInt + 20000) ∧ (u0_0.toInt ≤ t0_0.toInt) ∧ (u0_1.toInt ≤ u0_0.toInt + 19999) ∧ (u0_0.toInt ≤ u0_1.toInt + 20001)) := by
  intro sz
  refine q_into (by decide) (Nat.le_of_ble_eq_true rfl) ?_
  intro p e s m below meth c ls hsz C0 V hl
  have hx := C0.1
  have hb := C0.2.1
  obtain ⟨yy0_0, yy0_1, hh0, btt0_0, btt0_1⟩ := n_o36 hI
  obtain ⟨rfl, rfl⟩ : t0_0 = yy0_0 ∧ t0_1 = yy0_1 := by have z := Option.some.inj (hT0.symm.trans hh0); simpa using z
  replace btt0_0 : q_F (0 ≤ t0_0.toInt ∧ t0_0.toInt ≤ 1026) := btt0_0
  replace btt0_1 : q_F (-1000000 ≤ t0_1.toInt ∧ t0_1.toInt ≤ 1000000) := btt0_1
  replace pre0 : q_F (0 ≤ x2.toInt + 20000) := pre0
  replace pre1 : q_F (x2.toInt ≤ 20000) := pre1
  have hF : q_un ws ws [36, 37] := q_u0
  have hl : lv_has ls 5 [(0, .ref (q 36)), (1, .int x2)] := hl
  refine q_loop (X := Int32) (fun z H locs ls w10 => q_F (0 ≤ z.toInt) ∧ q_F (z.toInt ≤ t0_0.toInt) ∧ q_Wd D g (va_A ws sz) s w10 H locs ∧ lv_has ls 5 [(0, .ref (q 36)), (1, .int x2)] ∧ q_I (nsh g q) q w10 ∧ q_un ws w10 [36, 37] ∧ w10[36]? = (some (q 36, .inr (7, [.int z, .int t0_1, .ref (q 37)])) : Option (Nat × va_E))) (fun z => (z.toInt - ((-1000000))).toNat) ?_ ((t0_0 : Int32)) _ _ _ ws ⟨(show q_F (0 ≤ t0_0.toInt) from (show 0 ≤ t0_0.toInt from by have t1 : 0 ≤ t0_0.toInt ∧ t0_0.toInt ≤ 1026 := btt0_0; omega)), (show q_F (t0_0.toInt ≤ t0_0.toInt) from (show t0_0.toInt ≤ t0_0.toInt from by omega)), V, q_lw hl (q_lw1 0 rfl (q_lw1 1 rfl q_lw0)), hI, hF, hT0⟩
  rintro lx6 H locs ls w10 ⟨i7, i8, V, hl, hI, hF, hO11⟩ ih9
  replace i7 : q_F (0 ≤ lx6.toInt) := i7
  replace i8 : q_F (lx6.toInt ≤ t0_0.toInt) := i8
  replace hl : lv_has ls 5 [(0, .ref (q 36)), (1, .int x2)] := hl
  replace hO11 : w10[36]? = (some (q 36, .inr (7, [.int lx6, .int t0_1, .ref (q 37)])) : Option (Nat × va_E)) := hO11
  refine lv_aload_n hx hb d_5_4_0 rfl (lv_at hl 0 rfl) ?_
  refine q_get (ci := 7) (j := 0) (v := .int lx6) C0 V i_Dig rfl rfl hO11 (by decide) w_264 rfl d_5_4_1 ?_
  refine q_join (X := Unit) (fun z H locs ls _ => q_Wd D g (va_A ws sz) s w10 H locs ∧ lv_has ls 5 [(0, .ref (q 36)), (1, .int x2)]) (fun z => []) 34 0 0 ?_ ?_
  ·
    rintro _ H locs ls _ ⟨V, hl⟩
    replace hl : lv_has ls 5 [(0, .ref (q 36)), (1, .int x2)] := hl
    refine lv_iconst (v := 0) hx hb d_5_4_34 (by decide) ?_
    refine lv_istore_n (lv' := [(2, .int 0), (0, .ref (q 36)), (1, .int x2)]) hx hb d_5_4_35 rfl hl (by decide) rfl (fun ls hl => ?_)
    refine lv_aload_n hx hb d_5_4_36 rfl (lv_at hl 1 rfl) ?_
    refine q_get (ci := 7) (j := 0) (v := .int lx6) C0 V i_Dig rfl rfl hO11 (by decide) w_264 rfl d_5_4_37 ?_
    refine lv_iconst (v := 1) hx hb d_5_4_40 (by decide) ?_
    refine lv_isub hx hb d_5_4_41 ?_
    obtain ⟨a14, e15⟩ := q_nm (lx6 - 1 : Int32)
    refine q_ti (v := a14) e15 ?_
    have b16 : q_F (a14.toInt = lx6.toInt - 1) := (by rw [← e15]; show (lx6 - 1 : Int32).toInt = lx6.toInt - 1; exact q_subI (x := lx6.toInt) (y := 1) rfl (by decide) (by have t1 : 0 ≤ lx6.toInt := i7; have _ := q_lo32 (x := lx6); have _ := q_hi32 (x := lx6); omega) (by have t1 : 0 ≤ lx6.toInt := i7; have _ := q_lo32 (x := lx6); have _ := q_hi32 (x := lx6); omega))
    refine lv_istore_n (lv' := [(3, .int a14), (2, .int 0), (0, .ref (q 36)), (1, .int x2)]) hx hb d_5_4_42 rfl hl (by decide) rfl (fun ls hl => ?_)
    refine q_loop (X := Int32 × Int32) (fun z H locs ls w24 => q_F (z.2.toInt ≤ z.1.toInt + 1) ∧ q_F (a14.toInt ≤ z.1.toInt + z.2.toInt) ∧ q_F (z.1.toInt + z.2.toInt ≤ a14.toInt) ∧ q_F (z.1.toInt ≤ z.2.toInt + a14.toInt) ∧ q_Wd D g (va_A ws sz) s w24 H locs ∧ lv_has ls 5 [(3, .int z.1), (2, .int z.2), (0, .ref (q 36)), (1, .int x2)] ∧ q_I (nsh g q) q w24 ∧ q_un ws w24 [36, 37] ∧ w24[36]? = (some (q 36, .inr (7, [.int lx6, .int t0_1, .ref (q 37)])) : Option (Nat × va_E))) (fun z => (z.1.toInt - ((-1000000))).toNat) ?_ ((a14 : Int32), (0 : Int32)) _ _ _ w10 ⟨(show q_F (0 ≤ a14.toInt + 1) from (show 0 ≤ a14.toInt + 1 from by have t1 : 0 ≤ lx6.toInt := i7; have t2 : a14.toInt = lx6.toInt - 1 := b16; omega)), (show q_F (a14.toInt ≤ a14.toInt + 0) from (show a14.toInt ≤ a14.toInt + 0 from by omega)), (show q_F (a14.toInt + 0 ≤ a14.toInt) from (show a14.toInt + 0 ≤ a14.toInt from by omega)), (show q_F (a14.toInt ≤ 0 + a14.toInt) from (show a14.toInt ≤ 0 + a14.toInt from by omega)), V, q_lw hl (q_lw1 0 rfl (q_lw1 1 rfl (q_lw1 2 rfl (q_lw1 3 rfl q_lw0)))), hI, hF, hO11⟩
    rintro ⟨lx17, lx18⟩ H locs ls w24 ⟨i19, i20, i21, i22, V, hl, hI, hF, hO25⟩ ih23
    replace i19 : q_F (lx18.toInt ≤ lx17.toInt + 1) := i19
    replace i20 : q_F (a14.toInt ≤ lx17.toInt + lx18.toInt) := i20
    replace i21 : q_F (lx17.toInt + lx18.toInt ≤ a14.toInt) := i21
    replace i22 : q_F (lx17.toInt ≤ lx18.toInt + a14.toInt) := i22
    replace hl : lv_has ls 5 [(3, .int lx17), (2, .int lx18), (0, .ref (q 36)), (1, .int x2)] := hl
    replace hO25 : w24[36]? = (some (q 36, .inr (7, [.int lx6, .int t0_1, .ref (q 37)])) : Option (Nat × va_E)) := hO25
    refine lv_iload_n hx hb d_5_4_43 rfl (lv_at hl 1 rfl) ?_
    refine lv_iload_n hx hb d_5_4_44 rfl (lv_at hl 0 rfl) ?_
    refine lv_icmp_ge (tgt := 85) hx hb d_5_4_45 (by decide) (fun c26 => ?_) (fun c26 => ?_)
    ·
      have b27 : q_F (lx17.toInt ≤ lx18.toInt) := (q_leI c26)
      refine lv_aload_n hx hb d_5_4_85 rfl (lv_at hl 2 rfl) ?_
      refine lv_aload_n hx hb d_5_4_86 rfl (lv_at hl 2 rfl) ?_
      refine q_get (ci := 7) (j := 0) (v := .int lx6) C0 V i_Dig rfl rfl hO25 (by decide) w_264 rfl d_5_4_87 ?_
      refine lv_if_ne (tgt := 97) hx hb d_5_4_90 (by decide) (fun c28 => ?_) (fun c28 => ?_)
      ·
        have b29 : q_F (lx6.toInt ≠ 0) := (q_neI c28)
        refine lv_aload_n hx hb d_5_4_97 rfl (lv_at hl 2 rfl) ?_
        refine q_get (ci := 7) (j := 0) (v := .int lx6) C0 V i_Dig rfl rfl hO25 (by decide) w_264 rfl d_5_4_98 ?_
        refine lv_iconst (v := 1) hx hb d_5_4_101 (by decide) ?_
        refine lv_isub hx hb d_5_4_102 ?_
        obtain ⟨a30, e31⟩ := q_nm (lx6 - 1 : Int32)
        refine q_ti (v := a30) e31 ?_
        have b32 : q_F (a30.toInt = lx6.toInt - 1) := (by rw [← e31]; show (lx6 - 1 : Int32).toInt = lx6.toInt - 1; exact q_subI (x := lx6.toInt) (y := 1) rfl (by decide) (by have t1 : 0 ≤ lx6.toInt := i7; have t2 : a14.toInt = lx6.toInt - 1 := b16; have _ := q_lo32 (x := a14); have _ := q_hi32 (x := a14); omega) (by have t1 : 0 ≤ lx6.toInt := i7; have t2 : a14.toInt = lx6.toInt - 1 := b16; have _ := q_lo32 (x := a14); have _ := q_hi32 (x := a14); omega))
        refine lv_iload_n hx hb d_5_4_103 rfl (lv_at hl 3 rfl) ?_
        refine lv_isub hx hb d_5_4_104 ?_
        obtain ⟨a33, e34⟩ := q_nm (a30 - x2 : Int32)
        refine q_ti (v := a33) e34 ?_
        have b35 : q_F (a33.toInt = a30.toInt - x2.toInt) := (by rw [← e34]; show (a30 - x2 : Int32).toInt = a30.toInt - x2.toInt; exact q_subI (x := a30.toInt) (y := x2.toInt) rfl rfl (by have t1 : x2.toInt ≤ 20000 := pre1; have t2 : 0 ≤ lx6.toInt := i7; have t3 : a30.toInt = lx6.toInt - 1 := b32; have t4 : 0 ≤ t0_0.toInt ∧ t0_0.toInt ≤ 1026 := btt0_0; have t5 : 0 ≤ x2.toInt + 20000 := pre0; have t6 : lx6.toInt ≤ t0_0.toInt := i8; omega) (by have t1 : x2.toInt ≤ 20000 := pre1; have t2 : 0 ≤ lx6.toInt := i7; have t3 : a30.toInt = lx6.toInt - 1 := b32; have t4 : 0 ≤ t0_0.toInt ∧ t0_0.toInt ≤ 1026 := btt0_0; have t5 : 0 ≤ x2.toInt + 20000 := pre0; have t6 : lx6.toInt ≤ t0_0.toInt := i8; omega))
        refine q_put (ci := 7) (j := 1) (v := .int a33) (ty := .int) C0 V i_Dig o_Dig n_Dig rfl rfl hO25 (by decide) w_266 rfl rfl rfl rfl (Nat.le_of_ble_eq_true rfl) d_5_4_105 (fun H locs w36 hu37 hO25 V => ?_)
        replace hO25 : w36[36]? = (some (q 36, .inr (7, [.int lx6, .int a33, .ref (q 37)])) : Option (Nat × va_E)) := hO25
        replace hI := n_p36 hI hu37 hO25 ⟨(by have t1 : 0 ≤ lx6.toInt := i7; omega), (by have t1 : 0 ≤ t0_0.toInt ∧ t0_0.toInt ≤ 1026 := btt0_0; have t2 : lx6.toInt ≤ t0_0.toInt := i8; omega)⟩ ⟨(by have t1 : x2.toInt ≤ 20000 := pre1; have t2 : 0 ≤ lx6.toInt := i7; have t3 : a30.toInt = lx6.toInt - 1 := b32; have t4 : a33.toInt = a30.toInt - x2.toInt := b35; omega), (by have t1 : 0 ≤ t0_0.toInt ∧ t0_0.toInt ≤ 1026 := btt0_0; have t2 : 0 ≤ x2.toInt + 20000 := pre0; have t3 : lx6.toInt ≤ t0_0.toInt := i8; have t4 : a30.toInt = lx6.toInt - 1 := b32; have t5 : a33.toInt = a30.toInt - x2.toInt := b35; omega)⟩
        replace hF := q_us hF hu37 (by simp)
        exact q_retv C0 V (⟨hI, hF, lx6, a33, hO25, (show 0 ≤ lx6.toInt from (by have t1 : 0 ≤ lx6.toInt := i7; omega)), (show 0 ≤ a33.toInt + 20000 from (by have t1 : x2.toInt ≤ 20000 := pre1; have t2 : 0 ≤ lx6.toInt := i7; have t3 : lx6.toInt ≠ 0 := b29; have t4 : a30.toInt = lx6.toInt - 1 := b32; have t5 : a33.toInt = a30.toInt - x2.toInt := b35; omega)), (show lx6.toInt ≤ t0_0.toInt from (by have t1 : lx6.toInt ≤ t0_0.toInt := i8; omega)), (show a33.toInt ≤ lx6.toInt + 19999 from (by have t1 : 0 ≤ x2.toInt + 20000 := pre0; have t2 : a30.toInt = lx6.toInt - 1 := b32; have t3 : a33.toInt = a30.toInt - x2.toInt := b35; omega)), (show lx6.toInt ≤ a33.toInt + 20001 from (by have t1 : x2.toInt ≤ 20000 := pre1; have t2 : a30.toInt = lx6.toInt - 1 := b32; have t3 : a33.toInt = a30.toInt - x2.toInt := b35; omega))⟩) d_5_4_108
      ·
        have b38 : q_F (lx6.toInt = 0) := (q_eqI c28)
        refine lv_iconst (v := 0) hx hb d_5_4_93 (by decide) ?_
        refine lv_goto (tgt := 105) hx hb d_5_4_94 (by decide) ?_
        refine q_put (ci := 7) (j := 1) (v := .int 0) (ty := .int) C0 V i_Dig o_Dig n_Dig rfl rfl hO25 (by decide) w_266 rfl rfl rfl rfl (Nat.le_of_ble_eq_true rfl) d_5_4_105 (fun H locs w39 hu40 hO25 V => ?_)
        replace hO25 : w39[36]? = (some (q 36, .inr (7, [.int lx6, .int 0, .ref (q 37)])) : Option (Nat × va_E)) := hO25
        replace hI := n_p36 hI hu40 hO25 ⟨(by have t1 : 0 ≤ lx6.toInt := i7; omega), (by have t1 : lx6.toInt = 0 := b38; omega)⟩ ⟨(by have z9 : (0 : Int32).toInt = 0 := rfl; omega), (by have z9 : (0 : Int32).toInt = 0 := rfl; omega)⟩
        replace hF := q_us hF hu40 (by simp)
        exact q_retv C0 V (⟨hI, hF, lx6, 0, hO25, (show 0 ≤ lx6.toInt from (by have z4 : (0 : Int32).toInt = 0 := rfl; have t1 : 0 ≤ lx6.toInt := i7; omega)), (show 0 ≤ (0 : Int32).toInt + 20000 from (by have z4 : (0 : Int32).toInt = 0 := rfl; omega)), (show lx6.toInt ≤ t0_0.toInt from (by have z4 : (0 : Int32).toInt = 0 := rfl; have t1 : lx6.toInt ≤ t0_0.toInt := i8; omega)), (show (0 : Int32).toInt ≤ lx6.toInt + 19999 from (by have z4 : (0 : Int32).toInt = 0 := rfl; have t1 : 0 ≤ lx6.toInt := i7; omega)), (show lx6.toInt ≤ (0 : Int32).toInt + 20001 from (by have z4 : (0 : Int32).toInt = 0 := rfl; have t1 : lx6.toInt = 0 := b38; omega))⟩) d_5_4_108
    ·
      have b41 : q_F (lx18.toInt < lx17.toInt) := (q_nleI c26)
      refine lv_aload_n hx hb d_5_4_48 rfl (lv_at hl 2 rfl) ?_
      refine q_get (ci := 7) (j := 2) (v := .ref (q 37)) C0 V i_Dig rfl rfl hO25 (by decide) w_269 rfl d_5_4_49 ?_
      refine lv_iload_n hx hb d_5_4_52 rfl (lv_at hl 1 rfl) ?_
      obtain ⟨f42, hA43, bf44⟩ := n_ai hI (n_s37 g q)
      refine q_bald C0 V hA43 (q_ix (x := lx18.toInt) rfl (by have t1 : a14.toInt ≤ lx17.toInt + lx18.toInt := i20; have t2 : lx17.toInt ≤ lx18.toInt + a14.toInt := i22; omega) (by have t1 : a14.toInt ≤ lx17.toInt + lx18.toInt := i20; have t2 : lx17.toInt ≤ lx18.toInt + a14.toInt := i22; have t3 : 0 ≤ t0_0.toInt ∧ t0_0.toInt ≤ 1026 := btt0_0; have t4 : lx6.toInt ≤ t0_0.toInt := i8; have t5 : a14.toInt = lx6.toInt - 1 := b16; have t6 : lx18.toInt ≤ lx17.toInt + 1 := i19; have t7 : lx17.toInt + lx18.toInt ≤ a14.toInt := i21; omega)) d_5_4_53 ?_
      obtain ⟨a45, e46⟩ := q_nm (f42 lx18.toNatClampNeg : Int32)
      refine q_ti (v := a45) e46 ?_
      refine lv_istore (lv' := [(4, .int a45), (3, .int lx17), (2, .int lx18), (0, .ref (q 36)), (1, .int x2)]) hx hb d_5_4_54 hl (by decide) rfl (fun ls hl => ?_)
      refine lv_aload_n hx hb d_5_4_56 rfl (lv_at hl 3 rfl) ?_
      refine q_get (ci := 7) (j := 2) (v := .ref (q 37)) C0 V i_Dig rfl rfl hO25 (by decide) w_269 rfl d_5_4_57 ?_
      refine lv_iload_n hx hb d_5_4_60 rfl (lv_at hl 2 rfl) ?_
      refine lv_aload_n hx hb d_5_4_61 rfl (lv_at hl 3 rfl) ?_
      refine q_get (ci := 7) (j := 2) (v := .ref (q 37)) C0 V i_Dig rfl rfl hO25 (by decide) w_269 rfl d_5_4_62 ?_
      refine lv_iload_n hx hb d_5_4_65 rfl (lv_at hl 1 rfl) ?_
      refine q_bald C0 V hA43 (q_ix (x := lx17.toInt) rfl (by have t1 : a14.toInt ≤ lx17.toInt + lx18.toInt := i20; have t2 : lx17.toInt ≤ lx18.toInt + a14.toInt := i22; have t3 : lx18.toInt < lx17.toInt := b41; omega) (by have t1 : a14.toInt ≤ lx17.toInt + lx18.toInt := i20; have t2 : lx17.toInt ≤ lx18.toInt + a14.toInt := i22; have t3 : lx18.toInt < lx17.toInt := b41; have t4 : 0 ≤ t0_0.toInt ∧ t0_0.toInt ≤ 1026 := btt0_0; have t5 : lx6.toInt ≤ t0_0.toInt := i8; have t6 : a14.toInt = lx6.toInt - 1 := b16; have t7 : lx17.toInt + lx18.toInt ≤ a14.toInt := i21; omega)) d_5_4_66 ?_
      obtain ⟨a47, e48⟩ := q_nm (f42 lx17.toNatClampNeg : Int32)
      refine q_ti (v := a47) e48 ?_
      refine q_bast C0 V hA43 (q_ix (x := lx18.toInt) rfl (by have t1 : a14.toInt ≤ lx17.toInt + lx18.toInt := i20; have t2 : lx17.toInt ≤ lx18.toInt + a14.toInt := i22; omega) (by have t1 : a14.toInt ≤ lx17.toInt + lx18.toInt := i20; have t2 : lx17.toInt ≤ lx18.toInt + a14.toInt := i22; have t3 : 0 ≤ t0_0.toInt ∧ t0_0.toInt ≤ 1026 := btt0_0; have t4 : lx6.toInt ≤ t0_0.toInt := i8; have t5 : a14.toInt = lx6.toInt - 1 := b16; have t6 : lx18.toInt ≤ lx17.toInt + 1 := i19; have t7 : lx17.toInt + lx18.toInt ≤ a14.toInt := i21; omega)) d_5_4_67 (fun H locs w49 hu50 hA43 V => ?_)
      replace hI := n_ai' hI (n_s37 g q) hu50 hA43 (q_updB bf44 s_bnd)
      replace hO25 := (hu50 _ (by decide)).trans hO25
      replace hF := q_us hF hu50 (by simp)
      refine lv_aload_n hx hb d_5_4_68 rfl (lv_at hl 3 rfl) ?_
      refine q_get (ci := 7) (j := 2) (v := .ref (q 37)) C0 V i_Dig rfl rfl hO25 (by decide) w_269 rfl d_5_4_69 ?_
      refine lv_iload_n hx hb d_5_4_72 rfl (lv_at hl 1 rfl) ?_
      refine lv_iload hx hb d_5_4_73 (lv_at hl 0 rfl) ?_
      obtain ⟨f51, hA52, bf53⟩ := n_ai hI (n_s37 g q)
      refine q_bast C0 V hA52 (q_ix (x := lx17.toInt) rfl (by have t1 : a14.toInt ≤ lx17.toInt + lx18.toInt := i20; have t2 : lx17.toInt ≤ lx18.toInt + a14.toInt := i22; have t3 : lx18.toInt < lx17.toInt := b41; omega) (by have t1 : a14.toInt ≤ lx17.toInt + lx18.toInt := i20; have t2 : lx17.toInt ≤ lx18.toInt + a14.toInt := i22; have t3 : lx18.toInt < lx17.toInt := b41; have t4 : 0 ≤ t0_0.toInt ∧ t0_0.toInt ≤ 1026 := btt0_0; have t5 : lx6.toInt ≤ t0_0.toInt := i8; have t6 : a14.toInt = lx6.toInt - 1 := b16; have t7 : lx17.toInt + lx18.toInt ≤ a14.toInt := i21; omega)) d_5_4_75 (fun H locs w54 hu55 hA52 V => ?_)
      replace hI := n_ai' hI (n_s37 g q) hu55 hA52 (q_updB bf53 s_bnd)
      replace hO25 := (hu55 _ (by decide)).trans hO25
      replace hF := q_us hF hu55 (by simp)
      obtain ⟨a56, e57⟩ := q_nm (lx18 + 1 : Int32)
      have b58 : q_F (a56.toInt = lx18.toInt + 1) := (by rw [← e57]; exact q_addI (y := 1) rfl (by decide) (by have t1 : a14.toInt ≤ lx17.toInt + lx18.toInt := i20; have t2 : lx17.toInt ≤ lx18.toInt + a14.toInt := i22; have t3 : lx18.toInt ≤ lx17.toInt + 1 := i19; have t4 : lx17.toInt + lx18.toInt ≤ a14.toInt := i21; have _ := q_lo32 (x := a14); have _ := q_hi32 (x := a14); omega) (by have t1 : a14.toInt ≤ lx17.toInt + lx18.toInt := i20; have t2 : lx17.toInt ≤ lx18.toInt + a14.toInt := i22; have t3 : lx18.toInt ≤ lx17.toInt + 1 := i19; have t4 : lx17.toInt + lx18.toInt ≤ a14.toInt := i21; have _ := q_lo32 (x := a14); have _ := q_hi32 (x := a14); omega))
      refine lv_iinc (v := a56) (lv' := [(2, .int a56), (4, .int a45), (3, .int lx17), (0, .ref (q 36)), (1, .int x2)]) hx hb d_5_4_76 hl (k := 2) rfl (e57) (by decide) rfl (fun ls hl => ?_)
      obtain ⟨a59, e60⟩ := q_nm (lx17 + (-1) : Int32)
      have b61 : q_F (a59.toInt = lx17.toInt + (-1)) := (by rw [← e60]; exact q_addI (y := (-1)) rfl (by decide) (by have t1 : lx18.toInt ≤ lx17.toInt + 1 := i19; have t2 : a14.toInt ≤ lx17.toInt + lx18.toInt := i20; have t3 : lx17.toInt ≤ lx18.toInt + a14.toInt := i22; have t4 : lx17.toInt + lx18.toInt ≤ a14.toInt := i21; have _ := q_lo32 (x := a14); have _ := q_hi32 (x := a14); omega) (by have t1 : lx18.toInt ≤ lx17.toInt + 1 := i19; have t2 : a14.toInt ≤ lx17.toInt + lx18.toInt := i20; have t3 : lx17.toInt ≤ lx18.toInt + a14.toInt := i22; have t4 : lx17.toInt + lx18.toInt ≤ a14.toInt := i21; have _ := q_lo32 (x := a14); have _ := q_hi32 (x := a14); omega))
      refine lv_iinc (v := a59) (lv' := [(3, .int a59), (2, .int a56), (4, .int a45), (0, .ref (q 36)), (1, .int x2)]) hx hb d_5_4_79 hl (k := 2) rfl (e60) (by decide) rfl (fun ls hl => ?_)
      refine lv_goto (tgt := 43) hx hb d_5_4_82 (by decide) ?_
      exact ih23 ((a59 : Int32), (a56 : Int32)) _ _ _ _ (show (a59.toInt - ((-1000000))).toNat < (lx17.toInt - ((-1000000))).toNat from by have t1 : a59.toInt = lx17.toInt + (-1) := b61; have t2 : lx18.toInt ≤ lx17.toInt + 1 := i19; have t3 : a14.toInt ≤ lx17.toInt + lx18.toInt := i20; have t4 : lx17.toInt ≤ lx18.toInt + a14.toInt := i22; omega) ⟨(show q_F (a56.toInt ≤ a59.toInt + 1) from (show a56.toInt ≤ a59.toInt + 1 from by have t1 : lx18.toInt < lx17.toInt := b41; have t2 : a56.toInt = lx18.toInt + 1 := b58; have t3 : a59.toInt = lx17.toInt + (-1) := b61; omega)), (show q_F (a14.toInt ≤ a59.toInt + a56.toInt) from (show a14.toInt ≤ a59.toInt + a56.toInt from by have t1 : a14.toInt ≤ lx17.toInt + lx18.toInt := i20; have t2 : a56.toInt = lx18.toInt + 1 := b58; have t3 : a59.toInt = lx17.toInt + (-1) := b61; omega)), (show q_F (a59.toInt + a56.toInt ≤ a14.toInt) from (show a59.toInt + a56.toInt ≤ a14.toInt from by have t1 : lx17.toInt + lx18.toInt ≤ a14.toInt := i21; have t2 : a56.toInt = lx18.toInt + 1 := b58; have t3 : a59.toInt = lx17.toInt + (-1) := b61; omega)), (show q_F (a59.toInt ≤ a56.toInt + a14.toInt) from (show a59.toInt ≤ a56.toInt + a14.toInt from by have t1 : lx17.toInt ≤ lx18.toInt + a14.toInt := i22; have t2 : a56.toInt = lx18.toInt + 1 := b58; have t3 : a59.toInt = lx17.toInt + (-1) := b61; omega)), V, q_lw hl (q_lw1 0 rfl (q_lw1 1 rfl (q_lw1 3 rfl (q_lw1 4 rfl q_lw0)))), hI, hF, hO25⟩
  ·
    intro J13
    refine lv_if_le (tgt := 34) hx hb d_5_4_4 (by decide) (fun c62 => ?_) (fun c62 => ?_)
    ·
      have b63 : q_F (lx6.toInt ≤ 0) := (q_leI c62)
      exact J13 (()) _ _ _ w10 ⟨V, q_lw hl (q_lw1 0 rfl (q_lw1 1 rfl q_lw0))⟩
    ·
      have b64 : q_F (0 < lx6.toInt) := (q_nleI c62)
      refine lv_aload_n hx hb d_5_4_7 rfl (lv_at hl 0 rfl) ?_
      refine q_get (ci := 7) (j := 2) (v := .ref (q 37)) C0 V i_Dig rfl rfl hO11 (by decide) w_269 rfl d_5_4_8 ?_
      refine lv_aload_n hx hb d_5_4_11 rfl (lv_at hl 0 rfl) ?_
      refine q_get (ci := 7) (j := 0) (v := .int lx6) C0 V i_Dig rfl rfl hO11 (by decide) w_264 rfl d_5_4_12 ?_
      refine lv_iconst (v := 1) hx hb d_5_4_15 (by decide) ?_
      refine lv_isub hx hb d_5_4_16 ?_
      obtain ⟨a65, e66⟩ := q_nm (lx6 - 1 : Int32)
      refine q_ti (v := a65) e66 ?_
      have b67 : q_F (a65.toInt = lx6.toInt - 1) := (by rw [← e66]; show (lx6 - 1 : Int32).toInt = lx6.toInt - 1; exact q_subI (x := lx6.toInt) (y := 1) rfl (by decide) (by have t1 : 0 ≤ lx6.toInt := i7; have _ := q_lo32 (x := lx6); have _ := q_hi32 (x := lx6); omega) (by have t1 : 0 ≤ lx6.toInt := i7; have _ := q_lo32 (x := lx6); have _ := q_hi32 (x := lx6); omega))
      obtain ⟨f68, hA69, bf70⟩ := n_ai hI (n_s37 g q)
      refine q_bald C0 V hA69 (q_ix (x := a65.toInt) rfl (by have t1 : 0 < lx6.toInt := b64; have t2 : a65.toInt = lx6.toInt - 1 := b67; omega) (by have t1 : 0 < lx6.toInt := b64; have t2 : a65.toInt = lx6.toInt - 1 := b67; have t3 : 0 ≤ t0_0.toInt ∧ t0_0.toInt ≤ 1026 := btt0_0; have t4 : lx6.toInt ≤ t0_0.toInt := i8; omega)) d_5_4_17 ?_
      obtain ⟨a71, e72⟩ := q_nm (f68 a65.toNatClampNeg : Int32)
      refine q_ti (v := a71) e72 ?_
      refine lv_if_ne (tgt := 34) hx hb d_5_4_18 (by decide) (fun c73 => ?_) (fun c73 => ?_)
      ·
        have b74 : q_F (a71.toInt ≠ 0) := (q_neI c73)
        exact J13 (()) _ _ _ w10 ⟨V, q_lw hl (q_lw1 0 rfl (q_lw1 1 rfl q_lw0))⟩
      ·
        have b75 : q_F (a71.toInt = 0) := (q_eqI c73)
        refine lv_aload_n hx hb d_5_4_21 rfl (lv_at hl 0 rfl) ?_
        refine lv_dup hx hb d_5_4_22 rfl ?_
        refine q_get (ci := 7) (j := 0) (v := .int lx6) C0 V i_Dig rfl rfl hO11 (by decide) w_264 rfl d_5_4_23 ?_
        refine lv_iconst (v := 1) hx hb d_5_4_26 (by decide) ?_
        refine lv_isub hx hb d_5_4_27 ?_
        obtain ⟨a76, e77⟩ := q_nm (lx6 - 1 : Int32)
        refine q_ti (v := a76) e77 ?_
        have b78 : q_F (a76.toInt = lx6.toInt - 1) := (by rw [← e77]; show (lx6 - 1 : Int32).toInt = lx6.toInt - 1; exact q_subI (x := lx6.toInt) (y := 1) rfl (by decide) (by have t1 : 0 ≤ lx6.toInt := i7; have t2 : a65.toInt = lx6.toInt - 1 := b67; have _ := q_lo32 (x := a65); have _ := q_hi32 (x := a65); omega) (by have t1 : 0 ≤ lx6.toInt := i7; have t2 : a65.toInt = lx6.toInt - 1 := b67; have _ := q_lo32 (x := a65); have _ := q_hi32 (x := a65); omega))
        refine q_put (ci := 7) (j := 0) (v := .int a76) (ty := .int) C0 V i_Dig o_Dig n_Dig rfl rfl hO11 (by decide) w_264 rfl rfl rfl rfl (Nat.le_of_ble_eq_true rfl) d_5_4_28 (fun H locs w79 hu80 hO11 V => ?_)
        replace hO11 : w79[36]? = (some (q 36, .inr (7, [.int a76, .int t0_1, .ref (q 37)])) : Option (Nat × va_E)) := hO11
        replace hI := n_p36 hI hu80 hO11 ⟨(by have t1 : 0 < lx6.toInt := b64; have t2 : a76.toInt = lx6.toInt - 1 := b78; omega), (by have t1 : 0 ≤ t0_0.toInt ∧ t0_0.toInt ≤ 1026 := btt0_0; have t2 : lx6.toInt ≤ t0_0.toInt := i8; have t3 : a76.toInt = lx6.toInt - 1 := b78; omega)⟩ ⟨(by have t1 : -1000000 ≤ t0_1.toInt ∧ t0_1.toInt ≤ 1000000 := btt0_1; omega), (by have t1 : -1000000 ≤ t0_1.toInt ∧ t0_1.toInt ≤ 1000000 := btt0_1; omega)⟩
        replace hA69 := (hu80 _ (by decide)).trans hA69
        replace hF := q_us hF hu80 (by simp)
        refine lv_goto (tgt := 0) hx hb d_5_4_31 (by decide) ?_
        exact ih9 ((a76 : Int32)) _ _ _ _ (show (a76.toInt - ((-1000000))).toNat < (lx6.toInt - ((-1000000))).toNat from by have t1 : a76.toInt = lx6.toInt - 1 := b78; have t2 : 0 ≤ lx6.toInt := i7; omega) ⟨(show q_F (0 ≤ a76.toInt) from (show 0 ≤ a76.toInt from by have t1 : 0 < lx6.toInt := b64; have t2 : a76.toInt = lx6.toInt - 1 := b78; omega)), (show q_F (a76.toInt ≤ t0_0.toInt) from (show a76.toInt ≤ t0_0.toInt from by have t1 : lx6.toInt ≤ t0_0.toInt := i8; have t2 : a76.toInt = lx6.toInt - 1 := b78; omega)), V, q_lw hl (q_lw1 0 rfl (q_lw1 1 rfl q_lw0)), hI, hF, hO11⟩
theorem d_5_2_0 : decode prog_5_method_2_code 0 = .ok (.aload_n 0, 1) := by decide +kernel
theorem d_5_2_1 : decode prog_5_method_2_code 1 = .ok (.iconst 0, 1) := by decide +kernel
theorem d_5_2_2 : decode prog_5_method_2_code 2 = .ok (.putfield 13, 3) := by decide +kernel
theorem d_5_2_5 : decode prog_5_method_2_code 5 = .ok (.iconst 0, 1) := by decide +kernel
theorem d_5_2_6 : decode prog_5_method_2_code 6 = .ok (.istore_n 3, 1) := by decide +kernel
theorem d_5_2_7 : decode prog_5_method_2_code 7 = .ok (.iload_n 3, 1) := by decide +kernel
theorem d_5_2_8 : decode prog_5_method_2_code 8 = .ok (.bipush 114, 2) := by decide +kernel
theorem d_5_2_10 : decode prog_5_method_2_code 10 = .ok (.if_icmp .ge 72, 3) := by decide +kernel
theorem d_5_2_82 : decode prog_5_method_2_code 82 = .ok (.aload_n 0, 1) := by decide +kernel
theorem d_5_2_83 : decode prog_5_method_2_code 83 = .ok (.iload_n 2, 1) := by decide +kernel
theorem d_5_2_84 : decode prog_5_method_2_code 84 = .ok (.invokevirtual 27, 3) := by decide +kernel
set_option maxRecDepth 100000 in
theorem w_1147 : (Cond.code ({ cls := "NumberHouse$Digits", name := "turn", desc := "(I)V" } : MethodName) prog_5_method_4_code (5 : Nat) (none : Option ClassFile.FieldType)) ∈ q_tbl := q_of5 187 rfl (by decide +kernel)
set_option maxRecDepth 100000 in
theorem w_1144 : (Cond.methodLink "NumberHouse$Digits" (27 : Nat) ({ cls := "NumberHouse$Digits", name := "turn", desc := "(I)V" } : MethodName)) ∈ q_tbl := q_of5 184 rfl (by decide +kernel)
set_option maxRecDepth 100000 in
theorem w_1146 : (Cond.instanceMethod ({ cls := "NumberHouse$Digits", name := "turn", desc := "(I)V" } : MethodName)) ∈ q_tbl := q_of5 186 rfl (by decide +kernel)
theorem ws_22 : Cond.selects "NumberHouse$Digits" (⟨"NumberHouse$Digits", "turn", "(I)V"⟩ : MethodName) (⟨"NumberHouse$Digits", "turn", "(I)V"⟩ : MethodName) ∈ q_tbl := q_ofs 22 (by decide +kernel) (by decide +kernel)
theorem LV_Dig_27 : q_LV "NumberHouse$Digits" 27 y_Dig_turn prog_5_method_4_code 5 none 1 := ⟨w_1147, w_9, w_1144, w_1146, ws_22, ⟨by decide, by decide, by decide +kernel⟩⟩
theorem d_5_2_87 : decode prog_5_method_2_code 87 = .ok (.return_, 1) := by decide +kernel
theorem d_5_2_13 : decode prog_5_method_2_code 13 = .ok (.aload_n 1, 1) := by decide +kernel
theorem d_5_2_14 : decode prog_5_method_2_code 14 = .ok (.getfield 17, 3) := by decide +kernel
set_option maxRecDepth 100000 in
theorem w_86 : (Cond.fieldLink "NumberHouse$Digits" (17 : Nat) "NumberHouse$Big" "size" "I") ∈ q_tbl := q_of1 86 rfl (by decide +kernel)
theorem d_5_2_17 : decode prog_5_method_2_code 17 = .ok (.ifCond .le 65, 3) := by decide +kernel
theorem d_5_2_20 : decode prog_5_method_2_code 20 = .ok (.aload_n 1, 1) := by decide +kernel
theorem d_5_2_21 : decode prog_5_method_2_code 21 = .ok (.ldc 22, 2) := by decide +kernel
set_option maxRecDepth 100000 in
theorem w_1142 : (Cond.constant "NumberHouse$Digits" (22 : Nat) (1000000000 : Int32)) ∈ q_tbl := q_of5 182 rfl (by decide +kernel)
theorem d_5_2_23 : decode prog_5_method_2_code 23 = .ok (.invokevirtual 23, 3) := by decide +kernel
set_option maxRecDepth 100000 in
theorem w_1143 : (Cond.methodLink "NumberHouse$Digits" (23 : Nat) ({ cls := "NumberHouse$Big", name := "divideSmall", desc := "(I)I" } : MethodName)) ∈ q_tbl := q_of5 183 rfl (by decide +kernel)
theorem LV_Dig_23 : q_LV "NumberHouse$Digits" 23 y_Big_divideSmall prog_2_method_27_code 8 (some .int) 1 := ⟨w_1042, w_4, w_1143, w_1040, w_1041, ⟨by decide, by decide, by decide +kernel⟩⟩
theorem d_5_2_26 : decode prog_5_method_2_code 26 = .ok (.istore 4, 2) := by decide +kernel
theorem d_5_2_28 : decode prog_5_method_2_code 28 = .ok (.iconst 0, 1) := by decide +kernel
theorem d_5_2_29 : decode prog_5_method_2_code 29 = .ok (.istore 5, 2) := by decide +kernel
theorem d_5_2_31 : decode prog_5_method_2_code 31 = .ok (.iload 5, 2) := by decide +kernel
theorem d_5_2_33 : decode prog_5_method_2_code 33 = .ok (.bipush 9, 2) := by decide +kernel
theorem d_5_2_35 : decode prog_5_method_2_code 35 = .ok (.if_icmp .ge 41, 3) := by decide +kernel
theorem d_5_2_76 : decode prog_5_method_2_code 76 = .ok (.iinc 3 1, 3) := by decide +kernel
theorem d_5_2_79 : decode prog_5_method_2_code 79 = .ok (.goto (-72), 3) := by decide +kernel
theorem d_5_2_38 : decode prog_5_method_2_code 38 = .ok (.aload_n 0, 1) := by decide +kernel
theorem d_5_2_39 : decode prog_5_method_2_code 39 = .ok (.getfield 9, 3) := by decide +kernel
theorem d_5_2_42 : decode prog_5_method_2_code 42 = .ok (.aload_n 0, 1) := by decide +kernel
theorem d_5_2_43 : decode prog_5_method_2_code 43 = .ok (.getfield 13, 3) := by decide +kernel
theorem d_5_2_46 : decode prog_5_method_2_code 46 = .ok (.iload 4, 2) := by decide +kernel
theorem d_5_2_48 : decode prog_5_method_2_code 48 = .ok (.bipush 10, 2) := by decide +kernel
theorem d_5_2_50 : decode prog_5_method_2_code 50 = .ok (.irem, 1) := by decide +kernel
theorem d_5_2_51 : decode prog_5_method_2_code 51 = .ok (.i2b, 1) := by decide +kernel
theorem d_5_2_52 : decode prog_5_method_2_code 52 = .ok (.bastore, 1) := by decide +kernel
theorem d_5_2_53 : decode prog_5_method_2_code 53 = .ok (.iload 4, 2) := by decide +kernel
theorem d_5_2_55 : decode prog_5_method_2_code 55 = .ok (.bipush 10, 2) := by decide +kernel
theorem d_5_2_57 : decode prog_5_method_2_code 57 = .ok (.idiv, 1) := by decide +kernel
theorem d_5_2_58 : decode prog_5_method_2_code 58 = .ok (.istore 4, 2) := by decide +kernel
theorem d_5_2_60 : decode prog_5_method_2_code 60 = .ok (.aload_n 0, 1) := by decide +kernel
theorem d_5_2_61 : decode prog_5_method_2_code 61 = .ok (.dup, 1) := by decide +kernel
theorem d_5_2_62 : decode prog_5_method_2_code 62 = .ok (.getfield 13, 3) := by decide +kernel
theorem d_5_2_65 : decode prog_5_method_2_code 65 = .ok (.iconst 1, 1) := by decide +kernel
theorem d_5_2_66 : decode prog_5_method_2_code 66 = .ok (.iadd, 1) := by decide +kernel
theorem d_5_2_67 : decode prog_5_method_2_code 67 = .ok (.putfield 13, 3) := by decide +kernel
theorem d_5_2_70 : decode prog_5_method_2_code 70 = .ok (.iinc 5 1, 3) := by decide +kernel
theorem d_5_2_73 : decode prog_5_method_2_code 73 = .ok (.goto (-42), 3) := by decide +kernel
def y_Dig_fill : MethodName := ⟨"NumberHouse$Digits", "fill", "(LNumberHouse$Big;I)V"⟩
set_option maxRecDepth 100000 in
set_option maxHeartbeats 4000000 in
theorem T_Dig_fill (l : Launch) (D : va_G) (g : Nat → ClassId) (q : Nat → Nat) (ws : va_W) (k2 : Nat) (R : Int32) (hB2 : q_isBig (nsh g q) g q k2 R) (zk2 : (10 ≤ k2 ∧ k2 ≤ 32) ∨ 66 ≤ k2) (x3 : Int32) (hI : q_I (nsh g q) q ws) (t0_0 : Int32) (t0_1 : Int32) (hT0 : ws[36]? = (some (q 36, .inr (7, [.int t0_0, .int t0_1, .ref (q 37)])) : Option (Nat × va_E))) (pre0 : 0 ≤ x3.toInt + 20000) (pre1 : x3.toInt ≤ 20000) : q_mV l y_Dig_fill prog_5_method_2_code 6 3 0 0 D g [.ref (q 36), .ref (q k2), .int x3] ws (fun u => q_I (nsh g q) q u ∧ q_un ws u [36, 37, k2, k2 + 1] ∧ ∃ (u0_0 : Int32) (u0_1 : Int32), u[36]? = (some (q 36, .inr (7, [.int u0_0, .int u0_1, .ref (q 37)])) : Option (Nat × va_E)) ∧ (0 ≤ u0_0.toInt) ∧ (u0_0.toInt ≤ 1027) ∧ (0 ≤ u0_1.toInt + 20000) ∧ (u0_1.toInt ≤ u0_0.toInt + 19999) ∧ (u0_0.toInt ≤ u0_1.toInt + 20001)) := by
  intro sz
  refine q_into (by decide) (Nat.le_of_ble_eq_true rfl) ?_
  intro p e s m below meth c ls hsz C0 V hl
  have hx := C0.1
  have hb := C0.2.1
  have hfk20 : q_F (0 ≤ R.toInt ∧ R.toInt ≤ 220) := hB2.2.2
  obtain ⟨yy0_0, yy0_1, hh0, btt0_0, btt0_1⟩ := n_o36 hI
  obtain ⟨rfl, rfl⟩ : t0_0 = yy0_0 ∧ t0_1 = yy0_1 := by have z := Option.some.inj (hT0.symm.trans hh0); simpa using z
  replace btt0_0 : q_F (0 ≤ t0_0.toInt ∧ t0_0.toInt ≤ 1026) := btt0_0
  replace btt0_1 : q_F (-1000000 ≤ t0_1.toInt ∧ t0_1.toInt ≤ 1000000) := btt0_1
  replace pre0 : q_F (0 ≤ x3.toInt + 20000) := pre0
  replace pre1 : q_F (x3.toInt ≤ 20000) := pre1
  have hF : q_un ws ws [36, 37, k2, k2 + 1] := q_u0
  have hl : lv_has ls 6 [(0, .ref (q 36)), (1, .ref (q k2)), (2, .int x3)] := hl
  refine lv_aload_n hx hb d_5_2_0 rfl (lv_at hl 0 rfl) ?_
  refine lv_iconst (v := 0) hx hb d_5_2_1 (by decide) ?_
  refine q_put (ci := 7) (j := 0) (v := .int 0) (ty := .int) C0 V i_Dig o_Dig n_Dig rfl rfl hT0 (by decide) w_264 rfl rfl rfl rfl (Nat.le_of_ble_eq_true rfl) d_5_2_2 (fun H locs w6 hu7 hT0 V => ?_)
  replace hT0 : w6[36]? = (some (q 36, .inr (7, [.int 0, .int t0_1, .ref (q 37)])) : Option (Nat × va_E)) := hT0
  replace hI := n_p36 hI hu7 hT0 ⟨(by have z9 : (0 : Int32).toInt = 0 := rfl; omega), (by have z9 : (0 : Int32).toInt = 0 := rfl; omega)⟩ ⟨(by have t1 : -1000000 ≤ t0_1.toInt ∧ t0_1.toInt ≤ 1000000 := btt0_1; omega), (by have t1 : -1000000 ≤ t0_1.toInt ∧ t0_1.toInt ≤ 1000000 := btt0_1; omega)⟩
  replace hF := q_us hF hu7 (by simp)
  refine lv_iconst (v := 0) hx hb d_5_2_5 (by decide) ?_
  refine lv_istore_n (lv' := [(3, .int 0), (0, .ref (q 36)), (1, .ref (q k2)), (2, .int x3)]) hx hb d_5_2_6 rfl hl (by decide) rfl (fun ls hl => ?_)
  refine q_loop (X := Int32 × Int32) (fun z H locs ls w18 => q_F (z.2.toInt ≤ 1027) ∧ q_F (0 ≤ z.1.toInt + z.2.toInt) ∧ q_F (9 * z.1.toInt ≤ z.2.toInt) ∧ q_F (z.2.toInt ≤ 9 * z.1.toInt) ∧ q_Wd D g (va_A ws sz) s w18 H locs ∧ lv_has ls 6 [(3, .int z.1), (0, .ref (q 36)), (1, .ref (q k2)), (2, .int x3)] ∧ q_I (nsh g q) q w18 ∧ q_un ws w18 [36, 37, k2, k2 + 1] ∧ w18[36]? = (some (q 36, .inr (7, [.int z.2, .int t0_1, .ref (q 37)])) : Option (Nat × va_E))) (fun z => (114 - z.1.toInt).toNat) ?_ ((0 : Int32), (0 : Int32)) _ _ _ w6 ⟨(show q_F (0 ≤ 1027) from (show 0 ≤ 1027 from by omega)), (show q_F (0 ≤ 0 + 0) from (show 0 ≤ 0 + 0 from by omega)), (show q_F (9 * 0 ≤ 0) from (show 9 * 0 ≤ 0 from by omega)), (show q_F (0 ≤ 9 * 0) from (show 0 ≤ 9 * 0 from by omega)), V, q_lw hl (q_lw1 0 rfl (q_lw1 1 rfl (q_lw1 2 rfl (q_lw1 3 rfl q_lw0)))), hI, hF, hT0⟩
  rintro ⟨lx11, lx12⟩ H locs ls w18 ⟨i13, i14, i15, i16, V, hl, hI, hF, hO19⟩ ih17
  replace i13 : q_F (lx12.toInt ≤ 1027) := i13
  replace i14 : q_F (0 ≤ lx11.toInt + lx12.toInt) := i14
  replace i15 : q_F (9 * lx11.toInt ≤ lx12.toInt) := i15
  replace i16 : q_F (lx12.toInt ≤ 9 * lx11.toInt) := i16
  replace hl : lv_has ls 6 [(3, .int lx11), (0, .ref (q 36)), (1, .ref (q k2)), (2, .int x3)] := hl
  replace hO19 : w18[36]? = (some (q 36, .inr (7, [.int lx12, .int t0_1, .ref (q 37)])) : Option (Nat × va_E)) := hO19
  refine lv_iload_n hx hb d_5_2_7 rfl (lv_at hl 0 rfl) ?_
  refine lv_bipush (v := 114) hx hb d_5_2_8 (by decide) ?_
  refine lv_icmp_ge (tgt := 82) hx hb d_5_2_10 (by decide) (fun c20 => ?_) (fun c20 => ?_)
  ·
    have b21 : q_F (114 ≤ lx11.toInt) := (q_leI c20)
    refine lv_aload_n hx hb d_5_2_82 rfl (lv_at hl 1 rfl) ?_
    refine lv_iload_n hx hb d_5_2_83 rfl (lv_at hl 3 rfl) ?_
    refine q_gov V (q_runV (As := [.int x3]) (rest := []) (d := 1) (mc := 0) (ms := 0) (ci := 7) C0 V rfl LV_Dig_27 (T_Dig_turn l D g q w18  x3 hI lx12 t0_1 hO19 (by have t1 : 0 ≤ x3.toInt + 20000 := pre0; omega) (by have t1 : x3.toInt ≤ 20000 := pre1; omega) _) rfl rfl hO19 rfl hl.1 rfl (Nat.le_of_ble_eq_true rfl) ⟨by decide, by decide⟩ ⟨Nat.le_of_ble_eq_true rfl, Nat.le_of_ble_eq_true rfl⟩ d_5_2_84) (fun u22 H locs hp23 V => ?_)
    obtain ⟨hI, hu32, y25, y26, hO24, b27, b28, b29, b30, b31⟩ := hp23
    replace hO24 : u22[36]? = (some (q 36, .inr (7, [.int y25, .int y26, .ref (q 37)])) : Option (Nat × va_E)) := hO24
    replace b27 : q_F (0 ≤ y25.toInt) := b27
    replace b28 : q_F (0 ≤ y26.toInt + 20000) := b28
    replace b29 : q_F (y25.toInt ≤ lx12.toInt) := b29
    replace b30 : q_F (y26.toInt ≤ y25.toInt + 19999) := b30
    replace b31 : q_F (y25.toInt ≤ y26.toInt + 20001) := b31
    replace hF := q_uc hF hu32 (by simp)
    exact q_retv C0 V (⟨hI, hF, y25, y26, hO24, (show 0 ≤ y25.toInt from (by have t1 : 0 ≤ y25.toInt := b27; omega)), (show y25.toInt ≤ 1027 from (by have t1 : lx12.toInt ≤ 1027 := i13; have t2 : y25.toInt ≤ lx12.toInt := b29; omega)), (show 0 ≤ y26.toInt + 20000 from (by have t1 : 0 ≤ y26.toInt + 20000 := b28; omega)), (show y26.toInt ≤ y25.toInt + 19999 from (by have t1 : y26.toInt ≤ y25.toInt + 19999 := b30; omega)), (show y25.toInt ≤ y26.toInt + 20001 from (by have t1 : y25.toInt ≤ y26.toInt + 20001 := b31; omega))⟩) d_5_2_87
  ·
    have b33 : q_F (lx11.toInt < 114) := (q_nleI c20)
    refine lv_aload_n hx hb d_5_2_13 rfl (lv_at hl 2 rfl) ?_
    obtain ⟨y35, y36, hO34, b37, b38⟩ := q_bigO hI hB2
    replace b37 : q_F (0 ≤ y35.toInt ∧ y35.toInt ≤ R.toInt) := b37
    replace b38 : q_F (0 ≤ y36.toInt ∧ y36.toInt ≤ 1) := b38
    refine q_get (ci := 2) (j := 1) (v := .int y35) C0 V i_Big rfl rfl hO34 (by decide) w_86 rfl d_5_2_14 ?_
    refine lv_if_le (tgt := 82) hx hb d_5_2_17 (by decide) (fun c39 => ?_) (fun c39 => ?_)
    ·
      have b40 : q_F (y35.toInt ≤ 0) := (q_leI c39)
      refine lv_aload_n hx hb d_5_2_82 rfl (lv_at hl 1 rfl) ?_
      refine lv_iload_n hx hb d_5_2_83 rfl (lv_at hl 3 rfl) ?_
      refine q_gov V (q_runV (As := [.int x3]) (rest := []) (d := 1) (mc := 0) (ms := 0) (ci := 7) C0 V rfl LV_Dig_27 (T_Dig_turn l D g q w18  x3 hI lx12 t0_1 hO19 (by have t1 : 0 ≤ x3.toInt + 20000 := pre0; omega) (by have t1 : x3.toInt ≤ 20000 := pre1; omega) _) rfl rfl hO19 rfl hl.1 rfl (Nat.le_of_ble_eq_true rfl) ⟨by decide, by decide⟩ ⟨Nat.le_of_ble_eq_true rfl, Nat.le_of_ble_eq_true rfl⟩ d_5_2_84) (fun u41 H locs hp42 V => ?_)
      obtain ⟨hI, hu51, y44, y45, hO43, b46, b47, b48, b49, b50⟩ := hp42
      replace hO43 : u41[36]? = (some (q 36, .inr (7, [.int y44, .int y45, .ref (q 37)])) : Option (Nat × va_E)) := hO43
      replace b46 : q_F (0 ≤ y44.toInt) := b46
      replace b47 : q_F (0 ≤ y45.toInt + 20000) := b47
      replace b48 : q_F (y44.toInt ≤ lx12.toInt) := b48
      replace b49 : q_F (y45.toInt ≤ y44.toInt + 19999) := b49
      replace b50 : q_F (y44.toInt ≤ y45.toInt + 20001) := b50
      replace hO34 := (hu51 _ (by have z0 := zk2; simp only [List.mem_cons, List.not_mem_nil, or_false, not_or]; omega)).trans hO34
      replace hF := q_uc hF hu51 (by simp)
      exact q_retv C0 V (⟨hI, hF, y44, y45, hO43, (show 0 ≤ y44.toInt from (by have t1 : 0 ≤ y44.toInt := b46; omega)), (show y44.toInt ≤ 1027 from (by have t1 : lx12.toInt ≤ 1027 := i13; have t2 : y44.toInt ≤ lx12.toInt := b48; omega)), (show 0 ≤ y45.toInt + 20000 from (by have t1 : 0 ≤ y45.toInt + 20000 := b47; omega)), (show y45.toInt ≤ y44.toInt + 19999 from (by have t1 : y45.toInt ≤ y44.toInt + 19999 := b49; omega)), (show y44.toInt ≤ y45.toInt + 20001 from (by have t1 : y44.toInt ≤ y45.toInt + 20001 := b50; omega))⟩) d_5_2_87
    ·
      have b52 : q_F (0 < y35.toInt) := (q_nleI c39)
      refine lv_aload_n hx hb d_5_2_20 rfl (lv_at hl 2 rfl) ?_
      refine q_ldc C0 rfl w_1142 d_5_2_21 ?_
      refine q_goi V (q_runV (As := [.int 1000000000]) (rest := []) (d := 2) (mc := 0) (ms := 0) (ci := 2) C0 V rfl LV_Dig_23 (S_Big_divideSmall l D g (nsh g q) q w18 k2 R hB2 1000000000 hI   _) rfl rfl hO34 rfl hl.1 rfl (Nat.le_of_ble_eq_true rfl) ⟨by decide, by decide⟩ ⟨Nat.le_of_ble_eq_true rfl, Nat.le_of_ble_eq_true rfl⟩ d_5_2_23) (fun a55 u53 H locs hp54 V => ?_)
      obtain ⟨_, hI, hu56⟩ := hp54
      replace hO19 := (hu56 _ (by have z0 := zk2; simp only [List.mem_cons, List.not_mem_nil, or_false, not_or]; omega)).trans hO19
      replace hF := q_uc hF hu56 (by simp)
      refine lv_istore (lv' := [(4, .int a55), (3, .int lx11), (0, .ref (q 36)), (1, .ref (q k2)), (2, .int x3)]) hx hb d_5_2_26 hl (by decide) rfl (fun ls hl => ?_)
      refine lv_iconst (v := 0) hx hb d_5_2_28 (by decide) ?_
      refine lv_istore (lv' := [(5, .int 0), (4, .int a55), (3, .int lx11), (0, .ref (q 36)), (1, .ref (q k2)), (2, .int x3)]) hx hb d_5_2_29 hl (by decide) rfl (fun ls hl => ?_)
      refine q_loop (X := Int32 × Int32 × Int32) (fun z H locs ls w67 => q_F (z.1.toInt ≤ 9) ∧ q_F (lx12.toInt ≤ z.1.toInt + z.2.2.toInt) ∧ q_F (z.2.2.toInt ≤ z.1.toInt + lx12.toInt) ∧ q_F (z.1.toInt + lx12.toInt ≤ z.2.2.toInt) ∧ q_Wd D g (va_A ws sz) s w67 H locs ∧ lv_has ls 6 [(5, .int z.1), (4, .int z.2.1), (3, .int lx11), (0, .ref (q 36)), (1, .ref (q k2)), (2, .int x3)] ∧ q_I (nsh g q) q w67 ∧ q_un ws w67 [36, 37, k2, k2 + 1] ∧ w67[36]? = (some (q 36, .inr (7, [.int z.2.2, .int t0_1, .ref (q 37)])) : Option (Nat × va_E))) (fun z => (9 - z.1.toInt).toNat) ?_ ((0 : Int32), (a55 : Int32), (lx12 : Int32)) _ _ _ u53 ⟨(show q_F (0 ≤ 9) from (show 0 ≤ 9 from by omega)), (show q_F (lx12.toInt ≤ 0 + lx12.toInt) from (show lx12.toInt ≤ 0 + lx12.toInt from by omega)), (show q_F (lx12.toInt ≤ 0 + lx12.toInt) from (show lx12.toInt ≤ 0 + lx12.toInt from by omega)), (show q_F (0 + lx12.toInt ≤ lx12.toInt) from (show 0 + lx12.toInt ≤ lx12.toInt from by omega)), V, q_lw hl (q_lw1 0 rfl (q_lw1 1 rfl (q_lw1 2 rfl (q_lw1 3 rfl (q_lw1 4 rfl (q_lw1 5 rfl q_lw0)))))), hI, hF, hO19⟩
      rintro ⟨lx59, lx60, lx61⟩ H locs ls w67 ⟨i62, i63, i64, i65, V, hl, hI, hF, hO68⟩ ih66
      replace i62 : q_F (lx59.toInt ≤ 9) := i62
      replace i63 : q_F (lx12.toInt ≤ lx59.toInt + lx61.toInt) := i63
      replace i64 : q_F (lx61.toInt ≤ lx59.toInt + lx12.toInt) := i64
      replace i65 : q_F (lx59.toInt + lx12.toInt ≤ lx61.toInt) := i65
      replace hl : lv_has ls 6 [(5, .int lx59), (4, .int lx60), (3, .int lx11), (0, .ref (q 36)), (1, .ref (q k2)), (2, .int x3)] := hl
      replace hO68 : w67[36]? = (some (q 36, .inr (7, [.int lx61, .int t0_1, .ref (q 37)])) : Option (Nat × va_E)) := hO68
      refine lv_iload hx hb d_5_2_31 (lv_at hl 0 rfl) ?_
      refine lv_bipush (v := 9) hx hb d_5_2_33 (by decide) ?_
      refine lv_icmp_ge (tgt := 76) hx hb d_5_2_35 (by decide) (fun c69 => ?_) (fun c69 => ?_)
      ·
        have b70 : q_F (9 ≤ lx59.toInt) := (q_leI c69)
        obtain ⟨a71, e72⟩ := q_nm (lx11 + 1 : Int32)
        have b73 : q_F (a71.toInt = lx11.toInt + 1) := (by rw [← e72]; exact q_addI (y := 1) rfl (by decide) (by have t1 : 0 ≤ lx11.toInt + lx12.toInt := i14; have t2 : lx12.toInt ≤ 9 * lx11.toInt := i16; have t3 : lx11.toInt < 114 := b33; omega) (by have t1 : 0 ≤ lx11.toInt + lx12.toInt := i14; have t2 : lx12.toInt ≤ 9 * lx11.toInt := i16; have t3 : lx11.toInt < 114 := b33; omega))
        refine lv_iinc (v := a71) (lv' := [(3, .int a71), (5, .int lx59), (4, .int lx60), (0, .ref (q 36)), (1, .ref (q k2)), (2, .int x3)]) hx hb d_5_2_76 hl (k := 2) rfl (e72) (by decide) rfl (fun ls hl => ?_)
        refine lv_goto (tgt := 7) hx hb d_5_2_79 (by decide) ?_
        exact ih17 ((a71 : Int32), (lx61 : Int32)) _ _ _ _ (show (114 - a71.toInt).toNat < (114 - lx11.toInt).toNat from by have t1 : a71.toInt = lx11.toInt + 1 := b73; have t2 : lx11.toInt < 114 := b33; omega) ⟨(show q_F (lx61.toInt ≤ 1027) from (show lx61.toInt ≤ 1027 from by have t1 : lx12.toInt ≤ 9 * lx11.toInt := i16; have t2 : lx11.toInt < 114 := b33; have t3 : lx59.toInt ≤ 9 := i62; have t4 : lx61.toInt ≤ lx59.toInt + lx12.toInt := i64; omega)), (show q_F (0 ≤ a71.toInt + lx61.toInt) from (show 0 ≤ a71.toInt + lx61.toInt from by have t1 : 0 ≤ lx11.toInt + lx12.toInt := i14; have t2 : lx12.toInt ≤ lx59.toInt + lx61.toInt := i63; have t3 : lx59.toInt + lx12.toInt ≤ lx61.toInt := i65; have t4 : a71.toInt = lx11.toInt + 1 := b73; omega)), (show q_F (9 * a71.toInt ≤ lx61.toInt) from (show 9 * a71.toInt ≤ lx61.toInt from by have t1 : 9 * lx11.toInt ≤ lx12.toInt := i15; have t2 : lx59.toInt + lx12.toInt ≤ lx61.toInt := i65; have t3 : 9 ≤ lx59.toInt := b70; have t4 : a71.toInt = lx11.toInt + 1 := b73; omega)), (show q_F (lx61.toInt ≤ 9 * a71.toInt) from (show lx61.toInt ≤ 9 * a71.toInt from by have t1 : lx12.toInt ≤ 9 * lx11.toInt := i16; have t2 : lx59.toInt ≤ 9 := i62; have t3 : lx61.toInt ≤ lx59.toInt + lx12.toInt := i64; have t4 : a71.toInt = lx11.toInt + 1 := b73; omega)), V, q_lw hl (q_lw1 0 rfl (q_lw1 3 rfl (q_lw1 4 rfl (q_lw1 5 rfl q_lw0)))), hI, hF, hO68⟩
      ·
        have b74 : q_F (lx59.toInt < 9) := (q_nleI c69)
        refine lv_aload_n hx hb d_5_2_38 rfl (lv_at hl 3 rfl) ?_
        refine q_get (ci := 7) (j := 2) (v := .ref (q 37)) C0 V i_Dig rfl rfl hO68 (by decide) w_269 rfl d_5_2_39 ?_
        refine lv_aload_n hx hb d_5_2_42 rfl (lv_at hl 3 rfl) ?_
        refine q_get (ci := 7) (j := 0) (v := .int lx61) C0 V i_Dig rfl rfl hO68 (by decide) w_264 rfl d_5_2_43 ?_
        refine lv_iload hx hb d_5_2_46 (lv_at hl 1 rfl) ?_
        refine lv_bipush (v := 10) hx hb d_5_2_48 (by decide) ?_
        refine lv_irem hx hb d_5_2_50 (by decide) ?_
        obtain ⟨a75, e76⟩ := q_nm (lx60 - lx60 / 10 * 10 : Int32)
        refine q_ti (v := a75) e76 ?_
        refine lv_i2b hx hb d_5_2_51 rfl ?_
        obtain ⟨a77, e78⟩ := q_nm (a75.toInt8.toInt32 : Int32)
        refine q_ti (v := a77) e78 ?_
        obtain ⟨f79, hA80, bf81⟩ := n_ai hI (n_s37 g q)
        refine q_bast C0 V hA80 (q_ix (x := lx61.toInt) rfl (by have t1 : 0 ≤ lx11.toInt + lx12.toInt := i14; have t2 : 9 * lx11.toInt ≤ lx12.toInt := i15; have t3 : lx12.toInt ≤ lx59.toInt + lx61.toInt := i63; have t4 : lx59.toInt + lx12.toInt ≤ lx61.toInt := i65; omega) (by have t1 : 0 ≤ lx11.toInt + lx12.toInt := i14; have t2 : 9 * lx11.toInt ≤ lx12.toInt := i15; have t3 : lx12.toInt ≤ lx59.toInt + lx61.toInt := i63; have t4 : lx59.toInt + lx12.toInt ≤ lx61.toInt := i65; have t5 : lx12.toInt ≤ 9 * lx11.toInt := i16; have t6 : lx11.toInt < 114 := b33; have t7 : lx61.toInt ≤ lx59.toInt + lx12.toInt := i64; have t8 : lx59.toInt < 9 := b74; omega)) d_5_2_52 (fun H locs w82 hu83 hA80 V => ?_)
        replace hI := n_ai' hI (n_s37 g q) hu83 hA80 (q_updB bf81 s_bnd)
        replace hO68 := (hu83 _ (by decide)).trans hO68
        replace hF := q_us hF hu83 (by simp)
        refine lv_iload hx hb d_5_2_53 (lv_at hl 1 rfl) ?_
        refine lv_bipush (v := 10) hx hb d_5_2_55 (by decide) ?_
        refine lv_idiv hx hb d_5_2_57 (by decide) ?_
        obtain ⟨a84, e85⟩ := q_nm (lx60 / 10 : Int32)
        refine q_ti (v := a84) e85 ?_
        have b86 : q_F ((0 ≤ lx60.toInt ∧ 10 * a84.toInt ≤ lx60.toInt ∧ lx60.toInt ≤ 10 * a84.toInt + (10 - 1)) ∨ (lx60.toInt < 0 ∧ lx60.toInt ≤ 10 * a84.toInt ∧ 10 * a84.toInt ≤ lx60.toInt + (10 - 1))) := (by rw [← e85]; show (0 ≤ lx60.toInt ∧ 10 * (lx60 / 10 : Int32).toInt ≤ lx60.toInt ∧ lx60.toInt ≤ 10 * (lx60 / 10 : Int32).toInt + (10 - 1)) ∨ (lx60.toInt < 0 ∧ lx60.toInt ≤ 10 * (lx60 / 10 : Int32).toInt ∧ 10 * (lx60 / 10 : Int32).toInt ≤ lx60.toInt + (10 - 1)); exact n_divI (a := lx60) (b := 10) (n := 10) (by decide) (by decide))
        refine lv_istore (lv' := [(4, .int a84), (5, .int lx59), (3, .int lx11), (0, .ref (q 36)), (1, .ref (q k2)), (2, .int x3)]) hx hb d_5_2_58 hl (by decide) rfl (fun ls hl => ?_)
        refine lv_aload_n hx hb d_5_2_60 rfl (lv_at hl 3 rfl) ?_
        refine lv_dup hx hb d_5_2_61 rfl ?_
        refine q_get (ci := 7) (j := 0) (v := .int lx61) C0 V i_Dig rfl rfl hO68 (by decide) w_264 rfl d_5_2_62 ?_
        refine lv_iconst (v := 1) hx hb d_5_2_65 (by decide) ?_
        refine lv_iadd hx hb d_5_2_66 ?_
        obtain ⟨a87, e88⟩ := q_nm (lx61 + 1 : Int32)
        refine q_ti (v := a87) e88 ?_
        have b89 : q_F (a87.toInt = lx61.toInt + 1) := (by rw [← e88]; show (lx61 + 1 : Int32).toInt = lx61.toInt + 1; exact q_addI (x := lx61.toInt) (y := 1) rfl (by decide) (by have t1 : lx12.toInt ≤ lx59.toInt + lx61.toInt := i63; have t2 : lx59.toInt + lx12.toInt ≤ lx61.toInt := i65; have _ := q_lo32 (x := lx12); have _ := q_hi32 (x := lx12); have t3 : lx12.toInt ≤ 1027 := i13; have t4 : lx59.toInt ≤ 9 := i62; have t5 : lx61.toInt ≤ lx59.toInt + lx12.toInt := i64; omega) (by have t1 : lx12.toInt ≤ lx59.toInt + lx61.toInt := i63; have t2 : lx59.toInt + lx12.toInt ≤ lx61.toInt := i65; have _ := q_lo32 (x := lx12); have _ := q_hi32 (x := lx12); have t3 : lx12.toInt ≤ 1027 := i13; have t4 : lx59.toInt ≤ 9 := i62; have t5 : lx61.toInt ≤ lx59.toInt + lx12.toInt := i64; omega))
        refine q_put (ci := 7) (j := 0) (v := .int a87) (ty := .int) C0 V i_Dig o_Dig n_Dig rfl rfl hO68 (by decide) w_264 rfl rfl rfl rfl (Nat.le_of_ble_eq_true rfl) d_5_2_67 (fun H locs w90 hu91 hO68 V => ?_)
        replace hO68 : w90[36]? = (some (q 36, .inr (7, [.int a87, .int t0_1, .ref (q 37)])) : Option (Nat × va_E)) := hO68
        replace hI := n_p36 hI hu91 hO68 ⟨(by have t1 : 0 ≤ lx11.toInt + lx12.toInt := i14; have t2 : 9 * lx11.toInt ≤ lx12.toInt := i15; have t3 : lx12.toInt ≤ lx59.toInt + lx61.toInt := i63; have t4 : lx59.toInt + lx12.toInt ≤ lx61.toInt := i65; have t5 : a87.toInt = lx61.toInt + 1 := b89; omega), (by have t1 : lx12.toInt ≤ 9 * lx11.toInt := i16; have t2 : lx11.toInt < 114 := b33; have t3 : lx61.toInt ≤ lx59.toInt + lx12.toInt := i64; have t4 : lx59.toInt < 9 := b74; have t5 : a87.toInt = lx61.toInt + 1 := b89; omega)⟩ ⟨(by have t1 : -1000000 ≤ t0_1.toInt ∧ t0_1.toInt ≤ 1000000 := btt0_1; omega), (by have t1 : -1000000 ≤ t0_1.toInt ∧ t0_1.toInt ≤ 1000000 := btt0_1; omega)⟩
        replace hF := q_us hF hu91 (by simp)
        obtain ⟨a92, e93⟩ := q_nm (lx59 + 1 : Int32)
        have b94 : q_F (a92.toInt = lx59.toInt + 1) := (by rw [← e93]; exact q_addI (y := 1) rfl (by decide) (by have t1 : lx12.toInt ≤ lx59.toInt + lx61.toInt := i63; have t2 : lx61.toInt ≤ lx59.toInt + lx12.toInt := i64; have t3 : lx59.toInt ≤ 9 := i62; omega) (by have t1 : lx12.toInt ≤ lx59.toInt + lx61.toInt := i63; have t2 : lx61.toInt ≤ lx59.toInt + lx12.toInt := i64; have t3 : lx59.toInt ≤ 9 := i62; omega))
        refine lv_iinc (v := a92) (lv' := [(5, .int a92), (4, .int a84), (3, .int lx11), (0, .ref (q 36)), (1, .ref (q k2)), (2, .int x3)]) hx hb d_5_2_70 hl (k := 1) rfl (e93) (by decide) rfl (fun ls hl => ?_)
        refine lv_goto (tgt := 31) hx hb d_5_2_73 (by decide) ?_
        exact ih66 ((a92 : Int32), (a84 : Int32), (a87 : Int32)) _ _ _ _ (show (9 - a92.toInt).toNat < (9 - lx59.toInt).toNat from by have t1 : a92.toInt = lx59.toInt + 1 := b94; have t2 : lx59.toInt ≤ 9 := i62; have t3 : lx59.toInt < 9 := b74; omega) ⟨(show q_F (a92.toInt ≤ 9) from (show a92.toInt ≤ 9 from by have t1 : lx59.toInt < 9 := b74; have t2 : a92.toInt = lx59.toInt + 1 := b94; omega)), (show q_F (lx12.toInt ≤ a92.toInt + a87.toInt) from (show lx12.toInt ≤ a92.toInt + a87.toInt from by have t1 : lx12.toInt ≤ lx59.toInt + lx61.toInt := i63; have t2 : a87.toInt = lx61.toInt + 1 := b89; have t3 : a92.toInt = lx59.toInt + 1 := b94; omega)), (show q_F (a87.toInt ≤ a92.toInt + lx12.toInt) from (show a87.toInt ≤ a92.toInt + lx12.toInt from by have t1 : lx61.toInt ≤ lx59.toInt + lx12.toInt := i64; have t2 : a87.toInt = lx61.toInt + 1 := b89; have t3 : a92.toInt = lx59.toInt + 1 := b94; omega)), (show q_F (a92.toInt + lx12.toInt ≤ a87.toInt) from (show a92.toInt + lx12.toInt ≤ a87.toInt from by have t1 : lx59.toInt + lx12.toInt ≤ lx61.toInt := i65; have t2 : a87.toInt = lx61.toInt + 1 := b89; have t3 : a92.toInt = lx59.toInt + 1 := b94; omega)), V, q_lw hl (q_lw1 0 rfl (q_lw1 1 rfl (q_lw1 2 rfl (q_lw1 3 rfl (q_lw1 4 rfl (q_lw1 5 rfl q_lw0)))))), hI, hF, hO68⟩
theorem d_5_3_0 : decode prog_5_method_3_code 0 = .ok (.aload_n 0, 1) := by decide +kernel
theorem d_5_3_1 : decode prog_5_method_3_code 1 = .ok (.iconst 0, 1) := by decide +kernel
theorem d_5_3_2 : decode prog_5_method_3_code 2 = .ok (.putfield 13, 3) := by decide +kernel
theorem d_5_3_5 : decode prog_5_method_3_code 5 = .ok (.lload_n 1, 1) := by decide +kernel
theorem d_5_3_6 : decode prog_5_method_3_code 6 = .ok (.lconst 0, 1) := by decide +kernel
theorem d_5_3_7 : decode prog_5_method_3_code 7 = .ok (.lcmp, 1) := by decide +kernel
theorem d_5_3_17 : decode prog_5_method_3_code 17 = .ok (.lstore 4, 2) := by decide +kernel
theorem d_5_3_19 : decode prog_5_method_3_code 19 = .ok (.iconst 0, 1) := by decide +kernel
theorem d_5_3_20 : decode prog_5_method_3_code 20 = .ok (.istore 6, 2) := by decide +kernel
theorem d_5_3_22 : decode prog_5_method_3_code 22 = .ok (.iload 6, 2) := by decide +kernel
theorem d_5_3_24 : decode prog_5_method_3_code 24 = .ok (.bipush 20, 2) := by decide +kernel
theorem d_5_3_26 : decode prog_5_method_3_code 26 = .ok (.if_icmp .ge 52, 3) := by decide +kernel
theorem d_5_3_78 : decode prog_5_method_3_code 78 = .ok (.aload_n 0, 1) := by decide +kernel
theorem d_5_3_79 : decode prog_5_method_3_code 79 = .ok (.iload_n 3, 1) := by decide +kernel
theorem d_5_3_80 : decode prog_5_method_3_code 80 = .ok (.invokevirtual 27, 3) := by decide +kernel
theorem d_5_3_83 : decode prog_5_method_3_code 83 = .ok (.return_, 1) := by decide +kernel
theorem d_5_3_29 : decode prog_5_method_3_code 29 = .ok (.lload 4, 2) := by decide +kernel
theorem d_5_3_31 : decode prog_5_method_3_code 31 = .ok (.lconst 0, 1) := by decide +kernel
theorem d_5_3_32 : decode prog_5_method_3_code 32 = .ok (.lcmp, 1) := by decide +kernel
theorem d_5_3_33 : decode prog_5_method_3_code 33 = .ok (.ifCond .eq 45, 3) := by decide +kernel
theorem d_5_3_36 : decode prog_5_method_3_code 36 = .ok (.aload_n 0, 1) := by decide +kernel
theorem d_5_3_37 : decode prog_5_method_3_code 37 = .ok (.getfield 9, 3) := by decide +kernel
theorem d_5_3_40 : decode prog_5_method_3_code 40 = .ok (.aload_n 0, 1) := by decide +kernel
theorem d_5_3_41 : decode prog_5_method_3_code 41 = .ok (.getfield 13, 3) := by decide +kernel
theorem d_5_3_44 : decode prog_5_method_3_code 44 = .ok (.lload 4, 2) := by decide +kernel
theorem d_5_3_46 : decode prog_5_method_3_code 46 = .ok (.ldc2_w 31, 3) := by decide +kernel
set_option maxRecDepth 100000 in
theorem w_1639 : (Cond.constantLong "NumberHouse$Digits" (31 : Nat) (10 : Int64)) ∈ q_tbl := q_of7 199 rfl (by decide +kernel)
theorem d_5_3_49 : decode prog_5_method_3_code 49 = .ok (.lrem, 1) := by decide +kernel
theorem d_5_3_50 : decode prog_5_method_3_code 50 = .ok (.lneg, 1) := by decide +kernel
theorem d_5_3_51 : decode prog_5_method_3_code 51 = .ok (.l2i, 1) := by decide +kernel
theorem d_5_3_52 : decode prog_5_method_3_code 52 = .ok (.i2b, 1) := by decide +kernel
theorem d_5_3_53 : decode prog_5_method_3_code 53 = .ok (.bastore, 1) := by decide +kernel
theorem d_5_3_54 : decode prog_5_method_3_code 54 = .ok (.lload 4, 2) := by decide +kernel
theorem d_5_3_56 : decode prog_5_method_3_code 56 = .ok (.ldc2_w 31, 3) := by decide +kernel
theorem d_5_3_59 : decode prog_5_method_3_code 59 = .ok (.ldiv, 1) := by decide +kernel
theorem d_5_3_60 : decode prog_5_method_3_code 60 = .ok (.lstore 4, 2) := by decide +kernel
theorem d_5_3_62 : decode prog_5_method_3_code 62 = .ok (.aload_n 0, 1) := by decide +kernel
theorem d_5_3_63 : decode prog_5_method_3_code 63 = .ok (.dup, 1) := by decide +kernel
theorem d_5_3_64 : decode prog_5_method_3_code 64 = .ok (.getfield 13, 3) := by decide +kernel
theorem d_5_3_67 : decode prog_5_method_3_code 67 = .ok (.iconst 1, 1) := by decide +kernel
theorem d_5_3_68 : decode prog_5_method_3_code 68 = .ok (.iadd, 1) := by decide +kernel
theorem d_5_3_69 : decode prog_5_method_3_code 69 = .ok (.putfield 13, 3) := by decide +kernel
theorem d_5_3_72 : decode prog_5_method_3_code 72 = .ok (.iinc 6 1, 3) := by decide +kernel
theorem d_5_3_75 : decode prog_5_method_3_code 75 = .ok (.goto (-53), 3) := by decide +kernel
theorem d_5_3_8 : decode prog_5_method_3_code 8 = .ok (.ifCond .le 8, 3) := by decide +kernel
theorem d_5_3_16 : decode prog_5_method_3_code 16 = .ok (.lload_n 1, 1) := by decide +kernel
theorem d_5_3_11 : decode prog_5_method_3_code 11 = .ok (.lload_n 1, 1) := by decide +kernel
theorem d_5_3_12 : decode prog_5_method_3_code 12 = .ok (.lneg, 1) := by decide +kernel
theorem d_5_3_13 : decode prog_5_method_3_code 13 = .ok (.goto 4, 3) := by decide +kernel
def y_Dig_fillLong : MethodName := ⟨"NumberHouse$Digits", "fillLong", "(JI)V"⟩
set_option maxRecDepth 100000 in
set_option maxHeartbeats 4000000 in
theorem T_Dig_fillLong (l : Launch) (D : va_G) (g : Nat → ClassId) (q : Nat → Nat) (ws : va_W) (x2 : Int64) (x3 : Int32) (hI : q_I (nsh g q) q ws) (t0_0 : Int32) (t0_1 : Int32) (hT0 : ws[36]? = (some (q 36, .inr (7, [.int t0_0, .int t0_1, .ref (q 37)])) : Option (Nat × va_E))) (pre0 : 0 ≤ x3.toInt + 20000) (pre1 : x3.toInt ≤ 20000) : q_mV l y_Dig_fillLong prog_5_method_3_code 7 2 0 0 D g [.ref (q 36), .long x2, .int x3] ws (fun u => q_I (nsh g q) q u ∧ q_un ws u [36, 37] ∧ ∃ (u0_0 : Int32) (u0_1 : Int32), u[36]? = (some (q 36, .inr (7, [.int u0_0, .int u0_1, .ref (q 37)])) : Option (Nat × va_E)) ∧ (0 ≤ u0_0.toInt) ∧ (u0_0.toInt ≤ 20) ∧ (0 ≤ u0_1.toInt + 20000) ∧ (u0_1.toInt ≤ u0_0.toInt + 19999) ∧ (u0_0.toInt ≤ u0_1.toInt + 20001)) := by
  intro sz
  refine q_into (by decide) (Nat.le_of_ble_eq_true rfl) ?_
  intro p e s m below meth c ls hsz C0 V hl
  have hx := C0.1
  have hb := C0.2.1
  obtain ⟨yy0_0, yy0_1, hh0, btt0_0, btt0_1⟩ := n_o36 hI
  obtain ⟨rfl, rfl⟩ : t0_0 = yy0_0 ∧ t0_1 = yy0_1 := by have z := Option.some.inj (hT0.symm.trans hh0); simpa using z
  replace btt0_0 : q_F (0 ≤ t0_0.toInt ∧ t0_0.toInt ≤ 1026) := btt0_0
  replace btt0_1 : q_F (-1000000 ≤ t0_1.toInt ∧ t0_1.toInt ≤ 1000000) := btt0_1
  replace pre0 : q_F (0 ≤ x3.toInt + 20000) := pre0
  replace pre1 : q_F (x3.toInt ≤ 20000) := pre1
  have hF : q_un ws ws [36, 37] := q_u0
  have hl : lv_has ls 7 [(0, .ref (q 36)), (1, .long x2), (3, .int x3)] := hl
  refine lv_aload_n hx hb d_5_3_0 rfl (lv_at hl 0 rfl) ?_
  refine lv_iconst (v := 0) hx hb d_5_3_1 (by decide) ?_
  refine q_put (ci := 7) (j := 0) (v := .int 0) (ty := .int) C0 V i_Dig o_Dig n_Dig rfl rfl hT0 (by decide) w_264 rfl rfl rfl rfl (Nat.le_of_ble_eq_true rfl) d_5_3_2 (fun H locs w6 hu7 hT0 V => ?_)
  replace hT0 : w6[36]? = (some (q 36, .inr (7, [.int 0, .int t0_1, .ref (q 37)])) : Option (Nat × va_E)) := hT0
  replace hI := n_p36 hI hu7 hT0 ⟨(by have z9 : (0 : Int32).toInt = 0 := rfl; omega), (by have z9 : (0 : Int32).toInt = 0 := rfl; omega)⟩ ⟨(by have t1 : -1000000 ≤ t0_1.toInt ∧ t0_1.toInt ≤ 1000000 := btt0_1; omega), (by have t1 : -1000000 ≤ t0_1.toInt ∧ t0_1.toInt ≤ 1000000 := btt0_1; omega)⟩
  replace hF := q_us hF hu7 (by simp)
  refine lv_lload_n hx hb d_5_3_5 rfl (lv_at hl 1 rfl) ?_
  refine lv_lconst (v := 0) hx hb d_5_3_6 (by decide) ?_
  refine W.lcmp hx hb d_5_3_7 ?_
  obtain ⟨a8, e9⟩ := q_nm (lg_cmp x2 0 : Int32)
  refine q_ti (v := a8) e9 ?_
  have b10 : q_F (-1 ≤ a8.toInt ∧ a8.toInt ≤ 1 ∧ ((a8.toInt = -1 ∧ x2.toInt < 0) ∨ (a8.toInt = 0 ∧ x2.toInt = 0) ∨ (a8.toInt = 1 ∧ 0 < x2.toInt))) := (by rw [← e9]; show -1 ≤ (lg_cmp x2 0 : Int32).toInt ∧ (lg_cmp x2 0 : Int32).toInt ≤ 1 ∧ (((lg_cmp x2 0 : Int32).toInt = -1 ∧ x2.toInt < 0) ∨ ((lg_cmp x2 0 : Int32).toInt = 0 ∧ x2.toInt = 0) ∨ ((lg_cmp x2 0 : Int32).toInt = 1 ∧ 0 < x2.toInt)); exact (by have y1 : (0 : Int64).toInt = 0 := rfl; have z := s_lcmp (a := x2) (b := 0); omega))
  refine q_join (X := Int64) (fun z H locs ls _ => q_F (z.toInt ≤ 0) ∧ q_F (z.toInt ≤ x2.toInt) ∧ q_Wd D g (va_A ws sz) s w6 H locs ∧ lv_has ls 7 [(0, .ref (q 36)), (3, .int x3)]) (fun z => [.long z]) 17 0 0 ?_ ?_
  ·
    rintro lx11 H locs ls _ ⟨i14, i15, V, hl⟩
    replace i14 : q_F (lx11.toInt ≤ 0) := i14
    replace i15 : q_F (lx11.toInt ≤ x2.toInt) := i15
    replace hl : lv_has ls 7 [(0, .ref (q 36)), (3, .int x3)] := hl
    refine lv_lstore (lv' := [(4, .long lx11), (0, .ref (q 36)), (3, .int x3)]) hx hb d_5_3_17 hl (by decide) rfl (fun ls hl => ?_)
    refine lv_iconst (v := 0) hx hb d_5_3_19 (by decide) ?_
    refine lv_istore (lv' := [(6, .int 0), (4, .long lx11), (0, .ref (q 36)), (3, .int x3)]) hx hb d_5_3_20 hl (by decide) rfl (fun ls hl => ?_)
    refine q_loop (X := Int32 × Int64 × Int32) (fun z H locs ls w26 => q_F (z.2.2.toInt ≤ 20) ∧ q_F (z.2.2.toInt ≤ z.1.toInt) ∧ q_F (z.1.toInt ≤ z.2.2.toInt) ∧ q_F (0 ≤ z.1.toInt + z.2.2.toInt) ∧ q_Wd D g (va_A ws sz) s w26 H locs ∧ lv_has ls 7 [(6, .int z.1), (4, .long z.2.1), (0, .ref (q 36)), (3, .int x3)] ∧ q_I (nsh g q) q w26 ∧ q_un ws w26 [36, 37] ∧ w26[36]? = (some (q 36, .inr (7, [.int z.2.2, .int t0_1, .ref (q 37)])) : Option (Nat × va_E))) (fun z => (20 - z.1.toInt).toNat) ?_ ((0 : Int32), (lx11 : Int64), (0 : Int32)) _ _ _ w6 ⟨(show q_F (0 ≤ 20) from (show 0 ≤ 20 from by omega)), (show q_F (0 ≤ 0) from (show 0 ≤ 0 from by omega)), (show q_F (0 ≤ 0) from (show 0 ≤ 0 from by omega)), (show q_F (0 ≤ 0 + 0) from (show 0 ≤ 0 + 0 from by omega)), V, q_lw hl (q_lw1 0 rfl (q_lw1 1 rfl (q_lw1 2 rfl (q_lw1 3 rfl q_lw0)))), hI, hF, hT0⟩
    rintro ⟨lx18, lx19, lx20⟩ H locs ls w26 ⟨i21, i22, i23, i24, V, hl, hI, hF, hO27⟩ ih25
    replace i21 : q_F (lx20.toInt ≤ 20) := i21
    replace i22 : q_F (lx20.toInt ≤ lx18.toInt) := i22
    replace i23 : q_F (lx18.toInt ≤ lx20.toInt) := i23
    replace i24 : q_F (0 ≤ lx18.toInt + lx20.toInt) := i24
    replace hl : lv_has ls 7 [(6, .int lx18), (4, .long lx19), (0, .ref (q 36)), (3, .int x3)] := hl
    replace hO27 : w26[36]? = (some (q 36, .inr (7, [.int lx20, .int t0_1, .ref (q 37)])) : Option (Nat × va_E)) := hO27
    refine lv_iload hx hb d_5_3_22 (lv_at hl 0 rfl) ?_
    refine lv_bipush (v := 20) hx hb d_5_3_24 (by decide) ?_
    refine lv_icmp_ge (tgt := 78) hx hb d_5_3_26 (by decide) (fun c28 => ?_) (fun c28 => ?_)
    ·
      have b29 : q_F (20 ≤ lx18.toInt) := (q_leI c28)
      refine lv_aload_n hx hb d_5_3_78 rfl (lv_at hl 2 rfl) ?_
      refine lv_iload_n hx hb d_5_3_79 rfl (lv_at hl 3 rfl) ?_
      refine q_gov V (q_runV (As := [.int x3]) (rest := []) (d := 1) (mc := 0) (ms := 0) (ci := 7) C0 V rfl LV_Dig_27 (T_Dig_turn l D g q w26  x3 hI lx20 t0_1 hO27 (by have t1 : 0 ≤ x3.toInt + 20000 := pre0; omega) (by have t1 : x3.toInt ≤ 20000 := pre1; omega) _) rfl rfl hO27 rfl hl.1 rfl (Nat.le_of_ble_eq_true rfl) ⟨by decide, by decide⟩ ⟨Nat.le_of_ble_eq_true rfl, Nat.le_of_ble_eq_true rfl⟩ d_5_3_80) (fun u30 H locs hp31 V => ?_)
      obtain ⟨hI, hu40, y33, y34, hO32, b35, b36, b37, b38, b39⟩ := hp31
      replace hO32 : u30[36]? = (some (q 36, .inr (7, [.int y33, .int y34, .ref (q 37)])) : Option (Nat × va_E)) := hO32
      replace b35 : q_F (0 ≤ y33.toInt) := b35
      replace b36 : q_F (0 ≤ y34.toInt + 20000) := b36
      replace b37 : q_F (y33.toInt ≤ lx20.toInt) := b37
      replace b38 : q_F (y34.toInt ≤ y33.toInt + 19999) := b38
      replace b39 : q_F (y33.toInt ≤ y34.toInt + 20001) := b39
      replace hF := q_uc hF hu40 (by simp)
      exact q_retv C0 V (⟨hI, hF, y33, y34, hO32, (show 0 ≤ y33.toInt from (by have t1 : 0 ≤ y33.toInt := b35; omega)), (show y33.toInt ≤ 20 from (by have t1 : lx20.toInt ≤ 20 := i21; have t2 : y33.toInt ≤ lx20.toInt := b37; omega)), (show 0 ≤ y34.toInt + 20000 from (by have t1 : 0 ≤ y34.toInt + 20000 := b36; omega)), (show y34.toInt ≤ y33.toInt + 19999 from (by have t1 : y34.toInt ≤ y33.toInt + 19999 := b38; omega)), (show y33.toInt ≤ y34.toInt + 20001 from (by have t1 : y33.toInt ≤ y34.toInt + 20001 := b39; omega))⟩) d_5_3_83
    ·
      have b41 : q_F (lx18.toInt < 20) := (q_nleI c28)
      refine lv_lload hx hb d_5_3_29 (lv_at hl 1 rfl) ?_
      refine lv_lconst (v := 0) hx hb d_5_3_31 (by decide) ?_
      refine W.lcmp hx hb d_5_3_32 ?_
      obtain ⟨a42, e43⟩ := q_nm (lg_cmp lx19 0 : Int32)
      refine q_ti (v := a42) e43 ?_
      have b44 : q_F (-1 ≤ a42.toInt ∧ a42.toInt ≤ 1 ∧ ((a42.toInt = -1 ∧ lx19.toInt < 0) ∨ (a42.toInt = 0 ∧ lx19.toInt = 0) ∨ (a42.toInt = 1 ∧ 0 < lx19.toInt))) := (by rw [← e43]; show -1 ≤ (lg_cmp lx19 0 : Int32).toInt ∧ (lg_cmp lx19 0 : Int32).toInt ≤ 1 ∧ (((lg_cmp lx19 0 : Int32).toInt = -1 ∧ lx19.toInt < 0) ∨ ((lg_cmp lx19 0 : Int32).toInt = 0 ∧ lx19.toInt = 0) ∨ ((lg_cmp lx19 0 : Int32).toInt = 1 ∧ 0 < lx19.toInt)); exact (by have y1 : (0 : Int64).toInt = 0 := rfl; have z := s_lcmp (a := lx19) (b := 0); omega))
      refine lv_if_eq (tgt := 78) hx hb d_5_3_33 (by decide) (fun c45 => ?_) (fun c45 => ?_)
      ·
        have b46 : q_F (a42.toInt = 0) := (q_eqI c45)
        refine lv_aload_n hx hb d_5_3_78 rfl (lv_at hl 2 rfl) ?_
        refine lv_iload_n hx hb d_5_3_79 rfl (lv_at hl 3 rfl) ?_
        refine q_gov V (q_runV (As := [.int x3]) (rest := []) (d := 1) (mc := 0) (ms := 0) (ci := 7) C0 V rfl LV_Dig_27 (T_Dig_turn l D g q w26  x3 hI lx20 t0_1 hO27 (by have t1 : 0 ≤ x3.toInt + 20000 := pre0; omega) (by have t1 : x3.toInt ≤ 20000 := pre1; omega) _) rfl rfl hO27 rfl hl.1 rfl (Nat.le_of_ble_eq_true rfl) ⟨by decide, by decide⟩ ⟨Nat.le_of_ble_eq_true rfl, Nat.le_of_ble_eq_true rfl⟩ d_5_3_80) (fun u47 H locs hp48 V => ?_)
        obtain ⟨hI, hu57, y50, y51, hO49, b52, b53, b54, b55, b56⟩ := hp48
        replace hO49 : u47[36]? = (some (q 36, .inr (7, [.int y50, .int y51, .ref (q 37)])) : Option (Nat × va_E)) := hO49
        replace b52 : q_F (0 ≤ y50.toInt) := b52
        replace b53 : q_F (0 ≤ y51.toInt + 20000) := b53
        replace b54 : q_F (y50.toInt ≤ lx20.toInt) := b54
        replace b55 : q_F (y51.toInt ≤ y50.toInt + 19999) := b55
        replace b56 : q_F (y50.toInt ≤ y51.toInt + 20001) := b56
        replace hF := q_uc hF hu57 (by simp)
        exact q_retv C0 V (⟨hI, hF, y50, y51, hO49, (show 0 ≤ y50.toInt from (by have t1 : 0 ≤ y50.toInt := b52; omega)), (show y50.toInt ≤ 20 from (by have t1 : lx20.toInt ≤ 20 := i21; have t2 : y50.toInt ≤ lx20.toInt := b54; omega)), (show 0 ≤ y51.toInt + 20000 from (by have t1 : 0 ≤ y51.toInt + 20000 := b53; omega)), (show y51.toInt ≤ y50.toInt + 19999 from (by have t1 : y51.toInt ≤ y50.toInt + 19999 := b55; omega)), (show y50.toInt ≤ y51.toInt + 20001 from (by have t1 : y50.toInt ≤ y51.toInt + 20001 := b56; omega))⟩) d_5_3_83
      ·
        have b58 : q_F (a42.toInt ≠ 0) := (q_neI c45)
        refine lv_aload_n hx hb d_5_3_36 rfl (lv_at hl 2 rfl) ?_
        refine q_get (ci := 7) (j := 2) (v := .ref (q 37)) C0 V i_Dig rfl rfl hO27 (by decide) w_269 rfl d_5_3_37 ?_
        refine lv_aload_n hx hb d_5_3_40 rfl (lv_at hl 2 rfl) ?_
        refine q_get (ci := 7) (j := 0) (v := .int lx20) C0 V i_Dig rfl rfl hO27 (by decide) w_264 rfl d_5_3_41 ?_
        refine lv_lload hx hb d_5_3_44 (lv_at hl 1 rfl) ?_
        refine q_ldc2 C0 rfl w_1639 d_5_3_46 ?_
        refine lv_lrem hx hb d_5_3_49 (by decide) ?_
        obtain ⟨j59, e60⟩ := q_nm (lx19 - lx19 / 10 * 10 : Int64)
        refine q_tl (v := j59) e60 ?_
        refine lv_lneg hx hb d_5_3_50 ?_
        obtain ⟨j61, e62⟩ := q_nm (-j59 : Int64)
        refine q_tl (v := j61) e62 ?_
        refine lv_l2i hx hb d_5_3_51 rfl ?_
        obtain ⟨a63, e64⟩ := q_nm (j61.toInt32 : Int32)
        refine q_ti (v := a63) e64 ?_
        refine lv_i2b hx hb d_5_3_52 rfl ?_
        obtain ⟨a65, e66⟩ := q_nm (a63.toInt8.toInt32 : Int32)
        refine q_ti (v := a65) e66 ?_
        obtain ⟨f67, hA68, bf69⟩ := n_ai hI (n_s37 g q)
        refine q_bast C0 V hA68 (q_ix (x := lx20.toInt) rfl (by have t1 : lx18.toInt ≤ lx20.toInt := i23; have t2 : 0 ≤ lx18.toInt + lx20.toInt := i24; omega) (by have t1 : lx18.toInt ≤ lx20.toInt := i23; have t2 : 0 ≤ lx18.toInt + lx20.toInt := i24; have t3 : lx20.toInt ≤ 20 := i21; omega)) d_5_3_53 (fun H locs w70 hu71 hA68 V => ?_)
        replace hI := n_ai' hI (n_s37 g q) hu71 hA68 (q_updB bf69 s_bnd)
        replace hO27 := (hu71 _ (by decide)).trans hO27
        replace hF := q_us hF hu71 (by simp)
        refine lv_lload hx hb d_5_3_54 (lv_at hl 1 rfl) ?_
        refine q_ldc2 C0 rfl w_1639 d_5_3_56 ?_
        refine lv_ldiv hx hb d_5_3_59 (by decide) ?_
        obtain ⟨j72, e73⟩ := q_nm (lx19 / 10 : Int64)
        refine q_tl (v := j72) e73 ?_
        refine lv_lstore (lv' := [(4, .long j72), (6, .int lx18), (0, .ref (q 36)), (3, .int x3)]) hx hb d_5_3_60 hl (by decide) rfl (fun ls hl => ?_)
        refine lv_aload_n hx hb d_5_3_62 rfl (lv_at hl 2 rfl) ?_
        refine lv_dup hx hb d_5_3_63 rfl ?_
        refine q_get (ci := 7) (j := 0) (v := .int lx20) C0 V i_Dig rfl rfl hO27 (by decide) w_264 rfl d_5_3_64 ?_
        refine lv_iconst (v := 1) hx hb d_5_3_67 (by decide) ?_
        refine lv_iadd hx hb d_5_3_68 ?_
        obtain ⟨a74, e75⟩ := q_nm (lx20 + 1 : Int32)
        refine q_ti (v := a74) e75 ?_
        have b76 : q_F (a74.toInt = lx20.toInt + 1) := (by rw [← e75]; show (lx20 + 1 : Int32).toInt = lx20.toInt + 1; exact q_addI (x := lx20.toInt) (y := 1) rfl (by decide) (by have t1 : lx18.toInt ≤ lx20.toInt := i23; have t2 : 0 ≤ lx18.toInt + lx20.toInt := i24; have t3 : lx20.toInt ≤ 20 := i21; omega) (by have t1 : lx18.toInt ≤ lx20.toInt := i23; have t2 : 0 ≤ lx18.toInt + lx20.toInt := i24; have t3 : lx20.toInt ≤ 20 := i21; omega))
        refine q_put (ci := 7) (j := 0) (v := .int a74) (ty := .int) C0 V i_Dig o_Dig n_Dig rfl rfl hO27 (by decide) w_264 rfl rfl rfl rfl (Nat.le_of_ble_eq_true rfl) d_5_3_69 (fun H locs w77 hu78 hO27 V => ?_)
        replace hO27 : w77[36]? = (some (q 36, .inr (7, [.int a74, .int t0_1, .ref (q 37)])) : Option (Nat × va_E)) := hO27
        replace hI := n_p36 hI hu78 hO27 ⟨(by have t1 : lx18.toInt ≤ lx20.toInt := i23; have t2 : 0 ≤ lx18.toInt + lx20.toInt := i24; have t3 : a74.toInt = lx20.toInt + 1 := b76; omega), (by have t1 : lx20.toInt ≤ 20 := i21; have t2 : a74.toInt = lx20.toInt + 1 := b76; omega)⟩ ⟨(by have t1 : -1000000 ≤ t0_1.toInt ∧ t0_1.toInt ≤ 1000000 := btt0_1; omega), (by have t1 : -1000000 ≤ t0_1.toInt ∧ t0_1.toInt ≤ 1000000 := btt0_1; omega)⟩
        replace hF := q_us hF hu78 (by simp)
        obtain ⟨a79, e80⟩ := q_nm (lx18 + 1 : Int32)
        have b81 : q_F (a79.toInt = lx18.toInt + 1) := (by rw [← e80]; exact q_addI (y := 1) rfl (by decide) (by have t1 : lx20.toInt ≤ lx18.toInt := i22; have t2 : 0 ≤ lx18.toInt + lx20.toInt := i24; have t3 : lx18.toInt < 20 := b41; omega) (by have t1 : lx20.toInt ≤ lx18.toInt := i22; have t2 : 0 ≤ lx18.toInt + lx20.toInt := i24; have t3 : lx18.toInt < 20 := b41; omega))
        refine lv_iinc (v := a79) (lv' := [(6, .int a79), (4, .long j72), (0, .ref (q 36)), (3, .int x3)]) hx hb d_5_3_72 hl (k := 1) rfl (e80) (by decide) rfl (fun ls hl => ?_)
        refine lv_goto (tgt := 22) hx hb d_5_3_75 (by decide) ?_
        exact ih25 ((a79 : Int32), (j72 : Int64), (a74 : Int32)) _ _ _ _ (show (20 - a79.toInt).toNat < (20 - lx18.toInt).toNat from by have t1 : a79.toInt = lx18.toInt + 1 := b81; have t2 : lx18.toInt < 20 := b41; omega) ⟨(show q_F (a74.toInt ≤ 20) from (show a74.toInt ≤ 20 from by have t1 : lx20.toInt ≤ lx18.toInt := i22; have t2 : lx18.toInt < 20 := b41; have t3 : a74.toInt = lx20.toInt + 1 := b76; omega)), (show q_F (a74.toInt ≤ a79.toInt) from (show a74.toInt ≤ a79.toInt from by have t1 : lx20.toInt ≤ lx18.toInt := i22; have t2 : a74.toInt = lx20.toInt + 1 := b76; have t3 : a79.toInt = lx18.toInt + 1 := b81; omega)), (show q_F (a79.toInt ≤ a74.toInt) from (show a79.toInt ≤ a74.toInt from by have t1 : lx18.toInt ≤ lx20.toInt := i23; have t2 : a74.toInt = lx20.toInt + 1 := b76; have t3 : a79.toInt = lx18.toInt + 1 := b81; omega)), (show q_F (0 ≤ a79.toInt + a74.toInt) from (show 0 ≤ a79.toInt + a74.toInt from by have t1 : 0 ≤ lx18.toInt + lx20.toInt := i24; have t2 : a74.toInt = lx20.toInt + 1 := b76; have t3 : a79.toInt = lx18.toInt + 1 := b81; omega)), V, q_lw hl (q_lw1 0 rfl (q_lw1 1 rfl (q_lw1 2 rfl (q_lw1 3 rfl q_lw0)))), hI, hF, hO27⟩
  ·
    intro J13
    refine lv_if_le (tgt := 16) hx hb d_5_3_8 (by decide) (fun c82 => ?_) (fun c82 => ?_)
    ·
      have b83 : q_F (a8.toInt ≤ 0) := (q_leI c82)
      refine lv_lload_n hx hb d_5_3_16 rfl (lv_at hl 1 rfl) ?_
      exact J13 ((x2 : Int64)) _ _ _ w6 ⟨(show q_F (x2.toInt ≤ 0) from (show x2.toInt ≤ 0 from by have t1 : -1 ≤ a8.toInt ∧ a8.toInt ≤ 1 ∧ ((a8.toInt = -1 ∧ x2.toInt < 0) ∨ (a8.toInt = 0 ∧ x2.toInt = 0) ∨ (a8.toInt = 1 ∧ 0 < x2.toInt)) := b10; have t2 : a8.toInt ≤ 0 := b83; omega)), (show q_F (x2.toInt ≤ x2.toInt) from (show x2.toInt ≤ x2.toInt from by omega)), V, q_lw hl (q_lw1 0 rfl (q_lw1 2 rfl q_lw0))⟩
    ·
      have b84 : q_F (0 < a8.toInt) := (q_nleI c82)
      refine lv_lload_n hx hb d_5_3_11 rfl (lv_at hl 1 rfl) ?_
      refine lv_lneg hx hb d_5_3_12 ?_
      obtain ⟨j85, e86⟩ := q_nm (-x2 : Int64)
      refine q_tl (v := j85) e86 ?_
      have b87 : q_F (j85.toInt = -x2.toInt) := (by rw [← e86]; show (-x2 : Int64).toInt = -x2.toInt; exact n_negL rfl (by have t1 : -1 ≤ a8.toInt ∧ a8.toInt ≤ 1 ∧ ((a8.toInt = -1 ∧ x2.toInt < 0) ∨ (a8.toInt = 0 ∧ x2.toInt = 0) ∨ (a8.toInt = 1 ∧ 0 < x2.toInt)) := b10; have t2 : 0 < a8.toInt := b84; omega))
      refine lv_goto (tgt := 17) hx hb d_5_3_13 (by decide) ?_
      exact J13 ((j85 : Int64)) _ _ _ w6 ⟨(show q_F (j85.toInt ≤ 0) from (show j85.toInt ≤ 0 from by have t1 : -1 ≤ a8.toInt ∧ a8.toInt ≤ 1 ∧ ((a8.toInt = -1 ∧ x2.toInt < 0) ∨ (a8.toInt = 0 ∧ x2.toInt = 0) ∨ (a8.toInt = 1 ∧ 0 < x2.toInt)) := b10; have t2 : 0 < a8.toInt := b84; have t3 : j85.toInt = -x2.toInt := b87; omega)), (show q_F (j85.toInt ≤ x2.toInt) from (show j85.toInt ≤ x2.toInt from by have t1 : -1 ≤ a8.toInt ∧ a8.toInt ≤ 1 ∧ ((a8.toInt = -1 ∧ x2.toInt < 0) ∨ (a8.toInt = 0 ∧ x2.toInt = 0) ∨ (a8.toInt = 1 ∧ 0 < x2.toInt)) := b10; have t2 : 0 < a8.toInt := b84; have t3 : j85.toInt = -x2.toInt := b87; omega)), V, q_lw hl (q_lw1 0 rfl (q_lw1 2 rfl q_lw0))⟩
theorem d_5_7_0 : decode prog_5_method_7_code 0 = .ok (.aload_n 0, 1) := by decide +kernel
theorem d_5_7_1 : decode prog_5_method_7_code 1 = .ok (.iload_n 1, 1) := by decide +kernel
theorem d_5_7_2 : decode prog_5_method_7_code 2 = .ok (.invokevirtual 49, 3) := by decide +kernel
set_option maxRecDepth 100000 in
theorem w_1151 : (Cond.code ({ cls := "NumberHouse$Digits", name := "figure", desc := "(I)I" } : MethodName) prog_5_method_5_code (2 : Nat) (some .int)) ∈ q_tbl := q_of5 191 rfl (by decide +kernel)
set_option maxRecDepth 100000 in
theorem w_1572 : (Cond.methodLink "NumberHouse$Digits" (49 : Nat) ({ cls := "NumberHouse$Digits", name := "figure", desc := "(I)I" } : MethodName)) ∈ q_tbl := q_of7 132 rfl (by decide +kernel)
set_option maxRecDepth 100000 in
theorem w_1149 : (Cond.instanceMethod ({ cls := "NumberHouse$Digits", name := "figure", desc := "(I)I" } : MethodName)) ∈ q_tbl := q_of5 189 rfl (by decide +kernel)
set_option maxRecDepth 100000 in
theorem w_1150 : (Cond.selects "NumberHouse$Digits" ({ cls := "NumberHouse$Digits", name := "figure", desc := "(I)I" } : MethodName) ({ cls := "NumberHouse$Digits", name := "figure", desc := "(I)I" } : MethodName)) ∈ q_tbl := q_of5 190 rfl (by decide +kernel)
theorem LV_Dig_49 : q_LV "NumberHouse$Digits" 49 y_Dig_figure prog_5_method_5_code 2 (some .int) 1 := ⟨w_1151, w_9, w_1572, w_1149, w_1150, ⟨by decide, by decide, by decide +kernel⟩⟩
theorem d_5_7_5 : decode prog_5_method_7_code 5 = .ok (.istore_n 3, 1) := by decide +kernel
theorem d_5_7_6 : decode prog_5_method_7_code 6 = .ok (.iload_n 1, 1) := by decide +kernel
theorem d_5_7_15 : decode prog_5_method_7_code 15 = .ok (.istore 4, 2) := by decide +kernel
theorem d_5_7_17 : decode prog_5_method_7_code 17 = .ok (.iload_n 1, 1) := by decide +kernel
theorem d_5_7_18 : decode prog_5_method_7_code 18 = .ok (.iconst 1, 1) := by decide +kernel
theorem d_5_7_19 : decode prog_5_method_7_code 19 = .ok (.iadd, 1) := by decide +kernel
theorem d_5_7_20 : decode prog_5_method_7_code 20 = .ok (.iconst 0, 1) := by decide +kernel
theorem d_5_7_21 : decode prog_5_method_7_code 21 = .ok (.invokestatic 40, 3) := by decide +kernel
set_option maxRecDepth 100000 in
theorem w_1571 : (Cond.methodLink "NumberHouse$Digits" (40 : Nat) ({ cls := "java/lang/Math", name := "max", desc := "(II)I" } : MethodName)) ∈ q_tbl := q_of7 131 rfl (by decide +kernel)
theorem d_5_7_24 : decode prog_5_method_7_code 24 = .ok (.istore 5, 2) := by decide +kernel
theorem d_5_7_26 : decode prog_5_method_7_code 26 = .ok (.iload 5, 2) := by decide +kernel
theorem d_5_7_28 : decode prog_5_method_7_code 28 = .ok (.aload_n 0, 1) := by decide +kernel
theorem d_5_7_29 : decode prog_5_method_7_code 29 = .ok (.getfield 13, 3) := by decide +kernel
theorem d_5_7_63 : decode prog_5_method_7_code 63 = .ok (.iload_n 2, 1) := by decide +kernel
theorem d_5_7_64 : decode prog_5_method_7_code 64 = .ok (.iconst 1, 1) := by decide +kernel
theorem d_5_7_65 : decode prog_5_method_7_code 65 = .ok (.if_icmp .gt 23, 3) := by decide +kernel
theorem d_5_7_88 : decode prog_5_method_7_code 88 = .ok (.iload_n 3, 1) := by decide +kernel
theorem d_5_7_89 : decode prog_5_method_7_code 89 = .ok (.iconst 5, 1) := by decide +kernel
theorem d_5_7_90 : decode prog_5_method_7_code 90 = .ok (.if_icmp .ne 8, 3) := by decide +kernel
theorem d_5_7_98 : decode prog_5_method_7_code 98 = .ok (.iload_n 3, 1) := by decide +kernel
theorem d_5_7_99 : decode prog_5_method_7_code 99 = .ok (.iconst 5, 1) := by decide +kernel
theorem d_5_7_100 : decode prog_5_method_7_code 100 = .ok (.if_icmp .lt 7, 3) := by decide +kernel
theorem d_5_7_107 : decode prog_5_method_7_code 107 = .ok (.iconst 0, 1) := by decide +kernel
theorem d_5_7_108 : decode prog_5_method_7_code 108 = .ok (.ireturn, 1) := by decide +kernel
theorem d_5_7_103 : decode prog_5_method_7_code 103 = .ok (.iconst 1, 1) := by decide +kernel
theorem d_5_7_104 : decode prog_5_method_7_code 104 = .ok (.goto 4, 3) := by decide +kernel
theorem d_5_7_93 : decode prog_5_method_7_code 93 = .ok (.iload 4, 2) := by decide +kernel
theorem d_5_7_95 : decode prog_5_method_7_code 95 = .ok (.ifCond .eq 14, 3) := by decide +kernel
theorem d_5_7_109 : decode prog_5_method_7_code 109 = .ok (.iload_n 2, 1) := by decide +kernel
theorem d_5_7_110 : decode prog_5_method_7_code 110 = .ok (.iconst 2, 1) := by decide +kernel
theorem d_5_7_111 : decode prog_5_method_7_code 111 = .ok (.if_icmp .eq 16, 3) := by decide +kernel
theorem d_5_7_127 : decode prog_5_method_7_code 127 = .ok (.iconst 1, 1) := by decide +kernel
theorem d_5_7_128 : decode prog_5_method_7_code 128 = .ok (.goto 4, 3) := by decide +kernel
theorem d_5_7_132 : decode prog_5_method_7_code 132 = .ok (.ireturn, 1) := by decide +kernel
theorem d_5_7_114 : decode prog_5_method_7_code 114 = .ok (.aload_n 0, 1) := by decide +kernel
theorem d_5_7_115 : decode prog_5_method_7_code 115 = .ok (.iload_n 1, 1) := by decide +kernel
theorem d_5_7_116 : decode prog_5_method_7_code 116 = .ok (.iconst 1, 1) := by decide +kernel
theorem d_5_7_117 : decode prog_5_method_7_code 117 = .ok (.isub, 1) := by decide +kernel
theorem d_5_7_118 : decode prog_5_method_7_code 118 = .ok (.invokevirtual 49, 3) := by decide +kernel
theorem d_5_7_121 : decode prog_5_method_7_code 121 = .ok (.iconst 1, 1) := by decide +kernel
theorem d_5_7_122 : decode prog_5_method_7_code 122 = .ok (.iand, 1) := by decide +kernel
theorem d_5_7_123 : decode prog_5_method_7_code 123 = .ok (.iconst 1, 1) := by decide +kernel
theorem d_5_7_124 : decode prog_5_method_7_code 124 = .ok (.if_icmp .ne 7, 3) := by decide +kernel
theorem d_5_7_131 : decode prog_5_method_7_code 131 = .ok (.iconst 0, 1) := by decide +kernel
theorem d_5_7_68 : decode prog_5_method_7_code 68 = .ok (.iload_n 2, 1) := by decide +kernel
theorem d_5_7_69 : decode prog_5_method_7_code 69 = .ok (.iconst 1, 1) := by decide +kernel
theorem d_5_7_70 : decode prog_5_method_7_code 70 = .ok (.if_icmp .ne 16, 3) := by decide +kernel
theorem d_5_7_86 : decode prog_5_method_7_code 86 = .ok (.iconst 0, 1) := by decide +kernel
theorem d_5_7_87 : decode prog_5_method_7_code 87 = .ok (.ireturn, 1) := by decide +kernel
theorem d_5_7_73 : decode prog_5_method_7_code 73 = .ok (.iload_n 3, 1) := by decide +kernel
theorem d_5_7_74 : decode prog_5_method_7_code 74 = .ok (.ifCond .ne 8, 3) := by decide +kernel
theorem d_5_7_82 : decode prog_5_method_7_code 82 = .ok (.iconst 1, 1) := by decide +kernel
theorem d_5_7_83 : decode prog_5_method_7_code 83 = .ok (.goto 4, 3) := by decide +kernel
theorem d_5_7_77 : decode prog_5_method_7_code 77 = .ok (.iload 4, 2) := by decide +kernel
theorem d_5_7_79 : decode prog_5_method_7_code 79 = .ok (.ifCond .eq 7, 3) := by decide +kernel
theorem d_5_7_32 : decode prog_5_method_7_code 32 = .ok (.if_icmp .ge 31, 3) := by decide +kernel
theorem d_5_7_35 : decode prog_5_method_7_code 35 = .ok (.iload 4, 2) := by decide +kernel
theorem d_5_7_37 : decode prog_5_method_7_code 37 = .ok (.ifCond .ne 26, 3) := by decide +kernel
theorem d_5_7_40 : decode prog_5_method_7_code 40 = .ok (.aload_n 0, 1) := by decide +kernel
theorem d_5_7_41 : decode prog_5_method_7_code 41 = .ok (.getfield 9, 3) := by decide +kernel
theorem d_5_7_44 : decode prog_5_method_7_code 44 = .ok (.iload 5, 2) := by decide +kernel
theorem d_5_7_46 : decode prog_5_method_7_code 46 = .ok (.baload, 1) := by decide +kernel
theorem d_5_7_47 : decode prog_5_method_7_code 47 = .ok (.ifCond .eq 7, 3) := by decide +kernel
theorem d_5_7_54 : decode prog_5_method_7_code 54 = .ok (.iconst 0, 1) := by decide +kernel
theorem d_5_7_55 : decode prog_5_method_7_code 55 = .ok (.istore 4, 2) := by decide +kernel
theorem d_5_7_57 : decode prog_5_method_7_code 57 = .ok (.iinc 5 1, 3) := by decide +kernel
theorem d_5_7_60 : decode prog_5_method_7_code 60 = .ok (.goto (-34), 3) := by decide +kernel
theorem d_5_7_50 : decode prog_5_method_7_code 50 = .ok (.iconst 1, 1) := by decide +kernel
theorem d_5_7_51 : decode prog_5_method_7_code 51 = .ok (.goto 4, 3) := by decide +kernel
theorem d_5_7_7 : decode prog_5_method_7_code 7 = .ok (.ifCond .ge 7, 3) := by decide +kernel
theorem d_5_7_14 : decode prog_5_method_7_code 14 = .ok (.iconst 0, 1) := by decide +kernel
theorem d_5_7_10 : decode prog_5_method_7_code 10 = .ok (.iconst 1, 1) := by decide +kernel
theorem d_5_7_11 : decode prog_5_method_7_code 11 = .ok (.goto 4, 3) := by decide +kernel
def y_Dig_goesOutwards : MethodName := ⟨"NumberHouse$Digits", "goesOutwards", "(II)Z"⟩
set_option maxRecDepth 100000 in
set_option maxHeartbeats 4000000 in
theorem T_Dig_goesOutwards (l : Launch) (D : va_G) (g : Nat → ClassId) (q : Nat → Nat) (ws : va_W) (x2 : Int32) (x3 : Int32) (hI : q_I (nsh g q) q ws) : q_mI l y_Dig_goesOutwards prog_5_method_7_code 6 (.boolean) 2 0 0 D g [.ref (q 36), .int x2, .int x3] ws (fun r u => ws = u ∧ (0 ≤ r.toInt) ∧ (r.toInt ≤ 1)) := by
  intro sz
  refine q_into (by decide) (Nat.le_of_ble_eq_true rfl) ?_
  intro p e s m below meth c ls hsz C0 V hl
  have hx := C0.1
  have hb := C0.2.1
  have hl : lv_has ls 6 [(0, .ref (q 36)), (1, .int x2), (2, .int x3)] := hl
  refine lv_aload_n hx hb d_5_7_0 rfl (lv_at hl 0 rfl) ?_
  refine lv_iload_n hx hb d_5_7_1 rfl (lv_at hl 1 rfl) ?_
  obtain ⟨y2, y4, hO1, b3, b5⟩ := n_o36 hI
  replace b3 : q_F (0 ≤ y2.toInt ∧ y2.toInt ≤ 1026) := b3
  replace b5 : q_F (-1000000 ≤ y4.toInt ∧ y4.toInt ≤ 1000000) := b5
  refine q_goi V (q_runV (As := [.int x2]) (rest := []) (d := 1) (mc := 0) (ms := 0) (ci := 7) C0 V rfl LV_Dig_49 (T_Dig_figure l D g q ws  x2 hI   _) rfl rfl hO1 rfl hl.1 rfl (Nat.le_of_ble_eq_true rfl) ⟨by decide, by decide⟩ ⟨Nat.le_of_ble_eq_true rfl, Nat.le_of_ble_eq_true rfl⟩ d_5_7_2) (fun a8 u6 H locs hp7 V => ?_)
  obtain ⟨rfl, -⟩ := hp7
  refine lv_istore_n (lv' := [(3, .int a8), (0, .ref (q 36)), (1, .int x2), (2, .int x3)]) hx hb d_5_7_5 rfl hl (by decide) rfl (fun ls hl => ?_)
  refine lv_iload_n hx hb d_5_7_6 rfl (lv_at hl 2 rfl) ?_
  refine q_join (X := Int32) (fun z H locs ls _ => q_F (0 ≤ z.toInt) ∧ q_F (z.toInt ≤ 1) ∧ q_Wd D g (va_A ws sz) s ws H locs ∧ lv_has ls 6 [(3, .int a8), (0, .ref (q 36)), (1, .int x2), (2, .int x3)]) (fun z => [.int z]) 15 0 0 ?_ ?_
  ·
    rintro lx9 H locs ls _ ⟨i11, i12, V, hl⟩
    replace i11 : q_F (0 ≤ lx9.toInt) := i11
    replace i12 : q_F (lx9.toInt ≤ 1) := i12
    replace hl : lv_has ls 6 [(3, .int a8), (0, .ref (q 36)), (1, .int x2), (2, .int x3)] := hl
    refine lv_istore (lv' := [(4, .int lx9), (3, .int a8), (0, .ref (q 36)), (1, .int x2), (2, .int x3)]) hx hb d_5_7_15 hl (by decide) rfl (fun ls hl => ?_)
    refine lv_iload_n hx hb d_5_7_17 rfl (lv_at hl 3 rfl) ?_
    refine lv_iconst (v := 1) hx hb d_5_7_18 (by decide) ?_
    refine lv_iadd hx hb d_5_7_19 ?_
    obtain ⟨a13, e14⟩ := q_nm (x2 + 1 : Int32)
    refine q_ti (v := a13) e14 ?_
    refine lv_iconst (v := 0) hx hb d_5_7_20 (by decide) ?_
    refine q_max C0 hl.1 rfl w_1571 w_803 w_7 w_804 ⟨Nat.le_of_ble_eq_true rfl, Nat.le_of_ble_eq_true rfl⟩ ⟨Nat.le_of_ble_eq_true rfl, Nat.le_of_ble_eq_true rfl⟩ d_5_7_21 ?_
    obtain ⟨a15, e16⟩ := q_nm (if a13 < 0 then 0 else a13 : Int32)
    refine q_ti (v := a15) e16 ?_
    have b17 : q_F (a13.toInt ≤ a15.toInt ∧ 0 ≤ a15.toInt ∧ (a15.toInt = a13.toInt ∨ a15.toInt = 0)) := (by rw [← e16]; show a13.toInt ≤ (if a13 < 0 then 0 else a13 : Int32).toInt ∧ 0 ≤ (if a13 < 0 then 0 else a13 : Int32).toInt ∧ ((if a13 < 0 then 0 else a13 : Int32).toInt = a13.toInt ∨ (if a13 < 0 then 0 else a13 : Int32).toInt = 0); exact (by have y1 : (0 : Int32).toInt = 0 := rfl; have z := s_max (a := a13) (b := 0); omega))
    refine lv_istore (lv' := [(5, .int a15), (4, .int lx9), (3, .int a8), (0, .ref (q 36)), (1, .int x2), (2, .int x3)]) hx hb d_5_7_24 hl (by decide) rfl (fun ls hl => ?_)
    refine q_loop (X := Int32 × Int32) (fun z H locs ls _ => q_F (z.2.toInt ≤ 1) ∧ q_F (lx9.toInt ≤ z.2.toInt) ∧ q_F (z.2.toInt + a15.toInt ≤ z.1.toInt + lx9.toInt) ∧ q_Wd D g (va_A ws sz) s ws H locs ∧ lv_has ls 6 [(5, .int z.1), (4, .int z.2), (3, .int a8), (0, .ref (q 36)), (1, .int x2), (2, .int x3)]) (fun z => (1026 - z.1.toInt).toNat) ?_ ((a15 : Int32), (lx9 : Int32)) _ _ _ ws ⟨(show q_F (lx9.toInt ≤ 1) from (show lx9.toInt ≤ 1 from by have t1 : lx9.toInt ≤ 1 := i12; omega)), (show q_F (lx9.toInt ≤ lx9.toInt) from (show lx9.toInt ≤ lx9.toInt from by omega)), (show q_F (lx9.toInt + a15.toInt ≤ a15.toInt + lx9.toInt) from (show lx9.toInt + a15.toInt ≤ a15.toInt + lx9.toInt from by omega)), V, q_lw hl (q_lw1 0 rfl (q_lw1 1 rfl (q_lw1 2 rfl (q_lw1 3 rfl (q_lw1 4 rfl (q_lw1 5 rfl q_lw0))))))⟩
    rintro ⟨lx20, lx21⟩ H locs ls _ ⟨i22, i23, i24, V, hl⟩ ih25
    replace i22 : q_F (lx21.toInt ≤ 1) := i22
    replace i23 : q_F (lx9.toInt ≤ lx21.toInt) := i23
    replace i24 : q_F (lx21.toInt + a15.toInt ≤ lx20.toInt + lx9.toInt) := i24
    replace hl : lv_has ls 6 [(5, .int lx20), (4, .int lx21), (3, .int a8), (0, .ref (q 36)), (1, .int x2), (2, .int x3)] := hl
    refine lv_iload hx hb d_5_7_26 (lv_at hl 0 rfl) ?_
    refine lv_aload_n hx hb d_5_7_28 rfl (lv_at hl 3 rfl) ?_
    refine q_get (ci := 7) (j := 0) (v := .int y2) C0 V i_Dig rfl rfl hO1 (by decide) w_264 rfl d_5_7_29 ?_
    refine q_join (X := Unit) (fun z H locs ls _ => q_Wd D g (va_A ws sz) s ws H locs ∧ lv_has ls 6 [(4, .int lx21), (3, .int a8), (0, .ref (q 36)), (1, .int x2), (2, .int x3)]) (fun z => []) 63 0 0 ?_ ?_
    ·
      rintro _ H locs ls _ ⟨V, hl⟩
      replace hl : lv_has ls 6 [(4, .int lx21), (3, .int a8), (0, .ref (q 36)), (1, .int x2), (2, .int x3)] := hl
      refine lv_iload_n hx hb d_5_7_63 rfl (lv_at hl 4 rfl) ?_
      refine lv_iconst (v := 1) hx hb d_5_7_64 (by decide) ?_
      refine lv_icmp_gt (tgt := 88) hx hb d_5_7_65 (by decide) (fun c27 => ?_) (fun c27 => ?_)
      ·
        have b28 : q_F (1 < x3.toInt) := (q_ltI c27)
        refine lv_iload_n hx hb d_5_7_88 rfl (lv_at hl 1 rfl) ?_
        refine lv_iconst (v := 5) hx hb d_5_7_89 (by decide) ?_
        refine lv_icmp_ne (tgt := 98) hx hb d_5_7_90 (by decide) (fun c29 => ?_) (fun c29 => ?_)
        ·
          have b30 : q_F (a8.toInt ≠ 5) := (q_neI c29)
          refine lv_iload_n hx hb d_5_7_98 rfl (lv_at hl 1 rfl) ?_
          refine lv_iconst (v := 5) hx hb d_5_7_99 (by decide) ?_
          refine lv_icmp_lt (tgt := 107) hx hb d_5_7_100 (by decide) (fun c31 => ?_) (fun c31 => ?_)
          ·
            have b32 : q_F (a8.toInt < 5) := (q_ltI c31)
            refine lv_iconst (v := 0) hx hb d_5_7_107 (by decide) ?_
            exact q_retz C0 V (by decide) (⟨rfl, (show 0 ≤ (0 : Int32).toInt from (by have z2 : (0 : Int32).toInt = 0 := rfl; omega)), (show (0 : Int32).toInt ≤ 1 from (by have z2 : (0 : Int32).toInt = 0 := rfl; omega))⟩) d_5_7_108
          ·
            have b33 : q_F (5 ≤ a8.toInt) := (q_nltI c31)
            refine lv_iconst (v := 1) hx hb d_5_7_103 (by decide) ?_
            refine lv_goto (tgt := 108) hx hb d_5_7_104 (by decide) ?_
            exact q_retz C0 V (by decide) (⟨rfl, (show 0 ≤ (1 : Int32).toInt from (by have z2 : (1 : Int32).toInt = 1 := rfl; omega)), (show (1 : Int32).toInt ≤ 1 from (by have z2 : (1 : Int32).toInt = 1 := rfl; omega))⟩) d_5_7_108
        ·
          have b34 : q_F (a8.toInt = 5) := (q_eqI c29)
          refine lv_iload hx hb d_5_7_93 (lv_at hl 0 rfl) ?_
          refine lv_if_eq (tgt := 109) hx hb d_5_7_95 (by decide) (fun c35 => ?_) (fun c35 => ?_)
          ·
            have b36 : q_F (lx21.toInt = 0) := (q_eqI c35)
            refine lv_iload_n hx hb d_5_7_109 rfl (lv_at hl 4 rfl) ?_
            refine lv_iconst (v := 2) hx hb d_5_7_110 (by decide) ?_
            refine lv_icmp_eq (tgt := 127) hx hb d_5_7_111 (by decide) (fun c37 => ?_) (fun c37 => ?_)
            ·
              have b38 : q_F (x3.toInt = 2) := (q_eqI c37)
              refine lv_iconst (v := 1) hx hb d_5_7_127 (by decide) ?_
              refine lv_goto (tgt := 132) hx hb d_5_7_128 (by decide) ?_
              exact q_retz C0 V (by decide) (⟨rfl, (show 0 ≤ (1 : Int32).toInt from (by have z2 : (1 : Int32).toInt = 1 := rfl; omega)), (show (1 : Int32).toInt ≤ 1 from (by have z2 : (1 : Int32).toInt = 1 := rfl; omega))⟩) d_5_7_132
            ·
              have b39 : q_F (x3.toInt ≠ 2) := (q_neI c37)
              refine lv_aload_n hx hb d_5_7_114 rfl (lv_at hl 2 rfl) ?_
              refine lv_iload_n hx hb d_5_7_115 rfl (lv_at hl 3 rfl) ?_
              refine lv_iconst (v := 1) hx hb d_5_7_116 (by decide) ?_
              refine lv_isub hx hb d_5_7_117 ?_
              obtain ⟨a40, e41⟩ := q_nm (x2 - 1 : Int32)
              refine q_ti (v := a40) e41 ?_
              refine q_goi V (q_runV (As := [.int a40]) (rest := []) (d := 1) (mc := 0) (ms := 0) (ci := 7) C0 V rfl LV_Dig_49 (T_Dig_figure l D g q ws  a40 hI   _) rfl rfl hO1 rfl hl.1 rfl (Nat.le_of_ble_eq_true rfl) ⟨by decide, by decide⟩ ⟨Nat.le_of_ble_eq_true rfl, Nat.le_of_ble_eq_true rfl⟩ d_5_7_118) (fun a44 u42 H locs hp43 V => ?_)
              obtain ⟨rfl, -⟩ := hp43
              refine lv_iconst (v := 1) hx hb d_5_7_121 (by decide) ?_
              refine lv_iand hx hb d_5_7_122 ?_
              obtain ⟨a45, e46⟩ := q_nm (a44 &&& 1 : Int32)
              refine q_ti (v := a45) e46 ?_
              have b47 : q_F (0 ≤ a45.toInt ∧ a45.toInt ≤ 1) := (by rw [← e46]; show 0 ≤ (a44 &&& 1 : Int32).toInt ∧ (a44 &&& 1 : Int32).toInt ≤ 1; exact s_and (by decide))
              refine lv_iconst (v := 1) hx hb d_5_7_123 (by decide) ?_
              refine lv_icmp_ne (tgt := 131) hx hb d_5_7_124 (by decide) (fun c48 => ?_) (fun c48 => ?_)
              ·
                have b49 : q_F (a45.toInt ≠ 1) := (q_neI c48)
                refine lv_iconst (v := 0) hx hb d_5_7_131 (by decide) ?_
                exact q_retz C0 V (by decide) (⟨rfl, (show 0 ≤ (0 : Int32).toInt from (by have z2 : (0 : Int32).toInt = 0 := rfl; omega)), (show (0 : Int32).toInt ≤ 1 from (by have z2 : (0 : Int32).toInt = 0 := rfl; omega))⟩) d_5_7_132
              ·
                have b50 : q_F (a45.toInt = 1) := (q_eqI c48)
                refine lv_iconst (v := 1) hx hb d_5_7_127 (by decide) ?_
                refine lv_goto (tgt := 132) hx hb d_5_7_128 (by decide) ?_
                exact q_retz C0 V (by decide) (⟨rfl, (show 0 ≤ (1 : Int32).toInt from (by have z2 : (1 : Int32).toInt = 1 := rfl; omega)), (show (1 : Int32).toInt ≤ 1 from (by have z2 : (1 : Int32).toInt = 1 := rfl; omega))⟩) d_5_7_132
          ·
            have b51 : q_F (lx21.toInt ≠ 0) := (q_neI c35)
            refine lv_iload_n hx hb d_5_7_98 rfl (lv_at hl 1 rfl) ?_
            refine lv_iconst (v := 5) hx hb d_5_7_99 (by decide) ?_
            refine lv_icmp_lt (tgt := 107) hx hb d_5_7_100 (by decide) (fun c52 => absurd (show a8.toInt < 5 from q_ltI c52) (by have t1 : a8.toInt = 5 := b34; omega)) (fun c52 => ?_)
            refine lv_iconst (v := 1) hx hb d_5_7_103 (by decide) ?_
            refine lv_goto (tgt := 108) hx hb d_5_7_104 (by decide) ?_
            exact q_retz C0 V (by decide) (⟨rfl, (show 0 ≤ (1 : Int32).toInt from (by have z2 : (1 : Int32).toInt = 1 := rfl; omega)), (show (1 : Int32).toInt ≤ 1 from (by have z2 : (1 : Int32).toInt = 1 := rfl; omega))⟩) d_5_7_108
      ·
        have b53 : q_F (x3.toInt ≤ 1) := (q_nltI c27)
        refine lv_iload_n hx hb d_5_7_68 rfl (lv_at hl 4 rfl) ?_
        refine lv_iconst (v := 1) hx hb d_5_7_69 (by decide) ?_
        refine lv_icmp_ne (tgt := 86) hx hb d_5_7_70 (by decide) (fun c54 => ?_) (fun c54 => ?_)
        ·
          have b55 : q_F (x3.toInt ≠ 1) := (q_neI c54)
          refine lv_iconst (v := 0) hx hb d_5_7_86 (by decide) ?_
          exact q_retz C0 V (by decide) (⟨rfl, (show 0 ≤ (0 : Int32).toInt from (by have z2 : (0 : Int32).toInt = 0 := rfl; omega)), (show (0 : Int32).toInt ≤ 1 from (by have z2 : (0 : Int32).toInt = 0 := rfl; omega))⟩) d_5_7_87
        ·
          have b56 : q_F (x3.toInt = 1) := (q_eqI c54)
          refine lv_iload_n hx hb d_5_7_73 rfl (lv_at hl 1 rfl) ?_
          refine lv_if_ne (tgt := 82) hx hb d_5_7_74 (by decide) (fun c57 => ?_) (fun c57 => ?_)
          ·
            have b58 : q_F (a8.toInt ≠ 0) := (q_neI c57)
            refine lv_iconst (v := 1) hx hb d_5_7_82 (by decide) ?_
            refine lv_goto (tgt := 87) hx hb d_5_7_83 (by decide) ?_
            exact q_retz C0 V (by decide) (⟨rfl, (show 0 ≤ (1 : Int32).toInt from (by have z2 : (1 : Int32).toInt = 1 := rfl; omega)), (show (1 : Int32).toInt ≤ 1 from (by have z2 : (1 : Int32).toInt = 1 := rfl; omega))⟩) d_5_7_87
          ·
            have b59 : q_F (a8.toInt = 0) := (q_eqI c57)
            refine lv_iload hx hb d_5_7_77 (lv_at hl 0 rfl) ?_
            refine lv_if_eq (tgt := 86) hx hb d_5_7_79 (by decide) (fun c60 => ?_) (fun c60 => ?_)
            ·
              have b61 : q_F (lx21.toInt = 0) := (q_eqI c60)
              refine lv_iconst (v := 0) hx hb d_5_7_86 (by decide) ?_
              exact q_retz C0 V (by decide) (⟨rfl, (show 0 ≤ (0 : Int32).toInt from (by have z2 : (0 : Int32).toInt = 0 := rfl; omega)), (show (0 : Int32).toInt ≤ 1 from (by have z2 : (0 : Int32).toInt = 0 := rfl; omega))⟩) d_5_7_87
            ·
              have b62 : q_F (lx21.toInt ≠ 0) := (q_neI c60)
              refine lv_iconst (v := 1) hx hb d_5_7_82 (by decide) ?_
              refine lv_goto (tgt := 87) hx hb d_5_7_83 (by decide) ?_
              exact q_retz C0 V (by decide) (⟨rfl, (show 0 ≤ (1 : Int32).toInt from (by have z2 : (1 : Int32).toInt = 1 := rfl; omega)), (show (1 : Int32).toInt ≤ 1 from (by have z2 : (1 : Int32).toInt = 1 := rfl; omega))⟩) d_5_7_87
    ·
      intro J26
      refine lv_icmp_ge (tgt := 63) hx hb d_5_7_32 (by decide) (fun c63 => ?_) (fun c63 => ?_)
      ·
        have b64 : q_F (y2.toInt ≤ lx20.toInt) := (q_leI c63)
        exact J26 (()) _ _ _ ws ⟨V, q_lw hl (q_lw1 1 rfl (q_lw1 2 rfl (q_lw1 3 rfl (q_lw1 4 rfl (q_lw1 5 rfl q_lw0)))))⟩
      ·
        have b65 : q_F (lx20.toInt < y2.toInt) := (q_nleI c63)
        refine lv_iload hx hb d_5_7_35 (lv_at hl 1 rfl) ?_
        refine lv_if_ne (tgt := 63) hx hb d_5_7_37 (by decide) (fun c66 => ?_) (fun c66 => ?_)
        ·
          have b67 : q_F (lx21.toInt ≠ 0) := (q_neI c66)
          exact J26 (()) _ _ _ ws ⟨V, q_lw hl (q_lw1 1 rfl (q_lw1 2 rfl (q_lw1 3 rfl (q_lw1 4 rfl (q_lw1 5 rfl q_lw0)))))⟩
        ·
          have b68 : q_F (lx21.toInt = 0) := (q_eqI c66)
          refine lv_aload_n hx hb d_5_7_40 rfl (lv_at hl 3 rfl) ?_
          refine q_get (ci := 7) (j := 2) (v := .ref (q 37)) C0 V i_Dig rfl rfl hO1 (by decide) w_269 rfl d_5_7_41 ?_
          refine lv_iload hx hb d_5_7_44 (lv_at hl 0 rfl) ?_
          obtain ⟨f69, hA70, bf71⟩ := n_ai hI (n_s37 g q)
          refine q_bald C0 V hA70 (q_ix (x := lx20.toInt) rfl (by have t1 : a13.toInt ≤ a15.toInt ∧ 0 ≤ a15.toInt ∧ (a15.toInt = a13.toInt ∨ a15.toInt = 0) := b17; have t2 : lx9.toInt ≤ lx21.toInt := i23; have t3 : lx21.toInt + a15.toInt ≤ lx20.toInt + lx9.toInt := i24; omega) (by have t1 : a13.toInt ≤ a15.toInt ∧ 0 ≤ a15.toInt ∧ (a15.toInt = a13.toInt ∨ a15.toInt = 0) := b17; have t2 : lx9.toInt ≤ lx21.toInt := i23; have t3 : lx21.toInt + a15.toInt ≤ lx20.toInt + lx9.toInt := i24; have t4 : 0 ≤ y2.toInt ∧ y2.toInt ≤ 1026 := b3; have t5 : lx20.toInt < y2.toInt := b65; omega)) d_5_7_46 ?_
          obtain ⟨a72, e73⟩ := q_nm (f69 lx20.toNatClampNeg : Int32)
          refine q_ti (v := a72) e73 ?_
          refine lv_if_eq (tgt := 54) hx hb d_5_7_47 (by decide) (fun c74 => ?_) (fun c74 => ?_)
          ·
            have b75 : q_F (a72.toInt = 0) := (q_eqI c74)
            refine lv_iconst (v := 0) hx hb d_5_7_54 (by decide) ?_
            refine lv_istore (lv' := [(4, .int 0), (5, .int lx20), (3, .int a8), (0, .ref (q 36)), (1, .int x2), (2, .int x3)]) hx hb d_5_7_55 hl (by decide) rfl (fun ls hl => ?_)
            obtain ⟨a76, e77⟩ := q_nm (lx20 + 1 : Int32)
            have b78 : q_F (a76.toInt = lx20.toInt + 1) := (by rw [← e77]; exact q_addI (y := 1) rfl (by decide) (by have _ := q_lo32 (x := lx20); have _ := q_hi32 (x := lx20); have t1 : lx20.toInt < y2.toInt := b65; have _ := q_lo32 (x := y2); have _ := q_hi32 (x := y2); omega) (by have _ := q_lo32 (x := lx20); have _ := q_hi32 (x := lx20); have t1 : lx20.toInt < y2.toInt := b65; have _ := q_lo32 (x := y2); have _ := q_hi32 (x := y2); omega))
            refine lv_iinc (v := a76) (lv' := [(5, .int a76), (4, .int 0), (3, .int a8), (0, .ref (q 36)), (1, .int x2), (2, .int x3)]) hx hb d_5_7_57 hl (k := 1) rfl (e77) (by decide) rfl (fun ls hl => ?_)
            refine lv_goto (tgt := 26) hx hb d_5_7_60 (by decide) ?_
            exact ih25 ((a76 : Int32), (0 : Int32)) _ _ _ ws (show (1026 - a76.toInt).toNat < (1026 - lx20.toInt).toNat from by have t1 : a76.toInt = lx20.toInt + 1 := b78; have t2 : 0 ≤ y2.toInt ∧ y2.toInt ≤ 1026 := b3; have t3 : lx20.toInt < y2.toInt := b65; omega) ⟨(show q_F (0 ≤ 1) from (show 0 ≤ 1 from by omega)), (show q_F (lx9.toInt ≤ 0) from (show lx9.toInt ≤ 0 from by have t1 : lx9.toInt ≤ lx21.toInt := i23; have t2 : lx21.toInt = 0 := b68; omega)), (show q_F (0 + a15.toInt ≤ a76.toInt + lx9.toInt) from (show 0 + a15.toInt ≤ a76.toInt + lx9.toInt from by have t1 : 0 ≤ lx9.toInt := i11; have t2 : lx9.toInt ≤ lx21.toInt := i23; have t3 : lx21.toInt + a15.toInt ≤ lx20.toInt + lx9.toInt := i24; have t4 : a76.toInt = lx20.toInt + 1 := b78; omega)), V, q_lw hl (q_lw1 0 rfl (q_lw1 1 rfl (q_lw1 2 rfl (q_lw1 3 rfl (q_lw1 4 rfl (q_lw1 5 rfl q_lw0))))))⟩
          ·
            have b79 : q_F (a72.toInt ≠ 0) := (q_neI c74)
            refine lv_iconst (v := 1) hx hb d_5_7_50 (by decide) ?_
            refine lv_goto (tgt := 55) hx hb d_5_7_51 (by decide) ?_
            refine lv_istore (lv' := [(4, .int 1), (5, .int lx20), (3, .int a8), (0, .ref (q 36)), (1, .int x2), (2, .int x3)]) hx hb d_5_7_55 hl (by decide) rfl (fun ls hl => ?_)
            obtain ⟨a80, e81⟩ := q_nm (lx20 + 1 : Int32)
            have b82 : q_F (a80.toInt = lx20.toInt + 1) := (by rw [← e81]; exact q_addI (y := 1) rfl (by decide) (by have _ := q_lo32 (x := lx20); have _ := q_hi32 (x := lx20); have t1 : lx20.toInt < y2.toInt := b65; have _ := q_lo32 (x := y2); have _ := q_hi32 (x := y2); omega) (by have _ := q_lo32 (x := lx20); have _ := q_hi32 (x := lx20); have t1 : lx20.toInt < y2.toInt := b65; have _ := q_lo32 (x := y2); have _ := q_hi32 (x := y2); omega))
            refine lv_iinc (v := a80) (lv' := [(5, .int a80), (4, .int 1), (3, .int a8), (0, .ref (q 36)), (1, .int x2), (2, .int x3)]) hx hb d_5_7_57 hl (k := 1) rfl (e81) (by decide) rfl (fun ls hl => ?_)
            refine lv_goto (tgt := 26) hx hb d_5_7_60 (by decide) ?_
            exact ih25 ((a80 : Int32), (1 : Int32)) _ _ _ ws (show (1026 - a80.toInt).toNat < (1026 - lx20.toInt).toNat from by have t1 : a80.toInt = lx20.toInt + 1 := b82; have t2 : 0 ≤ y2.toInt ∧ y2.toInt ≤ 1026 := b3; have t3 : lx20.toInt < y2.toInt := b65; omega) ⟨(show q_F (1 ≤ 1) from (show 1 ≤ 1 from by omega)), (show q_F (lx9.toInt ≤ 1) from (show lx9.toInt ≤ 1 from by have t1 : lx9.toInt ≤ 1 := i12; omega)), (show q_F (1 + a15.toInt ≤ a80.toInt + lx9.toInt) from (show 1 + a15.toInt ≤ a80.toInt + lx9.toInt from by have t1 : 0 ≤ lx9.toInt := i11; have t2 : lx9.toInt ≤ lx21.toInt := i23; have t3 : lx21.toInt + a15.toInt ≤ lx20.toInt + lx9.toInt := i24; have t4 : a80.toInt = lx20.toInt + 1 := b82; omega)), V, q_lw hl (q_lw1 0 rfl (q_lw1 1 rfl (q_lw1 2 rfl (q_lw1 3 rfl (q_lw1 4 rfl (q_lw1 5 rfl q_lw0))))))⟩
  ·
    intro J10
    refine lv_if_ge (tgt := 14) hx hb d_5_7_7 (by decide) (fun c83 => ?_) (fun c83 => ?_)
    ·
      have b84 : q_F (0 ≤ x2.toInt) := (q_leI c83)
      refine lv_iconst (v := 0) hx hb d_5_7_14 (by decide) ?_
      exact J10 ((0 : Int32)) _ _ _ ws ⟨(show q_F (0 ≤ 0) from (show 0 ≤ 0 from by omega)), (show q_F (0 ≤ 1) from (show 0 ≤ 1 from by omega)), V, q_lw hl (q_lw1 0 rfl (q_lw1 1 rfl (q_lw1 2 rfl (q_lw1 3 rfl q_lw0))))⟩
    ·
      have b85 : q_F (x2.toInt < 0) := (q_nleI c83)
      refine lv_iconst (v := 1) hx hb d_5_7_10 (by decide) ?_
      refine lv_goto (tgt := 15) hx hb d_5_7_11 (by decide) ?_
      exact J10 ((1 : Int32)) _ _ _ ws ⟨(show q_F (0 ≤ 1) from (show 0 ≤ 1 from by omega)), (show q_F (1 ≤ 1) from (show 1 ≤ 1 from by omega)), V, q_lw hl (q_lw1 0 rfl (q_lw1 1 rfl (q_lw1 2 rfl (q_lw1 3 rfl q_lw0))))⟩
theorem d_5_8_0 : decode prog_5_method_8_code 0 = .ok (.aload_n 0, 1) := by decide +kernel
theorem d_5_8_1 : decode prog_5_method_8_code 1 = .ok (.getfield 13, 3) := by decide +kernel
theorem d_5_8_4 : decode prog_5_method_8_code 4 = .ok (.iconst 1, 1) := by decide +kernel
theorem d_5_8_5 : decode prog_5_method_8_code 5 = .ok (.isub, 1) := by decide +kernel
theorem d_5_8_6 : decode prog_5_method_8_code 6 = .ok (.istore_n 2, 1) := by decide +kernel
theorem d_5_8_7 : decode prog_5_method_8_code 7 = .ok (.iload_n 2, 1) := by decide +kernel
theorem d_5_8_28 : decode prog_5_method_8_code 28 = .ok (.iload_n 2, 1) := by decide +kernel
theorem d_5_8_29 : decode prog_5_method_8_code 29 = .ok (.ifCond .lt 22, 3) := by decide +kernel
theorem d_5_8_51 : decode prog_5_method_8_code 51 = .ok (.aload_n 0, 1) := by decide +kernel
theorem d_5_8_52 : decode prog_5_method_8_code 52 = .ok (.dup, 1) := by decide +kernel
theorem d_5_8_53 : decode prog_5_method_8_code 53 = .ok (.getfield 33, 3) := by decide +kernel
theorem d_5_8_56 : decode prog_5_method_8_code 56 = .ok (.iload_n 1, 1) := by decide +kernel
theorem d_5_8_57 : decode prog_5_method_8_code 57 = .ok (.ifCond .le 7, 3) := by decide +kernel
theorem d_5_8_64 : decode prog_5_method_8_code 64 = .ok (.iconst 1, 1) := by decide +kernel
theorem d_5_8_65 : decode prog_5_method_8_code 65 = .ok (.iload_n 1, 1) := by decide +kernel
theorem d_5_8_66 : decode prog_5_method_8_code 66 = .ok (.isub, 1) := by decide +kernel
theorem d_5_8_67 : decode prog_5_method_8_code 67 = .ok (.iadd, 1) := by decide +kernel
theorem d_5_8_68 : decode prog_5_method_8_code 68 = .ok (.putfield 33, 3) := by decide +kernel
theorem d_5_8_71 : decode prog_5_method_8_code 71 = .ok (.aload_n 0, 1) := by decide +kernel
theorem d_5_8_72 : decode prog_5_method_8_code 72 = .ok (.getfield 9, 3) := by decide +kernel
theorem d_5_8_75 : decode prog_5_method_8_code 75 = .ok (.iconst 0, 1) := by decide +kernel
theorem d_5_8_76 : decode prog_5_method_8_code 76 = .ok (.iconst 1, 1) := by decide +kernel
theorem d_5_8_77 : decode prog_5_method_8_code 77 = .ok (.bastore, 1) := by decide +kernel
theorem d_5_8_78 : decode prog_5_method_8_code 78 = .ok (.aload_n 0, 1) := by decide +kernel
theorem d_5_8_79 : decode prog_5_method_8_code 79 = .ok (.iconst 1, 1) := by decide +kernel
theorem d_5_8_80 : decode prog_5_method_8_code 80 = .ok (.putfield 13, 3) := by decide +kernel
theorem d_5_8_83 : decode prog_5_method_8_code 83 = .ok (.return_, 1) := by decide +kernel
theorem d_5_8_60 : decode prog_5_method_8_code 60 = .ok (.iconst 1, 1) := by decide +kernel
theorem d_5_8_61 : decode prog_5_method_8_code 61 = .ok (.goto 6, 3) := by decide +kernel
theorem d_5_8_32 : decode prog_5_method_8_code 32 = .ok (.aload_n 0, 1) := by decide +kernel
theorem d_5_8_33 : decode prog_5_method_8_code 33 = .ok (.getfield 9, 3) := by decide +kernel
theorem d_5_8_36 : decode prog_5_method_8_code 36 = .ok (.iload_n 2, 1) := by decide +kernel
theorem d_5_8_37 : decode prog_5_method_8_code 37 = .ok (.dup2, 1) := by decide +kernel
theorem d_5_8_38 : decode prog_5_method_8_code 38 = .ok (.baload, 1) := by decide +kernel
theorem d_5_8_39 : decode prog_5_method_8_code 39 = .ok (.iconst 1, 1) := by decide +kernel
theorem d_5_8_40 : decode prog_5_method_8_code 40 = .ok (.iadd, 1) := by decide +kernel
theorem d_5_8_41 : decode prog_5_method_8_code 41 = .ok (.i2b, 1) := by decide +kernel
theorem d_5_8_42 : decode prog_5_method_8_code 42 = .ok (.bastore, 1) := by decide +kernel
theorem d_5_8_43 : decode prog_5_method_8_code 43 = .ok (.aload_n 0, 1) := by decide +kernel
theorem d_5_8_44 : decode prog_5_method_8_code 44 = .ok (.iload_n 2, 1) := by decide +kernel
theorem d_5_8_45 : decode prog_5_method_8_code 45 = .ok (.iconst 1, 1) := by decide +kernel
theorem d_5_8_46 : decode prog_5_method_8_code 46 = .ok (.iadd, 1) := by decide +kernel
theorem d_5_8_47 : decode prog_5_method_8_code 47 = .ok (.putfield 13, 3) := by decide +kernel
theorem d_5_8_50 : decode prog_5_method_8_code 50 = .ok (.return_, 1) := by decide +kernel
theorem d_5_8_8 : decode prog_5_method_8_code 8 = .ok (.ifCond .lt 20, 3) := by decide +kernel
theorem d_5_8_11 : decode prog_5_method_8_code 11 = .ok (.aload_n 0, 1) := by decide +kernel
theorem d_5_8_12 : decode prog_5_method_8_code 12 = .ok (.getfield 9, 3) := by decide +kernel
theorem d_5_8_15 : decode prog_5_method_8_code 15 = .ok (.iload_n 2, 1) := by decide +kernel
theorem d_5_8_16 : decode prog_5_method_8_code 16 = .ok (.baload, 1) := by decide +kernel
theorem d_5_8_17 : decode prog_5_method_8_code 17 = .ok (.bipush 9, 2) := by decide +kernel
theorem d_5_8_19 : decode prog_5_method_8_code 19 = .ok (.if_icmp .ne 9, 3) := by decide +kernel
theorem d_5_8_22 : decode prog_5_method_8_code 22 = .ok (.iinc 2 (-1), 3) := by decide +kernel
theorem d_5_8_25 : decode prog_5_method_8_code 25 = .ok (.goto (-18), 3) := by decide +kernel
def y_Dig_stepOutwards : MethodName := ⟨"NumberHouse$Digits", "stepOutwards", "(I)V"⟩
set_option maxRecDepth 100000 in
set_option maxHeartbeats 4000000 in
theorem T_Dig_stepOutwards (l : Launch) (D : va_G) (g : Nat → ClassId) (q : Nat → Nat) (ws : va_W) (x2 : Int32) (hI : q_I (nsh g q) q ws) (t0_0 : Int32) (t0_1 : Int32) (hT0 : ws[36]? = (some (q 36, .inr (7, [.int t0_0, .int t0_1, .ref (q 37)])) : Option (Nat × va_E))) (pre0 : 0 ≤ x2.toInt + 100000) (pre1 : x2.toInt ≤ 100000) (pre2 : 0 ≤ t0_1.toInt + 200000) (pre3 : t0_1.toInt ≤ 200000) : q_mV l y_Dig_stepOutwards prog_5_method_8_code 3 1 0 0 D g [.ref (q 36), .int x2] ws (fun u => q_I (nsh g q) q u ∧ q_un ws u [36, 37] ∧ ∃ (u0_0 : Int32) (u0_1 : Int32), u[36]? = (some (q 36, .inr (7, [.int u0_0, .int u0_1, .ref (q 37)])) : Option (Nat × va_E)) ∧ (1 ≤ u0_0.toInt) ∧ (u0_0.toInt ≤ 1026) ∧ (u0_0.toInt ≤ t0_0.toInt + 1) ∧ (t0_1.toInt ≤ u0_1.toInt) ∧ (u0_1.toInt ≤ t0_1.toInt + 100001)) := by
  intro sz
  refine q_into (by decide) (Nat.le_of_ble_eq_true rfl) ?_
  intro p e s m below meth c ls hsz C0 V hl
  have hx := C0.1
  have hb := C0.2.1
  obtain ⟨yy0_0, yy0_1, hh0, btt0_0, btt0_1⟩ := n_o36 hI
  obtain ⟨rfl, rfl⟩ : t0_0 = yy0_0 ∧ t0_1 = yy0_1 := by have z := Option.some.inj (hT0.symm.trans hh0); simpa using z
  replace btt0_0 : q_F (0 ≤ t0_0.toInt ∧ t0_0.toInt ≤ 1026) := btt0_0
  replace btt0_1 : q_F (-1000000 ≤ t0_1.toInt ∧ t0_1.toInt ≤ 1000000) := btt0_1
  replace pre0 : q_F (0 ≤ x2.toInt + 100000) := pre0
  replace pre1 : q_F (x2.toInt ≤ 100000) := pre1
  replace pre2 : q_F (0 ≤ t0_1.toInt + 200000) := pre2
  replace pre3 : q_F (t0_1.toInt ≤ 200000) := pre3
  have hF : q_un ws ws [36, 37] := q_u0
  have hl : lv_has ls 3 [(0, .ref (q 36)), (1, .int x2)] := hl
  refine lv_aload_n hx hb d_5_8_0 rfl (lv_at hl 0 rfl) ?_
  refine q_get (ci := 7) (j := 0) (v := .int t0_0) C0 V i_Dig rfl rfl hT0 (by decide) w_264 rfl d_5_8_1 ?_
  refine lv_iconst (v := 1) hx hb d_5_8_4 (by decide) ?_
  refine lv_isub hx hb d_5_8_5 ?_
  obtain ⟨a6, e7⟩ := q_nm (t0_0 - 1 : Int32)
  refine q_ti (v := a6) e7 ?_
  have b8 : q_F (a6.toInt = t0_0.toInt - 1) := (by rw [← e7]; show (t0_0 - 1 : Int32).toInt = t0_0.toInt - 1; exact q_subI (x := t0_0.toInt) (y := 1) rfl (by decide) (by have t1 : 0 ≤ t0_0.toInt ∧ t0_0.toInt ≤ 1026 := btt0_0; omega) (by have t1 : 0 ≤ t0_0.toInt ∧ t0_0.toInt ≤ 1026 := btt0_0; omega))
  refine lv_istore_n (lv' := [(2, .int a6), (0, .ref (q 36)), (1, .int x2)]) hx hb d_5_8_6 rfl hl (by decide) rfl (fun ls hl => ?_)
  refine q_loop (X := Int32) (fun z H locs ls _ => q_F (0 ≤ z.toInt + 1) ∧ q_F (z.toInt + 1 ≤ t0_0.toInt) ∧ q_Wd D g (va_A ws sz) s ws H locs ∧ lv_has ls 3 [(2, .int z), (0, .ref (q 36)), (1, .int x2)]) (fun z => (z.toInt - ((-1000000))).toNat) ?_ ((a6 : Int32)) _ _ _ ws ⟨(show q_F (0 ≤ a6.toInt + 1) from (show 0 ≤ a6.toInt + 1 from by have t1 : 0 ≤ t0_0.toInt ∧ t0_0.toInt ≤ 1026 := btt0_0; have t2 : a6.toInt = t0_0.toInt - 1 := b8; omega)), (show q_F (a6.toInt + 1 ≤ t0_0.toInt) from (show a6.toInt + 1 ≤ t0_0.toInt from by have t1 : a6.toInt = t0_0.toInt - 1 := b8; omega)), V, q_lw hl (q_lw1 0 rfl (q_lw1 1 rfl (q_lw1 2 rfl q_lw0)))⟩
  rintro lx10 H locs ls _ ⟨i11, i12, V, hl⟩ ih13
  replace i11 : q_F (0 ≤ lx10.toInt + 1) := i11
  replace i12 : q_F (lx10.toInt + 1 ≤ t0_0.toInt) := i12
  replace hl : lv_has ls 3 [(2, .int lx10), (0, .ref (q 36)), (1, .int x2)] := hl
  refine lv_iload_n hx hb d_5_8_7 rfl (lv_at hl 0 rfl) ?_
  refine q_join (X := Unit) (fun z H locs ls _ => q_Wd D g (va_A ws sz) s ws H locs ∧ lv_has ls 3 [(2, .int lx10), (0, .ref (q 36)), (1, .int x2)]) (fun z => []) 28 0 0 ?_ ?_
  ·
    rintro _ H locs ls _ ⟨V, hl⟩
    replace hl : lv_has ls 3 [(2, .int lx10), (0, .ref (q 36)), (1, .int x2)] := hl
    refine lv_iload_n hx hb d_5_8_28 rfl (lv_at hl 0 rfl) ?_
    refine lv_if_lt (tgt := 51) hx hb d_5_8_29 (by decide) (fun c16 => ?_) (fun c16 => ?_)
    ·
      have b17 : q_F (lx10.toInt < 0) := (q_ltI c16)
      refine lv_aload_n hx hb d_5_8_51 rfl (lv_at hl 1 rfl) ?_
      refine lv_dup hx hb d_5_8_52 rfl ?_
      refine q_get (ci := 7) (j := 1) (v := .int t0_1) C0 V i_Dig rfl rfl hT0 (by decide) w_266 rfl d_5_8_53 ?_
      refine lv_iload_n hx hb d_5_8_56 rfl (lv_at hl 2 rfl) ?_
      refine lv_if_le (tgt := 64) hx hb d_5_8_57 (by decide) (fun c18 => ?_) (fun c18 => ?_)
      ·
        have b19 : q_F (x2.toInt ≤ 0) := (q_leI c18)
        refine lv_iconst (v := 1) hx hb d_5_8_64 (by decide) ?_
        refine lv_iload_n hx hb d_5_8_65 rfl (lv_at hl 2 rfl) ?_
        refine lv_isub hx hb d_5_8_66 ?_
        obtain ⟨a20, e21⟩ := q_nm (1 - x2 : Int32)
        refine q_ti (v := a20) e21 ?_
        have b22 : q_F (a20.toInt = 1 - x2.toInt) := (by rw [← e21]; show (1 - x2 : Int32).toInt = 1 - x2.toInt; exact q_subI (x := 1) (y := x2.toInt) (by decide) rfl (by have t1 : x2.toInt ≤ 100000 := pre1; have t2 : 0 ≤ x2.toInt + 100000 := pre0; omega) (by have t1 : x2.toInt ≤ 100000 := pre1; have t2 : 0 ≤ x2.toInt + 100000 := pre0; omega))
        refine lv_iadd hx hb d_5_8_67 ?_
        obtain ⟨a23, e24⟩ := q_nm (t0_1 + a20 : Int32)
        refine q_ti (v := a23) e24 ?_
        have b25 : q_F (a23.toInt = t0_1.toInt + a20.toInt) := (by rw [← e24]; show (t0_1 + a20 : Int32).toInt = t0_1.toInt + a20.toInt; exact q_addI (x := t0_1.toInt) (y := a20.toInt) rfl rfl (by have t1 : -1000000 ≤ t0_1.toInt ∧ t0_1.toInt ≤ 1000000 := btt0_1; have t2 : x2.toInt ≤ 100000 := pre1; have t3 : a20.toInt = 1 - x2.toInt := b22; have t4 : 0 ≤ x2.toInt + 100000 := pre0; omega) (by have t1 : -1000000 ≤ t0_1.toInt ∧ t0_1.toInt ≤ 1000000 := btt0_1; have t2 : x2.toInt ≤ 100000 := pre1; have t3 : a20.toInt = 1 - x2.toInt := b22; have t4 : 0 ≤ x2.toInt + 100000 := pre0; omega))
        refine q_put (ci := 7) (j := 1) (v := .int a23) (ty := .int) C0 V i_Dig o_Dig n_Dig rfl rfl hT0 (by decide) w_266 rfl rfl rfl rfl (Nat.le_of_ble_eq_true rfl) d_5_8_68 (fun H locs w26 hu27 hT0 V => ?_)
        replace hT0 : w26[36]? = (some (q 36, .inr (7, [.int t0_0, .int a23, .ref (q 37)])) : Option (Nat × va_E)) := hT0
        replace hI := n_p36 hI hu27 hT0 ⟨(by have t1 : 0 ≤ t0_0.toInt ∧ t0_0.toInt ≤ 1026 := btt0_0; omega), (by have t1 : 0 ≤ t0_0.toInt ∧ t0_0.toInt ≤ 1026 := btt0_0; omega)⟩ ⟨(by have t1 : x2.toInt ≤ 100000 := pre1; have t2 : 0 ≤ t0_1.toInt + 200000 := pre2; have t3 : a20.toInt = 1 - x2.toInt := b22; have t4 : a23.toInt = t0_1.toInt + a20.toInt := b25; omega), (by have t1 : 0 ≤ x2.toInt + 100000 := pre0; have t2 : t0_1.toInt ≤ 200000 := pre3; have t3 : a20.toInt = 1 - x2.toInt := b22; have t4 : a23.toInt = t0_1.toInt + a20.toInt := b25; omega)⟩
        replace hF := q_us hF hu27 (by simp)
        refine lv_aload_n hx hb d_5_8_71 rfl (lv_at hl 1 rfl) ?_
        refine q_get (ci := 7) (j := 2) (v := .ref (q 37)) C0 V i_Dig rfl rfl hT0 (by decide) w_269 rfl d_5_8_72 ?_
        refine lv_iconst (v := 0) hx hb d_5_8_75 (by decide) ?_
        refine lv_iconst (v := 1) hx hb d_5_8_76 (by decide) ?_
        obtain ⟨f28, hA29, bf30⟩ := n_ai hI (n_s37 g q)
        refine q_bast C0 V hA29 (q_ix (x := 0) (by decide) (by omega) (by omega)) d_5_8_77 (fun H locs w31 hu32 hA29 V => ?_)
        replace hI := n_ai' hI (n_s37 g q) hu32 hA29 (q_updB bf30 s_bnd)
        replace hT0 := (hu32 _ (by decide)).trans hT0
        replace hF := q_us hF hu32 (by simp)
        refine lv_aload_n hx hb d_5_8_78 rfl (lv_at hl 1 rfl) ?_
        refine lv_iconst (v := 1) hx hb d_5_8_79 (by decide) ?_
        refine q_put (ci := 7) (j := 0) (v := .int 1) (ty := .int) C0 V i_Dig o_Dig n_Dig rfl rfl hT0 (by decide) w_264 rfl rfl rfl rfl (Nat.le_of_ble_eq_true rfl) d_5_8_80 (fun H locs w33 hu34 hT0 V => ?_)
        replace hT0 : w33[36]? = (some (q 36, .inr (7, [.int 1, .int a23, .ref (q 37)])) : Option (Nat × va_E)) := hT0
        replace hI := n_p36 hI hu34 hT0 ⟨(by have z9 : (1 : Int32).toInt = 1 := rfl; omega), (by have z9 : (1 : Int32).toInt = 1 := rfl; omega)⟩ ⟨(by have t1 : x2.toInt ≤ 100000 := pre1; have t2 : 0 ≤ t0_1.toInt + 200000 := pre2; have t3 : a20.toInt = 1 - x2.toInt := b22; have t4 : a23.toInt = t0_1.toInt + a20.toInt := b25; omega), (by have t1 : 0 ≤ x2.toInt + 100000 := pre0; have t2 : t0_1.toInt ≤ 200000 := pre3; have t3 : a20.toInt = 1 - x2.toInt := b22; have t4 : a23.toInt = t0_1.toInt + a20.toInt := b25; omega)⟩
        replace hF := q_us hF hu34 (by simp)
        exact q_retv C0 V (⟨hI, hF, 1, a23, hT0, (show 1 ≤ (1 : Int32).toInt from (by have z3 : (1 : Int32).toInt = 1 := rfl; omega)), (show (1 : Int32).toInt ≤ 1026 from (by have z3 : (1 : Int32).toInt = 1 := rfl; omega)), (show (1 : Int32).toInt ≤ t0_0.toInt + 1 from (by have z3 : (1 : Int32).toInt = 1 := rfl; have t1 : 0 ≤ t0_0.toInt ∧ t0_0.toInt ≤ 1026 := btt0_0; omega)), (show t0_1.toInt ≤ a23.toInt from (by have z3 : (1 : Int32).toInt = 1 := rfl; have t1 : x2.toInt ≤ 0 := b19; have t2 : a20.toInt = 1 - x2.toInt := b22; have t3 : a23.toInt = t0_1.toInt + a20.toInt := b25; omega)), (show a23.toInt ≤ t0_1.toInt + 100001 from (by have z3 : (1 : Int32).toInt = 1 := rfl; have t1 : 0 ≤ x2.toInt + 100000 := pre0; have t2 : a20.toInt = 1 - x2.toInt := b22; have t3 : a23.toInt = t0_1.toInt + a20.toInt := b25; omega))⟩) d_5_8_83
      ·
        have b35 : q_F (0 < x2.toInt) := (q_nleI c18)
        refine lv_iconst (v := 1) hx hb d_5_8_60 (by decide) ?_
        refine lv_goto (tgt := 67) hx hb d_5_8_61 (by decide) ?_
        refine lv_iadd hx hb d_5_8_67 ?_
        obtain ⟨a36, e37⟩ := q_nm (t0_1 + 1 : Int32)
        refine q_ti (v := a36) e37 ?_
        have b38 : q_F (a36.toInt = t0_1.toInt + 1) := (by rw [← e37]; show (t0_1 + 1 : Int32).toInt = t0_1.toInt + 1; exact q_addI (x := t0_1.toInt) (y := 1) rfl (by decide) (by have t1 : -1000000 ≤ t0_1.toInt ∧ t0_1.toInt ≤ 1000000 := btt0_1; omega) (by have t1 : -1000000 ≤ t0_1.toInt ∧ t0_1.toInt ≤ 1000000 := btt0_1; omega))
        refine q_put (ci := 7) (j := 1) (v := .int a36) (ty := .int) C0 V i_Dig o_Dig n_Dig rfl rfl hT0 (by decide) w_266 rfl rfl rfl rfl (Nat.le_of_ble_eq_true rfl) d_5_8_68 (fun H locs w39 hu40 hT0 V => ?_)
        replace hT0 : w39[36]? = (some (q 36, .inr (7, [.int t0_0, .int a36, .ref (q 37)])) : Option (Nat × va_E)) := hT0
        replace hI := n_p36 hI hu40 hT0 ⟨(by have t1 : 0 ≤ t0_0.toInt ∧ t0_0.toInt ≤ 1026 := btt0_0; omega), (by have t1 : 0 ≤ t0_0.toInt ∧ t0_0.toInt ≤ 1026 := btt0_0; omega)⟩ ⟨(by have t1 : -1000000 ≤ t0_1.toInt ∧ t0_1.toInt ≤ 1000000 := btt0_1; have t2 : a36.toInt = t0_1.toInt + 1 := b38; omega), (by have t1 : t0_1.toInt ≤ 200000 := pre3; have t2 : a36.toInt = t0_1.toInt + 1 := b38; omega)⟩
        replace hF := q_us hF hu40 (by simp)
        refine lv_aload_n hx hb d_5_8_71 rfl (lv_at hl 1 rfl) ?_
        refine q_get (ci := 7) (j := 2) (v := .ref (q 37)) C0 V i_Dig rfl rfl hT0 (by decide) w_269 rfl d_5_8_72 ?_
        refine lv_iconst (v := 0) hx hb d_5_8_75 (by decide) ?_
        refine lv_iconst (v := 1) hx hb d_5_8_76 (by decide) ?_
        obtain ⟨f41, hA42, bf43⟩ := n_ai hI (n_s37 g q)
        refine q_bast C0 V hA42 (q_ix (x := 0) (by decide) (by omega) (by omega)) d_5_8_77 (fun H locs w44 hu45 hA42 V => ?_)
        replace hI := n_ai' hI (n_s37 g q) hu45 hA42 (q_updB bf43 s_bnd)
        replace hT0 := (hu45 _ (by decide)).trans hT0
        replace hF := q_us hF hu45 (by simp)
        refine lv_aload_n hx hb d_5_8_78 rfl (lv_at hl 1 rfl) ?_
        refine lv_iconst (v := 1) hx hb d_5_8_79 (by decide) ?_
        refine q_put (ci := 7) (j := 0) (v := .int 1) (ty := .int) C0 V i_Dig o_Dig n_Dig rfl rfl hT0 (by decide) w_264 rfl rfl rfl rfl (Nat.le_of_ble_eq_true rfl) d_5_8_80 (fun H locs w46 hu47 hT0 V => ?_)
        replace hT0 : w46[36]? = (some (q 36, .inr (7, [.int 1, .int a36, .ref (q 37)])) : Option (Nat × va_E)) := hT0
        replace hI := n_p36 hI hu47 hT0 ⟨(by have z9 : (1 : Int32).toInt = 1 := rfl; omega), (by have z9 : (1 : Int32).toInt = 1 := rfl; omega)⟩ ⟨(by have t1 : -1000000 ≤ t0_1.toInt ∧ t0_1.toInt ≤ 1000000 := btt0_1; have t2 : a36.toInt = t0_1.toInt + 1 := b38; omega), (by have t1 : t0_1.toInt ≤ 200000 := pre3; have t2 : a36.toInt = t0_1.toInt + 1 := b38; omega)⟩
        replace hF := q_us hF hu47 (by simp)
        exact q_retv C0 V (⟨hI, hF, 1, a36, hT0, (show 1 ≤ (1 : Int32).toInt from (by have z3 : (1 : Int32).toInt = 1 := rfl; omega)), (show (1 : Int32).toInt ≤ 1026 from (by have z3 : (1 : Int32).toInt = 1 := rfl; omega)), (show (1 : Int32).toInt ≤ t0_0.toInt + 1 from (by have z3 : (1 : Int32).toInt = 1 := rfl; have t1 : 0 ≤ t0_0.toInt ∧ t0_0.toInt ≤ 1026 := btt0_0; omega)), (show t0_1.toInt ≤ a36.toInt from (by have z3 : (1 : Int32).toInt = 1 := rfl; have t1 : a36.toInt = t0_1.toInt + 1 := b38; omega)), (show a36.toInt ≤ t0_1.toInt + 100001 from (by have z3 : (1 : Int32).toInt = 1 := rfl; have t1 : a36.toInt = t0_1.toInt + 1 := b38; omega))⟩) d_5_8_83
    ·
      have b48 : q_F (0 ≤ lx10.toInt) := (q_nltI c16)
      refine lv_aload_n hx hb d_5_8_32 rfl (lv_at hl 1 rfl) ?_
      refine q_get (ci := 7) (j := 2) (v := .ref (q 37)) C0 V i_Dig rfl rfl hT0 (by decide) w_269 rfl d_5_8_33 ?_
      refine lv_iload_n hx hb d_5_8_36 rfl (lv_at hl 0 rfl) ?_
      refine lv_dup2_11 hx hb d_5_8_37 rfl rfl ?_
      obtain ⟨f49, hA50, bf51⟩ := n_ai hI (n_s37 g q)
      refine q_bald C0 V hA50 (q_ix (x := lx10.toInt) rfl (by have t1 : 0 ≤ lx10.toInt := b48; omega) (by have t1 : 0 ≤ lx10.toInt := b48; have t2 : 0 ≤ t0_0.toInt ∧ t0_0.toInt ≤ 1026 := btt0_0; have t3 : lx10.toInt + 1 ≤ t0_0.toInt := i12; omega)) d_5_8_38 ?_
      obtain ⟨a52, e53⟩ := q_nm (f49 lx10.toNatClampNeg : Int32)
      refine q_ti (v := a52) e53 ?_
      refine lv_iconst (v := 1) hx hb d_5_8_39 (by decide) ?_
      refine lv_iadd hx hb d_5_8_40 ?_
      obtain ⟨a54, e55⟩ := q_nm (a52 + 1 : Int32)
      refine q_ti (v := a54) e55 ?_
      refine lv_i2b hx hb d_5_8_41 rfl ?_
      obtain ⟨a56, e57⟩ := q_nm (a54.toInt8.toInt32 : Int32)
      refine q_ti (v := a56) e57 ?_
      refine q_bast C0 V hA50 (q_ix (x := lx10.toInt) rfl (by have t1 : 0 ≤ lx10.toInt := b48; omega) (by have t1 : 0 ≤ lx10.toInt := b48; have t2 : 0 ≤ t0_0.toInt ∧ t0_0.toInt ≤ 1026 := btt0_0; have t3 : lx10.toInt + 1 ≤ t0_0.toInt := i12; omega)) d_5_8_42 (fun H locs w58 hu59 hA50 V => ?_)
      replace hI := n_ai' hI (n_s37 g q) hu59 hA50 (q_updB bf51 s_bnd)
      replace hT0 := (hu59 _ (by decide)).trans hT0
      replace hF := q_us hF hu59 (by simp)
      refine lv_aload_n hx hb d_5_8_43 rfl (lv_at hl 1 rfl) ?_
      refine lv_iload_n hx hb d_5_8_44 rfl (lv_at hl 0 rfl) ?_
      refine lv_iconst (v := 1) hx hb d_5_8_45 (by decide) ?_
      refine lv_iadd hx hb d_5_8_46 ?_
      obtain ⟨a60, e61⟩ := q_nm (lx10 + 1 : Int32)
      refine q_ti (v := a60) e61 ?_
      have b62 : q_F (a60.toInt = lx10.toInt + 1) := (by rw [← e61]; show (lx10 + 1 : Int32).toInt = lx10.toInt + 1; exact q_addI (x := lx10.toInt) (y := 1) rfl (by decide) (by have t1 : 0 ≤ lx10.toInt + 1 := i11; have t2 : lx10.toInt + 1 ≤ t0_0.toInt := i12; have _ := q_lo32 (x := t0_0); have _ := q_hi32 (x := t0_0); omega) (by have t1 : 0 ≤ lx10.toInt + 1 := i11; have t2 : lx10.toInt + 1 ≤ t0_0.toInt := i12; have _ := q_lo32 (x := t0_0); have _ := q_hi32 (x := t0_0); omega))
      refine q_put (ci := 7) (j := 0) (v := .int a60) (ty := .int) C0 V i_Dig o_Dig n_Dig rfl rfl hT0 (by decide) w_264 rfl rfl rfl rfl (Nat.le_of_ble_eq_true rfl) d_5_8_47 (fun H locs w63 hu64 hT0 V => ?_)
      replace hT0 : w63[36]? = (some (q 36, .inr (7, [.int a60, .int t0_1, .ref (q 37)])) : Option (Nat × va_E)) := hT0
      replace hI := n_p36 hI hu64 hT0 ⟨(by have t1 : 0 ≤ lx10.toInt + 1 := i11; have t2 : a60.toInt = lx10.toInt + 1 := b62; omega), (by have t1 : 0 ≤ t0_0.toInt ∧ t0_0.toInt ≤ 1026 := btt0_0; have t2 : lx10.toInt + 1 ≤ t0_0.toInt := i12; have t3 : a60.toInt = lx10.toInt + 1 := b62; omega)⟩ ⟨(by have t1 : -1000000 ≤ t0_1.toInt ∧ t0_1.toInt ≤ 1000000 := btt0_1; omega), (by have t1 : -1000000 ≤ t0_1.toInt ∧ t0_1.toInt ≤ 1000000 := btt0_1; omega)⟩
      replace hF := q_us hF hu64 (by simp)
      exact q_retv C0 V (⟨hI, hF, a60, t0_1, hT0, (show 1 ≤ a60.toInt from (by have t1 : 0 ≤ lx10.toInt := b48; have t2 : a60.toInt = lx10.toInt + 1 := b62; omega)), (show a60.toInt ≤ 1026 from (by have t1 : 0 ≤ t0_0.toInt ∧ t0_0.toInt ≤ 1026 := btt0_0; have t2 : lx10.toInt + 1 ≤ t0_0.toInt := i12; have t3 : a60.toInt = lx10.toInt + 1 := b62; omega)), (show a60.toInt ≤ t0_0.toInt + 1 from (by have t1 : lx10.toInt + 1 ≤ t0_0.toInt := i12; have t2 : a60.toInt = lx10.toInt + 1 := b62; omega)), (show t0_1.toInt ≤ t0_1.toInt from (by omega)), (show t0_1.toInt ≤ t0_1.toInt + 100001 from (by omega))⟩) d_5_8_50
  ·
    intro J15
    refine lv_if_lt (tgt := 28) hx hb d_5_8_8 (by decide) (fun c65 => ?_) (fun c65 => ?_)
    ·
      have b66 : q_F (lx10.toInt < 0) := (q_ltI c65)
      exact J15 (()) _ _ _ ws ⟨V, q_lw hl (q_lw1 0 rfl (q_lw1 1 rfl (q_lw1 2 rfl q_lw0)))⟩
    ·
      have b67 : q_F (0 ≤ lx10.toInt) := (q_nltI c65)
      refine lv_aload_n hx hb d_5_8_11 rfl (lv_at hl 1 rfl) ?_
      refine q_get (ci := 7) (j := 2) (v := .ref (q 37)) C0 V i_Dig rfl rfl hT0 (by decide) w_269 rfl d_5_8_12 ?_
      refine lv_iload_n hx hb d_5_8_15 rfl (lv_at hl 0 rfl) ?_
      obtain ⟨f68, hA69, bf70⟩ := n_ai hI (n_s37 g q)
      refine q_bald C0 V hA69 (q_ix (x := lx10.toInt) rfl (by have t1 : 0 ≤ lx10.toInt := b67; omega) (by have t1 : 0 ≤ lx10.toInt := b67; have t2 : 0 ≤ t0_0.toInt ∧ t0_0.toInt ≤ 1026 := btt0_0; have t3 : lx10.toInt + 1 ≤ t0_0.toInt := i12; omega)) d_5_8_16 ?_
      obtain ⟨a71, e72⟩ := q_nm (f68 lx10.toNatClampNeg : Int32)
      refine q_ti (v := a71) e72 ?_
      refine lv_bipush (v := 9) hx hb d_5_8_17 (by decide) ?_
      refine lv_icmp_ne (tgt := 28) hx hb d_5_8_19 (by decide) (fun c73 => ?_) (fun c73 => ?_)
      ·
        have b74 : q_F (a71.toInt ≠ 9) := (q_neI c73)
        exact J15 (()) _ _ _ ws ⟨V, q_lw hl (q_lw1 0 rfl (q_lw1 1 rfl (q_lw1 2 rfl q_lw0)))⟩
      ·
        have b75 : q_F (a71.toInt = 9) := (q_eqI c73)
        obtain ⟨a76, e77⟩ := q_nm (lx10 + (-1) : Int32)
        have b78 : q_F (a76.toInt = lx10.toInt + (-1)) := (by rw [← e77]; exact q_addI (y := (-1)) rfl (by decide) (by have t1 : 0 ≤ lx10.toInt + 1 := i11; have _ := q_lo32 (x := lx10); have _ := q_hi32 (x := lx10); omega) (by have t1 : 0 ≤ lx10.toInt + 1 := i11; have _ := q_lo32 (x := lx10); have _ := q_hi32 (x := lx10); omega))
        refine lv_iinc (v := a76) (lv' := [(2, .int a76), (0, .ref (q 36)), (1, .int x2)]) hx hb d_5_8_22 hl (k := 0) rfl (e77) (by decide) rfl (fun ls hl => ?_)
        refine lv_goto (tgt := 7) hx hb d_5_8_25 (by decide) ?_
        exact ih13 ((a76 : Int32)) _ _ _ ws (show (a76.toInt - ((-1000000))).toNat < (lx10.toInt - ((-1000000))).toNat from by have t1 : a76.toInt = lx10.toInt + (-1) := b78; have t2 : 0 ≤ lx10.toInt + 1 := i11; omega) ⟨(show q_F (0 ≤ a76.toInt + 1) from (show 0 ≤ a76.toInt + 1 from by have t1 : 0 ≤ lx10.toInt := b67; have t2 : a76.toInt = lx10.toInt + (-1) := b78; omega)), (show q_F (a76.toInt + 1 ≤ t0_0.toInt) from (show a76.toInt + 1 ≤ t0_0.toInt from by have t1 : lx10.toInt + 1 ≤ t0_0.toInt := i12; have t2 : a76.toInt = lx10.toInt + (-1) := b78; omega)), V, q_lw hl (q_lw1 0 rfl (q_lw1 1 rfl (q_lw1 2 rfl q_lw0)))⟩
theorem d_5_6_0 : decode prog_5_method_6_code 0 = .ok (.iload_n 1, 1) := by decide +kernel
theorem d_5_6_1 : decode prog_5_method_6_code 1 = .ok (.aload_n 0, 1) := by decide +kernel
theorem d_5_6_2 : decode prog_5_method_6_code 2 = .ok (.getfield 13, 3) := by decide +kernel
theorem d_5_6_5 : decode prog_5_method_6_code 5 = .ok (.if_icmp .lt 4, 3) := by decide +kernel
theorem d_5_6_9 : decode prog_5_method_6_code 9 = .ok (.aload_n 0, 1) := by decide +kernel
theorem d_5_6_10 : decode prog_5_method_6_code 10 = .ok (.iload_n 1, 1) := by decide +kernel
theorem d_5_6_11 : decode prog_5_method_6_code 11 = .ok (.iload_n 2, 1) := by decide +kernel
theorem d_5_6_12 : decode prog_5_method_6_code 12 = .ok (.invokevirtual 36, 3) := by decide +kernel
set_option maxRecDepth 100000 in
theorem w_1659 : (Cond.code ({ cls := "NumberHouse$Digits", name := "goesOutwards", desc := "(II)Z" } : MethodName) prog_5_method_7_code (6 : Nat) (some .boolean)) ∈ q_tbl := q_of7 219 rfl (by decide +kernel)
set_option maxRecDepth 100000 in
theorem w_1656 : (Cond.methodLink "NumberHouse$Digits" (36 : Nat) ({ cls := "NumberHouse$Digits", name := "goesOutwards", desc := "(II)Z" } : MethodName)) ∈ q_tbl := q_of7 216 rfl (by decide +kernel)
set_option maxRecDepth 100000 in
theorem w_1658 : (Cond.instanceMethod ({ cls := "NumberHouse$Digits", name := "goesOutwards", desc := "(II)Z" } : MethodName)) ∈ q_tbl := q_of7 218 rfl (by decide +kernel)
theorem ws_42 : Cond.selects "NumberHouse$Digits" (⟨"NumberHouse$Digits", "goesOutwards", "(II)Z"⟩ : MethodName) (⟨"NumberHouse$Digits", "goesOutwards", "(II)Z"⟩ : MethodName) ∈ q_tbl := q_ofs 42 (by decide +kernel) (by decide +kernel)
theorem LV_Dig_36 : q_LV "NumberHouse$Digits" 36 y_Dig_goesOutwards prog_5_method_7_code 6 (some .boolean) 2 := ⟨w_1659, w_9, w_1656, w_1658, ws_42, ⟨by decide, by decide, by decide +kernel⟩⟩
theorem d_5_6_15 : decode prog_5_method_6_code 15 = .ok (.istore_n 3, 1) := by decide +kernel
theorem d_5_6_16 : decode prog_5_method_6_code 16 = .ok (.aload_n 0, 1) := by decide +kernel
theorem d_5_6_17 : decode prog_5_method_6_code 17 = .ok (.iload_n 1, 1) := by decide +kernel
theorem d_5_6_18 : decode prog_5_method_6_code 18 = .ok (.iconst 0, 1) := by decide +kernel
theorem d_5_6_19 : decode prog_5_method_6_code 19 = .ok (.invokestatic 40, 3) := by decide +kernel
theorem d_5_6_22 : decode prog_5_method_6_code 22 = .ok (.putfield 13, 3) := by decide +kernel
theorem d_5_6_25 : decode prog_5_method_6_code 25 = .ok (.iload_n 3, 1) := by decide +kernel
theorem d_5_6_26 : decode prog_5_method_6_code 26 = .ok (.ifCond .eq 8, 3) := by decide +kernel
theorem d_5_6_34 : decode prog_5_method_6_code 34 = .ok (.aload_n 0, 1) := by decide +kernel
theorem d_5_6_35 : decode prog_5_method_6_code 35 = .ok (.getfield 13, 3) := by decide +kernel
theorem d_5_6_38 : decode prog_5_method_6_code 38 = .ok (.ifCond .ne 8, 3) := by decide +kernel
theorem d_5_6_46 : decode prog_5_method_6_code 46 = .ok (.return_, 1) := by decide +kernel
theorem d_5_6_41 : decode prog_5_method_6_code 41 = .ok (.aload_n 0, 1) := by decide +kernel
theorem d_5_6_42 : decode prog_5_method_6_code 42 = .ok (.iconst 0, 1) := by decide +kernel
theorem d_5_6_43 : decode prog_5_method_6_code 43 = .ok (.putfield 33, 3) := by decide +kernel
theorem d_5_6_29 : decode prog_5_method_6_code 29 = .ok (.aload_n 0, 1) := by decide +kernel
theorem d_5_6_30 : decode prog_5_method_6_code 30 = .ok (.iload_n 1, 1) := by decide +kernel
theorem d_5_6_31 : decode prog_5_method_6_code 31 = .ok (.invokevirtual 46, 3) := by decide +kernel
set_option maxRecDepth 100000 in
theorem w_1663 : (Cond.code ({ cls := "NumberHouse$Digits", name := "stepOutwards", desc := "(I)V" } : MethodName) prog_5_method_8_code (3 : Nat) (none : Option ClassFile.FieldType)) ∈ q_tbl := q_of7 223 rfl (by decide +kernel)
set_option maxRecDepth 100000 in
theorem w_1660 : (Cond.methodLink "NumberHouse$Digits" (46 : Nat) ({ cls := "NumberHouse$Digits", name := "stepOutwards", desc := "(I)V" } : MethodName)) ∈ q_tbl := q_of7 220 rfl (by decide +kernel)
set_option maxRecDepth 100000 in
theorem w_1662 : (Cond.instanceMethod ({ cls := "NumberHouse$Digits", name := "stepOutwards", desc := "(I)V" } : MethodName)) ∈ q_tbl := q_of7 222 rfl (by decide +kernel)
theorem ws_43 : Cond.selects "NumberHouse$Digits" (⟨"NumberHouse$Digits", "stepOutwards", "(I)V"⟩ : MethodName) (⟨"NumberHouse$Digits", "stepOutwards", "(I)V"⟩ : MethodName) ∈ q_tbl := q_ofs 43 (by decide +kernel) (by decide +kernel)
theorem LV_Dig_46 : q_LV "NumberHouse$Digits" 46 y_Dig_stepOutwards prog_5_method_8_code 3 none 1 := ⟨w_1663, w_9, w_1660, w_1662, ws_43, ⟨by decide, by decide, by decide +kernel⟩⟩
theorem d_5_6_8 : decode prog_5_method_6_code 8 = .ok (.return_, 1) := by decide +kernel
def y_Dig_round : MethodName := ⟨"NumberHouse$Digits", "round", "(II)V"⟩
set_option maxRecDepth 100000 in
set_option maxHeartbeats 4000000 in
theorem T_Dig_round (l : Launch) (D : va_G) (g : Nat → ClassId) (q : Nat → Nat) (ws : va_W) (x2 : Int32) (x3 : Int32) (hI : q_I (nsh g q) q ws) (t0_0 : Int32) (t0_1 : Int32) (hT0 : ws[36]? = (some (q 36, .inr (7, [.int t0_0, .int t0_1, .ref (q 37)])) : Option (Nat × va_E))) (pre0 : 0 ≤ x2.toInt + 100000) (pre1 : x2.toInt ≤ 100000) (pre2 : 0 ≤ t0_1.toInt + 200000) (pre3 : t0_1.toInt ≤ 200000) : q_mV l y_Dig_round prog_5_method_6_code 4 3 0 0 D g [.ref (q 36), .int x2, .int x3] ws (fun u => q_I (nsh g q) q u ∧ q_un ws u [36, 37] ∧ ∃ (u0_0 : Int32) (u0_1 : Int32), u[36]? = (some (q 36, .inr (7, [.int u0_0, .int u0_1, .ref (q 37)])) : Option (Nat × va_E)) ∧ (0 ≤ u0_0.toInt) ∧ (u0_0.toInt ≤ 1026) ∧ (0 ≤ u0_1.toInt + 200000) ∧ (u0_1.toInt ≤ 300001) ∧ (u0_0.toInt ≤ x2.toInt + 100001) ∧ (u0_0.toInt ≤ t0_0.toInt + 1) ∧ (t0_1.toInt ≤ u0_1.toInt + 200000) ∧ (u0_1.toInt ≤ t0_1.toInt + 200000) ∧ (u0_1.toInt ≤ u0_0.toInt + 300000)) := by
  intro sz
  refine q_into (by decide) (Nat.le_of_ble_eq_true rfl) ?_
  intro p e s m below meth c ls hsz C0 V hl
  have hx := C0.1
  have hb := C0.2.1
  obtain ⟨yy0_0, yy0_1, hh0, btt0_0, btt0_1⟩ := n_o36 hI
  obtain ⟨rfl, rfl⟩ : t0_0 = yy0_0 ∧ t0_1 = yy0_1 := by have z := Option.some.inj (hT0.symm.trans hh0); simpa using z
  replace btt0_0 : q_F (0 ≤ t0_0.toInt ∧ t0_0.toInt ≤ 1026) := btt0_0
  replace btt0_1 : q_F (-1000000 ≤ t0_1.toInt ∧ t0_1.toInt ≤ 1000000) := btt0_1
  replace pre0 : q_F (0 ≤ x2.toInt + 100000) := pre0
  replace pre1 : q_F (x2.toInt ≤ 100000) := pre1
  replace pre2 : q_F (0 ≤ t0_1.toInt + 200000) := pre2
  replace pre3 : q_F (t0_1.toInt ≤ 200000) := pre3
  have hF : q_un ws ws [36, 37] := q_u0
  have hl : lv_has ls 4 [(0, .ref (q 36)), (1, .int x2), (2, .int x3)] := hl
  refine lv_iload_n hx hb d_5_6_0 rfl (lv_at hl 1 rfl) ?_
  refine lv_aload_n hx hb d_5_6_1 rfl (lv_at hl 0 rfl) ?_
  refine q_get (ci := 7) (j := 0) (v := .int t0_0) C0 V i_Dig rfl rfl hT0 (by decide) w_264 rfl d_5_6_2 ?_
  refine lv_icmp_lt (tgt := 9) hx hb d_5_6_5 (by decide) (fun c6 => ?_) (fun c6 => ?_)
  ·
    have b7 : q_F (x2.toInt < t0_0.toInt) := (q_ltI c6)
    refine lv_aload_n hx hb d_5_6_9 rfl (lv_at hl 0 rfl) ?_
    refine lv_iload_n hx hb d_5_6_10 rfl (lv_at hl 1 rfl) ?_
    refine lv_iload_n hx hb d_5_6_11 rfl (lv_at hl 2 rfl) ?_
    refine q_goi V (q_runV (As := [.int x2, .int x3]) (rest := []) (d := 2) (mc := 0) (ms := 0) (ci := 7) C0 V rfl LV_Dig_36 (T_Dig_goesOutwards l D g q ws  x2 x3 hI   _) rfl rfl hT0 rfl hl.1 rfl (Nat.le_of_ble_eq_true rfl) ⟨by decide, by decide⟩ ⟨Nat.le_of_ble_eq_true rfl, Nat.le_of_ble_eq_true rfl⟩ d_5_6_12) (fun a10 u8 H locs hp9 V => ?_)
    obtain ⟨rfl, b11, b12⟩ := hp9
    replace b11 : q_F (0 ≤ a10.toInt) := b11
    replace b12 : q_F (a10.toInt ≤ 1) := b12
    refine lv_istore_n (lv' := [(3, .int a10), (0, .ref (q 36)), (1, .int x2), (2, .int x3)]) hx hb d_5_6_15 rfl hl (by decide) rfl (fun ls hl => ?_)
    refine lv_aload_n hx hb d_5_6_16 rfl (lv_at hl 1 rfl) ?_
    refine lv_iload_n hx hb d_5_6_17 rfl (lv_at hl 2 rfl) ?_
    refine lv_iconst (v := 0) hx hb d_5_6_18 (by decide) ?_
    refine q_max C0 hl.1 rfl w_1571 w_803 w_7 w_804 ⟨Nat.le_of_ble_eq_true rfl, Nat.le_of_ble_eq_true rfl⟩ ⟨Nat.le_of_ble_eq_true rfl, Nat.le_of_ble_eq_true rfl⟩ d_5_6_19 ?_
    obtain ⟨a13, e14⟩ := q_nm (if x2 < 0 then 0 else x2 : Int32)
    refine q_ti (v := a13) e14 ?_
    have b15 : q_F (x2.toInt ≤ a13.toInt ∧ 0 ≤ a13.toInt ∧ (a13.toInt = x2.toInt ∨ a13.toInt = 0)) := (by rw [← e14]; show x2.toInt ≤ (if x2 < 0 then 0 else x2 : Int32).toInt ∧ 0 ≤ (if x2 < 0 then 0 else x2 : Int32).toInt ∧ ((if x2 < 0 then 0 else x2 : Int32).toInt = x2.toInt ∨ (if x2 < 0 then 0 else x2 : Int32).toInt = 0); exact (by have y1 : (0 : Int32).toInt = 0 := rfl; have z := s_max (a := x2) (b := 0); omega))
    refine q_put (ci := 7) (j := 0) (v := .int a13) (ty := .int) C0 V i_Dig o_Dig n_Dig rfl rfl hT0 (by decide) w_264 rfl rfl rfl rfl (Nat.le_of_ble_eq_true rfl) d_5_6_22 (fun H locs w16 hu17 hT0 V => ?_)
    replace hT0 : w16[36]? = (some (q 36, .inr (7, [.int a13, .int t0_1, .ref (q 37)])) : Option (Nat × va_E)) := hT0
    replace hI := n_p36 hI hu17 hT0 ⟨(by have t1 : x2.toInt ≤ a13.toInt ∧ 0 ≤ a13.toInt ∧ (a13.toInt = x2.toInt ∨ a13.toInt = 0) := b15; omega), (by have t1 : 0 ≤ t0_0.toInt ∧ t0_0.toInt ≤ 1026 := btt0_0; have t2 : x2.toInt < t0_0.toInt := b7; have t3 : x2.toInt ≤ a13.toInt ∧ 0 ≤ a13.toInt ∧ (a13.toInt = x2.toInt ∨ a13.toInt = 0) := b15; omega)⟩ ⟨(by have t1 : -1000000 ≤ t0_1.toInt ∧ t0_1.toInt ≤ 1000000 := btt0_1; omega), (by have t1 : -1000000 ≤ t0_1.toInt ∧ t0_1.toInt ≤ 1000000 := btt0_1; omega)⟩
    replace hF := q_us hF hu17 (by simp)
    refine lv_iload_n hx hb d_5_6_25 rfl (lv_at hl 0 rfl) ?_
    refine lv_if_eq (tgt := 34) hx hb d_5_6_26 (by decide) (fun c18 => ?_) (fun c18 => ?_)
    ·
      have b19 : q_F (a10.toInt = 0) := (q_eqI c18)
      refine lv_aload_n hx hb d_5_6_34 rfl (lv_at hl 1 rfl) ?_
      refine q_get (ci := 7) (j := 0) (v := .int a13) C0 V i_Dig rfl rfl hT0 (by decide) w_264 rfl d_5_6_35 ?_
      refine lv_if_ne (tgt := 46) hx hb d_5_6_38 (by decide) (fun c20 => ?_) (fun c20 => ?_)
      ·
        have b21 : q_F (a13.toInt ≠ 0) := (q_neI c20)
        exact q_retv C0 V (⟨hI, hF, a13, t0_1, hT0, (show 0 ≤ a13.toInt from (by have t1 : x2.toInt ≤ a13.toInt ∧ 0 ≤ a13.toInt ∧ (a13.toInt = x2.toInt ∨ a13.toInt = 0) := b15; omega)), (show a13.toInt ≤ 1026 from (by have t1 : 0 ≤ t0_0.toInt ∧ t0_0.toInt ≤ 1026 := btt0_0; have t2 : x2.toInt < t0_0.toInt := b7; have t3 : x2.toInt ≤ a13.toInt ∧ 0 ≤ a13.toInt ∧ (a13.toInt = x2.toInt ∨ a13.toInt = 0) := b15; omega)), (show 0 ≤ t0_1.toInt + 200000 from (by have t1 : 0 ≤ t0_1.toInt + 200000 := pre2; omega)), (show t0_1.toInt ≤ 300001 from (by have t1 : t0_1.toInt ≤ 200000 := pre3; omega)), (show a13.toInt ≤ x2.toInt + 100001 from (by have t1 : 0 ≤ x2.toInt + 100000 := pre0; have t2 : x2.toInt ≤ a13.toInt ∧ 0 ≤ a13.toInt ∧ (a13.toInt = x2.toInt ∨ a13.toInt = 0) := b15; omega)), (show a13.toInt ≤ t0_0.toInt + 1 from (by have t1 : 0 ≤ t0_0.toInt ∧ t0_0.toInt ≤ 1026 := btt0_0; have t2 : x2.toInt < t0_0.toInt := b7; have t3 : x2.toInt ≤ a13.toInt ∧ 0 ≤ a13.toInt ∧ (a13.toInt = x2.toInt ∨ a13.toInt = 0) := b15; omega)), (show t0_1.toInt ≤ t0_1.toInt + 200000 from (by omega)), (show t0_1.toInt ≤ t0_1.toInt + 200000 from (by omega)), (show t0_1.toInt ≤ a13.toInt + 300000 from (by have t1 : t0_1.toInt ≤ 200000 := pre3; have t2 : x2.toInt ≤ a13.toInt ∧ 0 ≤ a13.toInt ∧ (a13.toInt = x2.toInt ∨ a13.toInt = 0) := b15; omega))⟩) d_5_6_46
      ·
        have b22 : q_F (a13.toInt = 0) := (q_eqI c20)
        refine lv_aload_n hx hb d_5_6_41 rfl (lv_at hl 1 rfl) ?_
        refine lv_iconst (v := 0) hx hb d_5_6_42 (by decide) ?_
        refine q_put (ci := 7) (j := 1) (v := .int 0) (ty := .int) C0 V i_Dig o_Dig n_Dig rfl rfl hT0 (by decide) w_266 rfl rfl rfl rfl (Nat.le_of_ble_eq_true rfl) d_5_6_43 (fun H locs w23 hu24 hT0 V => ?_)
        replace hT0 : w23[36]? = (some (q 36, .inr (7, [.int a13, .int 0, .ref (q 37)])) : Option (Nat × va_E)) := hT0
        replace hI := n_p36 hI hu24 hT0 ⟨(by have t1 : x2.toInt ≤ a13.toInt ∧ 0 ≤ a13.toInt ∧ (a13.toInt = x2.toInt ∨ a13.toInt = 0) := b15; omega), (by have t1 : a13.toInt = 0 := b22; omega)⟩ ⟨(by have z9 : (0 : Int32).toInt = 0 := rfl; omega), (by have z9 : (0 : Int32).toInt = 0 := rfl; omega)⟩
        replace hF := q_us hF hu24 (by simp)
        exact q_retv C0 V (⟨hI, hF, a13, 0, hT0, (show 0 ≤ a13.toInt from (by have z5 : (0 : Int32).toInt = 0 := rfl; have t1 : x2.toInt ≤ a13.toInt ∧ 0 ≤ a13.toInt ∧ (a13.toInt = x2.toInt ∨ a13.toInt = 0) := b15; omega)), (show a13.toInt ≤ 1026 from (by have z5 : (0 : Int32).toInt = 0 := rfl; have t1 : a13.toInt = 0 := b22; omega)), (show 0 ≤ (0 : Int32).toInt + 200000 from (by have z5 : (0 : Int32).toInt = 0 := rfl; omega)), (show (0 : Int32).toInt ≤ 300001 from (by have z5 : (0 : Int32).toInt = 0 := rfl; omega)), (show a13.toInt ≤ x2.toInt + 100001 from (by have z5 : (0 : Int32).toInt = 0 := rfl; have t1 : 0 ≤ x2.toInt + 100000 := pre0; have t2 : x2.toInt ≤ a13.toInt ∧ 0 ≤ a13.toInt ∧ (a13.toInt = x2.toInt ∨ a13.toInt = 0) := b15; omega)), (show a13.toInt ≤ t0_0.toInt + 1 from (by have z5 : (0 : Int32).toInt = 0 := rfl; have t1 : 0 ≤ t0_0.toInt ∧ t0_0.toInt ≤ 1026 := btt0_0; have t2 : x2.toInt < t0_0.toInt := b7; have t3 : x2.toInt ≤ a13.toInt ∧ 0 ≤ a13.toInt ∧ (a13.toInt = x2.toInt ∨ a13.toInt = 0) := b15; omega)), (show t0_1.toInt ≤ (0 : Int32).toInt + 200000 from (by have z5 : (0 : Int32).toInt = 0 := rfl; have t1 : t0_1.toInt ≤ 200000 := pre3; omega)), (show (0 : Int32).toInt ≤ t0_1.toInt + 200000 from (by have z5 : (0 : Int32).toInt = 0 := rfl; have t1 : 0 ≤ t0_1.toInt + 200000 := pre2; omega)), (show (0 : Int32).toInt ≤ a13.toInt + 300000 from (by have z5 : (0 : Int32).toInt = 0 := rfl; have t1 : x2.toInt ≤ a13.toInt ∧ 0 ≤ a13.toInt ∧ (a13.toInt = x2.toInt ∨ a13.toInt = 0) := b15; omega))⟩) d_5_6_46
    ·
      have b25 : q_F (a10.toInt ≠ 0) := (q_neI c18)
      refine lv_aload_n hx hb d_5_6_29 rfl (lv_at hl 1 rfl) ?_
      refine lv_iload_n hx hb d_5_6_30 rfl (lv_at hl 2 rfl) ?_
      refine q_gov V (q_runV (As := [.int x2]) (rest := []) (d := 1) (mc := 0) (ms := 0) (ci := 7) C0 V rfl LV_Dig_46 (T_Dig_stepOutwards l D g q w16  x2 hI a13 t0_1 hT0 (by have t1 : 0 ≤ x2.toInt + 100000 := pre0; omega) (by have t1 : x2.toInt ≤ 100000 := pre1; omega) (by have t1 : 0 ≤ t0_1.toInt + 200000 := pre2; omega) (by have t1 : t0_1.toInt ≤ 200000 := pre3; omega) _) rfl rfl hT0 rfl hl.1 rfl (Nat.le_of_ble_eq_true rfl) ⟨by decide, by decide⟩ ⟨Nat.le_of_ble_eq_true rfl, Nat.le_of_ble_eq_true rfl⟩ d_5_6_31) (fun u26 H locs hp27 V => ?_)
      obtain ⟨hI, hu36, y29, y30, hO28, b31, b32, b33, b34, b35⟩ := hp27
      replace hO28 : u26[36]? = (some (q 36, .inr (7, [.int y29, .int y30, .ref (q 37)])) : Option (Nat × va_E)) := hO28
      replace b31 : q_F (1 ≤ y29.toInt) := b31
      replace b32 : q_F (y29.toInt ≤ 1026) := b32
      replace b33 : q_F (y29.toInt ≤ a13.toInt + 1) := b33
      replace b34 : q_F (t0_1.toInt ≤ y30.toInt) := b34
      replace b35 : q_F (y30.toInt ≤ t0_1.toInt + 100001) := b35
      replace hF := q_uc hF hu36 (by simp)
      refine lv_aload_n hx hb d_5_6_34 rfl (lv_at hl 1 rfl) ?_
      refine q_get (ci := 7) (j := 0) (v := .int y29) C0 V i_Dig rfl rfl hO28 (by decide) w_264 rfl d_5_6_35 ?_
      refine lv_if_ne (tgt := 46) hx hb d_5_6_38 (by decide) (fun c37 => ?_) (fun c37 => absurd (show y29.toInt = 0 from q_eqI c37) (by have t1 : 1 ≤ y29.toInt := b31; omega))
      exact q_retv C0 V (⟨hI, hF, y29, y30, hO28, (show 0 ≤ y29.toInt from (by have t1 : 1 ≤ y29.toInt := b31; omega)), (show y29.toInt ≤ 1026 from (by have t1 : y29.toInt ≤ 1026 := b32; omega)), (show 0 ≤ y30.toInt + 200000 from (by have t1 : 0 ≤ t0_1.toInt + 200000 := pre2; have t2 : t0_1.toInt ≤ y30.toInt := b34; omega)), (show y30.toInt ≤ 300001 from (by have t1 : t0_1.toInt ≤ 200000 := pre3; have t2 : y30.toInt ≤ t0_1.toInt + 100001 := b35; omega)), (show y29.toInt ≤ x2.toInt + 100001 from (by have t1 : 0 ≤ x2.toInt + 100000 := pre0; have t2 : x2.toInt ≤ a13.toInt ∧ 0 ≤ a13.toInt ∧ (a13.toInt = x2.toInt ∨ a13.toInt = 0) := b15; have t3 : y29.toInt ≤ a13.toInt + 1 := b33; omega)), (show y29.toInt ≤ t0_0.toInt + 1 from (by have t1 : 0 ≤ t0_0.toInt ∧ t0_0.toInt ≤ 1026 := btt0_0; have t2 : x2.toInt < t0_0.toInt := b7; have t3 : x2.toInt ≤ a13.toInt ∧ 0 ≤ a13.toInt ∧ (a13.toInt = x2.toInt ∨ a13.toInt = 0) := b15; have t4 : y29.toInt ≤ a13.toInt + 1 := b33; omega)), (show t0_1.toInt ≤ y30.toInt + 200000 from (by have t1 : t0_1.toInt ≤ y30.toInt := b34; omega)), (show y30.toInt ≤ t0_1.toInt + 200000 from (by have t1 : y30.toInt ≤ t0_1.toInt + 100001 := b35; omega)), (show y30.toInt ≤ y29.toInt + 300000 from (by have t1 : t0_1.toInt ≤ 200000 := pre3; have t2 : 1 ≤ y29.toInt := b31; have t3 : y30.toInt ≤ t0_1.toInt + 100001 := b35; omega))⟩) d_5_6_46
  ·
    have b38 : q_F (t0_0.toInt ≤ x2.toInt) := (q_nltI c6)
    exact q_retv C0 V (⟨hI, hF, t0_0, t0_1, hT0, (show 0 ≤ t0_0.toInt from (by have t1 : 0 ≤ t0_0.toInt ∧ t0_0.toInt ≤ 1026 := btt0_0; omega)), (show t0_0.toInt ≤ 1026 from (by have t1 : 0 ≤ t0_0.toInt ∧ t0_0.toInt ≤ 1026 := btt0_0; omega)), (show 0 ≤ t0_1.toInt + 200000 from (by have t1 : 0 ≤ t0_1.toInt + 200000 := pre2; omega)), (show t0_1.toInt ≤ 300001 from (by have t1 : t0_1.toInt ≤ 200000 := pre3; omega)), (show t0_0.toInt ≤ x2.toInt + 100001 from (by have t1 : t0_0.toInt ≤ x2.toInt := b38; omega)), (show t0_0.toInt ≤ t0_0.toInt + 1 from (by omega)), (show t0_1.toInt ≤ t0_1.toInt + 200000 from (by omega)), (show t0_1.toInt ≤ t0_1.toInt + 200000 from (by omega)), (show t0_1.toInt ≤ t0_0.toInt + 300000 from (by have t1 : 0 ≤ t0_0.toInt ∧ t0_0.toInt ≤ 1026 := btt0_0; have t2 : t0_1.toInt ≤ 200000 := pre3; omega))⟩) d_5_6_8
theorem d_5_9_0 : decode prog_5_method_9_code 0 = .ok (.aload_n 0, 1) := by decide +kernel
theorem d_5_9_1 : decode prog_5_method_9_code 1 = .ok (.getfield 33, 3) := by decide +kernel
theorem d_5_9_4 : decode prog_5_method_9_code 4 = .ok (.iconst 0, 1) := by decide +kernel
theorem d_5_9_5 : decode prog_5_method_9_code 5 = .ok (.invokestatic 40, 3) := by decide +kernel
theorem d_5_9_8 : decode prog_5_method_9_code 8 = .ok (.istore 5, 2) := by decide +kernel
theorem d_5_9_10 : decode prog_5_method_9_code 10 = .ok (.iload 5, 2) := by decide +kernel
theorem d_5_9_12 : decode prog_5_method_9_code 12 = .ok (.ifCond .lt 49, 3) := by decide +kernel
theorem d_5_9_61 : decode prog_5_method_9_code 61 = .ok (.iload_n 2, 1) := by decide +kernel
theorem d_5_9_76 : decode prog_5_method_9_code 76 = .ok (.iconst 1, 1) := by decide +kernel
theorem d_5_9_77 : decode prog_5_method_9_code 77 = .ok (.istore 5, 2) := by decide +kernel
theorem d_5_9_79 : decode prog_5_method_9_code 79 = .ok (.iload 5, 2) := by decide +kernel
theorem d_5_9_81 : decode prog_5_method_9_code 81 = .ok (.iload_n 2, 1) := by decide +kernel
theorem d_5_9_82 : decode prog_5_method_9_code 82 = .ok (.if_icmp .gt 27, 3) := by decide +kernel
theorem d_5_9_109 : decode prog_5_method_9_code 109 = .ok (.return_, 1) := by decide +kernel
theorem d_5_9_85 : decode prog_5_method_9_code 85 = .ok (.aload_n 1, 1) := by decide +kernel
theorem d_5_9_86 : decode prog_5_method_9_code 86 = .ok (.bipush 48, 2) := by decide +kernel
theorem d_5_9_88 : decode prog_5_method_9_code 88 = .ok (.aload_n 0, 1) := by decide +kernel
theorem d_5_9_89 : decode prog_5_method_9_code 89 = .ok (.aload_n 0, 1) := by decide +kernel
theorem d_5_9_90 : decode prog_5_method_9_code 90 = .ok (.getfield 33, 3) := by decide +kernel
theorem d_5_9_93 : decode prog_5_method_9_code 93 = .ok (.iload 5, 2) := by decide +kernel
theorem d_5_9_95 : decode prog_5_method_9_code 95 = .ok (.iadd, 1) := by decide +kernel
theorem d_5_9_96 : decode prog_5_method_9_code 96 = .ok (.invokevirtual 49, 3) := by decide +kernel
theorem d_5_9_99 : decode prog_5_method_9_code 99 = .ok (.iadd, 1) := by decide +kernel
theorem d_5_9_100 : decode prog_5_method_9_code 100 = .ok (.invokevirtual 52, 3) := by decide +kernel
set_option maxRecDepth 100000 in
theorem w_1573 : (Cond.methodLink "NumberHouse$Digits" (52 : Nat) ({ cls := "NumberHouse$Sheet", name := "add", desc := "(I)V" } : MethodName)) ∈ q_tbl := q_of7 133 rfl (by decide +kernel)
theorem LV_Dig_52 : q_LV "NumberHouse$Digits" 52 y_She_add prog_11_method_3_code 3 none 1 := ⟨w_564, w_2, w_1573, w_562, w_563, ⟨by decide, by decide, by decide +kernel⟩⟩
theorem d_5_9_103 : decode prog_5_method_9_code 103 = .ok (.iinc 5 1, 3) := by decide +kernel
theorem d_5_9_106 : decode prog_5_method_9_code 106 = .ok (.goto (-27), 3) := by decide +kernel
theorem d_5_9_70 : decode prog_5_method_9_code 70 = .ok (.aload_n 1, 1) := by decide +kernel
theorem d_5_9_71 : decode prog_5_method_9_code 71 = .ok (.bipush 46, 2) := by decide +kernel
theorem d_5_9_73 : decode prog_5_method_9_code 73 = .ok (.invokevirtual 52, 3) := by decide +kernel
theorem d_5_9_62 : decode prog_5_method_9_code 62 = .ok (.ifCond .gt 8, 3) := by decide +kernel
theorem d_5_9_65 : decode prog_5_method_9_code 65 = .ok (.iload 4, 2) := by decide +kernel
theorem d_5_9_67 : decode prog_5_method_9_code 67 = .ok (.ifCond .eq 9, 3) := by decide +kernel
theorem d_5_9_15 : decode prog_5_method_9_code 15 = .ok (.aload_n 1, 1) := by decide +kernel
theorem d_5_9_16 : decode prog_5_method_9_code 16 = .ok (.bipush 48, 2) := by decide +kernel
theorem d_5_9_18 : decode prog_5_method_9_code 18 = .ok (.aload_n 0, 1) := by decide +kernel
theorem d_5_9_19 : decode prog_5_method_9_code 19 = .ok (.aload_n 0, 1) := by decide +kernel
theorem d_5_9_20 : decode prog_5_method_9_code 20 = .ok (.getfield 33, 3) := by decide +kernel
theorem d_5_9_23 : decode prog_5_method_9_code 23 = .ok (.iload 5, 2) := by decide +kernel
theorem d_5_9_25 : decode prog_5_method_9_code 25 = .ok (.isub, 1) := by decide +kernel
theorem d_5_9_26 : decode prog_5_method_9_code 26 = .ok (.invokevirtual 49, 3) := by decide +kernel
theorem d_5_9_29 : decode prog_5_method_9_code 29 = .ok (.iadd, 1) := by decide +kernel
theorem d_5_9_30 : decode prog_5_method_9_code 30 = .ok (.invokevirtual 52, 3) := by decide +kernel
theorem d_5_9_33 : decode prog_5_method_9_code 33 = .ok (.iload_n 3, 1) := by decide +kernel
theorem d_5_9_34 : decode prog_5_method_9_code 34 = .ok (.ifCond .eq 21, 3) := by decide +kernel
theorem d_5_9_55 : decode prog_5_method_9_code 55 = .ok (.iinc 5 (-1), 3) := by decide +kernel
theorem d_5_9_58 : decode prog_5_method_9_code 58 = .ok (.goto (-48), 3) := by decide +kernel
theorem d_5_9_37 : decode prog_5_method_9_code 37 = .ok (.iload 5, 2) := by decide +kernel
theorem d_5_9_39 : decode prog_5_method_9_code 39 = .ok (.ifCond .le 16, 3) := by decide +kernel
theorem d_5_9_42 : decode prog_5_method_9_code 42 = .ok (.iload 5, 2) := by decide +kernel
theorem d_5_9_44 : decode prog_5_method_9_code 44 = .ok (.iconst 3, 1) := by decide +kernel
theorem d_5_9_45 : decode prog_5_method_9_code 45 = .ok (.irem, 1) := by decide +kernel
theorem d_5_9_46 : decode prog_5_method_9_code 46 = .ok (.ifCond .ne 9, 3) := by decide +kernel
theorem d_5_9_49 : decode prog_5_method_9_code 49 = .ok (.aload_n 1, 1) := by decide +kernel
theorem d_5_9_50 : decode prog_5_method_9_code 50 = .ok (.bipush 44, 2) := by decide +kernel
theorem d_5_9_52 : decode prog_5_method_9_code 52 = .ok (.invokevirtual 52, 3) := by decide +kernel
def y_Dig_writePlain : MethodName := ⟨"NumberHouse$Digits", "writePlain", "(LNumberHouse$Sheet;IZZ)V"⟩
set_option maxRecDepth 100000 in
set_option maxHeartbeats 4000000 in
theorem T_Dig_writePlain (l : Launch) (D : va_G) (g : Nat → ClassId) (q : Nat → Nat) (ws : va_W) (k2 : Nat) (R N K : Int32) (hB2 : q_isShe (nsh g q) g q k2 R N K) (x3 : Int32) (x4 : Int32) (x5 : Int32) (hI : q_I (nsh g q) q ws) (t0_0 : Int32) (t0_1 : Int32) (hT0 : ws[36]? = (some (q 36, .inr (7, [.int t0_0, .int t0_1, .ref (q 37)])) : Option (Nat × va_E))) (t1_0 : Int32) (hT1 : ws[k2]? = (some (q k2, .inr (1, [.ref (q (k2 + 1)), .int R, .int t1_0])) : Option (Nat × va_E))) (hzx4 : 0 ≤ x4.toInt ∧ x4.toInt ≤ 1) (hzx5 : 0 ≤ x5.toInt ∧ x5.toInt ≤ 1) (pre0 : t0_1.toInt ≤ 200000) (pre1 : x3.toInt ≤ 20000) (pre2 : t1_0.toInt ≤ 400000) (pre3 : 1000000 ≤ K.toInt) : q_mV l y_Dig_writePlain prog_5_method_9_code 6 2 0 0 D g [.ref (q 36), .ref (q k2), .int x3, .int x4, .int x5] ws (fun u => q_I (nsh g q) q u ∧ q_un ws u [k2, k2 + 1] ∧ ∃ (u1_0 : Int32), u[k2]? = (some (q k2, .inr (1, [.ref (q (k2 + 1)), .int R, .int u1_0])) : Option (Nat × va_E)) ∧ (x3.toInt + 1 ≤ u1_0.toInt) ∧ (x5.toInt + 1 ≤ u1_0.toInt) ∧ (t0_1.toInt + 1 ≤ u1_0.toInt) ∧ (u1_0.toInt ≤ t0_1.toInt + 1420003) ∧ (t1_0.toInt + 1 ≤ u1_0.toInt) ∧ (u1_0.toInt ≤ t1_0.toInt + 420003)) := by
  intro sz
  refine q_into (by decide) (Nat.le_of_ble_eq_true rfl) ?_
  intro p e s m below meth c ls hsz C0 V hl
  have hx := C0.1
  have hb := C0.2.1
  have hfk20 : q_F (0 ≤ R.toInt ∧ R.toInt ≤ 8 * N.toInt ∧ 0 ≤ N.toInt ∧ N.toInt ≤ 1376 ∧ 64 ≤ R.toInt ∧ 64 ≤ K.toInt ∧ K.toInt ≤ 1000000) := hB2.2.2.1
  replace hzx4 : q_F (0 ≤ x4.toInt ∧ x4.toInt ≤ 1) := hzx4
  replace hzx5 : q_F (0 ≤ x5.toInt ∧ x5.toInt ≤ 1) := hzx5
  obtain ⟨yy0_0, yy0_1, hh0, btt0_0, btt0_1⟩ := n_o36 hI
  obtain ⟨rfl, rfl⟩ : t0_0 = yy0_0 ∧ t0_1 = yy0_1 := by have z := Option.some.inj (hT0.symm.trans hh0); simpa using z
  replace btt0_0 : q_F (0 ≤ t0_0.toInt ∧ t0_0.toInt ≤ 1026) := btt0_0
  replace btt0_1 : q_F (-1000000 ≤ t0_1.toInt ∧ t0_1.toInt ≤ 1000000) := btt0_1
  obtain ⟨yy1_0, hh1, btt1_0⟩ := n_shO hI hB2
  obtain ⟨rfl⟩ : t1_0 = yy1_0 := by have z := Option.some.inj (hT1.symm.trans hh1); simpa using z
  replace btt1_0 : q_F (0 ≤ t1_0.toInt ∧ t1_0.toInt ≤ K.toInt) := btt1_0
  replace pre0 : q_F (t0_1.toInt ≤ 200000) := pre0
  replace pre1 : q_F (x3.toInt ≤ 20000) := pre1
  replace pre2 : q_F (t1_0.toInt ≤ 400000) := pre2
  replace pre3 : q_F (1000000 ≤ K.toInt) := pre3
  have hF : q_un ws ws [k2, k2 + 1] := q_u0
  have hl : lv_has ls 6 [(0, .ref (q 36)), (1, .ref (q k2)), (2, .int x3), (3, .int x4), (4, .int x5)] := hl
  refine lv_aload_n hx hb d_5_9_0 rfl (lv_at hl 0 rfl) ?_
  refine q_get (ci := 7) (j := 1) (v := .int t0_1) C0 V i_Dig rfl rfl hT0 (by decide) w_266 rfl d_5_9_1 ?_
  refine lv_iconst (v := 0) hx hb d_5_9_4 (by decide) ?_
  refine q_max C0 hl.1 rfl w_1571 w_803 w_7 w_804 ⟨Nat.le_of_ble_eq_true rfl, Nat.le_of_ble_eq_true rfl⟩ ⟨Nat.le_of_ble_eq_true rfl, Nat.le_of_ble_eq_true rfl⟩ d_5_9_5 ?_
  obtain ⟨a9, e10⟩ := q_nm (if t0_1 < 0 then 0 else t0_1 : Int32)
  refine q_ti (v := a9) e10 ?_
  have b11 : q_F (t0_1.toInt ≤ a9.toInt ∧ 0 ≤ a9.toInt ∧ (a9.toInt = t0_1.toInt ∨ a9.toInt = 0)) := (by rw [← e10]; show t0_1.toInt ≤ (if t0_1 < 0 then 0 else t0_1 : Int32).toInt ∧ 0 ≤ (if t0_1 < 0 then 0 else t0_1 : Int32).toInt ∧ ((if t0_1 < 0 then 0 else t0_1 : Int32).toInt = t0_1.toInt ∨ (if t0_1 < 0 then 0 else t0_1 : Int32).toInt = 0); exact (by have y1 : (0 : Int32).toInt = 0 := rfl; have z := s_max (a := t0_1) (b := 0); omega))
  refine lv_istore (lv' := [(5, .int a9), (0, .ref (q 36)), (1, .ref (q k2)), (2, .int x3), (3, .int x4), (4, .int x5)]) hx hb d_5_9_8 hl (by decide) rfl (fun ls hl => ?_)
  refine q_loop (X := Int32 × Int32) (fun z H locs ls w21 => q_F (0 ≤ z.1.toInt + 1) ∧ q_F (a9.toInt + t1_0.toInt ≤ z.1.toInt + z.2.toInt) ∧ q_F (z.2.toInt + 2 * z.1.toInt ≤ t1_0.toInt + 2 * a9.toInt) ∧ q_Wd D g (va_A ws sz) s w21 H locs ∧ lv_has ls 6 [(5, .int z.1), (0, .ref (q 36)), (1, .ref (q k2)), (2, .int x3), (3, .int x4), (4, .int x5)] ∧ q_I (nsh g q) q w21 ∧ q_un ws w21 [k2, k2 + 1] ∧ w21[36]? = (some (q 36, .inr (7, [.int t0_0, .int t0_1, .ref (q 37)])) : Option (Nat × va_E)) ∧ w21[k2]? = (some (q k2, .inr (1, [.ref (q (k2 + 1)), .int R, .int z.2])) : Option (Nat × va_E))) (fun z => (z.1.toInt - ((-1000000))).toNat) ?_ ((a9 : Int32), (t1_0 : Int32)) _ _ _ ws ⟨(show q_F (0 ≤ a9.toInt + 1) from (show 0 ≤ a9.toInt + 1 from by have t1 : t0_1.toInt ≤ a9.toInt ∧ 0 ≤ a9.toInt ∧ (a9.toInt = t0_1.toInt ∨ a9.toInt = 0) := b11; omega)), (show q_F (a9.toInt + t1_0.toInt ≤ a9.toInt + t1_0.toInt) from (show a9.toInt + t1_0.toInt ≤ a9.toInt + t1_0.toInt from by omega)), (show q_F (t1_0.toInt + 2 * a9.toInt ≤ t1_0.toInt + 2 * a9.toInt) from (show t1_0.toInt + 2 * a9.toInt ≤ t1_0.toInt + 2 * a9.toInt from by omega)), V, q_lw hl (q_lw1 0 rfl (q_lw1 1 rfl (q_lw1 2 rfl (q_lw1 3 rfl (q_lw1 4 rfl (q_lw1 5 rfl q_lw0)))))), hI, hF, hT0, hT1⟩
  rintro ⟨lx15, lx16⟩ H locs ls w21 ⟨i17, i18, i19, V, hl, hI, hF, hO22, hO23⟩ ih20
  replace i17 : q_F (0 ≤ lx15.toInt + 1) := i17
  replace i18 : q_F (a9.toInt + t1_0.toInt ≤ lx15.toInt + lx16.toInt) := i18
  replace i19 : q_F (lx16.toInt + 2 * lx15.toInt ≤ t1_0.toInt + 2 * a9.toInt) := i19
  replace hl : lv_has ls 6 [(5, .int lx15), (0, .ref (q 36)), (1, .ref (q k2)), (2, .int x3), (3, .int x4), (4, .int x5)] := hl
  replace hO22 : w21[36]? = (some (q 36, .inr (7, [.int t0_0, .int t0_1, .ref (q 37)])) : Option (Nat × va_E)) := hO22
  replace hO23 : w21[k2]? = (some (q k2, .inr (1, [.ref (q (k2 + 1)), .int R, .int lx16])) : Option (Nat × va_E)) := hO23
  refine lv_iload hx hb d_5_9_10 (lv_at hl 0 rfl) ?_
  refine lv_if_lt (tgt := 61) hx hb d_5_9_12 (by decide) (fun c24 => ?_) (fun c24 => ?_)
  ·
    have b25 : q_F (lx15.toInt < 0) := (q_ltI c24)
    refine lv_iload_n hx hb d_5_9_61 rfl (lv_at hl 3 rfl) ?_
    refine q_join (X := Int32) (fun z H locs ls w34 => q_F (x3.toInt ≤ z.toInt + 19998) ∧ q_F (x5.toInt + 1 ≤ z.toInt) ∧ q_F (lx16.toInt ≤ z.toInt) ∧ q_F (z.toInt ≤ lx16.toInt + 1) ∧ q_Wd D g (va_A ws sz) s w34 H locs ∧ lv_has ls 6 [(0, .ref (q 36)), (1, .ref (q k2)), (2, .int x3)] ∧ q_I (nsh g q) q w34 ∧ q_un ws w34 [k2, k2 + 1] ∧ w34[36]? = (some (q 36, .inr (7, [.int t0_0, .int t0_1, .ref (q 37)])) : Option (Nat × va_E)) ∧ w34[k2]? = (some (q k2, .inr (1, [.ref (q (k2 + 1)), .int R, .int z])) : Option (Nat × va_E))) (fun z => []) 76 0 0 ?_ ?_
    ·
      rintro lx26 H locs ls w34 ⟨i30, i31, i32, i33, V, hl, hI, hF, hO27, hO28⟩
      replace i30 : q_F (x3.toInt ≤ lx26.toInt + 19998) := i30
      replace i31 : q_F (x5.toInt + 1 ≤ lx26.toInt) := i31
      replace i32 : q_F (lx16.toInt ≤ lx26.toInt) := i32
      replace i33 : q_F (lx26.toInt ≤ lx16.toInt + 1) := i33
      replace hl : lv_has ls 6 [(0, .ref (q 36)), (1, .ref (q k2)), (2, .int x3)] := hl
      replace hO27 : w34[36]? = (some (q 36, .inr (7, [.int t0_0, .int t0_1, .ref (q 37)])) : Option (Nat × va_E)) := hO27
      replace hO28 : w34[k2]? = (some (q k2, .inr (1, [.ref (q (k2 + 1)), .int R, .int lx26])) : Option (Nat × va_E)) := hO28
      refine lv_iconst (v := 1) hx hb d_5_9_76 (by decide) ?_
      refine lv_istore (lv' := [(5, .int 1), (0, .ref (q 36)), (1, .ref (q k2)), (2, .int x3)]) hx hb d_5_9_77 hl (by decide) rfl (fun ls hl => ?_)
      refine q_loop (X := Int32 × Int32) (fun z H locs ls w43 => q_F (z.1.toInt ≤ 20001) ∧ q_F (lx26.toInt + 1 ≤ z.1.toInt + z.2.toInt) ∧ q_F (z.2.toInt + 1 ≤ z.1.toInt + lx26.toInt) ∧ q_F (z.1.toInt + lx26.toInt ≤ z.2.toInt + 1) ∧ q_Wd D g (va_A ws sz) s w43 H locs ∧ lv_has ls 6 [(5, .int z.1), (0, .ref (q 36)), (1, .ref (q k2)), (2, .int x3)] ∧ q_I (nsh g q) q w43 ∧ q_un ws w43 [k2, k2 + 1] ∧ w43[36]? = (some (q 36, .inr (7, [.int t0_0, .int t0_1, .ref (q 37)])) : Option (Nat × va_E)) ∧ w43[k2]? = (some (q k2, .inr (1, [.ref (q (k2 + 1)), .int R, .int z.2])) : Option (Nat × va_E))) (fun z => (200000 - z.1.toInt).toNat) ?_ ((1 : Int32), (lx26 : Int32)) _ _ _ w34 ⟨(show q_F (1 ≤ 20001) from (show 1 ≤ 20001 from by omega)), (show q_F (lx26.toInt + 1 ≤ 1 + lx26.toInt) from (show lx26.toInt + 1 ≤ 1 + lx26.toInt from by omega)), (show q_F (lx26.toInt + 1 ≤ 1 + lx26.toInt) from (show lx26.toInt + 1 ≤ 1 + lx26.toInt from by omega)), (show q_F (1 + lx26.toInt ≤ lx26.toInt + 1) from (show 1 + lx26.toInt ≤ lx26.toInt + 1 from by omega)), V, q_lw hl (q_lw1 0 rfl (q_lw1 1 rfl (q_lw1 2 rfl (q_lw1 3 rfl q_lw0)))), hI, hF, hO27, hO28⟩
      rintro ⟨lx36, lx37⟩ H locs ls w43 ⟨i38, i39, i40, i41, V, hl, hI, hF, hO44, hO45⟩ ih42
      replace i38 : q_F (lx36.toInt ≤ 20001) := i38
      replace i39 : q_F (lx26.toInt + 1 ≤ lx36.toInt + lx37.toInt) := i39
      replace i40 : q_F (lx37.toInt + 1 ≤ lx36.toInt + lx26.toInt) := i40
      replace i41 : q_F (lx36.toInt + lx26.toInt ≤ lx37.toInt + 1) := i41
      replace hl : lv_has ls 6 [(5, .int lx36), (0, .ref (q 36)), (1, .ref (q k2)), (2, .int x3)] := hl
      replace hO44 : w43[36]? = (some (q 36, .inr (7, [.int t0_0, .int t0_1, .ref (q 37)])) : Option (Nat × va_E)) := hO44
      replace hO45 : w43[k2]? = (some (q k2, .inr (1, [.ref (q (k2 + 1)), .int R, .int lx37])) : Option (Nat × va_E)) := hO45
      refine lv_iload hx hb d_5_9_79 (lv_at hl 0 rfl) ?_
      refine lv_iload_n hx hb d_5_9_81 rfl (lv_at hl 3 rfl) ?_
      refine lv_icmp_gt (tgt := 109) hx hb d_5_9_82 (by decide) (fun c46 => ?_) (fun c46 => ?_)
      ·
        have b47 : q_F (x3.toInt < lx36.toInt) := (q_ltI c46)
        exact q_retv C0 V (⟨hI, hF, lx37, hO45, (show x3.toInt + 1 ≤ lx37.toInt from (by have t1 : 0 ≤ x5.toInt ∧ x5.toInt ≤ 1 := hzx5; have t2 : x5.toInt + 1 ≤ lx26.toInt := i31; have t3 : lx36.toInt + lx26.toInt ≤ lx37.toInt + 1 := i41; have t4 : x3.toInt < lx36.toInt := b47; omega)), (show x5.toInt + 1 ≤ lx37.toInt from (by have t1 : x5.toInt + 1 ≤ lx26.toInt := i31; have t2 : lx26.toInt + 1 ≤ lx36.toInt + lx37.toInt := i39; have t3 : lx36.toInt + lx26.toInt ≤ lx37.toInt + 1 := i41; omega)), (show t0_1.toInt + 1 ≤ lx37.toInt from (by have t1 : 0 ≤ t1_0.toInt ∧ t1_0.toInt ≤ K.toInt := btt1_0; have t2 : t0_1.toInt ≤ a9.toInt ∧ 0 ≤ a9.toInt ∧ (a9.toInt = t0_1.toInt ∨ a9.toInt = 0) := b11; have t3 : a9.toInt + t1_0.toInt ≤ lx15.toInt + lx16.toInt := i18; have t4 : lx15.toInt < 0 := b25; have t5 : lx16.toInt ≤ lx26.toInt := i32; have t6 : lx26.toInt + 1 ≤ lx36.toInt + lx37.toInt := i39; have t7 : lx36.toInt + lx26.toInt ≤ lx37.toInt + 1 := i41; omega)), (show lx37.toInt ≤ t0_1.toInt + 1420003 from (by have t1 : -1000000 ≤ t0_1.toInt ∧ t0_1.toInt ≤ 1000000 := btt0_1; have t2 : t1_0.toInt ≤ 400000 := pre2; have t3 : t0_1.toInt ≤ a9.toInt ∧ 0 ≤ a9.toInt ∧ (a9.toInt = t0_1.toInt ∨ a9.toInt = 0) := b11; have t4 : 0 ≤ lx15.toInt + 1 := i17; have t5 : lx16.toInt + 2 * lx15.toInt ≤ t1_0.toInt + 2 * a9.toInt := i19; have t6 : lx26.toInt ≤ lx16.toInt + 1 := i33; have t7 : lx36.toInt ≤ 20001 := i38; have t8 : lx37.toInt + 1 ≤ lx36.toInt + lx26.toInt := i40; omega)), (show t1_0.toInt + 1 ≤ lx37.toInt from (by have t1 : t0_1.toInt ≤ a9.toInt ∧ 0 ≤ a9.toInt ∧ (a9.toInt = t0_1.toInt ∨ a9.toInt = 0) := b11; have t2 : a9.toInt + t1_0.toInt ≤ lx15.toInt + lx16.toInt := i18; have t3 : lx15.toInt < 0 := b25; have t4 : lx16.toInt ≤ lx26.toInt := i32; have t5 : lx26.toInt + 1 ≤ lx36.toInt + lx37.toInt := i39; have t6 : lx36.toInt + lx26.toInt ≤ lx37.toInt + 1 := i41; omega)), (show lx37.toInt ≤ t1_0.toInt + 420003 from (by have t1 : t0_1.toInt ≤ 200000 := pre0; have t2 : t0_1.toInt ≤ a9.toInt ∧ 0 ≤ a9.toInt ∧ (a9.toInt = t0_1.toInt ∨ a9.toInt = 0) := b11; have t3 : 0 ≤ lx15.toInt + 1 := i17; have t4 : lx16.toInt + 2 * lx15.toInt ≤ t1_0.toInt + 2 * a9.toInt := i19; have t5 : lx26.toInt ≤ lx16.toInt + 1 := i33; have t6 : lx36.toInt ≤ 20001 := i38; have t7 : lx37.toInt + 1 ≤ lx36.toInt + lx26.toInt := i40; omega))⟩) d_5_9_109
      ·
        have b48 : q_F (lx36.toInt ≤ x3.toInt) := (q_nltI c46)
        refine lv_aload_n hx hb d_5_9_85 rfl (lv_at hl 2 rfl) ?_
        refine lv_bipush (v := 48) hx hb d_5_9_86 (by decide) ?_
        refine lv_aload_n hx hb d_5_9_88 rfl (lv_at hl 1 rfl) ?_
        refine lv_aload_n hx hb d_5_9_89 rfl (lv_at hl 1 rfl) ?_
        refine q_get (ci := 7) (j := 1) (v := .int t0_1) C0 V i_Dig rfl rfl hO44 (by decide) w_266 rfl d_5_9_90 ?_
        refine lv_iload hx hb d_5_9_93 (lv_at hl 0 rfl) ?_
        refine lv_iadd hx hb d_5_9_95 ?_
        obtain ⟨a49, e50⟩ := q_nm (t0_1 + lx36 : Int32)
        refine q_ti (v := a49) e50 ?_
        have b51 : q_F (a49.toInt = t0_1.toInt + lx36.toInt) := (by rw [← e50]; show (t0_1 + lx36 : Int32).toInt = t0_1.toInt + lx36.toInt; exact q_addI (x := t0_1.toInt) (y := lx36.toInt) rfl rfl (by have t1 : -1000000 ≤ t0_1.toInt ∧ t0_1.toInt ≤ 1000000 := btt0_1; have t2 : lx26.toInt + 1 ≤ lx36.toInt + lx37.toInt := i39; have t3 : lx37.toInt + 1 ≤ lx36.toInt + lx26.toInt := i40; have t4 : lx36.toInt ≤ 20001 := i38; omega) (by have t1 : -1000000 ≤ t0_1.toInt ∧ t0_1.toInt ≤ 1000000 := btt0_1; have t2 : lx26.toInt + 1 ≤ lx36.toInt + lx37.toInt := i39; have t3 : lx37.toInt + 1 ≤ lx36.toInt + lx26.toInt := i40; have t4 : lx36.toInt ≤ 20001 := i38; omega))
        refine q_goi V (q_runV (As := [.int a49]) (rest := [.int 48, .ref (q k2)]) (d := 1) (mc := 0) (ms := 0) (ci := 7) C0 V rfl LV_Dig_49 (T_Dig_figure l D g q w43  a49 hI   _) rfl rfl hO44 rfl hl.1 rfl (Nat.le_of_ble_eq_true rfl) ⟨by decide, by decide⟩ ⟨Nat.le_of_ble_eq_true rfl, Nat.le_of_ble_eq_true rfl⟩ d_5_9_96) (fun a54 u52 H locs hp53 V => ?_)
        obtain ⟨rfl, -⟩ := hp53
        refine lv_iadd hx hb d_5_9_99 ?_
        obtain ⟨a55, e56⟩ := q_nm (48 + a54 : Int32)
        refine q_ti (v := a55) e56 ?_
        refine q_gov V (q_runV (As := [.int a55]) (rest := []) (d := 1) (mc := 0) (ms := 0) (ci := 1) C0 V rfl LV_Dig_52 (T_She_add l D g q w43 k2 R N K hB2 a55 hI lx37 hO45 (by have t1 : t0_1.toInt ≤ 200000 := pre0; have t2 : t1_0.toInt ≤ 400000 := pre2; have t3 : 1000000 ≤ K.toInt := pre3; have t4 : t0_1.toInt ≤ a9.toInt ∧ 0 ≤ a9.toInt ∧ (a9.toInt = t0_1.toInt ∨ a9.toInt = 0) := b11; have t5 : 0 ≤ lx15.toInt + 1 := i17; have t6 : lx16.toInt + 2 * lx15.toInt ≤ t1_0.toInt + 2 * a9.toInt := i19; have t7 : lx26.toInt ≤ lx16.toInt + 1 := i33; have t8 : lx36.toInt ≤ 20001 := i38; have t9 : lx37.toInt + 1 ≤ lx36.toInt + lx26.toInt := i40; omega) _) rfl rfl hO45 rfl hl.1 rfl (Nat.le_of_ble_eq_true rfl) ⟨by decide, by decide⟩ ⟨Nat.le_of_ble_eq_true rfl, Nat.le_of_ble_eq_true rfl⟩ d_5_9_100) (fun u57 H locs hp58 V => ?_)
        obtain ⟨hI, hu63, y60, hO59, b61, b62⟩ := hp58
        replace hO59 : u57[k2]? = (some (q k2, .inr (1, [.ref (q (k2 + 1)), .int R, .int y60])) : Option (Nat × va_E)) := hO59
        replace b61 : q_F (lx37.toInt + 1 ≤ y60.toInt) := b61
        replace b62 : q_F (y60.toInt ≤ lx37.toInt + 1) := b62
        replace hO44 := (hu63 _ (by have z0 := hB2.2.2.2; simp only [List.mem_cons, List.not_mem_nil, or_false, not_or]; omega)).trans hO44
        replace hF := q_uc hF hu63 (by simp)
        obtain ⟨a64, e65⟩ := q_nm (lx36 + 1 : Int32)
        have b66 : q_F (a64.toInt = lx36.toInt + 1) := (by rw [← e65]; exact q_addI (y := 1) rfl (by decide) (by have t1 : lx26.toInt + 1 ≤ lx36.toInt + lx37.toInt := i39; have t2 : lx37.toInt + 1 ≤ lx36.toInt + lx26.toInt := i40; have t3 : lx36.toInt ≤ 20001 := i38; omega) (by have t1 : lx26.toInt + 1 ≤ lx36.toInt + lx37.toInt := i39; have t2 : lx37.toInt + 1 ≤ lx36.toInt + lx26.toInt := i40; have t3 : lx36.toInt ≤ 20001 := i38; omega))
        refine lv_iinc (v := a64) (lv' := [(5, .int a64), (0, .ref (q 36)), (1, .ref (q k2)), (2, .int x3)]) hx hb d_5_9_103 hl (k := 0) rfl (e65) (by decide) rfl (fun ls hl => ?_)
        refine lv_goto (tgt := 79) hx hb d_5_9_106 (by decide) ?_
        exact ih42 ((a64 : Int32), (y60 : Int32)) _ _ _ _ (show (200000 - a64.toInt).toNat < (200000 - lx36.toInt).toNat from by have t1 : a64.toInt = lx36.toInt + 1 := b66; have t2 : lx36.toInt ≤ 20001 := i38; omega) ⟨(show q_F (a64.toInt ≤ 20001) from (show a64.toInt ≤ 20001 from by have t1 : x3.toInt ≤ 20000 := pre1; have t2 : lx36.toInt ≤ x3.toInt := b48; have t3 : a64.toInt = lx36.toInt + 1 := b66; omega)), (show q_F (lx26.toInt + 1 ≤ a64.toInt + y60.toInt) from (show lx26.toInt + 1 ≤ a64.toInt + y60.toInt from by have t1 : lx26.toInt + 1 ≤ lx36.toInt + lx37.toInt := i39; have t2 : lx37.toInt + 1 ≤ y60.toInt := b61; have t3 : a64.toInt = lx36.toInt + 1 := b66; omega)), (show q_F (y60.toInt + 1 ≤ a64.toInt + lx26.toInt) from (show y60.toInt + 1 ≤ a64.toInt + lx26.toInt from by have t1 : lx37.toInt + 1 ≤ lx36.toInt + lx26.toInt := i40; have t2 : y60.toInt ≤ lx37.toInt + 1 := b62; have t3 : a64.toInt = lx36.toInt + 1 := b66; omega)), (show q_F (a64.toInt + lx26.toInt ≤ y60.toInt + 1) from (show a64.toInt + lx26.toInt ≤ y60.toInt + 1 from by have t1 : lx36.toInt + lx26.toInt ≤ lx37.toInt + 1 := i41; have t2 : lx37.toInt + 1 ≤ y60.toInt := b61; have t3 : a64.toInt = lx36.toInt + 1 := b66; omega)), V, q_lw hl (q_lw1 0 rfl (q_lw1 1 rfl (q_lw1 2 rfl (q_lw1 3 rfl q_lw0)))), hI, hF, hO44, hO59⟩
    ·
      intro J29
      refine q_join (X := Unit) (fun z H locs ls _ => q_Wd D g (va_A ws sz) s w21 H locs ∧ lv_has ls 6 [(0, .ref (q 36)), (1, .ref (q k2)), (2, .int x3)]) (fun z => []) 70 0 0 ?_ ?_
      ·
        rintro _ H locs ls _ ⟨V, hl⟩
        replace hl : lv_has ls 6 [(0, .ref (q 36)), (1, .ref (q k2)), (2, .int x3)] := hl
        refine lv_aload_n hx hb d_5_9_70 rfl (lv_at hl 1 rfl) ?_
        refine lv_bipush (v := 46) hx hb d_5_9_71 (by decide) ?_
        refine q_gov V (q_runV (As := [.int 46]) (rest := []) (d := 1) (mc := 0) (ms := 0) (ci := 1) C0 V rfl LV_Dig_52 (T_She_add l D g q w21 k2 R N K hB2 46 hI lx16 hO23 (by have y0 : (46 : Int32).toInt = 46 := rfl; have t1 : t0_1.toInt ≤ 200000 := pre0; have t2 : t1_0.toInt ≤ 400000 := pre2; have t3 : 1000000 ≤ K.toInt := pre3; have t4 : t0_1.toInt ≤ a9.toInt ∧ 0 ≤ a9.toInt ∧ (a9.toInt = t0_1.toInt ∨ a9.toInt = 0) := b11; have t5 : 0 ≤ lx15.toInt + 1 := i17; have t6 : lx16.toInt + 2 * lx15.toInt ≤ t1_0.toInt + 2 * a9.toInt := i19; omega) _) rfl rfl hO23 rfl hl.1 rfl (Nat.le_of_ble_eq_true rfl) ⟨by decide, by decide⟩ ⟨Nat.le_of_ble_eq_true rfl, Nat.le_of_ble_eq_true rfl⟩ d_5_9_73) (fun u70 H locs hp71 V => ?_)
        obtain ⟨hI, hu76, y73, hO72, b74, b75⟩ := hp71
        replace hO72 : u70[k2]? = (some (q k2, .inr (1, [.ref (q (k2 + 1)), .int R, .int y73])) : Option (Nat × va_E)) := hO72
        replace b74 : q_F (lx16.toInt + 1 ≤ y73.toInt) := b74
        replace b75 : q_F (y73.toInt ≤ lx16.toInt + 1) := b75
        replace hO22 := (hu76 _ (by have z0 := hB2.2.2.2; simp only [List.mem_cons, List.not_mem_nil, or_false, not_or]; omega)).trans hO22
        replace hF := q_uc hF hu76 (by simp)
        exact J29 ((y73 : Int32)) _ _ _ _ ⟨(show q_F (x3.toInt ≤ y73.toInt + 19998) from (show x3.toInt ≤ y73.toInt + 19998 from by have t1 : 0 ≤ t1_0.toInt ∧ t1_0.toInt ≤ K.toInt := btt1_0; have t2 : x3.toInt ≤ 20000 := pre1; have t3 : t0_1.toInt ≤ a9.toInt ∧ 0 ≤ a9.toInt ∧ (a9.toInt = t0_1.toInt ∨ a9.toInt = 0) := b11; have t4 : a9.toInt + t1_0.toInt ≤ lx15.toInt + lx16.toInt := i18; have t5 : lx15.toInt < 0 := b25; have t6 : lx16.toInt + 1 ≤ y73.toInt := b74; omega)), (show q_F (x5.toInt + 1 ≤ y73.toInt) from (show x5.toInt + 1 ≤ y73.toInt from by have t1 : 0 ≤ x5.toInt ∧ x5.toInt ≤ 1 := hzx5; have t2 : 0 ≤ t1_0.toInt ∧ t1_0.toInt ≤ K.toInt := btt1_0; have t3 : t0_1.toInt ≤ a9.toInt ∧ 0 ≤ a9.toInt ∧ (a9.toInt = t0_1.toInt ∨ a9.toInt = 0) := b11; have t4 : a9.toInt + t1_0.toInt ≤ lx15.toInt + lx16.toInt := i18; have t5 : lx15.toInt < 0 := b25; have t6 : lx16.toInt + 1 ≤ y73.toInt := b74; omega)), (show q_F (lx16.toInt ≤ y73.toInt) from (show lx16.toInt ≤ y73.toInt from by have t1 : lx16.toInt + 1 ≤ y73.toInt := b74; omega)), (show q_F (y73.toInt ≤ lx16.toInt + 1) from (show y73.toInt ≤ lx16.toInt + 1 from by have t1 : y73.toInt ≤ lx16.toInt + 1 := b75; omega)), V, q_lw hl (q_lw1 0 rfl (q_lw1 1 rfl (q_lw1 2 rfl q_lw0))), hI, hF, hO22, hO72⟩
      ·
        intro J69
        refine lv_if_gt (tgt := 70) hx hb d_5_9_62 (by decide) (fun c77 => ?_) (fun c77 => ?_)
        ·
          have b78 : q_F (0 < x3.toInt) := (q_ltI c77)
          exact J69 (()) _ _ _ w21 ⟨V, q_lw hl (q_lw1 1 rfl (q_lw1 2 rfl (q_lw1 3 rfl q_lw0)))⟩
        ·
          have b79 : q_F (x3.toInt ≤ 0) := (q_nltI c77)
          refine lv_iload hx hb d_5_9_65 (lv_at hl 5 rfl) ?_
          refine lv_if_eq (tgt := 76) hx hb d_5_9_67 (by decide) (fun c80 => ?_) (fun c80 => ?_)
          ·
            have b81 : q_F (x5.toInt = 0) := (q_eqI c80)
            exact J29 ((lx16 : Int32)) _ _ _ _ ⟨(show q_F (x3.toInt ≤ lx16.toInt + 19998) from (show x3.toInt ≤ lx16.toInt + 19998 from by have t1 : 0 ≤ t1_0.toInt ∧ t1_0.toInt ≤ K.toInt := btt1_0; have t2 : a9.toInt + t1_0.toInt ≤ lx15.toInt + lx16.toInt := i18; have t3 : lx16.toInt + 2 * lx15.toInt ≤ t1_0.toInt + 2 * a9.toInt := i19; have t4 : x3.toInt ≤ 0 := b79; omega)), (show q_F (x5.toInt + 1 ≤ lx16.toInt) from (show x5.toInt + 1 ≤ lx16.toInt from by have t1 : 0 ≤ t1_0.toInt ∧ t1_0.toInt ≤ K.toInt := btt1_0; have t2 : t0_1.toInt ≤ a9.toInt ∧ 0 ≤ a9.toInt ∧ (a9.toInt = t0_1.toInt ∨ a9.toInt = 0) := b11; have t3 : a9.toInt + t1_0.toInt ≤ lx15.toInt + lx16.toInt := i18; have t4 : lx15.toInt < 0 := b25; have t5 : x5.toInt = 0 := b81; omega)), (show q_F (lx16.toInt ≤ lx16.toInt) from (show lx16.toInt ≤ lx16.toInt from by omega)), (show q_F (lx16.toInt ≤ lx16.toInt + 1) from (show lx16.toInt ≤ lx16.toInt + 1 from by omega)), V, q_lw hl (q_lw1 1 rfl (q_lw1 2 rfl (q_lw1 3 rfl q_lw0))), hI, hF, hO22, hO23⟩
          ·
            have b82 : q_F (x5.toInt ≠ 0) := (q_neI c80)
            exact J69 (()) _ _ _ w21 ⟨V, q_lw hl (q_lw1 1 rfl (q_lw1 2 rfl (q_lw1 3 rfl q_lw0)))⟩
  ·
    have b83 : q_F (0 ≤ lx15.toInt) := (q_nltI c24)
    refine lv_aload_n hx hb d_5_9_15 rfl (lv_at hl 2 rfl) ?_
    refine lv_bipush (v := 48) hx hb d_5_9_16 (by decide) ?_
    refine lv_aload_n hx hb d_5_9_18 rfl (lv_at hl 1 rfl) ?_
    refine lv_aload_n hx hb d_5_9_19 rfl (lv_at hl 1 rfl) ?_
    refine q_get (ci := 7) (j := 1) (v := .int t0_1) C0 V i_Dig rfl rfl hO22 (by decide) w_266 rfl d_5_9_20 ?_
    refine lv_iload hx hb d_5_9_23 (lv_at hl 0 rfl) ?_
    refine lv_isub hx hb d_5_9_25 ?_
    obtain ⟨a84, e85⟩ := q_nm (t0_1 - lx15 : Int32)
    refine q_ti (v := a84) e85 ?_
    have b86 : q_F (a84.toInt = t0_1.toInt - lx15.toInt) := (by rw [← e85]; show (t0_1 - lx15 : Int32).toInt = t0_1.toInt - lx15.toInt; exact q_subI (x := t0_1.toInt) (y := lx15.toInt) rfl rfl (by have t1 : -1000000 ≤ t0_1.toInt ∧ t0_1.toInt ≤ 1000000 := btt0_1; have t2 : t0_1.toInt ≤ a9.toInt ∧ 0 ≤ a9.toInt ∧ (a9.toInt = t0_1.toInt ∨ a9.toInt = 0) := b11; have t3 : a9.toInt + t1_0.toInt ≤ lx15.toInt + lx16.toInt := i18; have t4 : lx16.toInt + 2 * lx15.toInt ≤ t1_0.toInt + 2 * a9.toInt := i19; have t5 : 0 ≤ lx15.toInt + 1 := i17; omega) (by have t1 : -1000000 ≤ t0_1.toInt ∧ t0_1.toInt ≤ 1000000 := btt0_1; have t2 : t0_1.toInt ≤ a9.toInt ∧ 0 ≤ a9.toInt ∧ (a9.toInt = t0_1.toInt ∨ a9.toInt = 0) := b11; have t3 : a9.toInt + t1_0.toInt ≤ lx15.toInt + lx16.toInt := i18; have t4 : lx16.toInt + 2 * lx15.toInt ≤ t1_0.toInt + 2 * a9.toInt := i19; have t5 : 0 ≤ lx15.toInt + 1 := i17; omega))
    refine q_goi V (q_runV (As := [.int a84]) (rest := [.int 48, .ref (q k2)]) (d := 1) (mc := 0) (ms := 0) (ci := 7) C0 V rfl LV_Dig_49 (T_Dig_figure l D g q w21  a84 hI   _) rfl rfl hO22 rfl hl.1 rfl (Nat.le_of_ble_eq_true rfl) ⟨by decide, by decide⟩ ⟨Nat.le_of_ble_eq_true rfl, Nat.le_of_ble_eq_true rfl⟩ d_5_9_26) (fun a89 u87 H locs hp88 V => ?_)
    obtain ⟨rfl, -⟩ := hp88
    refine lv_iadd hx hb d_5_9_29 ?_
    obtain ⟨a90, e91⟩ := q_nm (48 + a89 : Int32)
    refine q_ti (v := a90) e91 ?_
    refine q_gov V (q_runV (As := [.int a90]) (rest := []) (d := 1) (mc := 0) (ms := 0) (ci := 1) C0 V rfl LV_Dig_52 (T_She_add l D g q w21 k2 R N K hB2 a90 hI lx16 hO23 (by have t1 : t0_1.toInt ≤ 200000 := pre0; have t2 : t1_0.toInt ≤ 400000 := pre2; have t3 : 1000000 ≤ K.toInt := pre3; have t4 : t0_1.toInt ≤ a9.toInt ∧ 0 ≤ a9.toInt ∧ (a9.toInt = t0_1.toInt ∨ a9.toInt = 0) := b11; have t5 : 0 ≤ lx15.toInt + 1 := i17; have t6 : lx16.toInt + 2 * lx15.toInt ≤ t1_0.toInt + 2 * a9.toInt := i19; omega) _) rfl rfl hO23 rfl hl.1 rfl (Nat.le_of_ble_eq_true rfl) ⟨by decide, by decide⟩ ⟨Nat.le_of_ble_eq_true rfl, Nat.le_of_ble_eq_true rfl⟩ d_5_9_30) (fun u92 H locs hp93 V => ?_)
    obtain ⟨hI, hu98, y95, hO94, b96, b97⟩ := hp93
    replace hO94 : u92[k2]? = (some (q k2, .inr (1, [.ref (q (k2 + 1)), .int R, .int y95])) : Option (Nat × va_E)) := hO94
    replace b96 : q_F (lx16.toInt + 1 ≤ y95.toInt) := b96
    replace b97 : q_F (y95.toInt ≤ lx16.toInt + 1) := b97
    replace hO22 := (hu98 _ (by have z0 := hB2.2.2.2; simp only [List.mem_cons, List.not_mem_nil, or_false, not_or]; omega)).trans hO22
    replace hF := q_uc hF hu98 (by simp)
    refine lv_iload_n hx hb d_5_9_33 rfl (lv_at hl 4 rfl) ?_
    refine lv_if_eq (tgt := 55) hx hb d_5_9_34 (by decide) (fun c99 => ?_) (fun c99 => ?_)
    ·
      have b100 : q_F (x4.toInt = 0) := (q_eqI c99)
      obtain ⟨a101, e102⟩ := q_nm (lx15 + (-1) : Int32)
      have b103 : q_F (a101.toInt = lx15.toInt + (-1)) := (by rw [← e102]; exact q_addI (y := (-1)) rfl (by decide) (by have t1 : 0 ≤ lx15.toInt + 1 := i17; have t2 : a9.toInt + t1_0.toInt ≤ lx15.toInt + lx16.toInt := i18; have t3 : lx16.toInt + 2 * lx15.toInt ≤ t1_0.toInt + 2 * a9.toInt := i19; have _ := q_lo32 (x := a9); have _ := q_hi32 (x := a9); omega) (by have t1 : 0 ≤ lx15.toInt + 1 := i17; have t2 : a9.toInt + t1_0.toInt ≤ lx15.toInt + lx16.toInt := i18; have t3 : lx16.toInt + 2 * lx15.toInt ≤ t1_0.toInt + 2 * a9.toInt := i19; have _ := q_lo32 (x := a9); have _ := q_hi32 (x := a9); omega))
      refine lv_iinc (v := a101) (lv' := [(5, .int a101), (0, .ref (q 36)), (1, .ref (q k2)), (2, .int x3), (3, .int x4), (4, .int x5)]) hx hb d_5_9_55 hl (k := 0) rfl (e102) (by decide) rfl (fun ls hl => ?_)
      refine lv_goto (tgt := 10) hx hb d_5_9_58 (by decide) ?_
      exact ih20 ((a101 : Int32), (y95 : Int32)) _ _ _ _ (show (a101.toInt - ((-1000000))).toNat < (lx15.toInt - ((-1000000))).toNat from by have t1 : a101.toInt = lx15.toInt + (-1) := b103; have t2 : 0 ≤ lx15.toInt + 1 := i17; omega) ⟨(show q_F (0 ≤ a101.toInt + 1) from (show 0 ≤ a101.toInt + 1 from by have t1 : 0 ≤ lx15.toInt := b83; have t2 : a101.toInt = lx15.toInt + (-1) := b103; omega)), (show q_F (a9.toInt + t1_0.toInt ≤ a101.toInt + y95.toInt) from (show a9.toInt + t1_0.toInt ≤ a101.toInt + y95.toInt from by have t1 : a9.toInt + t1_0.toInt ≤ lx15.toInt + lx16.toInt := i18; have t2 : lx16.toInt + 1 ≤ y95.toInt := b96; have t3 : a101.toInt = lx15.toInt + (-1) := b103; omega)), (show q_F (y95.toInt + 2 * a101.toInt ≤ t1_0.toInt + 2 * a9.toInt) from (show y95.toInt + 2 * a101.toInt ≤ t1_0.toInt + 2 * a9.toInt from by have t1 : lx16.toInt + 2 * lx15.toInt ≤ t1_0.toInt + 2 * a9.toInt := i19; have t2 : y95.toInt ≤ lx16.toInt + 1 := b97; have t3 : a101.toInt = lx15.toInt + (-1) := b103; omega)), V, q_lw hl (q_lw1 0 rfl (q_lw1 1 rfl (q_lw1 2 rfl (q_lw1 3 rfl (q_lw1 4 rfl (q_lw1 5 rfl q_lw0)))))), hI, hF, hO22, hO94⟩
    ·
      have b104 : q_F (x4.toInt ≠ 0) := (q_neI c99)
      refine lv_iload hx hb d_5_9_37 (lv_at hl 0 rfl) ?_
      refine lv_if_le (tgt := 55) hx hb d_5_9_39 (by decide) (fun c105 => ?_) (fun c105 => ?_)
      ·
        have b106 : q_F (lx15.toInt ≤ 0) := (q_leI c105)
        obtain ⟨a107, e108⟩ := q_nm (lx15 + (-1) : Int32)
        have b109 : q_F (a107.toInt = lx15.toInt + (-1)) := (by rw [← e108]; exact q_addI (y := (-1)) rfl (by decide) (by have t1 : 0 ≤ lx15.toInt + 1 := i17; have t2 : lx15.toInt ≤ 0 := b106; omega) (by have t1 : 0 ≤ lx15.toInt + 1 := i17; have t2 : lx15.toInt ≤ 0 := b106; omega))
        refine lv_iinc (v := a107) (lv' := [(5, .int a107), (0, .ref (q 36)), (1, .ref (q k2)), (2, .int x3), (3, .int x4), (4, .int x5)]) hx hb d_5_9_55 hl (k := 0) rfl (e108) (by decide) rfl (fun ls hl => ?_)
        refine lv_goto (tgt := 10) hx hb d_5_9_58 (by decide) ?_
        exact ih20 ((a107 : Int32), (y95 : Int32)) _ _ _ _ (show (a107.toInt - ((-1000000))).toNat < (lx15.toInt - ((-1000000))).toNat from by have t1 : a107.toInt = lx15.toInt + (-1) := b109; have t2 : 0 ≤ lx15.toInt + 1 := i17; omega) ⟨(show q_F (0 ≤ a107.toInt + 1) from (show 0 ≤ a107.toInt + 1 from by have t1 : 0 ≤ lx15.toInt := b83; have t2 : a107.toInt = lx15.toInt + (-1) := b109; omega)), (show q_F (a9.toInt + t1_0.toInt ≤ a107.toInt + y95.toInt) from (show a9.toInt + t1_0.toInt ≤ a107.toInt + y95.toInt from by have t1 : a9.toInt + t1_0.toInt ≤ lx15.toInt + lx16.toInt := i18; have t2 : lx16.toInt + 1 ≤ y95.toInt := b96; have t3 : a107.toInt = lx15.toInt + (-1) := b109; omega)), (show q_F (y95.toInt + 2 * a107.toInt ≤ t1_0.toInt + 2 * a9.toInt) from (show y95.toInt + 2 * a107.toInt ≤ t1_0.toInt + 2 * a9.toInt from by have t1 : lx16.toInt + 2 * lx15.toInt ≤ t1_0.toInt + 2 * a9.toInt := i19; have t2 : y95.toInt ≤ lx16.toInt + 1 := b97; have t3 : a107.toInt = lx15.toInt + (-1) := b109; omega)), V, q_lw hl (q_lw1 0 rfl (q_lw1 1 rfl (q_lw1 2 rfl (q_lw1 3 rfl (q_lw1 4 rfl (q_lw1 5 rfl q_lw0)))))), hI, hF, hO22, hO94⟩
      ·
        have b110 : q_F (0 < lx15.toInt) := (q_nleI c105)
        refine lv_iload hx hb d_5_9_42 (lv_at hl 0 rfl) ?_
        refine lv_iconst (v := 3) hx hb d_5_9_44 (by decide) ?_
        refine lv_irem hx hb d_5_9_45 (by decide) ?_
        obtain ⟨a111, e112⟩ := q_nm (lx15 - lx15 / 3 * 3 : Int32)
        refine q_ti (v := a111) e112 ?_
        have b113 : q_F (0 ≤ a111.toInt ∧ a111.toInt ≤ 2 ∧ a111.toInt ≤ lx15.toInt) := (by rw [← e112]; show 0 ≤ (lx15 - lx15 / 3 * 3 : Int32).toInt ∧ (lx15 - lx15 / 3 * 3 : Int32).toInt ≤ 2 ∧ (lx15 - lx15 / 3 * 3 : Int32).toInt ≤ lx15.toInt; exact (by have z := s_rem' (x := lx15) (b := 3) (by have t1 : 0 ≤ lx15.toInt := b83; omega) (by decide); have z8 : (3 : Int32).toInt = 3 := rfl; omega))
        refine lv_if_ne (tgt := 55) hx hb d_5_9_46 (by decide) (fun c114 => ?_) (fun c114 => ?_)
        ·
          have b115 : q_F (a111.toInt ≠ 0) := (q_neI c114)
          obtain ⟨a116, e117⟩ := q_nm (lx15 + (-1) : Int32)
          have b118 : q_F (a116.toInt = lx15.toInt + (-1)) := (by rw [← e117]; exact q_addI (y := (-1)) rfl (by decide) (by have t1 : 0 ≤ lx15.toInt + 1 := i17; have t2 : a9.toInt + t1_0.toInt ≤ lx15.toInt + lx16.toInt := i18; have t3 : lx16.toInt + 2 * lx15.toInt ≤ t1_0.toInt + 2 * a9.toInt := i19; have _ := q_lo32 (x := a9); have _ := q_hi32 (x := a9); omega) (by have t1 : 0 ≤ lx15.toInt + 1 := i17; have t2 : a9.toInt + t1_0.toInt ≤ lx15.toInt + lx16.toInt := i18; have t3 : lx16.toInt + 2 * lx15.toInt ≤ t1_0.toInt + 2 * a9.toInt := i19; have _ := q_lo32 (x := a9); have _ := q_hi32 (x := a9); omega))
          refine lv_iinc (v := a116) (lv' := [(5, .int a116), (0, .ref (q 36)), (1, .ref (q k2)), (2, .int x3), (3, .int x4), (4, .int x5)]) hx hb d_5_9_55 hl (k := 0) rfl (e117) (by decide) rfl (fun ls hl => ?_)
          refine lv_goto (tgt := 10) hx hb d_5_9_58 (by decide) ?_
          exact ih20 ((a116 : Int32), (y95 : Int32)) _ _ _ _ (show (a116.toInt - ((-1000000))).toNat < (lx15.toInt - ((-1000000))).toNat from by have t1 : a116.toInt = lx15.toInt + (-1) := b118; have t2 : 0 ≤ lx15.toInt + 1 := i17; omega) ⟨(show q_F (0 ≤ a116.toInt + 1) from (show 0 ≤ a116.toInt + 1 from by have t1 : 0 ≤ lx15.toInt := b83; have t2 : a116.toInt = lx15.toInt + (-1) := b118; omega)), (show q_F (a9.toInt + t1_0.toInt ≤ a116.toInt + y95.toInt) from (show a9.toInt + t1_0.toInt ≤ a116.toInt + y95.toInt from by have t1 : a9.toInt + t1_0.toInt ≤ lx15.toInt + lx16.toInt := i18; have t2 : lx16.toInt + 1 ≤ y95.toInt := b96; have t3 : a116.toInt = lx15.toInt + (-1) := b118; omega)), (show q_F (y95.toInt + 2 * a116.toInt ≤ t1_0.toInt + 2 * a9.toInt) from (show y95.toInt + 2 * a116.toInt ≤ t1_0.toInt + 2 * a9.toInt from by have t1 : lx16.toInt + 2 * lx15.toInt ≤ t1_0.toInt + 2 * a9.toInt := i19; have t2 : y95.toInt ≤ lx16.toInt + 1 := b97; have t3 : a116.toInt = lx15.toInt + (-1) := b118; omega)), V, q_lw hl (q_lw1 0 rfl (q_lw1 1 rfl (q_lw1 2 rfl (q_lw1 3 rfl (q_lw1 4 rfl (q_lw1 5 rfl q_lw0)))))), hI, hF, hO22, hO94⟩
        ·
          have b119 : q_F (a111.toInt = 0) := (q_eqI c114)
          refine lv_aload_n hx hb d_5_9_49 rfl (lv_at hl 2 rfl) ?_
          refine lv_bipush (v := 44) hx hb d_5_9_50 (by decide) ?_
          refine q_gov V (q_runV (As := [.int 44]) (rest := []) (d := 1) (mc := 0) (ms := 0) (ci := 1) C0 V rfl LV_Dig_52 (T_She_add l D g q u92 k2 R N K hB2 44 hI y95 hO94 (by have y0 : (44 : Int32).toInt = 44 := rfl; have t1 : t0_1.toInt ≤ 200000 := pre0; have t2 : t1_0.toInt ≤ 400000 := pre2; have t3 : 1000000 ≤ K.toInt := pre3; have t4 : t0_1.toInt ≤ a9.toInt ∧ 0 ≤ a9.toInt ∧ (a9.toInt = t0_1.toInt ∨ a9.toInt = 0) := b11; have t5 : 0 ≤ lx15.toInt + 1 := i17; have t6 : lx16.toInt + 2 * lx15.toInt ≤ t1_0.toInt + 2 * a9.toInt := i19; have t7 : y95.toInt ≤ lx16.toInt + 1 := b97; omega) _) rfl rfl hO94 rfl hl.1 rfl (Nat.le_of_ble_eq_true rfl) ⟨by decide, by decide⟩ ⟨Nat.le_of_ble_eq_true rfl, Nat.le_of_ble_eq_true rfl⟩ d_5_9_52) (fun u120 H locs hp121 V => ?_)
          obtain ⟨hI, hu126, y123, hO122, b124, b125⟩ := hp121
          replace hO122 : u120[k2]? = (some (q k2, .inr (1, [.ref (q (k2 + 1)), .int R, .int y123])) : Option (Nat × va_E)) := hO122
          replace b124 : q_F (y95.toInt + 1 ≤ y123.toInt) := b124
          replace b125 : q_F (y123.toInt ≤ y95.toInt + 1) := b125
          replace hO22 := (hu126 _ (by have z0 := hB2.2.2.2; simp only [List.mem_cons, List.not_mem_nil, or_false, not_or]; omega)).trans hO22
          replace hF := q_uc hF hu126 (by simp)
          obtain ⟨a127, e128⟩ := q_nm (lx15 + (-1) : Int32)
          have b129 : q_F (a127.toInt = lx15.toInt + (-1)) := (by rw [← e128]; exact q_addI (y := (-1)) rfl (by decide) (by have t1 : 0 ≤ lx15.toInt + 1 := i17; have t2 : a9.toInt + t1_0.toInt ≤ lx15.toInt + lx16.toInt := i18; have t3 : lx16.toInt + 2 * lx15.toInt ≤ t1_0.toInt + 2 * a9.toInt := i19; have _ := q_lo32 (x := a9); have _ := q_hi32 (x := a9); omega) (by have t1 : 0 ≤ lx15.toInt + 1 := i17; have t2 : a9.toInt + t1_0.toInt ≤ lx15.toInt + lx16.toInt := i18; have t3 : lx16.toInt + 2 * lx15.toInt ≤ t1_0.toInt + 2 * a9.toInt := i19; have _ := q_lo32 (x := a9); have _ := q_hi32 (x := a9); omega))
          refine lv_iinc (v := a127) (lv' := [(5, .int a127), (0, .ref (q 36)), (1, .ref (q k2)), (2, .int x3), (3, .int x4), (4, .int x5)]) hx hb d_5_9_55 hl (k := 0) rfl (e128) (by decide) rfl (fun ls hl => ?_)
          refine lv_goto (tgt := 10) hx hb d_5_9_58 (by decide) ?_
          exact ih20 ((a127 : Int32), (y123 : Int32)) _ _ _ _ (show (a127.toInt - ((-1000000))).toNat < (lx15.toInt - ((-1000000))).toNat from by have t1 : a127.toInt = lx15.toInt + (-1) := b129; have t2 : 0 ≤ lx15.toInt + 1 := i17; omega) ⟨(show q_F (0 ≤ a127.toInt + 1) from (show 0 ≤ a127.toInt + 1 from by have t1 : 0 ≤ lx15.toInt := b83; have t2 : a127.toInt = lx15.toInt + (-1) := b129; omega)), (show q_F (a9.toInt + t1_0.toInt ≤ a127.toInt + y123.toInt) from (show a9.toInt + t1_0.toInt ≤ a127.toInt + y123.toInt from by have t1 : a9.toInt + t1_0.toInt ≤ lx15.toInt + lx16.toInt := i18; have t2 : lx16.toInt + 1 ≤ y95.toInt := b96; have t3 : y95.toInt + 1 ≤ y123.toInt := b124; have t4 : a127.toInt = lx15.toInt + (-1) := b129; omega)), (show q_F (y123.toInt + 2 * a127.toInt ≤ t1_0.toInt + 2 * a9.toInt) from (show y123.toInt + 2 * a127.toInt ≤ t1_0.toInt + 2 * a9.toInt from by have t1 : lx16.toInt + 2 * lx15.toInt ≤ t1_0.toInt + 2 * a9.toInt := i19; have t2 : y95.toInt ≤ lx16.toInt + 1 := b97; have t3 : y123.toInt ≤ y95.toInt + 1 := b125; have t4 : a127.toInt = lx15.toInt + (-1) := b129; omega)), V, q_lw hl (q_lw1 0 rfl (q_lw1 1 rfl (q_lw1 2 rfl (q_lw1 3 rfl (q_lw1 4 rfl (q_lw1 5 rfl q_lw0)))))), hI, hF, hO22, hO122⟩
theorem d_5_11_0 : decode prog_5_method_11_code 0 = .ok (.aload_n 1, 1) := by decide +kernel
theorem d_5_11_1 : decode prog_5_method_11_code 1 = .ok (.bipush 48, 2) := by decide +kernel
theorem d_5_11_3 : decode prog_5_method_11_code 3 = .ok (.aload_n 0, 1) := by decide +kernel
theorem d_5_11_4 : decode prog_5_method_11_code 4 = .ok (.iconst 0, 1) := by decide +kernel
theorem d_5_11_5 : decode prog_5_method_11_code 5 = .ok (.invokevirtual 49, 3) := by decide +kernel
theorem d_5_11_8 : decode prog_5_method_11_code 8 = .ok (.iadd, 1) := by decide +kernel
theorem d_5_11_9 : decode prog_5_method_11_code 9 = .ok (.invokevirtual 52, 3) := by decide +kernel
theorem d_5_11_12 : decode prog_5_method_11_code 12 = .ok (.iload_n 2, 1) := by decide +kernel
theorem d_5_11_13 : decode prog_5_method_11_code 13 = .ok (.iconst 1, 1) := by decide +kernel
theorem d_5_11_27 : decode prog_5_method_11_code 27 = .ok (.iconst 1, 1) := by decide +kernel
theorem d_5_11_28 : decode prog_5_method_11_code 28 = .ok (.istore 4, 2) := by decide +kernel
theorem d_5_11_30 : decode prog_5_method_11_code 30 = .ok (.iload 4, 2) := by decide +kernel
theorem d_5_11_32 : decode prog_5_method_11_code 32 = .ok (.iload_n 2, 1) := by decide +kernel
theorem d_5_11_33 : decode prog_5_method_11_code 33 = .ok (.if_icmp .ge 22, 3) := by decide +kernel
theorem d_5_11_55 : decode prog_5_method_11_code 55 = .ok (.return_, 1) := by decide +kernel
theorem d_5_11_36 : decode prog_5_method_11_code 36 = .ok (.aload_n 1, 1) := by decide +kernel
theorem d_5_11_37 : decode prog_5_method_11_code 37 = .ok (.bipush 48, 2) := by decide +kernel
theorem d_5_11_39 : decode prog_5_method_11_code 39 = .ok (.aload_n 0, 1) := by decide +kernel
theorem d_5_11_40 : decode prog_5_method_11_code 40 = .ok (.iload 4, 2) := by decide +kernel
theorem d_5_11_42 : decode prog_5_method_11_code 42 = .ok (.invokevirtual 49, 3) := by decide +kernel
theorem d_5_11_45 : decode prog_5_method_11_code 45 = .ok (.iadd, 1) := by decide +kernel
theorem d_5_11_46 : decode prog_5_method_11_code 46 = .ok (.invokevirtual 52, 3) := by decide +kernel
theorem d_5_11_49 : decode prog_5_method_11_code 49 = .ok (.iinc 4 1, 3) := by decide +kernel
theorem d_5_11_52 : decode prog_5_method_11_code 52 = .ok (.goto (-22), 3) := by decide +kernel
theorem d_5_11_21 : decode prog_5_method_11_code 21 = .ok (.aload_n 1, 1) := by decide +kernel
theorem d_5_11_22 : decode prog_5_method_11_code 22 = .ok (.bipush 46, 2) := by decide +kernel
theorem d_5_11_24 : decode prog_5_method_11_code 24 = .ok (.invokevirtual 52, 3) := by decide +kernel
theorem d_5_11_14 : decode prog_5_method_11_code 14 = .ok (.if_icmp .gt 7, 3) := by decide +kernel
theorem d_5_11_17 : decode prog_5_method_11_code 17 = .ok (.iload_n 3, 1) := by decide +kernel
theorem d_5_11_18 : decode prog_5_method_11_code 18 = .ok (.ifCond .eq 9, 3) := by decide +kernel
def y_Dig_writeHead : MethodName := ⟨"NumberHouse$Digits", "writeHead", "(LNumberHouse$Sheet;IZ)V"⟩
set_option maxRecDepth 100000 in
set_option maxHeartbeats 4000000 in
theorem T_Dig_writeHead (l : Launch) (D : va_G) (g : Nat → ClassId) (q : Nat → Nat) (ws : va_W) (k2 : Nat) (R N K : Int32) (hB2 : q_isShe (nsh g q) g q k2 R N K) (x3 : Int32) (x4 : Int32) (hI : q_I (nsh g q) q ws) (t0_0 : Int32) (t0_1 : Int32) (hT0 : ws[36]? = (some (q 36, .inr (7, [.int t0_0, .int t0_1, .ref (q 37)])) : Option (Nat × va_E))) (t1_0 : Int32) (hT1 : ws[k2]? = (some (q k2, .inr (1, [.ref (q (k2 + 1)), .int R, .int t1_0])) : Option (Nat × va_E))) (hzx4 : 0 ≤ x4.toInt ∧ x4.toInt ≤ 1) (pre0 : x3.toInt ≤ 20000) (pre1 : t1_0.toInt ≤ 400000) (pre2 : 1000000 ≤ K.toInt) : q_mV l y_Dig_writeHead prog_5_method_11_code 5 2 0 0 D g [.ref (q 36), .ref (q k2), .int x3, .int x4] ws (fun u => q_I (nsh g q) q u ∧ q_un ws u [k2, k2 + 1] ∧ ∃ (u1_0 : Int32), u[k2]? = (some (q k2, .inr (1, [.ref (q (k2 + 1)), .int R, .int u1_0])) : Option (Nat × va_E)) ∧ (x3.toInt ≤ u1_0.toInt) ∧ (x4.toInt + 1 ≤ u1_0.toInt) ∧ (t1_0.toInt + 1 ≤ u1_0.toInt) ∧ (u1_0.toInt ≤ t1_0.toInt + 20001)) := by
  intro sz
  refine q_into (by decide) (Nat.le_of_ble_eq_true rfl) ?_
  intro p e s m below meth c ls hsz C0 V hl
  have hx := C0.1
  have hb := C0.2.1
  have hfk20 : q_F (0 ≤ R.toInt ∧ R.toInt ≤ 8 * N.toInt ∧ 0 ≤ N.toInt ∧ N.toInt ≤ 1376 ∧ 64 ≤ R.toInt ∧ 64 ≤ K.toInt ∧ K.toInt ≤ 1000000) := hB2.2.2.1
  replace hzx4 : q_F (0 ≤ x4.toInt ∧ x4.toInt ≤ 1) := hzx4
  obtain ⟨yy0_0, yy0_1, hh0, btt0_0, btt0_1⟩ := n_o36 hI
  obtain ⟨rfl, rfl⟩ : t0_0 = yy0_0 ∧ t0_1 = yy0_1 := by have z := Option.some.inj (hT0.symm.trans hh0); simpa using z
  replace btt0_0 : q_F (0 ≤ t0_0.toInt ∧ t0_0.toInt ≤ 1026) := btt0_0
  replace btt0_1 : q_F (-1000000 ≤ t0_1.toInt ∧ t0_1.toInt ≤ 1000000) := btt0_1
  obtain ⟨yy1_0, hh1, btt1_0⟩ := n_shO hI hB2
  obtain ⟨rfl⟩ : t1_0 = yy1_0 := by have z := Option.some.inj (hT1.symm.trans hh1); simpa using z
  replace btt1_0 : q_F (0 ≤ t1_0.toInt ∧ t1_0.toInt ≤ K.toInt) := btt1_0
  replace pre0 : q_F (x3.toInt ≤ 20000) := pre0
  replace pre1 : q_F (t1_0.toInt ≤ 400000) := pre1
  replace pre2 : q_F (1000000 ≤ K.toInt) := pre2
  have hF : q_un ws ws [k2, k2 + 1] := q_u0
  have hl : lv_has ls 5 [(0, .ref (q 36)), (1, .ref (q k2)), (2, .int x3), (3, .int x4)] := hl
  refine lv_aload_n hx hb d_5_11_0 rfl (lv_at hl 1 rfl) ?_
  refine lv_bipush (v := 48) hx hb d_5_11_1 (by decide) ?_
  refine lv_aload_n hx hb d_5_11_3 rfl (lv_at hl 0 rfl) ?_
  refine lv_iconst (v := 0) hx hb d_5_11_4 (by decide) ?_
  refine q_goi V (q_runV (As := [.int 0]) (rest := [.int 48, .ref (q k2)]) (d := 1) (mc := 0) (ms := 0) (ci := 7) C0 V rfl LV_Dig_49 (T_Dig_figure l D g q ws  0 hI   _) rfl rfl hT0 rfl hl.1 rfl (Nat.le_of_ble_eq_true rfl) ⟨by decide, by decide⟩ ⟨Nat.le_of_ble_eq_true rfl, Nat.le_of_ble_eq_true rfl⟩ d_5_11_5) (fun a11 u9 H locs hp10 V => ?_)
  obtain ⟨rfl, -⟩ := hp10
  refine lv_iadd hx hb d_5_11_8 ?_
  obtain ⟨a12, e13⟩ := q_nm (48 + a11 : Int32)
  refine q_ti (v := a12) e13 ?_
  refine q_gov V (q_runV (As := [.int a12]) (rest := []) (d := 1) (mc := 0) (ms := 0) (ci := 1) C0 V rfl LV_Dig_52 (T_She_add l D g q ws k2 R N K hB2 a12 hI t1_0 hT1 (by have t1 : t1_0.toInt ≤ 400000 := pre1; have t2 : 1000000 ≤ K.toInt := pre2; omega) _) rfl rfl hT1 rfl hl.1 rfl (Nat.le_of_ble_eq_true rfl) ⟨by decide, by decide⟩ ⟨Nat.le_of_ble_eq_true rfl, Nat.le_of_ble_eq_true rfl⟩ d_5_11_9) (fun u14 H locs hp15 V => ?_)
  obtain ⟨hI, hu20, y17, hO16, b18, b19⟩ := hp15
  replace hO16 : u14[k2]? = (some (q k2, .inr (1, [.ref (q (k2 + 1)), .int R, .int y17])) : Option (Nat × va_E)) := hO16
  replace b18 : q_F (t1_0.toInt + 1 ≤ y17.toInt) := b18
  replace b19 : q_F (y17.toInt ≤ t1_0.toInt + 1) := b19
  replace hT0 := (hu20 _ (by have z0 := hB2.2.2.2; simp only [List.mem_cons, List.not_mem_nil, or_false, not_or]; omega)).trans hT0
  replace hF := q_uc hF hu20 (by simp)
  refine lv_iload_n hx hb d_5_11_12 rfl (lv_at hl 2 rfl) ?_
  refine lv_iconst (v := 1) hx hb d_5_11_13 (by decide) ?_
  refine q_join (X := Int32) (fun z H locs ls w29 => q_F (x3.toInt ≤ z.toInt + 19998) ∧ q_F (x4.toInt + 1 ≤ z.toInt) ∧ q_F (t1_0.toInt + 1 ≤ z.toInt) ∧ q_F (z.toInt ≤ t1_0.toInt + 2) ∧ q_Wd D g (va_A ws sz) s w29 H locs ∧ lv_has ls 5 [(0, .ref (q 36)), (1, .ref (q k2)), (2, .int x3)] ∧ q_I (nsh g q) q w29 ∧ q_un ws w29 [k2, k2 + 1] ∧ w29[36]? = (some (q 36, .inr (7, [.int t0_0, .int t0_1, .ref (q 37)])) : Option (Nat × va_E)) ∧ w29[k2]? = (some (q k2, .inr (1, [.ref (q (k2 + 1)), .int R, .int z])) : Option (Nat × va_E))) (fun z => []) 27 0 0 ?_ ?_
  ·
    rintro lx21 H locs ls w29 ⟨i25, i26, i27, i28, V, hl, hI, hF, hO22, hO23⟩
    replace i25 : q_F (x3.toInt ≤ lx21.toInt + 19998) := i25
    replace i26 : q_F (x4.toInt + 1 ≤ lx21.toInt) := i26
    replace i27 : q_F (t1_0.toInt + 1 ≤ lx21.toInt) := i27
    replace i28 : q_F (lx21.toInt ≤ t1_0.toInt + 2) := i28
    replace hl : lv_has ls 5 [(0, .ref (q 36)), (1, .ref (q k2)), (2, .int x3)] := hl
    replace hO22 : w29[36]? = (some (q 36, .inr (7, [.int t0_0, .int t0_1, .ref (q 37)])) : Option (Nat × va_E)) := hO22
    replace hO23 : w29[k2]? = (some (q k2, .inr (1, [.ref (q (k2 + 1)), .int R, .int lx21])) : Option (Nat × va_E)) := hO23
    refine lv_iconst (v := 1) hx hb d_5_11_27 (by decide) ?_
    refine lv_istore (lv' := [(4, .int 1), (0, .ref (q 36)), (1, .ref (q k2)), (2, .int x3)]) hx hb d_5_11_28 hl (by decide) rfl (fun ls hl => ?_)
    refine q_loop (X := Int32 × Int32) (fun z H locs ls w38 => q_F (z.1.toInt ≤ 20000) ∧ q_F (lx21.toInt + 1 ≤ z.1.toInt + z.2.toInt) ∧ q_F (z.2.toInt + 1 ≤ z.1.toInt + lx21.toInt) ∧ q_F (z.1.toInt + lx21.toInt ≤ z.2.toInt + 1) ∧ q_Wd D g (va_A ws sz) s w38 H locs ∧ lv_has ls 5 [(4, .int z.1), (0, .ref (q 36)), (1, .ref (q k2)), (2, .int x3)] ∧ q_I (nsh g q) q w38 ∧ q_un ws w38 [k2, k2 + 1] ∧ w38[36]? = (some (q 36, .inr (7, [.int t0_0, .int t0_1, .ref (q 37)])) : Option (Nat × va_E)) ∧ w38[k2]? = (some (q k2, .inr (1, [.ref (q (k2 + 1)), .int R, .int z.2])) : Option (Nat × va_E))) (fun z => (20000 - z.1.toInt).toNat) ?_ ((1 : Int32), (lx21 : Int32)) _ _ _ w29 ⟨(show q_F (1 ≤ 20000) from (show 1 ≤ 20000 from by omega)), (show q_F (lx21.toInt + 1 ≤ 1 + lx21.toInt) from (show lx21.toInt + 1 ≤ 1 + lx21.toInt from by omega)), (show q_F (lx21.toInt + 1 ≤ 1 + lx21.toInt) from (show lx21.toInt + 1 ≤ 1 + lx21.toInt from by omega)), (show q_F (1 + lx21.toInt ≤ lx21.toInt + 1) from (show 1 + lx21.toInt ≤ lx21.toInt + 1 from by omega)), V, q_lw hl (q_lw1 0 rfl (q_lw1 1 rfl (q_lw1 2 rfl (q_lw1 3 rfl q_lw0)))), hI, hF, hO22, hO23⟩
    rintro ⟨lx31, lx32⟩ H locs ls w38 ⟨i33, i34, i35, i36, V, hl, hI, hF, hO39, hO40⟩ ih37
    replace i33 : q_F (lx31.toInt ≤ 20000) := i33
    replace i34 : q_F (lx21.toInt + 1 ≤ lx31.toInt + lx32.toInt) := i34
    replace i35 : q_F (lx32.toInt + 1 ≤ lx31.toInt + lx21.toInt) := i35
    replace i36 : q_F (lx31.toInt + lx21.toInt ≤ lx32.toInt + 1) := i36
    replace hl : lv_has ls 5 [(4, .int lx31), (0, .ref (q 36)), (1, .ref (q k2)), (2, .int x3)] := hl
    replace hO39 : w38[36]? = (some (q 36, .inr (7, [.int t0_0, .int t0_1, .ref (q 37)])) : Option (Nat × va_E)) := hO39
    replace hO40 : w38[k2]? = (some (q k2, .inr (1, [.ref (q (k2 + 1)), .int R, .int lx32])) : Option (Nat × va_E)) := hO40
    refine lv_iload hx hb d_5_11_30 (lv_at hl 0 rfl) ?_
    refine lv_iload_n hx hb d_5_11_32 rfl (lv_at hl 3 rfl) ?_
    refine lv_icmp_ge (tgt := 55) hx hb d_5_11_33 (by decide) (fun c41 => ?_) (fun c41 => ?_)
    ·
      have b42 : q_F (x3.toInt ≤ lx31.toInt) := (q_leI c41)
      exact q_retv C0 V (⟨hI, hF, lx32, hO40, (show x3.toInt ≤ lx32.toInt from (by have t1 : 0 ≤ x4.toInt ∧ x4.toInt ≤ 1 := hzx4; have t2 : x4.toInt + 1 ≤ lx21.toInt := i26; have t3 : lx31.toInt + lx21.toInt ≤ lx32.toInt + 1 := i36; have t4 : x3.toInt ≤ lx31.toInt := b42; omega)), (show x4.toInt + 1 ≤ lx32.toInt from (by have t1 : x4.toInt + 1 ≤ lx21.toInt := i26; have t2 : lx21.toInt + 1 ≤ lx31.toInt + lx32.toInt := i34; have t3 : lx31.toInt + lx21.toInt ≤ lx32.toInt + 1 := i36; omega)), (show t1_0.toInt + 1 ≤ lx32.toInt from (by have t1 : t1_0.toInt + 1 ≤ lx21.toInt := i27; have t2 : lx21.toInt + 1 ≤ lx31.toInt + lx32.toInt := i34; have t3 : lx31.toInt + lx21.toInt ≤ lx32.toInt + 1 := i36; omega)), (show lx32.toInt ≤ t1_0.toInt + 20001 from (by have t1 : lx21.toInt ≤ t1_0.toInt + 2 := i28; have t2 : lx31.toInt ≤ 20000 := i33; have t3 : lx32.toInt + 1 ≤ lx31.toInt + lx21.toInt := i35; omega))⟩) d_5_11_55
    ·
      have b43 : q_F (lx31.toInt < x3.toInt) := (q_nleI c41)
      refine lv_aload_n hx hb d_5_11_36 rfl (lv_at hl 2 rfl) ?_
      refine lv_bipush (v := 48) hx hb d_5_11_37 (by decide) ?_
      refine lv_aload_n hx hb d_5_11_39 rfl (lv_at hl 1 rfl) ?_
      refine lv_iload hx hb d_5_11_40 (lv_at hl 0 rfl) ?_
      refine q_goi V (q_runV (As := [.int lx31]) (rest := [.int 48, .ref (q k2)]) (d := 1) (mc := 0) (ms := 0) (ci := 7) C0 V rfl LV_Dig_49 (T_Dig_figure l D g q w38  lx31 hI   _) rfl rfl hO39 rfl hl.1 rfl (Nat.le_of_ble_eq_true rfl) ⟨by decide, by decide⟩ ⟨Nat.le_of_ble_eq_true rfl, Nat.le_of_ble_eq_true rfl⟩ d_5_11_42) (fun a46 u44 H locs hp45 V => ?_)
      obtain ⟨rfl, -⟩ := hp45
      refine lv_iadd hx hb d_5_11_45 ?_
      obtain ⟨a47, e48⟩ := q_nm (48 + a46 : Int32)
      refine q_ti (v := a47) e48 ?_
      refine q_gov V (q_runV (As := [.int a47]) (rest := []) (d := 1) (mc := 0) (ms := 0) (ci := 1) C0 V rfl LV_Dig_52 (T_She_add l D g q w38 k2 R N K hB2 a47 hI lx32 hO40 (by have t1 : t1_0.toInt ≤ 400000 := pre1; have t2 : 1000000 ≤ K.toInt := pre2; have t3 : lx21.toInt ≤ t1_0.toInt + 2 := i28; have t4 : lx31.toInt ≤ 20000 := i33; have t5 : lx32.toInt + 1 ≤ lx31.toInt + lx21.toInt := i35; omega) _) rfl rfl hO40 rfl hl.1 rfl (Nat.le_of_ble_eq_true rfl) ⟨by decide, by decide⟩ ⟨Nat.le_of_ble_eq_true rfl, Nat.le_of_ble_eq_true rfl⟩ d_5_11_46) (fun u49 H locs hp50 V => ?_)
      obtain ⟨hI, hu55, y52, hO51, b53, b54⟩ := hp50
      replace hO51 : u49[k2]? = (some (q k2, .inr (1, [.ref (q (k2 + 1)), .int R, .int y52])) : Option (Nat × va_E)) := hO51
      replace b53 : q_F (lx32.toInt + 1 ≤ y52.toInt) := b53
      replace b54 : q_F (y52.toInt ≤ lx32.toInt + 1) := b54
      replace hO39 := (hu55 _ (by have z0 := hB2.2.2.2; simp only [List.mem_cons, List.not_mem_nil, or_false, not_or]; omega)).trans hO39
      replace hF := q_uc hF hu55 (by simp)
      obtain ⟨a56, e57⟩ := q_nm (lx31 + 1 : Int32)
      have b58 : q_F (a56.toInt = lx31.toInt + 1) := (by rw [← e57]; exact q_addI (y := 1) rfl (by decide) (by have t1 : lx21.toInt + 1 ≤ lx31.toInt + lx32.toInt := i34; have t2 : lx32.toInt + 1 ≤ lx31.toInt + lx21.toInt := i35; have t3 : lx31.toInt ≤ 20000 := i33; omega) (by have t1 : lx21.toInt + 1 ≤ lx31.toInt + lx32.toInt := i34; have t2 : lx32.toInt + 1 ≤ lx31.toInt + lx21.toInt := i35; have t3 : lx31.toInt ≤ 20000 := i33; omega))
      refine lv_iinc (v := a56) (lv' := [(4, .int a56), (0, .ref (q 36)), (1, .ref (q k2)), (2, .int x3)]) hx hb d_5_11_49 hl (k := 0) rfl (e57) (by decide) rfl (fun ls hl => ?_)
      refine lv_goto (tgt := 30) hx hb d_5_11_52 (by decide) ?_
      exact ih37 ((a56 : Int32), (y52 : Int32)) _ _ _ _ (show (20000 - a56.toInt).toNat < (20000 - lx31.toInt).toNat from by have t1 : a56.toInt = lx31.toInt + 1 := b58; have t2 : lx31.toInt ≤ 20000 := i33; have t3 : x3.toInt ≤ 20000 := pre0; have t4 : lx31.toInt < x3.toInt := b43; omega) ⟨(show q_F (a56.toInt ≤ 20000) from (show a56.toInt ≤ 20000 from by have t1 : x3.toInt ≤ 20000 := pre0; have t2 : lx31.toInt < x3.toInt := b43; have t3 : a56.toInt = lx31.toInt + 1 := b58; omega)), (show q_F (lx21.toInt + 1 ≤ a56.toInt + y52.toInt) from (show lx21.toInt + 1 ≤ a56.toInt + y52.toInt from by have t1 : lx21.toInt + 1 ≤ lx31.toInt + lx32.toInt := i34; have t2 : lx32.toInt + 1 ≤ y52.toInt := b53; have t3 : a56.toInt = lx31.toInt + 1 := b58; omega)), (show q_F (y52.toInt + 1 ≤ a56.toInt + lx21.toInt) from (show y52.toInt + 1 ≤ a56.toInt + lx21.toInt from by have t1 : lx32.toInt + 1 ≤ lx31.toInt + lx21.toInt := i35; have t2 : y52.toInt ≤ lx32.toInt + 1 := b54; have t3 : a56.toInt = lx31.toInt + 1 := b58; omega)), (show q_F (a56.toInt + lx21.toInt ≤ y52.toInt + 1) from (show a56.toInt + lx21.toInt ≤ y52.toInt + 1 from by have t1 : lx31.toInt + lx21.toInt ≤ lx32.toInt + 1 := i36; have t2 : lx32.toInt + 1 ≤ y52.toInt := b53; have t3 : a56.toInt = lx31.toInt + 1 := b58; omega)), V, q_lw hl (q_lw1 0 rfl (q_lw1 1 rfl (q_lw1 2 rfl (q_lw1 3 rfl q_lw0)))), hI, hF, hO39, hO51⟩
  ·
    intro J24
    refine q_join (X := Unit) (fun z H locs ls _ => q_Wd D g (va_A ws sz) s u14 H locs ∧ lv_has ls 5 [(0, .ref (q 36)), (1, .ref (q k2)), (2, .int x3)]) (fun z => []) 21 0 0 ?_ ?_
    ·
      rintro _ H locs ls _ ⟨V, hl⟩
      replace hl : lv_has ls 5 [(0, .ref (q 36)), (1, .ref (q k2)), (2, .int x3)] := hl
      refine lv_aload_n hx hb d_5_11_21 rfl (lv_at hl 1 rfl) ?_
      refine lv_bipush (v := 46) hx hb d_5_11_22 (by decide) ?_
      refine q_gov V (q_runV (As := [.int 46]) (rest := []) (d := 1) (mc := 0) (ms := 0) (ci := 1) C0 V rfl LV_Dig_52 (T_She_add l D g q u14 k2 R N K hB2 46 hI y17 hO16 (by have y0 : (46 : Int32).toInt = 46 := rfl; have t1 : t1_0.toInt ≤ 400000 := pre1; have t2 : 1000000 ≤ K.toInt := pre2; have t3 : y17.toInt ≤ t1_0.toInt + 1 := b19; omega) _) rfl rfl hO16 rfl hl.1 rfl (Nat.le_of_ble_eq_true rfl) ⟨by decide, by decide⟩ ⟨Nat.le_of_ble_eq_true rfl, Nat.le_of_ble_eq_true rfl⟩ d_5_11_24) (fun u62 H locs hp63 V => ?_)
      obtain ⟨hI, hu68, y65, hO64, b66, b67⟩ := hp63
      replace hO64 : u62[k2]? = (some (q k2, .inr (1, [.ref (q (k2 + 1)), .int R, .int y65])) : Option (Nat × va_E)) := hO64
      replace b66 : q_F (y17.toInt + 1 ≤ y65.toInt) := b66
      replace b67 : q_F (y65.toInt ≤ y17.toInt + 1) := b67
      replace hT0 := (hu68 _ (by have z0 := hB2.2.2.2; simp only [List.mem_cons, List.not_mem_nil, or_false, not_or]; omega)).trans hT0
      replace hF := q_uc hF hu68 (by simp)
      exact J24 ((y65 : Int32)) _ _ _ _ ⟨(show q_F (x3.toInt ≤ y65.toInt + 19998) from (show x3.toInt ≤ y65.toInt + 19998 from by have t1 : 0 ≤ t1_0.toInt ∧ t1_0.toInt ≤ K.toInt := btt1_0; have t2 : x3.toInt ≤ 20000 := pre0; have t3 : t1_0.toInt + 1 ≤ y17.toInt := b18; have t4 : y17.toInt + 1 ≤ y65.toInt := b66; omega)), (show q_F (x4.toInt + 1 ≤ y65.toInt) from (show x4.toInt + 1 ≤ y65.toInt from by have t1 : 0 ≤ x4.toInt ∧ x4.toInt ≤ 1 := hzx4; have t2 : 0 ≤ t1_0.toInt ∧ t1_0.toInt ≤ K.toInt := btt1_0; have t3 : t1_0.toInt + 1 ≤ y17.toInt := b18; have t4 : y17.toInt + 1 ≤ y65.toInt := b66; omega)), (show q_F (t1_0.toInt + 1 ≤ y65.toInt) from (show t1_0.toInt + 1 ≤ y65.toInt from by have t1 : t1_0.toInt + 1 ≤ y17.toInt := b18; have t2 : y17.toInt + 1 ≤ y65.toInt := b66; omega)), (show q_F (y65.toInt ≤ t1_0.toInt + 2) from (show y65.toInt ≤ t1_0.toInt + 2 from by have t1 : y17.toInt ≤ t1_0.toInt + 1 := b19; have t2 : y65.toInt ≤ y17.toInt + 1 := b67; omega)), V, q_lw hl (q_lw1 0 rfl (q_lw1 1 rfl (q_lw1 2 rfl q_lw0))), hI, hF, hT0, hO64⟩
    ·
      intro J61
      refine lv_icmp_gt (tgt := 21) hx hb d_5_11_14 (by decide) (fun c69 => ?_) (fun c69 => ?_)
      ·
        have b70 : q_F (1 < x3.toInt) := (q_ltI c69)
        exact J61 (()) _ _ _ u14 ⟨V, q_lw hl (q_lw1 0 rfl (q_lw1 1 rfl (q_lw1 2 rfl q_lw0)))⟩
      ·
        have b71 : q_F (x3.toInt ≤ 1) := (q_nltI c69)
        refine lv_iload_n hx hb d_5_11_17 rfl (lv_at hl 3 rfl) ?_
        refine lv_if_eq (tgt := 27) hx hb d_5_11_18 (by decide) (fun c72 => ?_) (fun c72 => ?_)
        ·
          have b73 : q_F (x4.toInt = 0) := (q_eqI c72)
          exact J24 ((y17 : Int32)) _ _ _ _ ⟨(show q_F (x3.toInt ≤ y17.toInt + 19998) from (show x3.toInt ≤ y17.toInt + 19998 from by have t1 : 0 ≤ t1_0.toInt ∧ t1_0.toInt ≤ K.toInt := btt1_0; have t2 : t1_0.toInt + 1 ≤ y17.toInt := b18; have t3 : x3.toInt ≤ 1 := b71; omega)), (show q_F (x4.toInt + 1 ≤ y17.toInt) from (show x4.toInt + 1 ≤ y17.toInt from by have t1 : 0 ≤ t1_0.toInt ∧ t1_0.toInt ≤ K.toInt := btt1_0; have t2 : t1_0.toInt + 1 ≤ y17.toInt := b18; have t3 : x4.toInt = 0 := b73; omega)), (show q_F (t1_0.toInt + 1 ≤ y17.toInt) from (show t1_0.toInt + 1 ≤ y17.toInt from by have t1 : t1_0.toInt + 1 ≤ y17.toInt := b18; omega)), (show q_F (y17.toInt ≤ t1_0.toInt + 2) from (show y17.toInt ≤ t1_0.toInt + 2 from by have t1 : y17.toInt ≤ t1_0.toInt + 1 := b19; omega)), V, q_lw hl (q_lw1 0 rfl (q_lw1 1 rfl (q_lw1 2 rfl q_lw0))), hI, hF, hT0, hO16⟩
        ·
          have b74 : q_F (x4.toInt ≠ 0) := (q_neI c72)
          exact J61 (()) _ _ _ u14 ⟨V, q_lw hl (q_lw1 0 rfl (q_lw1 1 rfl (q_lw1 2 rfl q_lw0)))⟩
theorem d_5_10_0 : decode prog_5_method_10_code 0 = .ok (.aload_n 0, 1) := by decide +kernel
theorem d_5_10_1 : decode prog_5_method_10_code 1 = .ok (.aload_n 1, 1) := by decide +kernel
theorem d_5_10_2 : decode prog_5_method_10_code 2 = .ok (.iload_n 2, 1) := by decide +kernel
theorem d_5_10_3 : decode prog_5_method_10_code 3 = .ok (.iload_n 3, 1) := by decide +kernel
theorem d_5_10_4 : decode prog_5_method_10_code 4 = .ok (.invokevirtual 57, 3) := by decide +kernel
set_option maxRecDepth 100000 in
theorem w_1577 : (Cond.code ({ cls := "NumberHouse$Digits", name := "writeHead", desc := "(LNumberHouse$Sheet;IZ)V" } : MethodName) prog_5_method_11_code (5 : Nat) (none : Option ClassFile.FieldType)) ∈ q_tbl := q_of7 137 rfl (by decide +kernel)
set_option maxRecDepth 100000 in
theorem w_1668 : (Cond.methodLink "NumberHouse$Digits" (57 : Nat) ({ cls := "NumberHouse$Digits", name := "writeHead", desc := "(LNumberHouse$Sheet;IZ)V" } : MethodName)) ∈ q_tbl := q_of7 228 rfl (by decide +kernel)
set_option maxRecDepth 100000 in
theorem w_1575 : (Cond.instanceMethod ({ cls := "NumberHouse$Digits", name := "writeHead", desc := "(LNumberHouse$Sheet;IZ)V" } : MethodName)) ∈ q_tbl := q_of7 135 rfl (by decide +kernel)
set_option maxRecDepth 100000 in
theorem w_1576 : (Cond.selects "NumberHouse$Digits" ({ cls := "NumberHouse$Digits", name := "writeHead", desc := "(LNumberHouse$Sheet;IZ)V" } : MethodName) ({ cls := "NumberHouse$Digits", name := "writeHead", desc := "(LNumberHouse$Sheet;IZ)V" } : MethodName)) ∈ q_tbl := q_of7 136 rfl (by decide +kernel)
theorem LV_Dig_57 : q_LV "NumberHouse$Digits" 57 y_Dig_writeHead prog_5_method_11_code 5 none 3 := ⟨w_1577, w_9, w_1668, w_1575, w_1576, ⟨by decide, by decide, by decide +kernel⟩⟩
theorem d_5_10_7 : decode prog_5_method_10_code 7 = .ok (.aload_n 1, 1) := by decide +kernel
theorem d_5_10_8 : decode prog_5_method_10_code 8 = .ok (.bipush 101, 2) := by decide +kernel
theorem d_5_10_10 : decode prog_5_method_10_code 10 = .ok (.invokevirtual 52, 3) := by decide +kernel
theorem d_5_10_13 : decode prog_5_method_10_code 13 = .ok (.aload_n 1, 1) := by decide +kernel
theorem d_5_10_14 : decode prog_5_method_10_code 14 = .ok (.aload_n 0, 1) := by decide +kernel
theorem d_5_10_15 : decode prog_5_method_10_code 15 = .ok (.getfield 33, 3) := by decide +kernel
theorem d_5_10_18 : decode prog_5_method_10_code 18 = .ok (.ifCond .ge 8, 3) := by decide +kernel
theorem d_5_10_26 : decode prog_5_method_10_code 26 = .ok (.bipush 43, 2) := by decide +kernel
theorem d_5_10_28 : decode prog_5_method_10_code 28 = .ok (.invokevirtual 52, 3) := by decide +kernel
theorem d_5_10_31 : decode prog_5_method_10_code 31 = .ok (.aload_n 1, 1) := by decide +kernel
theorem d_5_10_32 : decode prog_5_method_10_code 32 = .ok (.aload_n 0, 1) := by decide +kernel
theorem d_5_10_33 : decode prog_5_method_10_code 33 = .ok (.getfield 33, 3) := by decide +kernel
theorem d_5_10_36 : decode prog_5_method_10_code 36 = .ok (.iconst 2, 1) := by decide +kernel
theorem d_5_10_37 : decode prog_5_method_10_code 37 = .ok (.invokevirtual 61, 3) := by decide +kernel
set_option maxRecDepth 100000 in
theorem w_1585 : (Cond.code ({ cls := "NumberHouse$Sheet", name := "addPower", desc := "(II)V" } : MethodName) prog_11_method_6_code (6 : Nat) (none : Option ClassFile.FieldType)) ∈ q_tbl := q_of7 145 rfl (by decide +kernel)
set_option maxRecDepth 100000 in
theorem w_1669 : (Cond.methodLink "NumberHouse$Digits" (61 : Nat) ({ cls := "NumberHouse$Sheet", name := "addPower", desc := "(II)V" } : MethodName)) ∈ q_tbl := q_of7 229 rfl (by decide +kernel)
set_option maxRecDepth 100000 in
theorem w_1583 : (Cond.instanceMethod ({ cls := "NumberHouse$Sheet", name := "addPower", desc := "(II)V" } : MethodName)) ∈ q_tbl := q_of7 143 rfl (by decide +kernel)
set_option maxRecDepth 100000 in
theorem w_1584 : (Cond.selects "NumberHouse$Sheet" ({ cls := "NumberHouse$Sheet", name := "addPower", desc := "(II)V" } : MethodName) ({ cls := "NumberHouse$Sheet", name := "addPower", desc := "(II)V" } : MethodName)) ∈ q_tbl := q_of7 144 rfl (by decide +kernel)
theorem LV_Dig_61 : q_LV "NumberHouse$Digits" 61 y_She_addPower prog_11_method_6_code 6 none 2 := ⟨w_1585, w_2, w_1669, w_1583, w_1584, ⟨by decide, by decide, by decide +kernel⟩⟩
theorem d_5_10_40 : decode prog_5_method_10_code 40 = .ok (.return_, 1) := by decide +kernel
theorem d_5_10_21 : decode prog_5_method_10_code 21 = .ok (.bipush 45, 2) := by decide +kernel
theorem d_5_10_23 : decode prog_5_method_10_code 23 = .ok (.goto 5, 3) := by decide +kernel
def y_Dig_writeScience : MethodName := ⟨"NumberHouse$Digits", "writeScience", "(LNumberHouse$Sheet;IZ)V"⟩
set_option maxRecDepth 100000 in
set_option maxHeartbeats 4000000 in
theorem T_Dig_writeScience (l : Launch) (D : va_G) (g : Nat → ClassId) (q : Nat → Nat) (ws : va_W) (k2 : Nat) (R N K : Int32) (hB2 : q_isShe (nsh g q) g q k2 R N K) (x3 : Int32) (x4 : Int32) (hI : q_I (nsh g q) q ws) (t0_0 : Int32) (t0_1 : Int32) (hT0 : ws[36]? = (some (q 36, .inr (7, [.int t0_0, .int t0_1, .ref (q 37)])) : Option (Nat × va_E))) (t1_0 : Int32) (hT1 : ws[k2]? = (some (q k2, .inr (1, [.ref (q (k2 + 1)), .int R, .int t1_0])) : Option (Nat × va_E))) (hzx4 : 0 ≤ x4.toInt ∧ x4.toInt ≤ 1) (pre0 : x3.toInt ≤ 20000) (pre1 : t1_0.toInt ≤ 400000) (pre2 : 1000000 ≤ K.toInt) : q_mV l y_Dig_writeScience prog_5_method_10_code 4 3 0 0 D g [.ref (q 36), .ref (q k2), .int x3, .int x4] ws (fun u => q_I (nsh g q) q u ∧ q_un ws u [k2, k2 + 1] ∧ ∃ (u1_0 : Int32), u[k2]? = (some (q k2, .inr (1, [.ref (q (k2 + 1)), .int R, .int u1_0])) : Option (Nat × va_E)) ∧ (x3.toInt + 2 ≤ u1_0.toInt) ∧ (x4.toInt + 3 ≤ u1_0.toInt) ∧ (t1_0.toInt + 3 ≤ u1_0.toInt) ∧ (u1_0.toInt ≤ t1_0.toInt + 20008)) := by
  intro sz
  refine q_into (by decide) (Nat.le_of_ble_eq_true rfl) ?_
  intro p e s m below meth c ls hsz C0 V hl
  have hx := C0.1
  have hb := C0.2.1
  have hfk20 : q_F (0 ≤ R.toInt ∧ R.toInt ≤ 8 * N.toInt ∧ 0 ≤ N.toInt ∧ N.toInt ≤ 1376 ∧ 64 ≤ R.toInt ∧ 64 ≤ K.toInt ∧ K.toInt ≤ 1000000) := hB2.2.2.1
  replace hzx4 : q_F (0 ≤ x4.toInt ∧ x4.toInt ≤ 1) := hzx4
  obtain ⟨yy0_0, yy0_1, hh0, btt0_0, btt0_1⟩ := n_o36 hI
  obtain ⟨rfl, rfl⟩ : t0_0 = yy0_0 ∧ t0_1 = yy0_1 := by have z := Option.some.inj (hT0.symm.trans hh0); simpa using z
  replace btt0_0 : q_F (0 ≤ t0_0.toInt ∧ t0_0.toInt ≤ 1026) := btt0_0
  replace btt0_1 : q_F (-1000000 ≤ t0_1.toInt ∧ t0_1.toInt ≤ 1000000) := btt0_1
  obtain ⟨yy1_0, hh1, btt1_0⟩ := n_shO hI hB2
  obtain ⟨rfl⟩ : t1_0 = yy1_0 := by have z := Option.some.inj (hT1.symm.trans hh1); simpa using z
  replace btt1_0 : q_F (0 ≤ t1_0.toInt ∧ t1_0.toInt ≤ K.toInt) := btt1_0
  replace pre0 : q_F (x3.toInt ≤ 20000) := pre0
  replace pre1 : q_F (t1_0.toInt ≤ 400000) := pre1
  replace pre2 : q_F (1000000 ≤ K.toInt) := pre2
  have hF : q_un ws ws [k2, k2 + 1] := q_u0
  have hl : lv_has ls 4 [(0, .ref (q 36)), (1, .ref (q k2)), (2, .int x3), (3, .int x4)] := hl
  refine lv_aload_n hx hb d_5_10_0 rfl (lv_at hl 0 rfl) ?_
  refine lv_aload_n hx hb d_5_10_1 rfl (lv_at hl 1 rfl) ?_
  refine lv_iload_n hx hb d_5_10_2 rfl (lv_at hl 2 rfl) ?_
  refine lv_iload_n hx hb d_5_10_3 rfl (lv_at hl 3 rfl) ?_
  refine q_gov V (q_runV (As := [.ref (q k2), .int x3, .int x4]) (rest := []) (d := 2) (mc := 0) (ms := 0) (ci := 7) C0 V rfl LV_Dig_57 (T_Dig_writeHead l D g q ws k2 R N K hB2 x3 x4 hI t0_0 t0_1 hT0 t1_0 hT1 ⟨(by have t1 : 0 ≤ x4.toInt ∧ x4.toInt ≤ 1 := hzx4; omega), (by have t1 : 0 ≤ x4.toInt ∧ x4.toInt ≤ 1 := hzx4; omega)⟩ (by have t1 : x3.toInt ≤ 20000 := pre0; omega) (by have t1 : t1_0.toInt ≤ 400000 := pre1; omega) (by have t1 : 1000000 ≤ K.toInt := pre2; omega) _) rfl rfl hT0 rfl hl.1 rfl (Nat.le_of_ble_eq_true rfl) ⟨by decide, by decide⟩ ⟨Nat.le_of_ble_eq_true rfl, Nat.le_of_ble_eq_true rfl⟩ d_5_10_4) (fun u9 H locs hp10 V => ?_)
  obtain ⟨hI, hu17, y12, hO11, b13, b14, b15, b16⟩ := hp10
  replace hO11 : u9[k2]? = (some (q k2, .inr (1, [.ref (q (k2 + 1)), .int R, .int y12])) : Option (Nat × va_E)) := hO11
  replace b13 : q_F (x3.toInt ≤ y12.toInt) := b13
  replace b14 : q_F (x4.toInt + 1 ≤ y12.toInt) := b14
  replace b15 : q_F (t1_0.toInt + 1 ≤ y12.toInt) := b15
  replace b16 : q_F (y12.toInt ≤ t1_0.toInt + 20001) := b16
  replace hT0 := (hu17 _ (by have z0 := hB2.2.2.2; simp only [List.mem_cons, List.not_mem_nil, or_false, not_or]; omega)).trans hT0
  replace hF := q_uc hF hu17 (by simp)
  refine lv_aload_n hx hb d_5_10_7 rfl (lv_at hl 1 rfl) ?_
  refine lv_bipush (v := 101) hx hb d_5_10_8 (by decide) ?_
  refine q_gov V (q_runV (As := [.int 101]) (rest := []) (d := 1) (mc := 0) (ms := 0) (ci := 1) C0 V rfl LV_Dig_52 (T_She_add l D g q u9 k2 R N K hB2 101 hI y12 hO11 (by have y0 : (101 : Int32).toInt = 101 := rfl; have t1 : t1_0.toInt ≤ 400000 := pre1; have t2 : 1000000 ≤ K.toInt := pre2; have t3 : y12.toInt ≤ t1_0.toInt + 20001 := b16; omega) _) rfl rfl hO11 rfl hl.1 rfl (Nat.le_of_ble_eq_true rfl) ⟨by decide, by decide⟩ ⟨Nat.le_of_ble_eq_true rfl, Nat.le_of_ble_eq_true rfl⟩ d_5_10_10) (fun u18 H locs hp19 V => ?_)
  obtain ⟨hI, hu24, y21, hO20, b22, b23⟩ := hp19
  replace hO20 : u18[k2]? = (some (q k2, .inr (1, [.ref (q (k2 + 1)), .int R, .int y21])) : Option (Nat × va_E)) := hO20
  replace b22 : q_F (y12.toInt + 1 ≤ y21.toInt) := b22
  replace b23 : q_F (y21.toInt ≤ y12.toInt + 1) := b23
  replace hT0 := (hu24 _ (by have z0 := hB2.2.2.2; simp only [List.mem_cons, List.not_mem_nil, or_false, not_or]; omega)).trans hT0
  replace hF := q_uc hF hu24 (by simp)
  refine lv_aload_n hx hb d_5_10_13 rfl (lv_at hl 1 rfl) ?_
  refine lv_aload_n hx hb d_5_10_14 rfl (lv_at hl 0 rfl) ?_
  refine q_get (ci := 7) (j := 1) (v := .int t0_1) C0 V i_Dig rfl rfl hT0 (by decide) w_266 rfl d_5_10_15 ?_
  refine lv_if_ge (tgt := 26) hx hb d_5_10_18 (by decide) (fun c25 => ?_) (fun c25 => ?_)
  ·
    have b26 : q_F (0 ≤ t0_1.toInt) := (q_leI c25)
    refine lv_bipush (v := 43) hx hb d_5_10_26 (by decide) ?_
    refine q_gov V (q_runV (As := [.int 43]) (rest := []) (d := 1) (mc := 0) (ms := 0) (ci := 1) C0 V rfl LV_Dig_52 (T_She_add l D g q u18 k2 R N K hB2 43 hI y21 hO20 (by have y0 : (43 : Int32).toInt = 43 := rfl; have t1 : t1_0.toInt ≤ 400000 := pre1; have t2 : 1000000 ≤ K.toInt := pre2; have t3 : y12.toInt ≤ t1_0.toInt + 20001 := b16; have t4 : y21.toInt ≤ y12.toInt + 1 := b23; omega) _) rfl rfl hO20 rfl hl.1 rfl (Nat.le_of_ble_eq_true rfl) ⟨by decide, by decide⟩ ⟨Nat.le_of_ble_eq_true rfl, Nat.le_of_ble_eq_true rfl⟩ d_5_10_28) (fun u27 H locs hp28 V => ?_)
    obtain ⟨hI, hu33, y30, hO29, b31, b32⟩ := hp28
    replace hO29 : u27[k2]? = (some (q k2, .inr (1, [.ref (q (k2 + 1)), .int R, .int y30])) : Option (Nat × va_E)) := hO29
    replace b31 : q_F (y21.toInt + 1 ≤ y30.toInt) := b31
    replace b32 : q_F (y30.toInt ≤ y21.toInt + 1) := b32
    replace hT0 := (hu33 _ (by have z0 := hB2.2.2.2; simp only [List.mem_cons, List.not_mem_nil, or_false, not_or]; omega)).trans hT0
    replace hF := q_uc hF hu33 (by simp)
    refine lv_aload_n hx hb d_5_10_31 rfl (lv_at hl 1 rfl) ?_
    refine lv_aload_n hx hb d_5_10_32 rfl (lv_at hl 0 rfl) ?_
    refine q_get (ci := 7) (j := 1) (v := .int t0_1) C0 V i_Dig rfl rfl hT0 (by decide) w_266 rfl d_5_10_33 ?_
    refine lv_iconst (v := 2) hx hb d_5_10_36 (by decide) ?_
    refine q_gov V (q_runV (As := [.int t0_1, .int 2]) (rest := []) (d := 2) (mc := 0) (ms := 0) (ci := 1) C0 V rfl LV_Dig_61 (T_She_addPower l D g q u27 k2 R N K hB2 t0_1 2 hI y30 hO29 (by have y0 : (2 : Int32).toInt = 2 := rfl; have t1 : t1_0.toInt ≤ 400000 := pre1; have t2 : 1000000 ≤ K.toInt := pre2; have t3 : y12.toInt ≤ t1_0.toInt + 20001 := b16; have t4 : y21.toInt ≤ y12.toInt + 1 := b23; have t5 : y30.toInt ≤ y21.toInt + 1 := b32; omega) _) rfl rfl hO29 rfl hl.1 rfl (Nat.le_of_ble_eq_true rfl) ⟨by decide, by decide⟩ ⟨Nat.le_of_ble_eq_true rfl, Nat.le_of_ble_eq_true rfl⟩ d_5_10_37) (fun u34 H locs hp35 V => ?_)
    obtain ⟨hI, hu40, y37, hO36, b38, b39⟩ := hp35
    replace hO36 : u34[k2]? = (some (q k2, .inr (1, [.ref (q (k2 + 1)), .int R, .int y37])) : Option (Nat × va_E)) := hO36
    replace b38 : q_F (y30.toInt ≤ y37.toInt) := b38
    replace b39 : q_F (y37.toInt ≤ y30.toInt + 5) := b39
    replace hT0 := (hu40 _ (by have z0 := hB2.2.2.2; simp only [List.mem_cons, List.not_mem_nil, or_false, not_or]; omega)).trans hT0
    replace hF := q_uc hF hu40 (by simp)
    exact q_retv C0 V (⟨hI, hF, y37, hO36, (show x3.toInt + 2 ≤ y37.toInt from (by have t1 : x3.toInt ≤ y12.toInt := b13; have t2 : y12.toInt + 1 ≤ y21.toInt := b22; have t3 : y21.toInt + 1 ≤ y30.toInt := b31; have t4 : y30.toInt ≤ y37.toInt := b38; omega)), (show x4.toInt + 3 ≤ y37.toInt from (by have t1 : x4.toInt + 1 ≤ y12.toInt := b14; have t2 : y12.toInt + 1 ≤ y21.toInt := b22; have t3 : y21.toInt + 1 ≤ y30.toInt := b31; have t4 : y30.toInt ≤ y37.toInt := b38; omega)), (show t1_0.toInt + 3 ≤ y37.toInt from (by have t1 : t1_0.toInt + 1 ≤ y12.toInt := b15; have t2 : y12.toInt + 1 ≤ y21.toInt := b22; have t3 : y21.toInt + 1 ≤ y30.toInt := b31; have t4 : y30.toInt ≤ y37.toInt := b38; omega)), (show y37.toInt ≤ t1_0.toInt + 20008 from (by have t1 : y12.toInt ≤ t1_0.toInt + 20001 := b16; have t2 : y21.toInt ≤ y12.toInt + 1 := b23; have t3 : y30.toInt ≤ y21.toInt + 1 := b32; have t4 : y37.toInt ≤ y30.toInt + 5 := b39; omega))⟩) d_5_10_40
  ·
    have b41 : q_F (t0_1.toInt < 0) := (q_nleI c25)
    refine lv_bipush (v := 45) hx hb d_5_10_21 (by decide) ?_
    refine lv_goto (tgt := 28) hx hb d_5_10_23 (by decide) ?_
    refine q_gov V (q_runV (As := [.int 45]) (rest := []) (d := 1) (mc := 0) (ms := 0) (ci := 1) C0 V rfl LV_Dig_52 (T_She_add l D g q u18 k2 R N K hB2 45 hI y21 hO20 (by have y0 : (45 : Int32).toInt = 45 := rfl; have t1 : t1_0.toInt ≤ 400000 := pre1; have t2 : 1000000 ≤ K.toInt := pre2; have t3 : y12.toInt ≤ t1_0.toInt + 20001 := b16; have t4 : y21.toInt ≤ y12.toInt + 1 := b23; omega) _) rfl rfl hO20 rfl hl.1 rfl (Nat.le_of_ble_eq_true rfl) ⟨by decide, by decide⟩ ⟨Nat.le_of_ble_eq_true rfl, Nat.le_of_ble_eq_true rfl⟩ d_5_10_28) (fun u42 H locs hp43 V => ?_)
    obtain ⟨hI, hu48, y45, hO44, b46, b47⟩ := hp43
    replace hO44 : u42[k2]? = (some (q k2, .inr (1, [.ref (q (k2 + 1)), .int R, .int y45])) : Option (Nat × va_E)) := hO44
    replace b46 : q_F (y21.toInt + 1 ≤ y45.toInt) := b46
    replace b47 : q_F (y45.toInt ≤ y21.toInt + 1) := b47
    replace hT0 := (hu48 _ (by have z0 := hB2.2.2.2; simp only [List.mem_cons, List.not_mem_nil, or_false, not_or]; omega)).trans hT0
    replace hF := q_uc hF hu48 (by simp)
    refine lv_aload_n hx hb d_5_10_31 rfl (lv_at hl 1 rfl) ?_
    refine lv_aload_n hx hb d_5_10_32 rfl (lv_at hl 0 rfl) ?_
    refine q_get (ci := 7) (j := 1) (v := .int t0_1) C0 V i_Dig rfl rfl hT0 (by decide) w_266 rfl d_5_10_33 ?_
    refine lv_iconst (v := 2) hx hb d_5_10_36 (by decide) ?_
    refine q_gov V (q_runV (As := [.int t0_1, .int 2]) (rest := []) (d := 2) (mc := 0) (ms := 0) (ci := 1) C0 V rfl LV_Dig_61 (T_She_addPower l D g q u42 k2 R N K hB2 t0_1 2 hI y45 hO44 (by have y0 : (2 : Int32).toInt = 2 := rfl; have t1 : t1_0.toInt ≤ 400000 := pre1; have t2 : 1000000 ≤ K.toInt := pre2; have t3 : y12.toInt ≤ t1_0.toInt + 20001 := b16; have t4 : y21.toInt ≤ y12.toInt + 1 := b23; have t5 : y45.toInt ≤ y21.toInt + 1 := b47; omega) _) rfl rfl hO44 rfl hl.1 rfl (Nat.le_of_ble_eq_true rfl) ⟨by decide, by decide⟩ ⟨Nat.le_of_ble_eq_true rfl, Nat.le_of_ble_eq_true rfl⟩ d_5_10_37) (fun u49 H locs hp50 V => ?_)
    obtain ⟨hI, hu55, y52, hO51, b53, b54⟩ := hp50
    replace hO51 : u49[k2]? = (some (q k2, .inr (1, [.ref (q (k2 + 1)), .int R, .int y52])) : Option (Nat × va_E)) := hO51
    replace b53 : q_F (y45.toInt ≤ y52.toInt) := b53
    replace b54 : q_F (y52.toInt ≤ y45.toInt + 5) := b54
    replace hT0 := (hu55 _ (by have z0 := hB2.2.2.2; simp only [List.mem_cons, List.not_mem_nil, or_false, not_or]; omega)).trans hT0
    replace hF := q_uc hF hu55 (by simp)
    exact q_retv C0 V (⟨hI, hF, y52, hO51, (show x3.toInt + 2 ≤ y52.toInt from (by have t1 : x3.toInt ≤ y12.toInt := b13; have t2 : y12.toInt + 1 ≤ y21.toInt := b22; have t3 : y21.toInt + 1 ≤ y45.toInt := b46; have t4 : y45.toInt ≤ y52.toInt := b53; omega)), (show x4.toInt + 3 ≤ y52.toInt from (by have t1 : x4.toInt + 1 ≤ y12.toInt := b14; have t2 : y12.toInt + 1 ≤ y21.toInt := b22; have t3 : y21.toInt + 1 ≤ y45.toInt := b46; have t4 : y45.toInt ≤ y52.toInt := b53; omega)), (show t1_0.toInt + 3 ≤ y52.toInt from (by have t1 : t1_0.toInt + 1 ≤ y12.toInt := b15; have t2 : y12.toInt + 1 ≤ y21.toInt := b22; have t3 : y21.toInt + 1 ≤ y45.toInt := b46; have t4 : y45.toInt ≤ y52.toInt := b53; omega)), (show y52.toInt ≤ t1_0.toInt + 20008 from (by have t1 : y12.toInt ≤ t1_0.toInt + 20001 := b16; have t2 : y21.toInt ≤ y12.toInt + 1 := b23; have t3 : y45.toInt ≤ y21.toInt + 1 := b47; have t4 : y52.toInt ≤ y45.toInt + 5 := b54; omega))⟩) d_5_10_40
theorem d_5_12_0 : decode prog_5_method_12_code 0 = .ok (.iconst 0, 1) := by decide +kernel
theorem d_5_12_1 : decode prog_5_method_12_code 1 = .ok (.istore 4, 2) := by decide +kernel
theorem d_5_12_3 : decode prog_5_method_12_code 3 = .ok (.iload 4, 2) := by decide +kernel
theorem d_5_12_5 : decode prog_5_method_12_code 5 = .ok (.iload_n 2, 1) := by decide +kernel
theorem d_5_12_6 : decode prog_5_method_12_code 6 = .ok (.iload_n 3, 1) := by decide +kernel
theorem d_5_12_7 : decode prog_5_method_12_code 7 = .ok (.invokestatic 40, 3) := by decide +kernel
theorem d_5_12_10 : decode prog_5_method_12_code 10 = .ok (.if_icmp .ge 34, 3) := by decide +kernel
theorem d_5_12_44 : decode prog_5_method_12_code 44 = .ok (.return_, 1) := by decide +kernel
theorem d_5_12_13 : decode prog_5_method_12_code 13 = .ok (.iload 4, 2) := by decide +kernel
theorem d_5_12_15 : decode prog_5_method_12_code 15 = .ok (.iload_n 2, 1) := by decide +kernel
theorem d_5_12_16 : decode prog_5_method_12_code 16 = .ok (.if_icmp .ne 9, 3) := by decide +kernel
theorem d_5_12_25 : decode prog_5_method_12_code 25 = .ok (.aload_n 1, 1) := by decide +kernel
theorem d_5_12_26 : decode prog_5_method_12_code 26 = .ok (.bipush 48, 2) := by decide +kernel
theorem d_5_12_28 : decode prog_5_method_12_code 28 = .ok (.aload_n 0, 1) := by decide +kernel
theorem d_5_12_29 : decode prog_5_method_12_code 29 = .ok (.iload 4, 2) := by decide +kernel
theorem d_5_12_31 : decode prog_5_method_12_code 31 = .ok (.invokevirtual 49, 3) := by decide +kernel
theorem d_5_12_34 : decode prog_5_method_12_code 34 = .ok (.iadd, 1) := by decide +kernel
theorem d_5_12_35 : decode prog_5_method_12_code 35 = .ok (.invokevirtual 52, 3) := by decide +kernel
theorem d_5_12_38 : decode prog_5_method_12_code 38 = .ok (.iinc 4 1, 3) := by decide +kernel
theorem d_5_12_41 : decode prog_5_method_12_code 41 = .ok (.goto (-38), 3) := by decide +kernel
theorem d_5_12_19 : decode prog_5_method_12_code 19 = .ok (.aload_n 1, 1) := by decide +kernel
theorem d_5_12_20 : decode prog_5_method_12_code 20 = .ok (.bipush 46, 2) := by decide +kernel
theorem d_5_12_22 : decode prog_5_method_12_code 22 = .ok (.invokevirtual 52, 3) := by decide +kernel
def y_Dig_writeSplit : MethodName := ⟨"NumberHouse$Digits", "writeSplit", "(LNumberHouse$Sheet;II)V"⟩
set_option maxRecDepth 100000 in
set_option maxHeartbeats 4000000 in
theorem T_Dig_writeSplit (l : Launch) (D : va_G) (g : Nat → ClassId) (q : Nat → Nat) (ws : va_W) (k2 : Nat) (R N K : Int32) (hB2 : q_isShe (nsh g q) g q k2 R N K) (x3 : Int32) (x4 : Int32) (hI : q_I (nsh g q) q ws) (t0_0 : Int32) (t0_1 : Int32) (hT0 : ws[36]? = (some (q 36, .inr (7, [.int t0_0, .int t0_1, .ref (q 37)])) : Option (Nat × va_E))) (t1_0 : Int32) (hT1 : ws[k2]? = (some (q k2, .inr (1, [.ref (q (k2 + 1)), .int R, .int t1_0])) : Option (Nat × va_E))) (pre0 : x3.toInt ≤ 20000) (pre1 : x4.toInt ≤ 20000) (pre2 : t1_0.toInt ≤ 400000) (pre3 : 1000000 ≤ K.toInt) : q_mV l y_Dig_writeSplit prog_5_method_12_code 5 2 0 0 D g [.ref (q 36), .ref (q k2), .int x3, .int x4] ws (fun u => q_I (nsh g q) q u ∧ q_un ws u [k2, k2 + 1] ∧ ∃ (u1_0 : Int32), u[k2]? = (some (q k2, .inr (1, [.ref (q (k2 + 1)), .int R, .int u1_0])) : Option (Nat × va_E)) ∧ (x3.toInt ≤ u1_0.toInt) ∧ (x4.toInt ≤ u1_0.toInt) ∧ (t1_0.toInt ≤ u1_0.toInt) ∧ (u1_0.toInt ≤ t1_0.toInt + 40000)) := by
  intro sz
  refine q_into (by decide) (Nat.le_of_ble_eq_true rfl) ?_
  intro p e s m below meth c ls hsz C0 V hl
  have hx := C0.1
  have hb := C0.2.1
  have hfk20 : q_F (0 ≤ R.toInt ∧ R.toInt ≤ 8 * N.toInt ∧ 0 ≤ N.toInt ∧ N.toInt ≤ 1376 ∧ 64 ≤ R.toInt ∧ 64 ≤ K.toInt ∧ K.toInt ≤ 1000000) := hB2.2.2.1
  obtain ⟨yy0_0, yy0_1, hh0, btt0_0, btt0_1⟩ := n_o36 hI
  obtain ⟨rfl, rfl⟩ : t0_0 = yy0_0 ∧ t0_1 = yy0_1 := by have z := Option.some.inj (hT0.symm.trans hh0); simpa using z
  replace btt0_0 : q_F (0 ≤ t0_0.toInt ∧ t0_0.toInt ≤ 1026) := btt0_0
  replace btt0_1 : q_F (-1000000 ≤ t0_1.toInt ∧ t0_1.toInt ≤ 1000000) := btt0_1
  obtain ⟨yy1_0, hh1, btt1_0⟩ := n_shO hI hB2
  obtain ⟨rfl⟩ : t1_0 = yy1_0 := by have z := Option.some.inj (hT1.symm.trans hh1); simpa using z
  replace btt1_0 : q_F (0 ≤ t1_0.toInt ∧ t1_0.toInt ≤ K.toInt) := btt1_0
  replace pre0 : q_F (x3.toInt ≤ 20000) := pre0
  replace pre1 : q_F (x4.toInt ≤ 20000) := pre1
  replace pre2 : q_F (t1_0.toInt ≤ 400000) := pre2
  replace pre3 : q_F (1000000 ≤ K.toInt) := pre3
  have hF : q_un ws ws [k2, k2 + 1] := q_u0
  have hl : lv_has ls 5 [(0, .ref (q 36)), (1, .ref (q k2)), (2, .int x3), (3, .int x4)] := hl
  refine lv_iconst (v := 0) hx hb d_5_12_0 (by decide) ?_
  refine lv_istore (lv' := [(4, .int 0), (0, .ref (q 36)), (1, .ref (q k2)), (2, .int x3), (3, .int x4)]) hx hb d_5_12_1 hl (by decide) rfl (fun ls hl => ?_)
  refine q_loop (X := Int32 × Int32) (fun z H locs ls w18 => q_F (z.1.toInt ≤ 20000) ∧ q_F (z.1.toInt + t1_0.toInt ≤ z.2.toInt) ∧ q_F (z.2.toInt ≤ 2 * z.1.toInt + t1_0.toInt) ∧ q_Wd D g (va_A ws sz) s w18 H locs ∧ lv_has ls 5 [(4, .int z.1), (0, .ref (q 36)), (1, .ref (q k2)), (2, .int x3), (3, .int x4)] ∧ q_I (nsh g q) q w18 ∧ q_un ws w18 [k2, k2 + 1] ∧ w18[36]? = (some (q 36, .inr (7, [.int t0_0, .int t0_1, .ref (q 37)])) : Option (Nat × va_E)) ∧ w18[k2]? = (some (q k2, .inr (1, [.ref (q (k2 + 1)), .int R, .int z.2])) : Option (Nat × va_E))) (fun z => (20000 - z.1.toInt).toNat) ?_ ((0 : Int32), (t1_0 : Int32)) _ _ _ ws ⟨(show q_F (0 ≤ 20000) from (show 0 ≤ 20000 from by omega)), (show q_F (0 + t1_0.toInt ≤ t1_0.toInt) from (show 0 + t1_0.toInt ≤ t1_0.toInt from by omega)), (show q_F (t1_0.toInt ≤ 2 * 0 + t1_0.toInt) from (show t1_0.toInt ≤ 2 * 0 + t1_0.toInt from by omega)), V, q_lw hl (q_lw1 0 rfl (q_lw1 1 rfl (q_lw1 2 rfl (q_lw1 3 rfl (q_lw1 4 rfl q_lw0))))), hI, hF, hT0, hT1⟩
  rintro ⟨lx12, lx13⟩ H locs ls w18 ⟨i14, i15, i16, V, hl, hI, hF, hO19, hO20⟩ ih17
  replace i14 : q_F (lx12.toInt ≤ 20000) := i14
  replace i15 : q_F (lx12.toInt + t1_0.toInt ≤ lx13.toInt) := i15
  replace i16 : q_F (lx13.toInt ≤ 2 * lx12.toInt + t1_0.toInt) := i16
  replace hl : lv_has ls 5 [(4, .int lx12), (0, .ref (q 36)), (1, .ref (q k2)), (2, .int x3), (3, .int x4)] := hl
  replace hO19 : w18[36]? = (some (q 36, .inr (7, [.int t0_0, .int t0_1, .ref (q 37)])) : Option (Nat × va_E)) := hO19
  replace hO20 : w18[k2]? = (some (q k2, .inr (1, [.ref (q (k2 + 1)), .int R, .int lx13])) : Option (Nat × va_E)) := hO20
  refine lv_iload hx hb d_5_12_3 (lv_at hl 0 rfl) ?_
  refine lv_iload_n hx hb d_5_12_5 rfl (lv_at hl 3 rfl) ?_
  refine lv_iload_n hx hb d_5_12_6 rfl (lv_at hl 4 rfl) ?_
  refine q_max C0 hl.1 rfl w_1571 w_803 w_7 w_804 ⟨Nat.le_of_ble_eq_true rfl, Nat.le_of_ble_eq_true rfl⟩ ⟨Nat.le_of_ble_eq_true rfl, Nat.le_of_ble_eq_true rfl⟩ d_5_12_7 ?_
  obtain ⟨a21, e22⟩ := q_nm (if x3 < x4 then x4 else x3 : Int32)
  refine q_ti (v := a21) e22 ?_
  have b23 : q_F (x3.toInt ≤ a21.toInt ∧ x4.toInt ≤ a21.toInt ∧ (a21.toInt = x3.toInt ∨ a21.toInt = x4.toInt)) := (by rw [← e22]; show x3.toInt ≤ (if x3 < x4 then x4 else x3 : Int32).toInt ∧ x4.toInt ≤ (if x3 < x4 then x4 else x3 : Int32).toInt ∧ ((if x3 < x4 then x4 else x3 : Int32).toInt = x3.toInt ∨ (if x3 < x4 then x4 else x3 : Int32).toInt = x4.toInt); exact s_max (a := x3) (b := x4))
  refine lv_icmp_ge (tgt := 44) hx hb d_5_12_10 (by decide) (fun c24 => ?_) (fun c24 => ?_)
  ·
    have b25 : q_F (a21.toInt ≤ lx12.toInt) := (q_leI c24)
    exact q_retv C0 V (⟨hI, hF, lx13, hO20, (show x3.toInt ≤ lx13.toInt from (by have t1 : 0 ≤ t1_0.toInt ∧ t1_0.toInt ≤ K.toInt := btt1_0; have t2 : lx12.toInt + t1_0.toInt ≤ lx13.toInt := i15; have t3 : x3.toInt ≤ a21.toInt ∧ x4.toInt ≤ a21.toInt ∧ (a21.toInt = x3.toInt ∨ a21.toInt = x4.toInt) := b23; have t4 : a21.toInt ≤ lx12.toInt := b25; omega)), (show x4.toInt ≤ lx13.toInt from (by have t1 : 0 ≤ t1_0.toInt ∧ t1_0.toInt ≤ K.toInt := btt1_0; have t2 : lx12.toInt + t1_0.toInt ≤ lx13.toInt := i15; have t3 : x3.toInt ≤ a21.toInt ∧ x4.toInt ≤ a21.toInt ∧ (a21.toInt = x3.toInt ∨ a21.toInt = x4.toInt) := b23; have t4 : a21.toInt ≤ lx12.toInt := b25; omega)), (show t1_0.toInt ≤ lx13.toInt from (by have t1 : lx12.toInt + t1_0.toInt ≤ lx13.toInt := i15; have t2 : lx13.toInt ≤ 2 * lx12.toInt + t1_0.toInt := i16; omega)), (show lx13.toInt ≤ t1_0.toInt + 40000 from (by have t1 : lx12.toInt ≤ 20000 := i14; have t2 : lx13.toInt ≤ 2 * lx12.toInt + t1_0.toInt := i16; omega))⟩) d_5_12_44
  ·
    have b26 : q_F (lx12.toInt < a21.toInt) := (q_nleI c24)
    refine lv_iload hx hb d_5_12_13 (lv_at hl 0 rfl) ?_
    refine lv_iload_n hx hb d_5_12_15 rfl (lv_at hl 3 rfl) ?_
    refine lv_icmp_ne (tgt := 25) hx hb d_5_12_16 (by decide) (fun c27 => ?_) (fun c27 => ?_)
    ·
      have b28 : q_F (lx12.toInt ≠ x3.toInt) := (q_neI c27)
      refine lv_aload_n hx hb d_5_12_25 rfl (lv_at hl 2 rfl) ?_
      refine lv_bipush (v := 48) hx hb d_5_12_26 (by decide) ?_
      refine lv_aload_n hx hb d_5_12_28 rfl (lv_at hl 1 rfl) ?_
      refine lv_iload hx hb d_5_12_29 (lv_at hl 0 rfl) ?_
      refine q_goi V (q_runV (As := [.int lx12]) (rest := [.int 48, .ref (q k2)]) (d := 1) (mc := 0) (ms := 0) (ci := 7) C0 V rfl LV_Dig_49 (T_Dig_figure l D g q w18  lx12 hI   _) rfl rfl hO19 rfl hl.1 rfl (Nat.le_of_ble_eq_true rfl) ⟨by decide, by decide⟩ ⟨Nat.le_of_ble_eq_true rfl, Nat.le_of_ble_eq_true rfl⟩ d_5_12_31) (fun a31 u29 H locs hp30 V => ?_)
      obtain ⟨rfl, -⟩ := hp30
      refine lv_iadd hx hb d_5_12_34 ?_
      obtain ⟨a32, e33⟩ := q_nm (48 + a31 : Int32)
      refine q_ti (v := a32) e33 ?_
      refine q_gov V (q_runV (As := [.int a32]) (rest := []) (d := 1) (mc := 0) (ms := 0) (ci := 1) C0 V rfl LV_Dig_52 (T_She_add l D g q w18 k2 R N K hB2 a32 hI lx13 hO20 (by have t1 : t1_0.toInt ≤ 400000 := pre2; have t2 : 1000000 ≤ K.toInt := pre3; have t3 : lx12.toInt ≤ 20000 := i14; have t4 : lx13.toInt ≤ 2 * lx12.toInt + t1_0.toInt := i16; omega) _) rfl rfl hO20 rfl hl.1 rfl (Nat.le_of_ble_eq_true rfl) ⟨by decide, by decide⟩ ⟨Nat.le_of_ble_eq_true rfl, Nat.le_of_ble_eq_true rfl⟩ d_5_12_35) (fun u34 H locs hp35 V => ?_)
      obtain ⟨hI, hu40, y37, hO36, b38, b39⟩ := hp35
      replace hO36 : u34[k2]? = (some (q k2, .inr (1, [.ref (q (k2 + 1)), .int R, .int y37])) : Option (Nat × va_E)) := hO36
      replace b38 : q_F (lx13.toInt + 1 ≤ y37.toInt) := b38
      replace b39 : q_F (y37.toInt ≤ lx13.toInt + 1) := b39
      replace hO19 := (hu40 _ (by have z0 := hB2.2.2.2; simp only [List.mem_cons, List.not_mem_nil, or_false, not_or]; omega)).trans hO19
      replace hF := q_uc hF hu40 (by simp)
      obtain ⟨a41, e42⟩ := q_nm (lx12 + 1 : Int32)
      have b43 : q_F (a41.toInt = lx12.toInt + 1) := (by rw [← e42]; exact q_addI (y := 1) rfl (by decide) (by have t1 : lx12.toInt + t1_0.toInt ≤ lx13.toInt := i15; have t2 : lx13.toInt ≤ 2 * lx12.toInt + t1_0.toInt := i16; have t3 : lx12.toInt ≤ 20000 := i14; omega) (by have t1 : lx12.toInt + t1_0.toInt ≤ lx13.toInt := i15; have t2 : lx13.toInt ≤ 2 * lx12.toInt + t1_0.toInt := i16; have t3 : lx12.toInt ≤ 20000 := i14; omega))
      refine lv_iinc (v := a41) (lv' := [(4, .int a41), (0, .ref (q 36)), (1, .ref (q k2)), (2, .int x3), (3, .int x4)]) hx hb d_5_12_38 hl (k := 0) rfl (e42) (by decide) rfl (fun ls hl => ?_)
      refine lv_goto (tgt := 3) hx hb d_5_12_41 (by decide) ?_
      exact ih17 ((a41 : Int32), (y37 : Int32)) _ _ _ _ (show (20000 - a41.toInt).toNat < (20000 - lx12.toInt).toNat from by have t1 : a41.toInt = lx12.toInt + 1 := b43; have t2 : lx12.toInt ≤ 20000 := i14; have t3 : x3.toInt ≤ 20000 := pre0; have t4 : x4.toInt ≤ 20000 := pre1; have t5 : x3.toInt ≤ a21.toInt ∧ x4.toInt ≤ a21.toInt ∧ (a21.toInt = x3.toInt ∨ a21.toInt = x4.toInt) := b23; have t6 : lx12.toInt < a21.toInt := b26; omega) ⟨(show q_F (a41.toInt ≤ 20000) from (show a41.toInt ≤ 20000 from by have t1 : x3.toInt ≤ 20000 := pre0; have t2 : x4.toInt ≤ 20000 := pre1; have t3 : x3.toInt ≤ a21.toInt ∧ x4.toInt ≤ a21.toInt ∧ (a21.toInt = x3.toInt ∨ a21.toInt = x4.toInt) := b23; have t4 : lx12.toInt < a21.toInt := b26; have t5 : a41.toInt = lx12.toInt + 1 := b43; omega)), (show q_F (a41.toInt + t1_0.toInt ≤ y37.toInt) from (show a41.toInt + t1_0.toInt ≤ y37.toInt from by have t1 : lx12.toInt + t1_0.toInt ≤ lx13.toInt := i15; have t2 : lx13.toInt + 1 ≤ y37.toInt := b38; have t3 : a41.toInt = lx12.toInt + 1 := b43; omega)), (show q_F (y37.toInt ≤ 2 * a41.toInt + t1_0.toInt) from (show y37.toInt ≤ 2 * a41.toInt + t1_0.toInt from by have t1 : lx13.toInt ≤ 2 * lx12.toInt + t1_0.toInt := i16; have t2 : y37.toInt ≤ lx13.toInt + 1 := b39; have t3 : a41.toInt = lx12.toInt + 1 := b43; omega)), V, q_lw hl (q_lw1 0 rfl (q_lw1 1 rfl (q_lw1 2 rfl (q_lw1 3 rfl (q_lw1 4 rfl q_lw0))))), hI, hF, hO19, hO36⟩
    ·
      have b44 : q_F (lx12.toInt = x3.toInt) := (q_eqI c27)
      refine lv_aload_n hx hb d_5_12_19 rfl (lv_at hl 2 rfl) ?_
      refine lv_bipush (v := 46) hx hb d_5_12_20 (by decide) ?_
      refine q_gov V (q_runV (As := [.int 46]) (rest := []) (d := 1) (mc := 0) (ms := 0) (ci := 1) C0 V rfl LV_Dig_52 (T_She_add l D g q w18 k2 R N K hB2 46 hI lx13 hO20 (by have y0 : (46 : Int32).toInt = 46 := rfl; have t1 : t1_0.toInt ≤ 400000 := pre2; have t2 : 1000000 ≤ K.toInt := pre3; have t3 : lx12.toInt ≤ 20000 := i14; have t4 : lx13.toInt ≤ 2 * lx12.toInt + t1_0.toInt := i16; omega) _) rfl rfl hO20 rfl hl.1 rfl (Nat.le_of_ble_eq_true rfl) ⟨by decide, by decide⟩ ⟨Nat.le_of_ble_eq_true rfl, Nat.le_of_ble_eq_true rfl⟩ d_5_12_22) (fun u45 H locs hp46 V => ?_)
      obtain ⟨hI, hu51, y48, hO47, b49, b50⟩ := hp46
      replace hO47 : u45[k2]? = (some (q k2, .inr (1, [.ref (q (k2 + 1)), .int R, .int y48])) : Option (Nat × va_E)) := hO47
      replace b49 : q_F (lx13.toInt + 1 ≤ y48.toInt) := b49
      replace b50 : q_F (y48.toInt ≤ lx13.toInt + 1) := b50
      replace hO19 := (hu51 _ (by have z0 := hB2.2.2.2; simp only [List.mem_cons, List.not_mem_nil, or_false, not_or]; omega)).trans hO19
      replace hF := q_uc hF hu51 (by simp)
      refine lv_aload_n hx hb d_5_12_25 rfl (lv_at hl 2 rfl) ?_
      refine lv_bipush (v := 48) hx hb d_5_12_26 (by decide) ?_
      refine lv_aload_n hx hb d_5_12_28 rfl (lv_at hl 1 rfl) ?_
      refine lv_iload hx hb d_5_12_29 (lv_at hl 0 rfl) ?_
      refine q_goi V (q_runV (As := [.int lx12]) (rest := [.int 48, .ref (q k2)]) (d := 1) (mc := 0) (ms := 0) (ci := 7) C0 V rfl LV_Dig_49 (T_Dig_figure l D g q u45  lx12 hI   _) rfl rfl hO19 rfl hl.1 rfl (Nat.le_of_ble_eq_true rfl) ⟨by decide, by decide⟩ ⟨Nat.le_of_ble_eq_true rfl, Nat.le_of_ble_eq_true rfl⟩ d_5_12_31) (fun a54 u52 H locs hp53 V => ?_)
      obtain ⟨rfl, -⟩ := hp53
      refine lv_iadd hx hb d_5_12_34 ?_
      obtain ⟨a55, e56⟩ := q_nm (48 + a54 : Int32)
      refine q_ti (v := a55) e56 ?_
      refine q_gov V (q_runV (As := [.int a55]) (rest := []) (d := 1) (mc := 0) (ms := 0) (ci := 1) C0 V rfl LV_Dig_52 (T_She_add l D g q u45 k2 R N K hB2 a55 hI y48 hO47 (by have t1 : t1_0.toInt ≤ 400000 := pre2; have t2 : 1000000 ≤ K.toInt := pre3; have t3 : lx12.toInt ≤ 20000 := i14; have t4 : lx13.toInt ≤ 2 * lx12.toInt + t1_0.toInt := i16; have t5 : y48.toInt ≤ lx13.toInt + 1 := b50; omega) _) rfl rfl hO47 rfl hl.1 rfl (Nat.le_of_ble_eq_true rfl) ⟨by decide, by decide⟩ ⟨Nat.le_of_ble_eq_true rfl, Nat.le_of_ble_eq_true rfl⟩ d_5_12_35) (fun u57 H locs hp58 V => ?_)
      obtain ⟨hI, hu63, y60, hO59, b61, b62⟩ := hp58
      replace hO59 : u57[k2]? = (some (q k2, .inr (1, [.ref (q (k2 + 1)), .int R, .int y60])) : Option (Nat × va_E)) := hO59
      replace b61 : q_F (y48.toInt + 1 ≤ y60.toInt) := b61
      replace b62 : q_F (y60.toInt ≤ y48.toInt + 1) := b62
      replace hO19 := (hu63 _ (by have z0 := hB2.2.2.2; simp only [List.mem_cons, List.not_mem_nil, or_false, not_or]; omega)).trans hO19
      replace hF := q_uc hF hu63 (by simp)
      obtain ⟨a64, e65⟩ := q_nm (lx12 + 1 : Int32)
      have b66 : q_F (a64.toInt = lx12.toInt + 1) := (by rw [← e65]; exact q_addI (y := 1) rfl (by decide) (by have t1 : lx12.toInt + t1_0.toInt ≤ lx13.toInt := i15; have t2 : lx13.toInt ≤ 2 * lx12.toInt + t1_0.toInt := i16; have t3 : lx12.toInt ≤ 20000 := i14; omega) (by have t1 : lx12.toInt + t1_0.toInt ≤ lx13.toInt := i15; have t2 : lx13.toInt ≤ 2 * lx12.toInt + t1_0.toInt := i16; have t3 : lx12.toInt ≤ 20000 := i14; omega))
      refine lv_iinc (v := a64) (lv' := [(4, .int a64), (0, .ref (q 36)), (1, .ref (q k2)), (2, .int x3), (3, .int x4)]) hx hb d_5_12_38 hl (k := 0) rfl (e65) (by decide) rfl (fun ls hl => ?_)
      refine lv_goto (tgt := 3) hx hb d_5_12_41 (by decide) ?_
      exact ih17 ((a64 : Int32), (y60 : Int32)) _ _ _ _ (show (20000 - a64.toInt).toNat < (20000 - lx12.toInt).toNat from by have t1 : a64.toInt = lx12.toInt + 1 := b66; have t2 : lx12.toInt ≤ 20000 := i14; have t3 : x3.toInt ≤ 20000 := pre0; have t4 : x4.toInt ≤ 20000 := pre1; have t5 : x3.toInt ≤ a21.toInt ∧ x4.toInt ≤ a21.toInt ∧ (a21.toInt = x3.toInt ∨ a21.toInt = x4.toInt) := b23; have t6 : lx12.toInt < a21.toInt := b26; omega) ⟨(show q_F (a64.toInt ≤ 20000) from (show a64.toInt ≤ 20000 from by have t1 : x3.toInt ≤ 20000 := pre0; have t2 : x4.toInt ≤ 20000 := pre1; have t3 : x3.toInt ≤ a21.toInt ∧ x4.toInt ≤ a21.toInt ∧ (a21.toInt = x3.toInt ∨ a21.toInt = x4.toInt) := b23; have t4 : lx12.toInt < a21.toInt := b26; have t5 : a64.toInt = lx12.toInt + 1 := b66; omega)), (show q_F (a64.toInt + t1_0.toInt ≤ y60.toInt) from (show a64.toInt + t1_0.toInt ≤ y60.toInt from by have t1 : lx12.toInt + t1_0.toInt ≤ lx13.toInt := i15; have t2 : lx13.toInt + 1 ≤ y48.toInt := b49; have t3 : y48.toInt + 1 ≤ y60.toInt := b61; have t4 : a64.toInt = lx12.toInt + 1 := b66; omega)), (show q_F (y60.toInt ≤ 2 * a64.toInt + t1_0.toInt) from (show y60.toInt ≤ 2 * a64.toInt + t1_0.toInt from by have t1 : lx13.toInt ≤ 2 * lx12.toInt + t1_0.toInt := i16; have t2 : y48.toInt ≤ lx13.toInt + 1 := b50; have t3 : y60.toInt ≤ y48.toInt + 1 := b62; have t4 : a64.toInt = lx12.toInt + 1 := b66; omega)), V, q_lw hl (q_lw1 0 rfl (q_lw1 1 rfl (q_lw1 2 rfl (q_lw1 3 rfl (q_lw1 4 rfl q_lw0))))), hI, hF, hO19, hO59⟩
