/-! NumberHouse, exactly: s2.paperAt -/
theorem d_1_21_0 : decode prog_1_method_21_code 0 = .ok (.lconst 0, 1) := by decide +kernel
theorem d_1_21_1 : decode prog_1_method_21_code 1 = .ok (.lstore_n 2, 1) := by decide +kernel
theorem d_1_21_2 : decode prog_1_method_21_code 2 = .ok (.iconst 0, 1) := by decide +kernel
theorem d_1_21_3 : decode prog_1_method_21_code 3 = .ok (.istore 4, 2) := by decide +kernel
theorem d_1_21_5 : decode prog_1_method_21_code 5 = .ok (.iload 4, 2) := by decide +kernel
theorem d_1_21_7 : decode prog_1_method_21_code 7 = .ok (.bipush 8, 2) := by decide +kernel
theorem d_1_21_9 : decode prog_1_method_21_code 9 = .ok (.if_icmp .ge 32, 3) := by decide +kernel
theorem d_1_21_41 : decode prog_1_method_21_code 41 = .ok (.lload_n 2, 1) := by decide +kernel
theorem d_1_21_42 : decode prog_1_method_21_code 42 = .ok (.lreturn, 1) := by decide +kernel
theorem d_1_21_12 : decode prog_1_method_21_code 12 = .ok (.lload_n 2, 1) := by decide +kernel
theorem d_1_21_13 : decode prog_1_method_21_code 13 = .ok (.aload_n 0, 1) := by decide +kernel
theorem d_1_21_14 : decode prog_1_method_21_code 14 = .ok (.getfield 18, 3) := by decide +kernel
theorem d_1_21_17 : decode prog_1_method_21_code 17 = .ok (.iload_n 1, 1) := by decide +kernel
theorem d_1_21_18 : decode prog_1_method_21_code 18 = .ok (.i2l, 1) := by decide +kernel
theorem d_1_21_19 : decode prog_1_method_21_code 19 = .ok (.iload 4, 2) := by decide +kernel
theorem d_1_21_21 : decode prog_1_method_21_code 21 = .ok (.i2l, 1) := by decide +kernel
theorem d_1_21_22 : decode prog_1_method_21_code 22 = .ok (.ladd, 1) := by decide +kernel
theorem d_1_21_23 : decode prog_1_method_21_code 23 = .ok (.invokevirtual 366, 3) := by decide +kernel
set_option maxRecDepth 100000 in
theorem w_479 : (Cond.methodLink "NumberHouse" (366 : Nat) ({ cls := "NumberHouse$Sheet", name := "at", desc := "(J)I" } : MethodName)) ∈ q_tbl := q_of2 239 rfl (by decide +kernel)
theorem LV_NH_366 : q_LV "NumberHouse" 366 y_She_at prog_11_method_8_code 3 (some .int) 1 := ⟨w_482, w_2, w_479, w_480, w_481, ⟨by decide, by decide, by decide +kernel⟩⟩
theorem d_1_21_26 : decode prog_1_method_21_code 26 = .ok (.i2l, 1) := by decide +kernel
theorem d_1_21_27 : decode prog_1_method_21_code 27 = .ok (.bipush 8, 2) := by decide +kernel
theorem d_1_21_29 : decode prog_1_method_21_code 29 = .ok (.iload 4, 2) := by decide +kernel
theorem d_1_21_31 : decode prog_1_method_21_code 31 = .ok (.imul, 1) := by decide +kernel
theorem d_1_21_32 : decode prog_1_method_21_code 32 = .ok (.lshl, 1) := by decide +kernel
theorem d_1_21_33 : decode prog_1_method_21_code 33 = .ok (.lor, 1) := by decide +kernel
theorem d_1_21_34 : decode prog_1_method_21_code 34 = .ok (.lstore_n 2, 1) := by decide +kernel
theorem d_1_21_35 : decode prog_1_method_21_code 35 = .ok (.iinc 4 1, 3) := by decide +kernel
theorem d_1_21_38 : decode prog_1_method_21_code 38 = .ok (.goto (-33), 3) := by decide +kernel
def y_NH_paperAt : MethodName := ⟨"NumberHouse", "paperAt", "(I)J"⟩
def F_NH_paperAt_L5 (x2 : Int32) (t0_0 : Int32) (t1_0 : (Nat → Int64)) : Nat → Int32 → Int64 → Int64
  | 0, _, _ => default
  | fm + 1, lx8, lx9 => if (8 : Int32) ≤ lx8 then (lx9) else (F_NH_paperAt_L5 x2 t0_0 t1_0 fm (lx8 + 1 : Int32) (lx9 ||| ((((F_She_at_p (11008 : Int32) (1376 : Int32) (1000000 : Int32) ((x2.toInt64 : Int64) + (lx8.toInt64 : Int64) : Int64) t0_0 t1_0) : Int32).toInt64 : Int64) <<< ((8 * lx8 : Int32).toInt64 &&& 63) : Int64) : Int64))
def F_NH_paperAt (x2 : Int32) (t0_0 : Int32) (t1_0 : (Nat → Int64)) : Int64 := F_NH_paperAt_L5 x2 t0_0 t1_0 ((8 - (0 : Int32).toInt).toNat + 1) 0 0
set_option maxRecDepth 100000 in
set_option maxHeartbeats 4000000 in
theorem X_NH_paperAt (l : Launch) (D : va_G) (g : Nat → ClassId) (q : Nat → Nat) (ws : va_W) (x2 : Int32) (hI : q_I (nsh g q) q ws) (t0_0 : Int32) (hT0 : ws[3]? = (some (q 3, .inr (1, [.ref (q 4), .int 11008, .int t0_0])) : Option (Nat × va_E))) (t1_0 : (Nat → Int64)) (hT1 : ws[4]? = (some (q 4, .inl (g 1, (1376 : Int32).toNatClampNeg, .inr (.inl t1_0))) : Option (Nat × va_E))) : q_mL l y_NH_paperAt prog_1_method_21_code 5 2 0 0 D g [.ref (q 0), .int x2] ws (fun r u => ws = u ∧ r = (F_NH_paperAt x2 t0_0 t1_0)) := by
  intro sz
  refine q_into (by decide) (Nat.le_of_ble_eq_true rfl) ?_
  intro p e s m below meth c ls hsz C0 V hl
  have hx := C0.1
  have hb := C0.2.1
  obtain ⟨yy0_0, hh0, btt0_0⟩ := n_shO hI (n_h3 g q)
  obtain ⟨rfl⟩ : t0_0 = yy0_0 := by have z := Option.some.inj (hT0.symm.trans hh0); simpa using z
  replace btt0_0 : q_F (0 ≤ t0_0.toInt ∧ t0_0.toInt ≤ 1000000) := btt0_0
  have hl : lv_has ls 5 [(0, .ref (q 0)), (1, .int x2)] := hl
  refine lv_lconst (v := 0) hx hb d_1_21_0 (by decide) ?_
  refine lv_lstore_n (lv' := [(2, .long 0), (0, .ref (q 0)), (1, .int x2)]) hx hb d_1_21_1 rfl hl (by decide) rfl (fun ls hl => ?_)
  refine lv_iconst (v := 0) hx hb d_1_21_2 (by decide) ?_
  refine lv_istore (lv' := [(4, .int 0), (2, .long 0), (0, .ref (q 0)), (1, .int x2)]) hx hb d_1_21_3 hl (by decide) rfl (fun ls hl => ?_)
  refine q_loop (X := Int32 × Int64) (fun z H locs ls _ => q_F (0 ≤ z.1.toInt) ∧ q_F (z.1.toInt ≤ 8) ∧ q_Wd D g (va_A ws sz) s ws H locs ∧ lv_has ls 5 [(4, .int z.1), (2, .long z.2), (0, .ref (q 0)), (1, .int x2)] ∧ (∃ n, (8 - z.1.toInt).toNat < n ∧ F_NH_paperAt_L5 x2 t0_0 t1_0 n z.1 z.2 = (F_NH_paperAt x2 t0_0 t1_0))) (fun z => (8 - z.1.toInt).toNat) ?_ ((0 : Int32), (0 : Int64)) _ _ _ ws ⟨(show q_F (0 ≤ 0) from (show 0 ≤ 0 from by omega)), (show q_F (0 ≤ 8) from (show 0 ≤ 8 from by omega)), V, q_lw hl (q_lw1 0 rfl (q_lw1 1 rfl (q_lw1 2 rfl (q_lw1 3 rfl q_lw0)))), ⟨((8 - (0 : Int32).toInt).toNat + 1), Nat.lt_succ_self _, (show F_NH_paperAt_L5 x2 t0_0 t1_0 ((8 - (0 : Int32).toInt).toNat + 1) 0 0 = (F_NH_paperAt x2 t0_0 t1_0) from (by rw [F_NH_paperAt.eq_1]))⟩⟩
  rintro ⟨lx8, lx9⟩ H locs ls _ ⟨i10, i11, V, hl, ⟨fu15, hf16, hR13⟩⟩ ih12
  obtain ⟨fm17, rfl⟩ : ∃ m, fu15 = m + 1 := ⟨fu15 - 1, by omega⟩
  replace i10 : q_F (0 ≤ lx8.toInt) := i10
  replace i11 : q_F (lx8.toInt ≤ 8) := i11
  replace hl : lv_has ls 5 [(4, .int lx8), (2, .long lx9), (0, .ref (q 0)), (1, .int x2)] := hl
  refine lv_iload hx hb d_1_21_5 (lv_at hl 0 rfl) ?_
  refine lv_bipush (v := 8) hx hb d_1_21_7 (by decide) ?_
  refine lv_icmp_ge (tgt := 41) hx hb d_1_21_9 (by decide) (fun c18 => ?_) (fun c18 => ?_)
  ·
    have b19 : q_F (8 ≤ lx8.toInt) := (q_leI c18)
    refine lv_lload_n hx hb d_1_21_41 rfl (lv_at hl 1 rfl) ?_
    exact q_retl C0 V (⟨rfl, (show lx9 = (F_NH_paperAt x2 t0_0 t1_0) from Eq.trans (by rw [F_NH_paperAt_L5.eq_2, if_pos c18]) hR13)⟩) d_1_21_42
  ·
    have b20 : q_F (lx8.toInt < 8) := (q_nleI c18)
    refine lv_lload_n hx hb d_1_21_12 rfl (lv_at hl 1 rfl) ?_
    refine lv_aload_n hx hb d_1_21_13 rfl (lv_at hl 2 rfl) ?_
    have hO21 := n_o0 hI
    refine q_get (ci := 0) (j := 1) (v := .ref (q 3)) C0 V i_NH rfl rfl hO21 (by decide) w_425 rfl d_1_21_14 ?_
    refine lv_iload_n hx hb d_1_21_17 rfl (lv_at hl 3 rfl) ?_
    refine lv_i2l hx hb d_1_21_18 rfl ?_
    obtain ⟨j22, e23⟩ := q_nm (x2.toInt64 : Int64)
    refine q_tl (v := j22) e23 ?_
    have b24 : q_F (j22.toInt = x2.toInt) := (by rw [← e23]; show (x2.toInt64 : Int64).toInt = x2.toInt; exact q_i2l rfl)
    refine lv_iload hx hb d_1_21_19 (lv_at hl 0 rfl) ?_
    refine lv_i2l hx hb d_1_21_21 rfl ?_
    obtain ⟨j25, e26⟩ := q_nm (lx8.toInt64 : Int64)
    refine q_tl (v := j25) e26 ?_
    have b27 : q_F (j25.toInt = lx8.toInt) := (by rw [← e26]; show (lx8.toInt64 : Int64).toInt = lx8.toInt; exact q_i2l rfl)
    refine lv_ladd hx hb d_1_21_22 ?_
    obtain ⟨j28, e29⟩ := q_nm (j22 + j25 : Int64)
    refine q_tl (v := j28) e29 ?_
    have b30 : q_F (j28.toInt = j22.toInt + j25.toInt) := (by rw [← e29]; show (j22 + j25 : Int64).toInt = j22.toInt + j25.toInt; exact q_addL (x := j22.toInt) (y := j25.toInt) rfl rfl (by have t1 : j22.toInt = x2.toInt := b24; have t2 : j25.toInt = lx8.toInt := b27; have _ := q_lo32 (x := lx8); have _ := q_hi32 (x := lx8); have _ := q_lo32 (x := x2); have _ := q_hi32 (x := x2); omega) (by have t1 : j22.toInt = x2.toInt := b24; have t2 : j25.toInt = lx8.toInt := b27; have _ := q_lo32 (x := lx8); have _ := q_hi32 (x := lx8); have _ := q_lo32 (x := x2); have _ := q_hi32 (x := x2); omega))
    refine q_goi V (q_runV (As := [.long j28]) (rest := [.long lx9]) (d := 1) (mc := 0) (ms := 0) (ci := 1) C0 V rfl LV_NH_366 (X_She_at_p l D g q ws 3 11008 1376 1000000 (n_h3 g q) j28 hI t0_0 hT0 t1_0 hT1  _) rfl rfl hT0 rfl hl.1 rfl (Nat.le_of_ble_eq_true rfl) ⟨by decide, by decide⟩ ⟨Nat.le_of_ble_eq_true rfl, Nat.le_of_ble_eq_true rfl⟩ d_1_21_23) (fun a33 u31 H locs hp32 V => ?_)
    obtain ⟨rfl, b34, b35, b36, hE37⟩ := hp32
    have e38 : a33 = (F_She_at_p (11008 : Int32) (1376 : Int32) (1000000 : Int32) j28 t0_0 t1_0) := hE37
    replace b34 : q_F (0 ≤ a33.toInt) := b34
    replace b35 : q_F (a33.toInt ≤ 255) := b35
    replace b36 : q_F (a33.toInt ≤ t0_0.toInt + 254) := b36
    refine lv_i2l hx hb d_1_21_26 rfl ?_
    obtain ⟨j39, e40⟩ := q_nm (a33.toInt64 : Int64)
    refine q_tl (v := j39) e40 ?_
    have b41 : q_F (j39.toInt = a33.toInt) := (by rw [← e40]; show (a33.toInt64 : Int64).toInt = a33.toInt; exact q_i2l rfl)
    refine lv_bipush (v := 8) hx hb d_1_21_27 (by decide) ?_
    refine lv_iload hx hb d_1_21_29 (lv_at hl 0 rfl) ?_
    refine lv_imul hx hb d_1_21_31 ?_
    obtain ⟨a42, e43⟩ := q_nm (8 * lx8 : Int32)
    refine q_ti (v := a42) e43 ?_
    have b44 : q_F (a42.toInt = 8 * lx8.toInt) := (by rw [← e43]; show (8 * lx8 : Int32).toInt = 8 * lx8.toInt; exact q_mulI (x := 8) (y := lx8.toInt) (by decide) rfl (by have t1 : 0 ≤ lx8.toInt := i10; have t2 : lx8.toInt ≤ 8 := i11; omega) (by have t1 : 0 ≤ lx8.toInt := i10; have t2 : lx8.toInt ≤ 8 := i11; omega))
    refine lv_lshl hx hb d_1_21_32 rfl ?_
    obtain ⟨j45, e46⟩ := q_nm (j39 <<< (a42.toInt64 &&& 63) : Int64)
    refine q_tl (v := j45) e46 ?_
    refine lv_lor hx hb d_1_21_33 ?_
    obtain ⟨j47, e48⟩ := q_nm (lx9 ||| j45 : Int64)
    refine q_tl (v := j47) e48 ?_
    refine lv_lstore_n (lv' := [(2, .long j47), (4, .int lx8), (0, .ref (q 0)), (1, .int x2)]) hx hb d_1_21_34 rfl hl (by decide) rfl (fun ls hl => ?_)
    obtain ⟨a49, e50⟩ := q_nm (lx8 + 1 : Int32)
    have b51 : q_F (a49.toInt = lx8.toInt + 1) := (by rw [← e50]; exact q_addI (y := 1) rfl (by decide) (by have t1 : 0 ≤ lx8.toInt := i10; have t2 : lx8.toInt ≤ 8 := i11; omega) (by have t1 : 0 ≤ lx8.toInt := i10; have t2 : lx8.toInt ≤ 8 := i11; omega))
    refine lv_iinc (v := a49) (lv' := [(4, .int a49), (2, .long j47), (0, .ref (q 0)), (1, .int x2)]) hx hb d_1_21_35 hl (k := 1) rfl (e50) (by decide) rfl (fun ls hl => ?_)
    refine lv_goto (tgt := 5) hx hb d_1_21_38 (by decide) ?_
    exact ih12 ((a49 : Int32), (j47 : Int64)) _ _ _ ws (show (8 - a49.toInt).toNat < (8 - lx8.toInt).toNat from by have t1 : a49.toInt = lx8.toInt + 1 := b51; have t2 : lx8.toInt ≤ 8 := i11; have t3 : lx8.toInt < 8 := b20; omega) ⟨(show q_F (0 ≤ a49.toInt) from (show 0 ≤ a49.toInt from by have t1 : 0 ≤ lx8.toInt := i10; have t2 : a49.toInt = lx8.toInt + 1 := b51; omega)), (show q_F (a49.toInt ≤ 8) from (show a49.toInt ≤ 8 from by have t1 : lx8.toInt < 8 := b20; have t2 : a49.toInt = lx8.toInt + 1 := b51; omega)), V, q_lw hl (q_lw1 0 rfl (q_lw1 1 rfl (q_lw1 2 rfl (q_lw1 3 rfl q_lw0)))), ⟨fm17, Nat.lt_of_lt_of_le (show (8 - a49.toInt).toNat < (8 - lx8.toInt).toNat from by have t1 : a49.toInt = lx8.toInt + 1 := b51; have t2 : lx8.toInt ≤ 8 := i11; have t3 : lx8.toInt < 8 := b20; omega) (Nat.le_of_lt_succ hf16), (show F_NH_paperAt_L5 x2 t0_0 t1_0 fm17 a49 j47 = (F_NH_paperAt x2 t0_0 t1_0) from Eq.trans (by rw [← e50, ← e48, ← e46, ← e43, ← e40, e38, ← e29, ← e26, ← e23, F_NH_paperAt_L5.eq_2, if_neg c18]) hR13)⟩⟩
